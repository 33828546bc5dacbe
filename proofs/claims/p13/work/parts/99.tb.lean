set_option maxHeartbeats 4000000 in
theorem jp_6 {r37 : Int32 → St → Option (Int32 × St)} {a1 a2 : Int32} {X0 : St} {n lo hi : Nat} {sc : Int} {s e : Nat} (hlo : lo ≤ n) (hhi : n < hi) (hse : s < e) (hs0 : OA X0 s 0 n) {p : Nat} (hl : n = lo) (hA : CHC (fun n lo hi sc s e => CX X0 n lo hi sc s e ∧ JP r37 a1 a2 X0 n lo hi sc s e) X0 23 n (n + 1) hi sc (s + 1) p) (hs1 : OA X0 p 9 (ix (X0.1 23 n))) (hs2 : OA X0 (p + 1) 20 n) (hee : e = p + 2) : JP r37 a1 a2 X0 n lo hi sc s e := by
  intro Z0 o0 d B t hX0 hw0 ho0 hea he24 hi31 hnn hd0 hnum n43_0 loc0 hval
  obtain ⟨u1, u2, u3, u4, u5, u6, u7⟩ := hnum
  have jr0 : JR Z0 Z0 (fun j => s ≤ j ∧ j < s) := JR.fr hX0.2.1 (Fr.rf (L := [])) (by decide) _
  have go0 : JGo r37 a1 a2 0 o0 o0 Z0 Z0 := JGo.rf
  have bel0 : ∀ j, j < d → Z0.1 58 j = Z0.1 58 j := fun _ _ => rfl
  have l59_0 : ∀ j : Nat, (j : Int) < sc → Z0.1 59 j = Z0.1 59 j := fun _ _ => rfl
  have hsc1 := loc0.2.1
  have hsc2 := loc0.2.2
  have bA := hA.2.1.bd
  have eA := ixc hA.1
  have eo0 : ix o0 = s := by
    have := ixc (z := o0) (by omega)
    omega
  have hop0 : (Z0.1 40 (ix o0)).toInt = 0 := by rw [eo0, hX0.1.1 40 s (show (8000 : Nat) ∉ [9, 10, 13, 15, 28, 30, 800, 1000, 1200, 1400, 1600, 1800, 2000, 6200, 6400, 8600, 10400, 10600, 10800, 11000, 11200, 11400, 11600, 11800] from by decide)]; exact hs0.1
  have qn0 : (Z0.1 41 s).toInt = ((n : Nat) : Int) := by rw [hX0.1.1 41 s (show (8200 : Nat) ∉ [9, 10, 13, 15, 28, 30, 800, 1000, 1200, 1400, 1600, 1800, 2000, 6200, 6400, 8600, 10400, 10600, 10800, 11000, 11200, 11400, 11600, 11800] from by decide)]; exact hs0.2
  have en0 : ix (Z0.1 41 s) = n := by
    have := ixc (z := Z0.1 41 s) (by omega)
    omega
  have inn0 : inR (Z0.1 41 s) 3100 := ⟨by omega, show (Z0.1 41 s).toInt < ((3100 : Nat) : Int) by omega⟩
  have ino0 : inR o0 24000 := ⟨by omega, show o0.toInt < ((24000 : Nat) : Int) by omega⟩
  obtain ⟨o1, Z1, ho1, gs1, eZ1⟩ := jstep (r37 := r37) (a1 := a1) (a2 := a2) (s := s) (o := o0) ho0 (by omega) (by omega) hw0 (one_0 hX0.2.1 (by omega) (by omega) ⟨by omega, by omega⟩ hX0.2.2.2.2.2.2 hw0 ino0 hop0)
  have hX1 : JX X0 Z1 := by rw [← eZ1]; exact hX0
  have hw1 : (Z1.1 0 9).toInt = 0 := by rw [← eZ1]; exact hw0
  have loc1 : LOC Z1 sc B t := by rw [← eZ1]; exact loc0
  have bel1 : ∀ j, j < d → Z1.1 58 j = Z0.1 58 j := fun j _ => by rw [← eZ1]
  have l59_1 : ∀ j : Nat, (j : Int) < sc → Z1.1 59 j = Z0.1 59 j := fun j _ => by rw [← eZ1]
  have hd1 : (Z1.1 0 30).toInt = (d : Int) := by rw [← eZ1]; exact hd0
  have go1 := go0.tr gs1
  have jr1 : JR Z0 Z1 (fun j => s ≤ j ∧ j < (s + 1)) := by rw [← eZ1]; exact jr0.mono (fun j (q : s ≤ j ∧ j < s) => (⟨by omega, by omega⟩ : s ≤ j ∧ j < s + 1))
  have n43_1 : ∀ j, (s + 1) ≤ j → j < e → (Z1.1 43 j).toInt = -1 := fun j q1 q2 => by rw [← eZ1]; exact n43_0 j (by omega) q2
  have nq1 : (Z1.1 0 13).toInt = (Z0.1 0 13).toInt ∧ (Z1.1 0 15).toInt = (Z0.1 0 15).toInt ∧ (Z1.1 0 28).toInt = (Z0.1 0 28).toInt := by rw [← eZ1]; exact ⟨rfl, rfl, rfl⟩
  have oz1 : OA Z1 s 0 n := ⟨by rw [hX1.1.1 40 s (show (8000 : Nat) ∉ [9, 10, 13, 15, 28, 30, 800, 1000, 1200, 1400, 1600, 1800, 2000, 6200, 6400, 8600, 10400, 10600, 10800, 11000, 11200, 11400, 11600, 11800] from by decide)]; exact hs0.1, by rw [hX1.1.1 41 s (show (8200 : Nat) ∉ [9, 10, 13, 15, 28, 30, 800, 1000, 1200, 1400, 1600, 1800, 2000, 6200, 6400, 8600, 10400, 10600, 10800, 11000, 11200, 11400, 11600, 11800] from by decide)]; exact hs0.2⟩
  have sg1 : SEG Z1 s (s + 1) t (exn t (f3 0 0 0) 0) := SEG.step (hval.kx jr1.2.2.1) oz1 (by omega) exn_zero
  obtain ⟨cc2, o2, Z2, gs2, b2, js2, ns2, ps2⟩ := hA.2.2 Z1 o1 (d + 0) B (exn t (f3 0 0 0) 0) hX1 hw1 ho1 (by omega) (by omega) (by omega) (by omega) (by omega) (by omega) (fun j q1 q2 => n43_1 j q1 (by omega)) ⟨loc1.1, hsc1, hsc2⟩ ((hval.kx jr1.2.2.1).exn (VK3 (by decide) (fun h => absurd h (by decide)) (fun h => absurd h (by decide)) (fun h => absurd h (by decide))))
  have mg2 := js2.2.2.2.1.1
  have mk2 := js2.2.2.1.1
  have hX2 := hX1.jr js2
  have go2 := go1.tr gs2
  have jr2 : JR Z0 Z2 (fun j => s ≤ j ∧ j < p) := (jr1.mono (fun j (q : s ≤ j ∧ j < (s + 1)) => (⟨by omega, by omega⟩ : s ≤ j ∧ j < p))).tr (js2.mono (fun j (q : (s + 1) ≤ j ∧ j < p) => (⟨by omega, by omega⟩ : s ≤ j ∧ j < p)))
  by_cases hw2 : (Z2.1 0 9).toInt = 0
  rotate_left
  · exact ⟨_, o2, Z2, go2, by omega, jr2.mono (fun j (q : s ≤ j ∧ j < p) => (⟨by omega, by omega⟩ : s ≤ j ∧ j < e)), ⟨by omega, by omega, by omega⟩, fun q => absurd q hw2⟩
  obtain ⟨ho2, hd2, h58_2, h59_2, w2_0, y2_0, sc2⟩ := ps2 hw2
  have kp2 : ∀ j, j < d + 0 → Z2.1 58 j = Z1.1 58 j := fun j hj => h58_2 j (by omega)
  have bel2 : ∀ j, j < d → Z2.1 58 j = Z0.1 58 j := fun j hj => (kp2 j (by omega)).trans (bel1 j hj)
  have k59_2 : ∀ j : Nat, (j : Int) < sc → Z2.1 59 j = Z1.1 59 j := fun j hj => h59_2 j hj
  have l59_2 : ∀ j : Nat, (j : Int) < sc → Z2.1 59 j = Z0.1 59 j := fun j hj => (k59_2 j hj).trans (l59_1 j hj)
  have loc2 : LOC Z2 sc B t := loc1.jr hX1.2.1 js2 k59_2
  have n43_2 : ∀ j, p ≤ j → j < e → (Z2.1 43 j).toInt = -1 := fun j q1 q2 => by rw [js2.2.2.2.2 j (fun (q : (s + 1) ≤ j ∧ j < p) => by omega)]; exact n43_1 j (by omega) q2
  obtain ⟨kA, qkA⟩ : ∃ x, x = Z2.1 58 (d + 0) := ⟨_, rfl⟩
  rw [← qkA] at w2_0 y2_0 sc2
  have c2_0 : Z2.1 58 (d + 0) = kA := qkA.symm
  have v2_0 : VK Z2 kA := w2_0
  have z2_0 := y2_0
  have sp2 : SEG Z2 (s + 1) p (exn t (f3 0 0 0) 0) (exn t (f3 kA 0 0) 1) := sc2.to (exn_psh0 (fun j hj => by rcases j with _ | _ | _ | j <;> first | rfl | omega) rfl)
  have sg2 := (sg1.jr hX1.2.1 js2 (fun j q1 q2 (q : (s + 1) ≤ j ∧ j < p) => by omega)).tr sp2
  have eo2 : ix o2 = p := by
    have := ixc (z := o2) (by omega)
    omega
  have hop2 : (Z2.1 40 (ix o2)).toInt = 9 := by rw [eo2, hX2.1.1 40 p (show (8000 : Nat) ∉ [9, 10, 13, 15, 28, 30, 800, 1000, 1200, 1400, 1600, 1800, 2000, 6200, 6400, 8600, 10400, 10600, 10800, 11000, 11200, 11400, 11600, 11800] from by decide)]; exact hs1.1
  have qn2 : (Z2.1 41 p).toInt = (((ix (X0.1 23 n)) : Nat) : Int) := by rw [hX2.1.1 41 p (show (8200 : Nat) ∉ [9, 10, 13, 15, 28, 30, 800, 1000, 1200, 1400, 1600, 1800, 2000, 6200, 6400, 8600, 10400, 10600, 10800, 11000, 11200, 11400, 11600, 11800] from by decide)]; exact hs1.2
  have en2 : ix (Z2.1 41 p) = (ix (X0.1 23 n)) := by
    have := ixc (z := Z2.1 41 p) (by omega)
    omega
  have inn2 : inR (Z2.1 41 p) 3100 := ⟨by omega, show (Z2.1 41 p).toInt < ((3100 : Nat) : Int) by omega⟩
  have ino2 : inR o2 24000 := ⟨by omega, show o2.toInt < ((24000 : Nat) : Int) by omega⟩
  obtain ⟨o3, Z3, ho3, gs3, js3, ns3, ps3⟩ := jstep (r37 := r37) (a1 := a1) (a2 := a2) (s := p) (o := o2) (by omega) (by omega) (by omega) hw2 (one_9 hX2.2.1 (by omega) (by omega) ⟨by omega, by omega⟩ hX2.2.2.2.2.2.2 hw2 ino2 hop2 (d := d + 0) (by omega) (by omega) (by rw [c2_0]; exact v2_0) (by rw [eo2]; exact n43_2 _ (Nat.le_refl _) (by omega)) inn2 hX2.2.2.1)
  have mg3 := js3.2.2.2.1.1
  have mk3 := js3.2.2.1.1
  have hX3 := hX2.jr js3
  have go3 := go2.tr gs3
  have jr3 : JR Z0 Z3 (fun j => s ≤ j ∧ j < (p + 1)) := (jr2.mono (fun j (q : s ≤ j ∧ j < p) => (⟨by omega, by omega⟩ : s ≤ j ∧ j < (p + 1)))).tr (js3.mono (fun j (q : j = ix o2) => (⟨by omega, by omega⟩ : s ≤ j ∧ j < (p + 1))))
  by_cases hw3 : (Z3.1 0 9).toInt = 0
  rotate_left
  · exact ⟨_, o3, Z3, go3, by omega, jr3.mono (fun j (q : s ≤ j ∧ j < (p + 1)) => (⟨by omega, by omega⟩ : s ≤ j ∧ j < e)), ⟨by omega, by omega, by omega⟩, fun q => absurd q hw3⟩
  obtain ⟨hd3, ⟨kR, elkR, ce3, rkkR, gr3, vekR, sz3⟩, h58_3, h59_3⟩ := ps3 hw3
  have kp3 : ∀ j, j < d + 0 → Z3.1 58 j = Z2.1 58 j := fun j hj => h58_3 j (by omega)
  have bel3 : ∀ j, j < d → Z3.1 58 j = Z0.1 58 j := fun j hj => (kp3 j (by omega)).trans (bel2 j hj)
  have k59_3 : ∀ j : Nat, (j : Int) < sc → Z3.1 59 j = Z2.1 59 j := fun j hj => h59_3 j
  have l59_3 : ∀ j : Nat, (j : Int) < sc → Z3.1 59 j = Z0.1 59 j := fun j hj => (k59_3 j hj).trans (l59_2 j hj)
  have loc3 : LOC Z3 sc B t := loc2.jr hX2.2.1 js3 k59_3
  have n43_3 : ∀ j, (p + 1) ≤ j → j < e → (Z3.1 43 j).toInt = -1 := fun j q1 q2 => by rw [js3.2.2.2.2 j (fun (q : j = ix o2) => by omega)]; exact n43_2 j (by omega) q2
  have c3_0 : Z3.1 58 (d + 0) = kR := ce3
  have v3_0 : VK Z3 kR := ⟨rkkR.1, rkkR.2.1⟩
  have z3_0 : ksz Z3 (ix kR) ≤ ksz Z2 (ix kA) + 1 := by
    rcases sz3 with q | q
    · rw [c2_0] at q
      rw [q, ksz_kx hX2.2.1 hX3.2.1 js3.2.2.1 _ (by have := ixc v2_0.1; have := v2_0.2; omega)]
      omega
    · have h1 := ixc v2_0.1
      have h2 := v2_0.2
      have h3 := kszp hX2.2.1 (k := ix kA) (by omega)
      omega
  have oz3 : OA Z3 p 9 (ix (X0.1 23 n)) := ⟨by rw [hX3.1.1 40 p (show (8000 : Nat) ∉ [9, 10, 13, 15, 28, 30, 800, 1000, 1200, 1400, 1600, 1800, 2000, 6200, 6400, 8600, 10400, 10600, 10800, 11000, 11200, 11400, 11600, 11800] from by decide)]; exact hs1.1, by rw [hX3.1.1 41 p (show (8200 : Nat) ∉ [9, 10, 13, 15, 28, 30, 800, 1000, 1200, 1400, 1600, 1800, 2000, 6200, 6400, 8600, 10400, 10600, 10800, 11000, 11200, 11400, 11600, 11800] from by decide)]; exact hs1.2⟩
  have sp3 : SEG Z3 p (p + 1) (exn t (f3 kA 0 0) 1) (exn t (f3 kR 0 0) 1) := SEG.gd1 (m := 0) ((hval.kx jr3.2.2.1).exn (VK3 (by decide) (fun _ => (v2_0.kx js3.2.2.1)) (fun h => absurd h (by decide)) (fun h => absurd h (by decide)))) oz3 (by omega) (by decide) (by have q := gr3; rw [eo2, c2_0] at q; exact q) v3_0 (fun j hj => by rcases j with _ | _ | _ | j <;> first | rfl | omega) rfl
  have sg3 := (sg2.jr hX2.2.1 js3 (fun j q1 q2 (q : j = ix o2) => by omega)).tr sp3
  have eo3 : ix o3 = (p + 1) := by
    have := ixc (z := o3) (by omega)
    omega
  have hop3 : (Z3.1 40 (ix o3)).toInt = 20 := by rw [eo3, hX3.1.1 40 (p + 1) (show (8000 : Nat) ∉ [9, 10, 13, 15, 28, 30, 800, 1000, 1200, 1400, 1600, 1800, 2000, 6200, 6400, 8600, 10400, 10600, 10800, 11000, 11200, 11400, 11600, 11800] from by decide)]; exact hs2.1
  have qn3 : (Z3.1 41 (p + 1)).toInt = ((n : Nat) : Int) := by rw [hX3.1.1 41 (p + 1) (show (8200 : Nat) ∉ [9, 10, 13, 15, 28, 30, 800, 1000, 1200, 1400, 1600, 1800, 2000, 6200, 6400, 8600, 10400, 10600, 10800, 11000, 11200, 11400, 11600, 11800] from by decide)]; exact hs2.2
  have en3 : ix (Z3.1 41 (p + 1)) = n := by
    have := ixc (z := Z3.1 41 (p + 1)) (by omega)
    omega
  have inn3 : inR (Z3.1 41 (p + 1)) 3100 := ⟨by omega, show (Z3.1 41 (p + 1)).toInt < ((3100 : Nat) : Int) by omega⟩
  have ino3 : inR o3 24000 := ⟨by omega, show o3.toInt < ((24000 : Nat) : Int) by omega⟩
  obtain ⟨o4, Z4, ho4, gs4, js4, ns4, ps4⟩ := jstep (r37 := r37) (a1 := a1) (a2 := a2) (s := (p + 1)) (o := o3) (by omega) (by omega) (by omega) hw3 (one_20 hX3.2.1 (by omega) (by omega) ⟨by omega, by omega⟩ hX3.2.2.2.2.2.2 hw3 ino3 hop3 (d := d + 0) (by omega) (by omega))
  have mg4 := js4.2.2.2.1.1
  have mk4 := js4.2.2.1.1
  have hX4 := hX3.jr js4
  have go4 := go3.tr gs4
  have jr4 : JR Z0 Z4 (fun j => s ≤ j ∧ j < ((p + 1) + 1)) := (jr3.mono (fun j (q : s ≤ j ∧ j < (p + 1)) => (⟨by omega, by omega⟩ : s ≤ j ∧ j < ((p + 1) + 1)))).tr (js4.mono (fun j (q : False) => q.elim))
  by_cases hw4 : (Z4.1 0 9).toInt = 0
  rotate_left
  · exact ⟨_, o4, Z4, go4, by omega, jr4.mono (fun j (q : s ≤ j ∧ j < ((p + 1) + 1)) => (⟨by omega, by omega⟩ : s ≤ j ∧ j < e)), ⟨by omega, by omega, by omega⟩, fun q => absurd q hw4⟩
  obtain ⟨hd4, ce4, h58_4, h59_4⟩ := ps4 hw4
  have kp4 : ∀ j, j < d + 0 → Z4.1 58 j = Z3.1 58 j := fun j hj => h58_4 j (by omega)
  have bel4 : ∀ j, j < d → Z4.1 58 j = Z0.1 58 j := fun j hj => (kp4 j (by omega)).trans (bel3 j hj)
  have k59_4 : ∀ j : Nat, (j : Int) < sc → Z4.1 59 j = Z3.1 59 j := fun j hj => h59_4 j
  have l59_4 : ∀ j : Nat, (j : Int) < sc → Z4.1 59 j = Z0.1 59 j := fun j hj => (k59_4 j hj).trans (l59_3 j hj)
  have loc4 : LOC Z4 sc B t := loc3.jr hX3.2.1 js4 k59_4
  have n43_4 : ∀ j, ((p + 1) + 1) ≤ j → j < e → (Z4.1 43 j).toInt = -1 := fun j q1 q2 => by rw [js4.2.2.2.2 j (fun (q : False) => q)]; exact n43_3 j (by omega) q2
  have c4_0 : Z4.1 58 (d + 0) = 0 := ce4
  have v4_0 : VK Z4 0 := ⟨by decide, by have := hX4.2.2.1.1; have z : (0 : Int32).toInt = 0 := rfl; omega⟩
  have z4_0 : ksz Z4 (ix 0) = 1 := hX4.2.2.1.sz hX4.2.1 (k := 0) (by decide)
  have oz4 : OA Z4 (p + 1) 20 n := ⟨by rw [hX4.1.1 40 (p + 1) (show (8000 : Nat) ∉ [9, 10, 13, 15, 28, 30, 800, 1000, 1200, 1400, 1600, 1800, 2000, 6200, 6400, 8600, 10400, 10600, 10800, 11000, 11200, 11400, 11600, 11800] from by decide)]; exact hs2.1, by rw [hX4.1.1 41 (p + 1) (show (8200 : Nat) ∉ [9, 10, 13, 15, 28, 30, 800, 1000, 1200, 1400, 1600, 1800, 2000, 6200, 6400, 8600, 10400, 10600, 10800, 11000, 11200, 11400, 11600, 11800] from by decide)]; exact hs2.2⟩
  have sp4 : SEG Z4 (p + 1) ((p + 1) + 1) (exn t (f3 kR 0 0) 1) (exn t (f3 0 0 0) 1) := SEG.un (op := 20) ((hval.kx jr4.2.2.1).exn (VK3 (by decide) (fun _ => (v3_0.kx js4.2.2.1)) (fun h => absurd h (by decide)) (fun h => absurd h (by decide)))) oz4 (by omega) (Or.inl ⟨rfl, elkR, by rw [exn_tp (by decide)]; exact rkkR.kx hX3.2.1 js4.2.2.1⟩) (by show 1 ≤ t.1 + 1; omega) (exn_psh (i := 1) (by decide) (fun j hj => by rcases j with _ | _ | _ | j <;> first | rfl | omega) rfl)
  have sg4 := (sg3.jr hX3.2.1 js4 (fun j q1 q2 (q : False) => q)).tr sp4
  refine ⟨_, o4, Z4, go4, by omega, jr4.mono (fun j (q : s ≤ j ∧ j < ((p + 1) + 1)) => (⟨by omega, by omega⟩ : s ≤ j ∧ j < e)), ⟨by omega, by omega, by omega⟩, fun _ => ⟨by omega, by omega, bel4, l59_4, by rw [show Z4.1 58 d = 0 from c4_0]; exact v4_0, by rw [show Z4.1 58 d = 0 from c4_0]; omega, ?_⟩⟩
  rw [show Z4.1 58 d = 0 from c4_0]
  have qe : e = ((p + 1) + 1) := by omega
  rw [qe]
  exact sg4.to (exn_end rfl)
set_option maxHeartbeats 4000000 in
theorem jp_5 {r37 : Int32 → St → Option (Int32 × St)} {a1 a2 : Int32} {X0 : St} {n lo hi : Nat} {sc : Int} {s e : Nat} (hlo : lo ≤ n) (hhi : n < hi) (hse : s < e) (hs0 : OA X0 s 0 n) {mm p pb : Nat} (hl : n = lo) (hA : CHC (fun n lo hi sc s e => CX X0 n lo hi sc s e ∧ JP r37 a1 a2 X0 n lo hi sc s e) X0 23 n (n + 1) mm sc (s + 1) p) (hs1 : OA X0 p 5 (ix (X0.1 23 n))) (hB : CHC (fun n lo hi sc s e => CX X0 n lo hi sc s e ∧ JP r37 a1 a2 X0 n lo hi sc s e) X0 24 n mm hi sc (p + 1) pb) (hs2 : OA X0 pb 19 n) (hee : e = pb + 1) : JP r37 a1 a2 X0 n lo hi sc s e := by
  intro Z0 o0 d B t hX0 hw0 ho0 hea he24 hi31 hnn hd0 hnum n43_0 loc0 hval
  obtain ⟨u1, u2, u3, u4, u5, u6, u7⟩ := hnum
  have jr0 : JR Z0 Z0 (fun j => s ≤ j ∧ j < s) := JR.fr hX0.2.1 (Fr.rf (L := [])) (by decide) _
  have go0 : JGo r37 a1 a2 0 o0 o0 Z0 Z0 := JGo.rf
  have bel0 : ∀ j, j < d → Z0.1 58 j = Z0.1 58 j := fun _ _ => rfl
  have l59_0 : ∀ j : Nat, (j : Int) < sc → Z0.1 59 j = Z0.1 59 j := fun _ _ => rfl
  have hsc1 := loc0.2.1
  have hsc2 := loc0.2.2
  have bA := hA.2.1.bd
  have bB := hB.2.1.bd
  have eo0 : ix o0 = s := by
    have := ixc (z := o0) (by omega)
    omega
  have hop0 : (Z0.1 40 (ix o0)).toInt = 0 := by rw [eo0, hX0.1.1 40 s (show (8000 : Nat) ∉ [9, 10, 13, 15, 28, 30, 800, 1000, 1200, 1400, 1600, 1800, 2000, 6200, 6400, 8600, 10400, 10600, 10800, 11000, 11200, 11400, 11600, 11800] from by decide)]; exact hs0.1
  have qn0 : (Z0.1 41 s).toInt = ((n : Nat) : Int) := by rw [hX0.1.1 41 s (show (8200 : Nat) ∉ [9, 10, 13, 15, 28, 30, 800, 1000, 1200, 1400, 1600, 1800, 2000, 6200, 6400, 8600, 10400, 10600, 10800, 11000, 11200, 11400, 11600, 11800] from by decide)]; exact hs0.2
  have en0 : ix (Z0.1 41 s) = n := by
    have := ixc (z := Z0.1 41 s) (by omega)
    omega
  have inn0 : inR (Z0.1 41 s) 3100 := ⟨by omega, show (Z0.1 41 s).toInt < ((3100 : Nat) : Int) by omega⟩
  have ino0 : inR o0 24000 := ⟨by omega, show o0.toInt < ((24000 : Nat) : Int) by omega⟩
  obtain ⟨o1, Z1, ho1, gs1, eZ1⟩ := jstep (r37 := r37) (a1 := a1) (a2 := a2) (s := s) (o := o0) ho0 (by omega) (by omega) hw0 (one_0 hX0.2.1 (by omega) (by omega) ⟨by omega, by omega⟩ hX0.2.2.2.2.2.2 hw0 ino0 hop0)
  have hX1 : JX X0 Z1 := by rw [← eZ1]; exact hX0
  have hw1 : (Z1.1 0 9).toInt = 0 := by rw [← eZ1]; exact hw0
  have loc1 : LOC Z1 sc B t := by rw [← eZ1]; exact loc0
  have bel1 : ∀ j, j < d → Z1.1 58 j = Z0.1 58 j := fun j _ => by rw [← eZ1]
  have l59_1 : ∀ j : Nat, (j : Int) < sc → Z1.1 59 j = Z0.1 59 j := fun j _ => by rw [← eZ1]
  have hd1 : (Z1.1 0 30).toInt = (d : Int) := by rw [← eZ1]; exact hd0
  have go1 := go0.tr gs1
  have jr1 : JR Z0 Z1 (fun j => s ≤ j ∧ j < (s + 1)) := by rw [← eZ1]; exact jr0.mono (fun j (q : s ≤ j ∧ j < s) => (⟨by omega, by omega⟩ : s ≤ j ∧ j < s + 1))
  have n43_1 : ∀ j, (s + 1) ≤ j → j < e → (Z1.1 43 j).toInt = -1 := fun j q1 q2 => by rw [← eZ1]; exact n43_0 j (by omega) q2
  have nq1 : (Z1.1 0 13).toInt = (Z0.1 0 13).toInt ∧ (Z1.1 0 15).toInt = (Z0.1 0 15).toInt ∧ (Z1.1 0 28).toInt = (Z0.1 0 28).toInt := by rw [← eZ1]; exact ⟨rfl, rfl, rfl⟩
  have oz1 : OA Z1 s 0 n := ⟨by rw [hX1.1.1 40 s (show (8000 : Nat) ∉ [9, 10, 13, 15, 28, 30, 800, 1000, 1200, 1400, 1600, 1800, 2000, 6200, 6400, 8600, 10400, 10600, 10800, 11000, 11200, 11400, 11600, 11800] from by decide)]; exact hs0.1, by rw [hX1.1.1 41 s (show (8200 : Nat) ∉ [9, 10, 13, 15, 28, 30, 800, 1000, 1200, 1400, 1600, 1800, 2000, 6200, 6400, 8600, 10400, 10600, 10800, 11000, 11200, 11400, 11600, 11800] from by decide)]; exact hs0.2⟩
  have sg1 : SEG Z1 s (s + 1) t (exn t (f3 0 0 0) 0) := SEG.step (hval.kx jr1.2.2.1) oz1 (by omega) exn_zero
  obtain ⟨cc2, o2, Z2, gs2, b2, js2, ns2, ps2⟩ := hA.2.2 Z1 o1 (d + 0) B (exn t (f3 0 0 0) 0) hX1 hw1 ho1 (by omega) (by omega) (by omega) (by omega) (by omega) (by omega) (fun j q1 q2 => n43_1 j q1 (by omega)) ⟨loc1.1, hsc1, hsc2⟩ ((hval.kx jr1.2.2.1).exn (VK3 (by decide) (fun h => absurd h (by decide)) (fun h => absurd h (by decide)) (fun h => absurd h (by decide))))
  have mg2 := js2.2.2.2.1.1
  have mk2 := js2.2.2.1.1
  have hX2 := hX1.jr js2
  have go2 := go1.tr gs2
  have jr2 : JR Z0 Z2 (fun j => s ≤ j ∧ j < p) := (jr1.mono (fun j (q : s ≤ j ∧ j < (s + 1)) => (⟨by omega, by omega⟩ : s ≤ j ∧ j < p))).tr (js2.mono (fun j (q : (s + 1) ≤ j ∧ j < p) => (⟨by omega, by omega⟩ : s ≤ j ∧ j < p)))
  by_cases hw2 : (Z2.1 0 9).toInt = 0
  rotate_left
  · exact ⟨_, o2, Z2, go2, by omega, jr2.mono (fun j (q : s ≤ j ∧ j < p) => (⟨by omega, by omega⟩ : s ≤ j ∧ j < e)), ⟨by omega, by omega, by omega⟩, fun q => absurd q hw2⟩
  obtain ⟨ho2, hd2, h58_2, h59_2, w2_0, y2_0, sc2⟩ := ps2 hw2
  have kp2 : ∀ j, j < d + 0 → Z2.1 58 j = Z1.1 58 j := fun j hj => h58_2 j (by omega)
  have bel2 : ∀ j, j < d → Z2.1 58 j = Z0.1 58 j := fun j hj => (kp2 j (by omega)).trans (bel1 j hj)
  have k59_2 : ∀ j : Nat, (j : Int) < sc → Z2.1 59 j = Z1.1 59 j := fun j hj => h59_2 j hj
  have l59_2 : ∀ j : Nat, (j : Int) < sc → Z2.1 59 j = Z0.1 59 j := fun j hj => (k59_2 j hj).trans (l59_1 j hj)
  have loc2 : LOC Z2 sc B t := loc1.jr hX1.2.1 js2 k59_2
  have n43_2 : ∀ j, p ≤ j → j < e → (Z2.1 43 j).toInt = -1 := fun j q1 q2 => by rw [js2.2.2.2.2 j (fun (q : (s + 1) ≤ j ∧ j < p) => by omega)]; exact n43_1 j (by omega) q2
  obtain ⟨kA, qkA⟩ : ∃ x, x = Z2.1 58 (d + 0) := ⟨_, rfl⟩
  rw [← qkA] at w2_0 y2_0 sc2
  have c2_0 : Z2.1 58 (d + 0) = kA := qkA.symm
  have v2_0 : VK Z2 kA := w2_0
  have z2_0 := y2_0
  have sp2 : SEG Z2 (s + 1) p (exn t (f3 0 0 0) 0) (exn t (f3 kA 0 0) 1) := sc2.to (exn_psh0 (fun j hj => by rcases j with _ | _ | _ | j <;> first | rfl | omega) rfl)
  have sg2 := (sg1.jr hX1.2.1 js2 (fun j q1 q2 (q : (s + 1) ≤ j ∧ j < p) => by omega)).tr sp2
  have eo2 : ix o2 = p := by
    have := ixc (z := o2) (by omega)
    omega
  have hop2 : (Z2.1 40 (ix o2)).toInt = 5 := by rw [eo2, hX2.1.1 40 p (show (8000 : Nat) ∉ [9, 10, 13, 15, 28, 30, 800, 1000, 1200, 1400, 1600, 1800, 2000, 6200, 6400, 8600, 10400, 10600, 10800, 11000, 11200, 11400, 11600, 11800] from by decide)]; exact hs1.1
  have qn2 : (Z2.1 41 p).toInt = (((ix (X0.1 23 n)) : Nat) : Int) := by rw [hX2.1.1 41 p (show (8200 : Nat) ∉ [9, 10, 13, 15, 28, 30, 800, 1000, 1200, 1400, 1600, 1800, 2000, 6200, 6400, 8600, 10400, 10600, 10800, 11000, 11200, 11400, 11600, 11800] from by decide)]; exact hs1.2
  have en2 : ix (Z2.1 41 p) = (ix (X0.1 23 n)) := by
    have := ixc (z := Z2.1 41 p) (by omega)
    omega
  have inn2 : inR (Z2.1 41 p) 3100 := ⟨by omega, show (Z2.1 41 p).toInt < ((3100 : Nat) : Int) by omega⟩
  have ino2 : inR o2 24000 := ⟨by omega, show o2.toInt < ((24000 : Nat) : Int) by omega⟩
  obtain ⟨o3, Z3, ho3, gs3, js3, ns3, ps3⟩ := jstep (r37 := r37) (a1 := a1) (a2 := a2) (s := p) (o := o2) (by omega) (by omega) (by omega) hw2 (one_5 hX2.2.1 (by omega) (by omega) ⟨by omega, by omega⟩ hX2.2.2.2.2.2.2 hw2 ino2 hop2 (d := d + 0) (by omega) (by omega) (by rw [c2_0]; exact v2_0) (by rw [eo2]; exact n43_2 _ (Nat.le_refl _) (by omega)) inn2 hX2.2.2.1)
  have mg3 := js3.2.2.2.1.1
  have mk3 := js3.2.2.1.1
  have hX3 := hX2.jr js3
  have go3 := go2.tr gs3
  have jr3 : JR Z0 Z3 (fun j => s ≤ j ∧ j < (p + 1)) := (jr2.mono (fun j (q : s ≤ j ∧ j < p) => (⟨by omega, by omega⟩ : s ≤ j ∧ j < (p + 1)))).tr (js3.mono (fun j (q : j = ix o2) => (⟨by omega, by omega⟩ : s ≤ j ∧ j < (p + 1))))
  by_cases hw3 : (Z3.1 0 9).toInt = 0
  rotate_left
  · exact ⟨_, o3, Z3, go3, by omega, jr3.mono (fun j (q : s ≤ j ∧ j < (p + 1)) => (⟨by omega, by omega⟩ : s ≤ j ∧ j < e)), ⟨by omega, by omega, by omega⟩, fun q => absurd q hw3⟩
  obtain ⟨hd3, ce3, h58_3, h59_3, gr3⟩ := ps3 hw3
  have kp3 : ∀ j, j < d + 0 → Z3.1 58 j = Z2.1 58 j := fun j hj => h58_3 j (by omega)
  have bel3 : ∀ j, j < d → Z3.1 58 j = Z0.1 58 j := fun j hj => (kp3 j (by omega)).trans (bel2 j hj)
  have k59_3 : ∀ j : Nat, (j : Int) < sc → Z3.1 59 j = Z2.1 59 j := fun j hj => h59_3 j
  have l59_3 : ∀ j : Nat, (j : Int) < sc → Z3.1 59 j = Z0.1 59 j := fun j hj => (k59_3 j hj).trans (l59_2 j hj)
  have loc3 : LOC Z3 sc B t := loc2.jr hX2.2.1 js3 k59_3
  have n43_3 : ∀ j, (p + 1) ≤ j → j < e → (Z3.1 43 j).toInt = -1 := fun j q1 q2 => by rw [js3.2.2.2.2 j (fun (q : j = ix o2) => by omega)]; exact n43_2 j (by omega) q2
  have c3_0 : Z3.1 58 (d + 0) = 0 := ce3
  have v3_0 : VK Z3 0 := ⟨by decide, by have := hX3.2.2.1.1; have z : (0 : Int32).toInt = 0 := rfl; omega⟩
  have z3_0 : ksz Z3 (ix 0) = 1 := hX3.2.2.1.sz hX3.2.1 (k := 0) (by decide)
  have oz3 : OA Z3 p 5 (ix (X0.1 23 n)) := ⟨by rw [hX3.1.1 40 p (show (8000 : Nat) ∉ [9, 10, 13, 15, 28, 30, 800, 1000, 1200, 1400, 1600, 1800, 2000, 6200, 6400, 8600, 10400, 10600, 10800, 11000, 11200, 11400, 11600, 11800] from by decide)]; exact hs1.1, by rw [hX3.1.1 41 p (show (8200 : Nat) ∉ [9, 10, 13, 15, 28, 30, 800, 1000, 1200, 1400, 1600, 1800, 2000, 6200, 6400, 8600, 10400, 10600, 10800, 11000, 11200, 11400, 11600, 11800] from by decide)]; exact hs1.2⟩
  have sp3 : SEG Z3 p (p + 1) (exn t (f3 kA 0 0) 1) (exn t (f3 0 0 0) 1) := SEG.gd1 (m := 0) ((hval.kx jr3.2.2.1).exn (VK3 (by decide) (fun _ => (v2_0.kx js3.2.2.1)) (fun h => absurd h (by decide)) (fun h => absurd h (by decide)))) oz3 (by omega) (by decide) (by have q := gr3; rw [eo2, c2_0] at q; exact q) v3_0 (fun j hj => by rcases j with _ | _ | _ | j <;> first | rfl | omega) rfl
  have sg3 := (sg2.jr hX2.2.1 js3 (fun j q1 q2 (q : j = ix o2) => by omega)).tr sp3
  obtain ⟨cc4, o4, Z4, gs4, b4, js4, ns4, ps4⟩ := hB.2.2 Z3 o3 (d + 1) B (exn t (f3 0 0 0) 1) hX3 hw3 ho3 (by omega) (by omega) (by omega) (by omega) (by omega) (by omega) (fun j q1 q2 => n43_3 j q1 (by omega)) ⟨loc3.1, hsc1, hsc2⟩ ((hval.kx jr3.2.2.1).exn (VK3 (by decide) (fun _ => v3_0) (fun h => absurd h (by decide)) (fun h => absurd h (by decide))))
  have mg4 := js4.2.2.2.1.1
  have mk4 := js4.2.2.1.1
  have hX4 := hX3.jr js4
  have go4 := go3.tr gs4
  have jr4 : JR Z0 Z4 (fun j => s ≤ j ∧ j < pb) := (jr3.mono (fun j (q : s ≤ j ∧ j < (p + 1)) => (⟨by omega, by omega⟩ : s ≤ j ∧ j < pb))).tr (js4.mono (fun j (q : (p + 1) ≤ j ∧ j < pb) => (⟨by omega, by omega⟩ : s ≤ j ∧ j < pb)))
  by_cases hw4 : (Z4.1 0 9).toInt = 0
  rotate_left
  · exact ⟨_, o4, Z4, go4, by omega, jr4.mono (fun j (q : s ≤ j ∧ j < pb) => (⟨by omega, by omega⟩ : s ≤ j ∧ j < e)), ⟨by omega, by omega, by omega⟩, fun q => absurd q hw4⟩
  obtain ⟨ho4, hd4, h58_4, h59_4, w4_1, y4_1, sc4⟩ := ps4 hw4
  have kp4 : ∀ j, j < d + 1 → Z4.1 58 j = Z3.1 58 j := fun j hj => h58_4 j (by omega)
  have bel4 : ∀ j, j < d → Z4.1 58 j = Z0.1 58 j := fun j hj => (kp4 j (by omega)).trans (bel3 j hj)
  have k59_4 : ∀ j : Nat, (j : Int) < sc → Z4.1 59 j = Z3.1 59 j := fun j hj => h59_4 j hj
  have l59_4 : ∀ j : Nat, (j : Int) < sc → Z4.1 59 j = Z0.1 59 j := fun j hj => (k59_4 j hj).trans (l59_3 j hj)
  have loc4 : LOC Z4 sc B t := loc3.jr hX3.2.1 js4 k59_4
  have n43_4 : ∀ j, pb ≤ j → j < e → (Z4.1 43 j).toInt = -1 := fun j q1 q2 => by rw [js4.2.2.2.2 j (fun (q : (p + 1) ≤ j ∧ j < pb) => by omega)]; exact n43_3 j (by omega) q2
  have c4_0 : Z4.1 58 (d + 0) = 0 := (kp4 (d + 0) (by omega)).trans c3_0
  have v4_0 : VK Z4 0 := v3_0.kx js4.2.2.1
  have z4_0 : ksz Z4 (ix 0) = ksz Z3 (ix 0) := ksz_kx hX3.2.1 hX4.2.1 js4.2.2.1 _ (by have := ixc v3_0.1; have := v3_0.2; omega)
  obtain ⟨kB, qkB⟩ : ∃ x, x = Z4.1 58 (d + 1) := ⟨_, rfl⟩
  rw [← qkB] at w4_1 y4_1 sc4
  have c4_1 : Z4.1 58 (d + 1) = kB := qkB.symm
  have v4_1 : VK Z4 kB := w4_1
  have z4_1 := y4_1
  have sp4 : SEG Z4 (p + 1) pb (exn t (f3 0 0 0) 1) (exn t (f3 0 kB 0) 2) := sc4.to (exn_psh0 (fun j hj => by rcases j with _ | _ | _ | j <;> first | rfl | omega) rfl)
  have sg4 := (sg3.jr hX3.2.1 js4 (fun j q1 q2 (q : (p + 1) ≤ j ∧ j < pb) => by omega)).tr sp4
  have eo4 : ix o4 = pb := by
    have := ixc (z := o4) (by omega)
    omega
  have hop4 : (Z4.1 40 (ix o4)).toInt = 19 := by rw [eo4, hX4.1.1 40 pb (show (8000 : Nat) ∉ [9, 10, 13, 15, 28, 30, 800, 1000, 1200, 1400, 1600, 1800, 2000, 6200, 6400, 8600, 10400, 10600, 10800, 11000, 11200, 11400, 11600, 11800] from by decide)]; exact hs2.1
  have qn4 : (Z4.1 41 pb).toInt = ((n : Nat) : Int) := by rw [hX4.1.1 41 pb (show (8200 : Nat) ∉ [9, 10, 13, 15, 28, 30, 800, 1000, 1200, 1400, 1600, 1800, 2000, 6200, 6400, 8600, 10400, 10600, 10800, 11000, 11200, 11400, 11600, 11800] from by decide)]; exact hs2.2
  have en4 : ix (Z4.1 41 pb) = n := by
    have := ixc (z := Z4.1 41 pb) (by omega)
    omega
  have inn4 : inR (Z4.1 41 pb) 3100 := ⟨by omega, show (Z4.1 41 pb).toInt < ((3100 : Nat) : Int) by omega⟩
  have ino4 : inR o4 24000 := ⟨by omega, show o4.toInt < ((24000 : Nat) : Int) by omega⟩
  obtain ⟨o5, Z5, ho5, gs5, js5, ns5, ps5⟩ := jstep (r37 := r37) (a1 := a1) (a2 := a2) (s := pb) (o := o4) (by omega) (by omega) (by omega) hw4 (one_19 hX4.2.1 (by omega) (by omega) ⟨by omega, by omega⟩ hX4.2.2.2.2.2.2 hw4 ino4 hop4 (d := d + 0) (by omega) (by omega) (by rw [show d + 0 + 1 = d + 1 from rfl, c4_1]; exact v4_1))
  have mg5 := js5.2.2.2.1.1
  have mk5 := js5.2.2.1.1
  have hX5 := hX4.jr js5
  have go5 := go4.tr gs5
  have jr5 : JR Z0 Z5 (fun j => s ≤ j ∧ j < (pb + 1)) := (jr4.mono (fun j (q : s ≤ j ∧ j < pb) => (⟨by omega, by omega⟩ : s ≤ j ∧ j < (pb + 1)))).tr (js5.mono (fun j (q : False) => q.elim))
  by_cases hw5 : (Z5.1 0 9).toInt = 0
  rotate_left
  · exact ⟨_, o5, Z5, go5, by omega, jr5.mono (fun j (q : s ≤ j ∧ j < (pb + 1)) => (⟨by omega, by omega⟩ : s ≤ j ∧ j < e)), ⟨by omega, by omega, by omega⟩, fun q => absurd q hw5⟩
  obtain ⟨hd5, ⟨rk, sz5⟩, h58_5, h59_5⟩ := ps5 hw5
  obtain ⟨kN, qkN⟩ : ∃ x, x = Z5.1 58 (d + 0) := ⟨_, rfl⟩
  rw [← qkN] at rk sz5
  rw [show d + 0 + 1 = d + 1 from rfl, c4_1] at rk sz5
  have kp5 : ∀ j, j < d + 0 → Z5.1 58 j = Z4.1 58 j := fun j hj => h58_5 j (by omega)
  have bel5 : ∀ j, j < d → Z5.1 58 j = Z0.1 58 j := fun j hj => (kp5 j (by omega)).trans (bel4 j hj)
  have k59_5 : ∀ j : Nat, (j : Int) < sc → Z5.1 59 j = Z4.1 59 j := fun j hj => h59_5 j
  have l59_5 : ∀ j : Nat, (j : Int) < sc → Z5.1 59 j = Z0.1 59 j := fun j hj => (k59_5 j hj).trans (l59_4 j hj)
  have loc5 : LOC Z5 sc B t := loc4.jr hX4.2.1 js5 k59_5
  have n43_5 : ∀ j, (pb + 1) ≤ j → j < e → (Z5.1 43 j).toInt = -1 := fun j q1 q2 => by rw [js5.2.2.2.2 j (fun (q : False) => q)]; exact n43_4 j (by omega) q2
  have c5_0 : Z5.1 58 (d + 0) = kN := qkN.symm
  have v5_0 : VK Z5 kN := ⟨rk.1, rk.2.1⟩
  have z5_0 : ksz Z5 (ix kN) = 1 + ksz Z4 (ix kB) := sz5
  have oz5 : OA Z5 pb 19 n := ⟨by rw [hX5.1.1 40 pb (show (8000 : Nat) ∉ [9, 10, 13, 15, 28, 30, 800, 1000, 1200, 1400, 1600, 1800, 2000, 6200, 6400, 8600, 10400, 10600, 10800, 11000, 11200, 11400, 11600, 11800] from by decide)]; exact hs2.1, by rw [hX5.1.1 41 pb (show (8200 : Nat) ∉ [9, 10, 13, 15, 28, 30, 800, 1000, 1200, 1400, 1600, 1800, 2000, 6200, 6400, 8600, 10400, 10600, 10800, 11000, 11200, 11400, 11600, 11800] from by decide)]; exact hs2.2⟩
  have sp5 : SEG Z5 pb (pb + 1) (exn t (f3 0 kB 0) 2) (exn t (f3 kN 0 0) 1) := SEG.new ((hval.kx jr5.2.2.1).exn (VK3 (by decide) (fun _ => (v4_0.kx js5.2.2.1)) (fun _ => (v4_1.kx js5.2.2.1)) (fun h => absurd h (by decide)))) oz5 (by omega) (by show 2 ≤ t.1 + 2; omega) (by rw [exn_tp (by decide)]; rfl) (by rw [exn_tp (by decide)]; exact rk) (exn_psh (i := 2) (by decide) (fun j hj => by rcases j with _ | _ | _ | j <;> first | rfl | omega) rfl)
  have sg5 := (sg4.jr hX4.2.1 js5 (fun j q1 q2 (q : False) => q)).tr sp5
  refine ⟨_, o5, Z5, go5, by omega, jr5.mono (fun j (q : s ≤ j ∧ j < (pb + 1)) => (⟨by omega, by omega⟩ : s ≤ j ∧ j < e)), ⟨by omega, by omega, by omega⟩, fun _ => ⟨by omega, by omega, bel5, l59_5, by rw [show Z5.1 58 d = kN from c5_0]; exact v5_0, by rw [show Z5.1 58 d = kN from c5_0]; omega, ?_⟩⟩
  rw [show Z5.1 58 d = kN from c5_0]
  have qe : e = (pb + 1) := by omega
  rw [qe]
  exact sg5.to (exn_end rfl)
set_option maxHeartbeats 4000000 in
theorem jp_10 {r37 : Int32 → St → Option (Int32 × St)} {a1 a2 : Int32} {X0 : St} {n lo hi : Nat} {sc : Int} {s e : Nat} (hlo : lo ≤ n) (hhi : n < hi) (hse : s < e) (hs0 : OA X0 s 0 n) {p pb : Nat} (hA : CHC (fun n lo hi sc s e => CX X0 n lo hi sc s e ∧ JP r37 a1 a2 X0 n lo hi sc s e) X0 23 n lo n sc (s + 1) p) (hs1 : OA X0 p 8 n) (hB : CHC (fun n lo hi sc s e => CX X0 n lo hi sc s e ∧ JP r37 a1 a2 X0 n lo hi sc s e) X0 24 n (n + 1) hi sc (p + 1) pb) (hs2 : OA X0 pb 5 (ix (X0.1 24 n))) (hs3 : OA X0 (pb + 1) 26 n) (hee : e = pb + 2) : JP r37 a1 a2 X0 n lo hi sc s e := by
  intro Z0 o0 d B t hX0 hw0 ho0 hea he24 hi31 hnn hd0 hnum n43_0 loc0 hval
  obtain ⟨u1, u2, u3, u4, u5, u6, u7⟩ := hnum
  have jr0 : JR Z0 Z0 (fun j => s ≤ j ∧ j < s) := JR.fr hX0.2.1 (Fr.rf (L := [])) (by decide) _
  have go0 : JGo r37 a1 a2 0 o0 o0 Z0 Z0 := JGo.rf
  have bel0 : ∀ j, j < d → Z0.1 58 j = Z0.1 58 j := fun _ _ => rfl
  have l59_0 : ∀ j : Nat, (j : Int) < sc → Z0.1 59 j = Z0.1 59 j := fun _ _ => rfl
  have hsc1 := loc0.2.1
  have hsc2 := loc0.2.2
  have bA := hA.2.1.bd
  have bB := hB.2.1.bd
  have eo0 : ix o0 = s := by
    have := ixc (z := o0) (by omega)
    omega
  have hop0 : (Z0.1 40 (ix o0)).toInt = 0 := by rw [eo0, hX0.1.1 40 s (show (8000 : Nat) ∉ [9, 10, 13, 15, 28, 30, 800, 1000, 1200, 1400, 1600, 1800, 2000, 6200, 6400, 8600, 10400, 10600, 10800, 11000, 11200, 11400, 11600, 11800] from by decide)]; exact hs0.1
  have qn0 : (Z0.1 41 s).toInt = ((n : Nat) : Int) := by rw [hX0.1.1 41 s (show (8200 : Nat) ∉ [9, 10, 13, 15, 28, 30, 800, 1000, 1200, 1400, 1600, 1800, 2000, 6200, 6400, 8600, 10400, 10600, 10800, 11000, 11200, 11400, 11600, 11800] from by decide)]; exact hs0.2
  have en0 : ix (Z0.1 41 s) = n := by
    have := ixc (z := Z0.1 41 s) (by omega)
    omega
  have inn0 : inR (Z0.1 41 s) 3100 := ⟨by omega, show (Z0.1 41 s).toInt < ((3100 : Nat) : Int) by omega⟩
  have ino0 : inR o0 24000 := ⟨by omega, show o0.toInt < ((24000 : Nat) : Int) by omega⟩
  obtain ⟨o1, Z1, ho1, gs1, eZ1⟩ := jstep (r37 := r37) (a1 := a1) (a2 := a2) (s := s) (o := o0) ho0 (by omega) (by omega) hw0 (one_0 hX0.2.1 (by omega) (by omega) ⟨by omega, by omega⟩ hX0.2.2.2.2.2.2 hw0 ino0 hop0)
  have hX1 : JX X0 Z1 := by rw [← eZ1]; exact hX0
  have hw1 : (Z1.1 0 9).toInt = 0 := by rw [← eZ1]; exact hw0
  have loc1 : LOC Z1 sc B t := by rw [← eZ1]; exact loc0
  have bel1 : ∀ j, j < d → Z1.1 58 j = Z0.1 58 j := fun j _ => by rw [← eZ1]
  have l59_1 : ∀ j : Nat, (j : Int) < sc → Z1.1 59 j = Z0.1 59 j := fun j _ => by rw [← eZ1]
  have hd1 : (Z1.1 0 30).toInt = (d : Int) := by rw [← eZ1]; exact hd0
  have go1 := go0.tr gs1
  have jr1 : JR Z0 Z1 (fun j => s ≤ j ∧ j < (s + 1)) := by rw [← eZ1]; exact jr0.mono (fun j (q : s ≤ j ∧ j < s) => (⟨by omega, by omega⟩ : s ≤ j ∧ j < s + 1))
  have n43_1 : ∀ j, (s + 1) ≤ j → j < e → (Z1.1 43 j).toInt = -1 := fun j q1 q2 => by rw [← eZ1]; exact n43_0 j (by omega) q2
  have nq1 : (Z1.1 0 13).toInt = (Z0.1 0 13).toInt ∧ (Z1.1 0 15).toInt = (Z0.1 0 15).toInt ∧ (Z1.1 0 28).toInt = (Z0.1 0 28).toInt := by rw [← eZ1]; exact ⟨rfl, rfl, rfl⟩
  have oz1 : OA Z1 s 0 n := ⟨by rw [hX1.1.1 40 s (show (8000 : Nat) ∉ [9, 10, 13, 15, 28, 30, 800, 1000, 1200, 1400, 1600, 1800, 2000, 6200, 6400, 8600, 10400, 10600, 10800, 11000, 11200, 11400, 11600, 11800] from by decide)]; exact hs0.1, by rw [hX1.1.1 41 s (show (8200 : Nat) ∉ [9, 10, 13, 15, 28, 30, 800, 1000, 1200, 1400, 1600, 1800, 2000, 6200, 6400, 8600, 10400, 10600, 10800, 11000, 11200, 11400, 11600, 11800] from by decide)]; exact hs0.2⟩
  have sg1 : SEG Z1 s (s + 1) t (exn t (f3 0 0 0) 0) := SEG.step (hval.kx jr1.2.2.1) oz1 (by omega) exn_zero
  obtain ⟨cc2, o2, Z2, gs2, b2, js2, ns2, ps2⟩ := hA.2.2 Z1 o1 (d + 0) B (exn t (f3 0 0 0) 0) hX1 hw1 ho1 (by omega) (by omega) (by omega) (by omega) (by omega) (by omega) (fun j q1 q2 => n43_1 j q1 (by omega)) ⟨loc1.1, hsc1, hsc2⟩ ((hval.kx jr1.2.2.1).exn (VK3 (by decide) (fun h => absurd h (by decide)) (fun h => absurd h (by decide)) (fun h => absurd h (by decide))))
  have mg2 := js2.2.2.2.1.1
  have mk2 := js2.2.2.1.1
  have hX2 := hX1.jr js2
  have go2 := go1.tr gs2
  have jr2 : JR Z0 Z2 (fun j => s ≤ j ∧ j < p) := (jr1.mono (fun j (q : s ≤ j ∧ j < (s + 1)) => (⟨by omega, by omega⟩ : s ≤ j ∧ j < p))).tr (js2.mono (fun j (q : (s + 1) ≤ j ∧ j < p) => (⟨by omega, by omega⟩ : s ≤ j ∧ j < p)))
  by_cases hw2 : (Z2.1 0 9).toInt = 0
  rotate_left
  · exact ⟨_, o2, Z2, go2, by omega, jr2.mono (fun j (q : s ≤ j ∧ j < p) => (⟨by omega, by omega⟩ : s ≤ j ∧ j < e)), ⟨by omega, by omega, by omega⟩, fun q => absurd q hw2⟩
  obtain ⟨ho2, hd2, h58_2, h59_2, w2_0, y2_0, sc2⟩ := ps2 hw2
  have kp2 : ∀ j, j < d + 0 → Z2.1 58 j = Z1.1 58 j := fun j hj => h58_2 j (by omega)
  have bel2 : ∀ j, j < d → Z2.1 58 j = Z0.1 58 j := fun j hj => (kp2 j (by omega)).trans (bel1 j hj)
  have k59_2 : ∀ j : Nat, (j : Int) < sc → Z2.1 59 j = Z1.1 59 j := fun j hj => h59_2 j hj
  have l59_2 : ∀ j : Nat, (j : Int) < sc → Z2.1 59 j = Z0.1 59 j := fun j hj => (k59_2 j hj).trans (l59_1 j hj)
  have loc2 : LOC Z2 sc B t := loc1.jr hX1.2.1 js2 k59_2
  have n43_2 : ∀ j, p ≤ j → j < e → (Z2.1 43 j).toInt = -1 := fun j q1 q2 => by rw [js2.2.2.2.2 j (fun (q : (s + 1) ≤ j ∧ j < p) => by omega)]; exact n43_1 j (by omega) q2
  obtain ⟨kA, qkA⟩ : ∃ x, x = Z2.1 58 (d + 0) := ⟨_, rfl⟩
  rw [← qkA] at w2_0 y2_0 sc2
  have c2_0 : Z2.1 58 (d + 0) = kA := qkA.symm
  have v2_0 : VK Z2 kA := w2_0
  have z2_0 := y2_0
  have sp2 : SEG Z2 (s + 1) p (exn t (f3 0 0 0) 0) (exn t (f3 kA 0 0) 1) := sc2.to (exn_psh0 (fun j hj => by rcases j with _ | _ | _ | j <;> first | rfl | omega) rfl)
  have sg2 := (sg1.jr hX1.2.1 js2 (fun j q1 q2 (q : (s + 1) ≤ j ∧ j < p) => by omega)).tr sp2
  have eo2 : ix o2 = p := by
    have := ixc (z := o2) (by omega)
    omega
  have hop2 : (Z2.1 40 (ix o2)).toInt = 8 := by rw [eo2, hX2.1.1 40 p (show (8000 : Nat) ∉ [9, 10, 13, 15, 28, 30, 800, 1000, 1200, 1400, 1600, 1800, 2000, 6200, 6400, 8600, 10400, 10600, 10800, 11000, 11200, 11400, 11600, 11800] from by decide)]; exact hs1.1
  have qn2 : (Z2.1 41 p).toInt = ((n : Nat) : Int) := by rw [hX2.1.1 41 p (show (8200 : Nat) ∉ [9, 10, 13, 15, 28, 30, 800, 1000, 1200, 1400, 1600, 1800, 2000, 6200, 6400, 8600, 10400, 10600, 10800, 11000, 11200, 11400, 11600, 11800] from by decide)]; exact hs1.2
  have en2 : ix (Z2.1 41 p) = n := by
    have := ixc (z := Z2.1 41 p) (by omega)
    omega
  have inn2 : inR (Z2.1 41 p) 3100 := ⟨by omega, show (Z2.1 41 p).toInt < ((3100 : Nat) : Int) by omega⟩
  have ino2 : inR o2 24000 := ⟨by omega, show o2.toInt < ((24000 : Nat) : Int) by omega⟩
  obtain ⟨o3, Z3, ho3, gs3, js3, ns3, ps3⟩ := jstep (r37 := r37) (a1 := a1) (a2 := a2) (s := p) (o := o2) (by omega) (by omega) (by omega) hw2 (one_8 hX2.2.1 (by omega) (by omega) ⟨by omega, by omega⟩ hX2.2.2.2.2.2.2 hw2 ino2 hop2 (d := d + 0) (by omega) (by omega) (by rw [c2_0]; exact v2_0) (by rw [eo2]; exact n43_2 _ (Nat.le_refl _) (by omega)) inn2 hX2.2.2.1)
  have mg3 := js3.2.2.2.1.1
  have mk3 := js3.2.2.1.1
  have hX3 := hX2.jr js3
  have go3 := go2.tr gs3
  have jr3 : JR Z0 Z3 (fun j => s ≤ j ∧ j < (p + 1)) := (jr2.mono (fun j (q : s ≤ j ∧ j < p) => (⟨by omega, by omega⟩ : s ≤ j ∧ j < (p + 1)))).tr (js3.mono (fun j (q : j = ix o2) => (⟨by omega, by omega⟩ : s ≤ j ∧ j < (p + 1))))
  by_cases hw3 : (Z3.1 0 9).toInt = 0
  rotate_left
  · exact ⟨_, o3, Z3, go3, by omega, jr3.mono (fun j (q : s ≤ j ∧ j < (p + 1)) => (⟨by omega, by omega⟩ : s ≤ j ∧ j < e)), ⟨by omega, by omega, by omega⟩, fun q => absurd q hw3⟩
  obtain ⟨hd3, ⟨kR, elkR, ce3, rkkR, gr3, vekR, sz3⟩, h58_3, h59_3⟩ := ps3 hw3
  have kp3 : ∀ j, j < d + 0 → Z3.1 58 j = Z2.1 58 j := fun j hj => h58_3 j (by omega)
  have bel3 : ∀ j, j < d → Z3.1 58 j = Z0.1 58 j := fun j hj => (kp3 j (by omega)).trans (bel2 j hj)
  have k59_3 : ∀ j : Nat, (j : Int) < sc → Z3.1 59 j = Z2.1 59 j := fun j hj => h59_3 j
  have l59_3 : ∀ j : Nat, (j : Int) < sc → Z3.1 59 j = Z0.1 59 j := fun j hj => (k59_3 j hj).trans (l59_2 j hj)
  have loc3 : LOC Z3 sc B t := loc2.jr hX2.2.1 js3 k59_3
  have n43_3 : ∀ j, (p + 1) ≤ j → j < e → (Z3.1 43 j).toInt = -1 := fun j q1 q2 => by rw [js3.2.2.2.2 j (fun (q : j = ix o2) => by omega)]; exact n43_2 j (by omega) q2
  have c3_0 : Z3.1 58 (d + 0) = kR := ce3
  have v3_0 : VK Z3 kR := ⟨rkkR.1, rkkR.2.1⟩
  have z3_0 : ksz Z3 (ix kR) ≤ ksz Z2 (ix kA) + 1 := by
    rcases sz3 with q | q
    · rw [c2_0] at q
      rw [q, ksz_kx hX2.2.1 hX3.2.1 js3.2.2.1 _ (by have := ixc v2_0.1; have := v2_0.2; omega)]
      omega
    · have h1 := ixc v2_0.1
      have h2 := v2_0.2
      have h3 := kszp hX2.2.1 (k := ix kA) (by omega)
      omega
  have oz3 : OA Z3 p 8 n := ⟨by rw [hX3.1.1 40 p (show (8000 : Nat) ∉ [9, 10, 13, 15, 28, 30, 800, 1000, 1200, 1400, 1600, 1800, 2000, 6200, 6400, 8600, 10400, 10600, 10800, 11000, 11200, 11400, 11600, 11800] from by decide)]; exact hs1.1, by rw [hX3.1.1 41 p (show (8200 : Nat) ∉ [9, 10, 13, 15, 28, 30, 800, 1000, 1200, 1400, 1600, 1800, 2000, 6200, 6400, 8600, 10400, 10600, 10800, 11000, 11200, 11400, 11600, 11800] from by decide)]; exact hs1.2⟩
  have sp3 : SEG Z3 p (p + 1) (exn t (f3 kA 0 0) 1) (exn t (f3 kR 0 0) 1) := SEG.gd1 (m := 0) ((hval.kx jr3.2.2.1).exn (VK3 (by decide) (fun _ => (v2_0.kx js3.2.2.1)) (fun h => absurd h (by decide)) (fun h => absurd h (by decide)))) oz3 (by omega) (by decide) (by have q := gr3; rw [eo2, c2_0] at q; exact q) v3_0 (fun j hj => by rcases j with _ | _ | _ | j <;> first | rfl | omega) rfl
  have sg3 := (sg2.jr hX2.2.1 js3 (fun j q1 q2 (q : j = ix o2) => by omega)).tr sp3
  obtain ⟨cc4, o4, Z4, gs4, b4, js4, ns4, ps4⟩ := hB.2.2 Z3 o3 (d + 1) B (exn t (f3 kR 0 0) 1) hX3 hw3 ho3 (by omega) (by omega) (by omega) (by omega) (by omega) (by omega) (fun j q1 q2 => n43_3 j q1 (by omega)) ⟨loc3.1, hsc1, hsc2⟩ ((hval.kx jr3.2.2.1).exn (VK3 (by decide) (fun _ => v3_0) (fun h => absurd h (by decide)) (fun h => absurd h (by decide))))
  have mg4 := js4.2.2.2.1.1
  have mk4 := js4.2.2.1.1
  have hX4 := hX3.jr js4
  have go4 := go3.tr gs4
  have jr4 : JR Z0 Z4 (fun j => s ≤ j ∧ j < pb) := (jr3.mono (fun j (q : s ≤ j ∧ j < (p + 1)) => (⟨by omega, by omega⟩ : s ≤ j ∧ j < pb))).tr (js4.mono (fun j (q : (p + 1) ≤ j ∧ j < pb) => (⟨by omega, by omega⟩ : s ≤ j ∧ j < pb)))
  by_cases hw4 : (Z4.1 0 9).toInt = 0
  rotate_left
  · exact ⟨_, o4, Z4, go4, by omega, jr4.mono (fun j (q : s ≤ j ∧ j < pb) => (⟨by omega, by omega⟩ : s ≤ j ∧ j < e)), ⟨by omega, by omega, by omega⟩, fun q => absurd q hw4⟩
  obtain ⟨ho4, hd4, h58_4, h59_4, w4_1, y4_1, sc4⟩ := ps4 hw4
  have kp4 : ∀ j, j < d + 1 → Z4.1 58 j = Z3.1 58 j := fun j hj => h58_4 j (by omega)
  have bel4 : ∀ j, j < d → Z4.1 58 j = Z0.1 58 j := fun j hj => (kp4 j (by omega)).trans (bel3 j hj)
  have k59_4 : ∀ j : Nat, (j : Int) < sc → Z4.1 59 j = Z3.1 59 j := fun j hj => h59_4 j hj
  have l59_4 : ∀ j : Nat, (j : Int) < sc → Z4.1 59 j = Z0.1 59 j := fun j hj => (k59_4 j hj).trans (l59_3 j hj)
  have loc4 : LOC Z4 sc B t := loc3.jr hX3.2.1 js4 k59_4
  have n43_4 : ∀ j, pb ≤ j → j < e → (Z4.1 43 j).toInt = -1 := fun j q1 q2 => by rw [js4.2.2.2.2 j (fun (q : (p + 1) ≤ j ∧ j < pb) => by omega)]; exact n43_3 j (by omega) q2
  have c4_0 : Z4.1 58 (d + 0) = kR := (kp4 (d + 0) (by omega)).trans c3_0
  have v4_0 : VK Z4 kR := v3_0.kx js4.2.2.1
  have z4_0 : ksz Z4 (ix kR) = ksz Z3 (ix kR) := ksz_kx hX3.2.1 hX4.2.1 js4.2.2.1 _ (by have := ixc v3_0.1; have := v3_0.2; omega)
  obtain ⟨kB, qkB⟩ : ∃ x, x = Z4.1 58 (d + 1) := ⟨_, rfl⟩
  rw [← qkB] at w4_1 y4_1 sc4
  have c4_1 : Z4.1 58 (d + 1) = kB := qkB.symm
  have v4_1 : VK Z4 kB := w4_1
  have z4_1 := y4_1
  have sp4 : SEG Z4 (p + 1) pb (exn t (f3 kR 0 0) 1) (exn t (f3 kR kB 0) 2) := sc4.to (exn_psh0 (fun j hj => by rcases j with _ | _ | _ | j <;> first | rfl | omega) rfl)
  have sg4 := (sg3.jr hX3.2.1 js4 (fun j q1 q2 (q : (p + 1) ≤ j ∧ j < pb) => by omega)).tr sp4
  have eo4 : ix o4 = pb := by
    have := ixc (z := o4) (by omega)
    omega
  have hop4 : (Z4.1 40 (ix o4)).toInt = 5 := by rw [eo4, hX4.1.1 40 pb (show (8000 : Nat) ∉ [9, 10, 13, 15, 28, 30, 800, 1000, 1200, 1400, 1600, 1800, 2000, 6200, 6400, 8600, 10400, 10600, 10800, 11000, 11200, 11400, 11600, 11800] from by decide)]; exact hs2.1
  have qn4 : (Z4.1 41 pb).toInt = (((ix (X0.1 24 n)) : Nat) : Int) := by rw [hX4.1.1 41 pb (show (8200 : Nat) ∉ [9, 10, 13, 15, 28, 30, 800, 1000, 1200, 1400, 1600, 1800, 2000, 6200, 6400, 8600, 10400, 10600, 10800, 11000, 11200, 11400, 11600, 11800] from by decide)]; exact hs2.2
  have en4 : ix (Z4.1 41 pb) = (ix (X0.1 24 n)) := by
    have := ixc (z := Z4.1 41 pb) (by omega)
    omega
  have inn4 : inR (Z4.1 41 pb) 3100 := ⟨by omega, show (Z4.1 41 pb).toInt < ((3100 : Nat) : Int) by omega⟩
  have ino4 : inR o4 24000 := ⟨by omega, show o4.toInt < ((24000 : Nat) : Int) by omega⟩
  obtain ⟨o5, Z5, ho5, gs5, js5, ns5, ps5⟩ := jstep (r37 := r37) (a1 := a1) (a2 := a2) (s := pb) (o := o4) (by omega) (by omega) (by omega) hw4 (one_5 hX4.2.1 (by omega) (by omega) ⟨by omega, by omega⟩ hX4.2.2.2.2.2.2 hw4 ino4 hop4 (d := d + 1) (by omega) (by omega) (by rw [c4_1]; exact v4_1) (by rw [eo4]; exact n43_4 _ (Nat.le_refl _) (by omega)) inn4 hX4.2.2.1)
  have mg5 := js5.2.2.2.1.1
  have mk5 := js5.2.2.1.1
  have hX5 := hX4.jr js5
  have go5 := go4.tr gs5
  have jr5 : JR Z0 Z5 (fun j => s ≤ j ∧ j < (pb + 1)) := (jr4.mono (fun j (q : s ≤ j ∧ j < pb) => (⟨by omega, by omega⟩ : s ≤ j ∧ j < (pb + 1)))).tr (js5.mono (fun j (q : j = ix o4) => (⟨by omega, by omega⟩ : s ≤ j ∧ j < (pb + 1))))
  by_cases hw5 : (Z5.1 0 9).toInt = 0
  rotate_left
  · exact ⟨_, o5, Z5, go5, by omega, jr5.mono (fun j (q : s ≤ j ∧ j < (pb + 1)) => (⟨by omega, by omega⟩ : s ≤ j ∧ j < e)), ⟨by omega, by omega, by omega⟩, fun q => absurd q hw5⟩
  obtain ⟨hd5, ce5, h58_5, h59_5, gr5⟩ := ps5 hw5
  have kp5 : ∀ j, j < d + 1 → Z5.1 58 j = Z4.1 58 j := fun j hj => h58_5 j (by omega)
  have bel5 : ∀ j, j < d → Z5.1 58 j = Z0.1 58 j := fun j hj => (kp5 j (by omega)).trans (bel4 j hj)
  have k59_5 : ∀ j : Nat, (j : Int) < sc → Z5.1 59 j = Z4.1 59 j := fun j hj => h59_5 j
  have l59_5 : ∀ j : Nat, (j : Int) < sc → Z5.1 59 j = Z0.1 59 j := fun j hj => (k59_5 j hj).trans (l59_4 j hj)
  have loc5 : LOC Z5 sc B t := loc4.jr hX4.2.1 js5 k59_5
  have n43_5 : ∀ j, (pb + 1) ≤ j → j < e → (Z5.1 43 j).toInt = -1 := fun j q1 q2 => by rw [js5.2.2.2.2 j (fun (q : j = ix o4) => by omega)]; exact n43_4 j (by omega) q2
  have c5_0 : Z5.1 58 (d + 0) = kR := (kp5 (d + 0) (by omega)).trans c4_0
  have v5_0 : VK Z5 kR := v4_0.kx js5.2.2.1
  have z5_0 : ksz Z5 (ix kR) = ksz Z4 (ix kR) := ksz_kx hX4.2.1 hX5.2.1 js5.2.2.1 _ (by have := ixc v4_0.1; have := v4_0.2; omega)
  have c5_1 : Z5.1 58 (d + 1) = 0 := ce5
  have v5_1 : VK Z5 0 := ⟨by decide, by have := hX5.2.2.1.1; have z : (0 : Int32).toInt = 0 := rfl; omega⟩
  have z5_1 : ksz Z5 (ix 0) = 1 := hX5.2.2.1.sz hX5.2.1 (k := 0) (by decide)
  have oz5 : OA Z5 pb 5 (ix (X0.1 24 n)) := ⟨by rw [hX5.1.1 40 pb (show (8000 : Nat) ∉ [9, 10, 13, 15, 28, 30, 800, 1000, 1200, 1400, 1600, 1800, 2000, 6200, 6400, 8600, 10400, 10600, 10800, 11000, 11200, 11400, 11600, 11800] from by decide)]; exact hs2.1, by rw [hX5.1.1 41 pb (show (8200 : Nat) ∉ [9, 10, 13, 15, 28, 30, 800, 1000, 1200, 1400, 1600, 1800, 2000, 6200, 6400, 8600, 10400, 10600, 10800, 11000, 11200, 11400, 11600, 11800] from by decide)]; exact hs2.2⟩
  have sp5 : SEG Z5 pb (pb + 1) (exn t (f3 kR kB 0) 2) (exn t (f3 kR 0 0) 2) := SEG.gd1 (m := 1) ((hval.kx jr5.2.2.1).exn (VK3 (by decide) (fun _ => v5_0) (fun _ => (v4_1.kx js5.2.2.1)) (fun h => absurd h (by decide)))) oz5 (by omega) (by decide) (by have q := gr5; rw [eo4, c4_1] at q; exact q) v5_1 (fun j hj => by rcases j with _ | _ | _ | j <;> first | rfl | omega) rfl
  have sg5 := (sg4.jr hX4.2.1 js5 (fun j q1 q2 (q : j = ix o4) => by omega)).tr sp5
  have rkz : ROWK Z5 kR elkR := (rkkR.kx hX3.2.1 js4.2.2.1).kx hX4.2.1 js5.2.2.1
  have ecm : cmpK Z5 kR 0 = elkR := rkz.2.2.2.2
  have r5 := rkz.2.2.2.1
  have csz := cmp_sz hX5.2.1 ⟨rkz.1, rkz.2.1⟩ (i := 0) (by omega)
  rw [ecm] at csz
  have clt := cmpK_lt hX5.2.1 rkz.1 rkz.2.1 (i := 0) (by omega)
  rw [ecm] at clt
  have rkz2 := rkz.2.1
  have vel : VK Z5 elkR := ⟨clt.1, by omega⟩
  have eo5 : ix o5 = (pb + 1) := by
    have := ixc (z := o5) (by omega)
    omega
  have hop5 : (Z5.1 40 (ix o5)).toInt = 26 := by rw [eo5, hX5.1.1 40 (pb + 1) (show (8000 : Nat) ∉ [9, 10, 13, 15, 28, 30, 800, 1000, 1200, 1400, 1600, 1800, 2000, 6200, 6400, 8600, 10400, 10600, 10800, 11000, 11200, 11400, 11600, 11800] from by decide)]; exact hs3.1
  have qn5 : (Z5.1 41 (pb + 1)).toInt = ((n : Nat) : Int) := by rw [hX5.1.1 41 (pb + 1) (show (8200 : Nat) ∉ [9, 10, 13, 15, 28, 30, 800, 1000, 1200, 1400, 1600, 1800, 2000, 6200, 6400, 8600, 10400, 10600, 10800, 11000, 11200, 11400, 11600, 11800] from by decide)]; exact hs3.2
  have en5 : ix (Z5.1 41 (pb + 1)) = n := by
    have := ixc (z := Z5.1 41 (pb + 1)) (by omega)
    omega
  have inn5 : inR (Z5.1 41 (pb + 1)) 3100 := ⟨by omega, show (Z5.1 41 (pb + 1)).toInt < ((3100 : Nat) : Int) by omega⟩
  have ino5 : inR o5 24000 := ⟨by omega, show o5.toInt < ((24000 : Nat) : Int) by omega⟩
  obtain ⟨o6, Z6, ho6, gs6, js6, ns6, ps6⟩ := jstep (r37 := r37) (a1 := a1) (a2 := a2) (s := (pb + 1)) (o := o5) (by omega) (by omega) (by omega) hw5 (one_26 hX5.2.1 (by omega) (by omega) ⟨by omega, by omega⟩ hX5.2.2.2.2.2.2 hw5 ino5 hop5 (d := d + 0) (by omega) (by omega) (by rw [c5_0]; exact v5_0) (by rw [c5_0]; omega))
  have mg6 := js6.2.2.2.1.1
  have mk6 := js6.2.2.1.1
  have hX6 := hX5.jr js6
  have go6 := go5.tr gs6
  have jr6 : JR Z0 Z6 (fun j => s ≤ j ∧ j < ((pb + 1) + 1)) := (jr5.mono (fun j (q : s ≤ j ∧ j < (pb + 1)) => (⟨by omega, by omega⟩ : s ≤ j ∧ j < ((pb + 1) + 1)))).tr (js6.mono (fun j (q : False) => q.elim))
  by_cases hw6 : (Z6.1 0 9).toInt = 0
  rotate_left
  · exact ⟨_, o6, Z6, go6, by omega, jr6.mono (fun j (q : s ≤ j ∧ j < ((pb + 1) + 1)) => (⟨by omega, by omega⟩ : s ≤ j ∧ j < e)), ⟨by omega, by omega, by omega⟩, fun q => absurd q hw6⟩
  obtain ⟨hd6, ce6, h58_6, h59_6⟩ := ps6 hw6
  have kp6 : ∀ j, j < d + 0 → Z6.1 58 j = Z5.1 58 j := fun j hj => h58_6 j (by omega)
  have bel6 : ∀ j, j < d → Z6.1 58 j = Z0.1 58 j := fun j hj => (kp6 j (by omega)).trans (bel5 j hj)
  have k59_6 : ∀ j : Nat, (j : Int) < sc → Z6.1 59 j = Z5.1 59 j := fun j hj => h59_6 j
  have l59_6 : ∀ j : Nat, (j : Int) < sc → Z6.1 59 j = Z0.1 59 j := fun j hj => (k59_6 j hj).trans (l59_5 j hj)
  have loc6 : LOC Z6 sc B t := loc5.jr hX5.2.1 js6 k59_6
  have n43_6 : ∀ j, ((pb + 1) + 1) ≤ j → j < e → (Z6.1 43 j).toInt = -1 := fun j q1 q2 => by rw [js6.2.2.2.2 j (fun (q : False) => q)]; exact n43_5 j (by omega) q2
  have c6_0 : Z6.1 58 (d + 0) = elkR := by rw [ce6, c5_0]; exact ecm
  have v6_0 : VK Z6 elkR := vel.kx js6.2.2.1
  have z6_0 : ksz Z6 (ix elkR) = ksz Z5 (ix elkR) := ksz_kx hX5.2.1 hX6.2.1 js6.2.2.1 _ (by have := ixc vel.1; omega)
  have oz6 : OA Z6 (pb + 1) 26 n := ⟨by rw [hX6.1.1 40 (pb + 1) (show (8000 : Nat) ∉ [9, 10, 13, 15, 28, 30, 800, 1000, 1200, 1400, 1600, 1800, 2000, 6200, 6400, 8600, 10400, 10600, 10800, 11000, 11200, 11400, 11600, 11800] from by decide)]; exact hs3.1, by rw [hX6.1.1 41 (pb + 1) (show (8200 : Nat) ∉ [9, 10, 13, 15, 28, 30, 800, 1000, 1200, 1400, 1600, 1800, 2000, 6200, 6400, 8600, 10400, 10600, 10800, 11000, 11200, 11400, 11600, 11800] from by decide)]; exact hs3.2⟩
  have sp6 : SEG Z6 (pb + 1) ((pb + 1) + 1) (exn t (f3 kR 0 0) 2) (exn t (f3 elkR 0 0) 1) := SEG.place ((hval.kx jr6.2.2.1).exn (VK3 (by decide) (fun _ => (v5_0.kx js6.2.2.1)) (fun _ => (v5_1.kx js6.2.2.1)) (fun h => absurd h (by decide)))) oz6 (by omega) (by show 2 ≤ t.1 + 2; omega) (by rw [exn_tp (by decide)]; rfl) (by rw [exn_tp (by decide)]; exact rkz.kx hX5.2.1 js6.2.2.1) v6_0 (exn_psh (i := 2) (by decide) (fun j hj => by rcases j with _ | _ | _ | j <;> first | rfl | omega) rfl)
  have sg6 := (sg5.jr hX5.2.1 js6 (fun j q1 q2 (q : False) => q)).tr sp6
  refine ⟨_, o6, Z6, go6, by omega, jr6.mono (fun j (q : s ≤ j ∧ j < ((pb + 1) + 1)) => (⟨by omega, by omega⟩ : s ≤ j ∧ j < e)), ⟨by omega, by omega, by omega⟩, fun _ => ⟨by omega, by omega, bel6, l59_6, by rw [show Z6.1 58 d = elkR from c6_0]; exact v6_0, by rw [show Z6.1 58 d = elkR from c6_0]; omega, ?_⟩⟩
  rw [show Z6.1 58 d = elkR from c6_0]
  have qe : e = ((pb + 1) + 1) := by omega
  rw [qe]
  exact sg6.to (exn_end rfl)
