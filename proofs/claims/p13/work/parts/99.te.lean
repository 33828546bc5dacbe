set_option maxHeartbeats 4000000 in
theorem jl_1 {r37 : Int32 → St → Option (Int32 × St)} {a1 a2 : Int32} {X0 : St} {n l r : Nat} {sc : Int} {s1 e : Nat} {it cu ps : Nat → Nat} (hl : LSD (fun n lo hi sc s e => CX X0 n lo hi sc s e ∧ JP r37 a1 a2 X0 n lo hi sc s e) X0 n l r sc 1 s1 e it cu ps) : ∀ (dd jj : Nat), jj + dd + 1 = ix (X0.1 27 n) → ∀ (Z0 : St) (o0 : Int32) (d B : Nat) (t : Ty), JX X0 Z0 → (Z0.1 0 9).toInt = 0 → o0.toInt = (ps jj : Int) → (e : Int) ≤ a2.toInt → e ≤ 24000 → r ≤ 3100 → (r : Int) ≤ (X0.1 0 19).toInt → (Z0.1 0 30).toInt = (d : Int) → (d + r + 20 ≤ 3190 + cu jj ∧ (Z0.1 0 13).toInt + r ≤ 5990 + (cu jj : Int) ∧ (Z0.1 0 15).toInt + 5 * (r : Int) ≤ 19900 + 5 * (cu jj : Int) ∧ 0 ≤ (Z0.1 0 28).toInt ∧ (Z0.1 0 28).toInt + r ≤ 11900 + (cu jj : Int) ∧ B + r ≤ 6002 + cu jj ∧ 3002 ≤ B) → (∀ j, ps jj ≤ j → j < e → (Z0.1 43 j).toInt = -1) → LOC Z0 sc B t → VAL Z0 t → JRES r37 a1 a2 Z0 o0 d B t (cu jj) r sc (ps jj) e := by
  have hbd : ∀ n lo hi sc s e, (CX X0 n lo hi sc s e ∧ JP r37 a1 a2 X0 n lo hi sc s e) → lo ≤ n ∧ n < hi ∧ s < e := fun n lo hi sc s e q => q.1.bd
  have hle := hl.le hbd
  obtain ⟨hl1, hl2, hl3, hl4, hl5, hl6, hl7, hl8⟩ := hl
  intro dd
  induction dd with
  | zero =>
    intro jj hjj Z0 o0 d B t hX0 hw0 ho0 hea he24 hi31 hnn hd0 hnum n43_0 loc0 hval
    obtain ⟨⟨p, ⟨hcx, hp⟩, hm⟩, -⟩ := hl8 jj (by omega)
    have hcu : cu (jj + 1) = r := by rw [show jj + 1 = ix (X0.1 27 n) by omega]; exact hl2
    have hps : ps (jj + 1) = e := by rw [show jj + 1 = ix (X0.1 27 n) by omega]; exact hl4
    have hpe : p = e := by rcases hm with ⟨q, _⟩ | ⟨_, ⟨q, _⟩ | ⟨_, q⟩⟩ | ⟨q, _⟩ <;> omega
    rw [hcu, hpe] at hp
    exact hp Z0 o0 d B t hX0 hw0 ho0 hea he24 hi31 hnn hd0 hnum n43_0 loc0 hval
  | succ dd ih =>
    intro jj hjj Z0 o0 d B t hX0 hw0 ho0 hea he24 hi31 hnn hd0 hnum n43_0 loc0 hval
    obtain ⟨u1, u2, u3, u4, u5, u6, u7⟩ := hnum
    obtain ⟨⟨p, hA, hm⟩, -⟩ := hl8 jj (by omega)
    have hlj := hle jj (by omega)
    have hlk := hle (jj + 1) (by omega)
    have bA := hA.1.bd
    obtain ⟨hs1, hpq⟩ : OA X0 p 29 (it jj) ∧ ps (jj + 1) = p + 1 := by rcases hm with ⟨q, _⟩ | ⟨_, ⟨_, q2, q3⟩ | ⟨q, _⟩⟩ | ⟨q, _⟩ <;> first | exact ⟨q2, q3⟩ | exact absurd q (by omega)
    have jr0 : JR Z0 Z0 (fun j => ps jj ≤ j ∧ j < ps jj) := JR.fr hX0.2.1 (Fr.rf (L := [])) (by decide) _
    have go0 : JGo r37 a1 a2 0 o0 o0 Z0 Z0 := JGo.rf
    have bel0 : ∀ j, j < d → Z0.1 58 j = Z0.1 58 j := fun _ _ => rfl
    have l59_0 : ∀ j : Nat, (j : Int) < sc → Z0.1 59 j = Z0.1 59 j := fun _ _ => rfl
    have hsc1 := loc0.2.1
    have hsc2 := loc0.2.2
    obtain ⟨cc1, o1, Z1, gs1, b1, js1, ns1, ps1⟩ := hA.2 Z0 o0 d B t hX0 hw0 ho0 (by omega) (by omega) (by omega) (by omega) hd0 (by omega) (fun j q1 q2 => n43_0 j q1 (by omega)) loc0 hval
    have mg1 := js1.2.2.2.1.1
    have mk1 := js1.2.2.1.1
    have hX1 := hX0.jr js1
    have go1 := go0.tr gs1
    have jr1 : JR Z0 Z1 (fun j => ps jj ≤ j ∧ j < p) := (jr0.mono (fun j (q : ps jj ≤ j ∧ j < (ps jj)) => (⟨by omega, by omega⟩ : ps jj ≤ j ∧ j < p))).tr (js1.mono (fun j (q : ps jj ≤ j ∧ j < p) => (⟨by omega, by omega⟩ : ps jj ≤ j ∧ j < p)))
    by_cases hw1 : (Z1.1 0 9).toInt = 0
    rotate_left
    · exact ⟨_, o1, Z1, go1, by omega, jr1.mono (fun j (q : ps jj ≤ j ∧ j < p) => (⟨by omega, by omega⟩ : ps jj ≤ j ∧ j < e)), ⟨by omega, by omega, by omega⟩, fun q => absurd q hw1⟩
    obtain ⟨ho1, hd1, h58_1, h59_1, w1, y1, sc1⟩ := ps1 hw1
    have kp1 : ∀ j, j < d + 0 → Z1.1 58 j = Z0.1 58 j := fun j hj => h58_1 j (by omega)
    have bel1 : ∀ j, j < d → Z1.1 58 j = Z0.1 58 j := fun j hj => (kp1 j (by omega)).trans (bel0 j hj)
    have k59_1 : ∀ j : Nat, (j : Int) < sc → Z1.1 59 j = Z0.1 59 j := fun j hj => h59_1 j hj
    have l59_1 : ∀ j : Nat, (j : Int) < sc → Z1.1 59 j = Z0.1 59 j := fun j hj => (k59_1 j hj).trans (l59_0 j hj)
    have loc1 : LOC Z1 sc B t := loc0.jr hX0.2.1 js1 k59_1
    have n43_1 : ∀ j, p ≤ j → j < e → (Z1.1 43 j).toInt = -1 := fun j q1 q2 => by rw [js1.2.2.2.2 j (fun (q : ps jj ≤ j ∧ j < p) => by omega)]; exact n43_0 j (by omega) q2
    obtain ⟨kI, qkI⟩ : ∃ x, x = Z1.1 58 d := ⟨_, rfl⟩
    rw [← qkI] at w1 sc1
    have eo1 : ix o1 = p := by
      have := ixc (z := o1) (by omega)
      omega
    have hop1 : (Z1.1 40 (ix o1)).toInt = 29 := by rw [eo1, hX1.1.1 40 p (show (8000 : Nat) ∉ [9, 10, 13, 15, 28, 30, 800, 1000, 1200, 1400, 1600, 1800, 2000, 6200, 6400, 8600, 10400, 10600, 10800, 11000, 11200, 11400, 11600, 11800] from by decide)]; exact hs1.1
    have qn1 : (Z1.1 41 p).toInt = (((it jj) : Nat) : Int) := by rw [hX1.1.1 41 p (show (8200 : Nat) ∉ [9, 10, 13, 15, 28, 30, 800, 1000, 1200, 1400, 1600, 1800, 2000, 6200, 6400, 8600, 10400, 10600, 10800, 11000, 11200, 11400, 11600, 11800] from by decide)]; exact hs1.2
    have en1 : ix (Z1.1 41 p) = (it jj) := by
      have := ixc (z := Z1.1 41 p) (by omega)
      omega
    have inn1 : inR (Z1.1 41 p) 3100 := ⟨by omega, show (Z1.1 41 p).toInt < ((3100 : Nat) : Int) by omega⟩
    have ino1 : inR o1 24000 := ⟨by omega, show o1.toInt < ((24000 : Nat) : Int) by omega⟩
    obtain ⟨o2, Z2, ho2, gs2, js2, ns2, ps2⟩ := jstep (r37 := r37) (a1 := a1) (a2 := a2) (s := p) (o := o1) (by omega) (by omega) (by omega) hw1 (one_29 hX1.2.1 (by omega) (by omega) ⟨by omega, by omega⟩ hX1.2.2.2.2.2.2 hw1 ino1 hop1 (d := d) (by omega) (by omega))
    have mg2 := js2.2.2.2.1.1
    have mk2 := js2.2.2.1.1
    have hX2 := hX1.jr js2
    have go2 := go1.tr gs2
    have jr2 : JR Z0 Z2 (fun j => ps jj ≤ j ∧ j < (p + 1)) := (jr1.mono (fun j (q : ps jj ≤ j ∧ j < p) => (⟨by omega, by omega⟩ : ps jj ≤ j ∧ j < (p + 1)))).tr (js2.mono (fun j (q : False) => q.elim))
    by_cases hw2 : (Z2.1 0 9).toInt = 0
    rotate_left
    · exact ⟨_, o2, Z2, go2, by omega, jr2.mono (fun j (q : ps jj ≤ j ∧ j < (p + 1)) => (⟨by omega, by omega⟩ : ps jj ≤ j ∧ j < e)), ⟨by omega, by omega, by omega⟩, fun q => absurd q hw2⟩
    obtain ⟨hd2, h58_2, h59_2⟩ := ps2 hw2
    have kp2 : ∀ j, j < d + 0 → Z2.1 58 j = Z1.1 58 j := fun j hj => h58_2 j (by omega)
    have bel2 : ∀ j, j < d → Z2.1 58 j = Z0.1 58 j := fun j hj => (kp2 j (by omega)).trans (bel1 j hj)
    have k59_2 : ∀ j : Nat, (j : Int) < sc → Z2.1 59 j = Z1.1 59 j := fun j hj => h59_2 j
    have l59_2 : ∀ j : Nat, (j : Int) < sc → Z2.1 59 j = Z0.1 59 j := fun j hj => (k59_2 j hj).trans (l59_1 j hj)
    have loc2 : LOC Z2 sc B t := loc1.jr hX1.2.1 js2 k59_2
    have n43_2 : ∀ j, (p + 1) ≤ j → j < e → (Z2.1 43 j).toInt = -1 := fun j q1 q2 => by rw [js2.2.2.2.2 j (fun (q : False) => q)]; exact n43_1 j (by omega) q2
    have oz2 : OA Z2 p 29 (it jj) := ⟨by rw [hX2.1.1 40 p (show (8000 : Nat) ∉ [9, 10, 13, 15, 28, 30, 800, 1000, 1200, 1400, 1600, 1800, 2000, 6200, 6400, 8600, 10400, 10600, 10800, 11000, 11200, 11400, 11600, 11800] from by decide)]; exact hs1.1, by rw [hX2.1.1 41 p (show (8200 : Nat) ∉ [9, 10, 13, 15, 28, 30, 800, 1000, 1200, 1400, 1600, 1800, 2000, 6200, 6400, 8600, 10400, 10600, 10800, 11000, 11200, 11400, 11600, 11800] from by decide)]; exact hs1.2⟩
    have vI : VK Z2 kI := w1.kx js2.2.2.1
    have sg2 : SEG Z2 (ps jj) (p + 1) t t := ((sc1.to (psh_exn (f := f3 kI 0 0) rfl)).jr hX1.2.1 js2 (fun j q1 q2 (q : False) => q)).tr (SEG.drop ((hval.kx jr2.2.2.1).exn (VK3 (by decide) (fun _ => vI) (fun h => absurd h (by decide)) (fun h => absurd h (by decide)))) oz2 (by omega) (by show 1 ≤ t.1 + 1; omega) ((exn_pps (i := 1) (by decide)).tr exn_back))
    obtain ⟨cc3, o3, Z3, gs3, b3, js3, ns3, ps3⟩ := ih (jj + 1) (by omega) Z2 o2 d B t hX2 hw2 (by omega) hea he24 hi31 hnn hd2 (by omega) (fun j q1 q2 => n43_2 j (by omega) q2) loc2 (hval.kx jr2.2.2.1)
    have mg3 := js3.2.2.2.1.1
    refine ⟨_, o3, Z3, go2.tr gs3, by omega, (jr2.mono (fun j (q : ps jj ≤ j ∧ j < (p + 1)) => (⟨by omega, by omega⟩ : ps jj ≤ j ∧ j < e))).tr (js3.mono (fun j (q : ps (jj + 1) ≤ j ∧ j < e) => (⟨by omega, by omega⟩ : ps jj ≤ j ∧ j < e))), ⟨by omega, by omega, by omega⟩, fun hwz => ?_⟩
    obtain ⟨r1, r2, r3, r4, r5, r6, r7⟩ := ps3 hwz
    rw [hpq] at r7
    exact ⟨r1, r2, fun j hj => (r3 j hj).trans (bel2 j hj), fun j hj => (r4 j hj).trans (l59_2 j hj), r5, by omega, (sg2.jr hX2.2.1 js3 (fun j q1 q2 (q : ps (jj + 1) ≤ j ∧ j < e) => by omega)).tr r7⟩
set_option maxHeartbeats 4000000 in
theorem jp_9 {r37 : Int32 → St → Option (Int32 × St)} {a1 a2 : Int32} {X0 : St} {n lo hi : Nat} {sc : Int} {s e : Nat} (hlo : lo ≤ n) (hhi : n < hi) (hse : s < e) (hs0 : OA X0 s 0 n) {it cu ps : Nat → Nat} (hl : n = lo) (hmany : 1 ≤ (X0.1 27 n).toInt) (hL : LSD (fun n lo hi sc s e => CX X0 n lo hi sc s e ∧ JP r37 a1 a2 X0 n lo hi sc s e) X0 n (n + 1) hi sc 1 (s + 1) e it cu ps) : JP r37 a1 a2 X0 n lo hi sc s e := by
  intro Z0 o0 d B t hX0 hw0 ho0 hea he24 hi31 hnn hd0 hnum n43_0 loc0 hval
  obtain ⟨u1, u2, u3, u4, u5, u6, u7⟩ := hnum
  have jr0 : JR Z0 Z0 (fun j => s ≤ j ∧ j < s) := JR.fr hX0.2.1 (Fr.rf (L := [])) (by decide) _
  have go0 : JGo r37 a1 a2 0 o0 o0 Z0 Z0 := JGo.rf
  have bel0 : ∀ j, j < d → Z0.1 58 j = Z0.1 58 j := fun _ _ => rfl
  have l59_0 : ∀ j : Nat, (j : Int) < sc → Z0.1 59 j = Z0.1 59 j := fun _ _ => rfl
  have hsc1 := loc0.2.1
  have hsc2 := loc0.2.2
  have hbd : ∀ n lo hi sc s e, (CX X0 n lo hi sc s e ∧ JP r37 a1 a2 X0 n lo hi sc s e) → lo ≤ n ∧ n < hi ∧ s < e := fun n lo hi sc s e q => q.1.bd
  have hpos := hL.pos hbd
  have em := ixc hL.2.2.2.2.1
  have hll := hL.le hbd 0 (by omega)
  have c0 := hL.1
  have p0 := hL.2.2.1
  have eo0 : ix o0 = s := by
    have := ixc (z := o0) (by omega)
    omega
  have hop0 : (Z0.1 40 (ix o0)).toInt = 0 := by rw [eo0, hX0.1.1 40 s (show (8000 : Nat) ∉ [9, 10, 13, 15, 28, 30, 800, 1000, 1200, 1400, 1600, 1800, 2000, 6200, 6400, 8600, 10400, 10600, 10800, 11000, 11200, 11400, 11600, 11800] from by decide)]; exact hs0.1
  have qn0 : (Z0.1 41 s).toInt = ((n : Nat) : Int) := by rw [hX0.1.1 41 s (show (8200 : Nat) ∉ [9, 10, 13, 15, 28, 30, 800, 1000, 1200, 1400, 1600, 1800, 2000, 6200, 6400, 8600, 10400, 10600, 10800, 11000, 11200, 11400, 11600, 11800] from by decide)]; exact hs0.2
  have en0 : ix (Z0.1 41 s) = n := by
    have := ixc (z := Z0.1 41 s) (by omega)
    omega
  have inn0 : inR (Z0.1 41 s) 3100 := ⟨by omega, show (Z0.1 41 s).toInt < ((3100 : Nat) : Int) by omega⟩
  have ino0 : inR o0 24000 := ⟨by omega, show o0.toInt < ((24000 : Nat) : Int) by omega⟩
  obtain ⟨o1, Z1, ho1, gs1, eZ1⟩ := jstep (r37 := r37) (a1 := a1) (a2 := a2) (s := s) (o := o0) ho0 (by omega) (by omega) hw0 (one_0 hX0.2.1 (by omega) (by omega) ⟨by omega, by omega⟩ hX0.2.2.2.2.2.2 hw0 ino0 hop0)
  have hX1 : JX X0 Z1 := by rw [← eZ1]; exact hX0
  have hw1 : (Z1.1 0 9).toInt = 0 := by rw [← eZ1]; exact hw0
  have loc1 : LOC Z1 sc B t := by rw [← eZ1]; exact loc0
  have bel1 : ∀ j, j < d → Z1.1 58 j = Z0.1 58 j := fun j _ => by rw [← eZ1]
  have l59_1 : ∀ j : Nat, (j : Int) < sc → Z1.1 59 j = Z0.1 59 j := fun j _ => by rw [← eZ1]
  have hd1 : (Z1.1 0 30).toInt = (d : Int) := by rw [← eZ1]; exact hd0
  have go1 := go0.tr gs1
  have jr1 : JR Z0 Z1 (fun j => s ≤ j ∧ j < (s + 1)) := by rw [← eZ1]; exact jr0.mono (fun j (q : s ≤ j ∧ j < s) => (⟨by omega, by omega⟩ : s ≤ j ∧ j < s + 1))
  have n43_1 : ∀ j, (s + 1) ≤ j → j < e → (Z1.1 43 j).toInt = -1 := fun j q1 q2 => by rw [← eZ1]; exact n43_0 j (by omega) q2
  have nq1 : (Z1.1 0 13).toInt = (Z0.1 0 13).toInt ∧ (Z1.1 0 15).toInt = (Z0.1 0 15).toInt ∧ (Z1.1 0 28).toInt = (Z0.1 0 28).toInt := by rw [← eZ1]; exact ⟨rfl, rfl, rfl⟩
  have oz1 : OA Z1 s 0 n := ⟨by rw [hX1.1.1 40 s (show (8000 : Nat) ∉ [9, 10, 13, 15, 28, 30, 800, 1000, 1200, 1400, 1600, 1800, 2000, 6200, 6400, 8600, 10400, 10600, 10800, 11000, 11200, 11400, 11600, 11800] from by decide)]; exact hs0.1, by rw [hX1.1.1 41 s (show (8200 : Nat) ∉ [9, 10, 13, 15, 28, 30, 800, 1000, 1200, 1400, 1600, 1800, 2000, 6200, 6400, 8600, 10400, 10600, 10800, 11000, 11200, 11400, 11600, 11800] from by decide)]; exact hs0.2⟩
  have sg1 : SEG Z1 s (s + 1) t (exn t (f3 0 0 0) 0) := SEG.step (hval.kx jr1.2.2.1) oz1 (by omega) exn_zero
  have sg1t : SEG Z1 s (s + 1) t t := sg1.to exn_back
  obtain ⟨cc2, o2, Z2, gs2, b2, js2, ns2, ps2⟩ := jl_1 hL (ix (X0.1 27 n) - 1) 0 (by omega) Z1 o1 d B t hX1 hw1 (by omega) hea he24 hi31 hnn hd1 (by omega) (fun j q1 q2 => n43_1 j (by omega) q2) loc1 (hval.kx jr1.2.2.1)
  have mg2 := js2.2.2.2.1.1
  refine ⟨_, o2, Z2, go1.tr gs2, by omega, (jr1.mono (fun j (q : s ≤ j ∧ j < (s + 1)) => (⟨by omega, by omega⟩ : s ≤ j ∧ j < e))).tr (js2.mono (fun j (q : ps 0 ≤ j ∧ j < e) => (⟨by omega, by omega⟩ : s ≤ j ∧ j < e))), ⟨by omega, by omega, by omega⟩, fun hwz => ?_⟩
  obtain ⟨r1, r2, r3, r4, r5, r6, r7⟩ := ps2 hwz
  rw [p0] at r7
  exact ⟨r1, r2, fun j hj => (r3 j hj).trans (bel1 j hj), fun j hj => (r4 j hj).trans (l59_1 j hj), r5, by omega, (sg1t.jr hX1.2.1 js2 (fun j q1 q2 (q : ps 0 ≤ j ∧ j < e) => by omega)).tr r7⟩
