/-- a tree judged leads on from every type that fits -/
theorem JP.all {r37 : Int32 → St → Option (Int32 × St)} {a1 a2 : Int32} {X0 : St} {n lo hi : Nat} {sc : Int} {s e : Nat} (h : JP r37 a1 a2 X0 n lo hi sc s e) {Z : St} {o : Int32} {d B : Nat} {t : Ty} (h1 : JX X0 Z) (h2 : (Z.1 0 9).toInt = 0) (h3 : o.toInt = (s : Int)) (h4 : (e : Int) ≤ a2.toInt) (h5 : e ≤ 24000) (h6 : hi ≤ 3100) (h7 : (hi : Int) ≤ (X0.1 0 19).toInt) (h8 : (Z.1 0 30).toInt = (d : Int)) (h9 : d + hi + 20 ≤ 3190 + lo ∧ (Z.1 0 13).toInt + hi ≤ 5990 + (lo : Int) ∧ (Z.1 0 15).toInt + 5 * (hi : Int) ≤ 19900 + 5 * (lo : Int) ∧ 0 ≤ (Z.1 0 28).toInt ∧ (Z.1 0 28).toInt + hi ≤ 11900 + (lo : Int) ∧ B + hi ≤ 6002 + lo ∧ 3002 ≤ B) (h10 : ∀ j, s ≤ j → j < e → (Z.1 43 j).toInt = -1) (h11 : LOC Z sc B t) (h12 : VAL Z t) : ∃ c o1 Y, JGo r37 a1 a2 c o o1 Z Y ∧ c + s ≤ e ∧ JR Z Y (fun i => s ≤ i ∧ i < e) ∧ ((Y.1 0 13).toInt + lo ≤ (Z.1 0 13).toInt + hi ∧ (Y.1 0 15).toInt + 5 * (lo : Int) ≤ (Z.1 0 15).toInt + 5 * (hi : Int) ∧ (Y.1 0 28).toInt + 1 + lo ≤ (Z.1 0 28).toInt + hi) ∧ ((Y.1 0 9).toInt = 0 → o1.toInt = (e : Int) ∧ (Y.1 0 30).toInt = (d : Int) + 1 ∧ (∀ i, i < d → Y.1 58 i = Z.1 58 i) ∧ (∀ j : Nat, (j : Int) < sc → Y.1 59 j = Z.1 59 j) ∧ VK Y (Y.1 58 d) ∧ ksz Y (ix (Y.1 58 d)) + lo ≤ B + hi ∧ ∀ t', LOC Z sc B t' → VAL Z t' → SEG Y s e t' (psh t' (Y.1 58 d))) := by
  obtain ⟨c, o1, Y, g1, g2, g3, g4, g5⟩ := h Z o d B t h1 h2 h3 h4 h5 h6 h7 h8 h9 h10 h11 h12
  refine ⟨c, o1, Y, g1, g2, g3, g4, fun hw => ?_⟩
  obtain ⟨q1, q2, q3, q4, q5, q6, -⟩ := g5 hw
  refine ⟨q1, q2, q3, q4, q5, q6, fun t' h11' h12' => ?_⟩
  obtain ⟨c', o1', Y', g1', g2', g3', g4', g5'⟩ := h Z o d B t' h1 h2 h3 h4 h5 h6 h7 h8 h9 h10 h11' h12'
  have hlen := g1.2.len (by omega) (by omega)
  have hw' := g1.well g1' (by omega) hw
  obtain ⟨q1', -, -, -, -, -, q7'⟩ := g5' hw'
  have : Y = Y' := g1.same g1' ⟨by omega, by omega⟩ (by omega) (by omega) (by omega)
  subst this
  exact q7'
set_option maxHeartbeats 4000000 in
theorem jl_0 {r37 : Int32 → St → Option (Int32 × St)} {a1 a2 : Int32} {X0 : St} {n l r : Nat} {sc : Int} {s1 e : Nat} {it cu ps : Nat → Nat} (hl : LSD (fun n lo hi sc s e => CX X0 n lo hi sc s e ∧ JP r37 a1 a2 X0 n lo hi sc s e) X0 n l r sc 0 s1 e it cu ps) {m : Nat} (hm : ix (X0.1 27 n) = m) (hm20 : m ≤ 20) {d B : Nat} {t : Ty} : ∀ (dd jj : Nat), jj + dd = m → ∀ (Z0 : St) (o0 : Int32), JX X0 Z0 → (Z0.1 0 9).toInt = 0 → o0.toInt = (ps jj : Int) → (e : Int) ≤ a2.toInt → e ≤ 24000 → r ≤ 3100 → (r : Int) ≤ (X0.1 0 19).toInt → (Z0.1 0 30).toInt = (d : Int) + jj → (d + jj + r + 20 ≤ 3190 + cu jj ∧ (Z0.1 0 13).toInt + r ≤ 5990 + (cu jj : Int) ∧ (Z0.1 0 15).toInt + 5 * (r : Int) ≤ 19900 + 5 * (cu jj : Int) ∧ 0 ≤ (Z0.1 0 28).toInt ∧ (Z0.1 0 28).toInt + r ≤ 11900 + (cu jj : Int) ∧ B + r ≤ 6002 + cu jj ∧ 3002 ≤ B) → (∀ j, ps jj ≤ j → j < e → (Z0.1 43 j).toInt = -1) → LOC Z0 sc B t → VAL Z0 t → (0 < jj → VK Z0 (Z0.1 58 d)) → ∃ c o1 Y, JGo r37 a1 a2 c o0 o1 Z0 Y ∧ c + ps jj ≤ e ∧ JR Z0 Y (fun j => ps jj ≤ j ∧ j < e) ∧ ((Y.1 0 13).toInt + cu jj ≤ (Z0.1 0 13).toInt + r ∧ (Y.1 0 15).toInt + 5 * (cu jj : Int) ≤ (Z0.1 0 15).toInt + 5 * (r : Int) ∧ ((Y.1 0 28).toInt + cu jj ≤ (Z0.1 0 28).toInt + r ∧ ((Y.1 0 9).toInt = 0 → (Y.1 0 28).toInt + cu jj + m ≤ (Z0.1 0 28).toInt + r + jj))) ∧ ((Y.1 0 9).toInt = 0 → o1.toInt = (e : Int) ∧ (Y.1 0 30).toInt = (d : Int) + m ∧ (∀ j, j < d + jj → Y.1 58 j = Z0.1 58 j) ∧ (∀ j : Nat, (j : Int) < sc → Y.1 59 j = Z0.1 59 j) ∧ (∀ i, jj ≤ i → i < m → VK Y (Y.1 58 (d + i)) ∧ ksz Y (ix (Y.1 58 (d + i))) + cu i ≤ B + cu (i + 1) ∧ (Y.1 43 (ps (i + 1) - 1)).toInt = -1) ∧ ∀ ee : Int32, (ee = 2 ∨ ee = Y.1 58 d) → ∀ i, jj ≤ i → i < m → SEG Y (ps i) (ps (i + 1) - 1) (exn t (fun _ => ee) i) (psh (exn t (fun _ => ee) i) (Y.1 58 (d + i)))) := by
  have hbd : ∀ n lo hi sc s e, (CX X0 n lo hi sc s e ∧ JP r37 a1 a2 X0 n lo hi sc s e) → lo ≤ n ∧ n < hi ∧ s < e := fun n lo hi sc s e q => q.1.bd
  have hle := hl.le hbd
  obtain ⟨hl1, hl2, hl3, hl4, hl5, hl6, hl7, hl8⟩ := hl
  rw [hm] at hl2 hl4 hl8 hle
  intro dd
  induction dd with
  | zero =>
    intro jj hjj Z0 o0 hX0 hw0 ho0 hea he24 hi31 hnn hd0 hnum n43_0 loc0 hval hvd
    have hje : jj = m := by omega
    subst hje
    rw [hl2, hl4]
    rw [hl4] at ho0
    exact ⟨0, o0, Z0, JGo.rf, by omega, JR.fr hX0.2.1 (Fr.rf (L := [])) (by decide) _, ⟨by omega, by omega, by omega, fun _ => by omega⟩, fun _ => ⟨ho0, by omega, fun _ _ => rfl, fun _ _ => rfl, fun i h1 h2 => absurd h1 (by omega), fun _ _ i h1 h2 => absurd h1 (by omega)⟩⟩
  | succ dd ih =>
    intro jj hjj Z0 o0 hX0 hw0 ho0 hea he24 hi31 hnn hd0 hnum n43_0 loc0 hval hvd
    obtain ⟨u1, u2, u3, u4, u5, u6, u7⟩ := hnum
    obtain ⟨⟨p, hA, hm2⟩, -⟩ := hl8 jj (by omega)
    have hlj := hle jj (by omega)
    have bA := hA.1.bd
    obtain ⟨hs1, h45, hpq⟩ : OA X0 p 14 (it jj) ∧ (X0.1 45 (it jj)).toInt = p ∧ ps (jj + 1) = p + 1 := by rcases hm2 with ⟨_, q⟩ | ⟨q, _⟩ | ⟨q, _⟩ <;> first | exact q | exact absurd q (by omega)
    have hpe : ps (jj + 1) - 1 = p := by omega
    have jr0 : JR Z0 Z0 (fun j => ps jj ≤ j ∧ j < ps jj) := JR.fr hX0.2.1 (Fr.rf (L := [])) (by decide) _
    have go0 : JGo r37 a1 a2 0 o0 o0 Z0 Z0 := JGo.rf
    have bel0 : ∀ j, j < d + jj → Z0.1 58 j = Z0.1 58 j := fun _ _ => rfl
    have l59_0 : ∀ j : Nat, (j : Int) < sc → Z0.1 59 j = Z0.1 59 j := fun _ _ => rfl
    have hsc1 := loc0.2.1
    have hsc2 := loc0.2.2
    obtain ⟨cc1, o1, Z1, gs1, b1, js1, ns1, ps1⟩ := hA.2.all (d := d + jj) (B := B) (t := t) hX0 hw0 ho0 (by omega) (by omega) (by omega) (by omega) (by omega) (by omega) (fun j q1 q2 => n43_0 j q1 (by omega)) loc0 hval
    have mg1 := js1.2.2.2.1.1
    have mk1 := js1.2.2.1.1
    have hX1 := hX0.jr js1
    by_cases hw1 : (Z1.1 0 9).toInt = 0
    rotate_left
    · exact ⟨_, o1, Z1, gs1, by omega, js1.mono (fun j (q : ps jj ≤ j ∧ j < p) => (⟨by omega, by omega⟩ : ps jj ≤ j ∧ j < e)), ⟨by omega, by omega, by omega, fun q => absurd q hw1⟩, fun q => absurd q hw1⟩
    obtain ⟨ho1, hd1, h58_1, h59_1, w1, y1, sc1⟩ := ps1 hw1
    have loc1 : LOC Z1 sc B t := loc0.jr hX0.2.1 js1 h59_1
    have n43_1 : ∀ j, p ≤ j → j < e → (Z1.1 43 j).toInt = -1 := fun j q1 q2 => by rw [js1.2.2.2.2 j (fun (q : ps jj ≤ j ∧ j < p) => by omega)]; exact n43_0 j (by omega) q2
    have eo1 : ix o1 = p := by
      have := ixc (z := o1) (by omega)
      omega
    have hop1 : (Z1.1 40 (ix o1)).toInt = 14 := by rw [eo1, hX1.1.1 40 p (show (8000 : Nat) ∉ [9, 10, 13, 15, 28, 30, 800, 1000, 1200, 1400, 1600, 1800, 2000, 6200, 6400, 8600, 10400, 10600, 10800, 11000, 11200, 11400, 11600, 11800] from by decide)]; exact hs1.1
    have qn1 : (Z1.1 41 p).toInt = (((it jj) : Nat) : Int) := by rw [hX1.1.1 41 p (show (8200 : Nat) ∉ [9, 10, 13, 15, 28, 30, 800, 1000, 1200, 1400, 1600, 1800, 2000, 6200, 6400, 8600, 10400, 10600, 10800, 11000, 11200, 11400, 11600, 11800] from by decide)]; exact hs1.2
    have en1 : ix (Z1.1 41 p) = (it jj) := by
      have := ixc (z := Z1.1 41 p) (by omega)
      omega
    have inn1 : inR (Z1.1 41 p) 3100 := ⟨by omega, show (Z1.1 41 p).toInt < ((3100 : Nat) : Int) by omega⟩
    have ino1 : inR o1 24000 := ⟨by omega, show o1.toInt < ((24000 : Nat) : Int) by omega⟩
    obtain ⟨o2, Z2, ho2, gs2, eZ2⟩ := jstep (r37 := r37) (a1 := a1) (a2 := a2) (s := p) (o := o1) (by omega) (by omega) (by omega) hw1 (one_14 hX1.2.1 (by omega) (by omega) ⟨by omega, by omega⟩ hX1.2.2.2.2.2.2 hw1 ino1 hop1)
    subst eZ2
    have vd1 : VK Z1 (Z1.1 58 d) := by
      by_cases q : jj = 0
      · have z : d + jj = d := by omega
        rw [z] at w1
        exact w1
      · rw [h58_1 d (by omega)]
        exact (hvd (by omega)).kx js1.2.2.1
    obtain ⟨cc3, o3, Z3, gs3, b3, js3, ns3, ps3⟩ := ih (jj + 1) (by omega) Z1 o2 hX1 hw1 (by omega) hea he24 hi31 hnn (by omega) (by omega) (fun j q1 q2 => n43_1 j (by omega) q2) loc1 (hval.kx js1.2.2.1) (fun _ => vd1)
    have mg3 := js3.2.2.2.1.1
    refine ⟨_, o3, Z3, (gs1.tr gs2).tr gs3, by omega, (js1.mono (fun j (q : ps jj ≤ j ∧ j < p) => (⟨by omega, by omega⟩ : ps jj ≤ j ∧ j < e))).tr (js3.mono (fun j (q : ps (jj + 1) ≤ j ∧ j < e) => (⟨by omega, by omega⟩ : ps jj ≤ j ∧ j < e))), ⟨by omega, by omega, by omega, fun hwz => by have := ns3.2.2.2 hwz; omega⟩, fun hwz => ?_⟩
    obtain ⟨r1, r2, r3, r4, r5, r6⟩ := ps3 hwz
    have e58 : Z3.1 58 (d + jj) = Z1.1 58 (d + jj) := r3 _ (by omega)
    have e58d : Z3.1 58 d = Z1.1 58 d := r3 _ (by omega)
    refine ⟨r1, r2, fun j hj => (r3 j (by omega)).trans (h58_1 j hj), fun j hj => (r4 j hj).trans (h59_1 j hj), fun i h1 h2 => ?_, fun ee hee i h1 h2 => ?_⟩
    · by_cases q : i = jj
      · rw [q, e58, hpe, js3.2.2.2.2 p (fun (q : ps (jj + 1) ≤ p ∧ p < e) => by omega)]
        refine ⟨w1.kx js3.2.2.1, ?_, n43_1 p (Nat.le_refl _) (by omega)⟩
        rw [ksz_kx hX1.2.1 js3.2.1 js3.2.2.1 _ (by have := ixc w1.1; have := w1.2; omega)]
        exact y1
      · exact r5 i (by omega) h2
    · by_cases q : i = jj
      · rw [q, e58, hpe]
        have hve : ∀ j, j < jj → VK Z0 ee := fun j hj => by
          rcases hee with q2 | q2
          · rw [q2]
            exact ⟨by decide, by have := hX0.2.2.1.1; have z : (2 : Int32).toInt = 2 := rfl; omega⟩
          · rw [q2, e58d, h58_1 d (by omega)]
            exact hvd (by omega)
        exact (sc1 (exn t (fun _ => ee) jj) ⟨loc0.1, hsc1, hsc2⟩ (hval.exn hve)).jr hX1.2.1 js3 (fun j q1 q2 (q : ps (jj + 1) ≤ j ∧ j < e) => by omega)
      · exact r6 ee hee i (by omega) h2
set_option maxHeartbeats 4000000 in
theorem jp_4 {r37 : Int32 → St → Option (Int32 × St)} {a1 a2 : Int32} {X0 : St} {n lo hi : Nat} {sc : Int} {s e : Nat} (hlo : lo ≤ n) (hhi : n < hi) (hse : s < e) (hs0 : OA X0 s 0 n) {it cu ps : Nat → Nat} {pq : Nat} (hl : n = lo) (hmany : (X0.1 27 n).toInt ≤ 20) (hL : LSD (fun n lo hi sc s e => CX X0 n lo hi sc s e ∧ JP r37 a1 a2 X0 n lo hi sc s e) X0 n (n + 1) hi sc 0 (s + 1) pq it cu ps) (hs2 : OA X0 pq 18 n) (hee : e = pq + 1) : JP r37 a1 a2 X0 n lo hi sc s e := by
  intro Z0 o0 d B t hX0 hw0 ho0 hea he24 hi31 hnn hd0 hnum n43_0 loc0 hval
  obtain ⟨u1, u2, u3, u4, u5, u6, u7⟩ := hnum
  have jr0 : JR Z0 Z0 (fun j => s ≤ j ∧ j < s) := JR.fr hX0.2.1 (Fr.rf (L := [])) (by decide) _
  have go0 : JGo r37 a1 a2 0 o0 o0 Z0 Z0 := JGo.rf
  have bel0 : ∀ j, j < d → Z0.1 58 j = Z0.1 58 j := fun _ _ => rfl
  have l59_0 : ∀ j : Nat, (j : Int) < sc → Z0.1 59 j = Z0.1 59 j := fun _ _ => rfl
  have hsc1 := loc0.2.1
  have hsc2 := loc0.2.2
  have hbd : ∀ n lo hi sc s e, (CX X0 n lo hi sc s e ∧ JP r37 a1 a2 X0 n lo hi sc s e) → lo ≤ n ∧ n < hi ∧ s < e := fun n lo hi sc s e q => q.1.bd
  have hpos := hL.pos hbd
  have hle := hL.le hbd
  have em := ixc hL.2.2.2.2.1
  have c0 := hL.1
  have p0 := hL.2.2.1
  have pm := hL.2.2.2.1
  have hL6 := hL.2.2.2.2.2.1
  have hL7 := hL.2.2.2.2.2.2.1
  have hL8 := hL.2.2.2.2.2.2.2
  obtain ⟨m, hm⟩ : ∃ m, ix (X0.1 27 n) = m := ⟨_, rfl⟩
  rw [hm] at hle hL8 pm
  have eo0 : ix o0 = s := by
    have := ixc (z := o0) (by omega)
    omega
  have hop0 : (Z0.1 40 (ix o0)).toInt = 0 := by rw [eo0, hX0.1.1 40 s (show (8000 : Nat) ∉ [9, 10, 13, 15, 28, 30, 800, 1000, 1200, 1400, 1600, 1800, 2000, 6200, 6400, 8600, 10400, 10600, 10800, 11000, 11200, 11400, 11600, 11800] from by decide)]; exact hs0.1
  have qn0 : (Z0.1 41 s).toInt = ((n : Nat) : Int) := by rw [hX0.1.1 41 s (show (8200 : Nat) ∉ [9, 10, 13, 15, 28, 30, 800, 1000, 1200, 1400, 1600, 1800, 2000, 6200, 6400, 8600, 10400, 10600, 10800, 11000, 11200, 11400, 11600, 11800] from by decide)]; exact hs0.2
  have en0 : ix (Z0.1 41 s) = n := by
    have := ixc (z := Z0.1 41 s) (by omega)
    omega
  have inn0 : inR (Z0.1 41 s) 3100 := ⟨by omega, show (Z0.1 41 s).toInt < ((3100 : Nat) : Int) by omega⟩
  have ino0 : inR o0 24000 := ⟨by omega, show o0.toInt < ((24000 : Nat) : Int) by omega⟩
  obtain ⟨o1, Z1, ho1, gs1, eZ1⟩ := jstep (r37 := r37) (a1 := a1) (a2 := a2) (s := s) (o := o0) ho0 (by omega) (by omega) hw0 (one_0 hX0.2.1 (by omega) (by omega) ⟨by omega, by omega⟩ hX0.2.2.2.2.2.2 hw0 ino0 hop0)
  have hX1 : JX X0 Z1 := by rw [← eZ1]; exact hX0
  have hw1 : (Z1.1 0 9).toInt = 0 := by rw [← eZ1]; exact hw0
  have loc1 : LOC Z1 sc B t := by rw [← eZ1]; exact loc0
  have bel1 : ∀ j, j < d → Z1.1 58 j = Z0.1 58 j := fun j _ => by rw [← eZ1]
  have l59_1 : ∀ j : Nat, (j : Int) < sc → Z1.1 59 j = Z0.1 59 j := fun j _ => by rw [← eZ1]
  have hd1 : (Z1.1 0 30).toInt = (d : Int) := by rw [← eZ1]; exact hd0
  have go1 := go0.tr gs1
  have jr1 : JR Z0 Z1 (fun j => s ≤ j ∧ j < (s + 1)) := by rw [← eZ1]; exact jr0.mono (fun j (q : s ≤ j ∧ j < s) => (⟨by omega, by omega⟩ : s ≤ j ∧ j < s + 1))
  have n43_1 : ∀ j, (s + 1) ≤ j → j < e → (Z1.1 43 j).toInt = -1 := fun j q1 q2 => by rw [← eZ1]; exact n43_0 j (by omega) q2
  have nq1 : (Z1.1 0 13).toInt = (Z0.1 0 13).toInt ∧ (Z1.1 0 15).toInt = (Z0.1 0 15).toInt ∧ (Z1.1 0 28).toInt = (Z0.1 0 28).toInt := by rw [← eZ1]; exact ⟨rfl, rfl, rfl⟩
  have oz1 : OA Z1 s 0 n := ⟨by rw [hX1.1.1 40 s (show (8000 : Nat) ∉ [9, 10, 13, 15, 28, 30, 800, 1000, 1200, 1400, 1600, 1800, 2000, 6200, 6400, 8600, 10400, 10600, 10800, 11000, 11200, 11400, 11600, 11800] from by decide)]; exact hs0.1, by rw [hX1.1.1 41 s (show (8200 : Nat) ∉ [9, 10, 13, 15, 28, 30, 800, 1000, 1200, 1400, 1600, 1800, 2000, 6200, 6400, 8600, 10400, 10600, 10800, 11000, 11200, 11400, 11600, 11800] from by decide)]; exact hs0.2⟩
  have sg1 : SEG Z1 s (s + 1) t (exn t (f3 0 0 0) 0) := SEG.step (hval.kx jr1.2.2.1) oz1 (by omega) exn_zero
  obtain ⟨cc2, o2, Z2, gs2, b2, js2, ns2, ps2⟩ := jl_0 hL hm (by omega) (d := d) (B := B) (t := t) m 0 (by omega) Z1 o1 hX1 hw1 (by omega) (by omega) (by omega) hi31 hnn (by omega) (by omega) (fun j q1 q2 => n43_1 j (by omega) (by omega)) ⟨loc1.1, hsc1, hsc2⟩ (hval.kx jr1.2.2.1) (fun q => absurd q (by omega))
  have mg2 := js2.2.2.2.1.1
  have mk2 := js2.2.2.1.1
  have hX2 := hX1.jr js2
  have go2 := go1.tr gs2
  have jr2 : JR Z0 Z2 (fun j => s ≤ j ∧ j < pq) := (jr1.mono (fun j (q : s ≤ j ∧ j < (s + 1)) => (⟨by omega, by omega⟩ : s ≤ j ∧ j < pq))).tr (js2.mono (fun j (q : ps 0 ≤ j ∧ j < pq) => (⟨by omega, by omega⟩ : s ≤ j ∧ j < pq)))
  by_cases hw2 : (Z2.1 0 9).toInt = 0
  rotate_left
  · exact ⟨_, o2, Z2, go2, by omega, jr2.mono (fun j (q : s ≤ j ∧ j < pq) => (⟨by omega, by omega⟩ : s ≤ j ∧ j < e)), ⟨by omega, by omega, by omega⟩, fun q => absurd q hw2⟩
  obtain ⟨ho2, hd2, h58_2, h59_2, it2, sg2⟩ := ps2 hw2
  have ng2 := ns2.2.2.2 hw2
  have kp2 : ∀ j, j < d + 0 → Z2.1 58 j = Z1.1 58 j := fun j hj => h58_2 j (by omega)
  have bel2 : ∀ j, j < d → Z2.1 58 j = Z0.1 58 j := fun j hj => (kp2 j (by omega)).trans (bel1 j hj)
  have k59_2 : ∀ j : Nat, (j : Int) < sc → Z2.1 59 j = Z1.1 59 j := fun j hj => h59_2 j hj
  have l59_2 : ∀ j : Nat, (j : Int) < sc → Z2.1 59 j = Z0.1 59 j := fun j hj => (k59_2 j hj).trans (l59_1 j hj)
  have loc2 : LOC Z2 sc B t := loc1.jr hX1.2.1 js2 k59_2
  have n43_2 : ∀ j, pq ≤ j → j < e → (Z2.1 43 j).toInt = -1 := fun j q1 q2 => by rw [js2.2.2.2.2 j (fun (q : ps 0 ≤ j ∧ j < pq) => by omega)]; exact n43_1 j (by omega) q2
  have eo2 : ix o2 = pq := by
    have := ixc (z := o2) (by omega)
    omega
  have hop2 : (Z2.1 40 (ix o2)).toInt = 18 := by rw [eo2, hX2.1.1 40 pq (show (8000 : Nat) ∉ [9, 10, 13, 15, 28, 30, 800, 1000, 1200, 1400, 1600, 1800, 2000, 6200, 6400, 8600, 10400, 10600, 10800, 11000, 11200, 11400, 11600, 11800] from by decide)]; exact hs2.1
  have qn2 : (Z2.1 41 pq).toInt = ((n : Nat) : Int) := by rw [hX2.1.1 41 pq (show (8200 : Nat) ∉ [9, 10, 13, 15, 28, 30, 800, 1000, 1200, 1400, 1600, 1800, 2000, 6200, 6400, 8600, 10400, 10600, 10800, 11000, 11200, 11400, 11600, 11800] from by decide)]; exact hs2.2
  have en2 : ix (Z2.1 41 pq) = n := by
    have := ixc (z := Z2.1 41 pq) (by omega)
    omega
  have inn2 : inR (Z2.1 41 pq) 3100 := ⟨by omega, show (Z2.1 41 pq).toInt < ((3100 : Nat) : Int) by omega⟩
  have ino2 : inR o2 24000 := ⟨by omega, show o2.toInt < ((24000 : Nat) : Int) by omega⟩
  have e27 : Z2.1 27 n = X0.1 27 n := hX2.1.1 27 n (show (5400 : Nat) ∉ [9, 10, 13, 15, 28, 30, 800, 1000, 1200, 1400, 1600, 1800, 2000, 6200, 6400, 8600, 10400, 10600, 10800, 11000, 11200, 11400, 11600, 11800] from by decide)
  have e24 : Z2.1 24 n = X0.1 24 n := hX2.1.1 24 n (show (4800 : Nat) ∉ [9, 10, 13, 15, 28, 30, 800, 1000, 1200, 1400, 1600, 1800, 2000, 6200, 6400, 8600, 10400, 10600, 10800, 11000, 11200, 11400, 11600, 11800] from by decide)
  have hit : ∀ k, k < m → OA X0 (ps (k + 1) - 1) 14 (it k) ∧ (X0.1 45 (it k)).toInt = ((ps (k + 1) - 1 : Nat) : Int) := by
    intro k hk2
    obtain ⟨⟨p, -, hm2⟩, -⟩ := hL8 k hk2
    have hlk := hle k hk2
    obtain ⟨w1, w2, w3⟩ : OA X0 p 14 (it k) ∧ (X0.1 45 (it k)).toInt = p ∧ ps (k + 1) = p + 1 := by rcases hm2 with ⟨_, q⟩ | ⟨q, _⟩ | ⟨q, _⟩ <;> first | exact q | exact absurd q (by omega)
    have w4 : ps (k + 1) - 1 = p := by omega
    rw [w4]
    exact ⟨w1, w2⟩
  have hmono : ∀ a b, a ≤ b → b ≤ m → ps a ≤ ps b := by
    intro a b hab hb
    obtain ⟨w, hw⟩ : ∃ w, b = a + w := ⟨b - a, by omega⟩
    rw [hw]
    exact (ps_mono hL hbd w a (by omega)).2
  obtain ⟨o3, Z3, ho3, gs3, js3, ns3, ps3⟩ := jstep (r37 := r37) (a1 := a1) (a2 := a2) (s := pq) (o := o2) (by omega) (by omega) (by omega) hw2 (one_18 hX2.2.1 (by omega) (by omega) ⟨by omega, by omega⟩ hX2.2.2.2.2.2.2 hw2 ino2 hop2 hX2.2.2.1 (d := d) (m := m) (it := it) (eo := fun k => ps (k + 1) - 1) (by omega) (by omega) (by omega) (by omega) inn2 (by rw [en2, e27]; omega) (by rw [en2, e24]; exact ⟨fun q => hL6 (by omega), fun q => hL7 (by omega)⟩) (fun k hk2 => by have := hle k hk2; omega) (fun k hk2 => by have q3 := hle k hk2; rw [hX2.1.1 45 (it k) (show (9000 : Nat) ∉ [9, 10, 13, 15, 28, 30, 800, 1000, 1200, 1400, 1600, 1800, 2000, 6200, 6400, 8600, 10400, 10600, 10800, 11000, 11200, 11400, 11600, 11800] from by decide)]; exact ⟨(hit k hk2).2, by omega⟩) (fun a b ha hb q3 => by
    have w1 := hle a ha
    have w2 := hle b hb
    have q4 : ps (a + 1) - 1 = ps (b + 1) - 1 := q3
    by_cases g1 : a < b
    · have := hmono (a + 1) b (by omega) (by omega)
      omega
    · by_cases g2 : b < a
      · have := hmono (b + 1) a (by omega) (by omega)
        omega
      · omega) (fun k hk2 => (it2 k (by omega) hk2).2.2) (fun k hk2 => (it2 k (by omega) hk2).1) (fun k hk2 => by rw [hX2.1.1 28 (it k) (show (5600 : Nat) ∉ [9, 10, 13, 15, 28, 30, 800, 1000, 1200, 1400, 1600, 1800, 2000, 6200, 6400, 8600, 10400, 10600, 10800, 11000, 11200, 11400, 11600, 11800] from by decide)]; exact (hL8 k hk2).2))
  have js3 : JR Z2 Z3 (fun j => ∃ k, k < m ∧ j = ps (k + 1) - 1) := js3
  have mg3 := js3.2.2.2.1.1
  have mk3 := js3.2.2.1.1
  have hX3 := hX2.jr js3
  have go3 := go2.tr gs3
  have jr3 : JR Z0 Z3 (fun j => s ≤ j ∧ j < e) := (jr2.mono (fun j (q : s ≤ j ∧ j < pq) => (⟨by omega, by omega⟩ : s ≤ j ∧ j < e))).tr (js3.mono (fun j (q : ∃ k, k < m ∧ j = ps (k + 1) - 1) => by
    obtain ⟨k, q1, q2⟩ := q
    have := hle k q1
    exact (⟨by omega, by omega⟩ : s ≤ j ∧ j < e)))
  refine ⟨_, o3, Z3, go3, by omega, jr3, ⟨by omega, by omega, by omega⟩, fun hw3 => ?_⟩
  obtain ⟨hd3, ⟨ee, rk, ve, gr, sz⟩, h58_3, h59_3⟩ := ps3 hw3
  have gr : ∀ k, k < m → GRD Z3 (ps (k + 1) - 1) (Z2.1 58 (d + k)) ee := gr
  have vR : VK Z3 (Z3.1 58 d) := ⟨rk.1, rk.2.1⟩
  have hz : ee = 2 ∨ ee = Z2.1 58 d := by
    rcases sz with q | q
    · exact Or.inl q.1
    · exact Or.inr q.2.1
  have sgi := sg2 ee hz
  obtain ⟨kR, qkR⟩ : ∃ x, x = Z3.1 58 d := ⟨_, rfl⟩
  rw [← qkR] at rk vR sz
  have lad : ∀ w, w ≤ m → SEG Z3 s (ps w) t (exn t (fun _ => ee) w) := by
    intro w
    induction w with
    | zero =>
      intro _
      rw [p0]
      exact ((sg1.jr hX1.2.1 js2 (fun j q1 q2 (q : ps 0 ≤ j ∧ j < pq) => by omega)).jr hX2.2.1 js3 (fun j q1 q2 (q : ∃ k, k < m ∧ j = ps (k + 1) - 1) => by
        obtain ⟨k, q3, q4⟩ := q
        have := hle k q3
        omega)).to (exn_eq (fun j hj => absurd hj (Nat.not_lt_zero _)))
    | succ w ihw =>
      intro hw5
      have i1 := ihw (by omega)
      have hlw := hle w (by omega)
      have i2 := (sgi w (by omega) (by omega)).jr hX2.2.1 js3 (fun j q1 q2 (q : ∃ k, k < m ∧ j = ps (k + 1) - 1) => by
        obtain ⟨k, q3, q4⟩ := q
        have w1 := hle k q3
        by_cases g1 : k < w
        · have := hmono (k + 1) w (by omega) (by omega)
          omega
        · by_cases g2 : w < k
          · have := hmono (w + 1) k (by omega) (by omega)
            omega
          · have : k = w := by omega
            subst this
            omega)
      have vw := ((it2 w (by omega) (by omega)).1).kx js3.2.2.1
      obtain ⟨b1, b2⟩ := hit w (by omega)
      have ozw : OA Z3 (ps (w + 1) - 1) 14 (it w) := ⟨by rw [hX3.1.1 40 (ps (w + 1) - 1) (show (8000 : Nat) ∉ [9, 10, 13, 15, 28, 30, 800, 1000, 1200, 1400, 1600, 1800, 2000, 6200, 6400, 8600, 10400, 10600, 10800, 11000, 11200, 11400, 11600, 11800] from by decide)]; exact b1.1, by rw [hX3.1.1 41 (ps (w + 1) - 1) (show (8200 : Nat) ∉ [9, 10, 13, 15, 28, 30, 800, 1000, 1200, 1400, 1600, 1800, 2000, 6200, 6400, 8600, 10400, 10600, 10800, 11000, 11200, 11400, 11600, 11800] from by decide)]; exact b1.2⟩
      have i3 : SEG Z3 (ps (w + 1) - 1) (ps (w + 1) - 1 + 1) (exn t (tup (fun _ => ee) w (Z2.1 58 (d + w))) (w + 1)) (exn t (fun _ => ee) (w + 1)) := SEG.gd1 (m := w) ((hval.kx jr3.2.2.1).exn (tup_vk (fun _ _ => ve) vw)) ozw (by omega) (by decide) (by rw [tup_at]; exact gr w (by omega)) ve (fun j hj => by show ee = tup (fun _ => ee) w (Z2.1 58 (d + w)) j; rw [tup_ne _ _ (by omega)]) rfl
      rw [show ps (w + 1) - 1 + 1 = ps (w + 1) by omega] at i3
      exact (i1.tr (i2.to (exn_psh0 (fun j hj => tup_ne _ _ (by omega)) (tup_at _ _ _)))).tr i3
  have l1 := lad m (Nat.le_refl _)
  rw [pm] at l1
  have oz3 : OA Z3 pq 18 n := ⟨by rw [hX3.1.1 40 pq (show (8000 : Nat) ∉ [9, 10, 13, 15, 28, 30, 800, 1000, 1200, 1400, 1600, 1800, 2000, 6200, 6400, 8600, 10400, 10600, 10800, 11000, 11200, 11400, 11600, 11800] from by decide)]; exact hs2.1, by rw [hX3.1.1 41 pq (show (8200 : Nat) ∉ [9, 10, 13, 15, 28, 30, 800, 1000, 1200, 1400, 1600, 1800, 2000, 6200, 6400, 8600, 10400, 10600, 10800, 11000, 11200, 11400, 11600, 11800] from by decide)]; exact hs2.2⟩
  have l2 : SEG Z3 pq (pq + 1) (exn t (fun _ => ee) m) (psh t kR) := SEG.row ((hval.kx jr3.2.2.1).exn (fun _ _ => ve)) oz3 (by omega) (m := m) (by rw [hX3.1.1 27 n (show (5400 : Nat) ∉ [9, 10, 13, 15, 28, 30, 800, 1000, 1200, 1400, 1600, 1800, 2000, 6200, 6400, 8600, 10400, 10600, 10800, 11000, 11200, 11400, 11600, 11800] from by decide)]; omega) (by omega) (by show m ≤ t.1 + m; omega) (fun j hj => by rw [exn_tp hj]) rk ((exn_psh (g := fun _ => kR) (Nat.le_refl _) (fun j hj => by omega) rfl).tr (by rw [show m - m + 1 = 1 by omega]; exact exn_end rfl))
  have zz : ksz Z3 (ix kR) + lo ≤ B + hi := by
    rcases sz with q | ⟨q1, q2, q3⟩
    · omega
    · have h1 := (it2 0 (Nat.le_refl _) q1).2.1
      have h2 := hle 0 q1
      rw [Nat.add_zero, ← q2] at h1
      omega
  refine ⟨by omega, hd3, fun j hj => (h58_3 j hj).trans (bel2 j hj), fun j hj => (h59_3 j).trans (l59_2 j hj), by rw [← qkR]; exact vR, by rw [← qkR]; exact zz, ?_⟩
  rw [← qkR, hee]
  exact l1.tr l2
