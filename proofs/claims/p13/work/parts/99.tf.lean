theorem fa_vk {X : St} (hT : KT X) {kF : Int32} {m : Nat} {FA : Nat → Int32} (hf : FNK X kF (m : Int)) (h0 : FA 0 = kF) (hfa : ∀ i, i ≤ m → FA (i + 1) = cmpK X kF i) : ∀ j, j ≤ m + 1 → VK X (FA j) := by
  intro j hj
  rcases j with _ | j
  · rw [h0]
    exact ⟨hf.1, hf.2.1⟩
  · rw [hfa j (by omega)]
    have h5 := hf.2.2.2
    have := cmpK_lt hT hf.1 hf.2.1 (i := j) (by omega)
    have h2 := hf.2.1
    exact ⟨this.1, by omega⟩
theorem fa_kx {X Y : St} (hT : KT X) (hK : KX X Y) {kF : Int32} {m : Nat} {FA : Nat → Int32} (hf : FNK X kF (m : Int)) (hfa : ∀ i, i ≤ m → FA (i + 1) = cmpK X kF i) : ∀ i, i ≤ m → FA (i + 1) = cmpK Y kF i := by
  intro i hi
  have h5 := hf.2.2.2
  rw [cmpK_kx hT hK hf.1 hf.2.1 (by omega)]
  exact hfa i hi
theorem tup_vk {X : St} {FA : Nat → Int32} {m : Nat} {k : Int32} (h : ∀ j, j < m → VK X (FA j)) (hk : VK X k) : ∀ j, j < m + 1 → VK X (tup FA m k j) := by
  intro j hj
  by_cases q : j = m
  · rw [q, tup_at]
    exact hk
  · rw [tup_ne _ _ q]
    exact h j (by omega)
set_option maxHeartbeats 4000000 in
theorem jl_2 {r37 : Int32 → St → Option (Int32 × St)} {a1 a2 : Int32} {X0 : St} {n l r : Nat} {sc : Int} {s1 e : Nat} {it cu ps : Nat → Nat} (hl : LSD (fun n lo hi sc s e => CX X0 n lo hi sc s e ∧ JP r37 a1 a2 X0 n lo hi sc s e) X0 n l r sc 2 s1 e it cu ps) (hn31 : n < 3100) (hA23 : 0 ≤ (X0.1 23 n).toInt ∧ ix (X0.1 23 n) < r) {m : Nat} (hm : ix (X0.1 27 n) = m) (hm4 : m ≤ 4) {s0 d B : Nat} {t : Ty} {kF : Int32} {FA : Nat → Int32} (hF0 : FA 0 = kF) : ∀ (dd jj : Nat), jj + dd = m → ∀ (Z0 : St) (o0 : Int32), JX X0 Z0 → (Z0.1 0 9).toInt = 0 → o0.toInt = (ps jj : Int) → (e : Int) ≤ a2.toInt → e ≤ 24000 → r ≤ 3100 → (r : Int) ≤ (X0.1 0 19).toInt → (Z0.1 0 30).toInt = (d : Int) + jj + 1 → (d + jj + 1 + r + 20 ≤ 3190 + cu jj ∧ (Z0.1 0 13).toInt + r ≤ 5990 + (cu jj : Int) ∧ (Z0.1 0 15).toInt + 5 * (r : Int) ≤ 19900 + 5 * (cu jj : Int) ∧ 0 ≤ (Z0.1 0 28).toInt ∧ (Z0.1 0 28).toInt + r ≤ 11900 + (cu jj : Int) ∧ B + r ≤ 6002 + cu jj ∧ 3002 ≤ B) → (∀ j, ps jj ≤ j → j < e → (Z0.1 43 j).toInt = -1) → LOC Z0 sc B t → VAL Z0 t → Z0.1 58 d = kF → FNK Z0 kF (m : Int) → ksz Z0 (ix kF) ≤ 6001 → (∀ i, i ≤ m → FA (i + 1) = cmpK Z0 kF i) → s0 < ps jj → SEG Z0 s0 (ps jj) t (exn t FA (jj + 1)) → ∃ c o1 Y, JGo r37 a1 a2 c o0 o1 Z0 Y ∧ c + ps jj ≤ e ∧ JR Z0 Y (fun j => ps jj ≤ j ∧ j < e) ∧ ((Y.1 0 13).toInt + cu jj ≤ (Z0.1 0 13).toInt + r ∧ (Y.1 0 15).toInt + 5 * (cu jj : Int) ≤ (Z0.1 0 15).toInt + 5 * (r : Int) ∧ (Y.1 0 28).toInt + cu jj ≤ (Z0.1 0 28).toInt + r) ∧ ((Y.1 0 9).toInt = 0 → o1.toInt = (e : Int) ∧ (Y.1 0 30).toInt = (d : Int) + m + 1 ∧ (∀ j, j < d + 1 → Y.1 58 j = Z0.1 58 j) ∧ (∀ j : Nat, (j : Int) < sc → Y.1 59 j = Z0.1 59 j) ∧ SEG Y s0 e t (exn t FA (m + 1))) := by
  have hbd : ∀ n lo hi sc s e, (CX X0 n lo hi sc s e ∧ JP r37 a1 a2 X0 n lo hi sc s e) → lo ≤ n ∧ n < hi ∧ s < e := fun n lo hi sc s e q => q.1.bd
  have hle := hl.le hbd
  obtain ⟨hl1, hl2, hl3, hl4, hl5, hl6, hl7, hl8⟩ := hl
  rw [hm] at hl2 hl4 hl8 hle
  intro dd
  induction dd with
  | zero =>
    intro jj hjj Z0 o0 hX0 hw0 ho0 hea he24 hi31 hnn hd0 hnum n43_0 loc0 hval hkF hFN hsF hFA hs0 sg0
    have hje : jj = m := by omega
    subst hje
    rw [hl2, hl4]
    rw [hl4] at ho0 sg0
    exact ⟨0, o0, Z0, JGo.rf, by omega, JR.fr hX0.2.1 (Fr.rf (L := [])) (by decide) _, ⟨by omega, by omega, by omega⟩, fun _ => ⟨ho0, by omega, fun _ _ => rfl, fun _ _ => rfl, sg0⟩⟩
  | succ dd ih =>
    intro jj hjj Z0 o0 hX0 hw0 ho0 hea he24 hi31 hnn hd0 hnum n43_0 loc0 hval hkF hFN hsF hFA hs0 sg0
    obtain ⟨u1, u2, u3, u4, u5, u6, u7⟩ := hnum
    obtain ⟨⟨p, hA, hm2⟩, -⟩ := hl8 jj (by omega)
    have hlj := hle jj (by omega)
    have bA := hA.1.bd
    obtain ⟨hs1, h42, h51, hpq⟩ : OA X0 p 10 (it jj) ∧ (X0.1 42 p).toInt = 8 * (jj : Int) ∧ (X0.1 51 (it jj)).toInt = n ∧ ps (jj + 1) = p + 1 := by rcases hm2 with ⟨q, _⟩ | ⟨q, _⟩ | ⟨_, q⟩ <;> first | exact q | exact absurd q (by omega)
    have hvF := fa_vk hX0.2.1 hFN hF0 hFA
    have jr0 : JR Z0 Z0 (fun j => ps jj ≤ j ∧ j < ps jj) := JR.fr hX0.2.1 (Fr.rf (L := [])) (by decide) _
    have go0 : JGo r37 a1 a2 0 o0 o0 Z0 Z0 := JGo.rf
    have bel0 : ∀ j, j < d + 1 → Z0.1 58 j = Z0.1 58 j := fun _ _ => rfl
    have l59_0 : ∀ j : Nat, (j : Int) < sc → Z0.1 59 j = Z0.1 59 j := fun _ _ => rfl
    have hsc1 := loc0.2.1
    have hsc2 := loc0.2.2
    obtain ⟨cc1, o1, Z1, gs1, b1, js1, ns1, ps1⟩ := hA.2 Z0 o0 (d + jj + 1) B (exn t FA (jj + 1)) hX0 hw0 ho0 (by omega) (by omega) (by omega) (by omega) (by omega) (by omega) (fun j q1 q2 => n43_0 j q1 (by omega)) ⟨loc0.1, hsc1, hsc2⟩ (hval.exn (fun j hj => hvF j (by omega)))
    have mg1 := js1.2.2.2.1.1
    have mk1 := js1.2.2.1.1
    have hX1 := hX0.jr js1
    have go1 := go0.tr gs1
    have jr1 : JR Z0 Z1 (fun j => ps jj ≤ j ∧ j < p) := (jr0.mono (fun j (q : ps jj ≤ j ∧ j < (ps jj)) => (⟨by omega, by omega⟩ : ps jj ≤ j ∧ j < p))).tr (js1.mono (fun j (q : ps jj ≤ j ∧ j < p) => (⟨by omega, by omega⟩ : ps jj ≤ j ∧ j < p)))
    by_cases hw1 : (Z1.1 0 9).toInt = 0
    rotate_left
    · exact ⟨_, o1, Z1, go1, by omega, jr1.mono (fun j (q : ps jj ≤ j ∧ j < p) => (⟨by omega, by omega⟩ : ps jj ≤ j ∧ j < e)), ⟨by omega, by omega, by omega⟩, fun q => absurd q hw1⟩
    obtain ⟨ho1, hd1, h58_1, h59_1, w1, y1, sc1⟩ := ps1 hw1
    have bel1 : ∀ j, j < d + 1 → Z1.1 58 j = Z0.1 58 j := fun j hj => (h58_1 j (by omega)).trans (bel0 j hj)
    have k59_1 : ∀ j : Nat, (j : Int) < sc → Z1.1 59 j = Z0.1 59 j := fun j hj => h59_1 j hj
    have l59_1 : ∀ j : Nat, (j : Int) < sc → Z1.1 59 j = Z0.1 59 j := fun j hj => (k59_1 j hj).trans (l59_0 j hj)
    have loc1 : LOC Z1 sc B t := loc0.jr hX0.2.1 js1 k59_1
    have n43_1 : ∀ j, p ≤ j → j < e → (Z1.1 43 j).toInt = -1 := fun j q1 q2 => by rw [js1.2.2.2.2 j (fun (q : ps jj ≤ j ∧ j < p) => by omega)]; exact n43_0 j (by omega) q2
    have fn1 : FNK Z1 kF (m : Int) := hFN.kx jr1.2.2.1
    have fa1 := fa_kx hX0.2.1 jr1.2.2.1 hFN hFA
    have zf1 : ksz Z1 (ix kF) = ksz Z0 (ix kF) := ksz_kx hX0.2.1 hX1.2.1 jr1.2.2.1 _ (by have := ixc hFN.1; have := hFN.2.1; omega)
    have kf1 : Z1.1 58 d = kF := (bel1 d (by omega)).trans hkF
    obtain ⟨kI, qkI⟩ : ∃ x, x = Z1.1 58 (d + jj + 1) := ⟨_, rfl⟩
    rw [← qkI] at w1 sc1 y1
    have eo1 : ix o1 = p := by
      have := ixc (z := o1) (by omega)
      omega
    have hop1 : (Z1.1 40 (ix o1)).toInt = 10 := by rw [eo1, hX1.1.1 40 p (show (8000 : Nat) ∉ [9, 10, 13, 15, 28, 30, 800, 1000, 1200, 1400, 1600, 1800, 2000, 6200, 6400, 8600, 10400, 10600, 10800, 11000, 11200, 11400, 11600, 11800] from by decide)]; exact hs1.1
    have qn1 : (Z1.1 41 p).toInt = (((it jj) : Nat) : Int) := by rw [hX1.1.1 41 p (show (8200 : Nat) ∉ [9, 10, 13, 15, 28, 30, 800, 1000, 1200, 1400, 1600, 1800, 2000, 6200, 6400, 8600, 10400, 10600, 10800, 11000, 11200, 11400, 11600, 11800] from by decide)]; exact hs1.2
    have en1 : ix (Z1.1 41 p) = (it jj) := by
      have := ixc (z := Z1.1 41 p) (by omega)
      omega
    have inn1 : inR (Z1.1 41 p) 3100 := ⟨by omega, show (Z1.1 41 p).toInt < ((3100 : Nat) : Int) by omega⟩
    have ino1 : inR o1 24000 := ⟨by omega, show o1.toInt < ((24000 : Nat) : Int) by omega⟩
    have e51 : Z1.1 51 (it jj) = X0.1 51 (it jj) := hX1.1.1 51 (it jj) (show (10200 : Nat) ∉ [9, 10, 13, 15, 28, 30, 800, 1000, 1200, 1400, 1600, 1800, 2000, 6200, 6400, 8600, 10400, 10600, 10800, 11000, 11200, 11400, 11600, 11800] from by decide)
    have e42 : Z1.1 42 p = X0.1 42 p := hX1.1.1 42 p (show (8400 : Nat) ∉ [9, 10, 13, 15, 28, 30, 800, 1000, 1200, 1400, 1600, 1800, 2000, 6200, 6400, 8600, 10400, 10600, 10800, 11000, 11200, 11400, 11600, 11800] from by decide)
    have i51 : ix (X0.1 51 (it jj)) = n := by
      have := ixc (z := X0.1 51 (it jj)) (by omega)
      omega
    have e23 : Z1.1 23 n = X0.1 23 n := hX1.1.1 23 n (show (4600 : Nat) ∉ [9, 10, 13, 15, 28, 30, 800, 1000, 1200, 1400, 1600, 1800, 2000, 6200, 6400, 8600, 10400, 10600, 10800, 11000, 11200, 11400, 11600, 11800] from by decide)
    have e19 : Z1.1 0 19 = X0.1 0 19 := hX1.1.1 0 19 (by decide)
    have i23 := ixc hA23.1
    have h5F := fn1.2.2.2
    have csz := cmp_sz hX1.2.1 ⟨fn1.1, fn1.2.1⟩ (i := jj) (by omega)
    have h18 := hX1.2.2.2.1.1.2
    have h26 := hX1.2.2.2.2.2.1 (ix (X0.1 23 n)) (by rw [e19]; omega)
    obtain ⟨o2, Z2, ho2, gs2, js2, ns2, ps2⟩ := jstep (r37 := r37) (a1 := a1) (a2 := a2) (s := p) (o := o1) (by omega) (by omega) (by omega) hw1 (one_10 hX1.2.1 (by omega) (by omega) ⟨by omega, by omega⟩ hX1.2.2.2.2.2.2 hw1 ino1 hop1 (d := d) (i := jj) (by omega) (by omega) (by omega) (by rw [show d + jj + 1 = d + jj + 1 from rfl, ← qkI]; exact w1) (by rw [eo1]; exact n43_1 _ (Nat.le_refl _) (by omega)) (by rw [kf1]; exact ⟨fn1.1, fn1.2.1⟩) (by rw [kf1]; omega) (by rw [kf1]; omega) inn1 (by rw [eo1, e42]; exact h42) (by rw [en1, e51]; exact ⟨by omega, show (X0.1 51 (it jj)).toInt < ((3100 : Nat) : Int) by omega⟩) (by rw [en1, e51, i51, e23]; exact ⟨hA23.1, show (X0.1 23 n).toInt < ((3100 : Nat) : Int) by omega⟩) (by rw [en1, e51, i51, e23]; exact fun q => ⟨(h26 q).1, by have := (h26 q).2; omega⟩))
    rw [kf1, eo1, ← qkI] at ps2
    rw [eo1] at js2
    have mg2 := js2.2.2.2.1.1
    have mk2 := js2.2.2.1.1
    have hX2 := hX1.jr js2
    have go2 := go1.tr gs2
    have jr2 : JR Z0 Z2 (fun j => ps jj ≤ j ∧ j < (p + 1)) := (jr1.mono (fun j (q : ps jj ≤ j ∧ j < p) => (⟨by omega, by omega⟩ : ps jj ≤ j ∧ j < (p + 1)))).tr (js2.mono (fun j (q : j = p) => (⟨by omega, by omega⟩ : ps jj ≤ j ∧ j < (p + 1))))
    by_cases hw2 : (Z2.1 0 9).toInt = 0
    rotate_left
    · exact ⟨_, o2, Z2, go2, by omega, jr2.mono (fun j (q : ps jj ≤ j ∧ j < (p + 1)) => (⟨by omega, by omega⟩ : ps jj ≤ j ∧ j < e)), ⟨by omega, by omega, by omega⟩, fun q => absurd q hw2⟩
    obtain ⟨hd2, ce2, h58_2, h59_2, gr2⟩ := ps2 hw2
    have bel2 : ∀ j, j < d + 1 → Z2.1 58 j = Z0.1 58 j := fun j hj => (h58_2 j (by omega)).trans (bel1 j hj)
    have k59_2 : ∀ j : Nat, (j : Int) < sc → Z2.1 59 j = Z1.1 59 j := fun j hj => h59_2 j
    have l59_2 : ∀ j : Nat, (j : Int) < sc → Z2.1 59 j = Z0.1 59 j := fun j hj => (k59_2 j hj).trans (l59_1 j hj)
    have loc2 : LOC Z2 sc B t := loc1.jr hX1.2.1 js2 k59_2
    have n43_2 : ∀ j, (p + 1) ≤ j → j < e → (Z2.1 43 j).toInt = -1 := fun j q1 q2 => by rw [js2.2.2.2.2 j (fun (q : j = p) => by omega)]; exact n43_1 j (by omega) q2
    have fn2 : FNK Z2 kF (m : Int) := hFN.kx jr2.2.2.1
    have fa2 := fa_kx hX0.2.1 jr2.2.2.1 hFN hFA
    have zf2 : ksz Z2 (ix kF) = ksz Z0 (ix kF) := ksz_kx hX0.2.1 hX2.2.1 jr2.2.2.1 _ (by have := ixc hFN.1; have := hFN.2.1; omega)
    have kf2 : Z2.1 58 d = kF := (bel2 d (by omega)).trans hkF
    have oz2 : OA Z2 p 10 (it jj) := ⟨by rw [hX2.1.1 40 p (show (8000 : Nat) ∉ [9, 10, 13, 15, 28, 30, 800, 1000, 1200, 1400, 1600, 1800, 2000, 6200, 6400, 8600, 10400, 10600, 10800, 11000, 11200, 11400, 11600, 11800] from by decide)]; exact hs1.1, by rw [hX2.1.1 41 p (show (8200 : Nat) ∉ [9, 10, 13, 15, 28, 30, 800, 1000, 1200, 1400, 1600, 1800, 2000, 6200, 6400, 8600, 10400, 10600, 10800, 11000, 11200, 11400, 11600, 11800] from by decide)]; exact hs1.2⟩
    have vI : VK Z2 kI := w1.kx js2.2.2.1
    have hv2 := fa_vk hX2.2.1 fn2 hF0 fa2
    have sgx : SEG Z1 s0 p t (exn t (tup FA (jj + 1) kI) (jj + 1 + 1)) := (sg0.jr hX0.2.1 js1 (fun j q1 q2 (q : ps jj ≤ j ∧ j < p) => by omega)).tr (sc1.to (exn_psh0 (fun j hj => tup_ne _ _ (by omega)) (tup_at _ _ _)))
    have gr3 : GRD Z2 p (tup FA (jj + 1) kI (jj + 1)) (cmpK Z1 kF jj) := by rw [tup_at]; exact gr2
    have ec : cmpK Z1 kF jj = FA (jj + 1) := (fa1 jj (by omega)).symm
    have sg2 : SEG Z2 s0 (p + 1) t (exn t FA (jj + 1 + 1)) := (sgx.jr hX1.2.1 js2 (fun j q1 q2 (q : j = p) => by omega)).tr (SEG.gd1 (m := jj + 1) ((hval.kx jr2.2.2.1).exn (tup_vk (fun j hj => hv2 j (by omega)) vI)) oz2 (by omega) (by decide) gr3 (by rw [ec]; exact hv2 _ (by omega)) (fun j hj => (tup_ne _ _ (by omega)).symm) ec.symm)
    obtain ⟨cc3, o3, Z3, gs3, b3, js3, ns3, ps3⟩ := ih (jj + 1) (by omega) Z2 o2 hX2 hw2 (by omega) hea he24 hi31 hnn (by omega) (by omega) (fun j q1 q2 => n43_2 j (by omega) q2) loc2 (hval.kx jr2.2.2.1) kf2 fn2 (by omega) fa2 (by omega) (by rw [hpq]; exact sg2)
    have mg3 := js3.2.2.2.1.1
    refine ⟨_, o3, Z3, go2.tr gs3, by omega, (jr2.mono (fun j (q : ps jj ≤ j ∧ j < (p + 1)) => (⟨by omega, by omega⟩ : ps jj ≤ j ∧ j < e))).tr (js3.mono (fun j (q : ps (jj + 1) ≤ j ∧ j < e) => (⟨by omega, by omega⟩ : ps jj ≤ j ∧ j < e))), ⟨by omega, by omega, by omega⟩, fun hwz => ?_⟩
    obtain ⟨r1, r2, r3, r4, r5⟩ := ps3 hwz
    exact ⟨r1, r2, fun j hj => (r3 j hj).trans (bel2 j hj), fun j hj => (r4 j hj).trans (l59_2 j hj), r5⟩
set_option maxHeartbeats 4000000 in
theorem jp_11 {r37 : Int32 → St → Option (Int32 × St)} {a1 a2 : Int32} {X0 : St} {n lo hi : Nat} {sc : Int} {s e : Nat} (hlo : lo ≤ n) (hhi : n < hi) (hse : s < e) (hs0 : OA X0 s 0 n) {it cu ps : Nat → Nat} {p pq : Nat} (hmany : (X0.1 27 n).toInt ≤ 4) (hA : CHC (fun n lo hi sc s e => CX X0 n lo hi sc s e ∧ JP r37 a1 a2 X0 n lo hi sc s e) X0 23 n lo n sc (s + 1) p) (hs1 : OA X0 p 7 n) (hL : LSD (fun n lo hi sc s e => CX X0 n lo hi sc s e ∧ JP r37 a1 a2 X0 n lo hi sc s e) X0 n (n + 1) hi sc 2 (p + 1) pq it cu ps) (hs2 : OA X0 pq 28 n) (hee : e = pq + 1) : JP r37 a1 a2 X0 n lo hi sc s e := by
  intro Z0 o0 d B t hX0 hw0 ho0 hea he24 hi31 hnn hd0 hnum n43_0 loc0 hval
  obtain ⟨u1, u2, u3, u4, u5, u6, u7⟩ := hnum
  have jr0 : JR Z0 Z0 (fun j => s ≤ j ∧ j < s) := JR.fr hX0.2.1 (Fr.rf (L := [])) (by decide) _
  have go0 : JGo r37 a1 a2 0 o0 o0 Z0 Z0 := JGo.rf
  have bel0 : ∀ j, j < d → Z0.1 58 j = Z0.1 58 j := fun _ _ => rfl
  have l59_0 : ∀ j : Nat, (j : Int) < sc → Z0.1 59 j = Z0.1 59 j := fun _ _ => rfl
  have hsc1 := loc0.2.1
  have hsc2 := loc0.2.2
  have bA := hA.2.1.bd
  have eA := ixc hA.1
  have hbd : ∀ n lo hi sc s e, (CX X0 n lo hi sc s e ∧ JP r37 a1 a2 X0 n lo hi sc s e) → lo ≤ n ∧ n < hi ∧ s < e := fun n lo hi sc s e q => q.1.bd
  have hpos := hL.pos hbd
  have em := ixc hL.2.2.2.2.1
  have c0 := hL.1
  have p0 := hL.2.2.1
  obtain ⟨m, hm⟩ : ∃ m, ix (X0.1 27 n) = m := ⟨_, rfl⟩
  have eo0 : ix o0 = s := by
    have := ixc (z := o0) (by omega)
    omega
  have hop0 : (Z0.1 40 (ix o0)).toInt = 0 := by rw [eo0, hX0.1.1 40 s (show (8000 : Nat) ∉ [9, 10, 13, 15, 28, 30, 800, 1000, 1200, 1400, 1600, 1800, 2000, 6200, 6400, 8600, 10400, 10600, 10800, 11000, 11200, 11400, 11600, 11800] from by decide)]; exact hs0.1
  have qn0 : (Z0.1 41 s).toInt = ((n : Nat) : Int) := by rw [hX0.1.1 41 s (show (8200 : Nat) ∉ [9, 10, 13, 15, 28, 30, 800, 1000, 1200, 1400, 1600, 1800, 2000, 6200, 6400, 8600, 10400, 10600, 10800, 11000, 11200, 11400, 11600, 11800] from by decide)]; exact hs0.2
  have en0 : ix (Z0.1 41 s) = n := by
    have := ixc (z := Z0.1 41 s) (by omega)
    omega
  have inn0 : inR (Z0.1 41 s) 3100 := ⟨by omega, show (Z0.1 41 s).toInt < ((3100 : Nat) : Int) by omega⟩
  have ino0 : inR o0 24000 := ⟨by omega, show o0.toInt < ((24000 : Nat) : Int) by omega⟩
  obtain ⟨o1, Z1, ho1, gs1, eZ1⟩ := jstep (r37 := r37) (a1 := a1) (a2 := a2) (s := s) (o := o0) ho0 (by omega) (by omega) hw0 (one_0 hX0.2.1 (by omega) (by omega) ⟨by omega, by omega⟩ hX0.2.2.2.2.2.2 hw0 ino0 hop0)
  have hX1 : JX X0 Z1 := by rw [← eZ1]; exact hX0
  have hw1 : (Z1.1 0 9).toInt = 0 := by rw [← eZ1]; exact hw0
  have loc1 : LOC Z1 sc B t := by rw [← eZ1]; exact loc0
  have bel1 : ∀ j, j < d → Z1.1 58 j = Z0.1 58 j := fun j _ => by rw [← eZ1]
  have l59_1 : ∀ j : Nat, (j : Int) < sc → Z1.1 59 j = Z0.1 59 j := fun j _ => by rw [← eZ1]
  have hd1 : (Z1.1 0 30).toInt = (d : Int) := by rw [← eZ1]; exact hd0
  have go1 := go0.tr gs1
  have jr1 : JR Z0 Z1 (fun j => s ≤ j ∧ j < (s + 1)) := by rw [← eZ1]; exact jr0.mono (fun j (q : s ≤ j ∧ j < s) => (⟨by omega, by omega⟩ : s ≤ j ∧ j < s + 1))
  have n43_1 : ∀ j, (s + 1) ≤ j → j < e → (Z1.1 43 j).toInt = -1 := fun j q1 q2 => by rw [← eZ1]; exact n43_0 j (by omega) q2
  have nq1 : (Z1.1 0 13).toInt = (Z0.1 0 13).toInt ∧ (Z1.1 0 15).toInt = (Z0.1 0 15).toInt ∧ (Z1.1 0 28).toInt = (Z0.1 0 28).toInt := by rw [← eZ1]; exact ⟨rfl, rfl, rfl⟩
  have oz1 : OA Z1 s 0 n := ⟨by rw [hX1.1.1 40 s (show (8000 : Nat) ∉ [9, 10, 13, 15, 28, 30, 800, 1000, 1200, 1400, 1600, 1800, 2000, 6200, 6400, 8600, 10400, 10600, 10800, 11000, 11200, 11400, 11600, 11800] from by decide)]; exact hs0.1, by rw [hX1.1.1 41 s (show (8200 : Nat) ∉ [9, 10, 13, 15, 28, 30, 800, 1000, 1200, 1400, 1600, 1800, 2000, 6200, 6400, 8600, 10400, 10600, 10800, 11000, 11200, 11400, 11600, 11800] from by decide)]; exact hs0.2⟩
  have sg1 : SEG Z1 s (s + 1) t (exn t (f3 0 0 0) 0) := SEG.step (hval.kx jr1.2.2.1) oz1 (by omega) exn_zero
  obtain ⟨cc2, o2, Z2, gs2, b2, js2, ns2, ps2⟩ := hA.2.2 Z1 o1 (d + 0) B (exn t (f3 0 0 0) 0) hX1 hw1 ho1 (by omega) (by omega) (by omega) (by omega) (by omega) (by omega) (fun j q1 q2 => n43_1 j q1 (by omega)) ⟨loc1.1, hsc1, hsc2⟩ ((hval.kx jr1.2.2.1).exn (VK3 (by decide) (fun h => absurd h (by decide)) (fun h => absurd h (by decide)) (fun h => absurd h (by decide))))
  have mg2 := js2.2.2.2.1.1
  have mk2 := js2.2.2.1.1
  have hX2 := hX1.jr js2
  have go2 := go1.tr gs2
  have jr2 : JR Z0 Z2 (fun j => s ≤ j ∧ j < p) := (jr1.mono (fun j (q : s ≤ j ∧ j < (s + 1)) => (⟨by omega, by omega⟩ : s ≤ j ∧ j < p))).tr (js2.mono (fun j (q : (s + 1) ≤ j ∧ j < p) => (⟨by omega, by omega⟩ : s ≤ j ∧ j < p)))
  by_cases hw2 : (Z2.1 0 9).toInt = 0
  rotate_left
  · exact ⟨_, o2, Z2, go2, by omega, jr2.mono (fun j (q : s ≤ j ∧ j < p) => (⟨by omega, by omega⟩ : s ≤ j ∧ j < e)), ⟨by omega, by omega, by omega⟩, fun q => absurd q hw2⟩
  obtain ⟨ho2, hd2, h58_2, h59_2, w2_0, y2_0, sc2⟩ := ps2 hw2
  have kp2 : ∀ j, j < d + 0 → Z2.1 58 j = Z1.1 58 j := fun j hj => h58_2 j (by omega)
  have bel2 : ∀ j, j < d → Z2.1 58 j = Z0.1 58 j := fun j hj => (kp2 j (by omega)).trans (bel1 j hj)
  have k59_2 : ∀ j : Nat, (j : Int) < sc → Z2.1 59 j = Z1.1 59 j := fun j hj => h59_2 j hj
  have l59_2 : ∀ j : Nat, (j : Int) < sc → Z2.1 59 j = Z0.1 59 j := fun j hj => (k59_2 j hj).trans (l59_1 j hj)
  have loc2 : LOC Z2 sc B t := loc1.jr hX1.2.1 js2 k59_2
  have n43_2 : ∀ j, p ≤ j → j < e → (Z2.1 43 j).toInt = -1 := fun j q1 q2 => by rw [js2.2.2.2.2 j (fun (q : (s + 1) ≤ j ∧ j < p) => by omega)]; exact n43_1 j (by omega) q2
  obtain ⟨kA, qkA⟩ : ∃ x, x = Z2.1 58 (d + 0) := ⟨_, rfl⟩
  rw [← qkA] at w2_0 y2_0 sc2
  have c2_0 : Z2.1 58 (d + 0) = kA := qkA.symm
  have v2_0 : VK Z2 kA := w2_0
  have z2_0 := y2_0
  have sp2 : SEG Z2 (s + 1) p (exn t (f3 0 0 0) 0) (exn t (f3 kA 0 0) 1) := sc2.to (exn_psh0 (fun j hj => by rcases j with _ | _ | _ | j <;> first | rfl | omega) rfl)
  have sg2 := (sg1.jr hX1.2.1 js2 (fun j q1 q2 (q : (s + 1) ≤ j ∧ j < p) => by omega)).tr sp2
  have e27 : Z2.1 27 n = X0.1 27 n := hX2.1.1 27 n (show (5400 : Nat) ∉ [9, 10, 13, 15, 28, 30, 800, 1000, 1200, 1400, 1600, 1800, 2000, 6200, 6400, 8600, 10400, 10600, 10800, 11000, 11200, 11400, 11600, 11800] from by decide)
  have eo2 : ix o2 = p := by
    have := ixc (z := o2) (by omega)
    omega
  have hop2 : (Z2.1 40 (ix o2)).toInt = 7 := by rw [eo2, hX2.1.1 40 p (show (8000 : Nat) ∉ [9, 10, 13, 15, 28, 30, 800, 1000, 1200, 1400, 1600, 1800, 2000, 6200, 6400, 8600, 10400, 10600, 10800, 11000, 11200, 11400, 11600, 11800] from by decide)]; exact hs1.1
  have qn2 : (Z2.1 41 p).toInt = ((n : Nat) : Int) := by rw [hX2.1.1 41 p (show (8200 : Nat) ∉ [9, 10, 13, 15, 28, 30, 800, 1000, 1200, 1400, 1600, 1800, 2000, 6200, 6400, 8600, 10400, 10600, 10800, 11000, 11200, 11400, 11600, 11800] from by decide)]; exact hs1.2
  have en2 : ix (Z2.1 41 p) = n := by
    have := ixc (z := Z2.1 41 p) (by omega)
    omega
  have inn2 : inR (Z2.1 41 p) 3100 := ⟨by omega, show (Z2.1 41 p).toInt < ((3100 : Nat) : Int) by omega⟩
  have ino2 : inR o2 24000 := ⟨by omega, show o2.toInt < ((24000 : Nat) : Int) by omega⟩
  obtain ⟨o3, Z3, ho3, gs3, js3, ns3, ps3⟩ := jstep (r37 := r37) (a1 := a1) (a2 := a2) (s := p) (o := o2) (by omega) (by omega) (by omega) hw2 (one_7 hX2.2.1 (by omega) (by omega) ⟨by omega, by omega⟩ hX2.2.2.2.2.2.2 hw2 ino2 hop2 (d := d + 0) (by omega) (by omega) (by rw [c2_0]; exact v2_0) (by rw [eo2]; exact n43_2 _ (Nat.le_refl _) (by omega)) inn2 hX2.2.2.1 (by rw [en2, e27]; omega))
  have mg3 := js3.2.2.2.1.1
  have mk3 := js3.2.2.1.1
  have hX3 := hX2.jr js3
  have go3 := go2.tr gs3
  have jr3 : JR Z0 Z3 (fun j => s ≤ j ∧ j < (p + 1)) := (jr2.mono (fun j (q : s ≤ j ∧ j < p) => (⟨by omega, by omega⟩ : s ≤ j ∧ j < (p + 1)))).tr (js3.mono (fun j (q : j = ix o2) => (⟨by omega, by omega⟩ : s ≤ j ∧ j < (p + 1))))
  by_cases hw3 : (Z3.1 0 9).toInt = 0
  rotate_left
  · exact ⟨_, o3, Z3, go3, by omega, jr3.mono (fun j (q : s ≤ j ∧ j < (p + 1)) => (⟨by omega, by omega⟩ : s ≤ j ∧ j < e)), ⟨by omega, by omega, by omega⟩, fun q => absurd q hw3⟩
  obtain ⟨hd3, ⟨kF, ce3, fk3, gr3, sz3⟩, h58_3, h59_3⟩ := ps3 hw3
  have kp3 : ∀ j, j < d + 0 → Z3.1 58 j = Z2.1 58 j := fun j hj => h58_3 j (by omega)
  have bel3 : ∀ j, j < d → Z3.1 58 j = Z0.1 58 j := fun j hj => (kp3 j (by omega)).trans (bel2 j hj)
  have k59_3 : ∀ j : Nat, (j : Int) < sc → Z3.1 59 j = Z2.1 59 j := fun j hj => h59_3 j
  have l59_3 : ∀ j : Nat, (j : Int) < sc → Z3.1 59 j = Z0.1 59 j := fun j hj => (k59_3 j hj).trans (l59_2 j hj)
  have loc3 : LOC Z3 sc B t := loc2.jr hX2.2.1 js3 k59_3
  have n43_3 : ∀ j, (p + 1) ≤ j → j < e → (Z3.1 43 j).toInt = -1 := fun j q1 q2 => by rw [js3.2.2.2.2 j (fun (q : j = ix o2) => by omega)]; exact n43_2 j (by omega) q2
  have c3_0 : Z3.1 58 (d + 0) = kF := ce3
  have v3_0 : VK Z3 kF := ⟨fk3.1, fk3.2.1⟩
  have z3_0 : ksz Z3 (ix kF) ≤ ksz Z2 (ix kA) ∨ ksz Z3 (ix kF) ≤ 6 := by
    rcases sz3 with q | q
    · left
      rw [c2_0] at q
      rw [q, ksz_kx hX2.2.1 hX3.2.1 js3.2.2.1 _ (by have := ixc v2_0.1; have := v2_0.2; omega)]
      exact Nat.le_refl _
    · exact Or.inr q
  have oz3 : OA Z3 p 7 n := ⟨by rw [hX3.1.1 40 p (show (8000 : Nat) ∉ [9, 10, 13, 15, 28, 30, 800, 1000, 1200, 1400, 1600, 1800, 2000, 6200, 6400, 8600, 10400, 10600, 10800, 11000, 11200, 11400, 11600, 11800] from by decide)]; exact hs1.1, by rw [hX3.1.1 41 p (show (8200 : Nat) ∉ [9, 10, 13, 15, 28, 30, 800, 1000, 1200, 1400, 1600, 1800, 2000, 6200, 6400, 8600, 10400, 10600, 10800, 11000, 11200, 11400, 11600, 11800] from by decide)]; exact hs1.2⟩
  have sp3 : SEG Z3 p (p + 1) (exn t (f3 kA 0 0) 1) (exn t (f3 kF 0 0) 1) := SEG.gd1 (m := 0) ((hval.kx jr3.2.2.1).exn (VK3 (by decide) (fun _ => (v2_0.kx js3.2.2.1)) (fun h => absurd h (by decide)) (fun h => absurd h (by decide)))) oz3 (by omega) (by decide) (by have q := gr3; rw [eo2, c2_0] at q; exact q) v3_0 (fun j hj => by rcases j with _ | _ | _ | j <;> first | rfl | omega) rfl
  have sg3 := (sg2.jr hX2.2.1 js3 (fun j q1 q2 (q : j = ix o2) => by omega)).tr sp3
  have fkm : FNK Z3 kF (m : Int) := by
    have q := fk3
    rw [en2, e27] at q
    rwa [show ((m : Nat) : Int) = (X0.1 27 n).toInt by omega]
  obtain ⟨FA, hFA0, hFA⟩ : ∃ FA : Nat → Int32, FA 0 = kF ∧ ∀ i, FA (i + 1) = cmpK Z3 kF i := ⟨fun j => match j with | 0 => kF | i + 1 => cmpK Z3 kF i, rfl, fun _ => rfl⟩
  obtain ⟨cc4, o4, Z4, gs4, b4, js4, ns4, ps4⟩ := jl_2 hL (by omega) ⟨hA.1, by omega⟩ hm (by omega) (s0 := s) (d := d) (B := B) (t := t) hFA0 m 0 (by omega) Z3 o3 hX3 hw3 (by omega) (by omega) (by omega) hi31 hnn (by omega) (by omega) (fun j q1 q2 => n43_3 j (by omega) (by omega)) ⟨loc3.1, hsc1, hsc2⟩ (hval.kx jr3.2.2.1) c3_0 fkm (by omega) (fun i _ => hFA i) (by omega) (by rw [p0]; exact sg3.to (exn_eq (fun j hj => by rcases j with _ | j; exact hFA0; omega)))
  have mg4 := js4.2.2.2.1.1
  have mk4 := js4.2.2.1.1
  have hX4 := hX3.jr js4
  have go4 := go3.tr gs4
  have jr4 : JR Z0 Z4 (fun j => s ≤ j ∧ j < pq) := (jr3.mono (fun j (q : s ≤ j ∧ j < (p + 1)) => (⟨by omega, by omega⟩ : s ≤ j ∧ j < pq))).tr (js4.mono (fun j (q : ps 0 ≤ j ∧ j < pq) => (⟨by omega, by omega⟩ : s ≤ j ∧ j < pq)))
  by_cases hw4 : (Z4.1 0 9).toInt = 0
  rotate_left
  · exact ⟨_, o4, Z4, go4, by omega, jr4.mono (fun j (q : s ≤ j ∧ j < pq) => (⟨by omega, by omega⟩ : s ≤ j ∧ j < e)), ⟨by omega, by omega, by omega⟩, fun q => absurd q hw4⟩
  obtain ⟨ho4, hd4, h58_4, h59_4, sg4⟩ := ps4 hw4
  have kp4 : ∀ j, j < d + 1 → Z4.1 58 j = Z3.1 58 j := fun j hj => h58_4 j (by omega)
  have bel4 : ∀ j, j < d → Z4.1 58 j = Z0.1 58 j := fun j hj => (kp4 j (by omega)).trans (bel3 j hj)
  have k59_4 : ∀ j : Nat, (j : Int) < sc → Z4.1 59 j = Z3.1 59 j := fun j hj => h59_4 j hj
  have l59_4 : ∀ j : Nat, (j : Int) < sc → Z4.1 59 j = Z0.1 59 j := fun j hj => (k59_4 j hj).trans (l59_3 j hj)
  have loc4 : LOC Z4 sc B t := loc3.jr hX3.2.1 js4 k59_4
  have n43_4 : ∀ j, pq ≤ j → j < e → (Z4.1 43 j).toInt = -1 := fun j q1 q2 => by rw [js4.2.2.2.2 j (fun (q : ps 0 ≤ j ∧ j < pq) => by omega)]; exact n43_3 j (by omega) q2
  have c4_0 : Z4.1 58 (d + 0) = kF := (kp4 (d + 0) (by omega)).trans c3_0
  have v4_0 : VK Z4 kF := v3_0.kx js4.2.2.1
  have z4_0 : ksz Z4 (ix kF) = ksz Z3 (ix kF) := ksz_kx hX3.2.1 hX4.2.1 js4.2.2.1 _ (by have := ixc v3_0.1; have := v3_0.2; omega)
  have fk4 : FNK Z4 kF (m : Int) := fkm.kx js4.2.2.1
  have fa4 := fa_kx hX3.2.1 js4.2.2.1 fkm (fun i _ => hFA i)
  have h5F := fk4.2.2.2
  have eo4 : ix o4 = pq := by
    have := ixc (z := o4) (by omega)
    omega
  have hop4 : (Z4.1 40 (ix o4)).toInt = 28 := by rw [eo4, hX4.1.1 40 pq (show (8000 : Nat) ∉ [9, 10, 13, 15, 28, 30, 800, 1000, 1200, 1400, 1600, 1800, 2000, 6200, 6400, 8600, 10400, 10600, 10800, 11000, 11200, 11400, 11600, 11800] from by decide)]; exact hs2.1
  have qn4 : (Z4.1 41 pq).toInt = ((n : Nat) : Int) := by rw [hX4.1.1 41 pq (show (8200 : Nat) ∉ [9, 10, 13, 15, 28, 30, 800, 1000, 1200, 1400, 1600, 1800, 2000, 6200, 6400, 8600, 10400, 10600, 10800, 11000, 11200, 11400, 11600, 11800] from by decide)]; exact hs2.2
  have en4 : ix (Z4.1 41 pq) = n := by
    have := ixc (z := Z4.1 41 pq) (by omega)
    omega
  have inn4 : inR (Z4.1 41 pq) 3100 := ⟨by omega, show (Z4.1 41 pq).toInt < ((3100 : Nat) : Int) by omega⟩
  have ino4 : inR o4 24000 := ⟨by omega, show o4.toInt < ((24000 : Nat) : Int) by omega⟩
  have e27b : Z4.1 27 n = X0.1 27 n := hX4.1.1 27 n (show (5400 : Nat) ∉ [9, 10, 13, 15, 28, 30, 800, 1000, 1200, 1400, 1600, 1800, 2000, 6200, 6400, 8600, 10400, 10600, 10800, 11000, 11200, 11400, 11600, 11800] from by decide)
  have g0 : Z4.1 58 d = kF := c4_0
  obtain ⟨o5, Z5, ho5, gs5, js5, ns5, ps5⟩ := jstep (r37 := r37) (a1 := a1) (a2 := a2) (s := pq) (o := o4) (by omega) (by omega) (by omega) hw4 (one_28 hX4.2.1 (by omega) (by omega) ⟨by omega, by omega⟩ hX4.2.2.2.2.2.2 hw4 ino4 hop4 (d := d) (m := m) (by omega) (by omega) (by omega) inn4 (by rw [en4, e27b]; omega) (by rw [g0]; exact fk4))
  have mg5 := js5.2.2.2.1.1
  have mk5 := js5.2.2.1.1
  have hX5 := hX4.jr js5
  have go5 := go4.tr gs5
  have jr5 : JR Z0 Z5 (fun j => s ≤ j ∧ j < (pq + 1)) := (jr4.mono (fun j (q : s ≤ j ∧ j < pq) => (⟨by omega, by omega⟩ : s ≤ j ∧ j < (pq + 1)))).tr (js5.mono (fun j (q : False) => q.elim))
  by_cases hw5 : (Z5.1 0 9).toInt = 0
  rotate_left
  · exact ⟨_, o5, Z5, go5, by omega, jr5.mono (fun j (q : s ≤ j ∧ j < (pq + 1)) => (⟨by omega, by omega⟩ : s ≤ j ∧ j < e)), ⟨by omega, by omega, by omega⟩, fun q => absurd q hw5⟩
  obtain ⟨hd5, ce5, h58_5, h59_5⟩ := ps5 hw5
  rw [g0] at ce5
  have kp5 : ∀ j, j < d + 0 → Z5.1 58 j = Z4.1 58 j := fun j hj => h58_5 j (by omega)
  have bel5 : ∀ j, j < d → Z5.1 58 j = Z0.1 58 j := fun j hj => (kp5 j (by omega)).trans (bel4 j hj)
  have k59_5 : ∀ j : Nat, (j : Int) < sc → Z5.1 59 j = Z4.1 59 j := fun j hj => h59_5 j
  have l59_5 : ∀ j : Nat, (j : Int) < sc → Z5.1 59 j = Z0.1 59 j := fun j hj => (k59_5 j hj).trans (l59_4 j hj)
  have loc5 : LOC Z5 sc B t := loc4.jr hX4.2.1 js5 k59_5
  have n43_5 : ∀ j, (pq + 1) ≤ j → j < e → (Z5.1 43 j).toInt = -1 := fun j q1 q2 => by rw [js5.2.2.2.2 j (fun (q : False) => q)]; exact n43_4 j (by omega) q2
  have fk5 : FNK Z5 kF (m : Int) := fk4.kx js5.2.2.1
  have fa5 := fa_kx hX4.2.1 js5.2.2.1 fk4 fa4
  have hv5 := fa_vk hX5.2.1 fk5 hFA0 fa5
  obtain ⟨kC, qkC⟩ : ∃ x, x = cmpK Z4 kF m := ⟨_, rfl⟩
  have eC : kC = FA (m + 1) := by rw [qkC]; exact (fa4 m (Nat.le_refl _)).symm
  have eC5 : kC = cmpK Z5 kF m := by rw [eC]; exact fa5 m (Nat.le_refl _)
  have vC : VK Z5 kC := by rw [eC]; exact hv5 _ (by omega)
  have csz := cmp_sz hX4.2.1 ⟨fk4.1, fk4.2.1⟩ (i := m) (by omega)
  rw [← qkC] at csz ce5
  have vC4 : VK Z4 kC := by rw [eC]; exact fa_vk hX4.2.1 fk4 hFA0 fa4 _ (by omega)
  have zC : ksz Z5 (ix kC) = ksz Z4 (ix kC) := ksz_kx hX4.2.1 hX5.2.1 js5.2.2.1 _ (by have := ixc vC4.1; have := vC4.2; omega)
  have oz5 : OA Z5 pq 28 n := ⟨by rw [hX5.1.1 40 pq (show (8000 : Nat) ∉ [9, 10, 13, 15, 28, 30, 800, 1000, 1200, 1400, 1600, 1800, 2000, 6200, 6400, 8600, 10400, 10600, 10800, 11000, 11200, 11400, 11600, 11800] from by decide)]; exact hs2.1, by rw [hX5.1.1 41 pq (show (8200 : Nat) ∉ [9, 10, 13, 15, 28, 30, 800, 1000, 1200, 1400, 1600, 1800, 2000, 6200, 6400, 8600, 10400, 10600, 10800, 11000, 11200, 11400, 11600, 11800] from by decide)]; exact hs2.2⟩
  have tpF : tp (exn t FA (m + 1)) m = kF := by rw [exn_tp (by omega), show m + 1 - 1 - m = 0 by omega]; exact hFA0
  have sp5 : SEG Z5 pq (pq + 1) (exn t FA (m + 1)) (psh t kC) := SEG.call ((hval.kx jr5.2.2.1).exn (fun j hj => hv5 j (by omega))) oz5 (by omega) (m := m) (by rw [hX5.1.1 27 n (show (5400 : Nat) ∉ [9, 10, 13, 15, 28, 30, 800, 1000, 1200, 1400, 1600, 1800, 2000, 6200, 6400, 8600, 10400, 10600, 10800, 11000, 11200, 11400, 11600, 11800] from by decide)]; omega) (by omega) (by show m + 1 ≤ t.1 + (m + 1); omega) (by rw [tpF]; exact fk5) (fun i hi => by rw [tpF, exn_tp (by omega), show m + 1 - 1 - (m - 1 - i) = i + 1 by omega]; exact fa5 i (by omega)) (by rw [tpF, ← eC5]; exact (exn_psh (g := fun _ => kC) (Nat.le_refl _) (fun j hj => by omega) rfl).tr (by rw [show m + 1 - (m + 1) + 1 = 1 by omega]; exact exn_end rfl))
  have sg5 := (sg4.jr hX4.2.1 js5 (fun j q1 q2 (q : False) => q)).tr sp5
  have qe : e = pq + 1 := by omega
  refine ⟨_, o5, Z5, go5, by omega, jr5.mono (fun j (q3 : s ≤ j ∧ j < (pq + 1)) => (⟨by omega, by omega⟩ : s ≤ j ∧ j < e)), ⟨by omega, by omega, by omega⟩, fun _ => ⟨by omega, by omega, bel5, l59_5, by rw [ce5]; exact vC, by rw [ce5]; omega, ?_⟩⟩
  rw [ce5, qe]
  exact sg5
