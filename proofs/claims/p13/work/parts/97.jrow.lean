/-! a row's elements -/
theorem el_end {Z : St} {d m : Nat} {it eo : Nat → Nat} (hT : KT Z) (h3 : K3 Z) (hc : (Z.1 0 13).toInt ≤ 5999) (hl : (Z.1 0 15).toInt ≤ 19990) (hd : (Z.1 0 30).toInt = (d : Int)) (hd2 : d + m + 3 < 3200) (hj : 0 ≤ (Z.1 0 29).toInt ∧ (Z.1 0 29).toInt ≤ 40) (hg : 0 ≤ (Z.1 0 28).toInt ∧ (Z.1 0 28).toInt + m < 12000) (hit : ∀ j, j < m → it j < 3100) (heo : ∀ j, j < m → (Z.1 45 (it j)).toInt = (eo j : Int) ∧ eo j < 24000) (hinj : ∀ j k, j < m → k < m → eo j = eo k → j = k) (h43 : ∀ j, j < m → (Z.1 43 (eo j)).toInt = -1) (hk : ∀ j, j < m → 0 ≤ (Z.1 58 (d + j)).toInt ∧ (Z.1 58 (d + j)).toInt < (Z.1 0 13).toInt) (hln : ∀ j, j < m → (j + 1 < m → 0 ≤ (Z.1 28 (it j)).toInt ∧ ix (Z.1 28 (it j)) = it (j + 1)) ∧ (j + 1 = m → (Z.1 28 (it j)).toInt < 0)) {W : St} {e : Int32} (hJ : JR Z W (fun i => ∃ k, k < m ∧ i = eo k)) (hn : W.1 0 13 = Z.1 0 13 ∧ W.1 0 15 = Z.1 0 15 ∧ (W.1 0 28).toInt ≤ (Z.1 0 28).toInt + m) (h30 : W.1 0 30 = Z.1 0 30) (h29 : W.1 0 29 = Z.1 0 29) (h9 : W.1 0 9 = Z.1 0 9) (h58 : ∀ i, W.1 58 i = Z.1 58 i) (h59 : ∀ i, W.1 59 i = Z.1 59 i) (he : 0 ≤ e.toInt ∧ e.toInt < (Z.1 0 13).toInt) (he2 : e = 2 ∨ (0 < m ∧ e = Z.1 58 d)) (hG : ∀ k, k < m → GRD W (eo k) (Z.1 58 (d + k)) e) : ok (f_judgeElements_168 e W) (fun _ Y => JR Z Y (fun i => ∃ k, k < m ∧ i = eo k) ∧ ((Y.1 0 13).toInt ≤ (Z.1 0 13).toInt + 1 ∧ (Y.1 0 15).toInt ≤ (Z.1 0 15).toInt + 5 ∧ (Y.1 0 28).toInt ≤ (Z.1 0 28).toInt + m) ∧ (Y.1 0 30).toInt = (d : Int) + 1 ∧ (∃ e, ROWK Y (Y.1 58 d) e ∧ (0 ≤ e.toInt ∧ e.toInt < (Y.1 0 13).toInt) ∧ (∀ k, k < m → GRD Y (eo k) (Z.1 58 (d + k)) e) ∧ ((e = 2 ∧ ksz Y (ix (Y.1 58 d)) = 2) ∨ (0 < m ∧ e = Z.1 58 d ∧ ksz Y (ix (Y.1 58 d)) = 1 + ksz Z (ix e)))) ∧ (∀ i, i < d → Y.1 58 i = Z.1 58 i) ∧ (∀ i, Y.1 59 i = Z.1 59 i) ∧ Y.1 0 9 = Z.1 0 9) := by
  obtain ⟨n13, n15, n28⟩ := hn
  have i13 : (W.1 0 13).toInt = (Z.1 0 13).toInt := by rw [n13]
  have i15 : (W.1 0 15).toInt = (Z.1 0 15).toInt := by rw [n15]
  have i30 : (W.1 0 30).toInt = (Z.1 0 30).toInt := by rw [h30]
  have i29 : (W.1 0 29).toInt = (Z.1 0 29).toInt := by rw [h29]
  have ed : ix (W.1 0 30) = d := by
    have := ixc (z := W.1 0 30) (by omega)
    omega
  have hee := ixc he.1
  unfold f_judgeElements_168
  refine ok.bd (j_rowOf hJ.2.1 (by omega) (by omega) (by omega)) ?_
  rintro r V ⟨hF3, hT3, hK3, ⟨m13, m15⟩, hR, hsz⟩
  have jV : JR W V (fun _ => False) := JR.kx hF3 hT3 hK3 (by decide) _
  have hx := ixc hR.1
  have hR2 := hR.2.1
  have v30 : V.1 0 30 = W.1 0 30 := hF3.1 0 30 (by decide)
  have v29 : V.1 0 29 = W.1 0 29 := hF3.1 0 29 (by decide)
  refine ok.bd (j_push (X := V) (by rw [v30]; omega) (by rw [v29]; omega) (by omega)) ?_
  rintro - Y ⟨hFY, hy30, hy1, hy2⟩
  rw [show ix (V.1 0 30) = d by rw [v30]; exact ed] at hy1 hy2
  have jY : JR V Y (fun _ => False) := JR.fr hT3 hFY (by decide) _
  have jWY := jV.tr jY
  have y13 : Y.1 0 13 = V.1 0 13 := hFY.1 0 13 (by decide)
  have hkk := hJ.2.2.1.1
  refine ok.ret ⟨hJ.tr (jWY.mono (fun _ q => q.elim)), ?_, by rw [hy30, v30]; omega, ⟨e, ?_, ?_, fun k hk2 => (hG k hk2).jr hJ.2.1 jWY (fun q => q) (by have := hk k hk2; omega) (by omega), ?_⟩, fun i hi => ?_, fun i => ?_, ?_⟩
  · rw [y13, hFY.1 0 15 (by decide), hFY.1 0 28 (by decide), hF3.1 0 28 (by decide)]
    omega
  · rw [hy1]
    exact hR.kx hT3 jY.2.2.1
  · rw [y13]
    have := hK3.1
    omega
  · rw [hy1, ksz_kx hT3 jY.2.1 jY.2.2.1 _ (by omega), hsz, ksz_kx hT hJ.2.1 hJ.2.2.1 _ (by omega)]
    rcases he2 with rfl | ⟨q1, q2⟩
    · exact Or.inl ⟨rfl, by rw [h3.sz hT (k := 2) (by decide)]⟩
    · exact Or.inr ⟨q1, q2, rfl⟩
  · rw [hy2 i (by omega), hF3.1 58 i (show (11600 : Nat) ∉ [13, 15, 800, 1000, 1200, 1400, 1600, 1800, 2000] from by decide), h58]
  · rw [hFY.1 59 i (show (11800 : Nat) ∉ [30, 11400, 11600] from by decide), hF3.1 59 i (show (11800 : Nat) ∉ [13, 15, 800, 1000, 1200, 1400, 1600, 1800, 2000] from by decide), h59]
  · rw [hFY.1 0 9 (by decide), hF3.1 0 9 (by decide), h9]
theorem el_91 {Z : St} {d m : Nat} {it eo : Nat → Nat} (hT : KT Z) (h3 : K3 Z) (hc : (Z.1 0 13).toInt ≤ 5999) (hl : (Z.1 0 15).toInt ≤ 19990) (hd : (Z.1 0 30).toInt = (d : Int)) (hd2 : d + m + 3 < 3200) (hj : 0 ≤ (Z.1 0 29).toInt ∧ (Z.1 0 29).toInt ≤ 40) (hg : 0 ≤ (Z.1 0 28).toInt ∧ (Z.1 0 28).toInt + m < 12000) (hit : ∀ j, j < m → it j < 3100) (heo : ∀ j, j < m → (Z.1 45 (it j)).toInt = (eo j : Int) ∧ eo j < 24000) (hinj : ∀ j k, j < m → k < m → eo j = eo k → j = k) (h43 : ∀ j, j < m → (Z.1 43 (eo j)).toInt = -1) (hk : ∀ j, j < m → 0 ≤ (Z.1 58 (d + j)).toInt ∧ (Z.1 58 (d + j)).toInt < (Z.1 0 13).toInt) (hln : ∀ j, j < m → (j + 1 < m → 0 ≤ (Z.1 28 (it j)).toInt ∧ ix (Z.1 28 (it j)) = it (j + 1)) ∧ (j + 1 = m → (Z.1 28 (it j)).toInt < 0)) {a2 : Int32} (hlike : a2.toInt = 0 ∨ (¬ a2.toInt = 0 ∧ 0 < m ∧ ∀ k, k < m → Z.1 58 (d + k) = Z.1 58 d)) : ∀ (dd j : Nat) (W : St) (a3 a4 : Int32) (N : Nat), j + dd = m → dd < N → a3.toInt = (j : Int) → (dd = 0 → a4.toInt < 0) → (0 < dd → 0 ≤ a4.toInt ∧ ix a4 = it j) → JR Z W (fun i => ∃ k, k < j ∧ i = eo k) → (W.1 0 13 = Z.1 0 13 ∧ W.1 0 15 = Z.1 0 15 ∧ (W.1 0 28).toInt ≤ (Z.1 0 28).toInt + j) → W.1 0 30 = Z.1 0 30 → W.1 0 29 = Z.1 0 29 → W.1 0 9 = Z.1 0 9 → (∀ i, W.1 58 i = Z.1 58 i) → (∀ i, W.1 59 i = Z.1 59 i) → (a2.toInt = 0 → ∀ k, k < j → GRD W (eo k) (Z.1 58 (d + k)) 2) → (¬ a2.toInt = 0 → ∀ i, W.1 43 i = Z.1 43 i) → ok (f_judgeElements_91 N a2 a3 a4 W) (fun _ Y => JR Z Y (fun i => ∃ k, k < m ∧ i = eo k) ∧ ((Y.1 0 13).toInt ≤ (Z.1 0 13).toInt + 1 ∧ (Y.1 0 15).toInt ≤ (Z.1 0 15).toInt + 5 ∧ (Y.1 0 28).toInt ≤ (Z.1 0 28).toInt + m) ∧ (Y.1 0 30).toInt = (d : Int) + 1 ∧ (∃ e, ROWK Y (Y.1 58 d) e ∧ (0 ≤ e.toInt ∧ e.toInt < (Y.1 0 13).toInt) ∧ (∀ k, k < m → GRD Y (eo k) (Z.1 58 (d + k)) e) ∧ ((e = 2 ∧ ksz Y (ix (Y.1 58 d)) = 2) ∨ (0 < m ∧ e = Z.1 58 d ∧ ksz Y (ix (Y.1 58 d)) = 1 + ksz Z (ix e)))) ∧ (∀ i, i < d → Y.1 58 i = Z.1 58 i) ∧ (∀ i, Y.1 59 i = Z.1 59 i) ∧ Y.1 0 9 = Z.1 0 9) := by
  have z2 : (2 : Int32).toInt = 2 := rfl
  have h33 := h3.1
  intro dd
  induction dd with
  | zero =>
    intro j W a3 a4 N hjm hN ha3 hp1 hp2 hJ hn h30 h29 h9 h58 h59 hG hsame
    obtain ⟨N, rfl⟩ : ∃ k, N = k + 1 := ⟨N - 1, by omega⟩
    have ej : j = m := by omega
    subst ej
    have i30 : (W.1 0 30).toInt = (Z.1 0 30).toInt := by rw [h30]
    have ed : ix (W.1 0 30) = d := by
      have := ixc (z := W.1 0 30) (by omega)
      omega
    unfold f_judgeElements_91
    rw [lp_succ]
    unfold f_judgeElements_91_s
    refine ok.ite (fun _ => ?_) (fun c => absurd (hp1 rfl) c)
    refine ok.ite (fun c => ?_) (fun c => ?_)
    · exact el_end hT h3 hc hl hd hd2 hj hg hit heo hinj h43 hk hln hJ hn h30 h29 h9 h58 h59 ⟨by decide, by rw [z2]; omega⟩ (Or.inl rfl) (hG c)
    · obtain ⟨-, hm0, hall⟩ := hlike.resolve_left c
      refine ok.letV (ok.ck ⟨by omega, show (W.1 0 30).toInt < ((3200 : Nat) : Int) by omega⟩ (ok.letE (v1 := Z.1 58 d) (by rw [ed, h58]) ?_))
      have hkd := hk 0 hm0
      rw [Nat.add_zero] at hkd
      refine el_end hT h3 hc hl hd hd2 hj hg hit heo hinj h43 hk hln hJ hn h30 h29 h9 h58 h59 hkd (Or.inr ⟨hm0, rfl⟩) (fun k hk2 => ?_)
      exact Or.inl ⟨hall k hk2, by rw [hsame c]; exact h43 k hk2⟩
  | succ dd ih =>
    intro j W a3 a4 N hjm hN ha3 hp1 hp2 hJ hn h30 h29 h9 h58 h59 hG hsame
    obtain ⟨N, rfl⟩ : ∃ k, N = k + 1 := ⟨N - 1, by omega⟩
    obtain ⟨p1, p2⟩ := hp2 (by omega)
    have hij := hit j (by omega)
    have ea4 := ixc p1
    have in4 : inR a4 3100 := ⟨p1, show a4.toInt < ((3100 : Nat) : Int) by omega⟩
    have hlj := hln j (by omega)
    have hkj := hk j (by omega)
    obtain ⟨ho1, ho2⟩ := heo j (by omega)
    have i30 : (W.1 0 30).toInt = (Z.1 0 30).toInt := by rw [h30]
    have i13 : (W.1 0 13).toInt = (Z.1 0 13).toInt := by rw [hn.1]
    unfold f_judgeElements_91
    rw [lp_succ]
    unfold f_judgeElements_91_s
    refine ok.ite (fun c => absurd c (by omega)) (fun _ => ?_)
    have go : ∀ V : St, JR Z V (fun i => ∃ k, k < j + 1 ∧ i = eo k) → (V.1 0 13 = Z.1 0 13 ∧ V.1 0 15 = Z.1 0 15 ∧ (V.1 0 28).toInt ≤ (Z.1 0 28).toInt + j + 1) → V.1 0 30 = Z.1 0 30 → V.1 0 29 = Z.1 0 29 → V.1 0 9 = Z.1 0 9 → (∀ i, V.1 58 i = Z.1 58 i) → (∀ i, V.1 59 i = Z.1 59 i) → (a2.toInt = 0 → ∀ k, k < j + 1 → GRD V (eo k) (Z.1 58 (d + k)) 2) → (¬ a2.toInt = 0 → ∀ i, V.1 43 i = Z.1 43 i) → ok (f_judgeElements_134 (lp (fun _ _ _ _ => none) f_judgeElements_91_s N) a2 a3 a4 V) (fun _ Y => JR Z Y (fun i => ∃ k, k < m ∧ i = eo k) ∧ ((Y.1 0 13).toInt ≤ (Z.1 0 13).toInt + 1 ∧ (Y.1 0 15).toInt ≤ (Z.1 0 15).toInt + 5 ∧ (Y.1 0 28).toInt ≤ (Z.1 0 28).toInt + m) ∧ (Y.1 0 30).toInt = (d : Int) + 1 ∧ (∃ e, ROWK Y (Y.1 58 d) e ∧ (0 ≤ e.toInt ∧ e.toInt < (Y.1 0 13).toInt) ∧ (∀ k, k < m → GRD Y (eo k) (Z.1 58 (d + k)) e) ∧ ((e = 2 ∧ ksz Y (ix (Y.1 58 d)) = 2) ∨ (0 < m ∧ e = Z.1 58 d ∧ ksz Y (ix (Y.1 58 d)) = 1 + ksz Z (ix e)))) ∧ (∀ i, i < d → Y.1 58 i = Z.1 58 i) ∧ (∀ i, Y.1 59 i = Z.1 59 i) ∧ Y.1 0 9 = Z.1 0 9) := by
      intro V hJV hnV v30 v29 v9 v58 v59 hGV hsV
      unfold f_judgeElements_134
      refine ok.inc (by decide) (by omega) (fun x13 hx13 => ?_)
      have hx13 : x13.toInt = a3.toInt + 1 := hx13
      refine ok.ck in4 (ok.letE (v1 := Z.1 28 (it j)) (by rw [p2]; exact hJV.1.1 28 _ (show (5600 : Nat) ∉ [9, 10, 13, 15, 28, 30, 800, 1000, 1200, 1400, 1600, 1800, 2000, 6200, 6400, 8600, 10400, 10600, 10800, 11000, 11200, 11400, 11600, 11800] from by decide)) ?_)
      have key := ih (j + 1) V x13 (Z.1 28 (it j)) N (by omega) (by omega) (by omega) (fun q => hlj.2 (by omega)) (fun q => hlj.1 (by omega)) hJV ⟨hnV.1, hnV.2.1, by have := hnV.2.2; omega⟩ v30 v29 v9 v58 v59 hGV hsV
      unfold f_judgeElements_91 at key
      exact key
    refine ok.ite (fun c => ?_) (fun c => ?_)
    · refine ok.ck in4 (ok.letE (v1 := Z.1 45 (it j)) (by rw [p2]; exact hJ.1.1 45 _ (show (9000 : Nat) ∉ [9, 10, 13, 15, 28, 30, 800, 1000, 1200, 1400, 1600, 1800, 2000, 6200, 6400, 8600, 10400, 10600, 10800, 11000, 11200, 11400, 11600, 11800] from by decide)) ?_)
      refine ok.letV (ok.add (by omega) (fun x17 hx17 => ?_))
      have e17 : ix x17 = d + j := by
        have := ixc (z := x17) (by omega)
        omega
      refine ok.ck ⟨by omega, show x17.toInt < ((3200 : Nat) : Int) by omega⟩ (ok.letE (v1 := Z.1 58 (d + j)) (by rw [e17, h58]) (ok.ck in4 (ok.letV (ok.letV ?_))))
      have eo1 : ix (Z.1 45 (it j)) = eo j := by
        have := ixc (z := Z.1 45 (it j)) (by omega)
        omega
      have hmono := hJ.2.2.2.1.1
      refine ok.bd (j_guards (X := W) (by omega) (by omega)) ?_
      rintro - V hGd
      rw [eo1] at hGd
      have n43 : (W.1 43 (eo j)).toInt = -1 := by
        rw [hJ.2.2.2.2 (eo j) (fun q => by obtain ⟨k, q1, q2⟩ := q; have := hinj j k (by omega) (by omega) q2; omega)]
        exact h43 j (by omega)
      obtain ⟨g1, g2, g3, g4, g5, g6, g7, g8, g9⟩ := hGd.jr hJ.2.1 (by omega) (FIT.intro (Or.inr (Or.inr (Or.inl rfl)))) n43 (by rw [h29]; exact hj) (by rw [h29]; exact hj) (by omega) (by omega)
      refine go V ((hJ.mono (fun i q => by obtain ⟨k, q1, q2⟩ := q; exact ⟨k, by omega, q2⟩)).tr (g1.mono (fun i (q : i = eo j) => ⟨j, by omega, q⟩))) ⟨g8.trans hn.1, g9.trans hn.2.1, by have := hn.2.2; omega⟩ (g6.trans h30) ((g1.1.1 0 29 (by decide)).trans h29) (g7.trans h9) (fun i => (g4 i).trans (h58 i)) (fun i => (g5 i).trans (h59 i)) (fun _ k hk2 => ?_) (fun q => absurd c q)
      by_cases g : k = j
      · rw [g]
        exact g2
      · have hkk := hk k (by omega)
        exact (hG c k (by omega)).jr hJ.2.1 g1 (fun (q : eo k = eo j) => g (hinj k j (by omega) (by omega) q)) (by omega) (by omega)
    · exact go W (hJ.mono (fun i q => by obtain ⟨k, q1, q2⟩ := q; exact ⟨k, by omega, q2⟩)) ⟨hn.1, hn.2.1, by have := hn.2.2; omega⟩ h30 h29 h9 h58 h59 (fun q => absurd q c) hsame
theorem el_32 {Z : St} {d m : Nat} {p1 : Int32} {Q : Int32 → St → Prop} (hd : (Z.1 0 30).toInt = (d : Int)) (hd2 : d + m + 3 < 3200) (hn : inR p1 3100) (hm : (Z.1 27 (ix p1)).toInt = (m : Int)) (hcont : ∀ a2 : Int32, (a2.toInt = 0 ∨ (¬ a2.toInt = 0 ∧ 0 < m ∧ ∀ k, k < m → Z.1 58 (d + k) = Z.1 58 d)) → ok (f_judgeElements_91 BIG a2 0 (Z.1 24 (ix p1)) Z) Q) : ∀ (dd j : Nat) (a2 a3 : Int32) (N : Nat), m ≤ j + dd → j ≤ m + 1 → 0 < j → dd < N → a3.toInt = (j : Int) → (a2.toInt = 0 ∨ (¬ a2.toInt = 0 ∧ 0 < m ∧ ∀ k, k < j → k < m → Z.1 58 (d + k) = Z.1 58 d)) → ok (f_judgeElements_32 N p1 a2 a3 Z) Q := by
  intro dd
  induction dd with
  | zero =>
    intro j a2 a3 N h1 hj1 hj0 hN ha3 hl
    obtain ⟨N, rfl⟩ : ∃ k, N = k + 1 := ⟨N - 1, by omega⟩
    unfold f_judgeElements_32
    rw [lp_succ]
    unfold f_judgeElements_32_s
    refine ok.ck hn (ok.letV ?_)
    refine ok.ite (fun _ => ok.ck hn (ok.letV (hcont a2 ?_))) (fun c => absurd (show (Z.1 27 (ix p1)).toInt ≤ a3.toInt by omega) c)
    rcases hl with q | ⟨q1, q2, q3⟩
    · exact Or.inl q
    · exact Or.inr ⟨q1, q2, fun k hk => q3 k (by omega) hk⟩
  | succ dd ih =>
    intro j a2 a3 N h1 hj1 hj0 hN ha3 hl
    obtain ⟨N, rfl⟩ : ∃ k, N = k + 1 := ⟨N - 1, by omega⟩
    unfold f_judgeElements_32
    rw [lp_succ]
    unfold f_judgeElements_32_s
    refine ok.ck hn (ok.letV ?_)
    refine ok.ite (fun _ => ok.ck hn (ok.letV (hcont a2 ?_))) (fun c => ?_)
    · rcases hl with q | ⟨q1, q2, q3⟩
      · exact Or.inl q
      · exact Or.inr ⟨q1, q2, fun k hk => q3 k (by omega) hk⟩
    have go : ∀ b : Int32, (b.toInt = 0 ∨ (¬ b.toInt = 0 ∧ 0 < m ∧ ∀ k, k < j + 1 → k < m → Z.1 58 (d + k) = Z.1 58 d)) → ok (f_judgeElements_74 (lp (fun _ _ _ _ => none) f_judgeElements_32_s N) p1 a3 b Z) Q := by
      intro b hb
      unfold f_judgeElements_74
      refine ok.inc (by decide) (by omega) (fun x hx => ?_)
      have hx : x.toInt = a3.toInt + 1 := hx
      have key := ih (j + 1) b x N (by omega) (by omega) (by omega) (by omega) (by omega) hb
      unfold f_judgeElements_32 at key
      exact key
    refine ok.ite (fun c0 => ?_) (fun c0 => ?_)
    · unfold f_judgeElements_73
      exact go 0 (Or.inl rfl)
    · obtain ⟨-, q2, q3⟩ := hl.resolve_left c0
      refine ok.letV (ok.add (by omega) (fun x hx => ?_))
      have ex : ix x = d + j := by
        have := ixc (z := x) (by omega)
        omega
      have ed : ix (Z.1 0 30) = d := by
        have := ixc (z := Z.1 0 30) (by omega)
        omega
      refine ok.ck ⟨by omega, show x.toInt < ((3200 : Nat) : Int) by omega⟩ (ok.letE (v1 := Z.1 58 (d + j)) (by rw [ex]) ?_)
      refine ok.letV (ok.ck ⟨by omega, show (Z.1 0 30).toInt < ((3200 : Nat) : Int) by omega⟩ (ok.letE (v1 := Z.1 58 d) (by rw [ed]) ?_))
      refine ok.ite (fun ce => go 1 (Or.inr ⟨by decide, q2, fun k k1 k2 => ?_⟩)) (fun _ => ?_)
      · by_cases g : k = j
        · rw [g]
          exact Int32.toInt_inj.mp ce
        · exact q3 k (by omega) k2
      · unfold f_judgeElements_73
        exact go 0 (Or.inl rfl)
theorem one_18 {X : St} (hT : KT X) (hc : (X.1 0 13).toInt ≤ 5999) (hl : (X.1 0 15).toInt ≤ 19990) (hg : 0 ≤ (X.1 0 28).toInt ∧ (X.1 0 28).toInt < 12000) (hj : 0 ≤ (X.1 0 29).toInt ∧ (X.1 0 29).toInt ≤ 40) (hw : (X.1 0 9).toInt = 0) {p1 p2 : Int32} (hop1 : inR p1 24000) (hop : (X.1 40 (ix p1)).toInt = 18) (h3 : K3 X) {d m : Nat} {it eo : Nat → Nat} (hd : (X.1 0 30).toInt = (d : Int) + m) (hd2 : d + m + 3 < 3200) (hm20 : m ≤ 20) (hg2 : (X.1 0 28).toInt < 11970) (hn : inR p2 3100) (hm : (X.1 27 (ix p2)).toInt = (m : Int)) (h0 : (m = 0 → (X.1 24 (ix p2)).toInt < 0) ∧ (0 < m → 0 ≤ (X.1 24 (ix p2)).toInt ∧ ix (X.1 24 (ix p2)) = it 0)) (hit : ∀ j, j < m → it j < 3100) (heo : ∀ j, j < m → (X.1 45 (it j)).toInt = (eo j : Int) ∧ eo j < 24000) (hinj : ∀ j k, j < m → k < m → eo j = eo k → j = k) (h43 : ∀ j, j < m → (X.1 43 (eo j)).toInt = -1) (hk : ∀ j, j < m → 0 ≤ (X.1 58 (d + j)).toInt ∧ (X.1 58 (d + j)).toInt < (X.1 0 13).toInt) (hln : ∀ j, j < m → (j + 1 < m → 0 ≤ (X.1 28 (it j)).toInt ∧ ix (X.1 28 (it j)) = it (j + 1)) ∧ (j + 1 = m → (X.1 28 (it j)).toInt < 0)) : ok (f_judgeOne p1 p2 X) (fun _ Y => JO X Y (fun i => ∃ k, k < m ∧ i = eo k) m 1 ((Y.1 0 30).toInt = (d : Int) + 1 ∧ (∃ e, ROWK Y (Y.1 58 d) e ∧ (0 ≤ e.toInt ∧ e.toInt < (Y.1 0 13).toInt) ∧ (∀ k, k < m → GRD Y (eo k) (X.1 58 (d + k)) e) ∧ ((e = 2 ∧ ksz Y (ix (Y.1 58 d)) = 2) ∨ (0 < m ∧ e = X.1 58 d ∧ ksz Y (ix (Y.1 58 d)) = 1 + ksz X (ix e)))) ∧ (∀ i, i < d → Y.1 58 i = X.1 58 i) ∧ (∀ i, Y.1 59 i = X.1 59 i))) := by
  unfold f_judgeOne
  refine ok.ck hop1 (ok.letE (v1 := X.1 40 (ix p1)) rfl ?_)
  refine ok.ite (fun c => absurd c (by omega)) (fun _ => ?_)
  refine ok.ite (fun c => absurd c (by omega)) (fun _ => ?_)
  refine ok.ite (fun c => absurd c (by omega)) (fun _ => ?_)
  refine ok.ite (fun c => absurd c (by omega)) (fun _ => ?_)
  refine ok.ite (fun c => absurd c (by omega)) (fun _ => ?_)
  refine ok.ite (fun c => absurd c (by omega)) (fun _ => ?_)
  refine ok.ite (fun c => absurd c (by omega)) (fun _ => ?_)
  refine ok.ite (fun c => absurd c (by omega)) (fun _ => ?_)
  refine ok.ite (fun c => absurd c (by omega)) (fun _ => ?_)
  refine ok.ite (fun c => absurd c (by omega)) (fun _ => ?_)
  refine ok.ite (fun c => absurd c (by omega)) (fun _ => ?_)
  refine ok.ite (fun c => absurd c (by omega)) (fun _ => ?_)
  refine ok.bd (R := fun _ Y => JO X Y (fun i => ∃ k, k < m ∧ i = eo k) m 1 ((Y.1 0 30).toInt = (d : Int) + 1 ∧ (∃ e, ROWK Y (Y.1 58 d) e ∧ (0 ≤ e.toInt ∧ e.toInt < (Y.1 0 13).toInt) ∧ (∀ k, k < m → GRD Y (eo k) (X.1 58 (d + k)) e) ∧ ((e = 2 ∧ ksz Y (ix (Y.1 58 d)) = 2) ∨ (0 < m ∧ e = X.1 58 d ∧ ksz Y (ix (Y.1 58 d)) = 1 + ksz X (ix e)))) ∧ (∀ i, i < d → Y.1 58 i = X.1 58 i) ∧ (∀ i, Y.1 59 i = X.1 59 i))) ?_ (fun _ Y h => ok.ret h)
  unfold f_judgeMore
  refine ok.ck hop1 (ok.letE (v1 := X.1 40 (ix p1)) rfl ?_)
  refine ok.ite (fun c => absurd c (by omega)) (fun _ => ?_)
  refine ok.ite (fun c => absurd c (by omega)) (fun _ => ?_)
  refine ok.ite (fun c => absurd c (by omega)) (fun _ => ?_)
  refine ok.ite (fun c => absurd c (by omega)) (fun _ => ?_)
  refine ok.ite (fun _ => ?_) (fun c => absurd hop c)
  refine ok.bd (R := fun _ Y => JO X Y (fun i => ∃ k, k < m ∧ i = eo k) m 1 ((Y.1 0 30).toInt = (d : Int) + 1 ∧ (∃ e, ROWK Y (Y.1 58 d) e ∧ (0 ≤ e.toInt ∧ e.toInt < (Y.1 0 13).toInt) ∧ (∀ k, k < m → GRD Y (eo k) (X.1 58 (d + k)) e) ∧ ((e = 2 ∧ ksz Y (ix (Y.1 58 d)) = 2) ∨ (0 < m ∧ e = X.1 58 d ∧ ksz Y (ix (Y.1 58 d)) = 1 + ksz X (ix e)))) ∧ (∀ i, i < d → Y.1 58 i = X.1 58 i) ∧ (∀ i, Y.1 59 i = X.1 59 i))) ?_ (fun _ Y h => ok.ret h)
  unfold f_judgeElements
  refine ok.letV (ok.ck hn (ok.letV (ok.sub (by omega) (fun z hz => ok.letV ?_))))
  have hF : Fr YR [30] X (wI X 0 30 z) := Fr.rf.wI 0 30 _ (show (30 : Nat) ∈ [30] from by decide)
  obtain ⟨a, b⟩ := popd (X := X) (z := z) (d := d) hT (by omega) (fun i => ∃ k, k < m ∧ i = eo k)
  obtain ⟨Z, hZ⟩ : ∃ Z : St, wI X 0 30 z = Z := ⟨_, rfl⟩
  rw [hZ] at hF a b ⊢
  have e13 : Z.1 0 13 = X.1 0 13 := hF.1 0 13 (by decide)
  have e15 : Z.1 0 15 = X.1 0 15 := hF.1 0 15 (by decide)
  have e28 : Z.1 0 28 = X.1 0 28 := hF.1 0 28 (by decide)
  have e29 : Z.1 0 29 = X.1 0 29 := hF.1 0 29 (by decide)
  have c58 : ∀ i, Z.1 58 i = X.1 58 i := fun i => hF.1 58 i (show (11600 : Nat) ∉ [30] from by decide)
  have c59 : ∀ i, Z.1 59 i = X.1 59 i := fun i => hF.1 59 i (show (11800 : Nat) ∉ [30] from by decide)
  have c45 : ∀ i, Z.1 45 i = X.1 45 i := fun i => hF.1 45 i (show (9000 : Nat) ∉ [30] from by decide)
  have c43 : ∀ i, Z.1 43 i = X.1 43 i := fun i => hF.1 43 i (show (8600 : Nat) ∉ [30] from by decide)
  have c28 : ∀ i, Z.1 28 i = X.1 28 i := fun i => hF.1 28 i (show (5600 : Nat) ∉ [30] from by decide)
  have c27 : Z.1 27 (ix p2) = X.1 27 (ix p2) := hF.1 27 _ (show (5400 : Nat) ∉ [30] from by decide)
  have c24 : Z.1 24 (ix p2) = X.1 24 (ix p2) := hF.1 24 _ (show (4800 : Nat) ∉ [30] from by decide)
  have zT := hT.fr hF (by decide)
  have zK := KX.fr hF (by decide)
  have z3 := h3.kx zK
  have main : ∀ a2 : Int32, (a2.toInt = 0 ∨ (¬ a2.toInt = 0 ∧ 0 < m ∧ ∀ k, k < m → Z.1 58 (d + k) = Z.1 58 d)) → ok (f_judgeElements_91 BIG a2 0 (Z.1 24 (ix p2)) Z) (fun _ Y => JO X Y (fun i => ∃ k, k < m ∧ i = eo k) m 1 ((Y.1 0 30).toInt = (d : Int) + 1 ∧ (∃ e, ROWK Y (Y.1 58 d) e ∧ (0 ≤ e.toInt ∧ e.toInt < (Y.1 0 13).toInt) ∧ (∀ k, k < m → GRD Y (eo k) (X.1 58 (d + k)) e) ∧ ((e = 2 ∧ ksz Y (ix (Y.1 58 d)) = 2) ∨ (0 < m ∧ e = X.1 58 d ∧ ksz Y (ix (Y.1 58 d)) = 1 + ksz X (ix e)))) ∧ (∀ i, i < d → Y.1 58 i = X.1 58 i) ∧ (∀ i, Y.1 59 i = X.1 59 i))) := by
    intro a2 ha2
    have key := el_91 (Z := Z) (d := d) (m := m) (it := it) (eo := eo) zT z3 (by rw [e13]; exact hc) (by rw [e15]; exact hl) b hd2 (by rw [e29]; exact hj) (by rw [e28]; omega) hit (fun j hj2 => by rw [c45]; exact heo j hj2) hinj (fun j hj2 => by rw [c43]; exact h43 j hj2) (fun j hj2 => by rw [c58, e13]; exact hk j hj2) (fun j hj2 => by rw [c28]; exact hln j hj2) (a2 := a2) ha2 m 0 Z 0 (Z.1 24 (ix p2)) BIG (by omega) (ltBIG (by omega)) rfl (by rw [c24]; exact h0.1) (by rw [c24]; exact h0.2) (JR.fr zT (Fr.rf (L := [])) (by decide) _) ⟨rfl, rfl, by omega⟩ rfl rfl rfl (fun _ => rfl) (fun _ => rfl) (fun _ k hk2 => absurd hk2 (Nat.not_lt_zero _)) (fun _ _ => rfl)
    refine key.mono ?_
    rintro r Y ⟨y1, y2, y3, ⟨e, y4, y5, y6, y7⟩, y8, y9, y10⟩
    rw [e13, e15, e28] at y2
    refine ⟨a.tr y1, by omega, fun _ => ⟨y3, ⟨e, y4, y5, fun k hk2 => by rw [← c58]; exact y6 k hk2, ?_⟩, fun i hi => (y8 i hi).trans (c58 i), fun i => (y9 i).trans (c59 i)⟩⟩
    rw [c58, ksz_fr hF (by decide)] at y7
    exact y7
  refine ok.ck hn (ok.letE (v1 := X.1 27 (ix p2)) c27 ?_)
  have z32 := el_32 (Z := Z) (d := d) (m := m) (p1 := p2) b hd2 hn (by rw [c27]; exact hm) main m 1
  refine ok.ite (fun c => ?_) (fun c => ?_)
  · unfold f_judgeElements_29
    exact z32 0 1 BIG (by omega) (by omega) (by omega) (ltBIG (by omega)) rfl (Or.inl rfl)
  · unfold f_judgeElements_29
    exact z32 1 1 BIG (by omega) (by omega) (by omega) (ltBIG (by omega)) rfl (Or.inr ⟨by decide, by omega, fun k k1 _ => by rw [show k = 0 by omega]; rfl⟩)
