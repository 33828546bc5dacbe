theorem TP.after2 {X V Y : St} {h s e : Nat} {S S0 : Nat → Prop} (hc : CS X V h s e S S0) (hF : Fr YR [27, 9600, 9800, 10000, 10200] V Y) (hl : ∀ i, i < h → Y.1 48 i = V.1 48 i ∧ Y.1 49 i = V.1 49 i ∧ Y.1 50 i = V.1 50 i) (h51 : ∀ i, ¬ S0 i → Y.1 51 i = V.1 51 i) : CS X Y h s e S S0 := by
  obtain ⟨a, b, c, d, f, g, i, j⟩ := hc
  have bk : ∀ e i, cod YR e i = 200 * e → 200 * e ∉ [27, 9600, 9800, 10000, 10200] → Y.1 e i = V.1 e i := fun e i h1 h2 => hF.1 e i (by rw [h1]; exact h2)
  refine ⟨a.tr hF (by decide), by rw [hF.1 0 26 (by decide)]; exact b, c, fun k hk => ?_, fun k hk => ?_, fun k h1 h2 => ?_, fun k hk => ?_, fun k hk => ?_⟩
  · obtain ⟨p, q, r⟩ := hl k hk
    obtain ⟨p1, q1, r1⟩ := d k hk
    exact ⟨p.trans p1, q.trans q1, r.trans r1⟩
  · rw [bk 40 k rfl (by decide), bk 41 k rfl (by decide), bk 42 k rfl (by decide), bk 43 k rfl (by decide)]
    exact f k hk
  · rw [bk 43 k rfl (by decide)]
    exact g k h1 h2
  · rw [bk 46 k rfl (by decide), bk 47 k rfl (by decide)]
    exact i k hk
  · rw [bk 45 k rfl (by decide), h51 k hk]
    exact j k hk
theorem st_40c {r7 : Int32 → St → Option (Int32 × St)} {a1 : Int32} {X : St} {h s : Nat} {n m : Int32} {L : List (Int32 × Int32 × Int32)} {it : Nat → Nat} {mm : Nat} (ht : Top X h 40 n m) (hs : (X.1 0 26).toInt = (s : Int)) (hh : h < 13000) (hss : s < 24000) (hT : ∀ W : St, (∀ e, 20 ≤ e ∧ e ≤ 28 → ∀ i, W.1 e i = X.1 e i) → (W.1 0 27).toInt = (h : Int) → ok (f_tells n W) (fun _ Y => TP [27, 9600, 9800, 10000, 10200] W Y L ∧ (∀ j, j < mm → Y.1 51 (it j) = n) ∧ (∀ q, (∀ j, j < mm → q ≠ it j) → Y.1 51 q = W.1 51 q))) (S S0 : Nat → Prop) (hS0 : ∀ j, j < mm → S0 (it j)) : ∃ Y, Go r7 a1 1 X Y ∧ CS X Y h s (s + 1) S S0 ∧ (Y.1 0 27).toInt = (h : Int) + L.length ∧ (Y.1 40 s = 0 ∧ Y.1 41 s = n) ∧ (∀ j x, L[j]? = some x → Y.1 48 (h + j) = x.1 ∧ Y.1 49 (h + j) = x.2.1 ∧ Y.1 50 (h + j) = x.2.2) ∧ ∀ j, j < mm → Y.1 51 (it j) = n := by
  obtain ⟨W, Y, hF, hw, hg, hq⟩ := pop (r7 := r7) (a1 := a1) (Q := fun Y => CS X Y h s (s + 1) S S0 ∧ (Y.1 0 27).toInt = (h : Int) + L.length ∧ (Y.1 40 s = 0 ∧ Y.1 41 s = n) ∧ (∀ j x, L[j]? = some x → Y.1 48 (h + j) = x.1 ∧ Y.1 49 (h + j) = x.2.1 ∧ Y.1 50 (h + j) = x.2.2) ∧ ∀ j, j < mm → Y.1 51 (it j) = n) ht hh (fun W hF hw => by
    have e26 : W.1 0 26 = X.1 0 26 := hF.1 0 26 (by decide)
    refine (go_40 (Q := fun V Y => TP [27, 9600, 9800, 10000, 10200] V Y L ∧ (∀ j, j < mm → Y.1 51 (it j) = n) ∧ (∀ q, (∀ j, j < mm → q ≠ it j) → Y.1 51 q = V.1 51 q)) (by rw [e26]; omega) (fun V hV => ?_)).mono ?_
    · refine hT V (fun e he i => ?_) (by rw [hV.1.1 0 27 (by decide)]; exact hw)
      have hcod : cod YR e i = 200 * e := by
        obtain ⟨h1, h2⟩ := he
        have : e = 20 ∨ e = 21 ∨ e = 22 ∨ e = 23 ∨ e = 24 ∨ e = 25 ∨ e = 26 ∨ e = 27 ∨ e = 28 := by omega
        rcases this with rfl | rfl | rfl | rfl | rfl | rfl | rfl | rfl | rfl <;> rfl
      rw [hV.1.1 e i (by rw [hcod]; simp only [List.mem_cons, List.not_mem_nil, or_false]; omega), hF.1 e i (by rw [hcod]; simp only [List.mem_cons, List.not_mem_nil, or_false]; omega)]
    · rintro - Y ⟨V, hO, ⟨t1, t2, t3, t4⟩, v1, v2⟩
      obtain ⟨c1, c2, c3, c4, c5⟩ := hO.cs (hb := h) (S := S) (S0 := S0) hF Fr.rf (fun _ _ => rfl) hs
      have e27 : (V.1 0 27).toInt = (h : Int) := c2.trans hw
      have eh : ix (V.1 0 27) = h := by
        have := ixc (z := V.1 0 27) (by omega)
        omega
      rw [eh] at t4
      exact ⟨TP.after2 c1 t1 (fun i hi => t3 i (by omega)) (fun i hi => v2 i (fun j hj q => hi (by rw [q]; exact hS0 j hj))), by rw [t2, e27], ⟨(t1.1 40 s (show (8000 : Nat) ∉ [27, 9600, 9800, 10000, 10200] from by decide)).trans c3, (t1.1 41 s (show (8200 : Nat) ∉ [27, 9600, 9800, 10000, 10200] from by decide)).trans c4⟩, t4, v1⟩)
  exact ⟨Y, hg, hq⟩
set_option maxHeartbeats 4000000 in
theorem pc_4n {r7 : Int32 → St → Option (Int32 × St)} {a1 : Int32} {X0 : St} {n lo hi : Nat} {sc : Int} (hlo : lo ≤ n) (hhi0 : n < hi) (hk : (X0.1 20 n).toInt = 4) {it cu : Nat → Nat} (hl : n = lo) (hm : (X0.1 27 n).toInt ≤ 20) (hmany : (X0.1 27 n).toInt = 0) (dl : LSB (fun n lo hi sc => WX X0 n lo hi sc ∧ PC r7 a1 X0 n lo hi sc) X0 n (n + 1) hi sc it cu) : PC r7 a1 X0 n lo hi sc := by
  intro X h s nn m0 hF hnn hhi ht hs hb hb2
  have hcu0 := dl.1
  have hm0 := ixc dl.2.2.1
  have hbd : ∀ n l r s, (WX X0 n l r s ∧ PC r7 a1 X0 n l r s) → l ≤ n ∧ n < r := fun n l r s q => q.1.bd
  have hle4 : ∀ i, i < ix (X0.1 27 n) → n + 1 ≤ cu i ∧ cu i ≤ it i ∧ it i < cu (i + 1) ∧ cu (i + 1) ≤ hi := fun i hi => LSB.le dl hbd i hi
  have hle : ∀ i, i < ix (X0.1 27 n) → cu i ≤ it i ∧ it i < cu (i + 1) ∧ cu (i + 1) ≤ hi := fun i hi => (hle4 i hi).2
  have hmon : ∀ i j, i < j → j < ix (X0.1 27 n) → cu (i + 1) ≤ cu j := fun i j h1 h2 => by
    have q := cu_mono (fun i hi => (dl.2.2.2.2.2 i hi).1) hbd (j - (i + 1)) (i + 1) (by omega)
    rw [show i + 1 + (j - (i + 1)) = j by omega] at q
    exact q
  have hcm : cu 0 = hi := by have q := dl.2.1; rw [show ix (X0.1 27 n) = 0 by omega] at q; exact q
  have e24 : X.1 24 n = X0.1 24 n := hF.1 24 n (show (4800 : Nat) ∉ [26, 27, 8000, 8200, 8400, 8600, 9000, 9200, 9400, 9600, 9800, 10000, 10200] from by decide)
  have en : ix nn = n := by
    have := ixc (z := nn) (by omega)
    omega
  have hin : inR nn 3100 := ⟨by omega, show nn.toInt < ((3100 : Nat) : Int) by omega⟩
  have e20 : X.1 20 n = X0.1 20 n := hF.1 20 n (show (4000 : Nat) ∉ [26, 27, 8000, 8200, 8400, 8600, 9000, 9200, 9400, 9600, 9800, 10000, 10200] from by decide)
  obtain ⟨Z0, g0, c0, t0, ⟨o0, o0n⟩, l0⟩ := st_40 (r7 := r7) (a1 := a1) (L := [(18, nn, 0)]) ht hs (by omega) (by omega) (fun W hW hw => by
    have q := tells_4n (X := W) (p1 := nn) hin (by rw [hW 20 ⟨by decide, by decide⟩, en, e20]; exact hk) (by rw [hW 24 ⟨by decide, by decide⟩, en, e24]; exact dl.2.2.2.1 hmany) (by omega)
    skip
    exact q) (fun _ => False) (fun _ => False)
  have f0 : OA Z0 s 0 n := ⟨by rw [o0]; rfl, by rw [o0n]; exact hnn⟩
  have q0_0 : Z0.1 48 (h + 0) = ((18, nn, 0) : Int32 × Int32 × Int32).1 ∧ Z0.1 49 (h + 0) = ((18, nn, 0) : Int32 × Int32 × Int32).2.1 ∧ Z0.1 50 (h + 0) = ((18, nn, 0) : Int32 × Int32 × Int32).2.2 := l0 0 (18, nn, 0) rfl
  have u0 : (Z0.1 0 27).toInt = (h : Int) + 1 := by rw [t0]; rfl
  obtain ⟨Z1, g1, c1, t1, d1, d1n, d1m⟩ := st_ord (r7 := r7) (a1 := a1) (show Top Z0 (h + 0) 18 nn 0 from ⟨by rw [u0]; omega, q0_0⟩) c0.2.1 (by omega) (by omega) (by decide) (fun _ => False) (fun _ => False)
  have f1 : OA Z1 (s + 1) 18 n := ⟨by rw [d1]; rfl, by rw [d1n]; exact hnn⟩
  have f2 : OA Z1 s 0 n := c1.oa f0 (by omega)
  have u1 : (Z1.1 0 27).toInt = (h : Int) + 0 := by rw [t1]; omega
  have cc1 := (c0.mono (h1 := h) (S1 := fun i => lo ≤ i ∧ i < hi) (S01 := fun i => lo ≤ i ∧ i < hi ∧ i ≠ n) (by omega) (fun i q => q.elim) (fun i q => q.elim)).tr (c1.mono (h1 := h) (S1 := fun i => lo ≤ i ∧ i < hi) (S01 := fun i => lo ≤ i ∧ i < hi ∧ i ≠ n) (by omega) (fun i (q : False) => q.elim) (fun i (q : False) => q.elim))
  have hFz : Fr YR [26, 27, 8000, 8200, 8400, 8600, 9000, 9200, 9400, 9600, 9800, 10000, 10200] X0 Z1 := ((hF.tr c0.1 (by decide)).tr c1.1 (by decide))
  have z20 : Z1.1 20 n = X0.1 20 n := hFz.1 20 n (show (4000 : Nat) ∉ [26, 27, 8000, 8200, 8400, 8600, 9000, 9200, 9400, 9600, 9800, 10000, 10200] from by decide)
  have z23 : Z1.1 23 n = X0.1 23 n := hFz.1 23 n (show (4600 : Nat) ∉ [26, 27, 8000, 8200, 8400, 8600, 9000, 9200, 9400, 9600, 9800, 10000, 10200] from by decide)
  have z24 : Z1.1 24 n = X0.1 24 n := hFz.1 24 n (show (4800 : Nat) ∉ [26, 27, 8000, 8200, 8400, 8600, 9000, 9200, 9400, 9600, 9800, 10000, 10200] from by decide)
  have z25 : Z1.1 25 n = X0.1 25 n := hFz.1 25 n (show (5000 : Nat) ∉ [26, 27, 8000, 8200, 8400, 8600, 9000, 9200, 9400, 9600, 9800, 10000, 10200] from by decide)
  have z26 : Z1.1 26 n = X0.1 26 n := hFz.1 26 n (show (5200 : Nat) ∉ [26, 27, 8000, 8200, 8400, 8600, 9000, 9200, 9400, 9600, 9800, 10000, 10200] from by decide)
  have z27 : Z1.1 27 n = X0.1 27 n := hFz.1 27 n (show (5400 : Nat) ∉ [26, 27, 8000, 8200, 8400, 8600, 9000, 9200, 9400, 9600, 9800, 10000, 10200] from by decide)
  refine ⟨1 + 1, ((s + 1) + 1), Z1, (g0.tr g1), by omega, cc1, by rw [u1]; omega, ?_, by omega⟩
  exact CX.intro ⟨by omega, by omega, by omega, f2, (Or.inr (Or.inr (Or.inr (Or.inr (Or.inr (Or.inr (Or.inr (Or.inr (Or.inr (Or.inl ⟨hl, (by rw [z20]; exact hk), by rw [z27]; exact hm, (s + 1), (show LSC (CX Z1) Z1 n (n + 1) hi sc 0 (s + 1) (s + 1) from ⟨it, cu, fun _ => (s + 1), dl.1, by rw [z27]; exact dl.2.1, rfl, rfl, by rw [z27]; exact dl.2.2.1, by rw [z27, z24]; exact dl.2.2.2.1, by rw [z27, z24]; exact dl.2.2.2.2.1, fun j hj => by rw [z27] at hj; omega⟩), f1, rfl⟩))))))))))⟩
set_option maxHeartbeats 4000000 in
theorem pc_4 {r7 : Int32 → St → Option (Int32 × St)} {a1 : Int32} {X0 : St} {n lo hi : Nat} {sc : Int} (hlo : lo ≤ n) (hhi0 : n < hi) (hk : (X0.1 20 n).toInt = 4) {it cu : Nat → Nat} (hl : n = lo) (hm : (X0.1 27 n).toInt ≤ 20) (hmany : 0 < (X0.1 27 n).toInt) (dl : LSB (fun n lo hi sc => WX X0 n lo hi sc ∧ PC r7 a1 X0 n lo hi sc) X0 n (n + 1) hi sc it cu) : PC r7 a1 X0 n lo hi sc := by
  intro X h s nn m0 hF hnn hhi ht hs hb hb2
  have hcu0 := dl.1
  have hm0 := ixc dl.2.2.1
  have hbd : ∀ n l r s, (WX X0 n l r s ∧ PC r7 a1 X0 n l r s) → l ≤ n ∧ n < r := fun n l r s q => q.1.bd
  have hle4 : ∀ i, i < ix (X0.1 27 n) → n + 1 ≤ cu i ∧ cu i ≤ it i ∧ it i < cu (i + 1) ∧ cu (i + 1) ≤ hi := fun i hi => LSB.le dl hbd i hi
  have hle : ∀ i, i < ix (X0.1 27 n) → cu i ≤ it i ∧ it i < cu (i + 1) ∧ cu (i + 1) ≤ hi := fun i hi => (hle4 i hi).2
  have hmon : ∀ i j, i < j → j < ix (X0.1 27 n) → cu (i + 1) ≤ cu j := fun i j h1 h2 => by
    have q := cu_mono (fun i hi => (dl.2.2.2.2.2 i hi).1) hbd (j - (i + 1)) (i + 1) (by omega)
    rw [show i + 1 + (j - (i + 1)) = j by omega] at q
    exact q
  have h24 := dl.2.2.2.2.1 hmany
  have h24x := ixc h24.1
  have en : ix nn = n := by
    have := ixc (z := nn) (by omega)
    omega
  have hin : inR nn 3100 := ⟨by omega, show nn.toInt < ((3100 : Nat) : Int) by omega⟩
  have e20 : X.1 20 n = X0.1 20 n := hF.1 20 n (show (4000 : Nat) ∉ [26, 27, 8000, 8200, 8400, 8600, 9000, 9200, 9400, 9600, 9800, 10000, 10200] from by decide)
  have e24 : X.1 24 n = X0.1 24 n := hF.1 24 n (show (4800 : Nat) ∉ [26, 27, 8000, 8200, 8400, 8600, 9000, 9200, 9400, 9600, 9800, 10000, 10200] from by decide)
  obtain ⟨Z0, g0, c0, t0, ⟨o0, o0n⟩, l0⟩ := st_40 (r7 := r7) (a1 := a1) (L := [(18, nn, 0), (41, (X0.1 24 n), 0)]) ht hs (by omega) (by omega) (fun W hW hw => by
    have q := tells_4 (X := W) (p1 := nn) hin (by rw [hW 20 ⟨by decide, by decide⟩, en, e20]; exact hk) (by rw [hW 24 ⟨by decide, by decide⟩, en, e24]; exact h24.1) (by omega)
    rw [hW 24 ⟨by decide, by decide⟩ (ix nn)] at q; rw [en, e24] at q
    exact q) (fun _ => False) (fun _ => False)
  have f0 : OA Z0 s 0 n := ⟨by rw [o0]; rfl, by rw [o0n]; exact hnn⟩
  have q0_0 : Z0.1 48 (h + 0) = ((18, nn, 0) : Int32 × Int32 × Int32).1 ∧ Z0.1 49 (h + 0) = ((18, nn, 0) : Int32 × Int32 × Int32).2.1 ∧ Z0.1 50 (h + 0) = ((18, nn, 0) : Int32 × Int32 × Int32).2.2 := l0 0 (18, nn, 0) rfl
  have q0_1 : Z0.1 48 (h + 1) = ((41, (X0.1 24 n), 0) : Int32 × Int32 × Int32).1 ∧ Z0.1 49 (h + 1) = ((41, (X0.1 24 n), 0) : Int32 × Int32 × Int32).2.1 ∧ Z0.1 50 (h + 1) = ((41, (X0.1 24 n), 0) : Int32 × Int32 × Int32).2.2 := l0 1 (41, (X0.1 24 n), 0) rfl
  have u0 : (Z0.1 0 27).toInt = (h : Int) + 2 := by rw [t0]; rfl
  obtain ⟨k1, pl, Z1, ps, g1, b1, c1, t1, psi, psm, x1, y1⟩ := list_0 (n := n) (l := n + 1) dl.2.1 hhi dl.2.2.2.2.2  hle (ix (X0.1 27 n) - 1) 0 (by omega) Z0 (h + 1) (s + 1) (X0.1 24 n) 0 (hF.tr c0.1 (by decide)) (by omega) ⟨by rw [u0]; omega, q0_1⟩ (by decide) c0.2.1 (by omega) (by omega)
  have lp1 := c1.2.2.1
  have ls1 : LSC (CX Z1) Z1 n (n + 1) hi sc 0 (s + 1) pl := by
    have e27z : Z1.1 27 n = X0.1 27 n := ((hF.tr c0.1 (by decide)).tr c1.1 (by decide)).1 27 n (show (5400 : Nat) ∉ [26, 27, 8000, 8200, 8400, 8600, 9000, 9200, 9400, 9600, 9800, 10000, 10200] from by decide)
    have e24z : Z1.1 24 n = X0.1 24 n := ((hF.tr c0.1 (by decide)).tr c1.1 (by decide)).1 24 n (show (4800 : Nat) ∉ [26, 27, 8000, 8200, 8400, 8600, 9000, 9200, 9400, 9600, 9800, 10000, 10200] from by decide)
    refine ⟨it, cu, ps, dl.1, by rw [e27z]; exact dl.2.1, psi, by rw [e27z]; exact psm, by rw [e27z]; exact dl.2.2.1, by rw [e27z, e24z]; exact dl.2.2.2.1, by rw [e27z, e24z]; exact dl.2.2.2.2.1, ?_⟩
    rw [e27z]
    intro j hj
    have e28z : Z1.1 28 (it j) = X0.1 28 (it j) := ((hF.tr c0.1 (by decide)).tr c1.1 (by decide)).1 28 _ (show (5600 : Nat) ∉ [26, 27, 8000, 8200, 8400, 8600, 9000, 9200, 9400, 9600, 9800, 10000, 10200] from by decide)
    rw [e28z]
    exact ⟨x1 j (Nat.zero_le _) hj, (dl.2.2.2.2.2 j hj).2⟩
  have f1 : OA Z1 s 0 n := c1.oa f0 (by omega)
  have q1_0 := (show _ ∧ _ ∧ _ from ⟨(c1.2.2.2.1 (h + 0) (by omega)).1.trans q0_0.1, (c1.2.2.2.1 (h + 0) (by omega)).2.1.trans q0_0.2.1, (c1.2.2.2.1 (h + 0) (by omega)).2.2.trans q0_0.2.2⟩)
  have u1 : (Z1.1 0 27).toInt = (h : Int) + 1 := by rw [t1]; omega
  have cc1 := (c0.mono (h1 := h) (S1 := fun i => lo ≤ i ∧ i < hi) (S01 := fun i => lo ≤ i ∧ i < hi ∧ i ≠ n) (by omega) (fun i q => q.elim) (fun i q => q.elim)).tr (c1.mono (h1 := h) (S1 := fun i => lo ≤ i ∧ i < hi) (S01 := fun i => lo ≤ i ∧ i < hi ∧ i ≠ n) (by omega) (fun i (q : (cu 0 ≤ i ∧ i < hi)) => (⟨by omega, by omega⟩ : lo ≤ i ∧ i < hi)) (fun i (q : (cu 0 ≤ i ∧ i < hi)) => (⟨by omega, by omega, by omega⟩ : lo ≤ i ∧ i < hi ∧ i ≠ n)))
  obtain ⟨Z2, g2, c2, t2, d2, d2n, d2m⟩ := st_ord (r7 := r7) (a1 := a1) (show Top Z1 (h + 0) 18 nn 0 from ⟨by rw [u1]; omega, q1_0⟩) c1.2.1 (by omega) (by omega) (by decide) (fun _ => False) (fun _ => False)
  have f2 : OA Z2 pl 18 n := ⟨by rw [d2]; rfl, by rw [d2n]; exact hnn⟩
  have f3 : OA Z2 s 0 n := c2.oa f1 (by omega)
  have f4 : LSC (CX Z2) Z2 n (n + 1) hi sc 0 (s + 1) pl := ls1.cs c2 (by omega)
  have u2 : (Z2.1 0 27).toInt = (h : Int) + 0 := by rw [t2]; omega
  have cc2 := cc1.tr (c2.mono (h1 := h) (S1 := fun i => lo ≤ i ∧ i < hi) (S01 := fun i => lo ≤ i ∧ i < hi ∧ i ≠ n) (by omega) (fun i (q : False) => q.elim) (fun i (q : False) => q.elim))
  have hFz : Fr YR [26, 27, 8000, 8200, 8400, 8600, 9000, 9200, 9400, 9600, 9800, 10000, 10200] X0 Z2 := (((hF.tr c0.1 (by decide)).tr c1.1 (by decide)).tr c2.1 (by decide))
  have z20 : Z2.1 20 n = X0.1 20 n := hFz.1 20 n (show (4000 : Nat) ∉ [26, 27, 8000, 8200, 8400, 8600, 9000, 9200, 9400, 9600, 9800, 10000, 10200] from by decide)
  have z23 : Z2.1 23 n = X0.1 23 n := hFz.1 23 n (show (4600 : Nat) ∉ [26, 27, 8000, 8200, 8400, 8600, 9000, 9200, 9400, 9600, 9800, 10000, 10200] from by decide)
  have z24 : Z2.1 24 n = X0.1 24 n := hFz.1 24 n (show (4800 : Nat) ∉ [26, 27, 8000, 8200, 8400, 8600, 9000, 9200, 9400, 9600, 9800, 10000, 10200] from by decide)
  have z25 : Z2.1 25 n = X0.1 25 n := hFz.1 25 n (show (5000 : Nat) ∉ [26, 27, 8000, 8200, 8400, 8600, 9000, 9200, 9400, 9600, 9800, 10000, 10200] from by decide)
  have z26 : Z2.1 26 n = X0.1 26 n := hFz.1 26 n (show (5200 : Nat) ∉ [26, 27, 8000, 8200, 8400, 8600, 9000, 9200, 9400, 9600, 9800, 10000, 10200] from by decide)
  have z27 : Z2.1 27 n = X0.1 27 n := hFz.1 27 n (show (5400 : Nat) ∉ [26, 27, 8000, 8200, 8400, 8600, 9000, 9200, 9400, 9600, 9800, 10000, 10200] from by decide)
  refine ⟨1 + k1 + 1, (pl + 1), Z2, ((g0.tr g1).tr g2), by omega, cc2, by rw [u2]; omega, ?_, by omega⟩
  exact CX.intro ⟨by omega, by omega, by omega, f3, (Or.inr (Or.inr (Or.inr (Or.inr (Or.inr (Or.inr (Or.inr (Or.inr (Or.inr (Or.inl ⟨hl, (by rw [z20]; exact hk), by rw [z27]; exact hm, pl, f4, f2, rfl⟩))))))))))⟩
set_option maxHeartbeats 4000000 in
theorem pc_9 {r7 : Int32 → St → Option (Int32 × St)} {a1 : Int32} {X0 : St} {n lo hi : Nat} {sc : Int} (hlo : lo ≤ n) (hhi0 : n < hi) (hk : (X0.1 20 n).toInt = 9) {it cu : Nat → Nat} (hl : n = lo) (hm : 1 ≤ (X0.1 27 n).toInt) (hmany : 0 < (X0.1 27 n).toInt) (dl : LSB (fun n lo hi sc => WX X0 n lo hi sc ∧ PC r7 a1 X0 n lo hi sc) X0 n (n + 1) hi sc it cu) : PC r7 a1 X0 n lo hi sc := by
  intro X h s nn m0 hF hnn hhi ht hs hb hb2
  have hcu0 := dl.1
  have hm0 := ixc dl.2.2.1
  have hbd : ∀ n l r s, (WX X0 n l r s ∧ PC r7 a1 X0 n l r s) → l ≤ n ∧ n < r := fun n l r s q => q.1.bd
  have hle4 : ∀ i, i < ix (X0.1 27 n) → n + 1 ≤ cu i ∧ cu i ≤ it i ∧ it i < cu (i + 1) ∧ cu (i + 1) ≤ hi := fun i hi => LSB.le dl hbd i hi
  have hle : ∀ i, i < ix (X0.1 27 n) → cu i ≤ it i ∧ it i < cu (i + 1) ∧ cu (i + 1) ≤ hi := fun i hi => (hle4 i hi).2
  have hmon : ∀ i j, i < j → j < ix (X0.1 27 n) → cu (i + 1) ≤ cu j := fun i j h1 h2 => by
    have q := cu_mono (fun i hi => (dl.2.2.2.2.2 i hi).1) hbd (j - (i + 1)) (i + 1) (by omega)
    rw [show i + 1 + (j - (i + 1)) = j by omega] at q
    exact q
  have h24 := dl.2.2.2.2.1 hmany
  have h24x := ixc h24.1
  have en : ix nn = n := by
    have := ixc (z := nn) (by omega)
    omega
  have hin : inR nn 3100 := ⟨by omega, show nn.toInt < ((3100 : Nat) : Int) by omega⟩
  have e20 : X.1 20 n = X0.1 20 n := hF.1 20 n (show (4000 : Nat) ∉ [26, 27, 8000, 8200, 8400, 8600, 9000, 9200, 9400, 9600, 9800, 10000, 10200] from by decide)
  have e24 : X.1 24 n = X0.1 24 n := hF.1 24 n (show (4800 : Nat) ∉ [26, 27, 8000, 8200, 8400, 8600, 9000, 9200, 9400, 9600, 9800, 10000, 10200] from by decide)
  obtain ⟨Z0, g0, c0, t0, ⟨o0, o0n⟩, l0⟩ := st_40 (r7 := r7) (a1 := a1) (L := [(41, (X0.1 24 n), 1)]) ht hs (by omega) (by omega) (fun W hW hw => by
    have q := tells_9 (X := W) (p1 := nn) hin (by rw [hW 20 ⟨by decide, by decide⟩, en, e20]; exact hk) (by omega)
    rw [hW 24 ⟨by decide, by decide⟩ (ix nn)] at q; rw [en, e24] at q
    exact q) (fun _ => False) (fun _ => False)
  have f0 : OA Z0 s 0 n := ⟨by rw [o0]; rfl, by rw [o0n]; exact hnn⟩
  have q0_0 : Z0.1 48 (h + 0) = ((41, (X0.1 24 n), 1) : Int32 × Int32 × Int32).1 ∧ Z0.1 49 (h + 0) = ((41, (X0.1 24 n), 1) : Int32 × Int32 × Int32).2.1 ∧ Z0.1 50 (h + 0) = ((41, (X0.1 24 n), 1) : Int32 × Int32 × Int32).2.2 := l0 0 (41, (X0.1 24 n), 1) rfl
  have u0 : (Z0.1 0 27).toInt = (h : Int) + 1 := by rw [t0]; rfl
  obtain ⟨k1, pl, Z1, ps, g1, b1, c1, t1, psi, psm, x1, y1⟩ := list_1 (n := n) (l := n + 1) dl.2.1 hhi dl.2.2.2.2.2  hle (ix (X0.1 27 n) - 1) 0 (by omega) Z0 (h + 0) (s + 1) (X0.1 24 n) 1 (hF.tr c0.1 (by decide)) (by omega) ⟨by rw [u0]; omega, q0_0⟩ (by decide) c0.2.1 (by omega) (by omega)
  have lp1 := c1.2.2.1
  have ls1 : LSC (CX Z1) Z1 n (n + 1) hi sc 1 (s + 1) pl := by
    have e27z : Z1.1 27 n = X0.1 27 n := ((hF.tr c0.1 (by decide)).tr c1.1 (by decide)).1 27 n (show (5400 : Nat) ∉ [26, 27, 8000, 8200, 8400, 8600, 9000, 9200, 9400, 9600, 9800, 10000, 10200] from by decide)
    have e24z : Z1.1 24 n = X0.1 24 n := ((hF.tr c0.1 (by decide)).tr c1.1 (by decide)).1 24 n (show (4800 : Nat) ∉ [26, 27, 8000, 8200, 8400, 8600, 9000, 9200, 9400, 9600, 9800, 10000, 10200] from by decide)
    refine ⟨it, cu, ps, dl.1, by rw [e27z]; exact dl.2.1, psi, by rw [e27z]; exact psm, by rw [e27z]; exact dl.2.2.1, by rw [e27z, e24z]; exact dl.2.2.2.1, by rw [e27z, e24z]; exact dl.2.2.2.2.1, ?_⟩
    rw [e27z]
    intro j hj
    have e28z : Z1.1 28 (it j) = X0.1 28 (it j) := ((hF.tr c0.1 (by decide)).tr c1.1 (by decide)).1 28 _ (show (5600 : Nat) ∉ [26, 27, 8000, 8200, 8400, 8600, 9000, 9200, 9400, 9600, 9800, 10000, 10200] from by decide)
    rw [e28z]
    exact ⟨x1 j (Nat.zero_le _) hj, (dl.2.2.2.2.2 j hj).2⟩
  have f1 : OA Z1 s 0 n := c1.oa f0 (by omega)
  have u1 : (Z1.1 0 27).toInt = (h : Int) + 0 := by rw [t1]; omega
  have cc1 := (c0.mono (h1 := h) (S1 := fun i => lo ≤ i ∧ i < hi) (S01 := fun i => lo ≤ i ∧ i < hi ∧ i ≠ n) (by omega) (fun i q => q.elim) (fun i q => q.elim)).tr (c1.mono (h1 := h) (S1 := fun i => lo ≤ i ∧ i < hi) (S01 := fun i => lo ≤ i ∧ i < hi ∧ i ≠ n) (by omega) (fun i (q : (cu 0 ≤ i ∧ i < hi)) => (⟨by omega, by omega⟩ : lo ≤ i ∧ i < hi)) (fun i (q : (cu 0 ≤ i ∧ i < hi)) => (⟨by omega, by omega, by omega⟩ : lo ≤ i ∧ i < hi ∧ i ≠ n)))
  have hFz : Fr YR [26, 27, 8000, 8200, 8400, 8600, 9000, 9200, 9400, 9600, 9800, 10000, 10200] X0 Z1 := ((hF.tr c0.1 (by decide)).tr c1.1 (by decide))
  have z20 : Z1.1 20 n = X0.1 20 n := hFz.1 20 n (show (4000 : Nat) ∉ [26, 27, 8000, 8200, 8400, 8600, 9000, 9200, 9400, 9600, 9800, 10000, 10200] from by decide)
  have z23 : Z1.1 23 n = X0.1 23 n := hFz.1 23 n (show (4600 : Nat) ∉ [26, 27, 8000, 8200, 8400, 8600, 9000, 9200, 9400, 9600, 9800, 10000, 10200] from by decide)
  have z24 : Z1.1 24 n = X0.1 24 n := hFz.1 24 n (show (4800 : Nat) ∉ [26, 27, 8000, 8200, 8400, 8600, 9000, 9200, 9400, 9600, 9800, 10000, 10200] from by decide)
  have z25 : Z1.1 25 n = X0.1 25 n := hFz.1 25 n (show (5000 : Nat) ∉ [26, 27, 8000, 8200, 8400, 8600, 9000, 9200, 9400, 9600, 9800, 10000, 10200] from by decide)
  have z26 : Z1.1 26 n = X0.1 26 n := hFz.1 26 n (show (5200 : Nat) ∉ [26, 27, 8000, 8200, 8400, 8600, 9000, 9200, 9400, 9600, 9800, 10000, 10200] from by decide)
  have z27 : Z1.1 27 n = X0.1 27 n := hFz.1 27 n (show (5400 : Nat) ∉ [26, 27, 8000, 8200, 8400, 8600, 9000, 9200, 9400, 9600, 9800, 10000, 10200] from by decide)
  refine ⟨1 + k1, pl, Z1, (g0.tr g1), by omega, cc1, by rw [u1]; omega, ?_, by omega⟩
  exact CX.intro ⟨by omega, by omega, by omega, f1, (Or.inr (Or.inr (Or.inr (Or.inr (Or.inr (Or.inr (Or.inr (Or.inr (Or.inr (Or.inr (Or.inl ⟨hl, (by rw [z20]; exact hk), by rw [z27]; exact hm, ls1⟩)))))))))))⟩
set_option maxHeartbeats 4000000 in
theorem pc_11n {r7 : Int32 → St → Option (Int32 × St)} {a1 : Int32} {X0 : St} {n lo hi : Nat} {sc : Int} (hlo : lo ≤ n) (hhi0 : n < hi) (hk : (X0.1 20 n).toInt = 11) {it cu : Nat → Nat} (hm : (X0.1 27 n).toInt ≤ 4) (hmany : (X0.1 27 n).toInt = 0) (hA : CHR (fun n lo hi sc => WX X0 n lo hi sc ∧ PC r7 a1 X0 n lo hi sc) X0 23 n lo n sc) (dl : LSB (fun n lo hi sc => WX X0 n lo hi sc ∧ PC r7 a1 X0 n lo hi sc) X0 n (n + 1) hi sc it cu) : PC r7 a1 X0 n lo hi sc := by
  intro X h s nn m0 hF hnn hhi ht hs hb hb2
  have hcu0 := dl.1
  have hm0 := ixc dl.2.2.1
  have hbd : ∀ n l r s, (WX X0 n l r s ∧ PC r7 a1 X0 n l r s) → l ≤ n ∧ n < r := fun n l r s q => q.1.bd
  have hle4 : ∀ i, i < ix (X0.1 27 n) → n + 1 ≤ cu i ∧ cu i ≤ it i ∧ it i < cu (i + 1) ∧ cu (i + 1) ≤ hi := fun i hi => LSB.le dl hbd i hi
  have hle : ∀ i, i < ix (X0.1 27 n) → cu i ≤ it i ∧ it i < cu (i + 1) ∧ cu (i + 1) ≤ hi := fun i hi => (hle4 i hi).2
  have hmon : ∀ i j, i < j → j < ix (X0.1 27 n) → cu (i + 1) ≤ cu j := fun i j h1 h2 => by
    have q := cu_mono (fun i hi => (dl.2.2.2.2.2 i hi).1) hbd (j - (i + 1)) (i + 1) (by omega)
    rw [show i + 1 + (j - (i + 1)) = j by omega] at q
    exact q
  have hcm : cu 0 = hi := by have q := dl.2.1; rw [show ix (X0.1 27 n) = 0 by omega] at q; exact q
  have hbA := hA.2.1.bd
  have e24 : X.1 24 n = X0.1 24 n := hF.1 24 n (show (4800 : Nat) ∉ [26, 27, 8000, 8200, 8400, 8600, 9000, 9200, 9400, 9600, 9800, 10000, 10200] from by decide)
  have en : ix nn = n := by
    have := ixc (z := nn) (by omega)
    omega
  have hin : inR nn 3100 := ⟨by omega, show nn.toInt < ((3100 : Nat) : Int) by omega⟩
  have e20 : X.1 20 n = X0.1 20 n := hF.1 20 n (show (4000 : Nat) ∉ [26, 27, 8000, 8200, 8400, 8600, 9000, 9200, 9400, 9600, 9800, 10000, 10200] from by decide)
  have e23 : X.1 23 n = X0.1 23 n := hF.1 23 n (show (4600 : Nat) ∉ [26, 27, 8000, 8200, 8400, 8600, 9000, 9200, 9400, 9600, 9800, 10000, 10200] from by decide)
  obtain ⟨Z0, g0, c0, t0, ⟨o0, o0n⟩, l0⟩ := st_40 (r7 := r7) (a1 := a1) (L := [(28, nn, 0), (7, nn, 0), (40, (X0.1 23 n), 0)]) ht hs (by omega) (by omega) (fun W hW hw => by
    have q := tells_11n (X := W) (p1 := nn) hin (by rw [hW 20 ⟨by decide, by decide⟩, en, e20]; exact hk) (by rw [hW 24 ⟨by decide, by decide⟩, en, e24]; exact dl.2.2.2.1 hmany) (by omega)
    rw [hW 23 ⟨by decide, by decide⟩ (ix nn)] at q; rw [en, e23] at q
    exact q) (fun _ => False) (fun _ => False)
  have f0 : OA Z0 s 0 n := ⟨by rw [o0]; rfl, by rw [o0n]; exact hnn⟩
  have q0_0 : Z0.1 48 (h + 0) = ((28, nn, 0) : Int32 × Int32 × Int32).1 ∧ Z0.1 49 (h + 0) = ((28, nn, 0) : Int32 × Int32 × Int32).2.1 ∧ Z0.1 50 (h + 0) = ((28, nn, 0) : Int32 × Int32 × Int32).2.2 := l0 0 (28, nn, 0) rfl
  have q0_1 : Z0.1 48 (h + 1) = ((7, nn, 0) : Int32 × Int32 × Int32).1 ∧ Z0.1 49 (h + 1) = ((7, nn, 0) : Int32 × Int32 × Int32).2.1 ∧ Z0.1 50 (h + 1) = ((7, nn, 0) : Int32 × Int32 × Int32).2.2 := l0 1 (7, nn, 0) rfl
  have q0_2 : Z0.1 48 (h + 2) = ((40, (X0.1 23 n), 0) : Int32 × Int32 × Int32).1 ∧ Z0.1 49 (h + 2) = ((40, (X0.1 23 n), 0) : Int32 × Int32 × Int32).2.1 ∧ Z0.1 50 (h + 2) = ((40, (X0.1 23 n), 0) : Int32 × Int32 × Int32).2.2 := l0 2 (40, (X0.1 23 n), 0) rfl
  have u0 : (Z0.1 0 27).toInt = (h : Int) + 3 := by rw [t0]; rfl
  obtain ⟨k1, p1, Z1, g1, b1, c1, t1, x1, y1⟩ := hA.2.2 Z0 (h + 2) (s + 1) (X0.1 23 n) 0 (hF.tr c0.1 (by decide)) (ixc hA.1).symm (by omega) ⟨by rw [u0]; omega, q0_2⟩ c0.2.1 (by omega) (by omega)
  have bx1 := x1.bd
  have f1 : OA Z1 s 0 n := c1.oa f0 (by omega)
  have q1_0 := (show _ ∧ _ ∧ _ from ⟨(c1.2.2.2.1 (h + 0) (by omega)).1.trans q0_0.1, (c1.2.2.2.1 (h + 0) (by omega)).2.1.trans q0_0.2.1, (c1.2.2.2.1 (h + 0) (by omega)).2.2.trans q0_0.2.2⟩)
  have q1_1 := (show _ ∧ _ ∧ _ from ⟨(c1.2.2.2.1 (h + 1) (by omega)).1.trans q0_1.1, (c1.2.2.2.1 (h + 1) (by omega)).2.1.trans q0_1.2.1, (c1.2.2.2.1 (h + 1) (by omega)).2.2.trans q0_1.2.2⟩)
  have u1 : (Z1.1 0 27).toInt = (h : Int) + 2 := by rw [t1]; omega
  have cc1 := (c0.mono (h1 := h) (S1 := fun i => lo ≤ i ∧ i < hi) (S01 := fun i => lo ≤ i ∧ i < hi ∧ i ≠ n) (by omega) (fun i q => q.elim) (fun i q => q.elim)).tr (c1.mono (h1 := h) (S1 := fun i => lo ≤ i ∧ i < hi) (S01 := fun i => lo ≤ i ∧ i < hi ∧ i ≠ n) (by omega) (fun i (q : (lo ≤ i ∧ i < n)) => (⟨by omega, by omega⟩ : lo ≤ i ∧ i < hi)) (fun i (q : (lo ≤ i ∧ i < n ∧ i ≠ ix (X0.1 23 n))) => (⟨by omega, by omega, by omega⟩ : lo ≤ i ∧ i < hi ∧ i ≠ n)))
  obtain ⟨Z2, g2, c2, t2, d2, d2n, d2m⟩ := st_ord (r7 := r7) (a1 := a1) (show Top Z1 (h + 1) 7 nn 0 from ⟨by rw [u1]; omega, q1_1⟩) c1.2.1 (by omega) (by omega) (by decide) (fun _ => False) (fun _ => False)
  have f2 : OA Z2 p1 7 n := ⟨by rw [d2]; rfl, by rw [d2n]; exact hnn⟩
  have f3 : OA Z2 s 0 n := c2.oa f1 (by omega)
  have f4 : CX Z2 (ix (X0.1 23 n)) lo n sc (s + 1) p1 := x1.cs c2 (by omega) (fun i i1 i2 => ⟨fun (q : False) => by omega, fun i3 (q : False) => by omega⟩)
  have q2_0 := (show _ ∧ _ ∧ _ from ⟨(c2.2.2.2.1 (h + 0) (by omega)).1.trans q1_0.1, (c2.2.2.2.1 (h + 0) (by omega)).2.1.trans q1_0.2.1, (c2.2.2.2.1 (h + 0) (by omega)).2.2.trans q1_0.2.2⟩)
  have u2 : (Z2.1 0 27).toInt = (h : Int) + 1 := by rw [t2]; omega
  have cc2 := cc1.tr (c2.mono (h1 := h) (S1 := fun i => lo ≤ i ∧ i < hi) (S01 := fun i => lo ≤ i ∧ i < hi ∧ i ≠ n) (by omega) (fun i (q : False) => q.elim) (fun i (q : False) => q.elim))
  obtain ⟨Z3, g3, c3, t3, d3, d3n, d3m⟩ := st_ord (r7 := r7) (a1 := a1) (show Top Z2 (h + 0) 28 nn 0 from ⟨by rw [u2]; omega, q2_0⟩) c2.2.1 (by omega) (by omega) (by decide) (fun _ => False) (fun _ => False)
  have f5 : OA Z3 (p1 + 1) 28 n := ⟨by rw [d3]; rfl, by rw [d3n]; exact hnn⟩
  have f6 : OA Z3 s 0 n := c3.oa f3 (by omega)
  have f7 : CX Z3 (ix (X0.1 23 n)) lo n sc (s + 1) p1 := f4.cs c3 (by omega) (fun i i1 i2 => ⟨fun (q : False) => by omega, fun i3 (q : False) => by omega⟩)
  have f8 : OA Z3 p1 7 n := c3.oa f2 (by omega)
  have u3 : (Z3.1 0 27).toInt = (h : Int) + 0 := by rw [t3]; omega
  have cc3 := cc2.tr (c3.mono (h1 := h) (S1 := fun i => lo ≤ i ∧ i < hi) (S01 := fun i => lo ≤ i ∧ i < hi ∧ i ≠ n) (by omega) (fun i (q : False) => q.elim) (fun i (q : False) => q.elim))
  have hFz : Fr YR [26, 27, 8000, 8200, 8400, 8600, 9000, 9200, 9400, 9600, 9800, 10000, 10200] X0 Z3 := ((((hF.tr c0.1 (by decide)).tr c1.1 (by decide)).tr c2.1 (by decide)).tr c3.1 (by decide))
  have z20 : Z3.1 20 n = X0.1 20 n := hFz.1 20 n (show (4000 : Nat) ∉ [26, 27, 8000, 8200, 8400, 8600, 9000, 9200, 9400, 9600, 9800, 10000, 10200] from by decide)
  have z23 : Z3.1 23 n = X0.1 23 n := hFz.1 23 n (show (4600 : Nat) ∉ [26, 27, 8000, 8200, 8400, 8600, 9000, 9200, 9400, 9600, 9800, 10000, 10200] from by decide)
  have z24 : Z3.1 24 n = X0.1 24 n := hFz.1 24 n (show (4800 : Nat) ∉ [26, 27, 8000, 8200, 8400, 8600, 9000, 9200, 9400, 9600, 9800, 10000, 10200] from by decide)
  have z25 : Z3.1 25 n = X0.1 25 n := hFz.1 25 n (show (5000 : Nat) ∉ [26, 27, 8000, 8200, 8400, 8600, 9000, 9200, 9400, 9600, 9800, 10000, 10200] from by decide)
  have z26 : Z3.1 26 n = X0.1 26 n := hFz.1 26 n (show (5200 : Nat) ∉ [26, 27, 8000, 8200, 8400, 8600, 9000, 9200, 9400, 9600, 9800, 10000, 10200] from by decide)
  have z27 : Z3.1 27 n = X0.1 27 n := hFz.1 27 n (show (5400 : Nat) ∉ [26, 27, 8000, 8200, 8400, 8600, 9000, 9200, 9400, 9600, 9800, 10000, 10200] from by decide)
  refine ⟨1 + k1 + 1 + 1, ((p1 + 1) + 1), Z3, (((g0.tr g1).tr g2).tr g3), by omega, cc3, by rw [u3]; omega, ?_, by omega⟩
  exact CX.intro ⟨by omega, by omega, by omega, f6, (Or.inr (Or.inr (Or.inr (Or.inr (Or.inr (Or.inr (Or.inr (Or.inr (Or.inr (Or.inr (Or.inr ⟨(by rw [z20]; exact hk), by rw [z27]; exact hm, p1, (p1 + 1), ⟨by rw [z23]; exact hA.1, by rw [z23]; exact f7⟩, f8, (show LSC (CX Z3) Z3 n (n + 1) hi sc 2 (p1 + 1) (p1 + 1) from ⟨it, cu, fun _ => (p1 + 1), dl.1, by rw [z27]; exact dl.2.1, rfl, rfl, by rw [z27]; exact dl.2.2.1, by rw [z27, z24]; exact dl.2.2.2.1, by rw [z27, z24]; exact dl.2.2.2.2.1, fun j hj => by rw [z27] at hj; omega⟩), f5, rfl⟩)))))))))))⟩
set_option maxHeartbeats 4000000 in
theorem pc_11 {r7 : Int32 → St → Option (Int32 × St)} {a1 : Int32} {X0 : St} {n lo hi : Nat} {sc : Int} (hlo : lo ≤ n) (hhi0 : n < hi) (hk : (X0.1 20 n).toInt = 11) {it cu : Nat → Nat} (hm : (X0.1 27 n).toInt ≤ 4) (hmany : 0 < (X0.1 27 n).toInt) (hA : CHR (fun n lo hi sc => WX X0 n lo hi sc ∧ PC r7 a1 X0 n lo hi sc) X0 23 n lo n sc) (dl : LSB (fun n lo hi sc => WX X0 n lo hi sc ∧ PC r7 a1 X0 n lo hi sc) X0 n (n + 1) hi sc it cu) : PC r7 a1 X0 n lo hi sc := by
  intro X h s nn m0 hF hnn hhi ht hs hb hb2
  have hcu0 := dl.1
  have hm0 := ixc dl.2.2.1
  have hbd : ∀ n l r s, (WX X0 n l r s ∧ PC r7 a1 X0 n l r s) → l ≤ n ∧ n < r := fun n l r s q => q.1.bd
  have hle4 : ∀ i, i < ix (X0.1 27 n) → n + 1 ≤ cu i ∧ cu i ≤ it i ∧ it i < cu (i + 1) ∧ cu (i + 1) ≤ hi := fun i hi => LSB.le dl hbd i hi
  have hle : ∀ i, i < ix (X0.1 27 n) → cu i ≤ it i ∧ it i < cu (i + 1) ∧ cu (i + 1) ≤ hi := fun i hi => (hle4 i hi).2
  have hmon : ∀ i j, i < j → j < ix (X0.1 27 n) → cu (i + 1) ≤ cu j := fun i j h1 h2 => by
    have q := cu_mono (fun i hi => (dl.2.2.2.2.2 i hi).1) hbd (j - (i + 1)) (i + 1) (by omega)
    rw [show i + 1 + (j - (i + 1)) = j by omega] at q
    exact q
  have h24 := dl.2.2.2.2.1 hmany
  have h24x := ixc h24.1
  have hbA := hA.2.1.bd
  have en : ix nn = n := by
    have := ixc (z := nn) (by omega)
    omega
  have hin : inR nn 3100 := ⟨by omega, show nn.toInt < ((3100 : Nat) : Int) by omega⟩
  have e20 : X.1 20 n = X0.1 20 n := hF.1 20 n (show (4000 : Nat) ∉ [26, 27, 8000, 8200, 8400, 8600, 9000, 9200, 9400, 9600, 9800, 10000, 10200] from by decide)
  have e23 : X.1 23 n = X0.1 23 n := hF.1 23 n (show (4600 : Nat) ∉ [26, 27, 8000, 8200, 8400, 8600, 9000, 9200, 9400, 9600, 9800, 10000, 10200] from by decide)
  have e24 : X.1 24 n = X0.1 24 n := hF.1 24 n (show (4800 : Nat) ∉ [26, 27, 8000, 8200, 8400, 8600, 9000, 9200, 9400, 9600, 9800, 10000, 10200] from by decide)
  obtain ⟨Z0, g0, c0, t0, ⟨o0, o0n⟩, l0, z51⟩ := st_40c (r7 := r7) (a1 := a1) (L := [(28, nn, 0), (43, (X0.1 24 n), 0), (7, nn, 0), (40, (X0.1 23 n), 0)]) (it := it) (mm := ix (X0.1 27 n)) ht hs (by omega) (by omega) (fun W hW hw => by
    have w24 : W.1 24 (ix nn) = X0.1 24 n := by rw [hW 24 ⟨by decide, by decide⟩, en, e24]
    have w28 : ∀ j, W.1 28 j = X0.1 28 j := fun j => (hW 28 ⟨by decide, by decide⟩ j).trans (hF.1 28 j (show (5600 : Nat) ∉ [26, 27, 8000, 8200, 8400, 8600, 9000, 9200, 9400, 9600, 9800, 10000, 10200] from by decide))
    have q := tells_11 (X := W) (p1 := nn) (it := it) (m := ix (X0.1 27 n)) hin (by rw [hW 20 ⟨by decide, by decide⟩, en, e20]; exact hk) (by omega) (fun j hj => by have := hle4 j hj; omega) (by rw [w24]; exact h24) (fun i hi => by rw [w28]; exact (dl.2.2.2.2.2 i hi).2) (by omega)
    rw [w24, hW 23 ⟨by decide, by decide⟩ (ix nn), en, e23] at q
    exact q) (fun i => lo ≤ i ∧ i < hi) (fun i => lo ≤ i ∧ i < hi ∧ i ≠ n) (fun j hj => by have := hle4 j hj; exact (⟨by omega, by omega, by omega⟩ : lo ≤ it j ∧ it j < hi ∧ it j ≠ n))
  have f0 : OA Z0 s 0 n := ⟨by rw [o0]; rfl, by rw [o0n]; exact hnn⟩
  have q0_0 : Z0.1 48 (h + 0) = ((28, nn, 0) : Int32 × Int32 × Int32).1 ∧ Z0.1 49 (h + 0) = ((28, nn, 0) : Int32 × Int32 × Int32).2.1 ∧ Z0.1 50 (h + 0) = ((28, nn, 0) : Int32 × Int32 × Int32).2.2 := l0 0 (28, nn, 0) rfl
  have q0_1 : Z0.1 48 (h + 1) = ((43, (X0.1 24 n), 0) : Int32 × Int32 × Int32).1 ∧ Z0.1 49 (h + 1) = ((43, (X0.1 24 n), 0) : Int32 × Int32 × Int32).2.1 ∧ Z0.1 50 (h + 1) = ((43, (X0.1 24 n), 0) : Int32 × Int32 × Int32).2.2 := l0 1 (43, (X0.1 24 n), 0) rfl
  have q0_2 : Z0.1 48 (h + 2) = ((7, nn, 0) : Int32 × Int32 × Int32).1 ∧ Z0.1 49 (h + 2) = ((7, nn, 0) : Int32 × Int32 × Int32).2.1 ∧ Z0.1 50 (h + 2) = ((7, nn, 0) : Int32 × Int32 × Int32).2.2 := l0 2 (7, nn, 0) rfl
  have q0_3 : Z0.1 48 (h + 3) = ((40, (X0.1 23 n), 0) : Int32 × Int32 × Int32).1 ∧ Z0.1 49 (h + 3) = ((40, (X0.1 23 n), 0) : Int32 × Int32 × Int32).2.1 ∧ Z0.1 50 (h + 3) = ((40, (X0.1 23 n), 0) : Int32 × Int32 × Int32).2.2 := l0 3 (40, (X0.1 23 n), 0) rfl
  have u0 : (Z0.1 0 27).toInt = (h : Int) + 4 := by rw [t0]; rfl
  obtain ⟨k1, p1, Z1, g1, b1, c1, t1, x1, y1⟩ := hA.2.2 Z0 (h + 3) (s + 1) (X0.1 23 n) 0 (hF.tr c0.1 (by decide)) (ixc hA.1).symm (by omega) ⟨by rw [u0]; omega, q0_3⟩ c0.2.1 (by omega) (by omega)
  have bx1 := x1.bd
  have f1 : OA Z1 s 0 n := c1.oa f0 (by omega)
  have q1_0 := (show _ ∧ _ ∧ _ from ⟨(c1.2.2.2.1 (h + 0) (by omega)).1.trans q0_0.1, (c1.2.2.2.1 (h + 0) (by omega)).2.1.trans q0_0.2.1, (c1.2.2.2.1 (h + 0) (by omega)).2.2.trans q0_0.2.2⟩)
  have q1_1 := (show _ ∧ _ ∧ _ from ⟨(c1.2.2.2.1 (h + 1) (by omega)).1.trans q0_1.1, (c1.2.2.2.1 (h + 1) (by omega)).2.1.trans q0_1.2.1, (c1.2.2.2.1 (h + 1) (by omega)).2.2.trans q0_1.2.2⟩)
  have q1_2 := (show _ ∧ _ ∧ _ from ⟨(c1.2.2.2.1 (h + 2) (by omega)).1.trans q0_2.1, (c1.2.2.2.1 (h + 2) (by omega)).2.1.trans q0_2.2.1, (c1.2.2.2.1 (h + 2) (by omega)).2.2.trans q0_2.2.2⟩)
  have u1 : (Z1.1 0 27).toInt = (h : Int) + 3 := by rw [t1]; omega
  have cc1 := c0.tr (c1.mono (h1 := h) (S1 := fun i => lo ≤ i ∧ i < hi) (S01 := fun i => lo ≤ i ∧ i < hi ∧ i ≠ n) (by omega) (fun i (q : (lo ≤ i ∧ i < n)) => (⟨by omega, by omega⟩ : lo ≤ i ∧ i < hi)) (fun i (q : (lo ≤ i ∧ i < n ∧ i ≠ ix (X0.1 23 n))) => (⟨by omega, by omega, by omega⟩ : lo ≤ i ∧ i < hi ∧ i ≠ n)))
  obtain ⟨Z2, g2, c2, t2, d2, d2n, d2m⟩ := st_ord (r7 := r7) (a1 := a1) (show Top Z1 (h + 2) 7 nn 0 from ⟨by rw [u1]; omega, q1_2⟩) c1.2.1 (by omega) (by omega) (by decide) (fun _ => False) (fun _ => False)
  have f2 : OA Z2 p1 7 n := ⟨by rw [d2]; rfl, by rw [d2n]; exact hnn⟩
  have f3 : OA Z2 s 0 n := c2.oa f1 (by omega)
  have f4 : CX Z2 (ix (X0.1 23 n)) lo n sc (s + 1) p1 := x1.cs c2 (by omega) (fun i i1 i2 => ⟨fun (q : False) => by omega, fun i3 (q : False) => by omega⟩)
  have q2_0 := (show _ ∧ _ ∧ _ from ⟨(c2.2.2.2.1 (h + 0) (by omega)).1.trans q1_0.1, (c2.2.2.2.1 (h + 0) (by omega)).2.1.trans q1_0.2.1, (c2.2.2.2.1 (h + 0) (by omega)).2.2.trans q1_0.2.2⟩)
  have q2_1 := (show _ ∧ _ ∧ _ from ⟨(c2.2.2.2.1 (h + 1) (by omega)).1.trans q1_1.1, (c2.2.2.2.1 (h + 1) (by omega)).2.1.trans q1_1.2.1, (c2.2.2.2.1 (h + 1) (by omega)).2.2.trans q1_1.2.2⟩)
  have u2 : (Z2.1 0 27).toInt = (h : Int) + 2 := by rw [t2]; omega
  have cc2 := cc1.tr (c2.mono (h1 := h) (S1 := fun i => lo ≤ i ∧ i < hi) (S01 := fun i => lo ≤ i ∧ i < hi ∧ i ≠ n) (by omega) (fun i (q : False) => q.elim) (fun i (q : False) => q.elim))
  obtain ⟨k3, pl, Z3, ps, g3, b3, c3, t3, psi, psm, x3, y3⟩ := list_2 (n := n) (l := n + 1) dl.2.1 hhi dl.2.2.2.2.2 (by omega) hmon hle (ix (X0.1 27 n) - 1) 0 (by omega) Z2 (h + 1) (p1 + 1) (X0.1 24 n) 0 (((hF.tr c0.1 (by decide)).tr c1.1 (by decide)).tr c2.1 (by decide)) (by omega) ⟨by rw [u2]; omega, q2_1⟩ (by decide) c2.2.1 (by omega) (by omega) (fun j _ j2 => by rw [(c2.2.2.2.2.2.2.2 (it j) (fun q => q)).2, (c1.2.2.2.2.2.2.2 (it j) (fun (q : lo ≤ it j ∧ it j < n ∧ it j ≠ ix (X0.1 23 n)) => by have := hle4 j j2; omega)).2, z51 j j2]; exact hnn)
  have lp3 := c3.2.2.1
  have ls3 : LSC (CX Z3) Z3 n (n + 1) hi sc 2 (p1 + 1) pl := by
    have e27z : Z3.1 27 n = X0.1 27 n := ((((hF.tr c0.1 (by decide)).tr c1.1 (by decide)).tr c2.1 (by decide)).tr c3.1 (by decide)).1 27 n (show (5400 : Nat) ∉ [26, 27, 8000, 8200, 8400, 8600, 9000, 9200, 9400, 9600, 9800, 10000, 10200] from by decide)
    have e24z : Z3.1 24 n = X0.1 24 n := ((((hF.tr c0.1 (by decide)).tr c1.1 (by decide)).tr c2.1 (by decide)).tr c3.1 (by decide)).1 24 n (show (4800 : Nat) ∉ [26, 27, 8000, 8200, 8400, 8600, 9000, 9200, 9400, 9600, 9800, 10000, 10200] from by decide)
    refine ⟨it, cu, ps, dl.1, by rw [e27z]; exact dl.2.1, psi, by rw [e27z]; exact psm, by rw [e27z]; exact dl.2.2.1, by rw [e27z, e24z]; exact dl.2.2.2.1, by rw [e27z, e24z]; exact dl.2.2.2.2.1, ?_⟩
    rw [e27z]
    intro j hj
    have e28z : Z3.1 28 (it j) = X0.1 28 (it j) := ((((hF.tr c0.1 (by decide)).tr c1.1 (by decide)).tr c2.1 (by decide)).tr c3.1 (by decide)).1 28 _ (show (5600 : Nat) ∉ [26, 27, 8000, 8200, 8400, 8600, 9000, 9200, 9400, 9600, 9800, 10000, 10200] from by decide)
    rw [e28z]
    exact ⟨x3 j (Nat.zero_le _) hj, (dl.2.2.2.2.2 j hj).2⟩
  have f5 : OA Z3 s 0 n := c3.oa f3 (by omega)
  have f6 : CX Z3 (ix (X0.1 23 n)) lo n sc (s + 1) p1 := f4.cs c3 (by omega) (fun i i1 i2 => ⟨fun (q : (cu 0 ≤ i ∧ i < hi)) => by omega, fun i3 (q : (cu 0 ≤ i ∧ i < hi)) => by omega⟩)
  have f7 : OA Z3 p1 7 n := c3.oa f2 (by omega)
  have q3_0 := (show _ ∧ _ ∧ _ from ⟨(c3.2.2.2.1 (h + 0) (by omega)).1.trans q2_0.1, (c3.2.2.2.1 (h + 0) (by omega)).2.1.trans q2_0.2.1, (c3.2.2.2.1 (h + 0) (by omega)).2.2.trans q2_0.2.2⟩)
  have u3 : (Z3.1 0 27).toInt = (h : Int) + 1 := by rw [t3]; omega
  have cc3 := cc2.tr (c3.mono (h1 := h) (S1 := fun i => lo ≤ i ∧ i < hi) (S01 := fun i => lo ≤ i ∧ i < hi ∧ i ≠ n) (by omega) (fun i (q : (cu 0 ≤ i ∧ i < hi)) => (⟨by omega, by omega⟩ : lo ≤ i ∧ i < hi)) (fun i (q : (cu 0 ≤ i ∧ i < hi)) => (⟨by omega, by omega, by omega⟩ : lo ≤ i ∧ i < hi ∧ i ≠ n)))
  obtain ⟨Z4, g4, c4, t4, d4, d4n, d4m⟩ := st_ord (r7 := r7) (a1 := a1) (show Top Z3 (h + 0) 28 nn 0 from ⟨by rw [u3]; omega, q3_0⟩) c3.2.1 (by omega) (by omega) (by decide) (fun _ => False) (fun _ => False)
  have f8 : OA Z4 pl 28 n := ⟨by rw [d4]; rfl, by rw [d4n]; exact hnn⟩
  have f9 : OA Z4 s 0 n := c4.oa f5 (by omega)
  have f10 : CX Z4 (ix (X0.1 23 n)) lo n sc (s + 1) p1 := f6.cs c4 (by omega) (fun i i1 i2 => ⟨fun (q : False) => by omega, fun i3 (q : False) => by omega⟩)
  have f11 : OA Z4 p1 7 n := c4.oa f7 (by omega)
  have f12 : LSC (CX Z4) Z4 n (n + 1) hi sc 2 (p1 + 1) pl := ls3.cs c4 (by omega)
  have u4 : (Z4.1 0 27).toInt = (h : Int) + 0 := by rw [t4]; omega
  have cc4 := cc3.tr (c4.mono (h1 := h) (S1 := fun i => lo ≤ i ∧ i < hi) (S01 := fun i => lo ≤ i ∧ i < hi ∧ i ≠ n) (by omega) (fun i (q : False) => q.elim) (fun i (q : False) => q.elim))
  have hFz : Fr YR [26, 27, 8000, 8200, 8400, 8600, 9000, 9200, 9400, 9600, 9800, 10000, 10200] X0 Z4 := (((((hF.tr c0.1 (by decide)).tr c1.1 (by decide)).tr c2.1 (by decide)).tr c3.1 (by decide)).tr c4.1 (by decide))
  have z20 : Z4.1 20 n = X0.1 20 n := hFz.1 20 n (show (4000 : Nat) ∉ [26, 27, 8000, 8200, 8400, 8600, 9000, 9200, 9400, 9600, 9800, 10000, 10200] from by decide)
  have z23 : Z4.1 23 n = X0.1 23 n := hFz.1 23 n (show (4600 : Nat) ∉ [26, 27, 8000, 8200, 8400, 8600, 9000, 9200, 9400, 9600, 9800, 10000, 10200] from by decide)
  have z24 : Z4.1 24 n = X0.1 24 n := hFz.1 24 n (show (4800 : Nat) ∉ [26, 27, 8000, 8200, 8400, 8600, 9000, 9200, 9400, 9600, 9800, 10000, 10200] from by decide)
  have z25 : Z4.1 25 n = X0.1 25 n := hFz.1 25 n (show (5000 : Nat) ∉ [26, 27, 8000, 8200, 8400, 8600, 9000, 9200, 9400, 9600, 9800, 10000, 10200] from by decide)
  have z26 : Z4.1 26 n = X0.1 26 n := hFz.1 26 n (show (5200 : Nat) ∉ [26, 27, 8000, 8200, 8400, 8600, 9000, 9200, 9400, 9600, 9800, 10000, 10200] from by decide)
  have z27 : Z4.1 27 n = X0.1 27 n := hFz.1 27 n (show (5400 : Nat) ∉ [26, 27, 8000, 8200, 8400, 8600, 9000, 9200, 9400, 9600, 9800, 10000, 10200] from by decide)
  refine ⟨1 + k1 + 1 + k3 + 1, (pl + 1), Z4, ((((g0.tr g1).tr g2).tr g3).tr g4), by omega, cc4, by rw [u4]; omega, ?_, by omega⟩
  exact CX.intro ⟨by omega, by omega, by omega, f9, (Or.inr (Or.inr (Or.inr (Or.inr (Or.inr (Or.inr (Or.inr (Or.inr (Or.inr (Or.inr (Or.inr ⟨(by rw [z20]; exact hk), by rw [z27]; exact hm, p1, pl, ⟨by rw [z23]; exact hA.1, by rw [z23]; exact f10⟩, f11, f12, f8, rfl⟩)))))))))))⟩
theorem WX.pc {X0 : St} {n lo hi : Nat} {sc : Int} (h : WX X0 n lo hi sc) (r7 : Int32 → St → Option (Int32 × St)) (a1 : Int32) : PC r7 a1 X0 n lo hi sc := by
  refine WX.ind (P := fun n lo hi sc => PC r7 a1 X0 n lo hi sc) ?_ h
  rintro n lo hi sc ⟨hlo, hhi, h⟩
  rcases h with ⟨a, b, c⟩ | ⟨a, b, c⟩ | ⟨a, b, c⟩ | ⟨a, b, m, c, d⟩ | ⟨a, b, m, c, d⟩ | ⟨a, b, m1, m2, c, d, e⟩ | ⟨a, b, c1, c2, c3, m, c, d⟩ | ⟨a, b, c, it, cu, d⟩ | ⟨a, b, c, it, cu, d⟩ | ⟨a, b, c, it, cu, d⟩
  · rcases c with c | c | ⟨c, c2⟩ | c
    · exact pc_0 hlo hhi c a b
    · exact pc_1 hlo hhi c a b
    · exact pc_2 hlo hhi c a b c2
    · exact pc_3 hlo hhi c a b
  · rcases b with b | b | b | b | b
    · exact pc_6 hlo hhi b a c
    · exact pc_7 hlo hhi b a c
    · exact pc_8 hlo hhi b a c
    · exact pc_12 hlo hhi b a c
    · exact pc_13 hlo hhi b a c
  · rcases a with a | a
    · exact pc_14 hlo hhi a b c
    · exact pc_15 hlo hhi a b c
  · exact pc_5 hlo hhi a b c d
  · rcases d with ⟨d, rfl⟩ | d
    · exact pc_10 hlo hhi a b c d
    · exact pc_10w hlo hhi a b c d
  · exact pc_16 hlo hhi a b c d e
  · exact pc_17 hlo hhi a b ⟨c1, c2, c3⟩ c d
  · by_cases q : (X0.1 27 n).toInt = 0
    · exact pc_4n hlo hhi a b c q d
    · exact pc_4 hlo hhi a b c (by have := d.2.2.1; omega) d
  · exact pc_9 hlo hhi a b c (by omega) d
  · by_cases q : (X0.1 27 n).toInt = 0
    · exact pc_11n hlo hhi a b q c d
    · exact pc_11 hlo hhi a b (by have := d.2.2.1; omega) c d
