theorem LSC.cs {X Y : St} {n l r : Nat} {sc : Int} {md p q : Nat} (h : LSC (CX X) X n l r sc md p q) {hb s e : Nat} (hc : CS X Y hb s e (fun _ => False) (fun _ => False)) (hq : q ≤ s) : LSC (CX Y) Y n l r sc md p q := by
  obtain ⟨it, cu, ps, hl⟩ := h
  have hle := hl.le (fun n lo hi sc s e q => q.bd)
  obtain ⟨a, b, c, d, f, g, i, j⟩ := hl
  have e24 : Y.1 24 n = X.1 24 n := hc.1.1 24 n (show (4800 : Nat) ∉ [26, 27, 8000, 8200, 8400, 8600, 9000, 9200, 9400, 9600, 9800, 10000, 10200] from by decide)
  have e27 : Y.1 27 n = X.1 27 n := hc.1.1 27 n (show (5400 : Nat) ∉ [26, 27, 8000, 8200, 8400, 8600, 9000, 9200, 9400, 9600, 9800, 10000, 10200] from by decide)
  refine ⟨it, cu, ps, a, by rw [e27]; exact b, c, by rw [e27]; exact d, by rw [e27]; exact f, by rw [e27, e24]; exact g, by rw [e27, e24]; exact i, ?_⟩
  rw [e27]
  intro k hk
  have e28 : Y.1 28 (it k) = X.1 28 (it k) := hc.1.1 28 _ (show (5600 : Nat) ∉ [26, 27, 8000, 8200, 8400, 8600, 9000, 9200, 9400, 9600, 9800, 10000, 10200] from by decide)
  obtain ⟨⟨p1, k1, k2⟩, k3⟩ := j k hk
  have hb := hle k hk
  have := k2.le
  rw [e28]
  exact ⟨⟨p1, k1.cs hc (by omega) (fun i _ _ => ⟨fun q => q, fun _ q => q⟩), k2.cs hc (by omega) (fun q => q)⟩, k3⟩
set_option maxHeartbeats 4000000 in
theorem pc_0 {r7 : Int32 → St → Option (Int32 × St)} {a1 : Int32} {X0 : St} {n lo hi : Nat} {sc : Int} (hlo : lo ≤ n) (hhi0 : n < hi) (hk : (X0.1 20 n).toInt = 0) (hl : n = lo) (hh : hi = n + 1) : PC r7 a1 X0 n lo hi sc := by
  intro X h s nn m0 hF hnn hhi ht hs hb hb2
  have en : ix nn = n := by
    have := ixc (z := nn) (by omega)
    omega
  have hin : inR nn 3100 := ⟨by omega, show nn.toInt < ((3100 : Nat) : Int) by omega⟩
  have e20 : X.1 20 n = X0.1 20 n := hF.1 20 n (show (4000 : Nat) ∉ [26, 27, 8000, 8200, 8400, 8600, 9000, 9200, 9400, 9600, 9800, 10000, 10200] from by decide)
  obtain ⟨Z0, g0, c0, t0, ⟨o0, o0n⟩, l0⟩ := st_40 (r7 := r7) (a1 := a1) (L := [(1, nn, 0)]) ht hs (by omega) (by omega) (fun W hW hw => by
    have q := tells_0 (X := W) (p1 := nn) hin (by rw [hW 20 ⟨by decide, by decide⟩, en, e20]; exact hk) (by omega)
    skip
    exact q) (fun _ => False) (fun _ => False)
  have f0 : OA Z0 s 0 n := ⟨by rw [o0]; rfl, by rw [o0n]; exact hnn⟩
  have q0_0 : Z0.1 48 (h + 0) = ((1, nn, 0) : Int32 × Int32 × Int32).1 ∧ Z0.1 49 (h + 0) = ((1, nn, 0) : Int32 × Int32 × Int32).2.1 ∧ Z0.1 50 (h + 0) = ((1, nn, 0) : Int32 × Int32 × Int32).2.2 := l0 0 (1, nn, 0) rfl
  have u0 : (Z0.1 0 27).toInt = (h : Int) + 1 := by rw [t0]; rfl
  obtain ⟨Z1, g1, c1, t1, d1, d1n, d1m⟩ := st_ord (r7 := r7) (a1 := a1) (show Top Z0 (h + 0) 1 nn 0 from ⟨by rw [u0]; omega, q0_0⟩) c0.2.1 (by omega) (by omega) (by decide) (fun _ => False) (fun _ => False)
  have f1 : OA Z1 (s + 1) 1 n := ⟨by rw [d1]; rfl, by rw [d1n]; exact hnn⟩
  have f2 : OA Z1 s 0 n := c1.oa f0 (by omega)
  have u1 : (Z1.1 0 27).toInt = (h : Int) + 0 := by rw [t1]; omega
  have cc1 := (c0.mono (h1 := h) (S1 := fun i => lo ≤ i ∧ i < hi) (S01 := fun i => lo ≤ i ∧ i < hi ∧ i ≠ n) (by omega) (fun i q => q.elim) (fun i q => q.elim)).tr (c1.mono (h1 := h) (S1 := fun i => lo ≤ i ∧ i < hi) (S01 := fun i => lo ≤ i ∧ i < hi ∧ i ≠ n) (by omega) (fun i (q : False) => q.elim) (fun i (q : False) => q.elim))
  have hFz : Fr YR [26, 27, 8000, 8200, 8400, 8600, 9000, 9200, 9400, 9600, 9800, 10000, 10200] X0 Z1 := ((hF.tr c0.1 (by decide)).tr c1.1 (by decide))
  have z20 : Z1.1 20 n = X0.1 20 n := hFz.1 20 n (show (4000 : Nat) ∉ [26, 27, 8000, 8200, 8400, 8600, 9000, 9200, 9400, 9600, 9800, 10000, 10200] from by decide)
  have z23 : Z1.1 23 n = X0.1 23 n := hFz.1 23 n (show (4600 : Nat) ∉ [26, 27, 8000, 8200, 8400, 8600, 9000, 9200, 9400, 9600, 9800, 10000, 10200] from by decide)
  have z24 : Z1.1 24 n = X0.1 24 n := hFz.1 24 n (show (4800 : Nat) ∉ [26, 27, 8000, 8200, 8400, 8600, 9000, 9200, 9400, 9600, 9800, 10000, 10200] from by decide)
  have z25 : Z1.1 25 n = X0.1 25 n := hFz.1 25 n (show (5000 : Nat) ∉ [26, 27, 8000, 8200, 8400, 8600, 9000, 9200, 9400, 9600, 9800, 10000, 10200] from by decide)
  have z26 : Z1.1 26 n = X0.1 26 n := hFz.1 26 n (show (5200 : Nat) ∉ [26, 27, 8000, 8200, 8400, 8600, 9000, 9200, 9400, 9600, 9800, 10000, 10200] from by decide)
  have z27 : Z1.1 27 n = X0.1 27 n := hFz.1 27 n (show (5400 : Nat) ∉ [26, 27, 8000, 8200, 8400, 8600, 9000, 9200, 9400, 9600, 9800, 10000, 10200] from by decide)
  refine ⟨1 + 1, ((s + 1) + 1), Z1, (g0.tr g1), by omega, cc1, by rw [u1]; omega, ?_, by omega⟩
  exact CX.intro ⟨by omega, by omega, by omega, f2, (Or.inl ⟨hl, hh, rfl, Or.inl ⟨(by rw [z20]; exact hk), f1⟩⟩)⟩
set_option maxHeartbeats 4000000 in
theorem pc_1 {r7 : Int32 → St → Option (Int32 × St)} {a1 : Int32} {X0 : St} {n lo hi : Nat} {sc : Int} (hlo : lo ≤ n) (hhi0 : n < hi) (hk : (X0.1 20 n).toInt = 1) (hl : n = lo) (hh : hi = n + 1) : PC r7 a1 X0 n lo hi sc := by
  intro X h s nn m0 hF hnn hhi ht hs hb hb2
  have en : ix nn = n := by
    have := ixc (z := nn) (by omega)
    omega
  have hin : inR nn 3100 := ⟨by omega, show nn.toInt < ((3100 : Nat) : Int) by omega⟩
  have e20 : X.1 20 n = X0.1 20 n := hF.1 20 n (show (4000 : Nat) ∉ [26, 27, 8000, 8200, 8400, 8600, 9000, 9200, 9400, 9600, 9800, 10000, 10200] from by decide)
  obtain ⟨Z0, g0, c0, t0, ⟨o0, o0n⟩, l0⟩ := st_40 (r7 := r7) (a1 := a1) (L := [(2, nn, 0)]) ht hs (by omega) (by omega) (fun W hW hw => by
    have q := tells_1 (X := W) (p1 := nn) hin (by rw [hW 20 ⟨by decide, by decide⟩, en, e20]; exact hk) (by omega)
    skip
    exact q) (fun _ => False) (fun _ => False)
  have f0 : OA Z0 s 0 n := ⟨by rw [o0]; rfl, by rw [o0n]; exact hnn⟩
  have q0_0 : Z0.1 48 (h + 0) = ((2, nn, 0) : Int32 × Int32 × Int32).1 ∧ Z0.1 49 (h + 0) = ((2, nn, 0) : Int32 × Int32 × Int32).2.1 ∧ Z0.1 50 (h + 0) = ((2, nn, 0) : Int32 × Int32 × Int32).2.2 := l0 0 (2, nn, 0) rfl
  have u0 : (Z0.1 0 27).toInt = (h : Int) + 1 := by rw [t0]; rfl
  obtain ⟨Z1, g1, c1, t1, d1, d1n, d1m⟩ := st_ord (r7 := r7) (a1 := a1) (show Top Z0 (h + 0) 2 nn 0 from ⟨by rw [u0]; omega, q0_0⟩) c0.2.1 (by omega) (by omega) (by decide) (fun _ => False) (fun _ => False)
  have f1 : OA Z1 (s + 1) 2 n := ⟨by rw [d1]; rfl, by rw [d1n]; exact hnn⟩
  have f2 : OA Z1 s 0 n := c1.oa f0 (by omega)
  have u1 : (Z1.1 0 27).toInt = (h : Int) + 0 := by rw [t1]; omega
  have cc1 := (c0.mono (h1 := h) (S1 := fun i => lo ≤ i ∧ i < hi) (S01 := fun i => lo ≤ i ∧ i < hi ∧ i ≠ n) (by omega) (fun i q => q.elim) (fun i q => q.elim)).tr (c1.mono (h1 := h) (S1 := fun i => lo ≤ i ∧ i < hi) (S01 := fun i => lo ≤ i ∧ i < hi ∧ i ≠ n) (by omega) (fun i (q : False) => q.elim) (fun i (q : False) => q.elim))
  have hFz : Fr YR [26, 27, 8000, 8200, 8400, 8600, 9000, 9200, 9400, 9600, 9800, 10000, 10200] X0 Z1 := ((hF.tr c0.1 (by decide)).tr c1.1 (by decide))
  have z20 : Z1.1 20 n = X0.1 20 n := hFz.1 20 n (show (4000 : Nat) ∉ [26, 27, 8000, 8200, 8400, 8600, 9000, 9200, 9400, 9600, 9800, 10000, 10200] from by decide)
  have z23 : Z1.1 23 n = X0.1 23 n := hFz.1 23 n (show (4600 : Nat) ∉ [26, 27, 8000, 8200, 8400, 8600, 9000, 9200, 9400, 9600, 9800, 10000, 10200] from by decide)
  have z24 : Z1.1 24 n = X0.1 24 n := hFz.1 24 n (show (4800 : Nat) ∉ [26, 27, 8000, 8200, 8400, 8600, 9000, 9200, 9400, 9600, 9800, 10000, 10200] from by decide)
  have z25 : Z1.1 25 n = X0.1 25 n := hFz.1 25 n (show (5000 : Nat) ∉ [26, 27, 8000, 8200, 8400, 8600, 9000, 9200, 9400, 9600, 9800, 10000, 10200] from by decide)
  have z26 : Z1.1 26 n = X0.1 26 n := hFz.1 26 n (show (5200 : Nat) ∉ [26, 27, 8000, 8200, 8400, 8600, 9000, 9200, 9400, 9600, 9800, 10000, 10200] from by decide)
  have z27 : Z1.1 27 n = X0.1 27 n := hFz.1 27 n (show (5400 : Nat) ∉ [26, 27, 8000, 8200, 8400, 8600, 9000, 9200, 9400, 9600, 9800, 10000, 10200] from by decide)
  refine ⟨1 + 1, ((s + 1) + 1), Z1, (g0.tr g1), by omega, cc1, by rw [u1]; omega, ?_, by omega⟩
  exact CX.intro ⟨by omega, by omega, by omega, f2, (Or.inl ⟨hl, hh, rfl, Or.inr (Or.inl ⟨(by rw [z20]; exact hk), f1⟩)⟩)⟩
set_option maxHeartbeats 4000000 in
theorem pc_2 {r7 : Int32 → St → Option (Int32 × St)} {a1 : Int32} {X0 : St} {n lo hi : Nat} {sc : Int} (hlo : lo ≤ n) (hhi0 : n < hi) (hk : (X0.1 20 n).toInt = 2) (hl : n = lo) (hh : hi = n + 1) (hv : 0 ≤ (X0.1 26 n).toInt ∧ (X0.1 26 n).toInt < sc) : PC r7 a1 X0 n lo hi sc := by
  intro X h s nn m0 hF hnn hhi ht hs hb hb2
  have en : ix nn = n := by
    have := ixc (z := nn) (by omega)
    omega
  have hin : inR nn 3100 := ⟨by omega, show nn.toInt < ((3100 : Nat) : Int) by omega⟩
  have e20 : X.1 20 n = X0.1 20 n := hF.1 20 n (show (4000 : Nat) ∉ [26, 27, 8000, 8200, 8400, 8600, 9000, 9200, 9400, 9600, 9800, 10000, 10200] from by decide)
  obtain ⟨Z0, g0, c0, t0, ⟨o0, o0n⟩, l0⟩ := st_40 (r7 := r7) (a1 := a1) (L := [(3, nn, 0)]) ht hs (by omega) (by omega) (fun W hW hw => by
    have q := tells_2 (X := W) (p1 := nn) hin (by rw [hW 20 ⟨by decide, by decide⟩, en, e20]; exact hk) (by omega)
    skip
    exact q) (fun _ => False) (fun _ => False)
  have f0 : OA Z0 s 0 n := ⟨by rw [o0]; rfl, by rw [o0n]; exact hnn⟩
  have q0_0 : Z0.1 48 (h + 0) = ((3, nn, 0) : Int32 × Int32 × Int32).1 ∧ Z0.1 49 (h + 0) = ((3, nn, 0) : Int32 × Int32 × Int32).2.1 ∧ Z0.1 50 (h + 0) = ((3, nn, 0) : Int32 × Int32 × Int32).2.2 := l0 0 (3, nn, 0) rfl
  have u0 : (Z0.1 0 27).toInt = (h : Int) + 1 := by rw [t0]; rfl
  obtain ⟨Z1, g1, c1, t1, d1, d1n, d1m⟩ := st_ord (r7 := r7) (a1 := a1) (show Top Z0 (h + 0) 3 nn 0 from ⟨by rw [u0]; omega, q0_0⟩) c0.2.1 (by omega) (by omega) (by decide) (fun _ => False) (fun _ => False)
  have f1 : OA Z1 (s + 1) 3 n := ⟨by rw [d1]; rfl, by rw [d1n]; exact hnn⟩
  have f2 : OA Z1 s 0 n := c1.oa f0 (by omega)
  have u1 : (Z1.1 0 27).toInt = (h : Int) + 0 := by rw [t1]; omega
  have cc1 := (c0.mono (h1 := h) (S1 := fun i => lo ≤ i ∧ i < hi) (S01 := fun i => lo ≤ i ∧ i < hi ∧ i ≠ n) (by omega) (fun i q => q.elim) (fun i q => q.elim)).tr (c1.mono (h1 := h) (S1 := fun i => lo ≤ i ∧ i < hi) (S01 := fun i => lo ≤ i ∧ i < hi ∧ i ≠ n) (by omega) (fun i (q : False) => q.elim) (fun i (q : False) => q.elim))
  have hFz : Fr YR [26, 27, 8000, 8200, 8400, 8600, 9000, 9200, 9400, 9600, 9800, 10000, 10200] X0 Z1 := ((hF.tr c0.1 (by decide)).tr c1.1 (by decide))
  have z20 : Z1.1 20 n = X0.1 20 n := hFz.1 20 n (show (4000 : Nat) ∉ [26, 27, 8000, 8200, 8400, 8600, 9000, 9200, 9400, 9600, 9800, 10000, 10200] from by decide)
  have z23 : Z1.1 23 n = X0.1 23 n := hFz.1 23 n (show (4600 : Nat) ∉ [26, 27, 8000, 8200, 8400, 8600, 9000, 9200, 9400, 9600, 9800, 10000, 10200] from by decide)
  have z24 : Z1.1 24 n = X0.1 24 n := hFz.1 24 n (show (4800 : Nat) ∉ [26, 27, 8000, 8200, 8400, 8600, 9000, 9200, 9400, 9600, 9800, 10000, 10200] from by decide)
  have z25 : Z1.1 25 n = X0.1 25 n := hFz.1 25 n (show (5000 : Nat) ∉ [26, 27, 8000, 8200, 8400, 8600, 9000, 9200, 9400, 9600, 9800, 10000, 10200] from by decide)
  have z26 : Z1.1 26 n = X0.1 26 n := hFz.1 26 n (show (5200 : Nat) ∉ [26, 27, 8000, 8200, 8400, 8600, 9000, 9200, 9400, 9600, 9800, 10000, 10200] from by decide)
  have z27 : Z1.1 27 n = X0.1 27 n := hFz.1 27 n (show (5400 : Nat) ∉ [26, 27, 8000, 8200, 8400, 8600, 9000, 9200, 9400, 9600, 9800, 10000, 10200] from by decide)
  refine ⟨1 + 1, ((s + 1) + 1), Z1, (g0.tr g1), by omega, cc1, by rw [u1]; omega, ?_, by omega⟩
  exact CX.intro ⟨by omega, by omega, by omega, f2, (Or.inl ⟨hl, hh, rfl, Or.inr (Or.inr (Or.inl ⟨(by rw [z20]; exact hk), f1, by rw [z26]; exact hv.1, by rw [z26]; exact hv.2⟩))⟩)⟩
set_option maxHeartbeats 4000000 in
theorem pc_3 {r7 : Int32 → St → Option (Int32 × St)} {a1 : Int32} {X0 : St} {n lo hi : Nat} {sc : Int} (hlo : lo ≤ n) (hhi0 : n < hi) (hk : (X0.1 20 n).toInt = 3) (hl : n = lo) (hh : hi = n + 1) : PC r7 a1 X0 n lo hi sc := by
  intro X h s nn m0 hF hnn hhi ht hs hb hb2
  have en : ix nn = n := by
    have := ixc (z := nn) (by omega)
    omega
  have hin : inR nn 3100 := ⟨by omega, show nn.toInt < ((3100 : Nat) : Int) by omega⟩
  have e20 : X.1 20 n = X0.1 20 n := hF.1 20 n (show (4000 : Nat) ∉ [26, 27, 8000, 8200, 8400, 8600, 9000, 9200, 9400, 9600, 9800, 10000, 10200] from by decide)
  obtain ⟨Z0, g0, c0, t0, ⟨o0, o0n⟩, l0⟩ := st_40 (r7 := r7) (a1 := a1) (L := [(4, nn, 0)]) ht hs (by omega) (by omega) (fun W hW hw => by
    have q := tells_3 (X := W) (p1 := nn) hin (by rw [hW 20 ⟨by decide, by decide⟩, en, e20]; exact hk) (by omega)
    skip
    exact q) (fun _ => False) (fun _ => False)
  have f0 : OA Z0 s 0 n := ⟨by rw [o0]; rfl, by rw [o0n]; exact hnn⟩
  have q0_0 : Z0.1 48 (h + 0) = ((4, nn, 0) : Int32 × Int32 × Int32).1 ∧ Z0.1 49 (h + 0) = ((4, nn, 0) : Int32 × Int32 × Int32).2.1 ∧ Z0.1 50 (h + 0) = ((4, nn, 0) : Int32 × Int32 × Int32).2.2 := l0 0 (4, nn, 0) rfl
  have u0 : (Z0.1 0 27).toInt = (h : Int) + 1 := by rw [t0]; rfl
  obtain ⟨Z1, g1, c1, t1, d1, d1n, d1m⟩ := st_ord (r7 := r7) (a1 := a1) (show Top Z0 (h + 0) 4 nn 0 from ⟨by rw [u0]; omega, q0_0⟩) c0.2.1 (by omega) (by omega) (by decide) (fun _ => False) (fun _ => False)
  have f1 : OA Z1 (s + 1) 4 n := ⟨by rw [d1]; rfl, by rw [d1n]; exact hnn⟩
  have f2 : OA Z1 s 0 n := c1.oa f0 (by omega)
  have u1 : (Z1.1 0 27).toInt = (h : Int) + 0 := by rw [t1]; omega
  have cc1 := (c0.mono (h1 := h) (S1 := fun i => lo ≤ i ∧ i < hi) (S01 := fun i => lo ≤ i ∧ i < hi ∧ i ≠ n) (by omega) (fun i q => q.elim) (fun i q => q.elim)).tr (c1.mono (h1 := h) (S1 := fun i => lo ≤ i ∧ i < hi) (S01 := fun i => lo ≤ i ∧ i < hi ∧ i ≠ n) (by omega) (fun i (q : False) => q.elim) (fun i (q : False) => q.elim))
  have hFz : Fr YR [26, 27, 8000, 8200, 8400, 8600, 9000, 9200, 9400, 9600, 9800, 10000, 10200] X0 Z1 := ((hF.tr c0.1 (by decide)).tr c1.1 (by decide))
  have z20 : Z1.1 20 n = X0.1 20 n := hFz.1 20 n (show (4000 : Nat) ∉ [26, 27, 8000, 8200, 8400, 8600, 9000, 9200, 9400, 9600, 9800, 10000, 10200] from by decide)
  have z23 : Z1.1 23 n = X0.1 23 n := hFz.1 23 n (show (4600 : Nat) ∉ [26, 27, 8000, 8200, 8400, 8600, 9000, 9200, 9400, 9600, 9800, 10000, 10200] from by decide)
  have z24 : Z1.1 24 n = X0.1 24 n := hFz.1 24 n (show (4800 : Nat) ∉ [26, 27, 8000, 8200, 8400, 8600, 9000, 9200, 9400, 9600, 9800, 10000, 10200] from by decide)
  have z25 : Z1.1 25 n = X0.1 25 n := hFz.1 25 n (show (5000 : Nat) ∉ [26, 27, 8000, 8200, 8400, 8600, 9000, 9200, 9400, 9600, 9800, 10000, 10200] from by decide)
  have z26 : Z1.1 26 n = X0.1 26 n := hFz.1 26 n (show (5200 : Nat) ∉ [26, 27, 8000, 8200, 8400, 8600, 9000, 9200, 9400, 9600, 9800, 10000, 10200] from by decide)
  have z27 : Z1.1 27 n = X0.1 27 n := hFz.1 27 n (show (5400 : Nat) ∉ [26, 27, 8000, 8200, 8400, 8600, 9000, 9200, 9400, 9600, 9800, 10000, 10200] from by decide)
  refine ⟨1 + 1, ((s + 1) + 1), Z1, (g0.tr g1), by omega, cc1, by rw [u1]; omega, ?_, by omega⟩
  exact CX.intro ⟨by omega, by omega, by omega, f2, (Or.inl ⟨hl, hh, rfl, Or.inr (Or.inr (Or.inr ⟨(by rw [z20]; exact hk), f1⟩))⟩)⟩
set_option maxHeartbeats 4000000 in
theorem pc_8 {r7 : Int32 → St → Option (Int32 × St)} {a1 : Int32} {X0 : St} {n lo hi : Nat} {sc : Int} (hlo : lo ≤ n) (hhi0 : n < hi) (hk : (X0.1 20 n).toInt = 8) (hl : n = lo) (hA : CHR (fun n lo hi sc => WX X0 n lo hi sc ∧ PC r7 a1 X0 n lo hi sc) X0 23 n (n + 1) hi sc) : PC r7 a1 X0 n lo hi sc := by
  intro X h s nn m0 hF hnn hhi ht hs hb hb2
  have hbA := hA.2.1.bd
  have en : ix nn = n := by
    have := ixc (z := nn) (by omega)
    omega
  have hin : inR nn 3100 := ⟨by omega, show nn.toInt < ((3100 : Nat) : Int) by omega⟩
  have e20 : X.1 20 n = X0.1 20 n := hF.1 20 n (show (4000 : Nat) ∉ [26, 27, 8000, 8200, 8400, 8600, 9000, 9200, 9400, 9600, 9800, 10000, 10200] from by decide)
  have e23 : X.1 23 n = X0.1 23 n := hF.1 23 n (show (4600 : Nat) ∉ [26, 27, 8000, 8200, 8400, 8600, 9000, 9200, 9400, 9600, 9800, 10000, 10200] from by decide)
  obtain ⟨Z0, g0, c0, t0, ⟨o0, o0n⟩, l0⟩ := st_40 (r7 := r7) (a1 := a1) (L := [(40, (X0.1 23 n), 0)]) ht hs (by omega) (by omega) (fun W hW hw => by
    have q := tells_8 (X := W) (p1 := nn) hin (by rw [hW 20 ⟨by decide, by decide⟩, en, e20]; exact hk) (by omega)
    rw [hW 23 ⟨by decide, by decide⟩ (ix nn)] at q; rw [en, e23] at q
    exact q) (fun _ => False) (fun _ => False)
  have f0 : OA Z0 s 0 n := ⟨by rw [o0]; rfl, by rw [o0n]; exact hnn⟩
  have q0_0 : Z0.1 48 (h + 0) = ((40, (X0.1 23 n), 0) : Int32 × Int32 × Int32).1 ∧ Z0.1 49 (h + 0) = ((40, (X0.1 23 n), 0) : Int32 × Int32 × Int32).2.1 ∧ Z0.1 50 (h + 0) = ((40, (X0.1 23 n), 0) : Int32 × Int32 × Int32).2.2 := l0 0 (40, (X0.1 23 n), 0) rfl
  have u0 : (Z0.1 0 27).toInt = (h : Int) + 1 := by rw [t0]; rfl
  obtain ⟨k1, p1, Z1, g1, b1, c1, t1, x1, y1⟩ := hA.2.2 Z0 (h + 0) (s + 1) (X0.1 23 n) 0 (hF.tr c0.1 (by decide)) (ixc hA.1).symm (by omega) ⟨by rw [u0]; omega, q0_0⟩ c0.2.1 (by omega) (by omega)
  have bx1 := x1.bd
  have f1 : OA Z1 s 0 n := c1.oa f0 (by omega)
  have u1 : (Z1.1 0 27).toInt = (h : Int) + 0 := by rw [t1]; omega
  have cc1 := (c0.mono (h1 := h) (S1 := fun i => lo ≤ i ∧ i < hi) (S01 := fun i => lo ≤ i ∧ i < hi ∧ i ≠ n) (by omega) (fun i q => q.elim) (fun i q => q.elim)).tr (c1.mono (h1 := h) (S1 := fun i => lo ≤ i ∧ i < hi) (S01 := fun i => lo ≤ i ∧ i < hi ∧ i ≠ n) (by omega) (fun i (q : ((n + 1) ≤ i ∧ i < hi)) => (⟨by omega, by omega⟩ : lo ≤ i ∧ i < hi)) (fun i (q : ((n + 1) ≤ i ∧ i < hi ∧ i ≠ ix (X0.1 23 n))) => (⟨by omega, by omega, by omega⟩ : lo ≤ i ∧ i < hi ∧ i ≠ n)))
  have hFz : Fr YR [26, 27, 8000, 8200, 8400, 8600, 9000, 9200, 9400, 9600, 9800, 10000, 10200] X0 Z1 := ((hF.tr c0.1 (by decide)).tr c1.1 (by decide))
  have z20 : Z1.1 20 n = X0.1 20 n := hFz.1 20 n (show (4000 : Nat) ∉ [26, 27, 8000, 8200, 8400, 8600, 9000, 9200, 9400, 9600, 9800, 10000, 10200] from by decide)
  have z23 : Z1.1 23 n = X0.1 23 n := hFz.1 23 n (show (4600 : Nat) ∉ [26, 27, 8000, 8200, 8400, 8600, 9000, 9200, 9400, 9600, 9800, 10000, 10200] from by decide)
  have z24 : Z1.1 24 n = X0.1 24 n := hFz.1 24 n (show (4800 : Nat) ∉ [26, 27, 8000, 8200, 8400, 8600, 9000, 9200, 9400, 9600, 9800, 10000, 10200] from by decide)
  have z25 : Z1.1 25 n = X0.1 25 n := hFz.1 25 n (show (5000 : Nat) ∉ [26, 27, 8000, 8200, 8400, 8600, 9000, 9200, 9400, 9600, 9800, 10000, 10200] from by decide)
  have z26 : Z1.1 26 n = X0.1 26 n := hFz.1 26 n (show (5200 : Nat) ∉ [26, 27, 8000, 8200, 8400, 8600, 9000, 9200, 9400, 9600, 9800, 10000, 10200] from by decide)
  have z27 : Z1.1 27 n = X0.1 27 n := hFz.1 27 n (show (5400 : Nat) ∉ [26, 27, 8000, 8200, 8400, 8600, 9000, 9200, 9400, 9600, 9800, 10000, 10200] from by decide)
  refine ⟨1 + k1, p1, Z1, (g0.tr g1), by omega, cc1, by rw [u1]; omega, ?_, by omega⟩
  exact CX.intro ⟨by omega, by omega, by omega, f1, (Or.inr (Or.inl ⟨hl, (by rw [z20]; exact hk), ⟨by rw [z23]; exact hA.1, by rw [z23]; exact x1⟩⟩))⟩
set_option maxHeartbeats 4000000 in
theorem pc_6 {r7 : Int32 → St → Option (Int32 × St)} {a1 : Int32} {X0 : St} {n lo hi : Nat} {sc : Int} (hlo : lo ≤ n) (hhi0 : n < hi) (hk : (X0.1 20 n).toInt = 6) (hl : n = lo) (hA : CHR (fun n lo hi sc => WX X0 n lo hi sc ∧ PC r7 a1 X0 n lo hi sc) X0 23 n (n + 1) hi sc) : PC r7 a1 X0 n lo hi sc := by
  intro X h s nn m0 hF hnn hhi ht hs hb hb2
  have hbA := hA.2.1.bd
  have en : ix nn = n := by
    have := ixc (z := nn) (by omega)
    omega
  have hin : inR nn 3100 := ⟨by omega, show nn.toInt < ((3100 : Nat) : Int) by omega⟩
  have e20 : X.1 20 n = X0.1 20 n := hF.1 20 n (show (4000 : Nat) ∉ [26, 27, 8000, 8200, 8400, 8600, 9000, 9200, 9400, 9600, 9800, 10000, 10200] from by decide)
  have e23 : X.1 23 n = X0.1 23 n := hF.1 23 n (show (4600 : Nat) ∉ [26, 27, 8000, 8200, 8400, 8600, 9000, 9200, 9400, 9600, 9800, 10000, 10200] from by decide)
  obtain ⟨Z0, g0, c0, t0, ⟨o0, o0n⟩, l0⟩ := st_40 (r7 := r7) (a1 := a1) (L := [(20, nn, 0), (9, (X0.1 23 n), 0), (40, (X0.1 23 n), 0)]) ht hs (by omega) (by omega) (fun W hW hw => by
    have q := tells_6 (X := W) (p1 := nn) hin (by rw [hW 20 ⟨by decide, by decide⟩, en, e20]; exact hk) (by omega)
    rw [hW 23 ⟨by decide, by decide⟩ (ix nn)] at q; rw [en, e23] at q
    exact q) (fun _ => False) (fun _ => False)
  have f0 : OA Z0 s 0 n := ⟨by rw [o0]; rfl, by rw [o0n]; exact hnn⟩
  have q0_0 : Z0.1 48 (h + 0) = ((20, nn, 0) : Int32 × Int32 × Int32).1 ∧ Z0.1 49 (h + 0) = ((20, nn, 0) : Int32 × Int32 × Int32).2.1 ∧ Z0.1 50 (h + 0) = ((20, nn, 0) : Int32 × Int32 × Int32).2.2 := l0 0 (20, nn, 0) rfl
  have q0_1 : Z0.1 48 (h + 1) = ((9, (X0.1 23 n), 0) : Int32 × Int32 × Int32).1 ∧ Z0.1 49 (h + 1) = ((9, (X0.1 23 n), 0) : Int32 × Int32 × Int32).2.1 ∧ Z0.1 50 (h + 1) = ((9, (X0.1 23 n), 0) : Int32 × Int32 × Int32).2.2 := l0 1 (9, (X0.1 23 n), 0) rfl
  have q0_2 : Z0.1 48 (h + 2) = ((40, (X0.1 23 n), 0) : Int32 × Int32 × Int32).1 ∧ Z0.1 49 (h + 2) = ((40, (X0.1 23 n), 0) : Int32 × Int32 × Int32).2.1 ∧ Z0.1 50 (h + 2) = ((40, (X0.1 23 n), 0) : Int32 × Int32 × Int32).2.2 := l0 2 (40, (X0.1 23 n), 0) rfl
  have u0 : (Z0.1 0 27).toInt = (h : Int) + 3 := by rw [t0]; rfl
  obtain ⟨k1, p1, Z1, g1, b1, c1, t1, x1, y1⟩ := hA.2.2 Z0 (h + 2) (s + 1) (X0.1 23 n) 0 (hF.tr c0.1 (by decide)) (ixc hA.1).symm (by omega) ⟨by rw [u0]; omega, q0_2⟩ c0.2.1 (by omega) (by omega)
  have bx1 := x1.bd
  have f1 : OA Z1 s 0 n := c1.oa f0 (by omega)
  have q1_0 := (show _ ∧ _ ∧ _ from ⟨(c1.2.2.2.1 (h + 0) (by omega)).1.trans q0_0.1, (c1.2.2.2.1 (h + 0) (by omega)).2.1.trans q0_0.2.1, (c1.2.2.2.1 (h + 0) (by omega)).2.2.trans q0_0.2.2⟩)
  have q1_1 := (show _ ∧ _ ∧ _ from ⟨(c1.2.2.2.1 (h + 1) (by omega)).1.trans q0_1.1, (c1.2.2.2.1 (h + 1) (by omega)).2.1.trans q0_1.2.1, (c1.2.2.2.1 (h + 1) (by omega)).2.2.trans q0_1.2.2⟩)
  have u1 : (Z1.1 0 27).toInt = (h : Int) + 2 := by rw [t1]; omega
  have cc1 := (c0.mono (h1 := h) (S1 := fun i => lo ≤ i ∧ i < hi) (S01 := fun i => lo ≤ i ∧ i < hi ∧ i ≠ n) (by omega) (fun i q => q.elim) (fun i q => q.elim)).tr (c1.mono (h1 := h) (S1 := fun i => lo ≤ i ∧ i < hi) (S01 := fun i => lo ≤ i ∧ i < hi ∧ i ≠ n) (by omega) (fun i (q : ((n + 1) ≤ i ∧ i < hi)) => (⟨by omega, by omega⟩ : lo ≤ i ∧ i < hi)) (fun i (q : ((n + 1) ≤ i ∧ i < hi ∧ i ≠ ix (X0.1 23 n))) => (⟨by omega, by omega, by omega⟩ : lo ≤ i ∧ i < hi ∧ i ≠ n)))
  obtain ⟨Z2, g2, c2, t2, d2, d2n, d2m⟩ := st_ord (r7 := r7) (a1 := a1) (show Top Z1 (h + 1) 9 (X0.1 23 n) 0 from ⟨by rw [u1]; omega, q1_1⟩) c1.2.1 (by omega) (by omega) (by decide) (fun _ => False) (fun _ => False)
  have f2 : OA Z2 p1 9 (ix (X0.1 23 n)) := ⟨by rw [d2]; rfl, by rw [d2n]; exact (ixc hA.1).symm⟩
  have f3 : OA Z2 s 0 n := c2.oa f1 (by omega)
  have f4 : CX Z2 (ix (X0.1 23 n)) (n + 1) hi sc (s + 1) p1 := x1.cs c2 (by omega) (fun i i1 i2 => ⟨fun (q : False) => by omega, fun i3 (q : False) => by omega⟩)
  have q2_0 := (show _ ∧ _ ∧ _ from ⟨(c2.2.2.2.1 (h + 0) (by omega)).1.trans q1_0.1, (c2.2.2.2.1 (h + 0) (by omega)).2.1.trans q1_0.2.1, (c2.2.2.2.1 (h + 0) (by omega)).2.2.trans q1_0.2.2⟩)
  have u2 : (Z2.1 0 27).toInt = (h : Int) + 1 := by rw [t2]; omega
  have cc2 := cc1.tr (c2.mono (h1 := h) (S1 := fun i => lo ≤ i ∧ i < hi) (S01 := fun i => lo ≤ i ∧ i < hi ∧ i ≠ n) (by omega) (fun i (q : False) => q.elim) (fun i (q : False) => q.elim))
  obtain ⟨Z3, g3, c3, t3, d3, d3n, d3m⟩ := st_ord (r7 := r7) (a1 := a1) (show Top Z2 (h + 0) 20 nn 0 from ⟨by rw [u2]; omega, q2_0⟩) c2.2.1 (by omega) (by omega) (by decide) (fun _ => False) (fun _ => False)
  have f5 : OA Z3 (p1 + 1) 20 n := ⟨by rw [d3]; rfl, by rw [d3n]; exact hnn⟩
  have f6 : OA Z3 s 0 n := c3.oa f3 (by omega)
  have f7 : CX Z3 (ix (X0.1 23 n)) (n + 1) hi sc (s + 1) p1 := f4.cs c3 (by omega) (fun i i1 i2 => ⟨fun (q : False) => by omega, fun i3 (q : False) => by omega⟩)
  have f8 : OA Z3 p1 9 (ix (X0.1 23 n)) := c3.oa f2 (by omega)
  have u3 : (Z3.1 0 27).toInt = (h : Int) + 0 := by rw [t3]; omega
  have cc3 := cc2.tr (c3.mono (h1 := h) (S1 := fun i => lo ≤ i ∧ i < hi) (S01 := fun i => lo ≤ i ∧ i < hi ∧ i ≠ n) (by omega) (fun i (q : False) => q.elim) (fun i (q : False) => q.elim))
  have hFz : Fr YR [26, 27, 8000, 8200, 8400, 8600, 9000, 9200, 9400, 9600, 9800, 10000, 10200] X0 Z3 := ((((hF.tr c0.1 (by decide)).tr c1.1 (by decide)).tr c2.1 (by decide)).tr c3.1 (by decide))
  have z20 : Z3.1 20 n = X0.1 20 n := hFz.1 20 n (show (4000 : Nat) ∉ [26, 27, 8000, 8200, 8400, 8600, 9000, 9200, 9400, 9600, 9800, 10000, 10200] from by decide)
  have z23 : Z3.1 23 n = X0.1 23 n := hFz.1 23 n (show (4600 : Nat) ∉ [26, 27, 8000, 8200, 8400, 8600, 9000, 9200, 9400, 9600, 9800, 10000, 10200] from by decide)
  have z24 : Z3.1 24 n = X0.1 24 n := hFz.1 24 n (show (4800 : Nat) ∉ [26, 27, 8000, 8200, 8400, 8600, 9000, 9200, 9400, 9600, 9800, 10000, 10200] from by decide)
  have z25 : Z3.1 25 n = X0.1 25 n := hFz.1 25 n (show (5000 : Nat) ∉ [26, 27, 8000, 8200, 8400, 8600, 9000, 9200, 9400, 9600, 9800, 10000, 10200] from by decide)
  have z26 : Z3.1 26 n = X0.1 26 n := hFz.1 26 n (show (5200 : Nat) ∉ [26, 27, 8000, 8200, 8400, 8600, 9000, 9200, 9400, 9600, 9800, 10000, 10200] from by decide)
  have z27 : Z3.1 27 n = X0.1 27 n := hFz.1 27 n (show (5400 : Nat) ∉ [26, 27, 8000, 8200, 8400, 8600, 9000, 9200, 9400, 9600, 9800, 10000, 10200] from by decide)
  refine ⟨1 + k1 + 1 + 1, ((p1 + 1) + 1), Z3, (((g0.tr g1).tr g2).tr g3), by omega, cc3, by rw [u3]; omega, ?_, by omega⟩
  exact CX.intro ⟨by omega, by omega, by omega, f6, (Or.inr (Or.inr (Or.inl ⟨hl, 9, 20, p1, Or.inl ⟨(by rw [z20]; exact hk), rfl, rfl⟩, ⟨by rw [z23]; exact hA.1, by rw [z23]; exact f7⟩, (by rw [z23]; exact f8), f5, rfl⟩)))⟩
set_option maxHeartbeats 4000000 in
theorem pc_7 {r7 : Int32 → St → Option (Int32 × St)} {a1 : Int32} {X0 : St} {n lo hi : Nat} {sc : Int} (hlo : lo ≤ n) (hhi0 : n < hi) (hk : (X0.1 20 n).toInt = 7) (hl : n = lo) (hA : CHR (fun n lo hi sc => WX X0 n lo hi sc ∧ PC r7 a1 X0 n lo hi sc) X0 23 n (n + 1) hi sc) : PC r7 a1 X0 n lo hi sc := by
  intro X h s nn m0 hF hnn hhi ht hs hb hb2
  have hbA := hA.2.1.bd
  have en : ix nn = n := by
    have := ixc (z := nn) (by omega)
    omega
  have hin : inR nn 3100 := ⟨by omega, show nn.toInt < ((3100 : Nat) : Int) by omega⟩
  have e20 : X.1 20 n = X0.1 20 n := hF.1 20 n (show (4000 : Nat) ∉ [26, 27, 8000, 8200, 8400, 8600, 9000, 9200, 9400, 9600, 9800, 10000, 10200] from by decide)
  have e23 : X.1 23 n = X0.1 23 n := hF.1 23 n (show (4600 : Nat) ∉ [26, 27, 8000, 8200, 8400, 8600, 9000, 9200, 9400, 9600, 9800, 10000, 10200] from by decide)
  obtain ⟨Z0, g0, c0, t0, ⟨o0, o0n⟩, l0⟩ := st_40 (r7 := r7) (a1 := a1) (L := [(21, nn, 0), (5, (X0.1 23 n), 0), (40, (X0.1 23 n), 0)]) ht hs (by omega) (by omega) (fun W hW hw => by
    have q := tells_7 (X := W) (p1 := nn) hin (by rw [hW 20 ⟨by decide, by decide⟩, en, e20]; exact hk) (by omega)
    rw [hW 23 ⟨by decide, by decide⟩ (ix nn)] at q; rw [en, e23] at q
    exact q) (fun _ => False) (fun _ => False)
  have f0 : OA Z0 s 0 n := ⟨by rw [o0]; rfl, by rw [o0n]; exact hnn⟩
  have q0_0 : Z0.1 48 (h + 0) = ((21, nn, 0) : Int32 × Int32 × Int32).1 ∧ Z0.1 49 (h + 0) = ((21, nn, 0) : Int32 × Int32 × Int32).2.1 ∧ Z0.1 50 (h + 0) = ((21, nn, 0) : Int32 × Int32 × Int32).2.2 := l0 0 (21, nn, 0) rfl
  have q0_1 : Z0.1 48 (h + 1) = ((5, (X0.1 23 n), 0) : Int32 × Int32 × Int32).1 ∧ Z0.1 49 (h + 1) = ((5, (X0.1 23 n), 0) : Int32 × Int32 × Int32).2.1 ∧ Z0.1 50 (h + 1) = ((5, (X0.1 23 n), 0) : Int32 × Int32 × Int32).2.2 := l0 1 (5, (X0.1 23 n), 0) rfl
  have q0_2 : Z0.1 48 (h + 2) = ((40, (X0.1 23 n), 0) : Int32 × Int32 × Int32).1 ∧ Z0.1 49 (h + 2) = ((40, (X0.1 23 n), 0) : Int32 × Int32 × Int32).2.1 ∧ Z0.1 50 (h + 2) = ((40, (X0.1 23 n), 0) : Int32 × Int32 × Int32).2.2 := l0 2 (40, (X0.1 23 n), 0) rfl
  have u0 : (Z0.1 0 27).toInt = (h : Int) + 3 := by rw [t0]; rfl
  obtain ⟨k1, p1, Z1, g1, b1, c1, t1, x1, y1⟩ := hA.2.2 Z0 (h + 2) (s + 1) (X0.1 23 n) 0 (hF.tr c0.1 (by decide)) (ixc hA.1).symm (by omega) ⟨by rw [u0]; omega, q0_2⟩ c0.2.1 (by omega) (by omega)
  have bx1 := x1.bd
  have f1 : OA Z1 s 0 n := c1.oa f0 (by omega)
  have q1_0 := (show _ ∧ _ ∧ _ from ⟨(c1.2.2.2.1 (h + 0) (by omega)).1.trans q0_0.1, (c1.2.2.2.1 (h + 0) (by omega)).2.1.trans q0_0.2.1, (c1.2.2.2.1 (h + 0) (by omega)).2.2.trans q0_0.2.2⟩)
  have q1_1 := (show _ ∧ _ ∧ _ from ⟨(c1.2.2.2.1 (h + 1) (by omega)).1.trans q0_1.1, (c1.2.2.2.1 (h + 1) (by omega)).2.1.trans q0_1.2.1, (c1.2.2.2.1 (h + 1) (by omega)).2.2.trans q0_1.2.2⟩)
  have u1 : (Z1.1 0 27).toInt = (h : Int) + 2 := by rw [t1]; omega
  have cc1 := (c0.mono (h1 := h) (S1 := fun i => lo ≤ i ∧ i < hi) (S01 := fun i => lo ≤ i ∧ i < hi ∧ i ≠ n) (by omega) (fun i q => q.elim) (fun i q => q.elim)).tr (c1.mono (h1 := h) (S1 := fun i => lo ≤ i ∧ i < hi) (S01 := fun i => lo ≤ i ∧ i < hi ∧ i ≠ n) (by omega) (fun i (q : ((n + 1) ≤ i ∧ i < hi)) => (⟨by omega, by omega⟩ : lo ≤ i ∧ i < hi)) (fun i (q : ((n + 1) ≤ i ∧ i < hi ∧ i ≠ ix (X0.1 23 n))) => (⟨by omega, by omega, by omega⟩ : lo ≤ i ∧ i < hi ∧ i ≠ n)))
  obtain ⟨Z2, g2, c2, t2, d2, d2n, d2m⟩ := st_ord (r7 := r7) (a1 := a1) (show Top Z1 (h + 1) 5 (X0.1 23 n) 0 from ⟨by rw [u1]; omega, q1_1⟩) c1.2.1 (by omega) (by omega) (by decide) (fun _ => False) (fun _ => False)
  have f2 : OA Z2 p1 5 (ix (X0.1 23 n)) := ⟨by rw [d2]; rfl, by rw [d2n]; exact (ixc hA.1).symm⟩
  have f3 : OA Z2 s 0 n := c2.oa f1 (by omega)
  have f4 : CX Z2 (ix (X0.1 23 n)) (n + 1) hi sc (s + 1) p1 := x1.cs c2 (by omega) (fun i i1 i2 => ⟨fun (q : False) => by omega, fun i3 (q : False) => by omega⟩)
  have q2_0 := (show _ ∧ _ ∧ _ from ⟨(c2.2.2.2.1 (h + 0) (by omega)).1.trans q1_0.1, (c2.2.2.2.1 (h + 0) (by omega)).2.1.trans q1_0.2.1, (c2.2.2.2.1 (h + 0) (by omega)).2.2.trans q1_0.2.2⟩)
  have u2 : (Z2.1 0 27).toInt = (h : Int) + 1 := by rw [t2]; omega
  have cc2 := cc1.tr (c2.mono (h1 := h) (S1 := fun i => lo ≤ i ∧ i < hi) (S01 := fun i => lo ≤ i ∧ i < hi ∧ i ≠ n) (by omega) (fun i (q : False) => q.elim) (fun i (q : False) => q.elim))
  obtain ⟨Z3, g3, c3, t3, d3, d3n, d3m⟩ := st_ord (r7 := r7) (a1 := a1) (show Top Z2 (h + 0) 21 nn 0 from ⟨by rw [u2]; omega, q2_0⟩) c2.2.1 (by omega) (by omega) (by decide) (fun _ => False) (fun _ => False)
  have f5 : OA Z3 (p1 + 1) 21 n := ⟨by rw [d3]; rfl, by rw [d3n]; exact hnn⟩
  have f6 : OA Z3 s 0 n := c3.oa f3 (by omega)
  have f7 : CX Z3 (ix (X0.1 23 n)) (n + 1) hi sc (s + 1) p1 := f4.cs c3 (by omega) (fun i i1 i2 => ⟨fun (q : False) => by omega, fun i3 (q : False) => by omega⟩)
  have f8 : OA Z3 p1 5 (ix (X0.1 23 n)) := c3.oa f2 (by omega)
  have u3 : (Z3.1 0 27).toInt = (h : Int) + 0 := by rw [t3]; omega
  have cc3 := cc2.tr (c3.mono (h1 := h) (S1 := fun i => lo ≤ i ∧ i < hi) (S01 := fun i => lo ≤ i ∧ i < hi ∧ i ≠ n) (by omega) (fun i (q : False) => q.elim) (fun i (q : False) => q.elim))
  have hFz : Fr YR [26, 27, 8000, 8200, 8400, 8600, 9000, 9200, 9400, 9600, 9800, 10000, 10200] X0 Z3 := ((((hF.tr c0.1 (by decide)).tr c1.1 (by decide)).tr c2.1 (by decide)).tr c3.1 (by decide))
  have z20 : Z3.1 20 n = X0.1 20 n := hFz.1 20 n (show (4000 : Nat) ∉ [26, 27, 8000, 8200, 8400, 8600, 9000, 9200, 9400, 9600, 9800, 10000, 10200] from by decide)
  have z23 : Z3.1 23 n = X0.1 23 n := hFz.1 23 n (show (4600 : Nat) ∉ [26, 27, 8000, 8200, 8400, 8600, 9000, 9200, 9400, 9600, 9800, 10000, 10200] from by decide)
  have z24 : Z3.1 24 n = X0.1 24 n := hFz.1 24 n (show (4800 : Nat) ∉ [26, 27, 8000, 8200, 8400, 8600, 9000, 9200, 9400, 9600, 9800, 10000, 10200] from by decide)
  have z25 : Z3.1 25 n = X0.1 25 n := hFz.1 25 n (show (5000 : Nat) ∉ [26, 27, 8000, 8200, 8400, 8600, 9000, 9200, 9400, 9600, 9800, 10000, 10200] from by decide)
  have z26 : Z3.1 26 n = X0.1 26 n := hFz.1 26 n (show (5200 : Nat) ∉ [26, 27, 8000, 8200, 8400, 8600, 9000, 9200, 9400, 9600, 9800, 10000, 10200] from by decide)
  have z27 : Z3.1 27 n = X0.1 27 n := hFz.1 27 n (show (5400 : Nat) ∉ [26, 27, 8000, 8200, 8400, 8600, 9000, 9200, 9400, 9600, 9800, 10000, 10200] from by decide)
  refine ⟨1 + k1 + 1 + 1, ((p1 + 1) + 1), Z3, (((g0.tr g1).tr g2).tr g3), by omega, cc3, by rw [u3]; omega, ?_, by omega⟩
  exact CX.intro ⟨by omega, by omega, by omega, f6, (Or.inr (Or.inr (Or.inl ⟨hl, 5, 21, p1, Or.inr (Or.inl ⟨(by rw [z20]; exact hk), rfl, rfl⟩), ⟨by rw [z23]; exact hA.1, by rw [z23]; exact f7⟩, (by rw [z23]; exact f8), f5, rfl⟩)))⟩
set_option maxHeartbeats 4000000 in
theorem pc_12 {r7 : Int32 → St → Option (Int32 × St)} {a1 : Int32} {X0 : St} {n lo hi : Nat} {sc : Int} (hlo : lo ≤ n) (hhi0 : n < hi) (hk : (X0.1 20 n).toInt = 12) (hl : n = lo) (hA : CHR (fun n lo hi sc => WX X0 n lo hi sc ∧ PC r7 a1 X0 n lo hi sc) X0 23 n (n + 1) hi sc) : PC r7 a1 X0 n lo hi sc := by
  intro X h s nn m0 hF hnn hhi ht hs hb hb2
  have hbA := hA.2.1.bd
  have en : ix nn = n := by
    have := ixc (z := nn) (by omega)
    omega
  have hin : inR nn 3100 := ⟨by omega, show nn.toInt < ((3100 : Nat) : Int) by omega⟩
  have e20 : X.1 20 n = X0.1 20 n := hF.1 20 n (show (4000 : Nat) ∉ [26, 27, 8000, 8200, 8400, 8600, 9000, 9200, 9400, 9600, 9800, 10000, 10200] from by decide)
  have e23 : X.1 23 n = X0.1 23 n := hF.1 23 n (show (4600 : Nat) ∉ [26, 27, 8000, 8200, 8400, 8600, 9000, 9200, 9400, 9600, 9800, 10000, 10200] from by decide)
  obtain ⟨Z0, g0, c0, t0, ⟨o0, o0n⟩, l0⟩ := st_40 (r7 := r7) (a1 := a1) (L := [(22, nn, 0), (5, (X0.1 23 n), 0), (40, (X0.1 23 n), 0)]) ht hs (by omega) (by omega) (fun W hW hw => by
    have q := tells_12 (X := W) (p1 := nn) hin (by rw [hW 20 ⟨by decide, by decide⟩, en, e20]; exact hk) (by omega)
    rw [hW 23 ⟨by decide, by decide⟩ (ix nn)] at q; rw [en, e23] at q
    exact q) (fun _ => False) (fun _ => False)
  have f0 : OA Z0 s 0 n := ⟨by rw [o0]; rfl, by rw [o0n]; exact hnn⟩
  have q0_0 : Z0.1 48 (h + 0) = ((22, nn, 0) : Int32 × Int32 × Int32).1 ∧ Z0.1 49 (h + 0) = ((22, nn, 0) : Int32 × Int32 × Int32).2.1 ∧ Z0.1 50 (h + 0) = ((22, nn, 0) : Int32 × Int32 × Int32).2.2 := l0 0 (22, nn, 0) rfl
  have q0_1 : Z0.1 48 (h + 1) = ((5, (X0.1 23 n), 0) : Int32 × Int32 × Int32).1 ∧ Z0.1 49 (h + 1) = ((5, (X0.1 23 n), 0) : Int32 × Int32 × Int32).2.1 ∧ Z0.1 50 (h + 1) = ((5, (X0.1 23 n), 0) : Int32 × Int32 × Int32).2.2 := l0 1 (5, (X0.1 23 n), 0) rfl
  have q0_2 : Z0.1 48 (h + 2) = ((40, (X0.1 23 n), 0) : Int32 × Int32 × Int32).1 ∧ Z0.1 49 (h + 2) = ((40, (X0.1 23 n), 0) : Int32 × Int32 × Int32).2.1 ∧ Z0.1 50 (h + 2) = ((40, (X0.1 23 n), 0) : Int32 × Int32 × Int32).2.2 := l0 2 (40, (X0.1 23 n), 0) rfl
  have u0 : (Z0.1 0 27).toInt = (h : Int) + 3 := by rw [t0]; rfl
  obtain ⟨k1, p1, Z1, g1, b1, c1, t1, x1, y1⟩ := hA.2.2 Z0 (h + 2) (s + 1) (X0.1 23 n) 0 (hF.tr c0.1 (by decide)) (ixc hA.1).symm (by omega) ⟨by rw [u0]; omega, q0_2⟩ c0.2.1 (by omega) (by omega)
  have bx1 := x1.bd
  have f1 : OA Z1 s 0 n := c1.oa f0 (by omega)
  have q1_0 := (show _ ∧ _ ∧ _ from ⟨(c1.2.2.2.1 (h + 0) (by omega)).1.trans q0_0.1, (c1.2.2.2.1 (h + 0) (by omega)).2.1.trans q0_0.2.1, (c1.2.2.2.1 (h + 0) (by omega)).2.2.trans q0_0.2.2⟩)
  have q1_1 := (show _ ∧ _ ∧ _ from ⟨(c1.2.2.2.1 (h + 1) (by omega)).1.trans q0_1.1, (c1.2.2.2.1 (h + 1) (by omega)).2.1.trans q0_1.2.1, (c1.2.2.2.1 (h + 1) (by omega)).2.2.trans q0_1.2.2⟩)
  have u1 : (Z1.1 0 27).toInt = (h : Int) + 2 := by rw [t1]; omega
  have cc1 := (c0.mono (h1 := h) (S1 := fun i => lo ≤ i ∧ i < hi) (S01 := fun i => lo ≤ i ∧ i < hi ∧ i ≠ n) (by omega) (fun i q => q.elim) (fun i q => q.elim)).tr (c1.mono (h1 := h) (S1 := fun i => lo ≤ i ∧ i < hi) (S01 := fun i => lo ≤ i ∧ i < hi ∧ i ≠ n) (by omega) (fun i (q : ((n + 1) ≤ i ∧ i < hi)) => (⟨by omega, by omega⟩ : lo ≤ i ∧ i < hi)) (fun i (q : ((n + 1) ≤ i ∧ i < hi ∧ i ≠ ix (X0.1 23 n))) => (⟨by omega, by omega, by omega⟩ : lo ≤ i ∧ i < hi ∧ i ≠ n)))
  obtain ⟨Z2, g2, c2, t2, d2, d2n, d2m⟩ := st_ord (r7 := r7) (a1 := a1) (show Top Z1 (h + 1) 5 (X0.1 23 n) 0 from ⟨by rw [u1]; omega, q1_1⟩) c1.2.1 (by omega) (by omega) (by decide) (fun _ => False) (fun _ => False)
  have f2 : OA Z2 p1 5 (ix (X0.1 23 n)) := ⟨by rw [d2]; rfl, by rw [d2n]; exact (ixc hA.1).symm⟩
  have f3 : OA Z2 s 0 n := c2.oa f1 (by omega)
  have f4 : CX Z2 (ix (X0.1 23 n)) (n + 1) hi sc (s + 1) p1 := x1.cs c2 (by omega) (fun i i1 i2 => ⟨fun (q : False) => by omega, fun i3 (q : False) => by omega⟩)
  have q2_0 := (show _ ∧ _ ∧ _ from ⟨(c2.2.2.2.1 (h + 0) (by omega)).1.trans q1_0.1, (c2.2.2.2.1 (h + 0) (by omega)).2.1.trans q1_0.2.1, (c2.2.2.2.1 (h + 0) (by omega)).2.2.trans q1_0.2.2⟩)
  have u2 : (Z2.1 0 27).toInt = (h : Int) + 1 := by rw [t2]; omega
  have cc2 := cc1.tr (c2.mono (h1 := h) (S1 := fun i => lo ≤ i ∧ i < hi) (S01 := fun i => lo ≤ i ∧ i < hi ∧ i ≠ n) (by omega) (fun i (q : False) => q.elim) (fun i (q : False) => q.elim))
  obtain ⟨Z3, g3, c3, t3, d3, d3n, d3m⟩ := st_ord (r7 := r7) (a1 := a1) (show Top Z2 (h + 0) 22 nn 0 from ⟨by rw [u2]; omega, q2_0⟩) c2.2.1 (by omega) (by omega) (by decide) (fun _ => False) (fun _ => False)
  have f5 : OA Z3 (p1 + 1) 22 n := ⟨by rw [d3]; rfl, by rw [d3n]; exact hnn⟩
  have f6 : OA Z3 s 0 n := c3.oa f3 (by omega)
  have f7 : CX Z3 (ix (X0.1 23 n)) (n + 1) hi sc (s + 1) p1 := f4.cs c3 (by omega) (fun i i1 i2 => ⟨fun (q : False) => by omega, fun i3 (q : False) => by omega⟩)
  have f8 : OA Z3 p1 5 (ix (X0.1 23 n)) := c3.oa f2 (by omega)
  have u3 : (Z3.1 0 27).toInt = (h : Int) + 0 := by rw [t3]; omega
  have cc3 := cc2.tr (c3.mono (h1 := h) (S1 := fun i => lo ≤ i ∧ i < hi) (S01 := fun i => lo ≤ i ∧ i < hi ∧ i ≠ n) (by omega) (fun i (q : False) => q.elim) (fun i (q : False) => q.elim))
  have hFz : Fr YR [26, 27, 8000, 8200, 8400, 8600, 9000, 9200, 9400, 9600, 9800, 10000, 10200] X0 Z3 := ((((hF.tr c0.1 (by decide)).tr c1.1 (by decide)).tr c2.1 (by decide)).tr c3.1 (by decide))
  have z20 : Z3.1 20 n = X0.1 20 n := hFz.1 20 n (show (4000 : Nat) ∉ [26, 27, 8000, 8200, 8400, 8600, 9000, 9200, 9400, 9600, 9800, 10000, 10200] from by decide)
  have z23 : Z3.1 23 n = X0.1 23 n := hFz.1 23 n (show (4600 : Nat) ∉ [26, 27, 8000, 8200, 8400, 8600, 9000, 9200, 9400, 9600, 9800, 10000, 10200] from by decide)
  have z24 : Z3.1 24 n = X0.1 24 n := hFz.1 24 n (show (4800 : Nat) ∉ [26, 27, 8000, 8200, 8400, 8600, 9000, 9200, 9400, 9600, 9800, 10000, 10200] from by decide)
  have z25 : Z3.1 25 n = X0.1 25 n := hFz.1 25 n (show (5000 : Nat) ∉ [26, 27, 8000, 8200, 8400, 8600, 9000, 9200, 9400, 9600, 9800, 10000, 10200] from by decide)
  have z26 : Z3.1 26 n = X0.1 26 n := hFz.1 26 n (show (5200 : Nat) ∉ [26, 27, 8000, 8200, 8400, 8600, 9000, 9200, 9400, 9600, 9800, 10000, 10200] from by decide)
  have z27 : Z3.1 27 n = X0.1 27 n := hFz.1 27 n (show (5400 : Nat) ∉ [26, 27, 8000, 8200, 8400, 8600, 9000, 9200, 9400, 9600, 9800, 10000, 10200] from by decide)
  refine ⟨1 + k1 + 1 + 1, ((p1 + 1) + 1), Z3, (((g0.tr g1).tr g2).tr g3), by omega, cc3, by rw [u3]; omega, ?_, by omega⟩
  exact CX.intro ⟨by omega, by omega, by omega, f6, (Or.inr (Or.inr (Or.inl ⟨hl, 5, 22, p1, Or.inr (Or.inr (Or.inl ⟨(by rw [z20]; exact hk), rfl, rfl⟩)), ⟨by rw [z23]; exact hA.1, by rw [z23]; exact f7⟩, (by rw [z23]; exact f8), f5, rfl⟩)))⟩
set_option maxHeartbeats 4000000 in
theorem pc_13 {r7 : Int32 → St → Option (Int32 × St)} {a1 : Int32} {X0 : St} {n lo hi : Nat} {sc : Int} (hlo : lo ≤ n) (hhi0 : n < hi) (hk : (X0.1 20 n).toInt = 13) (hl : n = lo) (hA : CHR (fun n lo hi sc => WX X0 n lo hi sc ∧ PC r7 a1 X0 n lo hi sc) X0 23 n (n + 1) hi sc) : PC r7 a1 X0 n lo hi sc := by
  intro X h s nn m0 hF hnn hhi ht hs hb hb2
  have hbA := hA.2.1.bd
  have en : ix nn = n := by
    have := ixc (z := nn) (by omega)
    omega
  have hin : inR nn 3100 := ⟨by omega, show nn.toInt < ((3100 : Nat) : Int) by omega⟩
  have e20 : X.1 20 n = X0.1 20 n := hF.1 20 n (show (4000 : Nat) ∉ [26, 27, 8000, 8200, 8400, 8600, 9000, 9200, 9400, 9600, 9800, 10000, 10200] from by decide)
  have e23 : X.1 23 n = X0.1 23 n := hF.1 23 n (show (4600 : Nat) ∉ [26, 27, 8000, 8200, 8400, 8600, 9000, 9200, 9400, 9600, 9800, 10000, 10200] from by decide)
  obtain ⟨Z0, g0, c0, t0, ⟨o0, o0n⟩, l0⟩ := st_40 (r7 := r7) (a1 := a1) (L := [(23, nn, 0), (6, (X0.1 23 n), 0), (40, (X0.1 23 n), 0)]) ht hs (by omega) (by omega) (fun W hW hw => by
    have q := tells_13 (X := W) (p1 := nn) hin (by rw [hW 20 ⟨by decide, by decide⟩, en, e20]; exact hk) (by omega)
    rw [hW 23 ⟨by decide, by decide⟩ (ix nn)] at q; rw [en, e23] at q
    exact q) (fun _ => False) (fun _ => False)
  have f0 : OA Z0 s 0 n := ⟨by rw [o0]; rfl, by rw [o0n]; exact hnn⟩
  have q0_0 : Z0.1 48 (h + 0) = ((23, nn, 0) : Int32 × Int32 × Int32).1 ∧ Z0.1 49 (h + 0) = ((23, nn, 0) : Int32 × Int32 × Int32).2.1 ∧ Z0.1 50 (h + 0) = ((23, nn, 0) : Int32 × Int32 × Int32).2.2 := l0 0 (23, nn, 0) rfl
  have q0_1 : Z0.1 48 (h + 1) = ((6, (X0.1 23 n), 0) : Int32 × Int32 × Int32).1 ∧ Z0.1 49 (h + 1) = ((6, (X0.1 23 n), 0) : Int32 × Int32 × Int32).2.1 ∧ Z0.1 50 (h + 1) = ((6, (X0.1 23 n), 0) : Int32 × Int32 × Int32).2.2 := l0 1 (6, (X0.1 23 n), 0) rfl
  have q0_2 : Z0.1 48 (h + 2) = ((40, (X0.1 23 n), 0) : Int32 × Int32 × Int32).1 ∧ Z0.1 49 (h + 2) = ((40, (X0.1 23 n), 0) : Int32 × Int32 × Int32).2.1 ∧ Z0.1 50 (h + 2) = ((40, (X0.1 23 n), 0) : Int32 × Int32 × Int32).2.2 := l0 2 (40, (X0.1 23 n), 0) rfl
  have u0 : (Z0.1 0 27).toInt = (h : Int) + 3 := by rw [t0]; rfl
  obtain ⟨k1, p1, Z1, g1, b1, c1, t1, x1, y1⟩ := hA.2.2 Z0 (h + 2) (s + 1) (X0.1 23 n) 0 (hF.tr c0.1 (by decide)) (ixc hA.1).symm (by omega) ⟨by rw [u0]; omega, q0_2⟩ c0.2.1 (by omega) (by omega)
  have bx1 := x1.bd
  have f1 : OA Z1 s 0 n := c1.oa f0 (by omega)
  have q1_0 := (show _ ∧ _ ∧ _ from ⟨(c1.2.2.2.1 (h + 0) (by omega)).1.trans q0_0.1, (c1.2.2.2.1 (h + 0) (by omega)).2.1.trans q0_0.2.1, (c1.2.2.2.1 (h + 0) (by omega)).2.2.trans q0_0.2.2⟩)
  have q1_1 := (show _ ∧ _ ∧ _ from ⟨(c1.2.2.2.1 (h + 1) (by omega)).1.trans q0_1.1, (c1.2.2.2.1 (h + 1) (by omega)).2.1.trans q0_1.2.1, (c1.2.2.2.1 (h + 1) (by omega)).2.2.trans q0_1.2.2⟩)
  have u1 : (Z1.1 0 27).toInt = (h : Int) + 2 := by rw [t1]; omega
  have cc1 := (c0.mono (h1 := h) (S1 := fun i => lo ≤ i ∧ i < hi) (S01 := fun i => lo ≤ i ∧ i < hi ∧ i ≠ n) (by omega) (fun i q => q.elim) (fun i q => q.elim)).tr (c1.mono (h1 := h) (S1 := fun i => lo ≤ i ∧ i < hi) (S01 := fun i => lo ≤ i ∧ i < hi ∧ i ≠ n) (by omega) (fun i (q : ((n + 1) ≤ i ∧ i < hi)) => (⟨by omega, by omega⟩ : lo ≤ i ∧ i < hi)) (fun i (q : ((n + 1) ≤ i ∧ i < hi ∧ i ≠ ix (X0.1 23 n))) => (⟨by omega, by omega, by omega⟩ : lo ≤ i ∧ i < hi ∧ i ≠ n)))
  obtain ⟨Z2, g2, c2, t2, d2, d2n, d2m⟩ := st_ord (r7 := r7) (a1 := a1) (show Top Z1 (h + 1) 6 (X0.1 23 n) 0 from ⟨by rw [u1]; omega, q1_1⟩) c1.2.1 (by omega) (by omega) (by decide) (fun _ => False) (fun _ => False)
  have f2 : OA Z2 p1 6 (ix (X0.1 23 n)) := ⟨by rw [d2]; rfl, by rw [d2n]; exact (ixc hA.1).symm⟩
  have f3 : OA Z2 s 0 n := c2.oa f1 (by omega)
  have f4 : CX Z2 (ix (X0.1 23 n)) (n + 1) hi sc (s + 1) p1 := x1.cs c2 (by omega) (fun i i1 i2 => ⟨fun (q : False) => by omega, fun i3 (q : False) => by omega⟩)
  have q2_0 := (show _ ∧ _ ∧ _ from ⟨(c2.2.2.2.1 (h + 0) (by omega)).1.trans q1_0.1, (c2.2.2.2.1 (h + 0) (by omega)).2.1.trans q1_0.2.1, (c2.2.2.2.1 (h + 0) (by omega)).2.2.trans q1_0.2.2⟩)
  have u2 : (Z2.1 0 27).toInt = (h : Int) + 1 := by rw [t2]; omega
  have cc2 := cc1.tr (c2.mono (h1 := h) (S1 := fun i => lo ≤ i ∧ i < hi) (S01 := fun i => lo ≤ i ∧ i < hi ∧ i ≠ n) (by omega) (fun i (q : False) => q.elim) (fun i (q : False) => q.elim))
  obtain ⟨Z3, g3, c3, t3, d3, d3n, d3m⟩ := st_ord (r7 := r7) (a1 := a1) (show Top Z2 (h + 0) 23 nn 0 from ⟨by rw [u2]; omega, q2_0⟩) c2.2.1 (by omega) (by omega) (by decide) (fun _ => False) (fun _ => False)
  have f5 : OA Z3 (p1 + 1) 23 n := ⟨by rw [d3]; rfl, by rw [d3n]; exact hnn⟩
  have f6 : OA Z3 s 0 n := c3.oa f3 (by omega)
  have f7 : CX Z3 (ix (X0.1 23 n)) (n + 1) hi sc (s + 1) p1 := f4.cs c3 (by omega) (fun i i1 i2 => ⟨fun (q : False) => by omega, fun i3 (q : False) => by omega⟩)
  have f8 : OA Z3 p1 6 (ix (X0.1 23 n)) := c3.oa f2 (by omega)
  have u3 : (Z3.1 0 27).toInt = (h : Int) + 0 := by rw [t3]; omega
  have cc3 := cc2.tr (c3.mono (h1 := h) (S1 := fun i => lo ≤ i ∧ i < hi) (S01 := fun i => lo ≤ i ∧ i < hi ∧ i ≠ n) (by omega) (fun i (q : False) => q.elim) (fun i (q : False) => q.elim))
  have hFz : Fr YR [26, 27, 8000, 8200, 8400, 8600, 9000, 9200, 9400, 9600, 9800, 10000, 10200] X0 Z3 := ((((hF.tr c0.1 (by decide)).tr c1.1 (by decide)).tr c2.1 (by decide)).tr c3.1 (by decide))
  have z20 : Z3.1 20 n = X0.1 20 n := hFz.1 20 n (show (4000 : Nat) ∉ [26, 27, 8000, 8200, 8400, 8600, 9000, 9200, 9400, 9600, 9800, 10000, 10200] from by decide)
  have z23 : Z3.1 23 n = X0.1 23 n := hFz.1 23 n (show (4600 : Nat) ∉ [26, 27, 8000, 8200, 8400, 8600, 9000, 9200, 9400, 9600, 9800, 10000, 10200] from by decide)
  have z24 : Z3.1 24 n = X0.1 24 n := hFz.1 24 n (show (4800 : Nat) ∉ [26, 27, 8000, 8200, 8400, 8600, 9000, 9200, 9400, 9600, 9800, 10000, 10200] from by decide)
  have z25 : Z3.1 25 n = X0.1 25 n := hFz.1 25 n (show (5000 : Nat) ∉ [26, 27, 8000, 8200, 8400, 8600, 9000, 9200, 9400, 9600, 9800, 10000, 10200] from by decide)
  have z26 : Z3.1 26 n = X0.1 26 n := hFz.1 26 n (show (5200 : Nat) ∉ [26, 27, 8000, 8200, 8400, 8600, 9000, 9200, 9400, 9600, 9800, 10000, 10200] from by decide)
  have z27 : Z3.1 27 n = X0.1 27 n := hFz.1 27 n (show (5400 : Nat) ∉ [26, 27, 8000, 8200, 8400, 8600, 9000, 9200, 9400, 9600, 9800, 10000, 10200] from by decide)
  refine ⟨1 + k1 + 1 + 1, ((p1 + 1) + 1), Z3, (((g0.tr g1).tr g2).tr g3), by omega, cc3, by rw [u3]; omega, ?_, by omega⟩
  exact CX.intro ⟨by omega, by omega, by omega, f6, (Or.inr (Or.inr (Or.inl ⟨hl, 6, 23, p1, Or.inr (Or.inr (Or.inr ⟨(by rw [z20]; exact hk), rfl, rfl⟩)), ⟨by rw [z23]; exact hA.1, by rw [z23]; exact f7⟩, (by rw [z23]; exact f8), f5, rfl⟩)))⟩
set_option maxHeartbeats 4000000 in
theorem pc_14 {r7 : Int32 → St → Option (Int32 × St)} {a1 : Int32} {X0 : St} {n lo hi : Nat} {sc : Int} (hlo : lo ≤ n) (hhi0 : n < hi) (hk : (X0.1 20 n).toInt = 14) (hA : CHR (fun n lo hi sc => WX X0 n lo hi sc ∧ PC r7 a1 X0 n lo hi sc) X0 23 n lo n sc) (hB : CHR (fun n lo hi sc => WX X0 n lo hi sc ∧ PC r7 a1 X0 n lo hi sc) X0 24 n (n + 1) hi sc) : PC r7 a1 X0 n lo hi sc := by
  intro X h s nn m0 hF hnn hhi ht hs hb hb2
  have hbA := hA.2.1.bd
  have hbB := hB.2.1.bd
  have en : ix nn = n := by
    have := ixc (z := nn) (by omega)
    omega
  have hin : inR nn 3100 := ⟨by omega, show nn.toInt < ((3100 : Nat) : Int) by omega⟩
  have e20 : X.1 20 n = X0.1 20 n := hF.1 20 n (show (4000 : Nat) ∉ [26, 27, 8000, 8200, 8400, 8600, 9000, 9200, 9400, 9600, 9800, 10000, 10200] from by decide)
  have e23 : X.1 23 n = X0.1 23 n := hF.1 23 n (show (4600 : Nat) ∉ [26, 27, 8000, 8200, 8400, 8600, 9000, 9200, 9400, 9600, 9800, 10000, 10200] from by decide)
  have e24 : X.1 24 n = X0.1 24 n := hF.1 24 n (show (4800 : Nat) ∉ [26, 27, 8000, 8200, 8400, 8600, 9000, 9200, 9400, 9600, 9800, 10000, 10200] from by decide)
  obtain ⟨Z0, g0, c0, t0, ⟨o0, o0n⟩, l0⟩ := st_40 (r7 := r7) (a1 := a1) (L := [(24, nn, 0), (5, (X0.1 24 n), 0), (40, (X0.1 24 n), 0), (5, (X0.1 23 n), 0), (40, (X0.1 23 n), 0)]) ht hs (by omega) (by omega) (fun W hW hw => by
    have q := tells_14 (X := W) (p1 := nn) hin (by rw [hW 20 ⟨by decide, by decide⟩, en, e20]; exact hk) (by omega)
    rw [hW 23 ⟨by decide, by decide⟩ (ix nn), hW 24 ⟨by decide, by decide⟩ (ix nn)] at q; rw [en, e23, e24] at q
    exact q) (fun _ => False) (fun _ => False)
  have f0 : OA Z0 s 0 n := ⟨by rw [o0]; rfl, by rw [o0n]; exact hnn⟩
  have q0_0 : Z0.1 48 (h + 0) = ((24, nn, 0) : Int32 × Int32 × Int32).1 ∧ Z0.1 49 (h + 0) = ((24, nn, 0) : Int32 × Int32 × Int32).2.1 ∧ Z0.1 50 (h + 0) = ((24, nn, 0) : Int32 × Int32 × Int32).2.2 := l0 0 (24, nn, 0) rfl
  have q0_1 : Z0.1 48 (h + 1) = ((5, (X0.1 24 n), 0) : Int32 × Int32 × Int32).1 ∧ Z0.1 49 (h + 1) = ((5, (X0.1 24 n), 0) : Int32 × Int32 × Int32).2.1 ∧ Z0.1 50 (h + 1) = ((5, (X0.1 24 n), 0) : Int32 × Int32 × Int32).2.2 := l0 1 (5, (X0.1 24 n), 0) rfl
  have q0_2 : Z0.1 48 (h + 2) = ((40, (X0.1 24 n), 0) : Int32 × Int32 × Int32).1 ∧ Z0.1 49 (h + 2) = ((40, (X0.1 24 n), 0) : Int32 × Int32 × Int32).2.1 ∧ Z0.1 50 (h + 2) = ((40, (X0.1 24 n), 0) : Int32 × Int32 × Int32).2.2 := l0 2 (40, (X0.1 24 n), 0) rfl
  have q0_3 : Z0.1 48 (h + 3) = ((5, (X0.1 23 n), 0) : Int32 × Int32 × Int32).1 ∧ Z0.1 49 (h + 3) = ((5, (X0.1 23 n), 0) : Int32 × Int32 × Int32).2.1 ∧ Z0.1 50 (h + 3) = ((5, (X0.1 23 n), 0) : Int32 × Int32 × Int32).2.2 := l0 3 (5, (X0.1 23 n), 0) rfl
  have q0_4 : Z0.1 48 (h + 4) = ((40, (X0.1 23 n), 0) : Int32 × Int32 × Int32).1 ∧ Z0.1 49 (h + 4) = ((40, (X0.1 23 n), 0) : Int32 × Int32 × Int32).2.1 ∧ Z0.1 50 (h + 4) = ((40, (X0.1 23 n), 0) : Int32 × Int32 × Int32).2.2 := l0 4 (40, (X0.1 23 n), 0) rfl
  have u0 : (Z0.1 0 27).toInt = (h : Int) + 5 := by rw [t0]; rfl
  obtain ⟨k1, p1, Z1, g1, b1, c1, t1, x1, y1⟩ := hA.2.2 Z0 (h + 4) (s + 1) (X0.1 23 n) 0 (hF.tr c0.1 (by decide)) (ixc hA.1).symm (by omega) ⟨by rw [u0]; omega, q0_4⟩ c0.2.1 (by omega) (by omega)
  have bx1 := x1.bd
  have f1 : OA Z1 s 0 n := c1.oa f0 (by omega)
  have q1_0 := (show _ ∧ _ ∧ _ from ⟨(c1.2.2.2.1 (h + 0) (by omega)).1.trans q0_0.1, (c1.2.2.2.1 (h + 0) (by omega)).2.1.trans q0_0.2.1, (c1.2.2.2.1 (h + 0) (by omega)).2.2.trans q0_0.2.2⟩)
  have q1_1 := (show _ ∧ _ ∧ _ from ⟨(c1.2.2.2.1 (h + 1) (by omega)).1.trans q0_1.1, (c1.2.2.2.1 (h + 1) (by omega)).2.1.trans q0_1.2.1, (c1.2.2.2.1 (h + 1) (by omega)).2.2.trans q0_1.2.2⟩)
  have q1_2 := (show _ ∧ _ ∧ _ from ⟨(c1.2.2.2.1 (h + 2) (by omega)).1.trans q0_2.1, (c1.2.2.2.1 (h + 2) (by omega)).2.1.trans q0_2.2.1, (c1.2.2.2.1 (h + 2) (by omega)).2.2.trans q0_2.2.2⟩)
  have q1_3 := (show _ ∧ _ ∧ _ from ⟨(c1.2.2.2.1 (h + 3) (by omega)).1.trans q0_3.1, (c1.2.2.2.1 (h + 3) (by omega)).2.1.trans q0_3.2.1, (c1.2.2.2.1 (h + 3) (by omega)).2.2.trans q0_3.2.2⟩)
  have u1 : (Z1.1 0 27).toInt = (h : Int) + 4 := by rw [t1]; omega
  have cc1 := (c0.mono (h1 := h) (S1 := fun i => lo ≤ i ∧ i < hi) (S01 := fun i => lo ≤ i ∧ i < hi ∧ i ≠ n) (by omega) (fun i q => q.elim) (fun i q => q.elim)).tr (c1.mono (h1 := h) (S1 := fun i => lo ≤ i ∧ i < hi) (S01 := fun i => lo ≤ i ∧ i < hi ∧ i ≠ n) (by omega) (fun i (q : (lo ≤ i ∧ i < n)) => (⟨by omega, by omega⟩ : lo ≤ i ∧ i < hi)) (fun i (q : (lo ≤ i ∧ i < n ∧ i ≠ ix (X0.1 23 n))) => (⟨by omega, by omega, by omega⟩ : lo ≤ i ∧ i < hi ∧ i ≠ n)))
  obtain ⟨Z2, g2, c2, t2, d2, d2n, d2m⟩ := st_ord (r7 := r7) (a1 := a1) (show Top Z1 (h + 3) 5 (X0.1 23 n) 0 from ⟨by rw [u1]; omega, q1_3⟩) c1.2.1 (by omega) (by omega) (by decide) (fun _ => False) (fun _ => False)
  have f2 : OA Z2 p1 5 (ix (X0.1 23 n)) := ⟨by rw [d2]; rfl, by rw [d2n]; exact (ixc hA.1).symm⟩
  have f3 : OA Z2 s 0 n := c2.oa f1 (by omega)
  have f4 : CX Z2 (ix (X0.1 23 n)) lo n sc (s + 1) p1 := x1.cs c2 (by omega) (fun i i1 i2 => ⟨fun (q : False) => by omega, fun i3 (q : False) => by omega⟩)
  have q2_0 := (show _ ∧ _ ∧ _ from ⟨(c2.2.2.2.1 (h + 0) (by omega)).1.trans q1_0.1, (c2.2.2.2.1 (h + 0) (by omega)).2.1.trans q1_0.2.1, (c2.2.2.2.1 (h + 0) (by omega)).2.2.trans q1_0.2.2⟩)
  have q2_1 := (show _ ∧ _ ∧ _ from ⟨(c2.2.2.2.1 (h + 1) (by omega)).1.trans q1_1.1, (c2.2.2.2.1 (h + 1) (by omega)).2.1.trans q1_1.2.1, (c2.2.2.2.1 (h + 1) (by omega)).2.2.trans q1_1.2.2⟩)
  have q2_2 := (show _ ∧ _ ∧ _ from ⟨(c2.2.2.2.1 (h + 2) (by omega)).1.trans q1_2.1, (c2.2.2.2.1 (h + 2) (by omega)).2.1.trans q1_2.2.1, (c2.2.2.2.1 (h + 2) (by omega)).2.2.trans q1_2.2.2⟩)
  have u2 : (Z2.1 0 27).toInt = (h : Int) + 3 := by rw [t2]; omega
  have cc2 := cc1.tr (c2.mono (h1 := h) (S1 := fun i => lo ≤ i ∧ i < hi) (S01 := fun i => lo ≤ i ∧ i < hi ∧ i ≠ n) (by omega) (fun i (q : False) => q.elim) (fun i (q : False) => q.elim))
  obtain ⟨k3, p2, Z3, g3, b3, c3, t3, x3, y3⟩ := hB.2.2 Z2 (h + 2) (p1 + 1) (X0.1 24 n) 0 (((hF.tr c0.1 (by decide)).tr c1.1 (by decide)).tr c2.1 (by decide)) (ixc hB.1).symm (by omega) ⟨by rw [u2]; omega, q2_2⟩ c2.2.1 (by omega) (by omega)
  have bx3 := x3.bd
  have f5 : OA Z3 s 0 n := c3.oa f3 (by omega)
  have f6 : CX Z3 (ix (X0.1 23 n)) lo n sc (s + 1) p1 := f4.cs c3 (by omega) (fun i i1 i2 => ⟨fun (q : ((n + 1) ≤ i ∧ i < hi)) => by omega, fun i3 (q : ((n + 1) ≤ i ∧ i < hi ∧ i ≠ ix (X0.1 24 n))) => by omega⟩)
  have f7 : OA Z3 p1 5 (ix (X0.1 23 n)) := c3.oa f2 (by omega)
  have q3_0 := (show _ ∧ _ ∧ _ from ⟨(c3.2.2.2.1 (h + 0) (by omega)).1.trans q2_0.1, (c3.2.2.2.1 (h + 0) (by omega)).2.1.trans q2_0.2.1, (c3.2.2.2.1 (h + 0) (by omega)).2.2.trans q2_0.2.2⟩)
  have q3_1 := (show _ ∧ _ ∧ _ from ⟨(c3.2.2.2.1 (h + 1) (by omega)).1.trans q2_1.1, (c3.2.2.2.1 (h + 1) (by omega)).2.1.trans q2_1.2.1, (c3.2.2.2.1 (h + 1) (by omega)).2.2.trans q2_1.2.2⟩)
  have u3 : (Z3.1 0 27).toInt = (h : Int) + 2 := by rw [t3]; omega
  have cc3 := cc2.tr (c3.mono (h1 := h) (S1 := fun i => lo ≤ i ∧ i < hi) (S01 := fun i => lo ≤ i ∧ i < hi ∧ i ≠ n) (by omega) (fun i (q : ((n + 1) ≤ i ∧ i < hi)) => (⟨by omega, by omega⟩ : lo ≤ i ∧ i < hi)) (fun i (q : ((n + 1) ≤ i ∧ i < hi ∧ i ≠ ix (X0.1 24 n))) => (⟨by omega, by omega, by omega⟩ : lo ≤ i ∧ i < hi ∧ i ≠ n)))
  obtain ⟨Z4, g4, c4, t4, d4, d4n, d4m⟩ := st_ord (r7 := r7) (a1 := a1) (show Top Z3 (h + 1) 5 (X0.1 24 n) 0 from ⟨by rw [u3]; omega, q3_1⟩) c3.2.1 (by omega) (by omega) (by decide) (fun _ => False) (fun _ => False)
  have f8 : OA Z4 p2 5 (ix (X0.1 24 n)) := ⟨by rw [d4]; rfl, by rw [d4n]; exact (ixc hB.1).symm⟩
  have f9 : OA Z4 s 0 n := c4.oa f5 (by omega)
  have f10 : CX Z4 (ix (X0.1 23 n)) lo n sc (s + 1) p1 := f6.cs c4 (by omega) (fun i i1 i2 => ⟨fun (q : False) => by omega, fun i3 (q : False) => by omega⟩)
  have f11 : OA Z4 p1 5 (ix (X0.1 23 n)) := c4.oa f7 (by omega)
  have f12 : CX Z4 (ix (X0.1 24 n)) (n + 1) hi sc (p1 + 1) p2 := x3.cs c4 (by omega) (fun i i1 i2 => ⟨fun (q : False) => by omega, fun i3 (q : False) => by omega⟩)
  have q4_0 := (show _ ∧ _ ∧ _ from ⟨(c4.2.2.2.1 (h + 0) (by omega)).1.trans q3_0.1, (c4.2.2.2.1 (h + 0) (by omega)).2.1.trans q3_0.2.1, (c4.2.2.2.1 (h + 0) (by omega)).2.2.trans q3_0.2.2⟩)
  have u4 : (Z4.1 0 27).toInt = (h : Int) + 1 := by rw [t4]; omega
  have cc4 := cc3.tr (c4.mono (h1 := h) (S1 := fun i => lo ≤ i ∧ i < hi) (S01 := fun i => lo ≤ i ∧ i < hi ∧ i ≠ n) (by omega) (fun i (q : False) => q.elim) (fun i (q : False) => q.elim))
  obtain ⟨Z5, g5, c5, t5, d5, d5n, d5m⟩ := st_ord (r7 := r7) (a1 := a1) (show Top Z4 (h + 0) 24 nn 0 from ⟨by rw [u4]; omega, q4_0⟩) c4.2.1 (by omega) (by omega) (by decide) (fun _ => False) (fun _ => False)
  have f13 : OA Z5 (p2 + 1) 24 n := ⟨by rw [d5]; rfl, by rw [d5n]; exact hnn⟩
  have f14 : OA Z5 s 0 n := c5.oa f9 (by omega)
  have f15 : CX Z5 (ix (X0.1 23 n)) lo n sc (s + 1) p1 := f10.cs c5 (by omega) (fun i i1 i2 => ⟨fun (q : False) => by omega, fun i3 (q : False) => by omega⟩)
  have f16 : OA Z5 p1 5 (ix (X0.1 23 n)) := c5.oa f11 (by omega)
  have f17 : CX Z5 (ix (X0.1 24 n)) (n + 1) hi sc (p1 + 1) p2 := f12.cs c5 (by omega) (fun i i1 i2 => ⟨fun (q : False) => by omega, fun i3 (q : False) => by omega⟩)
  have f18 : OA Z5 p2 5 (ix (X0.1 24 n)) := c5.oa f8 (by omega)
  have u5 : (Z5.1 0 27).toInt = (h : Int) + 0 := by rw [t5]; omega
  have cc5 := cc4.tr (c5.mono (h1 := h) (S1 := fun i => lo ≤ i ∧ i < hi) (S01 := fun i => lo ≤ i ∧ i < hi ∧ i ≠ n) (by omega) (fun i (q : False) => q.elim) (fun i (q : False) => q.elim))
  have hFz : Fr YR [26, 27, 8000, 8200, 8400, 8600, 9000, 9200, 9400, 9600, 9800, 10000, 10200] X0 Z5 := ((((((hF.tr c0.1 (by decide)).tr c1.1 (by decide)).tr c2.1 (by decide)).tr c3.1 (by decide)).tr c4.1 (by decide)).tr c5.1 (by decide))
  have z20 : Z5.1 20 n = X0.1 20 n := hFz.1 20 n (show (4000 : Nat) ∉ [26, 27, 8000, 8200, 8400, 8600, 9000, 9200, 9400, 9600, 9800, 10000, 10200] from by decide)
  have z23 : Z5.1 23 n = X0.1 23 n := hFz.1 23 n (show (4600 : Nat) ∉ [26, 27, 8000, 8200, 8400, 8600, 9000, 9200, 9400, 9600, 9800, 10000, 10200] from by decide)
  have z24 : Z5.1 24 n = X0.1 24 n := hFz.1 24 n (show (4800 : Nat) ∉ [26, 27, 8000, 8200, 8400, 8600, 9000, 9200, 9400, 9600, 9800, 10000, 10200] from by decide)
  have z25 : Z5.1 25 n = X0.1 25 n := hFz.1 25 n (show (5000 : Nat) ∉ [26, 27, 8000, 8200, 8400, 8600, 9000, 9200, 9400, 9600, 9800, 10000, 10200] from by decide)
  have z26 : Z5.1 26 n = X0.1 26 n := hFz.1 26 n (show (5200 : Nat) ∉ [26, 27, 8000, 8200, 8400, 8600, 9000, 9200, 9400, 9600, 9800, 10000, 10200] from by decide)
  have z27 : Z5.1 27 n = X0.1 27 n := hFz.1 27 n (show (5400 : Nat) ∉ [26, 27, 8000, 8200, 8400, 8600, 9000, 9200, 9400, 9600, 9800, 10000, 10200] from by decide)
  refine ⟨1 + k1 + 1 + k3 + 1 + 1, ((p2 + 1) + 1), Z5, (((((g0.tr g1).tr g2).tr g3).tr g4).tr g5), by omega, cc5, by rw [u5]; omega, ?_, by omega⟩
  exact CX.intro ⟨by omega, by omega, by omega, f14, (Or.inr (Or.inr (Or.inr (Or.inl ⟨p1, p2, ⟨by rw [z23]; exact hA.1, by rw [z23]; exact f15⟩, (by rw [z23]; exact f16), ⟨by rw [z24]; exact hB.1, by rw [z24]; exact f17⟩, (by rw [z24]; exact f18), Or.inl ⟨(by rw [z20]; exact hk), f13⟩, rfl⟩))))⟩
set_option maxHeartbeats 4000000 in
theorem pc_15 {r7 : Int32 → St → Option (Int32 × St)} {a1 : Int32} {X0 : St} {n lo hi : Nat} {sc : Int} (hlo : lo ≤ n) (hhi0 : n < hi) (hk : (X0.1 20 n).toInt = 15) (hA : CHR (fun n lo hi sc => WX X0 n lo hi sc ∧ PC r7 a1 X0 n lo hi sc) X0 23 n lo n sc) (hB : CHR (fun n lo hi sc => WX X0 n lo hi sc ∧ PC r7 a1 X0 n lo hi sc) X0 24 n (n + 1) hi sc) : PC r7 a1 X0 n lo hi sc := by
  intro X h s nn m0 hF hnn hhi ht hs hb hb2
  have hbA := hA.2.1.bd
  have hbB := hB.2.1.bd
  have en : ix nn = n := by
    have := ixc (z := nn) (by omega)
    omega
  have hin : inR nn 3100 := ⟨by omega, show nn.toInt < ((3100 : Nat) : Int) by omega⟩
  have e20 : X.1 20 n = X0.1 20 n := hF.1 20 n (show (4000 : Nat) ∉ [26, 27, 8000, 8200, 8400, 8600, 9000, 9200, 9400, 9600, 9800, 10000, 10200] from by decide)
  have e23 : X.1 23 n = X0.1 23 n := hF.1 23 n (show (4600 : Nat) ∉ [26, 27, 8000, 8200, 8400, 8600, 9000, 9200, 9400, 9600, 9800, 10000, 10200] from by decide)
  have e24 : X.1 24 n = X0.1 24 n := hF.1 24 n (show (4800 : Nat) ∉ [26, 27, 8000, 8200, 8400, 8600, 9000, 9200, 9400, 9600, 9800, 10000, 10200] from by decide)
  obtain ⟨Z0, g0, c0, t0, ⟨o0, o0n⟩, l0⟩ := st_40 (r7 := r7) (a1 := a1) (L := [(25, nn, 0), (5, (X0.1 24 n), 0), (40, (X0.1 24 n), 0), (5, (X0.1 23 n), 0), (40, (X0.1 23 n), 0)]) ht hs (by omega) (by omega) (fun W hW hw => by
    have q := tells_15 (X := W) (p1 := nn) hin (by rw [hW 20 ⟨by decide, by decide⟩, en, e20]; exact hk) (by omega)
    rw [hW 23 ⟨by decide, by decide⟩ (ix nn), hW 24 ⟨by decide, by decide⟩ (ix nn)] at q; rw [en, e23, e24] at q
    exact q) (fun _ => False) (fun _ => False)
  have f0 : OA Z0 s 0 n := ⟨by rw [o0]; rfl, by rw [o0n]; exact hnn⟩
  have q0_0 : Z0.1 48 (h + 0) = ((25, nn, 0) : Int32 × Int32 × Int32).1 ∧ Z0.1 49 (h + 0) = ((25, nn, 0) : Int32 × Int32 × Int32).2.1 ∧ Z0.1 50 (h + 0) = ((25, nn, 0) : Int32 × Int32 × Int32).2.2 := l0 0 (25, nn, 0) rfl
  have q0_1 : Z0.1 48 (h + 1) = ((5, (X0.1 24 n), 0) : Int32 × Int32 × Int32).1 ∧ Z0.1 49 (h + 1) = ((5, (X0.1 24 n), 0) : Int32 × Int32 × Int32).2.1 ∧ Z0.1 50 (h + 1) = ((5, (X0.1 24 n), 0) : Int32 × Int32 × Int32).2.2 := l0 1 (5, (X0.1 24 n), 0) rfl
  have q0_2 : Z0.1 48 (h + 2) = ((40, (X0.1 24 n), 0) : Int32 × Int32 × Int32).1 ∧ Z0.1 49 (h + 2) = ((40, (X0.1 24 n), 0) : Int32 × Int32 × Int32).2.1 ∧ Z0.1 50 (h + 2) = ((40, (X0.1 24 n), 0) : Int32 × Int32 × Int32).2.2 := l0 2 (40, (X0.1 24 n), 0) rfl
  have q0_3 : Z0.1 48 (h + 3) = ((5, (X0.1 23 n), 0) : Int32 × Int32 × Int32).1 ∧ Z0.1 49 (h + 3) = ((5, (X0.1 23 n), 0) : Int32 × Int32 × Int32).2.1 ∧ Z0.1 50 (h + 3) = ((5, (X0.1 23 n), 0) : Int32 × Int32 × Int32).2.2 := l0 3 (5, (X0.1 23 n), 0) rfl
  have q0_4 : Z0.1 48 (h + 4) = ((40, (X0.1 23 n), 0) : Int32 × Int32 × Int32).1 ∧ Z0.1 49 (h + 4) = ((40, (X0.1 23 n), 0) : Int32 × Int32 × Int32).2.1 ∧ Z0.1 50 (h + 4) = ((40, (X0.1 23 n), 0) : Int32 × Int32 × Int32).2.2 := l0 4 (40, (X0.1 23 n), 0) rfl
  have u0 : (Z0.1 0 27).toInt = (h : Int) + 5 := by rw [t0]; rfl
  obtain ⟨k1, p1, Z1, g1, b1, c1, t1, x1, y1⟩ := hA.2.2 Z0 (h + 4) (s + 1) (X0.1 23 n) 0 (hF.tr c0.1 (by decide)) (ixc hA.1).symm (by omega) ⟨by rw [u0]; omega, q0_4⟩ c0.2.1 (by omega) (by omega)
  have bx1 := x1.bd
  have f1 : OA Z1 s 0 n := c1.oa f0 (by omega)
  have q1_0 := (show _ ∧ _ ∧ _ from ⟨(c1.2.2.2.1 (h + 0) (by omega)).1.trans q0_0.1, (c1.2.2.2.1 (h + 0) (by omega)).2.1.trans q0_0.2.1, (c1.2.2.2.1 (h + 0) (by omega)).2.2.trans q0_0.2.2⟩)
  have q1_1 := (show _ ∧ _ ∧ _ from ⟨(c1.2.2.2.1 (h + 1) (by omega)).1.trans q0_1.1, (c1.2.2.2.1 (h + 1) (by omega)).2.1.trans q0_1.2.1, (c1.2.2.2.1 (h + 1) (by omega)).2.2.trans q0_1.2.2⟩)
  have q1_2 := (show _ ∧ _ ∧ _ from ⟨(c1.2.2.2.1 (h + 2) (by omega)).1.trans q0_2.1, (c1.2.2.2.1 (h + 2) (by omega)).2.1.trans q0_2.2.1, (c1.2.2.2.1 (h + 2) (by omega)).2.2.trans q0_2.2.2⟩)
  have q1_3 := (show _ ∧ _ ∧ _ from ⟨(c1.2.2.2.1 (h + 3) (by omega)).1.trans q0_3.1, (c1.2.2.2.1 (h + 3) (by omega)).2.1.trans q0_3.2.1, (c1.2.2.2.1 (h + 3) (by omega)).2.2.trans q0_3.2.2⟩)
  have u1 : (Z1.1 0 27).toInt = (h : Int) + 4 := by rw [t1]; omega
  have cc1 := (c0.mono (h1 := h) (S1 := fun i => lo ≤ i ∧ i < hi) (S01 := fun i => lo ≤ i ∧ i < hi ∧ i ≠ n) (by omega) (fun i q => q.elim) (fun i q => q.elim)).tr (c1.mono (h1 := h) (S1 := fun i => lo ≤ i ∧ i < hi) (S01 := fun i => lo ≤ i ∧ i < hi ∧ i ≠ n) (by omega) (fun i (q : (lo ≤ i ∧ i < n)) => (⟨by omega, by omega⟩ : lo ≤ i ∧ i < hi)) (fun i (q : (lo ≤ i ∧ i < n ∧ i ≠ ix (X0.1 23 n))) => (⟨by omega, by omega, by omega⟩ : lo ≤ i ∧ i < hi ∧ i ≠ n)))
  obtain ⟨Z2, g2, c2, t2, d2, d2n, d2m⟩ := st_ord (r7 := r7) (a1 := a1) (show Top Z1 (h + 3) 5 (X0.1 23 n) 0 from ⟨by rw [u1]; omega, q1_3⟩) c1.2.1 (by omega) (by omega) (by decide) (fun _ => False) (fun _ => False)
  have f2 : OA Z2 p1 5 (ix (X0.1 23 n)) := ⟨by rw [d2]; rfl, by rw [d2n]; exact (ixc hA.1).symm⟩
  have f3 : OA Z2 s 0 n := c2.oa f1 (by omega)
  have f4 : CX Z2 (ix (X0.1 23 n)) lo n sc (s + 1) p1 := x1.cs c2 (by omega) (fun i i1 i2 => ⟨fun (q : False) => by omega, fun i3 (q : False) => by omega⟩)
  have q2_0 := (show _ ∧ _ ∧ _ from ⟨(c2.2.2.2.1 (h + 0) (by omega)).1.trans q1_0.1, (c2.2.2.2.1 (h + 0) (by omega)).2.1.trans q1_0.2.1, (c2.2.2.2.1 (h + 0) (by omega)).2.2.trans q1_0.2.2⟩)
  have q2_1 := (show _ ∧ _ ∧ _ from ⟨(c2.2.2.2.1 (h + 1) (by omega)).1.trans q1_1.1, (c2.2.2.2.1 (h + 1) (by omega)).2.1.trans q1_1.2.1, (c2.2.2.2.1 (h + 1) (by omega)).2.2.trans q1_1.2.2⟩)
  have q2_2 := (show _ ∧ _ ∧ _ from ⟨(c2.2.2.2.1 (h + 2) (by omega)).1.trans q1_2.1, (c2.2.2.2.1 (h + 2) (by omega)).2.1.trans q1_2.2.1, (c2.2.2.2.1 (h + 2) (by omega)).2.2.trans q1_2.2.2⟩)
  have u2 : (Z2.1 0 27).toInt = (h : Int) + 3 := by rw [t2]; omega
  have cc2 := cc1.tr (c2.mono (h1 := h) (S1 := fun i => lo ≤ i ∧ i < hi) (S01 := fun i => lo ≤ i ∧ i < hi ∧ i ≠ n) (by omega) (fun i (q : False) => q.elim) (fun i (q : False) => q.elim))
  obtain ⟨k3, p2, Z3, g3, b3, c3, t3, x3, y3⟩ := hB.2.2 Z2 (h + 2) (p1 + 1) (X0.1 24 n) 0 (((hF.tr c0.1 (by decide)).tr c1.1 (by decide)).tr c2.1 (by decide)) (ixc hB.1).symm (by omega) ⟨by rw [u2]; omega, q2_2⟩ c2.2.1 (by omega) (by omega)
  have bx3 := x3.bd
  have f5 : OA Z3 s 0 n := c3.oa f3 (by omega)
  have f6 : CX Z3 (ix (X0.1 23 n)) lo n sc (s + 1) p1 := f4.cs c3 (by omega) (fun i i1 i2 => ⟨fun (q : ((n + 1) ≤ i ∧ i < hi)) => by omega, fun i3 (q : ((n + 1) ≤ i ∧ i < hi ∧ i ≠ ix (X0.1 24 n))) => by omega⟩)
  have f7 : OA Z3 p1 5 (ix (X0.1 23 n)) := c3.oa f2 (by omega)
  have q3_0 := (show _ ∧ _ ∧ _ from ⟨(c3.2.2.2.1 (h + 0) (by omega)).1.trans q2_0.1, (c3.2.2.2.1 (h + 0) (by omega)).2.1.trans q2_0.2.1, (c3.2.2.2.1 (h + 0) (by omega)).2.2.trans q2_0.2.2⟩)
  have q3_1 := (show _ ∧ _ ∧ _ from ⟨(c3.2.2.2.1 (h + 1) (by omega)).1.trans q2_1.1, (c3.2.2.2.1 (h + 1) (by omega)).2.1.trans q2_1.2.1, (c3.2.2.2.1 (h + 1) (by omega)).2.2.trans q2_1.2.2⟩)
  have u3 : (Z3.1 0 27).toInt = (h : Int) + 2 := by rw [t3]; omega
  have cc3 := cc2.tr (c3.mono (h1 := h) (S1 := fun i => lo ≤ i ∧ i < hi) (S01 := fun i => lo ≤ i ∧ i < hi ∧ i ≠ n) (by omega) (fun i (q : ((n + 1) ≤ i ∧ i < hi)) => (⟨by omega, by omega⟩ : lo ≤ i ∧ i < hi)) (fun i (q : ((n + 1) ≤ i ∧ i < hi ∧ i ≠ ix (X0.1 24 n))) => (⟨by omega, by omega, by omega⟩ : lo ≤ i ∧ i < hi ∧ i ≠ n)))
  obtain ⟨Z4, g4, c4, t4, d4, d4n, d4m⟩ := st_ord (r7 := r7) (a1 := a1) (show Top Z3 (h + 1) 5 (X0.1 24 n) 0 from ⟨by rw [u3]; omega, q3_1⟩) c3.2.1 (by omega) (by omega) (by decide) (fun _ => False) (fun _ => False)
  have f8 : OA Z4 p2 5 (ix (X0.1 24 n)) := ⟨by rw [d4]; rfl, by rw [d4n]; exact (ixc hB.1).symm⟩
  have f9 : OA Z4 s 0 n := c4.oa f5 (by omega)
  have f10 : CX Z4 (ix (X0.1 23 n)) lo n sc (s + 1) p1 := f6.cs c4 (by omega) (fun i i1 i2 => ⟨fun (q : False) => by omega, fun i3 (q : False) => by omega⟩)
  have f11 : OA Z4 p1 5 (ix (X0.1 23 n)) := c4.oa f7 (by omega)
  have f12 : CX Z4 (ix (X0.1 24 n)) (n + 1) hi sc (p1 + 1) p2 := x3.cs c4 (by omega) (fun i i1 i2 => ⟨fun (q : False) => by omega, fun i3 (q : False) => by omega⟩)
  have q4_0 := (show _ ∧ _ ∧ _ from ⟨(c4.2.2.2.1 (h + 0) (by omega)).1.trans q3_0.1, (c4.2.2.2.1 (h + 0) (by omega)).2.1.trans q3_0.2.1, (c4.2.2.2.1 (h + 0) (by omega)).2.2.trans q3_0.2.2⟩)
  have u4 : (Z4.1 0 27).toInt = (h : Int) + 1 := by rw [t4]; omega
  have cc4 := cc3.tr (c4.mono (h1 := h) (S1 := fun i => lo ≤ i ∧ i < hi) (S01 := fun i => lo ≤ i ∧ i < hi ∧ i ≠ n) (by omega) (fun i (q : False) => q.elim) (fun i (q : False) => q.elim))
  obtain ⟨Z5, g5, c5, t5, d5, d5n, d5m⟩ := st_ord (r7 := r7) (a1 := a1) (show Top Z4 (h + 0) 25 nn 0 from ⟨by rw [u4]; omega, q4_0⟩) c4.2.1 (by omega) (by omega) (by decide) (fun _ => False) (fun _ => False)
  have f13 : OA Z5 (p2 + 1) 25 n := ⟨by rw [d5]; rfl, by rw [d5n]; exact hnn⟩
  have f14 : OA Z5 s 0 n := c5.oa f9 (by omega)
  have f15 : CX Z5 (ix (X0.1 23 n)) lo n sc (s + 1) p1 := f10.cs c5 (by omega) (fun i i1 i2 => ⟨fun (q : False) => by omega, fun i3 (q : False) => by omega⟩)
  have f16 : OA Z5 p1 5 (ix (X0.1 23 n)) := c5.oa f11 (by omega)
  have f17 : CX Z5 (ix (X0.1 24 n)) (n + 1) hi sc (p1 + 1) p2 := f12.cs c5 (by omega) (fun i i1 i2 => ⟨fun (q : False) => by omega, fun i3 (q : False) => by omega⟩)
  have f18 : OA Z5 p2 5 (ix (X0.1 24 n)) := c5.oa f8 (by omega)
  have u5 : (Z5.1 0 27).toInt = (h : Int) + 0 := by rw [t5]; omega
  have cc5 := cc4.tr (c5.mono (h1 := h) (S1 := fun i => lo ≤ i ∧ i < hi) (S01 := fun i => lo ≤ i ∧ i < hi ∧ i ≠ n) (by omega) (fun i (q : False) => q.elim) (fun i (q : False) => q.elim))
  have hFz : Fr YR [26, 27, 8000, 8200, 8400, 8600, 9000, 9200, 9400, 9600, 9800, 10000, 10200] X0 Z5 := ((((((hF.tr c0.1 (by decide)).tr c1.1 (by decide)).tr c2.1 (by decide)).tr c3.1 (by decide)).tr c4.1 (by decide)).tr c5.1 (by decide))
  have z20 : Z5.1 20 n = X0.1 20 n := hFz.1 20 n (show (4000 : Nat) ∉ [26, 27, 8000, 8200, 8400, 8600, 9000, 9200, 9400, 9600, 9800, 10000, 10200] from by decide)
  have z23 : Z5.1 23 n = X0.1 23 n := hFz.1 23 n (show (4600 : Nat) ∉ [26, 27, 8000, 8200, 8400, 8600, 9000, 9200, 9400, 9600, 9800, 10000, 10200] from by decide)
  have z24 : Z5.1 24 n = X0.1 24 n := hFz.1 24 n (show (4800 : Nat) ∉ [26, 27, 8000, 8200, 8400, 8600, 9000, 9200, 9400, 9600, 9800, 10000, 10200] from by decide)
  have z25 : Z5.1 25 n = X0.1 25 n := hFz.1 25 n (show (5000 : Nat) ∉ [26, 27, 8000, 8200, 8400, 8600, 9000, 9200, 9400, 9600, 9800, 10000, 10200] from by decide)
  have z26 : Z5.1 26 n = X0.1 26 n := hFz.1 26 n (show (5200 : Nat) ∉ [26, 27, 8000, 8200, 8400, 8600, 9000, 9200, 9400, 9600, 9800, 10000, 10200] from by decide)
  have z27 : Z5.1 27 n = X0.1 27 n := hFz.1 27 n (show (5400 : Nat) ∉ [26, 27, 8000, 8200, 8400, 8600, 9000, 9200, 9400, 9600, 9800, 10000, 10200] from by decide)
  refine ⟨1 + k1 + 1 + k3 + 1 + 1, ((p2 + 1) + 1), Z5, (((((g0.tr g1).tr g2).tr g3).tr g4).tr g5), by omega, cc5, by rw [u5]; omega, ?_, by omega⟩
  exact CX.intro ⟨by omega, by omega, by omega, f14, (Or.inr (Or.inr (Or.inr (Or.inl ⟨p1, p2, ⟨by rw [z23]; exact hA.1, by rw [z23]; exact f15⟩, (by rw [z23]; exact f16), ⟨by rw [z24]; exact hB.1, by rw [z24]; exact f17⟩, (by rw [z24]; exact f18), Or.inr ⟨(by rw [z20]; exact hk), f13⟩, rfl⟩))))⟩
set_option maxHeartbeats 4000000 in
theorem pc_5 {r7 : Int32 → St → Option (Int32 × St)} {a1 : Int32} {X0 : St} {n lo hi : Nat} {sc : Int} (hlo : lo ≤ n) (hhi0 : n < hi) (hk : (X0.1 20 n).toInt = 5) {m : Nat} (hl : n = lo) (hA : CHR (fun n lo hi sc => WX X0 n lo hi sc ∧ PC r7 a1 X0 n lo hi sc) X0 23 n (n + 1) m sc) (hB : CHR (fun n lo hi sc => WX X0 n lo hi sc ∧ PC r7 a1 X0 n lo hi sc) X0 24 n m hi sc) : PC r7 a1 X0 n lo hi sc := by
  intro X h s nn m0 hF hnn hhi ht hs hb hb2
  have hbA := hA.2.1.bd
  have hbB := hB.2.1.bd
  have en : ix nn = n := by
    have := ixc (z := nn) (by omega)
    omega
  have hin : inR nn 3100 := ⟨by omega, show nn.toInt < ((3100 : Nat) : Int) by omega⟩
  have e20 : X.1 20 n = X0.1 20 n := hF.1 20 n (show (4000 : Nat) ∉ [26, 27, 8000, 8200, 8400, 8600, 9000, 9200, 9400, 9600, 9800, 10000, 10200] from by decide)
  have e23 : X.1 23 n = X0.1 23 n := hF.1 23 n (show (4600 : Nat) ∉ [26, 27, 8000, 8200, 8400, 8600, 9000, 9200, 9400, 9600, 9800, 10000, 10200] from by decide)
  have e24 : X.1 24 n = X0.1 24 n := hF.1 24 n (show (4800 : Nat) ∉ [26, 27, 8000, 8200, 8400, 8600, 9000, 9200, 9400, 9600, 9800, 10000, 10200] from by decide)
  obtain ⟨Z0, g0, c0, t0, ⟨o0, o0n⟩, l0⟩ := st_40 (r7 := r7) (a1 := a1) (L := [(19, nn, 0), (40, (X0.1 24 n), 0), (5, (X0.1 23 n), 0), (40, (X0.1 23 n), 0)]) ht hs (by omega) (by omega) (fun W hW hw => by
    have q := tells_5 (X := W) (p1 := nn) hin (by rw [hW 20 ⟨by decide, by decide⟩, en, e20]; exact hk) (by omega)
    rw [hW 23 ⟨by decide, by decide⟩ (ix nn), hW 24 ⟨by decide, by decide⟩ (ix nn)] at q; rw [en, e23, e24] at q
    exact q) (fun _ => False) (fun _ => False)
  have f0 : OA Z0 s 0 n := ⟨by rw [o0]; rfl, by rw [o0n]; exact hnn⟩
  have q0_0 : Z0.1 48 (h + 0) = ((19, nn, 0) : Int32 × Int32 × Int32).1 ∧ Z0.1 49 (h + 0) = ((19, nn, 0) : Int32 × Int32 × Int32).2.1 ∧ Z0.1 50 (h + 0) = ((19, nn, 0) : Int32 × Int32 × Int32).2.2 := l0 0 (19, nn, 0) rfl
  have q0_1 : Z0.1 48 (h + 1) = ((40, (X0.1 24 n), 0) : Int32 × Int32 × Int32).1 ∧ Z0.1 49 (h + 1) = ((40, (X0.1 24 n), 0) : Int32 × Int32 × Int32).2.1 ∧ Z0.1 50 (h + 1) = ((40, (X0.1 24 n), 0) : Int32 × Int32 × Int32).2.2 := l0 1 (40, (X0.1 24 n), 0) rfl
  have q0_2 : Z0.1 48 (h + 2) = ((5, (X0.1 23 n), 0) : Int32 × Int32 × Int32).1 ∧ Z0.1 49 (h + 2) = ((5, (X0.1 23 n), 0) : Int32 × Int32 × Int32).2.1 ∧ Z0.1 50 (h + 2) = ((5, (X0.1 23 n), 0) : Int32 × Int32 × Int32).2.2 := l0 2 (5, (X0.1 23 n), 0) rfl
  have q0_3 : Z0.1 48 (h + 3) = ((40, (X0.1 23 n), 0) : Int32 × Int32 × Int32).1 ∧ Z0.1 49 (h + 3) = ((40, (X0.1 23 n), 0) : Int32 × Int32 × Int32).2.1 ∧ Z0.1 50 (h + 3) = ((40, (X0.1 23 n), 0) : Int32 × Int32 × Int32).2.2 := l0 3 (40, (X0.1 23 n), 0) rfl
  have u0 : (Z0.1 0 27).toInt = (h : Int) + 4 := by rw [t0]; rfl
  obtain ⟨k1, p1, Z1, g1, b1, c1, t1, x1, y1⟩ := hA.2.2 Z0 (h + 3) (s + 1) (X0.1 23 n) 0 (hF.tr c0.1 (by decide)) (ixc hA.1).symm (by omega) ⟨by rw [u0]; omega, q0_3⟩ c0.2.1 (by omega) (by omega)
  have bx1 := x1.bd
  have f1 : OA Z1 s 0 n := c1.oa f0 (by omega)
  have q1_0 := (show _ ∧ _ ∧ _ from ⟨(c1.2.2.2.1 (h + 0) (by omega)).1.trans q0_0.1, (c1.2.2.2.1 (h + 0) (by omega)).2.1.trans q0_0.2.1, (c1.2.2.2.1 (h + 0) (by omega)).2.2.trans q0_0.2.2⟩)
  have q1_1 := (show _ ∧ _ ∧ _ from ⟨(c1.2.2.2.1 (h + 1) (by omega)).1.trans q0_1.1, (c1.2.2.2.1 (h + 1) (by omega)).2.1.trans q0_1.2.1, (c1.2.2.2.1 (h + 1) (by omega)).2.2.trans q0_1.2.2⟩)
  have q1_2 := (show _ ∧ _ ∧ _ from ⟨(c1.2.2.2.1 (h + 2) (by omega)).1.trans q0_2.1, (c1.2.2.2.1 (h + 2) (by omega)).2.1.trans q0_2.2.1, (c1.2.2.2.1 (h + 2) (by omega)).2.2.trans q0_2.2.2⟩)
  have u1 : (Z1.1 0 27).toInt = (h : Int) + 3 := by rw [t1]; omega
  have cc1 := (c0.mono (h1 := h) (S1 := fun i => lo ≤ i ∧ i < hi) (S01 := fun i => lo ≤ i ∧ i < hi ∧ i ≠ n) (by omega) (fun i q => q.elim) (fun i q => q.elim)).tr (c1.mono (h1 := h) (S1 := fun i => lo ≤ i ∧ i < hi) (S01 := fun i => lo ≤ i ∧ i < hi ∧ i ≠ n) (by omega) (fun i (q : ((n + 1) ≤ i ∧ i < m)) => (⟨by omega, by omega⟩ : lo ≤ i ∧ i < hi)) (fun i (q : ((n + 1) ≤ i ∧ i < m ∧ i ≠ ix (X0.1 23 n))) => (⟨by omega, by omega, by omega⟩ : lo ≤ i ∧ i < hi ∧ i ≠ n)))
  obtain ⟨Z2, g2, c2, t2, d2, d2n, d2m⟩ := st_ord (r7 := r7) (a1 := a1) (show Top Z1 (h + 2) 5 (X0.1 23 n) 0 from ⟨by rw [u1]; omega, q1_2⟩) c1.2.1 (by omega) (by omega) (by decide) (fun _ => False) (fun _ => False)
  have f2 : OA Z2 p1 5 (ix (X0.1 23 n)) := ⟨by rw [d2]; rfl, by rw [d2n]; exact (ixc hA.1).symm⟩
  have f3 : OA Z2 s 0 n := c2.oa f1 (by omega)
  have f4 : CX Z2 (ix (X0.1 23 n)) (n + 1) m sc (s + 1) p1 := x1.cs c2 (by omega) (fun i i1 i2 => ⟨fun (q : False) => by omega, fun i3 (q : False) => by omega⟩)
  have q2_0 := (show _ ∧ _ ∧ _ from ⟨(c2.2.2.2.1 (h + 0) (by omega)).1.trans q1_0.1, (c2.2.2.2.1 (h + 0) (by omega)).2.1.trans q1_0.2.1, (c2.2.2.2.1 (h + 0) (by omega)).2.2.trans q1_0.2.2⟩)
  have q2_1 := (show _ ∧ _ ∧ _ from ⟨(c2.2.2.2.1 (h + 1) (by omega)).1.trans q1_1.1, (c2.2.2.2.1 (h + 1) (by omega)).2.1.trans q1_1.2.1, (c2.2.2.2.1 (h + 1) (by omega)).2.2.trans q1_1.2.2⟩)
  have u2 : (Z2.1 0 27).toInt = (h : Int) + 2 := by rw [t2]; omega
  have cc2 := cc1.tr (c2.mono (h1 := h) (S1 := fun i => lo ≤ i ∧ i < hi) (S01 := fun i => lo ≤ i ∧ i < hi ∧ i ≠ n) (by omega) (fun i (q : False) => q.elim) (fun i (q : False) => q.elim))
  obtain ⟨k3, p2, Z3, g3, b3, c3, t3, x3, y3⟩ := hB.2.2 Z2 (h + 1) (p1 + 1) (X0.1 24 n) 0 (((hF.tr c0.1 (by decide)).tr c1.1 (by decide)).tr c2.1 (by decide)) (ixc hB.1).symm (by omega) ⟨by rw [u2]; omega, q2_1⟩ c2.2.1 (by omega) (by omega)
  have bx3 := x3.bd
  have f5 : OA Z3 s 0 n := c3.oa f3 (by omega)
  have f6 : CX Z3 (ix (X0.1 23 n)) (n + 1) m sc (s + 1) p1 := f4.cs c3 (by omega) (fun i i1 i2 => ⟨fun (q : (m ≤ i ∧ i < hi)) => by omega, fun i3 (q : (m ≤ i ∧ i < hi ∧ i ≠ ix (X0.1 24 n))) => by omega⟩)
  have f7 : OA Z3 p1 5 (ix (X0.1 23 n)) := c3.oa f2 (by omega)
  have q3_0 := (show _ ∧ _ ∧ _ from ⟨(c3.2.2.2.1 (h + 0) (by omega)).1.trans q2_0.1, (c3.2.2.2.1 (h + 0) (by omega)).2.1.trans q2_0.2.1, (c3.2.2.2.1 (h + 0) (by omega)).2.2.trans q2_0.2.2⟩)
  have u3 : (Z3.1 0 27).toInt = (h : Int) + 1 := by rw [t3]; omega
  have cc3 := cc2.tr (c3.mono (h1 := h) (S1 := fun i => lo ≤ i ∧ i < hi) (S01 := fun i => lo ≤ i ∧ i < hi ∧ i ≠ n) (by omega) (fun i (q : (m ≤ i ∧ i < hi)) => (⟨by omega, by omega⟩ : lo ≤ i ∧ i < hi)) (fun i (q : (m ≤ i ∧ i < hi ∧ i ≠ ix (X0.1 24 n))) => (⟨by omega, by omega, by omega⟩ : lo ≤ i ∧ i < hi ∧ i ≠ n)))
  obtain ⟨Z4, g4, c4, t4, d4, d4n, d4m⟩ := st_ord (r7 := r7) (a1 := a1) (show Top Z3 (h + 0) 19 nn 0 from ⟨by rw [u3]; omega, q3_0⟩) c3.2.1 (by omega) (by omega) (by decide) (fun _ => False) (fun _ => False)
  have f8 : OA Z4 p2 19 n := ⟨by rw [d4]; rfl, by rw [d4n]; exact hnn⟩
  have f9 : OA Z4 s 0 n := c4.oa f5 (by omega)
  have f10 : CX Z4 (ix (X0.1 23 n)) (n + 1) m sc (s + 1) p1 := f6.cs c4 (by omega) (fun i i1 i2 => ⟨fun (q : False) => by omega, fun i3 (q : False) => by omega⟩)
  have f11 : OA Z4 p1 5 (ix (X0.1 23 n)) := c4.oa f7 (by omega)
  have f12 : CX Z4 (ix (X0.1 24 n)) m hi sc (p1 + 1) p2 := x3.cs c4 (by omega) (fun i i1 i2 => ⟨fun (q : False) => by omega, fun i3 (q : False) => by omega⟩)
  have u4 : (Z4.1 0 27).toInt = (h : Int) + 0 := by rw [t4]; omega
  have cc4 := cc3.tr (c4.mono (h1 := h) (S1 := fun i => lo ≤ i ∧ i < hi) (S01 := fun i => lo ≤ i ∧ i < hi ∧ i ≠ n) (by omega) (fun i (q : False) => q.elim) (fun i (q : False) => q.elim))
  have hFz : Fr YR [26, 27, 8000, 8200, 8400, 8600, 9000, 9200, 9400, 9600, 9800, 10000, 10200] X0 Z4 := (((((hF.tr c0.1 (by decide)).tr c1.1 (by decide)).tr c2.1 (by decide)).tr c3.1 (by decide)).tr c4.1 (by decide))
  have z20 : Z4.1 20 n = X0.1 20 n := hFz.1 20 n (show (4000 : Nat) ∉ [26, 27, 8000, 8200, 8400, 8600, 9000, 9200, 9400, 9600, 9800, 10000, 10200] from by decide)
  have z23 : Z4.1 23 n = X0.1 23 n := hFz.1 23 n (show (4600 : Nat) ∉ [26, 27, 8000, 8200, 8400, 8600, 9000, 9200, 9400, 9600, 9800, 10000, 10200] from by decide)
  have z24 : Z4.1 24 n = X0.1 24 n := hFz.1 24 n (show (4800 : Nat) ∉ [26, 27, 8000, 8200, 8400, 8600, 9000, 9200, 9400, 9600, 9800, 10000, 10200] from by decide)
  have z25 : Z4.1 25 n = X0.1 25 n := hFz.1 25 n (show (5000 : Nat) ∉ [26, 27, 8000, 8200, 8400, 8600, 9000, 9200, 9400, 9600, 9800, 10000, 10200] from by decide)
  have z26 : Z4.1 26 n = X0.1 26 n := hFz.1 26 n (show (5200 : Nat) ∉ [26, 27, 8000, 8200, 8400, 8600, 9000, 9200, 9400, 9600, 9800, 10000, 10200] from by decide)
  have z27 : Z4.1 27 n = X0.1 27 n := hFz.1 27 n (show (5400 : Nat) ∉ [26, 27, 8000, 8200, 8400, 8600, 9000, 9200, 9400, 9600, 9800, 10000, 10200] from by decide)
  refine ⟨1 + k1 + 1 + k3 + 1, (p2 + 1), Z4, ((((g0.tr g1).tr g2).tr g3).tr g4), by omega, cc4, by rw [u4]; omega, ?_, by omega⟩
  exact CX.intro ⟨by omega, by omega, by omega, f9, (Or.inr (Or.inr (Or.inr (Or.inr (Or.inl ⟨hl, (by rw [z20]; exact hk), m, p1, p2, ⟨by rw [z23]; exact hA.1, by rw [z23]; exact f10⟩, (by rw [z23]; exact f11), ⟨by rw [z24]; exact hB.1, by rw [z24]; exact f12⟩, f8, rfl⟩)))))⟩
set_option maxHeartbeats 4000000 in
theorem pc_10 {r7 : Int32 → St → Option (Int32 × St)} {a1 : Int32} {X0 : St} {n lo hi : Nat} {sc : Int} (hlo : lo ≤ n) (hhi0 : n < hi) (hk : (X0.1 20 n).toInt = 10) (hA : CHR (fun n lo hi sc => WX X0 n lo hi sc ∧ PC r7 a1 X0 n lo hi sc) X0 23 n lo n sc) (hB : CHR (fun n lo hi sc => WX X0 n lo hi sc ∧ PC r7 a1 X0 n lo hi sc) X0 24 n (n + 1) hi sc) (hc : (X0.1 25 n).toInt < 0) : PC r7 a1 X0 n lo hi sc := by
  intro X h s nn m0 hF hnn hhi ht hs hb hb2
  have hbA := hA.2.1.bd
  have hbB := hB.2.1.bd
  have e25 : X.1 25 n = X0.1 25 n := hF.1 25 n (show (5000 : Nat) ∉ [26, 27, 8000, 8200, 8400, 8600, 9000, 9200, 9400, 9600, 9800, 10000, 10200] from by decide)
  have en : ix nn = n := by
    have := ixc (z := nn) (by omega)
    omega
  have hin : inR nn 3100 := ⟨by omega, show nn.toInt < ((3100 : Nat) : Int) by omega⟩
  have e20 : X.1 20 n = X0.1 20 n := hF.1 20 n (show (4000 : Nat) ∉ [26, 27, 8000, 8200, 8400, 8600, 9000, 9200, 9400, 9600, 9800, 10000, 10200] from by decide)
  have e23 : X.1 23 n = X0.1 23 n := hF.1 23 n (show (4600 : Nat) ∉ [26, 27, 8000, 8200, 8400, 8600, 9000, 9200, 9400, 9600, 9800, 10000, 10200] from by decide)
  have e24 : X.1 24 n = X0.1 24 n := hF.1 24 n (show (4800 : Nat) ∉ [26, 27, 8000, 8200, 8400, 8600, 9000, 9200, 9400, 9600, 9800, 10000, 10200] from by decide)
  obtain ⟨Z0, g0, c0, t0, ⟨o0, o0n⟩, l0⟩ := st_40 (r7 := r7) (a1 := a1) (L := [(26, nn, 0), (5, (X0.1 24 n), 0), (40, (X0.1 24 n), 0), (8, nn, 0), (40, (X0.1 23 n), 0)]) ht hs (by omega) (by omega) (fun W hW hw => by
    have q := tells_10 (X := W) (p1 := nn) hin (by rw [hW 20 ⟨by decide, by decide⟩, en, e20]; exact hk) (by rw [hW 25 ⟨by decide, by decide⟩, en, e25]; exact hc) (by omega)
    rw [hW 23 ⟨by decide, by decide⟩ (ix nn), hW 24 ⟨by decide, by decide⟩ (ix nn)] at q; rw [en, e23, e24] at q
    exact q) (fun _ => False) (fun _ => False)
  have f0 : OA Z0 s 0 n := ⟨by rw [o0]; rfl, by rw [o0n]; exact hnn⟩
  have q0_0 : Z0.1 48 (h + 0) = ((26, nn, 0) : Int32 × Int32 × Int32).1 ∧ Z0.1 49 (h + 0) = ((26, nn, 0) : Int32 × Int32 × Int32).2.1 ∧ Z0.1 50 (h + 0) = ((26, nn, 0) : Int32 × Int32 × Int32).2.2 := l0 0 (26, nn, 0) rfl
  have q0_1 : Z0.1 48 (h + 1) = ((5, (X0.1 24 n), 0) : Int32 × Int32 × Int32).1 ∧ Z0.1 49 (h + 1) = ((5, (X0.1 24 n), 0) : Int32 × Int32 × Int32).2.1 ∧ Z0.1 50 (h + 1) = ((5, (X0.1 24 n), 0) : Int32 × Int32 × Int32).2.2 := l0 1 (5, (X0.1 24 n), 0) rfl
  have q0_2 : Z0.1 48 (h + 2) = ((40, (X0.1 24 n), 0) : Int32 × Int32 × Int32).1 ∧ Z0.1 49 (h + 2) = ((40, (X0.1 24 n), 0) : Int32 × Int32 × Int32).2.1 ∧ Z0.1 50 (h + 2) = ((40, (X0.1 24 n), 0) : Int32 × Int32 × Int32).2.2 := l0 2 (40, (X0.1 24 n), 0) rfl
  have q0_3 : Z0.1 48 (h + 3) = ((8, nn, 0) : Int32 × Int32 × Int32).1 ∧ Z0.1 49 (h + 3) = ((8, nn, 0) : Int32 × Int32 × Int32).2.1 ∧ Z0.1 50 (h + 3) = ((8, nn, 0) : Int32 × Int32 × Int32).2.2 := l0 3 (8, nn, 0) rfl
  have q0_4 : Z0.1 48 (h + 4) = ((40, (X0.1 23 n), 0) : Int32 × Int32 × Int32).1 ∧ Z0.1 49 (h + 4) = ((40, (X0.1 23 n), 0) : Int32 × Int32 × Int32).2.1 ∧ Z0.1 50 (h + 4) = ((40, (X0.1 23 n), 0) : Int32 × Int32 × Int32).2.2 := l0 4 (40, (X0.1 23 n), 0) rfl
  have u0 : (Z0.1 0 27).toInt = (h : Int) + 5 := by rw [t0]; rfl
  obtain ⟨k1, p1, Z1, g1, b1, c1, t1, x1, y1⟩ := hA.2.2 Z0 (h + 4) (s + 1) (X0.1 23 n) 0 (hF.tr c0.1 (by decide)) (ixc hA.1).symm (by omega) ⟨by rw [u0]; omega, q0_4⟩ c0.2.1 (by omega) (by omega)
  have bx1 := x1.bd
  have f1 : OA Z1 s 0 n := c1.oa f0 (by omega)
  have q1_0 := (show _ ∧ _ ∧ _ from ⟨(c1.2.2.2.1 (h + 0) (by omega)).1.trans q0_0.1, (c1.2.2.2.1 (h + 0) (by omega)).2.1.trans q0_0.2.1, (c1.2.2.2.1 (h + 0) (by omega)).2.2.trans q0_0.2.2⟩)
  have q1_1 := (show _ ∧ _ ∧ _ from ⟨(c1.2.2.2.1 (h + 1) (by omega)).1.trans q0_1.1, (c1.2.2.2.1 (h + 1) (by omega)).2.1.trans q0_1.2.1, (c1.2.2.2.1 (h + 1) (by omega)).2.2.trans q0_1.2.2⟩)
  have q1_2 := (show _ ∧ _ ∧ _ from ⟨(c1.2.2.2.1 (h + 2) (by omega)).1.trans q0_2.1, (c1.2.2.2.1 (h + 2) (by omega)).2.1.trans q0_2.2.1, (c1.2.2.2.1 (h + 2) (by omega)).2.2.trans q0_2.2.2⟩)
  have q1_3 := (show _ ∧ _ ∧ _ from ⟨(c1.2.2.2.1 (h + 3) (by omega)).1.trans q0_3.1, (c1.2.2.2.1 (h + 3) (by omega)).2.1.trans q0_3.2.1, (c1.2.2.2.1 (h + 3) (by omega)).2.2.trans q0_3.2.2⟩)
  have u1 : (Z1.1 0 27).toInt = (h : Int) + 4 := by rw [t1]; omega
  have cc1 := (c0.mono (h1 := h) (S1 := fun i => lo ≤ i ∧ i < hi) (S01 := fun i => lo ≤ i ∧ i < hi ∧ i ≠ n) (by omega) (fun i q => q.elim) (fun i q => q.elim)).tr (c1.mono (h1 := h) (S1 := fun i => lo ≤ i ∧ i < hi) (S01 := fun i => lo ≤ i ∧ i < hi ∧ i ≠ n) (by omega) (fun i (q : (lo ≤ i ∧ i < n)) => (⟨by omega, by omega⟩ : lo ≤ i ∧ i < hi)) (fun i (q : (lo ≤ i ∧ i < n ∧ i ≠ ix (X0.1 23 n))) => (⟨by omega, by omega, by omega⟩ : lo ≤ i ∧ i < hi ∧ i ≠ n)))
  obtain ⟨Z2, g2, c2, t2, d2, d2n, d2m⟩ := st_ord (r7 := r7) (a1 := a1) (show Top Z1 (h + 3) 8 nn 0 from ⟨by rw [u1]; omega, q1_3⟩) c1.2.1 (by omega) (by omega) (by decide) (fun _ => False) (fun _ => False)
  have f2 : OA Z2 p1 8 n := ⟨by rw [d2]; rfl, by rw [d2n]; exact hnn⟩
  have f3 : OA Z2 s 0 n := c2.oa f1 (by omega)
  have f4 : CX Z2 (ix (X0.1 23 n)) lo n sc (s + 1) p1 := x1.cs c2 (by omega) (fun i i1 i2 => ⟨fun (q : False) => by omega, fun i3 (q : False) => by omega⟩)
  have q2_0 := (show _ ∧ _ ∧ _ from ⟨(c2.2.2.2.1 (h + 0) (by omega)).1.trans q1_0.1, (c2.2.2.2.1 (h + 0) (by omega)).2.1.trans q1_0.2.1, (c2.2.2.2.1 (h + 0) (by omega)).2.2.trans q1_0.2.2⟩)
  have q2_1 := (show _ ∧ _ ∧ _ from ⟨(c2.2.2.2.1 (h + 1) (by omega)).1.trans q1_1.1, (c2.2.2.2.1 (h + 1) (by omega)).2.1.trans q1_1.2.1, (c2.2.2.2.1 (h + 1) (by omega)).2.2.trans q1_1.2.2⟩)
  have q2_2 := (show _ ∧ _ ∧ _ from ⟨(c2.2.2.2.1 (h + 2) (by omega)).1.trans q1_2.1, (c2.2.2.2.1 (h + 2) (by omega)).2.1.trans q1_2.2.1, (c2.2.2.2.1 (h + 2) (by omega)).2.2.trans q1_2.2.2⟩)
  have u2 : (Z2.1 0 27).toInt = (h : Int) + 3 := by rw [t2]; omega
  have cc2 := cc1.tr (c2.mono (h1 := h) (S1 := fun i => lo ≤ i ∧ i < hi) (S01 := fun i => lo ≤ i ∧ i < hi ∧ i ≠ n) (by omega) (fun i (q : False) => q.elim) (fun i (q : False) => q.elim))
  obtain ⟨k3, p2, Z3, g3, b3, c3, t3, x3, y3⟩ := hB.2.2 Z2 (h + 2) (p1 + 1) (X0.1 24 n) 0 (((hF.tr c0.1 (by decide)).tr c1.1 (by decide)).tr c2.1 (by decide)) (ixc hB.1).symm (by omega) ⟨by rw [u2]; omega, q2_2⟩ c2.2.1 (by omega) (by omega)
  have bx3 := x3.bd
  have f5 : OA Z3 s 0 n := c3.oa f3 (by omega)
  have f6 : CX Z3 (ix (X0.1 23 n)) lo n sc (s + 1) p1 := f4.cs c3 (by omega) (fun i i1 i2 => ⟨fun (q : ((n + 1) ≤ i ∧ i < hi)) => by omega, fun i3 (q : ((n + 1) ≤ i ∧ i < hi ∧ i ≠ ix (X0.1 24 n))) => by omega⟩)
  have f7 : OA Z3 p1 8 n := c3.oa f2 (by omega)
  have q3_0 := (show _ ∧ _ ∧ _ from ⟨(c3.2.2.2.1 (h + 0) (by omega)).1.trans q2_0.1, (c3.2.2.2.1 (h + 0) (by omega)).2.1.trans q2_0.2.1, (c3.2.2.2.1 (h + 0) (by omega)).2.2.trans q2_0.2.2⟩)
  have q3_1 := (show _ ∧ _ ∧ _ from ⟨(c3.2.2.2.1 (h + 1) (by omega)).1.trans q2_1.1, (c3.2.2.2.1 (h + 1) (by omega)).2.1.trans q2_1.2.1, (c3.2.2.2.1 (h + 1) (by omega)).2.2.trans q2_1.2.2⟩)
  have u3 : (Z3.1 0 27).toInt = (h : Int) + 2 := by rw [t3]; omega
  have cc3 := cc2.tr (c3.mono (h1 := h) (S1 := fun i => lo ≤ i ∧ i < hi) (S01 := fun i => lo ≤ i ∧ i < hi ∧ i ≠ n) (by omega) (fun i (q : ((n + 1) ≤ i ∧ i < hi)) => (⟨by omega, by omega⟩ : lo ≤ i ∧ i < hi)) (fun i (q : ((n + 1) ≤ i ∧ i < hi ∧ i ≠ ix (X0.1 24 n))) => (⟨by omega, by omega, by omega⟩ : lo ≤ i ∧ i < hi ∧ i ≠ n)))
  obtain ⟨Z4, g4, c4, t4, d4, d4n, d4m⟩ := st_ord (r7 := r7) (a1 := a1) (show Top Z3 (h + 1) 5 (X0.1 24 n) 0 from ⟨by rw [u3]; omega, q3_1⟩) c3.2.1 (by omega) (by omega) (by decide) (fun _ => False) (fun _ => False)
  have f8 : OA Z4 p2 5 (ix (X0.1 24 n)) := ⟨by rw [d4]; rfl, by rw [d4n]; exact (ixc hB.1).symm⟩
  have f9 : OA Z4 s 0 n := c4.oa f5 (by omega)
  have f10 : CX Z4 (ix (X0.1 23 n)) lo n sc (s + 1) p1 := f6.cs c4 (by omega) (fun i i1 i2 => ⟨fun (q : False) => by omega, fun i3 (q : False) => by omega⟩)
  have f11 : OA Z4 p1 8 n := c4.oa f7 (by omega)
  have f12 : CX Z4 (ix (X0.1 24 n)) (n + 1) hi sc (p1 + 1) p2 := x3.cs c4 (by omega) (fun i i1 i2 => ⟨fun (q : False) => by omega, fun i3 (q : False) => by omega⟩)
  have q4_0 := (show _ ∧ _ ∧ _ from ⟨(c4.2.2.2.1 (h + 0) (by omega)).1.trans q3_0.1, (c4.2.2.2.1 (h + 0) (by omega)).2.1.trans q3_0.2.1, (c4.2.2.2.1 (h + 0) (by omega)).2.2.trans q3_0.2.2⟩)
  have u4 : (Z4.1 0 27).toInt = (h : Int) + 1 := by rw [t4]; omega
  have cc4 := cc3.tr (c4.mono (h1 := h) (S1 := fun i => lo ≤ i ∧ i < hi) (S01 := fun i => lo ≤ i ∧ i < hi ∧ i ≠ n) (by omega) (fun i (q : False) => q.elim) (fun i (q : False) => q.elim))
  obtain ⟨Z5, g5, c5, t5, d5, d5n, d5m⟩ := st_ord (r7 := r7) (a1 := a1) (show Top Z4 (h + 0) 26 nn 0 from ⟨by rw [u4]; omega, q4_0⟩) c4.2.1 (by omega) (by omega) (by decide) (fun _ => False) (fun _ => False)
  have f13 : OA Z5 (p2 + 1) 26 n := ⟨by rw [d5]; rfl, by rw [d5n]; exact hnn⟩
  have f14 : OA Z5 s 0 n := c5.oa f9 (by omega)
  have f15 : CX Z5 (ix (X0.1 23 n)) lo n sc (s + 1) p1 := f10.cs c5 (by omega) (fun i i1 i2 => ⟨fun (q : False) => by omega, fun i3 (q : False) => by omega⟩)
  have f16 : OA Z5 p1 8 n := c5.oa f11 (by omega)
  have f17 : CX Z5 (ix (X0.1 24 n)) (n + 1) hi sc (p1 + 1) p2 := f12.cs c5 (by omega) (fun i i1 i2 => ⟨fun (q : False) => by omega, fun i3 (q : False) => by omega⟩)
  have f18 : OA Z5 p2 5 (ix (X0.1 24 n)) := c5.oa f8 (by omega)
  have u5 : (Z5.1 0 27).toInt = (h : Int) + 0 := by rw [t5]; omega
  have cc5 := cc4.tr (c5.mono (h1 := h) (S1 := fun i => lo ≤ i ∧ i < hi) (S01 := fun i => lo ≤ i ∧ i < hi ∧ i ≠ n) (by omega) (fun i (q : False) => q.elim) (fun i (q : False) => q.elim))
  have hFz : Fr YR [26, 27, 8000, 8200, 8400, 8600, 9000, 9200, 9400, 9600, 9800, 10000, 10200] X0 Z5 := ((((((hF.tr c0.1 (by decide)).tr c1.1 (by decide)).tr c2.1 (by decide)).tr c3.1 (by decide)).tr c4.1 (by decide)).tr c5.1 (by decide))
  have z20 : Z5.1 20 n = X0.1 20 n := hFz.1 20 n (show (4000 : Nat) ∉ [26, 27, 8000, 8200, 8400, 8600, 9000, 9200, 9400, 9600, 9800, 10000, 10200] from by decide)
  have z23 : Z5.1 23 n = X0.1 23 n := hFz.1 23 n (show (4600 : Nat) ∉ [26, 27, 8000, 8200, 8400, 8600, 9000, 9200, 9400, 9600, 9800, 10000, 10200] from by decide)
  have z24 : Z5.1 24 n = X0.1 24 n := hFz.1 24 n (show (4800 : Nat) ∉ [26, 27, 8000, 8200, 8400, 8600, 9000, 9200, 9400, 9600, 9800, 10000, 10200] from by decide)
  have z25 : Z5.1 25 n = X0.1 25 n := hFz.1 25 n (show (5000 : Nat) ∉ [26, 27, 8000, 8200, 8400, 8600, 9000, 9200, 9400, 9600, 9800, 10000, 10200] from by decide)
  have z26 : Z5.1 26 n = X0.1 26 n := hFz.1 26 n (show (5200 : Nat) ∉ [26, 27, 8000, 8200, 8400, 8600, 9000, 9200, 9400, 9600, 9800, 10000, 10200] from by decide)
  have z27 : Z5.1 27 n = X0.1 27 n := hFz.1 27 n (show (5400 : Nat) ∉ [26, 27, 8000, 8200, 8400, 8600, 9000, 9200, 9400, 9600, 9800, 10000, 10200] from by decide)
  refine ⟨1 + k1 + 1 + k3 + 1 + 1, ((p2 + 1) + 1), Z5, (((((g0.tr g1).tr g2).tr g3).tr g4).tr g5), by omega, cc5, by rw [u5]; omega, ?_, by omega⟩
  exact CX.intro ⟨by omega, by omega, by omega, f14, (Or.inr (Or.inr (Or.inr (Or.inr (Or.inr (Or.inl ⟨(by rw [z20]; exact hk), by rw [z25]; exact hc, p1, p2, ⟨by rw [z23]; exact hA.1, by rw [z23]; exact f15⟩, f16, ⟨by rw [z24]; exact hB.1, by rw [z24]; exact f17⟩, (by rw [z24]; exact f18), f13, rfl⟩))))))⟩
set_option maxHeartbeats 4000000 in
theorem pc_10w {r7 : Int32 → St → Option (Int32 × St)} {a1 : Int32} {X0 : St} {n lo hi : Nat} {sc : Int} (hlo : lo ≤ n) (hhi0 : n < hi) (hk : (X0.1 20 n).toInt = 10) {m : Nat} (hA : CHR (fun n lo hi sc => WX X0 n lo hi sc ∧ PC r7 a1 X0 n lo hi sc) X0 23 n lo n sc) (hB : CHR (fun n lo hi sc => WX X0 n lo hi sc ∧ PC r7 a1 X0 n lo hi sc) X0 24 n (n + 1) m sc) (hC : CHR (fun n lo hi sc => WX X0 n lo hi sc ∧ PC r7 a1 X0 n lo hi sc) X0 25 n m hi sc) : PC r7 a1 X0 n lo hi sc := by
  intro X h s nn m0 hF hnn hhi ht hs hb hb2
  have hbA := hA.2.1.bd
  have hbB := hB.2.1.bd
  have hbC := hC.2.1.bd
  have en : ix nn = n := by
    have := ixc (z := nn) (by omega)
    omega
  have hin : inR nn 3100 := ⟨by omega, show nn.toInt < ((3100 : Nat) : Int) by omega⟩
  have e20 : X.1 20 n = X0.1 20 n := hF.1 20 n (show (4000 : Nat) ∉ [26, 27, 8000, 8200, 8400, 8600, 9000, 9200, 9400, 9600, 9800, 10000, 10200] from by decide)
  have e23 : X.1 23 n = X0.1 23 n := hF.1 23 n (show (4600 : Nat) ∉ [26, 27, 8000, 8200, 8400, 8600, 9000, 9200, 9400, 9600, 9800, 10000, 10200] from by decide)
  have e24 : X.1 24 n = X0.1 24 n := hF.1 24 n (show (4800 : Nat) ∉ [26, 27, 8000, 8200, 8400, 8600, 9000, 9200, 9400, 9600, 9800, 10000, 10200] from by decide)
  have e25 : X.1 25 n = X0.1 25 n := hF.1 25 n (show (5000 : Nat) ∉ [26, 27, 8000, 8200, 8400, 8600, 9000, 9200, 9400, 9600, 9800, 10000, 10200] from by decide)
  obtain ⟨Z0, g0, c0, t0, ⟨o0, o0n⟩, l0⟩ := st_40 (r7 := r7) (a1 := a1) (L := [(27, nn, 0), (11, nn, 0), (40, (X0.1 25 n), 0), (5, (X0.1 24 n), 0), (40, (X0.1 24 n), 0), (8, nn, 0), (40, (X0.1 23 n), 0)]) ht hs (by omega) (by omega) (fun W hW hw => by
    have q := tells_10w (X := W) (p1 := nn) hin (by rw [hW 20 ⟨by decide, by decide⟩, en, e20]; exact hk) (by rw [hW 25 ⟨by decide, by decide⟩, en, e25]; exact hC.1) (by omega)
    rw [hW 23 ⟨by decide, by decide⟩ (ix nn), hW 24 ⟨by decide, by decide⟩ (ix nn), hW 25 ⟨by decide, by decide⟩ (ix nn)] at q; rw [en, e23, e24, e25] at q
    exact q) (fun _ => False) (fun _ => False)
  have f0 : OA Z0 s 0 n := ⟨by rw [o0]; rfl, by rw [o0n]; exact hnn⟩
  have q0_0 : Z0.1 48 (h + 0) = ((27, nn, 0) : Int32 × Int32 × Int32).1 ∧ Z0.1 49 (h + 0) = ((27, nn, 0) : Int32 × Int32 × Int32).2.1 ∧ Z0.1 50 (h + 0) = ((27, nn, 0) : Int32 × Int32 × Int32).2.2 := l0 0 (27, nn, 0) rfl
  have q0_1 : Z0.1 48 (h + 1) = ((11, nn, 0) : Int32 × Int32 × Int32).1 ∧ Z0.1 49 (h + 1) = ((11, nn, 0) : Int32 × Int32 × Int32).2.1 ∧ Z0.1 50 (h + 1) = ((11, nn, 0) : Int32 × Int32 × Int32).2.2 := l0 1 (11, nn, 0) rfl
  have q0_2 : Z0.1 48 (h + 2) = ((40, (X0.1 25 n), 0) : Int32 × Int32 × Int32).1 ∧ Z0.1 49 (h + 2) = ((40, (X0.1 25 n), 0) : Int32 × Int32 × Int32).2.1 ∧ Z0.1 50 (h + 2) = ((40, (X0.1 25 n), 0) : Int32 × Int32 × Int32).2.2 := l0 2 (40, (X0.1 25 n), 0) rfl
  have q0_3 : Z0.1 48 (h + 3) = ((5, (X0.1 24 n), 0) : Int32 × Int32 × Int32).1 ∧ Z0.1 49 (h + 3) = ((5, (X0.1 24 n), 0) : Int32 × Int32 × Int32).2.1 ∧ Z0.1 50 (h + 3) = ((5, (X0.1 24 n), 0) : Int32 × Int32 × Int32).2.2 := l0 3 (5, (X0.1 24 n), 0) rfl
  have q0_4 : Z0.1 48 (h + 4) = ((40, (X0.1 24 n), 0) : Int32 × Int32 × Int32).1 ∧ Z0.1 49 (h + 4) = ((40, (X0.1 24 n), 0) : Int32 × Int32 × Int32).2.1 ∧ Z0.1 50 (h + 4) = ((40, (X0.1 24 n), 0) : Int32 × Int32 × Int32).2.2 := l0 4 (40, (X0.1 24 n), 0) rfl
  have q0_5 : Z0.1 48 (h + 5) = ((8, nn, 0) : Int32 × Int32 × Int32).1 ∧ Z0.1 49 (h + 5) = ((8, nn, 0) : Int32 × Int32 × Int32).2.1 ∧ Z0.1 50 (h + 5) = ((8, nn, 0) : Int32 × Int32 × Int32).2.2 := l0 5 (8, nn, 0) rfl
  have q0_6 : Z0.1 48 (h + 6) = ((40, (X0.1 23 n), 0) : Int32 × Int32 × Int32).1 ∧ Z0.1 49 (h + 6) = ((40, (X0.1 23 n), 0) : Int32 × Int32 × Int32).2.1 ∧ Z0.1 50 (h + 6) = ((40, (X0.1 23 n), 0) : Int32 × Int32 × Int32).2.2 := l0 6 (40, (X0.1 23 n), 0) rfl
  have u0 : (Z0.1 0 27).toInt = (h : Int) + 7 := by rw [t0]; rfl
  obtain ⟨k1, p1, Z1, g1, b1, c1, t1, x1, y1⟩ := hA.2.2 Z0 (h + 6) (s + 1) (X0.1 23 n) 0 (hF.tr c0.1 (by decide)) (ixc hA.1).symm (by omega) ⟨by rw [u0]; omega, q0_6⟩ c0.2.1 (by omega) (by omega)
  have bx1 := x1.bd
  have f1 : OA Z1 s 0 n := c1.oa f0 (by omega)
  have q1_0 := (show _ ∧ _ ∧ _ from ⟨(c1.2.2.2.1 (h + 0) (by omega)).1.trans q0_0.1, (c1.2.2.2.1 (h + 0) (by omega)).2.1.trans q0_0.2.1, (c1.2.2.2.1 (h + 0) (by omega)).2.2.trans q0_0.2.2⟩)
  have q1_1 := (show _ ∧ _ ∧ _ from ⟨(c1.2.2.2.1 (h + 1) (by omega)).1.trans q0_1.1, (c1.2.2.2.1 (h + 1) (by omega)).2.1.trans q0_1.2.1, (c1.2.2.2.1 (h + 1) (by omega)).2.2.trans q0_1.2.2⟩)
  have q1_2 := (show _ ∧ _ ∧ _ from ⟨(c1.2.2.2.1 (h + 2) (by omega)).1.trans q0_2.1, (c1.2.2.2.1 (h + 2) (by omega)).2.1.trans q0_2.2.1, (c1.2.2.2.1 (h + 2) (by omega)).2.2.trans q0_2.2.2⟩)
  have q1_3 := (show _ ∧ _ ∧ _ from ⟨(c1.2.2.2.1 (h + 3) (by omega)).1.trans q0_3.1, (c1.2.2.2.1 (h + 3) (by omega)).2.1.trans q0_3.2.1, (c1.2.2.2.1 (h + 3) (by omega)).2.2.trans q0_3.2.2⟩)
  have q1_4 := (show _ ∧ _ ∧ _ from ⟨(c1.2.2.2.1 (h + 4) (by omega)).1.trans q0_4.1, (c1.2.2.2.1 (h + 4) (by omega)).2.1.trans q0_4.2.1, (c1.2.2.2.1 (h + 4) (by omega)).2.2.trans q0_4.2.2⟩)
  have q1_5 := (show _ ∧ _ ∧ _ from ⟨(c1.2.2.2.1 (h + 5) (by omega)).1.trans q0_5.1, (c1.2.2.2.1 (h + 5) (by omega)).2.1.trans q0_5.2.1, (c1.2.2.2.1 (h + 5) (by omega)).2.2.trans q0_5.2.2⟩)
  have u1 : (Z1.1 0 27).toInt = (h : Int) + 6 := by rw [t1]; omega
  have cc1 := (c0.mono (h1 := h) (S1 := fun i => lo ≤ i ∧ i < hi) (S01 := fun i => lo ≤ i ∧ i < hi ∧ i ≠ n) (by omega) (fun i q => q.elim) (fun i q => q.elim)).tr (c1.mono (h1 := h) (S1 := fun i => lo ≤ i ∧ i < hi) (S01 := fun i => lo ≤ i ∧ i < hi ∧ i ≠ n) (by omega) (fun i (q : (lo ≤ i ∧ i < n)) => (⟨by omega, by omega⟩ : lo ≤ i ∧ i < hi)) (fun i (q : (lo ≤ i ∧ i < n ∧ i ≠ ix (X0.1 23 n))) => (⟨by omega, by omega, by omega⟩ : lo ≤ i ∧ i < hi ∧ i ≠ n)))
  obtain ⟨Z2, g2, c2, t2, d2, d2n, d2m⟩ := st_ord (r7 := r7) (a1 := a1) (show Top Z1 (h + 5) 8 nn 0 from ⟨by rw [u1]; omega, q1_5⟩) c1.2.1 (by omega) (by omega) (by decide) (fun _ => False) (fun _ => False)
  have f2 : OA Z2 p1 8 n := ⟨by rw [d2]; rfl, by rw [d2n]; exact hnn⟩
  have f3 : OA Z2 s 0 n := c2.oa f1 (by omega)
  have f4 : CX Z2 (ix (X0.1 23 n)) lo n sc (s + 1) p1 := x1.cs c2 (by omega) (fun i i1 i2 => ⟨fun (q : False) => by omega, fun i3 (q : False) => by omega⟩)
  have q2_0 := (show _ ∧ _ ∧ _ from ⟨(c2.2.2.2.1 (h + 0) (by omega)).1.trans q1_0.1, (c2.2.2.2.1 (h + 0) (by omega)).2.1.trans q1_0.2.1, (c2.2.2.2.1 (h + 0) (by omega)).2.2.trans q1_0.2.2⟩)
  have q2_1 := (show _ ∧ _ ∧ _ from ⟨(c2.2.2.2.1 (h + 1) (by omega)).1.trans q1_1.1, (c2.2.2.2.1 (h + 1) (by omega)).2.1.trans q1_1.2.1, (c2.2.2.2.1 (h + 1) (by omega)).2.2.trans q1_1.2.2⟩)
  have q2_2 := (show _ ∧ _ ∧ _ from ⟨(c2.2.2.2.1 (h + 2) (by omega)).1.trans q1_2.1, (c2.2.2.2.1 (h + 2) (by omega)).2.1.trans q1_2.2.1, (c2.2.2.2.1 (h + 2) (by omega)).2.2.trans q1_2.2.2⟩)
  have q2_3 := (show _ ∧ _ ∧ _ from ⟨(c2.2.2.2.1 (h + 3) (by omega)).1.trans q1_3.1, (c2.2.2.2.1 (h + 3) (by omega)).2.1.trans q1_3.2.1, (c2.2.2.2.1 (h + 3) (by omega)).2.2.trans q1_3.2.2⟩)
  have q2_4 := (show _ ∧ _ ∧ _ from ⟨(c2.2.2.2.1 (h + 4) (by omega)).1.trans q1_4.1, (c2.2.2.2.1 (h + 4) (by omega)).2.1.trans q1_4.2.1, (c2.2.2.2.1 (h + 4) (by omega)).2.2.trans q1_4.2.2⟩)
  have u2 : (Z2.1 0 27).toInt = (h : Int) + 5 := by rw [t2]; omega
  have cc2 := cc1.tr (c2.mono (h1 := h) (S1 := fun i => lo ≤ i ∧ i < hi) (S01 := fun i => lo ≤ i ∧ i < hi ∧ i ≠ n) (by omega) (fun i (q : False) => q.elim) (fun i (q : False) => q.elim))
  obtain ⟨k3, p2, Z3, g3, b3, c3, t3, x3, y3⟩ := hB.2.2 Z2 (h + 4) (p1 + 1) (X0.1 24 n) 0 (((hF.tr c0.1 (by decide)).tr c1.1 (by decide)).tr c2.1 (by decide)) (ixc hB.1).symm (by omega) ⟨by rw [u2]; omega, q2_4⟩ c2.2.1 (by omega) (by omega)
  have bx3 := x3.bd
  have f5 : OA Z3 s 0 n := c3.oa f3 (by omega)
  have f6 : CX Z3 (ix (X0.1 23 n)) lo n sc (s + 1) p1 := f4.cs c3 (by omega) (fun i i1 i2 => ⟨fun (q : ((n + 1) ≤ i ∧ i < m)) => by omega, fun i3 (q : ((n + 1) ≤ i ∧ i < m ∧ i ≠ ix (X0.1 24 n))) => by omega⟩)
  have f7 : OA Z3 p1 8 n := c3.oa f2 (by omega)
  have q3_0 := (show _ ∧ _ ∧ _ from ⟨(c3.2.2.2.1 (h + 0) (by omega)).1.trans q2_0.1, (c3.2.2.2.1 (h + 0) (by omega)).2.1.trans q2_0.2.1, (c3.2.2.2.1 (h + 0) (by omega)).2.2.trans q2_0.2.2⟩)
  have q3_1 := (show _ ∧ _ ∧ _ from ⟨(c3.2.2.2.1 (h + 1) (by omega)).1.trans q2_1.1, (c3.2.2.2.1 (h + 1) (by omega)).2.1.trans q2_1.2.1, (c3.2.2.2.1 (h + 1) (by omega)).2.2.trans q2_1.2.2⟩)
  have q3_2 := (show _ ∧ _ ∧ _ from ⟨(c3.2.2.2.1 (h + 2) (by omega)).1.trans q2_2.1, (c3.2.2.2.1 (h + 2) (by omega)).2.1.trans q2_2.2.1, (c3.2.2.2.1 (h + 2) (by omega)).2.2.trans q2_2.2.2⟩)
  have q3_3 := (show _ ∧ _ ∧ _ from ⟨(c3.2.2.2.1 (h + 3) (by omega)).1.trans q2_3.1, (c3.2.2.2.1 (h + 3) (by omega)).2.1.trans q2_3.2.1, (c3.2.2.2.1 (h + 3) (by omega)).2.2.trans q2_3.2.2⟩)
  have u3 : (Z3.1 0 27).toInt = (h : Int) + 4 := by rw [t3]; omega
  have cc3 := cc2.tr (c3.mono (h1 := h) (S1 := fun i => lo ≤ i ∧ i < hi) (S01 := fun i => lo ≤ i ∧ i < hi ∧ i ≠ n) (by omega) (fun i (q : ((n + 1) ≤ i ∧ i < m)) => (⟨by omega, by omega⟩ : lo ≤ i ∧ i < hi)) (fun i (q : ((n + 1) ≤ i ∧ i < m ∧ i ≠ ix (X0.1 24 n))) => (⟨by omega, by omega, by omega⟩ : lo ≤ i ∧ i < hi ∧ i ≠ n)))
  obtain ⟨Z4, g4, c4, t4, d4, d4n, d4m⟩ := st_ord (r7 := r7) (a1 := a1) (show Top Z3 (h + 3) 5 (X0.1 24 n) 0 from ⟨by rw [u3]; omega, q3_3⟩) c3.2.1 (by omega) (by omega) (by decide) (fun _ => False) (fun _ => False)
  have f8 : OA Z4 p2 5 (ix (X0.1 24 n)) := ⟨by rw [d4]; rfl, by rw [d4n]; exact (ixc hB.1).symm⟩
  have f9 : OA Z4 s 0 n := c4.oa f5 (by omega)
  have f10 : CX Z4 (ix (X0.1 23 n)) lo n sc (s + 1) p1 := f6.cs c4 (by omega) (fun i i1 i2 => ⟨fun (q : False) => by omega, fun i3 (q : False) => by omega⟩)
  have f11 : OA Z4 p1 8 n := c4.oa f7 (by omega)
  have f12 : CX Z4 (ix (X0.1 24 n)) (n + 1) m sc (p1 + 1) p2 := x3.cs c4 (by omega) (fun i i1 i2 => ⟨fun (q : False) => by omega, fun i3 (q : False) => by omega⟩)
  have q4_0 := (show _ ∧ _ ∧ _ from ⟨(c4.2.2.2.1 (h + 0) (by omega)).1.trans q3_0.1, (c4.2.2.2.1 (h + 0) (by omega)).2.1.trans q3_0.2.1, (c4.2.2.2.1 (h + 0) (by omega)).2.2.trans q3_0.2.2⟩)
  have q4_1 := (show _ ∧ _ ∧ _ from ⟨(c4.2.2.2.1 (h + 1) (by omega)).1.trans q3_1.1, (c4.2.2.2.1 (h + 1) (by omega)).2.1.trans q3_1.2.1, (c4.2.2.2.1 (h + 1) (by omega)).2.2.trans q3_1.2.2⟩)
  have q4_2 := (show _ ∧ _ ∧ _ from ⟨(c4.2.2.2.1 (h + 2) (by omega)).1.trans q3_2.1, (c4.2.2.2.1 (h + 2) (by omega)).2.1.trans q3_2.2.1, (c4.2.2.2.1 (h + 2) (by omega)).2.2.trans q3_2.2.2⟩)
  have u4 : (Z4.1 0 27).toInt = (h : Int) + 3 := by rw [t4]; omega
  have cc4 := cc3.tr (c4.mono (h1 := h) (S1 := fun i => lo ≤ i ∧ i < hi) (S01 := fun i => lo ≤ i ∧ i < hi ∧ i ≠ n) (by omega) (fun i (q : False) => q.elim) (fun i (q : False) => q.elim))
  obtain ⟨k5, p3, Z5, g5, b5, c5, t5, x5, y5⟩ := hC.2.2 Z4 (h + 2) (p2 + 1) (X0.1 25 n) 0 (((((hF.tr c0.1 (by decide)).tr c1.1 (by decide)).tr c2.1 (by decide)).tr c3.1 (by decide)).tr c4.1 (by decide)) (ixc hC.1).symm (by omega) ⟨by rw [u4]; omega, q4_2⟩ c4.2.1 (by omega) (by omega)
  have bx5 := x5.bd
  have f13 : OA Z5 s 0 n := c5.oa f9 (by omega)
  have f14 : CX Z5 (ix (X0.1 23 n)) lo n sc (s + 1) p1 := f10.cs c5 (by omega) (fun i i1 i2 => ⟨fun (q : (m ≤ i ∧ i < hi)) => by omega, fun i3 (q : (m ≤ i ∧ i < hi ∧ i ≠ ix (X0.1 25 n))) => by omega⟩)
  have f15 : OA Z5 p1 8 n := c5.oa f11 (by omega)
  have f16 : CX Z5 (ix (X0.1 24 n)) (n + 1) m sc (p1 + 1) p2 := f12.cs c5 (by omega) (fun i i1 i2 => ⟨fun (q : (m ≤ i ∧ i < hi)) => by omega, fun i3 (q : (m ≤ i ∧ i < hi ∧ i ≠ ix (X0.1 25 n))) => by omega⟩)
  have f17 : OA Z5 p2 5 (ix (X0.1 24 n)) := c5.oa f8 (by omega)
  have q5_0 := (show _ ∧ _ ∧ _ from ⟨(c5.2.2.2.1 (h + 0) (by omega)).1.trans q4_0.1, (c5.2.2.2.1 (h + 0) (by omega)).2.1.trans q4_0.2.1, (c5.2.2.2.1 (h + 0) (by omega)).2.2.trans q4_0.2.2⟩)
  have q5_1 := (show _ ∧ _ ∧ _ from ⟨(c5.2.2.2.1 (h + 1) (by omega)).1.trans q4_1.1, (c5.2.2.2.1 (h + 1) (by omega)).2.1.trans q4_1.2.1, (c5.2.2.2.1 (h + 1) (by omega)).2.2.trans q4_1.2.2⟩)
  have u5 : (Z5.1 0 27).toInt = (h : Int) + 2 := by rw [t5]; omega
  have cc5 := cc4.tr (c5.mono (h1 := h) (S1 := fun i => lo ≤ i ∧ i < hi) (S01 := fun i => lo ≤ i ∧ i < hi ∧ i ≠ n) (by omega) (fun i (q : (m ≤ i ∧ i < hi)) => (⟨by omega, by omega⟩ : lo ≤ i ∧ i < hi)) (fun i (q : (m ≤ i ∧ i < hi ∧ i ≠ ix (X0.1 25 n))) => (⟨by omega, by omega, by omega⟩ : lo ≤ i ∧ i < hi ∧ i ≠ n)))
  obtain ⟨Z6, g6, c6, t6, d6, d6n, d6m⟩ := st_ord (r7 := r7) (a1 := a1) (show Top Z5 (h + 1) 11 nn 0 from ⟨by rw [u5]; omega, q5_1⟩) c5.2.1 (by omega) (by omega) (by decide) (fun _ => False) (fun _ => False)
  have f18 : OA Z6 p3 11 n := ⟨by rw [d6]; rfl, by rw [d6n]; exact hnn⟩
  have f19 : OA Z6 s 0 n := c6.oa f13 (by omega)
  have f20 : CX Z6 (ix (X0.1 23 n)) lo n sc (s + 1) p1 := f14.cs c6 (by omega) (fun i i1 i2 => ⟨fun (q : False) => by omega, fun i3 (q : False) => by omega⟩)
  have f21 : OA Z6 p1 8 n := c6.oa f15 (by omega)
  have f22 : CX Z6 (ix (X0.1 24 n)) (n + 1) m sc (p1 + 1) p2 := f16.cs c6 (by omega) (fun i i1 i2 => ⟨fun (q : False) => by omega, fun i3 (q : False) => by omega⟩)
  have f23 : OA Z6 p2 5 (ix (X0.1 24 n)) := c6.oa f17 (by omega)
  have f24 : CX Z6 (ix (X0.1 25 n)) m hi sc (p2 + 1) p3 := x5.cs c6 (by omega) (fun i i1 i2 => ⟨fun (q : False) => by omega, fun i3 (q : False) => by omega⟩)
  have q6_0 := (show _ ∧ _ ∧ _ from ⟨(c6.2.2.2.1 (h + 0) (by omega)).1.trans q5_0.1, (c6.2.2.2.1 (h + 0) (by omega)).2.1.trans q5_0.2.1, (c6.2.2.2.1 (h + 0) (by omega)).2.2.trans q5_0.2.2⟩)
  have u6 : (Z6.1 0 27).toInt = (h : Int) + 1 := by rw [t6]; omega
  have cc6 := cc5.tr (c6.mono (h1 := h) (S1 := fun i => lo ≤ i ∧ i < hi) (S01 := fun i => lo ≤ i ∧ i < hi ∧ i ≠ n) (by omega) (fun i (q : False) => q.elim) (fun i (q : False) => q.elim))
  obtain ⟨Z7, g7, c7, t7, d7, d7n, d7m⟩ := st_ord (r7 := r7) (a1 := a1) (show Top Z6 (h + 0) 27 nn 0 from ⟨by rw [u6]; omega, q6_0⟩) c6.2.1 (by omega) (by omega) (by decide) (fun _ => False) (fun _ => False)
  have f25 : OA Z7 (p3 + 1) 27 n := ⟨by rw [d7]; rfl, by rw [d7n]; exact hnn⟩
  have f26 : OA Z7 s 0 n := c7.oa f19 (by omega)
  have f27 : CX Z7 (ix (X0.1 23 n)) lo n sc (s + 1) p1 := f20.cs c7 (by omega) (fun i i1 i2 => ⟨fun (q : False) => by omega, fun i3 (q : False) => by omega⟩)
  have f28 : OA Z7 p1 8 n := c7.oa f21 (by omega)
  have f29 : CX Z7 (ix (X0.1 24 n)) (n + 1) m sc (p1 + 1) p2 := f22.cs c7 (by omega) (fun i i1 i2 => ⟨fun (q : False) => by omega, fun i3 (q : False) => by omega⟩)
  have f30 : OA Z7 p2 5 (ix (X0.1 24 n)) := c7.oa f23 (by omega)
  have f31 : CX Z7 (ix (X0.1 25 n)) m hi sc (p2 + 1) p3 := f24.cs c7 (by omega) (fun i i1 i2 => ⟨fun (q : False) => by omega, fun i3 (q : False) => by omega⟩)
  have f32 : OA Z7 p3 11 n := c7.oa f18 (by omega)
  have u7 : (Z7.1 0 27).toInt = (h : Int) + 0 := by rw [t7]; omega
  have cc7 := cc6.tr (c7.mono (h1 := h) (S1 := fun i => lo ≤ i ∧ i < hi) (S01 := fun i => lo ≤ i ∧ i < hi ∧ i ≠ n) (by omega) (fun i (q : False) => q.elim) (fun i (q : False) => q.elim))
  have hFz : Fr YR [26, 27, 8000, 8200, 8400, 8600, 9000, 9200, 9400, 9600, 9800, 10000, 10200] X0 Z7 := ((((((((hF.tr c0.1 (by decide)).tr c1.1 (by decide)).tr c2.1 (by decide)).tr c3.1 (by decide)).tr c4.1 (by decide)).tr c5.1 (by decide)).tr c6.1 (by decide)).tr c7.1 (by decide))
  have z20 : Z7.1 20 n = X0.1 20 n := hFz.1 20 n (show (4000 : Nat) ∉ [26, 27, 8000, 8200, 8400, 8600, 9000, 9200, 9400, 9600, 9800, 10000, 10200] from by decide)
  have z23 : Z7.1 23 n = X0.1 23 n := hFz.1 23 n (show (4600 : Nat) ∉ [26, 27, 8000, 8200, 8400, 8600, 9000, 9200, 9400, 9600, 9800, 10000, 10200] from by decide)
  have z24 : Z7.1 24 n = X0.1 24 n := hFz.1 24 n (show (4800 : Nat) ∉ [26, 27, 8000, 8200, 8400, 8600, 9000, 9200, 9400, 9600, 9800, 10000, 10200] from by decide)
  have z25 : Z7.1 25 n = X0.1 25 n := hFz.1 25 n (show (5000 : Nat) ∉ [26, 27, 8000, 8200, 8400, 8600, 9000, 9200, 9400, 9600, 9800, 10000, 10200] from by decide)
  have z26 : Z7.1 26 n = X0.1 26 n := hFz.1 26 n (show (5200 : Nat) ∉ [26, 27, 8000, 8200, 8400, 8600, 9000, 9200, 9400, 9600, 9800, 10000, 10200] from by decide)
  have z27 : Z7.1 27 n = X0.1 27 n := hFz.1 27 n (show (5400 : Nat) ∉ [26, 27, 8000, 8200, 8400, 8600, 9000, 9200, 9400, 9600, 9800, 10000, 10200] from by decide)
  refine ⟨1 + k1 + 1 + k3 + 1 + k5 + 1 + 1, ((p3 + 1) + 1), Z7, (((((((g0.tr g1).tr g2).tr g3).tr g4).tr g5).tr g6).tr g7), by omega, cc7, by rw [u7]; omega, ?_, by omega⟩
  exact CX.intro ⟨by omega, by omega, by omega, f26, (Or.inr (Or.inr (Or.inr (Or.inr (Or.inr (Or.inr (Or.inl ⟨(by rw [z20]; exact hk), m, p1, p2, p3, ⟨by rw [z23]; exact hA.1, by rw [z23]; exact f27⟩, f28, ⟨by rw [z24]; exact hB.1, by rw [z24]; exact f29⟩, (by rw [z24]; exact f30), ⟨by rw [z25]; exact hC.1, by rw [z25]; exact f31⟩, f32, f25, rfl⟩)))))))⟩
set_option maxHeartbeats 4000000 in
theorem pc_16 {r7 : Int32 → St → Option (Int32 × St)} {a1 : Int32} {X0 : St} {n lo hi : Nat} {sc : Int} (hlo : lo ≤ n) (hhi0 : n < hi) (hk : (X0.1 20 n).toInt = 16) {m1 m2 : Nat} (hl : n = lo) (hA : CHR (fun n lo hi sc => WX X0 n lo hi sc ∧ PC r7 a1 X0 n lo hi sc) X0 23 n (n + 1) m1 sc) (hB : CHR (fun n lo hi sc => WX X0 n lo hi sc ∧ PC r7 a1 X0 n lo hi sc) X0 24 n m1 m2 sc) (hC : CHR (fun n lo hi sc => WX X0 n lo hi sc ∧ PC r7 a1 X0 n lo hi sc) X0 25 n m2 hi sc) : PC r7 a1 X0 n lo hi sc := by
  intro X h s nn m0 hF hnn hhi ht hs hb hb2
  have hbA := hA.2.1.bd
  have hbB := hB.2.1.bd
  have hbC := hC.2.1.bd
  have en : ix nn = n := by
    have := ixc (z := nn) (by omega)
    omega
  have hin : inR nn 3100 := ⟨by omega, show nn.toInt < ((3100 : Nat) : Int) by omega⟩
  have e20 : X.1 20 n = X0.1 20 n := hF.1 20 n (show (4000 : Nat) ∉ [26, 27, 8000, 8200, 8400, 8600, 9000, 9200, 9400, 9600, 9800, 10000, 10200] from by decide)
  have e23 : X.1 23 n = X0.1 23 n := hF.1 23 n (show (4600 : Nat) ∉ [26, 27, 8000, 8200, 8400, 8600, 9000, 9200, 9400, 9600, 9800, 10000, 10200] from by decide)
  have e24 : X.1 24 n = X0.1 24 n := hF.1 24 n (show (4800 : Nat) ∉ [26, 27, 8000, 8200, 8400, 8600, 9000, 9200, 9400, 9600, 9800, 10000, 10200] from by decide)
  have e25 : X.1 25 n = X0.1 25 n := hF.1 25 n (show (5000 : Nat) ∉ [26, 27, 8000, 8200, 8400, 8600, 9000, 9200, 9400, 9600, 9800, 10000, 10200] from by decide)
  obtain ⟨Z0, g0, c0, t0, ⟨o0, o0n⟩, l0⟩ := st_40 (r7 := r7) (a1 := a1) (L := [(17, nn, 0), (14, (X0.1 25 n), 0), (40, (X0.1 25 n), 0), (16, nn, 0), (14, (X0.1 24 n), 0), (40, (X0.1 24 n), 0), (15, nn, 0), (6, (X0.1 23 n), 0), (40, (X0.1 23 n), 0)]) ht hs (by omega) (by omega) (fun W hW hw => by
    have q := tells_16 (X := W) (p1 := nn) hin (by rw [hW 20 ⟨by decide, by decide⟩, en, e20]; exact hk) (by omega)
    rw [hW 23 ⟨by decide, by decide⟩ (ix nn), hW 24 ⟨by decide, by decide⟩ (ix nn), hW 25 ⟨by decide, by decide⟩ (ix nn)] at q; rw [en, e23, e24, e25] at q
    exact q) (fun _ => False) (fun _ => False)
  have f0 : OA Z0 s 0 n := ⟨by rw [o0]; rfl, by rw [o0n]; exact hnn⟩
  have q0_0 : Z0.1 48 (h + 0) = ((17, nn, 0) : Int32 × Int32 × Int32).1 ∧ Z0.1 49 (h + 0) = ((17, nn, 0) : Int32 × Int32 × Int32).2.1 ∧ Z0.1 50 (h + 0) = ((17, nn, 0) : Int32 × Int32 × Int32).2.2 := l0 0 (17, nn, 0) rfl
  have q0_1 : Z0.1 48 (h + 1) = ((14, (X0.1 25 n), 0) : Int32 × Int32 × Int32).1 ∧ Z0.1 49 (h + 1) = ((14, (X0.1 25 n), 0) : Int32 × Int32 × Int32).2.1 ∧ Z0.1 50 (h + 1) = ((14, (X0.1 25 n), 0) : Int32 × Int32 × Int32).2.2 := l0 1 (14, (X0.1 25 n), 0) rfl
  have q0_2 : Z0.1 48 (h + 2) = ((40, (X0.1 25 n), 0) : Int32 × Int32 × Int32).1 ∧ Z0.1 49 (h + 2) = ((40, (X0.1 25 n), 0) : Int32 × Int32 × Int32).2.1 ∧ Z0.1 50 (h + 2) = ((40, (X0.1 25 n), 0) : Int32 × Int32 × Int32).2.2 := l0 2 (40, (X0.1 25 n), 0) rfl
  have q0_3 : Z0.1 48 (h + 3) = ((16, nn, 0) : Int32 × Int32 × Int32).1 ∧ Z0.1 49 (h + 3) = ((16, nn, 0) : Int32 × Int32 × Int32).2.1 ∧ Z0.1 50 (h + 3) = ((16, nn, 0) : Int32 × Int32 × Int32).2.2 := l0 3 (16, nn, 0) rfl
  have q0_4 : Z0.1 48 (h + 4) = ((14, (X0.1 24 n), 0) : Int32 × Int32 × Int32).1 ∧ Z0.1 49 (h + 4) = ((14, (X0.1 24 n), 0) : Int32 × Int32 × Int32).2.1 ∧ Z0.1 50 (h + 4) = ((14, (X0.1 24 n), 0) : Int32 × Int32 × Int32).2.2 := l0 4 (14, (X0.1 24 n), 0) rfl
  have q0_5 : Z0.1 48 (h + 5) = ((40, (X0.1 24 n), 0) : Int32 × Int32 × Int32).1 ∧ Z0.1 49 (h + 5) = ((40, (X0.1 24 n), 0) : Int32 × Int32 × Int32).2.1 ∧ Z0.1 50 (h + 5) = ((40, (X0.1 24 n), 0) : Int32 × Int32 × Int32).2.2 := l0 5 (40, (X0.1 24 n), 0) rfl
  have q0_6 : Z0.1 48 (h + 6) = ((15, nn, 0) : Int32 × Int32 × Int32).1 ∧ Z0.1 49 (h + 6) = ((15, nn, 0) : Int32 × Int32 × Int32).2.1 ∧ Z0.1 50 (h + 6) = ((15, nn, 0) : Int32 × Int32 × Int32).2.2 := l0 6 (15, nn, 0) rfl
  have q0_7 : Z0.1 48 (h + 7) = ((6, (X0.1 23 n), 0) : Int32 × Int32 × Int32).1 ∧ Z0.1 49 (h + 7) = ((6, (X0.1 23 n), 0) : Int32 × Int32 × Int32).2.1 ∧ Z0.1 50 (h + 7) = ((6, (X0.1 23 n), 0) : Int32 × Int32 × Int32).2.2 := l0 7 (6, (X0.1 23 n), 0) rfl
  have q0_8 : Z0.1 48 (h + 8) = ((40, (X0.1 23 n), 0) : Int32 × Int32 × Int32).1 ∧ Z0.1 49 (h + 8) = ((40, (X0.1 23 n), 0) : Int32 × Int32 × Int32).2.1 ∧ Z0.1 50 (h + 8) = ((40, (X0.1 23 n), 0) : Int32 × Int32 × Int32).2.2 := l0 8 (40, (X0.1 23 n), 0) rfl
  have u0 : (Z0.1 0 27).toInt = (h : Int) + 9 := by rw [t0]; rfl
  obtain ⟨k1, p1, Z1, g1, b1, c1, t1, x1, y1⟩ := hA.2.2 Z0 (h + 8) (s + 1) (X0.1 23 n) 0 (hF.tr c0.1 (by decide)) (ixc hA.1).symm (by omega) ⟨by rw [u0]; omega, q0_8⟩ c0.2.1 (by omega) (by omega)
  have bx1 := x1.bd
  have f1 : OA Z1 s 0 n := c1.oa f0 (by omega)
  have q1_0 := (show _ ∧ _ ∧ _ from ⟨(c1.2.2.2.1 (h + 0) (by omega)).1.trans q0_0.1, (c1.2.2.2.1 (h + 0) (by omega)).2.1.trans q0_0.2.1, (c1.2.2.2.1 (h + 0) (by omega)).2.2.trans q0_0.2.2⟩)
  have q1_1 := (show _ ∧ _ ∧ _ from ⟨(c1.2.2.2.1 (h + 1) (by omega)).1.trans q0_1.1, (c1.2.2.2.1 (h + 1) (by omega)).2.1.trans q0_1.2.1, (c1.2.2.2.1 (h + 1) (by omega)).2.2.trans q0_1.2.2⟩)
  have q1_2 := (show _ ∧ _ ∧ _ from ⟨(c1.2.2.2.1 (h + 2) (by omega)).1.trans q0_2.1, (c1.2.2.2.1 (h + 2) (by omega)).2.1.trans q0_2.2.1, (c1.2.2.2.1 (h + 2) (by omega)).2.2.trans q0_2.2.2⟩)
  have q1_3 := (show _ ∧ _ ∧ _ from ⟨(c1.2.2.2.1 (h + 3) (by omega)).1.trans q0_3.1, (c1.2.2.2.1 (h + 3) (by omega)).2.1.trans q0_3.2.1, (c1.2.2.2.1 (h + 3) (by omega)).2.2.trans q0_3.2.2⟩)
  have q1_4 := (show _ ∧ _ ∧ _ from ⟨(c1.2.2.2.1 (h + 4) (by omega)).1.trans q0_4.1, (c1.2.2.2.1 (h + 4) (by omega)).2.1.trans q0_4.2.1, (c1.2.2.2.1 (h + 4) (by omega)).2.2.trans q0_4.2.2⟩)
  have q1_5 := (show _ ∧ _ ∧ _ from ⟨(c1.2.2.2.1 (h + 5) (by omega)).1.trans q0_5.1, (c1.2.2.2.1 (h + 5) (by omega)).2.1.trans q0_5.2.1, (c1.2.2.2.1 (h + 5) (by omega)).2.2.trans q0_5.2.2⟩)
  have q1_6 := (show _ ∧ _ ∧ _ from ⟨(c1.2.2.2.1 (h + 6) (by omega)).1.trans q0_6.1, (c1.2.2.2.1 (h + 6) (by omega)).2.1.trans q0_6.2.1, (c1.2.2.2.1 (h + 6) (by omega)).2.2.trans q0_6.2.2⟩)
  have q1_7 := (show _ ∧ _ ∧ _ from ⟨(c1.2.2.2.1 (h + 7) (by omega)).1.trans q0_7.1, (c1.2.2.2.1 (h + 7) (by omega)).2.1.trans q0_7.2.1, (c1.2.2.2.1 (h + 7) (by omega)).2.2.trans q0_7.2.2⟩)
  have u1 : (Z1.1 0 27).toInt = (h : Int) + 8 := by rw [t1]; omega
  have cc1 := (c0.mono (h1 := h) (S1 := fun i => lo ≤ i ∧ i < hi) (S01 := fun i => lo ≤ i ∧ i < hi ∧ i ≠ n) (by omega) (fun i q => q.elim) (fun i q => q.elim)).tr (c1.mono (h1 := h) (S1 := fun i => lo ≤ i ∧ i < hi) (S01 := fun i => lo ≤ i ∧ i < hi ∧ i ≠ n) (by omega) (fun i (q : ((n + 1) ≤ i ∧ i < m1)) => (⟨by omega, by omega⟩ : lo ≤ i ∧ i < hi)) (fun i (q : ((n + 1) ≤ i ∧ i < m1 ∧ i ≠ ix (X0.1 23 n))) => (⟨by omega, by omega, by omega⟩ : lo ≤ i ∧ i < hi ∧ i ≠ n)))
  obtain ⟨Z2, g2, c2, t2, d2, d2n, d2m⟩ := st_ord (r7 := r7) (a1 := a1) (show Top Z1 (h + 7) 6 (X0.1 23 n) 0 from ⟨by rw [u1]; omega, q1_7⟩) c1.2.1 (by omega) (by omega) (by decide) (fun _ => False) (fun _ => False)
  have f2 : OA Z2 p1 6 (ix (X0.1 23 n)) := ⟨by rw [d2]; rfl, by rw [d2n]; exact (ixc hA.1).symm⟩
  have f3 : OA Z2 s 0 n := c2.oa f1 (by omega)
  have f4 : CX Z2 (ix (X0.1 23 n)) (n + 1) m1 sc (s + 1) p1 := x1.cs c2 (by omega) (fun i i1 i2 => ⟨fun (q : False) => by omega, fun i3 (q : False) => by omega⟩)
  have q2_0 := (show _ ∧ _ ∧ _ from ⟨(c2.2.2.2.1 (h + 0) (by omega)).1.trans q1_0.1, (c2.2.2.2.1 (h + 0) (by omega)).2.1.trans q1_0.2.1, (c2.2.2.2.1 (h + 0) (by omega)).2.2.trans q1_0.2.2⟩)
  have q2_1 := (show _ ∧ _ ∧ _ from ⟨(c2.2.2.2.1 (h + 1) (by omega)).1.trans q1_1.1, (c2.2.2.2.1 (h + 1) (by omega)).2.1.trans q1_1.2.1, (c2.2.2.2.1 (h + 1) (by omega)).2.2.trans q1_1.2.2⟩)
  have q2_2 := (show _ ∧ _ ∧ _ from ⟨(c2.2.2.2.1 (h + 2) (by omega)).1.trans q1_2.1, (c2.2.2.2.1 (h + 2) (by omega)).2.1.trans q1_2.2.1, (c2.2.2.2.1 (h + 2) (by omega)).2.2.trans q1_2.2.2⟩)
  have q2_3 := (show _ ∧ _ ∧ _ from ⟨(c2.2.2.2.1 (h + 3) (by omega)).1.trans q1_3.1, (c2.2.2.2.1 (h + 3) (by omega)).2.1.trans q1_3.2.1, (c2.2.2.2.1 (h + 3) (by omega)).2.2.trans q1_3.2.2⟩)
  have q2_4 := (show _ ∧ _ ∧ _ from ⟨(c2.2.2.2.1 (h + 4) (by omega)).1.trans q1_4.1, (c2.2.2.2.1 (h + 4) (by omega)).2.1.trans q1_4.2.1, (c2.2.2.2.1 (h + 4) (by omega)).2.2.trans q1_4.2.2⟩)
  have q2_5 := (show _ ∧ _ ∧ _ from ⟨(c2.2.2.2.1 (h + 5) (by omega)).1.trans q1_5.1, (c2.2.2.2.1 (h + 5) (by omega)).2.1.trans q1_5.2.1, (c2.2.2.2.1 (h + 5) (by omega)).2.2.trans q1_5.2.2⟩)
  have q2_6 := (show _ ∧ _ ∧ _ from ⟨(c2.2.2.2.1 (h + 6) (by omega)).1.trans q1_6.1, (c2.2.2.2.1 (h + 6) (by omega)).2.1.trans q1_6.2.1, (c2.2.2.2.1 (h + 6) (by omega)).2.2.trans q1_6.2.2⟩)
  have u2 : (Z2.1 0 27).toInt = (h : Int) + 7 := by rw [t2]; omega
  have cc2 := cc1.tr (c2.mono (h1 := h) (S1 := fun i => lo ≤ i ∧ i < hi) (S01 := fun i => lo ≤ i ∧ i < hi ∧ i ≠ n) (by omega) (fun i (q : False) => q.elim) (fun i (q : False) => q.elim))
  obtain ⟨Z3, g3, c3, t3, d3, d3n, d3m⟩ := st_ord (r7 := r7) (a1 := a1) (show Top Z2 (h + 6) 15 nn 0 from ⟨by rw [u2]; omega, q2_6⟩) c2.2.1 (by omega) (by omega) (by decide) (fun _ => False) (fun _ => False)
  have f5 : OA Z3 (p1 + 1) 15 n := ⟨by rw [d3]; rfl, by rw [d3n]; exact hnn⟩
  have f6 : OA Z3 s 0 n := c3.oa f3 (by omega)
  have f7 : CX Z3 (ix (X0.1 23 n)) (n + 1) m1 sc (s + 1) p1 := f4.cs c3 (by omega) (fun i i1 i2 => ⟨fun (q : False) => by omega, fun i3 (q : False) => by omega⟩)
  have f8 : OA Z3 p1 6 (ix (X0.1 23 n)) := c3.oa f2 (by omega)
  have q3_0 := (show _ ∧ _ ∧ _ from ⟨(c3.2.2.2.1 (h + 0) (by omega)).1.trans q2_0.1, (c3.2.2.2.1 (h + 0) (by omega)).2.1.trans q2_0.2.1, (c3.2.2.2.1 (h + 0) (by omega)).2.2.trans q2_0.2.2⟩)
  have q3_1 := (show _ ∧ _ ∧ _ from ⟨(c3.2.2.2.1 (h + 1) (by omega)).1.trans q2_1.1, (c3.2.2.2.1 (h + 1) (by omega)).2.1.trans q2_1.2.1, (c3.2.2.2.1 (h + 1) (by omega)).2.2.trans q2_1.2.2⟩)
  have q3_2 := (show _ ∧ _ ∧ _ from ⟨(c3.2.2.2.1 (h + 2) (by omega)).1.trans q2_2.1, (c3.2.2.2.1 (h + 2) (by omega)).2.1.trans q2_2.2.1, (c3.2.2.2.1 (h + 2) (by omega)).2.2.trans q2_2.2.2⟩)
  have q3_3 := (show _ ∧ _ ∧ _ from ⟨(c3.2.2.2.1 (h + 3) (by omega)).1.trans q2_3.1, (c3.2.2.2.1 (h + 3) (by omega)).2.1.trans q2_3.2.1, (c3.2.2.2.1 (h + 3) (by omega)).2.2.trans q2_3.2.2⟩)
  have q3_4 := (show _ ∧ _ ∧ _ from ⟨(c3.2.2.2.1 (h + 4) (by omega)).1.trans q2_4.1, (c3.2.2.2.1 (h + 4) (by omega)).2.1.trans q2_4.2.1, (c3.2.2.2.1 (h + 4) (by omega)).2.2.trans q2_4.2.2⟩)
  have q3_5 := (show _ ∧ _ ∧ _ from ⟨(c3.2.2.2.1 (h + 5) (by omega)).1.trans q2_5.1, (c3.2.2.2.1 (h + 5) (by omega)).2.1.trans q2_5.2.1, (c3.2.2.2.1 (h + 5) (by omega)).2.2.trans q2_5.2.2⟩)
  have u3 : (Z3.1 0 27).toInt = (h : Int) + 6 := by rw [t3]; omega
  have cc3 := cc2.tr (c3.mono (h1 := h) (S1 := fun i => lo ≤ i ∧ i < hi) (S01 := fun i => lo ≤ i ∧ i < hi ∧ i ≠ n) (by omega) (fun i (q : False) => q.elim) (fun i (q : False) => q.elim))
  obtain ⟨k4, p2, Z4, g4, b4, c4, t4, x4, y4⟩ := hB.2.2 Z3 (h + 5) ((p1 + 1) + 1) (X0.1 24 n) 0 ((((hF.tr c0.1 (by decide)).tr c1.1 (by decide)).tr c2.1 (by decide)).tr c3.1 (by decide)) (ixc hB.1).symm (by omega) ⟨by rw [u3]; omega, q3_5⟩ c3.2.1 (by omega) (by omega)
  have bx4 := x4.bd
  have f9 : OA Z4 s 0 n := c4.oa f6 (by omega)
  have f10 : CX Z4 (ix (X0.1 23 n)) (n + 1) m1 sc (s + 1) p1 := f7.cs c4 (by omega) (fun i i1 i2 => ⟨fun (q : (m1 ≤ i ∧ i < m2)) => by omega, fun i3 (q : (m1 ≤ i ∧ i < m2 ∧ i ≠ ix (X0.1 24 n))) => by omega⟩)
  have f11 : OA Z4 p1 6 (ix (X0.1 23 n)) := c4.oa f8 (by omega)
  have f12 : OA Z4 (p1 + 1) 15 n := c4.oa f5 (by omega)
  have q4_0 := (show _ ∧ _ ∧ _ from ⟨(c4.2.2.2.1 (h + 0) (by omega)).1.trans q3_0.1, (c4.2.2.2.1 (h + 0) (by omega)).2.1.trans q3_0.2.1, (c4.2.2.2.1 (h + 0) (by omega)).2.2.trans q3_0.2.2⟩)
  have q4_1 := (show _ ∧ _ ∧ _ from ⟨(c4.2.2.2.1 (h + 1) (by omega)).1.trans q3_1.1, (c4.2.2.2.1 (h + 1) (by omega)).2.1.trans q3_1.2.1, (c4.2.2.2.1 (h + 1) (by omega)).2.2.trans q3_1.2.2⟩)
  have q4_2 := (show _ ∧ _ ∧ _ from ⟨(c4.2.2.2.1 (h + 2) (by omega)).1.trans q3_2.1, (c4.2.2.2.1 (h + 2) (by omega)).2.1.trans q3_2.2.1, (c4.2.2.2.1 (h + 2) (by omega)).2.2.trans q3_2.2.2⟩)
  have q4_3 := (show _ ∧ _ ∧ _ from ⟨(c4.2.2.2.1 (h + 3) (by omega)).1.trans q3_3.1, (c4.2.2.2.1 (h + 3) (by omega)).2.1.trans q3_3.2.1, (c4.2.2.2.1 (h + 3) (by omega)).2.2.trans q3_3.2.2⟩)
  have q4_4 := (show _ ∧ _ ∧ _ from ⟨(c4.2.2.2.1 (h + 4) (by omega)).1.trans q3_4.1, (c4.2.2.2.1 (h + 4) (by omega)).2.1.trans q3_4.2.1, (c4.2.2.2.1 (h + 4) (by omega)).2.2.trans q3_4.2.2⟩)
  have u4 : (Z4.1 0 27).toInt = (h : Int) + 5 := by rw [t4]; omega
  have cc4 := cc3.tr (c4.mono (h1 := h) (S1 := fun i => lo ≤ i ∧ i < hi) (S01 := fun i => lo ≤ i ∧ i < hi ∧ i ≠ n) (by omega) (fun i (q : (m1 ≤ i ∧ i < m2)) => (⟨by omega, by omega⟩ : lo ≤ i ∧ i < hi)) (fun i (q : (m1 ≤ i ∧ i < m2 ∧ i ≠ ix (X0.1 24 n))) => (⟨by omega, by omega, by omega⟩ : lo ≤ i ∧ i < hi ∧ i ≠ n)))
  obtain ⟨Z5, g5, c5, t5, ⟨d5, d5n, d5m⟩, d5k⟩ := st_14 (r7 := r7) (a1 := a1) (show Top Z4 (h + 4) 14 (X0.1 24 n) 0 from ⟨by rw [u4]; omega, q4_4⟩) c4.2.1 (by omega) (by omega) (show inR (X0.1 24 n) 3100 from ⟨hB.1, show (X0.1 24 n).toInt < ((3100 : Nat) : Int) by have := ixc hB.1; omega⟩) (fun _ => False) (fun i => i = ix (X0.1 24 n)) rfl
  have f13 : OA Z5 p2 14 (ix (X0.1 24 n)) := ⟨by rw [d5]; rfl, by rw [d5n]; exact (ixc hB.1).symm⟩
  have f14 : OA Z5 s 0 n := c5.oa f9 (by omega)
  have f15 : CX Z5 (ix (X0.1 23 n)) (n + 1) m1 sc (s + 1) p1 := f10.cs c5 (by omega) (fun i i1 i2 => ⟨fun (q : False) => by omega, fun i3 (q : (i = ix (X0.1 24 n))) => by omega⟩)
  have f16 : OA Z5 p1 6 (ix (X0.1 23 n)) := c5.oa f11 (by omega)
  have f17 : OA Z5 (p1 + 1) 15 n := c5.oa f12 (by omega)
  have f18 : CX Z5 (ix (X0.1 24 n)) m1 m2 sc ((p1 + 1) + 1) p2 := x4.cs c5 (by omega) (fun i i1 i2 => ⟨fun (q : False) => by omega, fun i3 (q : (i = ix (X0.1 24 n))) => by omega⟩)
  have q5_0 := (show _ ∧ _ ∧ _ from ⟨(c5.2.2.2.1 (h + 0) (by omega)).1.trans q4_0.1, (c5.2.2.2.1 (h + 0) (by omega)).2.1.trans q4_0.2.1, (c5.2.2.2.1 (h + 0) (by omega)).2.2.trans q4_0.2.2⟩)
  have q5_1 := (show _ ∧ _ ∧ _ from ⟨(c5.2.2.2.1 (h + 1) (by omega)).1.trans q4_1.1, (c5.2.2.2.1 (h + 1) (by omega)).2.1.trans q4_1.2.1, (c5.2.2.2.1 (h + 1) (by omega)).2.2.trans q4_1.2.2⟩)
  have q5_2 := (show _ ∧ _ ∧ _ from ⟨(c5.2.2.2.1 (h + 2) (by omega)).1.trans q4_2.1, (c5.2.2.2.1 (h + 2) (by omega)).2.1.trans q4_2.2.1, (c5.2.2.2.1 (h + 2) (by omega)).2.2.trans q4_2.2.2⟩)
  have q5_3 := (show _ ∧ _ ∧ _ from ⟨(c5.2.2.2.1 (h + 3) (by omega)).1.trans q4_3.1, (c5.2.2.2.1 (h + 3) (by omega)).2.1.trans q4_3.2.1, (c5.2.2.2.1 (h + 3) (by omega)).2.2.trans q4_3.2.2⟩)
  have u5 : (Z5.1 0 27).toInt = (h : Int) + 4 := by rw [t5]; omega
  have cc5 := cc4.tr (c5.mono (h1 := h) (S1 := fun i => lo ≤ i ∧ i < hi) (S01 := fun i => lo ≤ i ∧ i < hi ∧ i ≠ n) (by omega) (fun i (q : False) => q.elim) (fun i (q : (i = ix (X0.1 24 n))) => (⟨by omega, by omega, by omega⟩ : lo ≤ i ∧ i < hi ∧ i ≠ n)))
  obtain ⟨Z6, g6, c6, t6, ⟨d6, d6n, d6m⟩, d6k⟩ := st_16 (r7 := r7) (a1 := a1) (show Top Z5 (h + 3) 16 nn 0 from ⟨by rw [u5]; omega, q5_3⟩) c5.2.1 (by omega) (by omega) hin (fun i => i = n) (fun _ => False) en
  rw [en] at d6k
  have f19 : OA Z6 (p2 + 1) 16 n := ⟨by rw [d6]; rfl, by rw [d6n]; exact hnn⟩
  have f20 : OA Z6 s 0 n := c6.oa f14 (by omega)
  have f21 : CX Z6 (ix (X0.1 23 n)) (n + 1) m1 sc (s + 1) p1 := f15.cs c6 (by omega) (fun i i1 i2 => ⟨fun (q : (i = n)) => by omega, fun i3 (q : False) => by omega⟩)
  have f22 : OA Z6 p1 6 (ix (X0.1 23 n)) := c6.oa f16 (by omega)
  have f23 : OA Z6 (p1 + 1) 15 n := c6.oa f17 (by omega)
  have f24 : CX Z6 (ix (X0.1 24 n)) m1 m2 sc ((p1 + 1) + 1) p2 := f18.cs c6 (by omega) (fun i i1 i2 => ⟨fun (q : (i = n)) => by omega, fun i3 (q : False) => by omega⟩)
  have f25 : (Z6.1 45 (ix (X0.1 24 n))).toInt = ((p2 : Nat) : Int) := by rw [(c6.2.2.2.2.2.2.2 (ix (X0.1 24 n)) (fun (q : False) => by omega)).1]; exact d5k
  have f26 : OA Z6 p2 14 (ix (X0.1 24 n)) := c6.oa f13 (by omega)
  have q6_0 := (show _ ∧ _ ∧ _ from ⟨(c6.2.2.2.1 (h + 0) (by omega)).1.trans q5_0.1, (c6.2.2.2.1 (h + 0) (by omega)).2.1.trans q5_0.2.1, (c6.2.2.2.1 (h + 0) (by omega)).2.2.trans q5_0.2.2⟩)
  have q6_1 := (show _ ∧ _ ∧ _ from ⟨(c6.2.2.2.1 (h + 1) (by omega)).1.trans q5_1.1, (c6.2.2.2.1 (h + 1) (by omega)).2.1.trans q5_1.2.1, (c6.2.2.2.1 (h + 1) (by omega)).2.2.trans q5_1.2.2⟩)
  have q6_2 := (show _ ∧ _ ∧ _ from ⟨(c6.2.2.2.1 (h + 2) (by omega)).1.trans q5_2.1, (c6.2.2.2.1 (h + 2) (by omega)).2.1.trans q5_2.2.1, (c6.2.2.2.1 (h + 2) (by omega)).2.2.trans q5_2.2.2⟩)
  have u6 : (Z6.1 0 27).toInt = (h : Int) + 3 := by rw [t6]; omega
  have cc6 := cc5.tr (c6.mono (h1 := h) (S1 := fun i => lo ≤ i ∧ i < hi) (S01 := fun i => lo ≤ i ∧ i < hi ∧ i ≠ n) (by omega) (fun i (q : (i = n)) => (⟨by omega, by omega⟩ : lo ≤ i ∧ i < hi)) (fun i (q : False) => q.elim))
  obtain ⟨k7, p3, Z7, g7, b7, c7, t7, x7, y7⟩ := hC.2.2 Z6 (h + 2) ((p2 + 1) + 1) (X0.1 25 n) 0 (((((((hF.tr c0.1 (by decide)).tr c1.1 (by decide)).tr c2.1 (by decide)).tr c3.1 (by decide)).tr c4.1 (by decide)).tr c5.1 (by decide)).tr c6.1 (by decide)) (ixc hC.1).symm (by omega) ⟨by rw [u6]; omega, q6_2⟩ c6.2.1 (by omega) (by omega)
  have bx7 := x7.bd
  have f27 : OA Z7 s 0 n := c7.oa f20 (by omega)
  have f28 : CX Z7 (ix (X0.1 23 n)) (n + 1) m1 sc (s + 1) p1 := f21.cs c7 (by omega) (fun i i1 i2 => ⟨fun (q : (m2 ≤ i ∧ i < hi)) => by omega, fun i3 (q : (m2 ≤ i ∧ i < hi ∧ i ≠ ix (X0.1 25 n))) => by omega⟩)
  have f29 : OA Z7 p1 6 (ix (X0.1 23 n)) := c7.oa f22 (by omega)
  have f30 : OA Z7 (p1 + 1) 15 n := c7.oa f23 (by omega)
  have f31 : CX Z7 (ix (X0.1 24 n)) m1 m2 sc ((p1 + 1) + 1) p2 := f24.cs c7 (by omega) (fun i i1 i2 => ⟨fun (q : (m2 ≤ i ∧ i < hi)) => by omega, fun i3 (q : (m2 ≤ i ∧ i < hi ∧ i ≠ ix (X0.1 25 n))) => by omega⟩)
  have f32 : (Z7.1 45 (ix (X0.1 24 n))).toInt = ((p2 : Nat) : Int) := by rw [(c7.2.2.2.2.2.2.2 (ix (X0.1 24 n)) (fun (q : (m2 ≤ (ix (X0.1 24 n)) ∧ (ix (X0.1 24 n)) < hi ∧ (ix (X0.1 24 n)) ≠ ix (X0.1 25 n))) => by omega)).1]; exact f25
  have f33 : OA Z7 p2 14 (ix (X0.1 24 n)) := c7.oa f26 (by omega)
  have f34 : (Z7.1 46 n).toInt = (((p2 + 1) + 1 : Nat) : Int) := by rw [(c7.2.2.2.2.2.2.1 n (fun (q : (m2 ≤ n ∧ n < hi)) => by omega)).1]; exact d6k
  have f35 : OA Z7 (p2 + 1) 16 n := c7.oa f19 (by omega)
  have q7_0 := (show _ ∧ _ ∧ _ from ⟨(c7.2.2.2.1 (h + 0) (by omega)).1.trans q6_0.1, (c7.2.2.2.1 (h + 0) (by omega)).2.1.trans q6_0.2.1, (c7.2.2.2.1 (h + 0) (by omega)).2.2.trans q6_0.2.2⟩)
  have q7_1 := (show _ ∧ _ ∧ _ from ⟨(c7.2.2.2.1 (h + 1) (by omega)).1.trans q6_1.1, (c7.2.2.2.1 (h + 1) (by omega)).2.1.trans q6_1.2.1, (c7.2.2.2.1 (h + 1) (by omega)).2.2.trans q6_1.2.2⟩)
  have u7 : (Z7.1 0 27).toInt = (h : Int) + 2 := by rw [t7]; omega
  have cc7 := cc6.tr (c7.mono (h1 := h) (S1 := fun i => lo ≤ i ∧ i < hi) (S01 := fun i => lo ≤ i ∧ i < hi ∧ i ≠ n) (by omega) (fun i (q : (m2 ≤ i ∧ i < hi)) => (⟨by omega, by omega⟩ : lo ≤ i ∧ i < hi)) (fun i (q : (m2 ≤ i ∧ i < hi ∧ i ≠ ix (X0.1 25 n))) => (⟨by omega, by omega, by omega⟩ : lo ≤ i ∧ i < hi ∧ i ≠ n)))
  obtain ⟨Z8, g8, c8, t8, ⟨d8, d8n, d8m⟩, d8k⟩ := st_14 (r7 := r7) (a1 := a1) (show Top Z7 (h + 1) 14 (X0.1 25 n) 0 from ⟨by rw [u7]; omega, q7_1⟩) c7.2.1 (by omega) (by omega) (show inR (X0.1 25 n) 3100 from ⟨hC.1, show (X0.1 25 n).toInt < ((3100 : Nat) : Int) by have := ixc hC.1; omega⟩) (fun _ => False) (fun i => i = ix (X0.1 25 n)) rfl
  have f36 : OA Z8 p3 14 (ix (X0.1 25 n)) := ⟨by rw [d8]; rfl, by rw [d8n]; exact (ixc hC.1).symm⟩
  have f37 : OA Z8 s 0 n := c8.oa f27 (by omega)
  have f38 : CX Z8 (ix (X0.1 23 n)) (n + 1) m1 sc (s + 1) p1 := f28.cs c8 (by omega) (fun i i1 i2 => ⟨fun (q : False) => by omega, fun i3 (q : (i = ix (X0.1 25 n))) => by omega⟩)
  have f39 : OA Z8 p1 6 (ix (X0.1 23 n)) := c8.oa f29 (by omega)
  have f40 : OA Z8 (p1 + 1) 15 n := c8.oa f30 (by omega)
  have f41 : CX Z8 (ix (X0.1 24 n)) m1 m2 sc ((p1 + 1) + 1) p2 := f31.cs c8 (by omega) (fun i i1 i2 => ⟨fun (q : False) => by omega, fun i3 (q : (i = ix (X0.1 25 n))) => by omega⟩)
  have f42 : (Z8.1 45 (ix (X0.1 24 n))).toInt = ((p2 : Nat) : Int) := by rw [(c8.2.2.2.2.2.2.2 (ix (X0.1 24 n)) (fun (q : ((ix (X0.1 24 n)) = ix (X0.1 25 n))) => by omega)).1]; exact f32
  have f43 : OA Z8 p2 14 (ix (X0.1 24 n)) := c8.oa f33 (by omega)
  have f44 : (Z8.1 46 n).toInt = (((p2 + 1) + 1 : Nat) : Int) := by rw [(c8.2.2.2.2.2.2.1 n (fun (q : False) => by omega)).1]; exact f34
  have f45 : OA Z8 (p2 + 1) 16 n := c8.oa f35 (by omega)
  have f46 : CX Z8 (ix (X0.1 25 n)) m2 hi sc ((p2 + 1) + 1) p3 := x7.cs c8 (by omega) (fun i i1 i2 => ⟨fun (q : False) => by omega, fun i3 (q : (i = ix (X0.1 25 n))) => by omega⟩)
  have q8_0 := (show _ ∧ _ ∧ _ from ⟨(c8.2.2.2.1 (h + 0) (by omega)).1.trans q7_0.1, (c8.2.2.2.1 (h + 0) (by omega)).2.1.trans q7_0.2.1, (c8.2.2.2.1 (h + 0) (by omega)).2.2.trans q7_0.2.2⟩)
  have u8 : (Z8.1 0 27).toInt = (h : Int) + 1 := by rw [t8]; omega
  have cc8 := cc7.tr (c8.mono (h1 := h) (S1 := fun i => lo ≤ i ∧ i < hi) (S01 := fun i => lo ≤ i ∧ i < hi ∧ i ≠ n) (by omega) (fun i (q : False) => q.elim) (fun i (q : (i = ix (X0.1 25 n))) => (⟨by omega, by omega, by omega⟩ : lo ≤ i ∧ i < hi ∧ i ≠ n)))
  obtain ⟨Z9, g9, c9, t9, ⟨d9, d9n, d9m⟩, d9k, d9x⟩ := st_17 (r7 := r7) (a1 := a1) (show Top Z8 (h + 0) 17 nn 0 from ⟨by rw [u8]; omega, q8_0⟩) c8.2.1 (by omega) (by omega) hin (fun i => i = n) (fun _ => False) en
  rw [en] at d9k
  have f47 : OA Z9 (p3 + 1) 17 n := ⟨by rw [d9]; rfl, by rw [d9n]; exact hnn⟩
  have f48 : OA Z9 s 0 n := c9.oa f37 (by omega)
  have f49 : CX Z9 (ix (X0.1 23 n)) (n + 1) m1 sc (s + 1) p1 := f38.cs c9 (by omega) (fun i i1 i2 => ⟨fun (q : (i = n)) => by omega, fun i3 (q : False) => by omega⟩)
  have f50 : OA Z9 p1 6 (ix (X0.1 23 n)) := c9.oa f39 (by omega)
  have f51 : OA Z9 (p1 + 1) 15 n := c9.oa f40 (by omega)
  have f52 : CX Z9 (ix (X0.1 24 n)) m1 m2 sc ((p1 + 1) + 1) p2 := f41.cs c9 (by omega) (fun i i1 i2 => ⟨fun (q : (i = n)) => by omega, fun i3 (q : False) => by omega⟩)
  have f53 : (Z9.1 45 (ix (X0.1 24 n))).toInt = ((p2 : Nat) : Int) := by rw [(c9.2.2.2.2.2.2.2 (ix (X0.1 24 n)) (fun (q : False) => by omega)).1]; exact f42
  have f54 : OA Z9 p2 14 (ix (X0.1 24 n)) := c9.oa f43 (by omega)
  have f55 : (Z9.1 46 n).toInt = (((p2 + 1) + 1 : Nat) : Int) := by rw [(d9x n)]; exact f44
  have f56 : OA Z9 (p2 + 1) 16 n := c9.oa f45 (by omega)
  have f57 : CX Z9 (ix (X0.1 25 n)) m2 hi sc ((p2 + 1) + 1) p3 := f46.cs c9 (by omega) (fun i i1 i2 => ⟨fun (q : (i = n)) => by omega, fun i3 (q : False) => by omega⟩)
  have f58 : (Z9.1 45 (ix (X0.1 25 n))).toInt = ((p3 : Nat) : Int) := by rw [(c9.2.2.2.2.2.2.2 (ix (X0.1 25 n)) (fun (q : False) => by omega)).1]; exact d8k
  have f59 : OA Z9 p3 14 (ix (X0.1 25 n)) := c9.oa f36 (by omega)
  have u9 : (Z9.1 0 27).toInt = (h : Int) + 0 := by rw [t9]; omega
  have cc9 := cc8.tr (c9.mono (h1 := h) (S1 := fun i => lo ≤ i ∧ i < hi) (S01 := fun i => lo ≤ i ∧ i < hi ∧ i ≠ n) (by omega) (fun i (q : (i = n)) => (⟨by omega, by omega⟩ : lo ≤ i ∧ i < hi)) (fun i (q : False) => q.elim))
  have hFz : Fr YR [26, 27, 8000, 8200, 8400, 8600, 9000, 9200, 9400, 9600, 9800, 10000, 10200] X0 Z9 := ((((((((((hF.tr c0.1 (by decide)).tr c1.1 (by decide)).tr c2.1 (by decide)).tr c3.1 (by decide)).tr c4.1 (by decide)).tr c5.1 (by decide)).tr c6.1 (by decide)).tr c7.1 (by decide)).tr c8.1 (by decide)).tr c9.1 (by decide))
  have z20 : Z9.1 20 n = X0.1 20 n := hFz.1 20 n (show (4000 : Nat) ∉ [26, 27, 8000, 8200, 8400, 8600, 9000, 9200, 9400, 9600, 9800, 10000, 10200] from by decide)
  have z23 : Z9.1 23 n = X0.1 23 n := hFz.1 23 n (show (4600 : Nat) ∉ [26, 27, 8000, 8200, 8400, 8600, 9000, 9200, 9400, 9600, 9800, 10000, 10200] from by decide)
  have z24 : Z9.1 24 n = X0.1 24 n := hFz.1 24 n (show (4800 : Nat) ∉ [26, 27, 8000, 8200, 8400, 8600, 9000, 9200, 9400, 9600, 9800, 10000, 10200] from by decide)
  have z25 : Z9.1 25 n = X0.1 25 n := hFz.1 25 n (show (5000 : Nat) ∉ [26, 27, 8000, 8200, 8400, 8600, 9000, 9200, 9400, 9600, 9800, 10000, 10200] from by decide)
  have z26 : Z9.1 26 n = X0.1 26 n := hFz.1 26 n (show (5200 : Nat) ∉ [26, 27, 8000, 8200, 8400, 8600, 9000, 9200, 9400, 9600, 9800, 10000, 10200] from by decide)
  have z27 : Z9.1 27 n = X0.1 27 n := hFz.1 27 n (show (5400 : Nat) ∉ [26, 27, 8000, 8200, 8400, 8600, 9000, 9200, 9400, 9600, 9800, 10000, 10200] from by decide)
  refine ⟨1 + k1 + 1 + 1 + k4 + 1 + 1 + k7 + 1 + 1, ((p3 + 1) + 1), Z9, (((((((((g0.tr g1).tr g2).tr g3).tr g4).tr g5).tr g6).tr g7).tr g8).tr g9), by omega, cc9, by rw [u9]; omega, ?_, by omega⟩
  exact CX.intro ⟨by omega, by omega, by omega, f48, (Or.inr (Or.inr (Or.inr (Or.inr (Or.inr (Or.inr (Or.inr (Or.inl ⟨hl, (by rw [z20]; exact hk), m1, m2, p1, p2, p3, ⟨by rw [z23]; exact hA.1, by rw [z23]; exact f49⟩, (by rw [z23]; exact f50), f51, ⟨by rw [z24]; exact hB.1, by rw [z24]; exact f52⟩, (by rw [z24]; exact f54), by rw [z24]; exact f53, f56, f55, ⟨by rw [z25]; exact hC.1, by rw [z25]; exact f57⟩, (by rw [z25]; exact f59), by rw [z25]; exact f58, f47, d9k, rfl⟩))))))))⟩
set_option maxHeartbeats 4000000 in
theorem pc_17 {r7 : Int32 → St → Option (Int32 × St)} {a1 : Int32} {X0 : St} {n lo hi : Nat} {sc : Int} (hlo : lo ≤ n) (hhi0 : n < hi) (hk : (X0.1 20 n).toInt = 17) {m : Nat} (hl : n = lo) (hv : (X0.1 26 n).toInt = sc ∧ 0 ≤ sc ∧ sc ≤ 43) (hA : CHR (fun n lo hi sc => WX X0 n lo hi sc ∧ PC r7 a1 X0 n lo hi sc) X0 23 n (n + 1) m sc) (hB : CHR (fun n lo hi sc => WX X0 n lo hi sc ∧ PC r7 a1 X0 n lo hi sc) X0 24 n m hi (sc + 1)) : PC r7 a1 X0 n lo hi sc := by
  intro X h s nn m0 hF hnn hhi ht hs hb hb2
  have hbA := hA.2.1.bd
  have hbB := hB.2.1.bd
  have en : ix nn = n := by
    have := ixc (z := nn) (by omega)
    omega
  have hin : inR nn 3100 := ⟨by omega, show nn.toInt < ((3100 : Nat) : Int) by omega⟩
  have e20 : X.1 20 n = X0.1 20 n := hF.1 20 n (show (4000 : Nat) ∉ [26, 27, 8000, 8200, 8400, 8600, 9000, 9200, 9400, 9600, 9800, 10000, 10200] from by decide)
  have e23 : X.1 23 n = X0.1 23 n := hF.1 23 n (show (4600 : Nat) ∉ [26, 27, 8000, 8200, 8400, 8600, 9000, 9200, 9400, 9600, 9800, 10000, 10200] from by decide)
  have e24 : X.1 24 n = X0.1 24 n := hF.1 24 n (show (4800 : Nat) ∉ [26, 27, 8000, 8200, 8400, 8600, 9000, 9200, 9400, 9600, 9800, 10000, 10200] from by decide)
  obtain ⟨Z0, g0, c0, t0, ⟨o0, o0n⟩, l0⟩ := st_40 (r7 := r7) (a1 := a1) (L := [(40, (X0.1 24 n), 0), (13, nn, 0), (12, nn, 0), (40, (X0.1 23 n), 0)]) ht hs (by omega) (by omega) (fun W hW hw => by
    have q := tells_17 (X := W) (p1 := nn) hin (by rw [hW 20 ⟨by decide, by decide⟩, en, e20]; exact hk) (by omega)
    rw [hW 23 ⟨by decide, by decide⟩ (ix nn), hW 24 ⟨by decide, by decide⟩ (ix nn)] at q; rw [en, e23, e24] at q
    exact q) (fun _ => False) (fun _ => False)
  have f0 : OA Z0 s 0 n := ⟨by rw [o0]; rfl, by rw [o0n]; exact hnn⟩
  have q0_0 : Z0.1 48 (h + 0) = ((40, (X0.1 24 n), 0) : Int32 × Int32 × Int32).1 ∧ Z0.1 49 (h + 0) = ((40, (X0.1 24 n), 0) : Int32 × Int32 × Int32).2.1 ∧ Z0.1 50 (h + 0) = ((40, (X0.1 24 n), 0) : Int32 × Int32 × Int32).2.2 := l0 0 (40, (X0.1 24 n), 0) rfl
  have q0_1 : Z0.1 48 (h + 1) = ((13, nn, 0) : Int32 × Int32 × Int32).1 ∧ Z0.1 49 (h + 1) = ((13, nn, 0) : Int32 × Int32 × Int32).2.1 ∧ Z0.1 50 (h + 1) = ((13, nn, 0) : Int32 × Int32 × Int32).2.2 := l0 1 (13, nn, 0) rfl
  have q0_2 : Z0.1 48 (h + 2) = ((12, nn, 0) : Int32 × Int32 × Int32).1 ∧ Z0.1 49 (h + 2) = ((12, nn, 0) : Int32 × Int32 × Int32).2.1 ∧ Z0.1 50 (h + 2) = ((12, nn, 0) : Int32 × Int32 × Int32).2.2 := l0 2 (12, nn, 0) rfl
  have q0_3 : Z0.1 48 (h + 3) = ((40, (X0.1 23 n), 0) : Int32 × Int32 × Int32).1 ∧ Z0.1 49 (h + 3) = ((40, (X0.1 23 n), 0) : Int32 × Int32 × Int32).2.1 ∧ Z0.1 50 (h + 3) = ((40, (X0.1 23 n), 0) : Int32 × Int32 × Int32).2.2 := l0 3 (40, (X0.1 23 n), 0) rfl
  have u0 : (Z0.1 0 27).toInt = (h : Int) + 4 := by rw [t0]; rfl
  obtain ⟨k1, p1, Z1, g1, b1, c1, t1, x1, y1⟩ := hA.2.2 Z0 (h + 3) (s + 1) (X0.1 23 n) 0 (hF.tr c0.1 (by decide)) (ixc hA.1).symm (by omega) ⟨by rw [u0]; omega, q0_3⟩ c0.2.1 (by omega) (by omega)
  have bx1 := x1.bd
  have f1 : OA Z1 s 0 n := c1.oa f0 (by omega)
  have q1_0 := (show _ ∧ _ ∧ _ from ⟨(c1.2.2.2.1 (h + 0) (by omega)).1.trans q0_0.1, (c1.2.2.2.1 (h + 0) (by omega)).2.1.trans q0_0.2.1, (c1.2.2.2.1 (h + 0) (by omega)).2.2.trans q0_0.2.2⟩)
  have q1_1 := (show _ ∧ _ ∧ _ from ⟨(c1.2.2.2.1 (h + 1) (by omega)).1.trans q0_1.1, (c1.2.2.2.1 (h + 1) (by omega)).2.1.trans q0_1.2.1, (c1.2.2.2.1 (h + 1) (by omega)).2.2.trans q0_1.2.2⟩)
  have q1_2 := (show _ ∧ _ ∧ _ from ⟨(c1.2.2.2.1 (h + 2) (by omega)).1.trans q0_2.1, (c1.2.2.2.1 (h + 2) (by omega)).2.1.trans q0_2.2.1, (c1.2.2.2.1 (h + 2) (by omega)).2.2.trans q0_2.2.2⟩)
  have u1 : (Z1.1 0 27).toInt = (h : Int) + 3 := by rw [t1]; omega
  have cc1 := (c0.mono (h1 := h) (S1 := fun i => lo ≤ i ∧ i < hi) (S01 := fun i => lo ≤ i ∧ i < hi ∧ i ≠ n) (by omega) (fun i q => q.elim) (fun i q => q.elim)).tr (c1.mono (h1 := h) (S1 := fun i => lo ≤ i ∧ i < hi) (S01 := fun i => lo ≤ i ∧ i < hi ∧ i ≠ n) (by omega) (fun i (q : ((n + 1) ≤ i ∧ i < m)) => (⟨by omega, by omega⟩ : lo ≤ i ∧ i < hi)) (fun i (q : ((n + 1) ≤ i ∧ i < m ∧ i ≠ ix (X0.1 23 n))) => (⟨by omega, by omega, by omega⟩ : lo ≤ i ∧ i < hi ∧ i ≠ n)))
  obtain ⟨Z2, g2, c2, t2, d2, d2n, d2m⟩ := st_ord (r7 := r7) (a1 := a1) (show Top Z1 (h + 2) 12 nn 0 from ⟨by rw [u1]; omega, q1_2⟩) c1.2.1 (by omega) (by omega) (by decide) (fun _ => False) (fun _ => False)
  have f2 : OA Z2 p1 12 n := ⟨by rw [d2]; rfl, by rw [d2n]; exact hnn⟩
  have f3 : OA Z2 s 0 n := c2.oa f1 (by omega)
  have f4 : CX Z2 (ix (X0.1 23 n)) (n + 1) m sc (s + 1) p1 := x1.cs c2 (by omega) (fun i i1 i2 => ⟨fun (q : False) => by omega, fun i3 (q : False) => by omega⟩)
  have q2_0 := (show _ ∧ _ ∧ _ from ⟨(c2.2.2.2.1 (h + 0) (by omega)).1.trans q1_0.1, (c2.2.2.2.1 (h + 0) (by omega)).2.1.trans q1_0.2.1, (c2.2.2.2.1 (h + 0) (by omega)).2.2.trans q1_0.2.2⟩)
  have q2_1 := (show _ ∧ _ ∧ _ from ⟨(c2.2.2.2.1 (h + 1) (by omega)).1.trans q1_1.1, (c2.2.2.2.1 (h + 1) (by omega)).2.1.trans q1_1.2.1, (c2.2.2.2.1 (h + 1) (by omega)).2.2.trans q1_1.2.2⟩)
  have u2 : (Z2.1 0 27).toInt = (h : Int) + 2 := by rw [t2]; omega
  have cc2 := cc1.tr (c2.mono (h1 := h) (S1 := fun i => lo ≤ i ∧ i < hi) (S01 := fun i => lo ≤ i ∧ i < hi ∧ i ≠ n) (by omega) (fun i (q : False) => q.elim) (fun i (q : False) => q.elim))
  obtain ⟨Z3, g3, c3, t3, d3, d3n, d3m⟩ := st_ord (r7 := r7) (a1 := a1) (show Top Z2 (h + 1) 13 nn 0 from ⟨by rw [u2]; omega, q2_1⟩) c2.2.1 (by omega) (by omega) (by decide) (fun _ => False) (fun _ => False)
  have f5 : OA Z3 (p1 + 1) 13 n := ⟨by rw [d3]; rfl, by rw [d3n]; exact hnn⟩
  have f6 : OA Z3 s 0 n := c3.oa f3 (by omega)
  have f7 : CX Z3 (ix (X0.1 23 n)) (n + 1) m sc (s + 1) p1 := f4.cs c3 (by omega) (fun i i1 i2 => ⟨fun (q : False) => by omega, fun i3 (q : False) => by omega⟩)
  have f8 : OA Z3 p1 12 n := c3.oa f2 (by omega)
  have q3_0 := (show _ ∧ _ ∧ _ from ⟨(c3.2.2.2.1 (h + 0) (by omega)).1.trans q2_0.1, (c3.2.2.2.1 (h + 0) (by omega)).2.1.trans q2_0.2.1, (c3.2.2.2.1 (h + 0) (by omega)).2.2.trans q2_0.2.2⟩)
  have u3 : (Z3.1 0 27).toInt = (h : Int) + 1 := by rw [t3]; omega
  have cc3 := cc2.tr (c3.mono (h1 := h) (S1 := fun i => lo ≤ i ∧ i < hi) (S01 := fun i => lo ≤ i ∧ i < hi ∧ i ≠ n) (by omega) (fun i (q : False) => q.elim) (fun i (q : False) => q.elim))
  obtain ⟨k4, p2, Z4, g4, b4, c4, t4, x4, y4⟩ := hB.2.2 Z3 (h + 0) ((p1 + 1) + 1) (X0.1 24 n) 0 ((((hF.tr c0.1 (by decide)).tr c1.1 (by decide)).tr c2.1 (by decide)).tr c3.1 (by decide)) (ixc hB.1).symm (by omega) ⟨by rw [u3]; omega, q3_0⟩ c3.2.1 (by omega) (by omega)
  have bx4 := x4.bd
  have f9 : OA Z4 s 0 n := c4.oa f6 (by omega)
  have f10 : CX Z4 (ix (X0.1 23 n)) (n + 1) m sc (s + 1) p1 := f7.cs c4 (by omega) (fun i i1 i2 => ⟨fun (q : (m ≤ i ∧ i < hi)) => by omega, fun i3 (q : (m ≤ i ∧ i < hi ∧ i ≠ ix (X0.1 24 n))) => by omega⟩)
  have f11 : OA Z4 p1 12 n := c4.oa f8 (by omega)
  have f12 : OA Z4 (p1 + 1) 13 n := c4.oa f5 (by omega)
  have u4 : (Z4.1 0 27).toInt = (h : Int) + 0 := by rw [t4]; omega
  have cc4 := cc3.tr (c4.mono (h1 := h) (S1 := fun i => lo ≤ i ∧ i < hi) (S01 := fun i => lo ≤ i ∧ i < hi ∧ i ≠ n) (by omega) (fun i (q : (m ≤ i ∧ i < hi)) => (⟨by omega, by omega⟩ : lo ≤ i ∧ i < hi)) (fun i (q : (m ≤ i ∧ i < hi ∧ i ≠ ix (X0.1 24 n))) => (⟨by omega, by omega, by omega⟩ : lo ≤ i ∧ i < hi ∧ i ≠ n)))
  have hFz : Fr YR [26, 27, 8000, 8200, 8400, 8600, 9000, 9200, 9400, 9600, 9800, 10000, 10200] X0 Z4 := (((((hF.tr c0.1 (by decide)).tr c1.1 (by decide)).tr c2.1 (by decide)).tr c3.1 (by decide)).tr c4.1 (by decide))
  have z20 : Z4.1 20 n = X0.1 20 n := hFz.1 20 n (show (4000 : Nat) ∉ [26, 27, 8000, 8200, 8400, 8600, 9000, 9200, 9400, 9600, 9800, 10000, 10200] from by decide)
  have z23 : Z4.1 23 n = X0.1 23 n := hFz.1 23 n (show (4600 : Nat) ∉ [26, 27, 8000, 8200, 8400, 8600, 9000, 9200, 9400, 9600, 9800, 10000, 10200] from by decide)
  have z24 : Z4.1 24 n = X0.1 24 n := hFz.1 24 n (show (4800 : Nat) ∉ [26, 27, 8000, 8200, 8400, 8600, 9000, 9200, 9400, 9600, 9800, 10000, 10200] from by decide)
  have z25 : Z4.1 25 n = X0.1 25 n := hFz.1 25 n (show (5000 : Nat) ∉ [26, 27, 8000, 8200, 8400, 8600, 9000, 9200, 9400, 9600, 9800, 10000, 10200] from by decide)
  have z26 : Z4.1 26 n = X0.1 26 n := hFz.1 26 n (show (5200 : Nat) ∉ [26, 27, 8000, 8200, 8400, 8600, 9000, 9200, 9400, 9600, 9800, 10000, 10200] from by decide)
  have z27 : Z4.1 27 n = X0.1 27 n := hFz.1 27 n (show (5400 : Nat) ∉ [26, 27, 8000, 8200, 8400, 8600, 9000, 9200, 9400, 9600, 9800, 10000, 10200] from by decide)
  refine ⟨1 + k1 + 1 + 1 + k4, p2, Z4, ((((g0.tr g1).tr g2).tr g3).tr g4), by omega, cc4, by rw [u4]; omega, ?_, by omega⟩
  exact CX.intro ⟨by omega, by omega, by omega, f9, (Or.inr (Or.inr (Or.inr (Or.inr (Or.inr (Or.inr (Or.inr (Or.inr (Or.inl ⟨hl, (by rw [z20]; exact hk), by rw [z26]; exact hv.1, hv.2.1, hv.2.2, m, p1, ⟨by rw [z23]; exact hA.1, by rw [z23]; exact f10⟩, f11, f12, ⟨by rw [z24]; exact hB.1, by rw [z24]; exact x4⟩⟩)))))))))⟩
