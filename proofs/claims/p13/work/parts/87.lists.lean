/-! what a node's task does -/
theorem st_push {r7 : Int32 → St → Option (Int32 × St)} {a1 : Int32} {X : St} {h s : Nat} {o n m : Int32} {L : List (Int32 × Int32 × Int32)} (ht : Top X h o n m) (hs : (X.1 0 26).toInt = (s : Int)) (hh : h < 13000) (hT : ∀ W : St, (∀ i, W.1 28 i = X.1 28 i) → (W.1 0 27).toInt = (h : Int) → ok (f_goesOn o n m W) (fun _ Y => TP [27, 9600, 9800, 10000] W Y L)) (S S0 : Nat → Prop) : ∃ Y, Go r7 a1 1 X Y ∧ CS X Y h s s S S0 ∧ (Y.1 0 27).toInt = (h : Int) + L.length ∧ ∀ j x, L[j]? = some x → Y.1 48 (h + j) = x.1 ∧ Y.1 49 (h + j) = x.2.1 ∧ Y.1 50 (h + j) = x.2.2 := by
  obtain ⟨W, Y, hF, hw, hg, hq⟩ := pop (r7 := r7) (a1 := a1) (Q := fun Y => CS X Y h s s S S0 ∧ (Y.1 0 27).toInt = (h : Int) + L.length ∧ ∀ j x, L[j]? = some x → Y.1 48 (h + j) = x.1 ∧ Y.1 49 (h + j) = x.2.1 ∧ Y.1 50 (h + j) = x.2.2) ht hh (fun W hF hw => by
    refine (hT W (fun i => hF.1 28 i (show (5600 : Nat) ∉ [27] from by decide)) hw).mono ?_
    rintro - Y ⟨t1, t2, t3, t4⟩
    have eh : ix (W.1 0 27) = h := by
      have := ixc (z := W.1 0 27) (by omega)
      omega
    rw [eh] at t4
    have c0 : CS X W h s s S S0 := ⟨hF.mono (by decide), by rw [hF.1 0 26 (by decide)]; exact hs, Nat.le_refl _, fun i _ => ⟨hF.1 48 i (show (9600 : Nat) ∉ [27] from by decide), hF.1 49 i (show (9800 : Nat) ∉ [27] from by decide), hF.1 50 i (show (10000 : Nat) ∉ [27] from by decide)⟩, fun i _ => ⟨hF.1 40 i (show (8000 : Nat) ∉ [27] from by decide), hF.1 41 i (show (8200 : Nat) ∉ [27] from by decide), hF.1 42 i (show (8400 : Nat) ∉ [27] from by decide), hF.1 43 i (show (8600 : Nat) ∉ [27] from by decide)⟩, fun i h1 h2 => by omega, fun i _ => ⟨hF.1 46 i (show (9200 : Nat) ∉ [27] from by decide), hF.1 47 i (show (9400 : Nat) ∉ [27] from by decide)⟩, fun i _ => ⟨hF.1 45 i (show (9000 : Nat) ∉ [27] from by decide), hF.1 51 i (show (10200 : Nat) ∉ [27] from by decide)⟩⟩
    exact ⟨TP.after c0 t1 (fun i hi => t3 i (by omega)), by rw [t2, hw], t4⟩)
  exact ⟨Y, hg, hq⟩
def PC (r7 : Int32 → St → Option (Int32 × St)) (a1 : Int32) (X0 : St) (n lo hi : Nat) (sc : Int) : Prop := ∀ (X : St) (h s : Nat) (nn m : Int32), Fr YR [26, 27, 8000, 8200, 8400, 8600, 9000, 9200, 9400, 9600, 9800, 10000, 10200] X0 X → nn.toInt = (n : Int) → hi ≤ 3100 → Top X h 40 nn m → (X.1 0 26).toInt = (s : Int) → h + 3 * hi + 10 ≤ 13000 + 3 * lo → s + 5 * hi ≤ 24000 + 5 * lo → ∃ c e Y, Go r7 a1 c X Y ∧ c + 2 + 12 * lo ≤ 12 * hi ∧ CS X Y h s e (fun i => lo ≤ i ∧ i < hi) (fun i => lo ≤ i ∧ i < hi ∧ i ≠ n) ∧ (Y.1 0 27).toInt = (h : Int) ∧ CX Y n lo hi sc s e ∧ e + 2 + 5 * lo ≤ s + 5 * hi
theorem LM.cs {X Y : St} {n x i m md p q : Nat} (h : LM X n x i m md p q) {hb s e : Nat} {S S0 : Nat → Prop} (hc : CS X Y hb s e S S0) (hq : q ≤ s) (hS : ¬ S0 x) : LM Y n x i m md p q := by
  obtain ⟨e45, e51⟩ := hc.2.2.2.2.2.2.2 x hS
  rcases h with ⟨a1, a2, a3, a4⟩ | ⟨a1, ⟨a2, a3, a4⟩ | ⟨a2, a3⟩⟩ | ⟨a1, a2, a3, a4, a5⟩
  · exact Or.inl ⟨a1, hc.oa a2 (by omega), by rw [e45]; exact a3, a4⟩
  · exact Or.inr (Or.inl ⟨a1, Or.inl ⟨a2, hc.oa a3 (by omega), a4⟩⟩)
  · exact Or.inr (Or.inl ⟨a1, Or.inr ⟨a2, a3⟩⟩)
  · exact Or.inr (Or.inr ⟨a1, hc.oa a2 (by omega), by rw [(hc.2.2.2.2.1 p (by omega)).2.2.1]; exact a3, by rw [e51]; exact a4, a5⟩)
theorem LM.le {X : St} {n x i m md p q : Nat} (h : LM X n x i m md p q) : p ≤ q := by
  rcases h with ⟨_, _, _, q⟩ | ⟨_, ⟨_, _, q⟩ | ⟨_, q⟩⟩ | ⟨_, _, _, _, q⟩ <;> omega
set_option maxHeartbeats 4000000 in
theorem list_0 {r7 : Int32 → St → Option (Int32 × St)} {a1 : Int32} {X0 : St} {n l r : Nat} {sc : Int} {it cu : Nat → Nat} {m : Nat} (hcu : cu m = r) (hr : r ≤ 3100) (hI : ∀ i, i < m → (WX X0 (it i) (cu i) (cu (i + 1)) sc ∧ PC r7 a1 X0 (it i) (cu i) (cu (i + 1)) sc) ∧ (i + 1 < m → 0 ≤ (X0.1 28 (it i)).toInt ∧ ix (X0.1 28 (it i)) = it (i + 1)) ∧ (i + 1 = m → (X0.1 28 (it i)).toInt < 0)) (hle : ∀ i, i < m → cu i ≤ it i ∧ it i < cu (i + 1) ∧ cu (i + 1) ≤ r) : ∀ (d i : Nat), i + d + 1 = m → ∀ (X : St) (h s : Nat) (nn mm : Int32), Fr YR [26, 27, 8000, 8200, 8400, 8600, 9000, 9200, 9400, 9600, 9800, 10000, 10200] X0 X → nn.toInt = (it i : Int) → Top X h 41 nn mm → mm.toInt = 0 → (X.1 0 26).toInt = (s : Int) → h + 3 * r + 11 ≤ 13000 + 3 * cu i → s + 5 * r ≤ 24000 + 5 * cu i → ∃ c e Y, ∃ ps : Nat → Nat, Go r7 a1 c X Y ∧ c + 12 * cu i ≤ 12 * r ∧ CS X Y h s e (fun k => cu i ≤ k ∧ k < r) (fun k => cu i ≤ k ∧ k < r) ∧ (Y.1 0 27).toInt = (h : Int) ∧ ps i = s ∧ ps m = e ∧ (∀ j, i ≤ j → j < m → ∃ p, CX Y (it j) (cu j) (cu (j + 1)) sc (ps j) p ∧ LM Y n (it j) j m 0 p (ps (j + 1))) ∧ e + 5 * cu i ≤ s + 5 * r := by
  intro d
  induction d with
  | zero =>
    intro i hi X h s nn mm hF hnn ht hmm hs hb hb2
    obtain ⟨⟨hw, hp⟩, hn1, hn2⟩ := hI i (by omega)
    have hli := hle i (by omega)
    have en : ix nn = it i := by
      have := ixc (z := nn) (by omega)
      omega
    have hin : inR nn 3100 := ⟨by omega, show nn.toInt < ((3100 : Nat) : Int) by omega⟩
    have e28 : X.1 28 (it i) = X0.1 28 (it i) := hF.1 28 _ (show (5600 : Nat) ∉ [26, 27, 8000, 8200, 8400, 8600, 9000, 9200, 9400, 9600, 9800, 10000, 10200] from by decide)
    obtain ⟨Z0, g0, c0, t0, l0⟩ := st_push (r7 := r7) (a1 := a1) (L := [(14, nn, 0), (40, nn, 0)]) ht hs (by omega) (fun W hW hw2 => item_0l (X := W) (p1 := 41) rfl hmm hin (by rw [hW, en, e28]; exact hn2 (by omega)) (by omega)) (fun _ => False) (fun _ => False)
    have q1 : Z0.1 48 (h + 1) = 40 ∧ Z0.1 49 (h + 1) = nn ∧ Z0.1 50 (h + 1) = 0 := l0 1 (40, nn, 0) rfl
    obtain ⟨c, e, Z1, g1, b1, c1, t1, x1, y1⟩ := hp Z0 (h + 1) s nn 0 (hF.tr c0.1 (by decide)) hnn (by omega) ⟨by rw [t0]; show (h : Int) + ((2 : Nat) : Int) = ((h + 1 : Nat) : Int) + 1; omega, q1⟩ c0.2.1 (by omega) (by omega)
    obtain ⟨Z2, g2, c2, t2, ⟨d40, d41, d42⟩, d45⟩ := st_14 (r7 := r7) (a1 := a1) (X := Z1) (h := h + 0) (s := e) (n := nn) (m := 0) (Top.cs c1 (l0 0 (14, nn, 0) rfl) (by omega) (by rw [t1]; omega)) c1.2.1 (by omega) (by omega) hin (fun _ => False) (fun k => k = it i) en
    rw [en] at d45
    have ei : cu (i + 1) = r := by rw [show i + 1 = m by omega]; exact hcu
    obtain ⟨pz, ps1, ps2⟩ : ∃ pz : Nat → Nat, (∀ k, k ≤ i → pz k = s) ∧ (∀ k, i < k → pz k = (e + 1)) := ⟨fun k => if k ≤ i then s else (e + 1), fun k hk => if_pos hk, fun k hk => if_neg (by omega)⟩
    refine ⟨1 + c + 1, e + 1, Z2, pz, (g0.tr g1).tr g2, by omega, ((c0.mono (h1 := h) (S1 := fun k => cu i ≤ k ∧ k < r) (S01 := fun k => cu i ≤ k ∧ k < r) (Nat.le_refl _) (fun k q => q.elim) (fun k q => q.elim)).tr (c1.mono (h1 := h) (S1 := fun k => cu i ≤ k ∧ k < r) (S01 := fun k => cu i ≤ k ∧ k < r) (by omega) (fun k (q : cu i ≤ k ∧ k < cu (i + 1)) => (⟨by omega, by omega⟩ : cu i ≤ k ∧ k < r)) (fun k (q : cu i ≤ k ∧ k < cu (i + 1) ∧ k ≠ it i) => (⟨by omega, by omega⟩ : cu i ≤ k ∧ k < r)))).tr (c2.mono (h1 := h) (S1 := fun k => cu i ≤ k ∧ k < r) (S01 := fun k => cu i ≤ k ∧ k < r) (by omega) (fun k q => q.elim) (fun k (q : k = it i) => (⟨by omega, by omega⟩ : cu i ≤ k ∧ k < r))), by rw [t2]; show ((h + 0 : Nat) : Int) = (h : Int); omega, ps1 i (Nat.le_refl _), ps2 m (by omega), fun j j1 j2 => ?_, by omega⟩
    have ej : j = i := by omega
    subst ej
    rw [ps1 j (Nat.le_refl _), ps2 (j + 1) (by omega)]
    exact ⟨e, x1.cs c2 (Nat.le_refl _) (fun k _ _ => ⟨fun q => q, fun q1 (q : k = it j) => q1 q⟩), (Or.inl ⟨rfl, ⟨by rw [d40]; rfl, by rw [d41]; exact hnn⟩, d45, rfl⟩)⟩
  | succ d ih =>
    intro i hi X h s nn mm hF hnn ht hmm hs hb hb2
    obtain ⟨⟨hw, hp⟩, hn1, hn2⟩ := hI i (by omega)
    have hli := hle i (by omega)
    have en : ix nn = it i := by
      have := ixc (z := nn) (by omega)
      omega
    have hin : inR nn 3100 := ⟨by omega, show nn.toInt < ((3100 : Nat) : Int) by omega⟩
    have e28 : X.1 28 (it i) = X0.1 28 (it i) := hF.1 28 _ (show (5600 : Nat) ∉ [26, 27, 8000, 8200, 8400, 8600, 9000, 9200, 9400, 9600, 9800, 10000, 10200] from by decide)
    obtain ⟨hn3, hn4⟩ := hn1 (by omega)
    have en1 := ixc hn3
    obtain ⟨Z0, g0, c0, t0, l0⟩ := st_push (r7 := r7) (a1 := a1) (L := [(41, (X0.1 28 (it i)), mm), (14, nn, 0), (40, nn, 0)]) ht hs (by omega) (fun W hW hw2 => by
      have q := item_0 (X := W) (p1 := 41) (p2 := nn) (p3 := mm) rfl hmm hin (by rw [hW, en, e28]; exact hn3) (by omega)
      rw [hW, en, e28] at q
      exact q) (fun _ => False) (fun _ => False)
    have q2 : Z0.1 48 (h + 2) = 40 ∧ Z0.1 49 (h + 2) = nn ∧ Z0.1 50 (h + 2) = 0 := l0 2 (40, nn, 0) rfl
    have hli2 := hle (i + 1) (by omega)
    obtain ⟨c, e, Z1, g1, b1, c1, t1, x1, y1⟩ := hp Z0 (h + 2) s nn 0 (hF.tr c0.1 (by decide)) hnn (by omega) ⟨by rw [t0]; show (h : Int) + ((3 : Nat) : Int) = ((h + 2 : Nat) : Int) + 1; omega, q2⟩ c0.2.1 (by omega) (by omega)
    obtain ⟨Z2, g2, c2, t2, ⟨d40, d41, d42⟩, d45⟩ := st_14 (r7 := r7) (a1 := a1) (X := Z1) (h := h + 1) (s := e) (n := nn) (m := 0) (Top.cs c1 (l0 1 (14, nn, 0) rfl) (by omega) (by rw [t1]; omega)) c1.2.1 (by omega) (by omega) hin (fun _ => False) (fun k => k = it i) en
    rw [en] at d45
    have r0 : Z2.1 48 h = 41 ∧ Z2.1 49 h = X0.1 28 (it i) ∧ Z2.1 50 h = mm := by
      obtain ⟨a, b, f⟩ := l0 0 (41, (X0.1 28 (it i)), mm) rfl
      obtain ⟨a1', b1', f1'⟩ := c1.2.2.2.1 h (by omega)
      obtain ⟨a2', b2', f2'⟩ := c2.2.2.2.1 h (by omega)
      exact ⟨a2'.trans (a1'.trans a), b2'.trans (b1'.trans b), f2'.trans (f1'.trans f)⟩
    obtain ⟨c', e', Y, ps, g3, b3, c3, t3, s3, f3, k3, y3⟩ := ih (i + 1) (by omega) Z2 h (e + 1) (X0.1 28 (it i)) mm (((hF.tr c0.1 (by decide)).tr c1.1 (by decide)).tr c2.1 (by decide)) (by omega) ⟨by rw [t2]; omega, r0⟩ hmm c2.2.1 (by omega) (by omega)
    obtain ⟨pz, ps1, ps2⟩ : ∃ pz : Nat → Nat, (∀ k, k ≤ i → pz k = s) ∧ (∀ k, i < k → pz k = (ps k)) := ⟨fun k => if k ≤ i then s else (ps k), fun k hk => if_pos hk, fun k hk => if_neg (by omega)⟩
    refine ⟨1 + c + 1 + c', e', Y, pz, ((g0.tr g1).tr g2).tr g3, by omega, (((c0.mono (h1 := h) (S1 := fun k => cu i ≤ k ∧ k < r) (S01 := fun k => cu i ≤ k ∧ k < r) (Nat.le_refl _) (fun k q => q.elim) (fun k q => q.elim)).tr (c1.mono (h1 := h) (S1 := fun k => cu i ≤ k ∧ k < r) (S01 := fun k => cu i ≤ k ∧ k < r) (by omega) (fun k (q : cu i ≤ k ∧ k < cu (i + 1)) => (⟨by omega, by omega⟩ : cu i ≤ k ∧ k < r)) (fun k (q : cu i ≤ k ∧ k < cu (i + 1) ∧ k ≠ it i) => (⟨by omega, by omega⟩ : cu i ≤ k ∧ k < r)))).tr (c2.mono (h1 := h) (S1 := fun k => cu i ≤ k ∧ k < r) (S01 := fun k => cu i ≤ k ∧ k < r) (by omega) (fun k q => q.elim) (fun k (q : k = it i) => (⟨by omega, by omega⟩ : cu i ≤ k ∧ k < r)))).tr (c3.mono (h1 := h) (S1 := fun k => cu i ≤ k ∧ k < r) (S01 := fun k => cu i ≤ k ∧ k < r) (Nat.le_refl _) (fun k (q : cu (i + 1) ≤ k ∧ k < r) => (⟨by omega, by omega⟩ : cu i ≤ k ∧ k < r)) (fun k (q : cu (i + 1) ≤ k ∧ k < r) => (⟨by omega, by omega⟩ : cu i ≤ k ∧ k < r))), t3, ps1 i (Nat.le_refl _), by rw [ps2 m (by omega)]; exact f3, fun j j1 j2 => ?_, by omega⟩
    by_cases ej : j = i
    · subst ej
      rw [ps1 j (Nat.le_refl _), ps2 (j + 1) (by omega), s3]
      refine ⟨e, (x1.cs c2 (Nat.le_refl _) (fun k _ _ => ⟨fun q => q, fun q1 (q : k = it j) => q1 q⟩)).cs c3 (by omega) (fun k k1 k2 => ⟨fun (q : cu (j + 1) ≤ k ∧ k < r) => by omega, fun _ (q : cu (j + 1) ≤ k ∧ k < r) => by omega⟩), ?_⟩
      have lm : LM Z2 n (it j) j m 0 e (e + 1) := (Or.inl ⟨rfl, ⟨by rw [d40]; rfl, by rw [d41]; exact hnn⟩, d45, rfl⟩)
      exact lm.cs c3 (Nat.le_refl _) (fun (q : cu (j + 1) ≤ it j ∧ it j < r) => by omega)
    · rw [ps2 j (by omega), ps2 (j + 1) (by omega)]
      exact k3 j (by omega) j2
set_option maxHeartbeats 4000000 in
theorem list_1 {r7 : Int32 → St → Option (Int32 × St)} {a1 : Int32} {X0 : St} {n l r : Nat} {sc : Int} {it cu : Nat → Nat} {m : Nat} (hcu : cu m = r) (hr : r ≤ 3100) (hI : ∀ i, i < m → (WX X0 (it i) (cu i) (cu (i + 1)) sc ∧ PC r7 a1 X0 (it i) (cu i) (cu (i + 1)) sc) ∧ (i + 1 < m → 0 ≤ (X0.1 28 (it i)).toInt ∧ ix (X0.1 28 (it i)) = it (i + 1)) ∧ (i + 1 = m → (X0.1 28 (it i)).toInt < 0)) (hle : ∀ i, i < m → cu i ≤ it i ∧ it i < cu (i + 1) ∧ cu (i + 1) ≤ r) : ∀ (d i : Nat), i + d + 1 = m → ∀ (X : St) (h s : Nat) (nn mm : Int32), Fr YR [26, 27, 8000, 8200, 8400, 8600, 9000, 9200, 9400, 9600, 9800, 10000, 10200] X0 X → nn.toInt = (it i : Int) → Top X h 41 nn mm → mm.toInt = 1 → (X.1 0 26).toInt = (s : Int) → h + 3 * r + 11 ≤ 13000 + 3 * cu i → s + 5 * r ≤ 24000 + 5 * cu i → ∃ c e Y, ∃ ps : Nat → Nat, Go r7 a1 c X Y ∧ c + 12 * cu i ≤ 12 * r ∧ CS X Y h s e (fun k => cu i ≤ k ∧ k < r) (fun k => cu i ≤ k ∧ k < r) ∧ (Y.1 0 27).toInt = (h : Int) ∧ ps i = s ∧ ps m = e ∧ (∀ j, i ≤ j → j < m → ∃ p, CX Y (it j) (cu j) (cu (j + 1)) sc (ps j) p ∧ LM Y n (it j) j m 1 p (ps (j + 1))) ∧ e + 5 * cu i ≤ s + 5 * r := by
  intro d
  induction d with
  | zero =>
    intro i hi X h s nn mm hF hnn ht hmm hs hb hb2
    obtain ⟨⟨hw, hp⟩, hn1, hn2⟩ := hI i (by omega)
    have hli := hle i (by omega)
    have en : ix nn = it i := by
      have := ixc (z := nn) (by omega)
      omega
    have hin : inR nn 3100 := ⟨by omega, show nn.toInt < ((3100 : Nat) : Int) by omega⟩
    have e28 : X.1 28 (it i) = X0.1 28 (it i) := hF.1 28 _ (show (5600 : Nat) ∉ [26, 27, 8000, 8200, 8400, 8600, 9000, 9200, 9400, 9600, 9800, 10000, 10200] from by decide)
    obtain ⟨Z0, g0, c0, t0, l0⟩ := st_push (r7 := r7) (a1 := a1) (L := [(40, nn, 0)]) ht hs (by omega) (fun W hW hw2 => item_1l (X := W) (p1 := 41) rfl hmm hin (by rw [hW, en, e28]; exact hn2 (by omega)) (by omega)) (fun _ => False) (fun _ => False)
    have q0 : Z0.1 48 (h + 0) = 40 ∧ Z0.1 49 (h + 0) = nn ∧ Z0.1 50 (h + 0) = 0 := l0 0 (40, nn, 0) rfl
    obtain ⟨c, e, Z1, g1, b1, c1, t1, x1, y1⟩ := hp Z0 (h + 0) s nn 0 (hF.tr c0.1 (by decide)) hnn (by omega) ⟨by rw [t0]; show (h : Int) + ((1 : Nat) : Int) = ((h + 0 : Nat) : Int) + 1; omega, q0⟩ c0.2.1 (by omega) (by omega)
    have ei : cu (i + 1) = r := by rw [show i + 1 = m by omega]; exact hcu
    obtain ⟨pz, ps1, ps2⟩ : ∃ pz : Nat → Nat, (∀ k, k ≤ i → pz k = s) ∧ (∀ k, i < k → pz k = e) := ⟨fun k => if k ≤ i then s else e, fun k hk => if_pos hk, fun k hk => if_neg (by omega)⟩
    refine ⟨1 + c, e, Z1, pz, g0.tr g1, by omega, (c0.mono (h1 := h) (S1 := fun k => cu i ≤ k ∧ k < r) (S01 := fun k => cu i ≤ k ∧ k < r) (Nat.le_refl _) (fun k q => q.elim) (fun k q => q.elim)).tr (c1.mono (h1 := h) (S1 := fun k => cu i ≤ k ∧ k < r) (S01 := fun k => cu i ≤ k ∧ k < r) (by omega) (fun k (q : cu i ≤ k ∧ k < cu (i + 1)) => (⟨by omega, by omega⟩ : cu i ≤ k ∧ k < r)) (fun k (q : cu i ≤ k ∧ k < cu (i + 1) ∧ k ≠ it i) => (⟨by omega, by omega⟩ : cu i ≤ k ∧ k < r))), by rw [t1]; show ((h + 0 : Nat) : Int) = (h : Int); omega, ps1 i (Nat.le_refl _), ps2 m (by omega), fun j j1 j2 => ?_, by omega⟩
    have ej : j = i := by omega
    subst ej
    rw [ps1 j (Nat.le_refl _), ps2 (j + 1) (by omega)]
    exact ⟨e, x1, Or.inr (Or.inl ⟨rfl, Or.inr ⟨by omega, rfl⟩⟩)⟩
  | succ d ih =>
    intro i hi X h s nn mm hF hnn ht hmm hs hb hb2
    obtain ⟨⟨hw, hp⟩, hn1, hn2⟩ := hI i (by omega)
    have hli := hle i (by omega)
    have en : ix nn = it i := by
      have := ixc (z := nn) (by omega)
      omega
    have hin : inR nn 3100 := ⟨by omega, show nn.toInt < ((3100 : Nat) : Int) by omega⟩
    have e28 : X.1 28 (it i) = X0.1 28 (it i) := hF.1 28 _ (show (5600 : Nat) ∉ [26, 27, 8000, 8200, 8400, 8600, 9000, 9200, 9400, 9600, 9800, 10000, 10200] from by decide)
    obtain ⟨hn3, hn4⟩ := hn1 (by omega)
    have en1 := ixc hn3
    obtain ⟨Z0, g0, c0, t0, l0⟩ := st_push (r7 := r7) (a1 := a1) (L := [(41, (X0.1 28 (it i)), mm), (29, nn, 0), (40, nn, 0)]) ht hs (by omega) (fun W hW hw2 => by
      have q := item_1 (X := W) (p1 := 41) (p2 := nn) (p3 := mm) rfl hmm hin (by rw [hW, en, e28]; exact hn3) (by omega)
      rw [hW, en, e28] at q
      exact q) (fun _ => False) (fun _ => False)
    have q2 : Z0.1 48 (h + 2) = 40 ∧ Z0.1 49 (h + 2) = nn ∧ Z0.1 50 (h + 2) = 0 := l0 2 (40, nn, 0) rfl
    have hli2 := hle (i + 1) (by omega)
    obtain ⟨c, e, Z1, g1, b1, c1, t1, x1, y1⟩ := hp Z0 (h + 2) s nn 0 (hF.tr c0.1 (by decide)) hnn (by omega) ⟨by rw [t0]; show (h : Int) + ((3 : Nat) : Int) = ((h + 2 : Nat) : Int) + 1; omega, q2⟩ c0.2.1 (by omega) (by omega)
    obtain ⟨Z2, g2, c2, t2, d40, d41, d42⟩ := st_ord (r7 := r7) (a1 := a1) (X := Z1) (h := h + 1) (s := e) (o := 29) (n := nn) (m := 0) (Top.cs c1 (l0 1 (29, nn, 0) rfl) (by omega) (by rw [t1]; omega)) c1.2.1 (by omega) (by omega) (by decide) (fun _ => False) (fun _ => False)
    have r0 : Z2.1 48 h = 41 ∧ Z2.1 49 h = X0.1 28 (it i) ∧ Z2.1 50 h = mm := by
      obtain ⟨a, b, f⟩ := l0 0 (41, (X0.1 28 (it i)), mm) rfl
      obtain ⟨a1', b1', f1'⟩ := c1.2.2.2.1 h (by omega)
      obtain ⟨a2', b2', f2'⟩ := c2.2.2.2.1 h (by omega)
      exact ⟨a2'.trans (a1'.trans a), b2'.trans (b1'.trans b), f2'.trans (f1'.trans f)⟩
    obtain ⟨c', e', Y, ps, g3, b3, c3, t3, s3, f3, k3, y3⟩ := ih (i + 1) (by omega) Z2 h (e + 1) (X0.1 28 (it i)) mm (((hF.tr c0.1 (by decide)).tr c1.1 (by decide)).tr c2.1 (by decide)) (by omega) ⟨by rw [t2]; omega, r0⟩ hmm c2.2.1 (by omega) (by omega)
    obtain ⟨pz, ps1, ps2⟩ : ∃ pz : Nat → Nat, (∀ k, k ≤ i → pz k = s) ∧ (∀ k, i < k → pz k = (ps k)) := ⟨fun k => if k ≤ i then s else (ps k), fun k hk => if_pos hk, fun k hk => if_neg (by omega)⟩
    refine ⟨1 + c + 1 + c', e', Y, pz, ((g0.tr g1).tr g2).tr g3, by omega, (((c0.mono (h1 := h) (S1 := fun k => cu i ≤ k ∧ k < r) (S01 := fun k => cu i ≤ k ∧ k < r) (Nat.le_refl _) (fun k q => q.elim) (fun k q => q.elim)).tr (c1.mono (h1 := h) (S1 := fun k => cu i ≤ k ∧ k < r) (S01 := fun k => cu i ≤ k ∧ k < r) (by omega) (fun k (q : cu i ≤ k ∧ k < cu (i + 1)) => (⟨by omega, by omega⟩ : cu i ≤ k ∧ k < r)) (fun k (q : cu i ≤ k ∧ k < cu (i + 1) ∧ k ≠ it i) => (⟨by omega, by omega⟩ : cu i ≤ k ∧ k < r)))).tr (c2.mono (h1 := h) (S1 := fun k => cu i ≤ k ∧ k < r) (S01 := fun k => cu i ≤ k ∧ k < r) (by omega) (fun k q => q.elim) (fun k q => q.elim))).tr (c3.mono (h1 := h) (S1 := fun k => cu i ≤ k ∧ k < r) (S01 := fun k => cu i ≤ k ∧ k < r) (Nat.le_refl _) (fun k (q : cu (i + 1) ≤ k ∧ k < r) => (⟨by omega, by omega⟩ : cu i ≤ k ∧ k < r)) (fun k (q : cu (i + 1) ≤ k ∧ k < r) => (⟨by omega, by omega⟩ : cu i ≤ k ∧ k < r))), t3, ps1 i (Nat.le_refl _), by rw [ps2 m (by omega)]; exact f3, fun j j1 j2 => ?_, by omega⟩
    by_cases ej : j = i
    · subst ej
      rw [ps1 j (Nat.le_refl _), ps2 (j + 1) (by omega), s3]
      refine ⟨e, (x1.cs c2 (Nat.le_refl _) (fun k _ _ => ⟨fun q => q, fun _ q => q⟩)).cs c3 (by omega) (fun k k1 k2 => ⟨fun (q : cu (j + 1) ≤ k ∧ k < r) => by omega, fun _ (q : cu (j + 1) ≤ k ∧ k < r) => by omega⟩), ?_⟩
      have lm : LM Z2 n (it j) j m 1 e (e + 1) := (Or.inr (Or.inl ⟨rfl, Or.inl ⟨by omega, ⟨by rw [d40]; rfl, by rw [d41]; exact hnn⟩, rfl⟩⟩))
      exact lm.cs c3 (Nat.le_refl _) (fun (q : cu (j + 1) ≤ it j ∧ it j < r) => by omega)
    · rw [ps2 j (by omega), ps2 (j + 1) (by omega)]
      exact k3 j (by omega) j2
set_option maxHeartbeats 4000000 in
theorem list_2 {r7 : Int32 → St → Option (Int32 × St)} {a1 : Int32} {X0 : St} {n l r : Nat} {sc : Int} {it cu : Nat → Nat} {m : Nat} (hcu : cu m = r) (hr : r ≤ 3100) (hI : ∀ i, i < m → (WX X0 (it i) (cu i) (cu (i + 1)) sc ∧ PC r7 a1 X0 (it i) (cu i) (cu (i + 1)) sc) ∧ (i + 1 < m → 0 ≤ (X0.1 28 (it i)).toInt ∧ ix (X0.1 28 (it i)) = it (i + 1)) ∧ (i + 1 = m → (X0.1 28 (it i)).toInt < 0)) (hm4 : m ≤ 4) (hmon : ∀ i j, i < j → j < m → cu (i + 1) ≤ cu j) (hle : ∀ i, i < m → cu i ≤ it i ∧ it i < cu (i + 1) ∧ cu (i + 1) ≤ r) : ∀ (d i : Nat), i + d + 1 = m → ∀ (X : St) (h s : Nat) (nn mm : Int32), Fr YR [26, 27, 8000, 8200, 8400, 8600, 9000, 9200, 9400, 9600, 9800, 10000, 10200] X0 X → nn.toInt = (it i : Int) → Top X h 43 nn mm → mm.toInt = 8 * (i : Int) → (X.1 0 26).toInt = (s : Int) → h + 3 * r + 11 ≤ 13000 + 3 * cu i → s + 5 * r ≤ 24000 + 5 * cu i → (∀ j, i ≤ j → j < m → (X.1 51 (it j)).toInt = (n : Int)) → ∃ c e Y, ∃ ps : Nat → Nat, Go r7 a1 c X Y ∧ c + 12 * cu i ≤ 12 * r ∧ CS X Y h s e (fun k => cu i ≤ k ∧ k < r) (fun k => cu i ≤ k ∧ k < r) ∧ (Y.1 0 27).toInt = (h : Int) ∧ ps i = s ∧ ps m = e ∧ (∀ j, i ≤ j → j < m → ∃ p, CX Y (it j) (cu j) (cu (j + 1)) sc (ps j) p ∧ LM Y n (it j) j m 2 p (ps (j + 1))) ∧ e + 5 * cu i ≤ s + 5 * r := by
  intro d
  induction d with
  | zero =>
    intro i hi X h s nn mm hF hnn ht hmm hs hb hb2 h51
    obtain ⟨⟨hw, hp⟩, hn1, hn2⟩ := hI i (by omega)
    have hli := hle i (by omega)
    have en : ix nn = it i := by
      have := ixc (z := nn) (by omega)
      omega
    have hin : inR nn 3100 := ⟨by omega, show nn.toInt < ((3100 : Nat) : Int) by omega⟩
    have e28 : X.1 28 (it i) = X0.1 28 (it i) := hF.1 28 _ (show (5600 : Nat) ∉ [26, 27, 8000, 8200, 8400, 8600, 9000, 9200, 9400, 9600, 9800, 10000, 10200] from by decide)
    obtain ⟨Z0, g0, c0, t0, l0⟩ := st_push (r7 := r7) (a1 := a1) (L := [(10, nn, mm), (40, nn, 0)]) ht hs (by omega) (fun W hW hw2 => givesl (X := W) (p1 := 43) rfl hin (by rw [hW, en, e28]; exact hn2 (by omega)) (by omega)) (fun _ => False) (fun _ => False)
    have q1 : Z0.1 48 (h + 1) = 40 ∧ Z0.1 49 (h + 1) = nn ∧ Z0.1 50 (h + 1) = 0 := l0 1 (40, nn, 0) rfl
    obtain ⟨c, e, Z1, g1, b1, c1, t1, x1, y1⟩ := hp Z0 (h + 1) s nn 0 (hF.tr c0.1 (by decide)) hnn (by omega) ⟨by rw [t0]; show (h : Int) + ((2 : Nat) : Int) = ((h + 1 : Nat) : Int) + 1; omega, q1⟩ c0.2.1 (by omega) (by omega)
    obtain ⟨Z2, g2, c2, t2, d40, d41, d42⟩ := st_ord (r7 := r7) (a1 := a1) (X := Z1) (h := h + 0) (s := e) (o := 10) (n := nn) (m := mm) (Top.cs c1 (l0 0 (10, nn, mm) rfl) (by omega) (by rw [t1]; omega)) c1.2.1 (by omega) (by omega) (by decide) (fun _ => False) (fun _ => False)
    have h51i : (Z2.1 51 (it i)).toInt = (n : Int) := by
      rw [(c2.2.2.2.2.2.2.2 (it i) (fun q => q)).2, (c1.2.2.2.2.2.2.2 (it i) (fun (q : cu i ≤ it i ∧ it i < cu (i + 1) ∧ it i ≠ it i) => q.2.2 rfl)).2, (c0.2.2.2.2.2.2.2 (it i) (fun q => q)).2]
      exact h51 i (Nat.le_refl _) (by omega)
    have ei : cu (i + 1) = r := by rw [show i + 1 = m by omega]; exact hcu
    obtain ⟨pz, ps1, ps2⟩ : ∃ pz : Nat → Nat, (∀ k, k ≤ i → pz k = s) ∧ (∀ k, i < k → pz k = (e + 1)) := ⟨fun k => if k ≤ i then s else (e + 1), fun k hk => if_pos hk, fun k hk => if_neg (by omega)⟩
    refine ⟨1 + c + 1, e + 1, Z2, pz, (g0.tr g1).tr g2, by omega, ((c0.mono (h1 := h) (S1 := fun k => cu i ≤ k ∧ k < r) (S01 := fun k => cu i ≤ k ∧ k < r) (Nat.le_refl _) (fun k q => q.elim) (fun k q => q.elim)).tr (c1.mono (h1 := h) (S1 := fun k => cu i ≤ k ∧ k < r) (S01 := fun k => cu i ≤ k ∧ k < r) (by omega) (fun k (q : cu i ≤ k ∧ k < cu (i + 1)) => (⟨by omega, by omega⟩ : cu i ≤ k ∧ k < r)) (fun k (q : cu i ≤ k ∧ k < cu (i + 1) ∧ k ≠ it i) => (⟨by omega, by omega⟩ : cu i ≤ k ∧ k < r)))).tr (c2.mono (h1 := h) (S1 := fun k => cu i ≤ k ∧ k < r) (S01 := fun k => cu i ≤ k ∧ k < r) (by omega) (fun k q => q.elim) (fun k q => q.elim)), by rw [t2]; show ((h + 0 : Nat) : Int) = (h : Int); omega, ps1 i (Nat.le_refl _), ps2 m (by omega), fun j j1 j2 => ?_, by omega⟩
    have ej : j = i := by omega
    subst ej
    rw [ps1 j (Nat.le_refl _), ps2 (j + 1) (by omega)]
    exact ⟨e, x1.cs c2 (Nat.le_refl _) (fun k _ _ => ⟨fun q => q, fun _ q => q⟩), (Or.inr (Or.inr ⟨rfl, ⟨by rw [d40]; rfl, by rw [d41]; exact hnn⟩, by rw [d42]; exact hmm, h51i, rfl⟩))⟩
  | succ d ih =>
    intro i hi X h s nn mm hF hnn ht hmm hs hb hb2 h51
    obtain ⟨⟨hw, hp⟩, hn1, hn2⟩ := hI i (by omega)
    have hli := hle i (by omega)
    have en : ix nn = it i := by
      have := ixc (z := nn) (by omega)
      omega
    have hin : inR nn 3100 := ⟨by omega, show nn.toInt < ((3100 : Nat) : Int) by omega⟩
    have e28 : X.1 28 (it i) = X0.1 28 (it i) := hF.1 28 _ (show (5600 : Nat) ∉ [26, 27, 8000, 8200, 8400, 8600, 9000, 9200, 9400, 9600, 9800, 10000, 10200] from by decide)
    obtain ⟨hn3, hn4⟩ := hn1 (by omega)
    have en1 := ixc hn3
    obtain ⟨Z0, g0, c0, t0, l0⟩ := st_push (r7 := r7) (a1 := a1) (L := [(43, (X0.1 28 (it i)), (mm + 8)), (10, nn, mm), (40, nn, 0)]) ht hs (by omega) (fun W hW hw2 => by
      have q := gives (X := W) (p1 := 43) (p2 := nn) (p3 := mm) rfl hin (by rw [hW, en, e28]; exact hn3) (by omega)
      rw [hW, en, e28] at q
      exact q) (fun _ => False) (fun _ => False)
    have q2 : Z0.1 48 (h + 2) = 40 ∧ Z0.1 49 (h + 2) = nn ∧ Z0.1 50 (h + 2) = 0 := l0 2 (40, nn, 0) rfl
    have hli2 := hle (i + 1) (by omega)
    obtain ⟨c, e, Z1, g1, b1, c1, t1, x1, y1⟩ := hp Z0 (h + 2) s nn 0 (hF.tr c0.1 (by decide)) hnn (by omega) ⟨by rw [t0]; show (h : Int) + ((3 : Nat) : Int) = ((h + 2 : Nat) : Int) + 1; omega, q2⟩ c0.2.1 (by omega) (by omega)
    obtain ⟨Z2, g2, c2, t2, d40, d41, d42⟩ := st_ord (r7 := r7) (a1 := a1) (X := Z1) (h := h + 1) (s := e) (o := 10) (n := nn) (m := mm) (Top.cs c1 (l0 1 (10, nn, mm) rfl) (by omega) (by rw [t1]; omega)) c1.2.1 (by omega) (by omega) (by decide) (fun _ => False) (fun _ => False)
    have h51i : (Z2.1 51 (it i)).toInt = (n : Int) := by
      rw [(c2.2.2.2.2.2.2.2 (it i) (fun q => q)).2, (c1.2.2.2.2.2.2.2 (it i) (fun (q : cu i ≤ it i ∧ it i < cu (i + 1) ∧ it i ≠ it i) => q.2.2 rfl)).2, (c0.2.2.2.2.2.2.2 (it i) (fun q => q)).2]
      exact h51 i (Nat.le_refl _) (by omega)
    have r0 : Z2.1 48 h = 43 ∧ Z2.1 49 h = X0.1 28 (it i) ∧ Z2.1 50 h = (mm + 8) := by
      obtain ⟨a, b, f⟩ := l0 0 (43, (X0.1 28 (it i)), (mm + 8)) rfl
      obtain ⟨a1', b1', f1'⟩ := c1.2.2.2.1 h (by omega)
      obtain ⟨a2', b2', f2'⟩ := c2.2.2.2.1 h (by omega)
      exact ⟨a2'.trans (a1'.trans a), b2'.trans (b1'.trans b), f2'.trans (f1'.trans f)⟩
    obtain ⟨c', e', Y, ps, g3, b3, c3, t3, s3, f3, k3, y3⟩ := ih (i + 1) (by omega) Z2 h (e + 1) (X0.1 28 (it i)) (mm + 8) (((hF.tr c0.1 (by decide)).tr c1.1 (by decide)).tr c2.1 (by decide)) (by omega) ⟨by rw [t2]; omega, r0⟩ (by rw [ti_add (by rw [show (8 : Int32).toInt = 8 from rfl]; omega) (by rw [show (8 : Int32).toInt = 8 from rfl]; omega), show (8 : Int32).toInt = 8 from rfl]; omega) c2.2.1 (by omega) (by omega) (fun j j1 j2 => by
      have hj := hle j j2
      have hmo : cu (i + 1) ≤ cu j := hmon i j (by omega) j2
      rw [(c2.2.2.2.2.2.2.2 (it j) (fun q => q)).2, (c1.2.2.2.2.2.2.2 (it j) (fun (q : cu i ≤ it j ∧ it j < cu (i + 1) ∧ it j ≠ it i) => by omega)).2, (c0.2.2.2.2.2.2.2 (it j) (fun q => q)).2]
      exact h51 j (by omega) j2)
    obtain ⟨pz, ps1, ps2⟩ : ∃ pz : Nat → Nat, (∀ k, k ≤ i → pz k = s) ∧ (∀ k, i < k → pz k = (ps k)) := ⟨fun k => if k ≤ i then s else (ps k), fun k hk => if_pos hk, fun k hk => if_neg (by omega)⟩
    refine ⟨1 + c + 1 + c', e', Y, pz, ((g0.tr g1).tr g2).tr g3, by omega, (((c0.mono (h1 := h) (S1 := fun k => cu i ≤ k ∧ k < r) (S01 := fun k => cu i ≤ k ∧ k < r) (Nat.le_refl _) (fun k q => q.elim) (fun k q => q.elim)).tr (c1.mono (h1 := h) (S1 := fun k => cu i ≤ k ∧ k < r) (S01 := fun k => cu i ≤ k ∧ k < r) (by omega) (fun k (q : cu i ≤ k ∧ k < cu (i + 1)) => (⟨by omega, by omega⟩ : cu i ≤ k ∧ k < r)) (fun k (q : cu i ≤ k ∧ k < cu (i + 1) ∧ k ≠ it i) => (⟨by omega, by omega⟩ : cu i ≤ k ∧ k < r)))).tr (c2.mono (h1 := h) (S1 := fun k => cu i ≤ k ∧ k < r) (S01 := fun k => cu i ≤ k ∧ k < r) (by omega) (fun k q => q.elim) (fun k q => q.elim))).tr (c3.mono (h1 := h) (S1 := fun k => cu i ≤ k ∧ k < r) (S01 := fun k => cu i ≤ k ∧ k < r) (Nat.le_refl _) (fun k (q : cu (i + 1) ≤ k ∧ k < r) => (⟨by omega, by omega⟩ : cu i ≤ k ∧ k < r)) (fun k (q : cu (i + 1) ≤ k ∧ k < r) => (⟨by omega, by omega⟩ : cu i ≤ k ∧ k < r))), t3, ps1 i (Nat.le_refl _), by rw [ps2 m (by omega)]; exact f3, fun j j1 j2 => ?_, by omega⟩
    by_cases ej : j = i
    · subst ej
      rw [ps1 j (Nat.le_refl _), ps2 (j + 1) (by omega), s3]
      refine ⟨e, (x1.cs c2 (Nat.le_refl _) (fun k _ _ => ⟨fun q => q, fun _ q => q⟩)).cs c3 (by omega) (fun k k1 k2 => ⟨fun (q : cu (j + 1) ≤ k ∧ k < r) => by omega, fun _ (q : cu (j + 1) ≤ k ∧ k < r) => by omega⟩), ?_⟩
      have lm : LM Z2 n (it j) j m 2 e (e + 1) := (Or.inr (Or.inr ⟨rfl, ⟨by rw [d40]; rfl, by rw [d41]; exact hnn⟩, by rw [d42]; exact hmm, h51i, rfl⟩))
      exact lm.cs c3 (Nat.le_refl _) (fun (q : cu (j + 1) ≤ it j ∧ it j < r) => by omega)
    · rw [ps2 j (by omega), ps2 (j + 1) (by omega)]
      exact k3 j (by omega) j2
