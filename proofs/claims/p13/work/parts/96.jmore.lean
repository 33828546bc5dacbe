theorem div8 {x : Int32} {i : Nat} (h : x.toInt = 8 * (i : Int)) (hi : i ≤ 3) : (x / 8).toInt = (i : Int) := by
  have key : i = 0 ∨ i = 1 ∨ i = 2 ∨ i = 3 := by omega
  rcases key with rfl | rfl | rfl | rfl
  · rw [show x = 0 from Int32.toInt_inj.mp (h.trans (by decide))]
    decide
  · rw [show x = 8 from Int32.toInt_inj.mp (h.trans (by decide))]
    decide
  · rw [show x = 16 from Int32.toInt_inj.mp (h.trans (by decide))]
    decide
  · rw [show x = 24 from Int32.toInt_inj.mp (h.trans (by decide))]
    decide
theorem one_317 {X : St} (hT : KT X) (hc : (X.1 0 13).toInt ≤ 5999) (hl : (X.1 0 15).toInt ≤ 19990) (hg : 0 ≤ (X.1 0 28).toInt ∧ (X.1 0 28).toInt < 12000) (hj : 0 ≤ (X.1 0 29).toInt ∧ (X.1 0 29).toInt ≤ 40) (hw : (X.1 0 9).toInt = 0) {p1 p2 a4 b0 : Int32} (hop1 : inR p1 24000) {d i : Nat} (hd : (X.1 0 30).toInt = (d : Int) + i + 2) (hi : i ≤ 3) (hd2 : d + 5 < 3200) (hk : 0 ≤ (X.1 58 (d + i + 1)).toInt ∧ (X.1 58 (d + i + 1)).toInt < (X.1 0 13).toInt) (h43 : (X.1 43 (ix p1)).toInt = -1) (hr : 0 ≤ (X.1 58 d).toInt ∧ (X.1 58 d).toInt < (X.1 0 13).toInt) (hm : (i : Int) < (X.1 5 (ix (X.1 58 d))).toInt) (hs : ksz X (ix (cmpK X (X.1 58 d) i)) ≤ 6000) (hn : inR p2 3100) (ha4 : a4.toInt = (i : Int)) (hb0 : 0 ≤ b0.toInt ∧ b0.toInt ≤ 40) : ok (f_judgeOne_317 p1 p2 a4 b0 X) (fun _ Y => JO X Y (fun j => j = ix p1) 1 0 ((Y.1 0 30).toInt = (d : Int) + i + 2 ∧ Y.1 58 (d + i + 1) = (cmpK X (X.1 58 d) i) ∧ (∀ j, j ≠ d + i + 1 → Y.1 58 j = X.1 58 j) ∧ (∀ j, Y.1 59 j = X.1 59 j) ∧ GRD Y (ix p1) (X.1 58 (d + i + 1)) (cmpK X (X.1 58 d) i))) := by
  have z2 : (2 : Int32).toInt = 2 := rfl
  have hlt := cmpK_lt hT hr.1 hr.2 hm
  have e4 : ix a4 = i := by
    have := ixc (z := a4) (by omega)
    omega
  unfold f_judgeOne_317
  refine ok.letV (ok.sub (by rw [z2]; omega) (fun y hy => ok.sub (by rw [z2] at hy; omega) (fun x hx => ?_)))
  rw [z2] at hy
  have ex : ix x = d := by
    have := ixc (z := x) (by omega)
    omega
  refine ok.ck ⟨by omega, show x.toInt < ((3200 : Nat) : Int) by omega⟩ (ok.letE (v1 := X.1 58 d) (by rw [ex]) ?_)
  refine ok.bd (j_paramOf hT (by omega) (by omega) hr (i := a4) (by omega)) ?_
  rintro x43 X44 ⟨rfl, rfl⟩
  rw [e4]
  refine ok.ck hn (ok.letV ?_)
  refine ok.bd (j_must hT hc hl hg hj hw (d := d + i + 1) ⟨hop1.1, hop1.2⟩ (by omega) (by omega) hk (by omega) hs h43 hb0) ?_
  rintro - Y ⟨q1, q2, q3⟩
  refine ok.ret ⟨q1, q2, fun hw2 => ?_⟩
  obtain ⟨a, b, c, e, f⟩ := q3 hw2
  exact ⟨by omega, b, c, e, f⟩
theorem one_10 {X : St} (hT : KT X) (hc : (X.1 0 13).toInt ≤ 5999) (hl : (X.1 0 15).toInt ≤ 19990) (hg : 0 ≤ (X.1 0 28).toInt ∧ (X.1 0 28).toInt < 12000) (hj : 0 ≤ (X.1 0 29).toInt ∧ (X.1 0 29).toInt ≤ 40) (hw : (X.1 0 9).toInt = 0) {p1 p2 : Int32} (hop1 : inR p1 24000) (hop : (X.1 40 (ix p1)).toInt = 10) {d i : Nat} (hd : (X.1 0 30).toInt = (d : Int) + i + 2) (hi : i ≤ 3) (hd2 : d + 5 < 3200) (hk : 0 ≤ (X.1 58 (d + i + 1)).toInt ∧ (X.1 58 (d + i + 1)).toInt < (X.1 0 13).toInt) (h43 : (X.1 43 (ix p1)).toInt = -1) (hr : 0 ≤ (X.1 58 d).toInt ∧ (X.1 58 d).toInt < (X.1 0 13).toInt) (hm : (i : Int) < (X.1 5 (ix (X.1 58 d))).toInt) (hs : ksz X (ix (cmpK X (X.1 58 d) i)) ≤ 6000) (hn : inR p2 3100) (h42 : (X.1 42 (ix p1)).toInt = 8 * (i : Int)) (hcall : inR (X.1 51 (ix p2)) 3100) (ha : inR (X.1 23 (ix (X.1 51 (ix p2)))) 3100) (hv : (X.1 20 (ix (X.1 23 (ix (X.1 51 (ix p2)))))).toInt = 3 → 0 ≤ (X.1 26 (ix (X.1 23 (ix (X.1 51 (ix p2)))))).toInt ∧ (X.1 26 (ix (X.1 23 (ix (X.1 51 (ix p2)))))).toInt ≤ 40) : ok (f_judgeOne p1 p2 X) (fun _ Y => JO X Y (fun j => j = ix p1) 1 0 ((Y.1 0 30).toInt = (d : Int) + i + 2 ∧ Y.1 58 (d + i + 1) = (cmpK X (X.1 58 d) i) ∧ (∀ j, j ≠ d + i + 1 → Y.1 58 j = X.1 58 j) ∧ (∀ j, Y.1 59 j = X.1 59 j) ∧ GRD Y (ix p1) (X.1 58 (d + i + 1)) (cmpK X (X.1 58 d) i))) := by
  unfold f_judgeOne
  refine ok.ck hop1 (ok.letE (v1 := X.1 40 (ix p1)) rfl ?_)
  refine ok.ite (fun c => absurd c (by omega)) (fun _ => ?_)
  refine ok.ite (fun c => absurd c (by omega)) (fun _ => ?_)
  refine ok.ite (fun c => absurd c (by omega)) (fun _ => ?_)
  refine ok.ite (fun c => absurd c (by omega)) (fun _ => ?_)
  refine ok.ite (fun c => absurd c (by omega)) (fun _ => ?_)
  refine ok.ite (fun c => absurd c (by omega)) (fun _ => ?_)
  refine ok.ite (fun c => absurd c (by omega)) (fun _ => ?_)
  refine ok.ite (fun c => absurd c (by omega)) (fun _ => ?_)
  refine ok.ite (fun c => absurd c (by omega)) (fun _ => ?_)
  refine ok.ite (fun _ => ?_) (fun c => absurd hop c)
  refine ok.ck hn (ok.letV (ok.ck hop1 (ok.letV (ok.letV (ok.ck hcall (ok.letV (ok.ck ha (ok.letV ?_))))))))
  refine ok.ite (fun c => ?_) (fun c => ?_)
  · refine ok.ck hcall (ok.letV (ok.ck ha (ok.letV ?_)))
    exact one_317 hT hc hl hg hj hw hop1 hd hi hd2 hk h43 hr hm hs hn (div8 h42 hi) (hv c)
  · refine ok.letV ?_
    exact one_317 hT hc hl hg hj hw hop1 hd hi hd2 hk h43 hr hm hs hn (div8 h42 hi) hj
theorem one_12 {X : St} (hT : KT X) (hc : (X.1 0 13).toInt ≤ 5999) (hl : (X.1 0 15).toInt ≤ 19990) (hg : 0 ≤ (X.1 0 28).toInt ∧ (X.1 0 28).toInt < 12000) (hj : 0 ≤ (X.1 0 29).toInt ∧ (X.1 0 29).toInt ≤ 40) (hw : (X.1 0 9).toInt = 0) {p1 p2 : Int32} (hop1 : inR p1 24000) (hop : (X.1 40 (ix p1)).toInt = 12) {d : Nat} (hd : (X.1 0 30).toInt = (d : Int) + 1) (hd2 : d < 3200) (hk : 0 ≤ (X.1 58 d).toInt ∧ (X.1 58 d).toInt < (X.1 0 13).toInt) (h43 : (X.1 43 (ix p1)).toInt = -1) (hn : inR p2 3100) (h3 : K3 X) (hb : (X.1 25 (ix p2)).toInt < 0 ∨ ((X.1 25 (ix p2)).toInt < (X.1 0 13).toInt ∧ ksz X (ix (X.1 25 (ix p2))) ≤ 3000)) (ha : inR (X.1 23 (ix p2)) 3100) : ok (f_judgeOne p1 p2 X) (fun _ Y => JO X Y (fun i => i = ix p1) 1 0 ((Y.1 0 30).toInt = (d : Int) + 1 ∧ (∃ k1, Y.1 58 d = k1 ∧ GRD Y (ix p1) (X.1 58 d) k1 ∧ (0 ≤ k1.toInt ∧ k1.toInt < (Y.1 0 13).toInt) ∧ (k1 = X.1 58 d ∨ ksz Y (ix k1) ≤ 3000)) ∧ (∀ i, i ≠ d → Y.1 58 i = X.1 58 i) ∧ (∀ i, Y.1 59 i = X.1 59 i))) := by
  unfold f_judgeOne
  refine ok.ck hop1 (ok.letE (v1 := X.1 40 (ix p1)) rfl ?_)
  refine ok.ite (fun c => absurd c (by omega)) (fun _ => ?_)
  refine ok.ite (fun c => absurd c (by omega)) (fun _ => ?_)
  refine ok.ite (fun c => absurd c (by omega)) (fun _ => ?_)
  refine ok.ite (fun c => absurd c (by omega)) (fun _ => ?_)
  refine ok.ite (fun c => absurd c (by omega)) (fun _ => ?_)
  refine ok.ite (fun c => absurd c (by omega)) (fun _ => ?_)
  refine ok.ite (fun c => absurd c (by omega)) (fun _ => ?_)
  refine ok.ite (fun c => absurd c (by omega)) (fun _ => ?_)
  refine ok.ite (fun c => absurd c (by omega)) (fun _ => ?_)
  refine ok.ite (fun c => absurd c (by omega)) (fun _ => ?_)
  refine ok.ite (fun c => absurd c (by omega)) (fun _ => ?_)
  refine ok.ite (fun c => absurd c (by omega)) (fun _ => ?_)
  refine ok.bd (R := fun _ Y => JO X Y (fun i => i = ix p1) 1 0 ((Y.1 0 30).toInt = (d : Int) + 1 ∧ (∃ k1, Y.1 58 d = k1 ∧ GRD Y (ix p1) (X.1 58 d) k1 ∧ (0 ≤ k1.toInt ∧ k1.toInt < (Y.1 0 13).toInt) ∧ (k1 = X.1 58 d ∨ ksz Y (ix k1) ≤ 3000)) ∧ (∀ i, i ≠ d → Y.1 58 i = X.1 58 i) ∧ (∀ i, Y.1 59 i = X.1 59 i))) ?_ (fun _ Y h => ok.ret h)
  unfold f_judgeMore
  refine ok.ck hop1 (ok.letE (v1 := X.1 40 (ix p1)) rfl ?_)
  refine ok.ite (fun _ => ?_) (fun c => absurd hop c)
  have h33 := h3.1
  have z2 : (2 : Int32).toInt = 2 := rfl
  have hks := h3.sz hT (k := 2) (by decide)
  have inj : inR (X.1 0 29) 41 := ⟨hj.1, show (X.1 0 29).toInt < ((41 : Nat) : Int) by omega⟩
  refine ok.ck hn (ok.letV ?_)
  refine ok.ite (fun c => ok.ret ?_) (fun c => ?_)
  · exact ⟨JR.fr hT (Fr.rf (L := [])) (by decide) _, by omega, fun _ => ⟨hd, ⟨_, rfl, Or.inl ⟨rfl, h43⟩, hk, Or.inl rfl⟩, fun _ _ => rfl, fun _ => rfl⟩⟩
  have hb2 := hb.resolve_left c
  refine ok.ck hn (ok.letV ?_)
  have told : ∀ (W : St), (∀ i, W.1 19 i = X.1 19 i) → W.1 0 29 = X.1 0 29 → ok (f_toldKind (X.1 25 (ix p2)) W) (fun r V => W = V ∧ r = (if (X.1 19 (ix (X.1 0 29))).toInt = 0 then 2 else X.1 25 (ix p2))) := by
    intro W w19 w29
    unfold f_toldKind
    refine ok.letE (v1 := X.1 0 29) w29 (ok.ck inj (ok.letE (v1 := X.1 19 (ix (X.1 0 29))) (w19 _) ?_))
    exact ok.ite (fun c => ok.ret ⟨rfl, (if_pos c).symm⟩) (fun c => ok.ret ⟨rfl, (if_neg c).symm⟩)
  refine ok.bd (told X (fun _ => rfl) rfl) ?_
  rintro x5 X6 ⟨rfl, hx5⟩
  have h5 : (0 ≤ x5.toInt ∧ x5.toInt < (X.1 0 13).toInt) ∧ ksz X (ix x5) ≤ 3000 := by
    rw [hx5]
    split
    · exact ⟨⟨by decide, by rw [z2]; omega⟩, by rw [hks]; decide⟩
    · exact ⟨⟨by omega, hb2.1⟩, hb2.2⟩
  refine ok.ck hn (ok.letV (ok.ck ha (ok.letV (ok.letV ?_))))
  refine ok.bd (j_must hT hc hl hg hj hw ⟨hop1.1, hop1.2⟩ hd hd2 hk h5.1 (by omega) h43 hj) ?_
  rintro - X10 ⟨q1, q2, q3⟩
  have f29 : X10.1 0 29 = X.1 0 29 := q1.1.1 0 29 (by decide)
  have f25 : X10.1 25 (ix p2) = X.1 25 (ix p2) := q1.1.1 25 _ (show (5000 : Nat) ∉ [9, 10, 13, 15, 28, 30, 800, 1000, 1200, 1400, 1600, 1800, 2000, 6200, 6400, 8600, 10400, 10600, 10800, 11000, 11200, 11400, 11600, 11800] from by decide)
  have f19 : ∀ i, X10.1 19 i = X.1 19 i := fun i => q1.1.1 19 i (show (3800 : Nat) ∉ [9, 10, 13, 15, 28, 30, 800, 1000, 1200, 1400, 1600, 1800, 2000, 6200, 6400, 8600, 10400, 10600, 10800, 11000, 11200, 11400, 11600, 11800] from by decide)
  have fin : ∀ b : Int32, ok (f_judgeMore_182 b (X.1 0 29) X10) (fun _ Y => JO X Y (fun i => i = ix p1) 1 0 ((Y.1 0 30).toInt = (d : Int) + 1 ∧ (∃ k1, Y.1 58 d = k1 ∧ GRD Y (ix p1) (X.1 58 d) k1 ∧ (0 ≤ k1.toInt ∧ k1.toInt < (Y.1 0 13).toInt) ∧ (k1 = X.1 58 d ∨ ksz Y (ix k1) ≤ 3000)) ∧ (∀ i, i ≠ d → Y.1 58 i = X.1 58 i) ∧ (∀ i, Y.1 59 i = X.1 59 i))) := by
    intro b
    unfold f_judgeMore_182
    refine ok.ck inj (ok.letV (ok.ret ?_))
    have hF2 : Fr YR [11400] X10 (wI X10 57 (ix (X.1 0 29)) (vp_nar .boolean b)) := Fr.rf.wI 57 _ _ (show (11400 : Nat) ∈ [11400] from by decide)
    obtain ⟨Y, hY⟩ : ∃ Y : St, wI X10 57 (ix (X.1 0 29)) (vp_nar .boolean b) = Y := ⟨_, rfl⟩
    rw [hY] at hF2 ⊢
    have j2 : JR X10 Y (fun _ => False) := JR.fr q1.2.1 hF2 (by decide) _
    have e13 : Y.1 0 13 = X10.1 0 13 := hF2.1 0 13 (by decide)
    refine ⟨q1.tr (j2.mono (fun _ q => q.elim)), ?_, fun hw2 => ?_⟩
    · rw [e13, hF2.1 0 15 (by decide), hF2.1 0 28 (by decide)]
      exact q2
    · rw [hF2.1 0 9 (by decide)] at hw2
      obtain ⟨a, b', c', e, f⟩ := q3 hw2
      have kk := q1.2.2.1
      have kk1 := kk.1
      have ex5 := ixc h5.1.1
      refine ⟨by rw [hF2.1 0 30 (by decide)]; exact a, ⟨x5, by rw [hF2.1 58 d (show (11600 : Nat) ∉ [11400] from by decide)]; exact b', f.jr q1.2.1 j2 (fun q => q) (by omega) (by omega), by rw [e13]; omega, Or.inr ?_⟩, fun i hi => (hF2.1 58 i (show (11600 : Nat) ∉ [11400] from by decide)).trans (c' i hi), fun i => (hF2.1 59 i (show (11800 : Nat) ∉ [11400] from by decide)).trans (e i)⟩
      rw [ksz_kx hT j2.2.1 (kk.tr j2.2.2.1) _ (by omega)]
      exact h5.2
  refine ok.letE (v1 := X.1 0 29) f29 (ok.letE (v1 := X.1 0 29) f29 (ok.ck inj (ok.letV ?_)))
  refine ok.ite (fun _ => ?_) (fun _ => ?_)
  · refine ok.ck hn (ok.letE (v1 := X.1 25 (ix p2)) f25 ?_)
    refine ok.bd (told X10 f19 f29) ?_
    rintro x16 X17 ⟨rfl, hx16⟩
    refine ok.ck ⟨by rw [hx16, ← hx5]; exact h5.1.1, show x16.toInt < ((6000 : Nat) : Int) by rw [hx16, ← hx5]; omega⟩ (ok.letV ?_)
    refine ok.ite (fun _ => fin 0) (fun _ => ?_)
    unfold f_judgeMore_177
    exact fin 1
  · unfold f_judgeMore_177
    exact fin 1
theorem one_17 {X : St} (hT : KT X) (hc : (X.1 0 13).toInt ≤ 5999) (hl : (X.1 0 15).toInt ≤ 19990) (hg : 0 ≤ (X.1 0 28).toInt ∧ (X.1 0 28).toInt < 12000) (hj : 0 ≤ (X.1 0 29).toInt ∧ (X.1 0 29).toInt ≤ 40) (hw : (X.1 0 9).toInt = 0) {p1 p2 : Int32} (hop1 : inR p1 24000) (hop : (X.1 40 (ix p1)).toInt = 17) {d : Nat} (hd : (X.1 0 30).toInt = (d : Int) + 2) (hd2 : d + 3 < 3200) (hk : 0 ≤ (X.1 58 d).toInt ∧ (X.1 58 d).toInt < (X.1 0 13).toInt) (hk1 : 0 ≤ (X.1 58 (d + 1)).toInt ∧ (X.1 58 (d + 1)).toInt < (X.1 0 13).toInt) (h3 : K3 X) (hg2 : (X.1 0 28).toInt < 11990) (hn : inR p2 3100) (hB : inR (X.1 24 (ix p2)) 3100) (hC : inR (X.1 25 (ix p2)) 3100) (hBo : inR (X.1 45 (ix (X.1 24 (ix p2)))) 24000) (hCo : inR (X.1 45 (ix (X.1 25 (ix p2)))) 24000) (hBC : ¬ ix (X.1 45 (ix (X.1 24 (ix p2)))) = ix (X.1 45 (ix (X.1 25 (ix p2))))) (hB43 : (X.1 43 (ix (X.1 45 (ix (X.1 24 (ix p2)))))).toInt = -1) (hC43 : (X.1 43 (ix (X.1 45 (ix (X.1 25 (ix p2)))))).toInt = -1) : ok (f_judgeOne p1 p2 X) (fun _ Y => JO X Y (fun i => i = ix (X.1 45 (ix (X.1 24 (ix p2)))) ∨ i = ix (X.1 45 (ix (X.1 25 (ix p2))))) 2 0 ((Y.1 0 30).toInt = (d : Int) + 1 ∧ (∃ k1, Y.1 58 d = k1 ∧ GRD Y (ix (X.1 45 (ix (X.1 24 (ix p2))))) (X.1 58 d) k1 ∧ GRD Y (ix (X.1 45 (ix (X.1 25 (ix p2))))) (X.1 58 (d + 1)) k1 ∧ (0 ≤ k1.toInt ∧ k1.toInt < (Y.1 0 13).toInt) ∧ (k1 = X.1 58 d ∨ k1 = 2)) ∧ (∀ i, i < d → Y.1 58 i = X.1 58 i) ∧ (∀ i, Y.1 59 i = X.1 59 i))) := by
  unfold f_judgeOne
  refine ok.ck hop1 (ok.letE (v1 := X.1 40 (ix p1)) rfl ?_)
  refine ok.ite (fun c => absurd c (by omega)) (fun _ => ?_)
  refine ok.ite (fun c => absurd c (by omega)) (fun _ => ?_)
  refine ok.ite (fun c => absurd c (by omega)) (fun _ => ?_)
  refine ok.ite (fun c => absurd c (by omega)) (fun _ => ?_)
  refine ok.ite (fun c => absurd c (by omega)) (fun _ => ?_)
  refine ok.ite (fun c => absurd c (by omega)) (fun _ => ?_)
  refine ok.ite (fun c => absurd c (by omega)) (fun _ => ?_)
  refine ok.ite (fun c => absurd c (by omega)) (fun _ => ?_)
  refine ok.ite (fun c => absurd c (by omega)) (fun _ => ?_)
  refine ok.ite (fun c => absurd c (by omega)) (fun _ => ?_)
  refine ok.ite (fun c => absurd c (by omega)) (fun _ => ?_)
  refine ok.ite (fun c => absurd c (by omega)) (fun _ => ?_)
  refine ok.bd (R := fun _ Y => JO X Y (fun i => i = ix (X.1 45 (ix (X.1 24 (ix p2)))) ∨ i = ix (X.1 45 (ix (X.1 25 (ix p2))))) 2 0 ((Y.1 0 30).toInt = (d : Int) + 1 ∧ (∃ k1, Y.1 58 d = k1 ∧ GRD Y (ix (X.1 45 (ix (X.1 24 (ix p2))))) (X.1 58 d) k1 ∧ GRD Y (ix (X.1 45 (ix (X.1 25 (ix p2))))) (X.1 58 (d + 1)) k1 ∧ (0 ≤ k1.toInt ∧ k1.toInt < (Y.1 0 13).toInt) ∧ (k1 = X.1 58 d ∨ k1 = 2)) ∧ (∀ i, i < d → Y.1 58 i = X.1 58 i) ∧ (∀ i, Y.1 59 i = X.1 59 i))) ?_ (fun _ Y h => ok.ret h)
  unfold f_judgeMore
  refine ok.ck hop1 (ok.letE (v1 := X.1 40 (ix p1)) rfl ?_)
  refine ok.ite (fun c => absurd c (by omega)) (fun _ => ?_)
  refine ok.ite (fun c => absurd c (by omega)) (fun _ => ?_)
  refine ok.ite (fun c => absurd c (by omega)) (fun _ => ?_)
  refine ok.ite (fun _ => ?_) (fun c => absurd hop c)
  refine ok.bd (R := fun _ Y => JO X Y (fun i => i = ix (X.1 45 (ix (X.1 24 (ix p2)))) ∨ i = ix (X.1 45 (ix (X.1 25 (ix p2))))) 2 0 ((Y.1 0 30).toInt = (d : Int) + 1 ∧ (∃ k1, Y.1 58 d = k1 ∧ GRD Y (ix (X.1 45 (ix (X.1 24 (ix p2))))) (X.1 58 d) k1 ∧ GRD Y (ix (X.1 45 (ix (X.1 25 (ix p2))))) (X.1 58 (d + 1)) k1 ∧ (0 ≤ k1.toInt ∧ k1.toInt < (Y.1 0 13).toInt) ∧ (k1 = X.1 58 d ∨ k1 = 2)) ∧ (∀ i, i < d → Y.1 58 i = X.1 58 i) ∧ (∀ i, Y.1 59 i = X.1 59 i))) ?_ (fun _ Y h => ok.ret h)
  have z1 : (1 : Int32).toInt = 1 := rfl
  have z2 : (2 : Int32).toInt = 2 := rfl
  have h33 := h3.1
  unfold f_judgeJoin
  refine ok.letV (ok.sub (by rw [z2]; omega) (fun z hz => ok.letV ?_))
  rw [z2] at hz
  have hF : Fr YR [30] X (wI X 0 30 z) := Fr.rf.wI 0 30 _ (show (30 : Nat) ∈ [30] from by decide)
  obtain ⟨a, b⟩ := popd (X := X) (z := z) (d := d) hT (by omega) (fun _ => False)
  obtain ⟨Z, hZ⟩ : ∃ Z : St, wI X 0 30 z = Z := ⟨_, rfl⟩
  rw [hZ] at hF a b ⊢
  have e13 : Z.1 0 13 = X.1 0 13 := hF.1 0 13 (by decide)
  have e15 : Z.1 0 15 = X.1 0 15 := hF.1 0 15 (by decide)
  have e28 : Z.1 0 28 = X.1 0 28 := hF.1 0 28 (by decide)
  have e29 : Z.1 0 29 = X.1 0 29 := hF.1 0 29 (by decide)
  have c58 : ∀ i, Z.1 58 i = X.1 58 i := fun i => hF.1 58 i (show (11600 : Nat) ∉ [30] from by decide)
  have c59 : ∀ i, Z.1 59 i = X.1 59 i := fun i => hF.1 59 i (show (11800 : Nat) ∉ [30] from by decide)
  have zT := hT.fr hF (by decide)
  have zK := KX.fr hF (by decide)
  have ed : ix (Z.1 0 30) = d := by
    have := ixc (z := Z.1 0 30) (by omega)
    omega
  have in0 : inR (Z.1 0 30) 3200 := ⟨by omega, show (Z.1 0 30).toInt < ((3200 : Nat) : Int) by omega⟩
  refine ok.letV (ok.ck in0 (ok.letE (v1 := X.1 58 d) (by rw [ed, c58]) ?_))
  refine ok.letV (ok.add (by rw [z1]; omega) (fun x7 hx7 => ?_))
  rw [z1] at hx7
  have e7 : ix x7 = d + 1 := by
    have := ixc (z := x7) (by omega)
    omega
  refine ok.ck ⟨by omega, show x7.toInt < ((3200 : Nat) : Int) by omega⟩ (ok.letE (v1 := X.1 58 (d + 1)) (by rw [e7, c58]) ?_)
  have e13i : (Z.1 0 13).toInt = (X.1 0 13).toInt := by rw [e13]
  have fin : ∀ (W : St) (k1 : Int32), JR Z W (fun i => i = ix (X.1 45 (ix (X.1 24 (ix p2)))) ∨ i = ix (X.1 45 (ix (X.1 25 (ix p2))))) → ((W.1 0 13).toInt ≤ (X.1 0 13).toInt ∧ (W.1 0 15).toInt ≤ (X.1 0 15).toInt ∧ (W.1 0 28).toInt ≤ (X.1 0 28).toInt + 2) → W.1 0 30 = Z.1 0 30 → W.1 0 29 = Z.1 0 29 → (∀ i, W.1 58 i = X.1 58 i) → (∀ i, W.1 59 i = X.1 59 i) → (0 ≤ k1.toInt ∧ k1.toInt < (X.1 0 13).toInt) → (k1 = X.1 58 d ∨ k1 = 2) → GRD W (ix (X.1 45 (ix (X.1 24 (ix p2))))) (X.1 58 d) k1 → GRD W (ix (X.1 45 (ix (X.1 25 (ix p2))))) (X.1 58 (d + 1)) k1 → ok (f_judgeJoin_112 k1 W) (fun _ Y => JO X Y (fun i => i = ix (X.1 45 (ix (X.1 24 (ix p2)))) ∨ i = ix (X.1 45 (ix (X.1 25 (ix p2))))) 2 0 ((Y.1 0 30).toInt = (d : Int) + 1 ∧ (∃ k1, Y.1 58 d = k1 ∧ GRD Y (ix (X.1 45 (ix (X.1 24 (ix p2))))) (X.1 58 d) k1 ∧ GRD Y (ix (X.1 45 (ix (X.1 25 (ix p2))))) (X.1 58 (d + 1)) k1 ∧ (0 ≤ k1.toInt ∧ k1.toInt < (Y.1 0 13).toInt) ∧ (k1 = X.1 58 d ∨ k1 = 2)) ∧ (∀ i, i < d → Y.1 58 i = X.1 58 i) ∧ (∀ i, Y.1 59 i = X.1 59 i))) := by
    intro W k1 hJ hn3 h30 h29 h58 h59 hkk hk2 hgB hgC
    unfold f_judgeJoin_112
    have hwk := hJ.2.2.1.1
    refine ok.bd (j_push (X := W) (by rw [h30]; omega) (by rw [h29, e29]; exact hj) (by omega)) ?_
    rintro - Y ⟨hFY, hy30, hy1, hy2⟩
    rw [show ix (W.1 0 30) = d by rw [h30]; exact ed] at hy1 hy2
    have jY : JR W Y (fun _ => False) := JR.fr hJ.2.1 hFY (by decide) _
    have y13 : Y.1 0 13 = W.1 0 13 := hFY.1 0 13 (by decide)
    refine ok.ret ⟨(a.mono (fun _ q => q.elim)).tr (hJ.tr (jY.mono (fun _ q => q.elim))), ?_, fun _ => ⟨by rw [hy30, h30]; omega, ⟨k1, hy1, hgB.jr hJ.2.1 jY (fun q => q) (by omega) (by omega), hgC.jr hJ.2.1 jY (fun q => q) (by omega) (by omega), by rw [y13]; omega, hk2⟩, fun i hi => (hy2 i (by omega)).trans (h58 i), fun i => (hFY.1 59 i (show (11800 : Nat) ∉ [30, 11400, 11600] from by decide)).trans (h59 i)⟩⟩
    rw [y13, hFY.1 0 15 (by decide), hFY.1 0 28 (by decide)]
    omega
  refine ok.ite (fun c => ?_) (fun c => ?_)
  · have heq : X.1 58 d = X.1 58 (d + 1) := Int32.toInt_inj.mp c
    unfold f_judgeJoin_101
    refine ok.ite (fun _ => ?_) (fun c2 => absurd c c2)
    exact fin Z (X.1 58 d) (JR.fr zT (Fr.rf (L := [])) (by decide) _) (by rw [e13, e15, e28]; omega) rfl rfl c58 c59 hk (Or.inl rfl) (Or.inl ⟨rfl, by rw [hF.1 43 _ (show (8600 : Nat) ∉ [30] from by decide)]; exact hB43⟩) (Or.inl ⟨heq.symm, by rw [hF.1 43 _ (show (8600 : Nat) ∉ [30] from by decide)]; exact hC43⟩)
  · have g24 : Z.1 24 (ix p2) = X.1 24 (ix p2) := hF.1 24 _ (show (4800 : Nat) ∉ [30] from by decide)
    have g45 : ∀ i, Z.1 45 i = X.1 45 i := fun i => hF.1 45 i (show (9000 : Nat) ∉ [30] from by decide)
    refine ok.ck hn (ok.letE (v1 := X.1 24 (ix p2)) g24 (ok.ck hB (ok.letE (v1 := X.1 45 (ix (X.1 24 (ix p2)))) (g45 _) (ok.ck hn (ok.letE (v1 := X.1 24 (ix p2)) g24 (ok.ck hB (ok.letV (ok.letV ?_))))))))
    refine ok.bd (j_guards (X := Z) ⟨hBo.1, hBo.2⟩ (by rw [e28]; exact hg)) ?_
    rintro - X15 hG
    obtain ⟨g1, g2, g3, g4, g5, g6, g7, g8, g9⟩ := hG.jr zT (by rw [e28]; exact hg.1) (FIT.intro (Or.inr (Or.inr (Or.inl rfl)))) (by rw [hF.1 43 _ (show (8600 : Nat) ∉ [30] from by decide)]; exact hB43) (by rw [e29]; exact hj) (by rw [e29]; exact hj) (by rw [e13]; exact hk) (by rw [e13, z2]; omega)
    have l25 : X15.1 25 (ix p2) = X.1 25 (ix p2) := (g1.1.1 25 _ (show (5000 : Nat) ∉ [9, 10, 13, 15, 28, 30, 800, 1000, 1200, 1400, 1600, 1800, 2000, 6200, 6400, 8600, 10400, 10600, 10800, 11000, 11200, 11400, 11600, 11800] from by decide)).trans (hF.1 25 _ (show (5000 : Nat) ∉ [30] from by decide))
    have l45 : ∀ i, X15.1 45 i = X.1 45 i := fun i => (g1.1.1 45 i (show (9000 : Nat) ∉ [9, 10, 13, 15, 28, 30, 800, 1000, 1200, 1400, 1600, 1800, 2000, 6200, 6400, 8600, 10400, 10600, 10800, 11000, 11200, 11400, 11600, 11800] from by decide)).trans (g45 i)
    have l29 : X15.1 0 29 = X.1 0 29 := (g1.1.1 0 29 (by decide)).trans e29
    refine ok.ck hn (ok.letE (v1 := X.1 25 (ix p2)) l25 (ok.ck hC (ok.letE (v1 := X.1 45 (ix (X.1 25 (ix p2)))) (l45 _) (ok.ck hn (ok.letE (v1 := X.1 25 (ix p2)) l25 (ok.ck hC (ok.letV (ok.letV ?_))))))))
    have m28 := g1.2.2.2.1.1
    refine ok.bd (j_guards (X := X15) ⟨hCo.1, hCo.2⟩ (by rw [e28] at g3 m28; omega)) ?_
    rintro - X21 hG2
    obtain ⟨u1, u2, u3, u4, u5, u6, u7, u8, u9⟩ := hG2.jr g1.2.1 (by rw [e28] at m28; omega) (FIT.intro (Or.inr (Or.inr (Or.inl rfl)))) (by rw [g1.2.2.2.2 _ (fun q => hBC q.symm), hF.1 43 _ (show (8600 : Nat) ∉ [30] from by decide)]; exact hC43) (by rw [l29]; exact hj) (by rw [l29]; exact hj) (by rw [g8, e13]; exact hk1) (by rw [g8, e13, z2]; omega)
    unfold f_judgeJoin_101
    refine ok.ite (fun c2 => absurd c2 c) (fun _ => ?_)
    rw [e28] at g3
    refine fin X21 2 ((g1.mono (fun i q => Or.inl q)).tr (u1.mono (fun i q => Or.inr q))) (by rw [u8, u9, g8, g9, e13, e15]; omega) (u6.trans g6) ((u1.1.1 0 29 (by decide)).trans (g1.1.1 0 29 (by decide))) (fun i => (u4 i).trans ((g4 i).trans (c58 i))) (fun i => (u5 i).trans ((g5 i).trans (c59 i))) ⟨by decide, by rw [z2]; omega⟩ (Or.inr rfl) (g2.jr g1.2.1 u1 (fun q => hBC q) (by rw [g8, e13]; exact hk) (by rw [g8, e13, z2]; omega)) u2
