/-! compiles() -/
theorem CX.fr0 {X Y : St} {n lo hi : Nat} {sc : Int} {s e : Nat} {L : List Nat} (h : CX X n lo hi sc s e) (hF : Fr YR L X Y) (hl : 4000 ∉ L ∧ 4600 ∉ L ∧ 4800 ∉ L ∧ 5000 ∉ L ∧ 5200 ∉ L ∧ 5400 ∉ L ∧ 5600 ∉ L ∧ 8000 ∉ L ∧ 8200 ∉ L ∧ 8400 ∉ L ∧ 9000 ∉ L ∧ 9200 ∉ L ∧ 9400 ∉ L ∧ 10200 ∉ L) : CX Y n lo hi sc s e := by
  obtain ⟨h4000, h4600, h4800, h5000, h5200, h5400, h5600, h8000, h8200, h8400, h9000, h9200, h9400, h10200⟩ := hl
  exact h.fr ⟨fun i _ _ => ⟨⟨hF.1 20 i h4000, hF.1 23 i h4600, hF.1 24 i h4800, hF.1 25 i h5000, Or.inr (hF.1 26 i h5200), hF.1 27 i h5400⟩, ⟨hF.1 46 i h9200, hF.1 47 i h9400⟩, fun _ => ⟨hF.1 28 i h5600, hF.1 45 i h9000, hF.1 51 i h10200⟩⟩, fun j _ _ => ⟨hF.1 40 j h8000, hF.1 41 j h8200, hF.1 42 j h8400⟩⟩
/-- the orders of the first P parts -/
def CODE (X : St) (lo po : Nat → Nat) (P : Nat) : Prop := ∀ p, p < P → (X.1 44 p).toInt = (po p : Int) ∧ 0 ≤ (X.1 18 p).toInt ∧ ∃ e, CX X (ix (X.1 18 p)) (lo p) (lo (p + 1)) (X.1 15 p).toInt (po p) e ∧ OA X e 30 p ∧ OA X (e + 1) 31 p ∧ po (p + 1) = e + 2
theorem hpm (q0 q p : Nat) (po : Nat → Nat) (Z : St) (lo : Nat → Nat) (hC : CODE Z lo po p) (hq : q0 + 1 ≤ q) (hqp : q ≤ p) : po q ≤ po p := by
  have key : ∀ d, q + d ≤ p → po q ≤ po (q + d) := by
    intro d
    induction d with
    | zero => intro _; exact Nat.le_refl _
    | succ d ih =>
      intro h
      have h1 := ih (by omega)
      obtain ⟨-, -, e, s3, -, -, s6⟩ := hC (q + d) (by omega)
      have := s3.bd
      have e1 : q + (d + 1) = q + d + 1 := rfl
      rw [e1, s6]
      omega
  have := key (p - q) (by omega)
  rw [show q + (p - q) = p by omega] at this
  exact this
set_option maxHeartbeats 4000000 in
theorem comp_loop {X : St} {lo : Nat → Nat} {P : Nat} (hP : (X.1 0 18).toInt = (P : Int)) (hP40 : P ≤ 40) (hW : ∀ p, p < P → WH X (X.1 18 p) (lo p) (lo (p + 1)) (X.1 15 p).toInt) (hmon : ∀ p q, p ≤ q → q ≤ P → lo p ≤ lo q) (hN : lo P ≤ 3000) : ∀ (d p : Nat) (Z : St) (po : Nat → Nat) (a : Int32) (N : Nat), p + d = P → d < N → a.toInt = (p : Int) → Fr YR [26, 27, 8000, 8200, 8400, 8600, 8800, 9000, 9200, 9400, 9600, 9800, 10000, 10200] X Z → (Z.1 0 26).toInt = (po p : Int) → po 0 = 0 → (∀ q, q ≤ p → po q ≤ 5 * lo q) → CODE Z lo po p → (∀ j, j < po p → Z.1 43 j = -1) → ok (f_compiles_7 N a Z) (fun _ Y => Fr YR [26, 27, 8000, 8200, 8400, 8600, 8800, 9000, 9200, 9400, 9600, 9800, 10000, 10200] X Y ∧ ∃ po : Nat → Nat, po 0 = 0 ∧ (Y.1 0 26).toInt = (po P : Int) ∧ (∀ q, q ≤ P → po q ≤ 5 * lo q) ∧ CODE Y lo po P ∧ ∀ j, j < po P → Y.1 43 j = -1) := by
  intro d
  induction d with
  | zero =>
    intro p Z po a N hpd hN1 ha hF h26 h0 hpo hC h43
    obtain ⟨N, rfl⟩ : ∃ k, N = k + 1 := ⟨N - 1, by omega⟩
    have ep : p = P := by omega
    subst ep
    unfold f_compiles_7
    rw [lp_succ]
    unfold f_compiles_7_s
    refine ok.letE (v1 := X.1 0 18) (hF.1 0 18 (show (18 : Nat) ∉ [26, 27, 8000, 8200, 8400, 8600, 8800, 9000, 9200, 9400, 9600, 9800, 10000, 10200] from by decide)) ?_
    exact ok.ite (fun _ => ok.ret ⟨hF, po, h0, h26, hpo, hC, h43⟩) (fun c => absurd (show (X.1 0 18).toInt ≤ a.toInt by omega) c)
  | succ d ih =>
    intro p Z po a N hpd hN1 ha hF h26 h0 hpo hC h43
    obtain ⟨N, rfl⟩ : ∃ k, N = k + 1 := ⟨N - 1, by omega⟩
    have ea := ixc (z := a) (by omega)
    have eia : ix a = p := by omega
    have hin : inR a 41 := ⟨by omega, show a.toInt < ((41 : Nat) : Int) by omega⟩
    have hm1 := hmon p (p + 1) (by omega) (by omega)
    have hm2 := hmon (p + 1) P (by omega) (Nat.le_refl _)
    have hpp := hpo p (Nat.le_refl _)
    unfold f_compiles_7
    rw [lp_succ]
    unfold f_compiles_7_s
    refine ok.letE (v1 := X.1 0 18) (hF.1 0 18 (show (18 : Nat) ∉ [26, 27, 8000, 8200, 8400, 8600, 8800, 9000, 9200, 9400, 9600, 9800, 10000, 10200] from by decide)) ?_
    refine ok.ite (fun c => absurd c (by omega)) (fun _ => ?_)
    refine ok.letV (ok.ck hin (ok.letV (ok.letV ?_)))
    have hF5 : Fr YR [27, 8800, 9600, 9800, 10000] Z (wI (wI Z 44 (ix a) (Z.1 0 26)) 0 27 0) := (Fr.rf.wI 44 _ _ (show (8800 : Nat) ∈ [27, 8800, 9600, 9800, 10000] from by decide)).wI 0 27 _ (show (27 : Nat) ∈ [27, 8800, 9600, 9800, 10000] from by decide)
    have h44 : (wI (wI Z 44 (ix a) (Z.1 0 26)) 0 27 0).1 44 p = Z.1 0 26 := by
      rw [← eia]
      exact wI_at Z 44 _ _
    have h44o : ∀ q, q ≠ p → (wI (wI Z 44 (ix a) (Z.1 0 26)) 0 27 0).1 44 q = Z.1 44 q := fun q hq => wI_ne Z 44 _ _ 44 q (fun g => hq (by rw [← eia]; exact g.2))
    have h27 : ((wI (wI Z 44 (ix a) (Z.1 0 26)) 0 27 0).1 0 27).toInt = 0 := by rw [wI_at]; rfl
    obtain ⟨Z5, hZ5⟩ : ∃ Z5 : St, wI (wI Z 44 (ix a) (Z.1 0 26)) 0 27 0 = Z5 := ⟨_, rfl⟩
    rw [hZ5] at hF5 h44 h44o h27 ⊢
    have hFX5 : Fr YR [26, 27, 8000, 8200, 8400, 8600, 8800, 9000, 9200, 9400, 9600, 9800, 10000, 10200] X Z5 := hF.tr hF5 (by decide)
    refine ok.bd (t_task (TP.nil [27, 9600, 9800, 10000] Z5) (by decide) (by simp only [List.length_nil]; omega) 31 a 0) ?_
    rintro - Z6 ⟨hT6, hf6⟩
    refine ok.bd (t_task hT6 (by decide) (by simp only [List.length_append, List.length_cons, List.length_nil]; omega) 30 a 0) ?_
    rintro - Z7 ⟨hT7, hf7⟩
    refine ok.ck hin (ok.letE (v1 := X.1 18 p) (by rw [eia]; exact (hT7.1.1 18 p (show (3600 : Nat) ∉ [27, 9600, 9800, 10000] from by decide)).trans (hFX5.1 18 p (show (3600 : Nat) ∉ [26, 27, 8000, 8200, 8400, 8600, 8800, 9000, 9200, 9400, 9600, 9800, 10000, 10200] from by decide))) ?_)
    refine ok.bd (t_task hT7 (by decide) (by simp only [List.length_append, List.length_cons, List.length_nil]; omega) 40 (X.1 18 p) 0) ?_
    rintro - Z9 ⟨hT9, hf9⟩
    obtain ⟨t1, t2, t3, t4⟩ := hT9
    have i0 : ix (Z5.1 0 27) = 0 := by have := ixc (z := Z5.1 0 27) (by omega); omega
    rw [i0] at t4
    have l0 : Z9.1 48 0 = 31 ∧ Z9.1 49 0 = a ∧ Z9.1 50 0 = 0 := t4 0 (31, a, 0) rfl
    have l1 : Z9.1 48 1 = 30 ∧ Z9.1 49 1 = a ∧ Z9.1 50 1 = 0 := t4 1 (30, a, 0) rfl
    have l2 : Z9.1 48 2 = 40 ∧ Z9.1 49 2 = X.1 18 p ∧ Z9.1 50 2 = 0 := t4 2 (40, X.1 18 p, 0) rfl
    have u9 : (Z9.1 0 27).toInt = 3 := by
      rw [t2, h27]
      rfl
    have hF9 : Fr YR [27, 8800, 9600, 9800, 10000] Z Z9 := hF5.tr t1 (by decide)
    have hFX : Fr YR [26, 27, 8000, 8200, 8400, 8600, 8800, 9000, 9200, 9400, 9600, 9800, 10000, 10200] X Z9 := hFX5.tr t1 (by decide)
    have o9 : (Z9.1 0 26).toInt = (po p : Int) := by rw [hF9.1 0 26 (show (26 : Nat) ∉ [27, 8800, 9600, 9800, 10000] from by decide)]; exact h26
    obtain ⟨hb0, hbw⟩ := hW p (by omega)
    have hbd := hbw.bd
    have hb9 : WX Z9 (ix (X.1 18 p)) (lo p) (lo (p + 1)) (X.1 15 p).toInt := hbw.fr (fun i _ _ => ⟨hFX.1 20 i (show (4000 : Nat) ∉ [26, 27, 8000, 8200, 8400, 8600, 8800, 9000, 9200, 9400, 9600, 9800, 10000, 10200] from by decide), hFX.1 23 i (show (4600 : Nat) ∉ [26, 27, 8000, 8200, 8400, 8600, 8800, 9000, 9200, 9400, 9600, 9800, 10000, 10200] from by decide), hFX.1 24 i (show (4800 : Nat) ∉ [26, 27, 8000, 8200, 8400, 8600, 8800, 9000, 9200, 9400, 9600, 9800, 10000, 10200] from by decide), hFX.1 25 i (show (5000 : Nat) ∉ [26, 27, 8000, 8200, 8400, 8600, 8800, 9000, 9200, 9400, 9600, 9800, 10000, 10200] from by decide), Or.inr (hFX.1 26 i (show (5200 : Nat) ∉ [26, 27, 8000, 8200, 8400, 8600, 8800, 9000, 9200, 9400, 9600, 9800, 10000, 10200] from by decide)), hFX.1 27 i (show (5400 : Nat) ∉ [26, 27, 8000, 8200, 8400, 8600, 8800, 9000, 9200, 9400, 9600, 9800, 10000, 10200] from by decide), fun _ => hFX.1 28 i (show (5600 : Nat) ∉ [26, 27, 8000, 8200, 8400, 8600, 8800, 9000, 9200, 9400, 9600, 9800, 10000, 10200] from by decide)⟩)
    have eb := ixc hb0
    obtain ⟨c, e, Y, g1, b1, c1, u1, x1, y1⟩ := hb9.pc (f_compiles_7 N) a Z9 2 (po p) (X.1 18 p) 0 Fr.rf eb.symm (by omega) ⟨by rw [u9]; rfl, l2⟩ o9 (by omega) (by omega)
    have r1 : Top Y 1 30 a 0 := Top.cs c1 l1 (by omega) (by rw [u1]; rfl)
    obtain ⟨Y1, g2, c2, u2, d2, d2n, -⟩ := st_ord (r7 := f_compiles_7 N) (a1 := a) r1 c1.2.1 (by omega) (by omega) (by decide) (fun _ => False) (fun _ => False)
    have q1 : Y.1 48 0 = 31 ∧ Y.1 49 0 = a ∧ Y.1 50 0 = 0 := ⟨(c1.2.2.2.1 0 (by omega)).1.trans l0.1, (c1.2.2.2.1 0 (by omega)).2.1.trans l0.2.1, (c1.2.2.2.1 0 (by omega)).2.2.trans l0.2.2⟩
    have r2 : Top Y1 0 31 a 0 := Top.cs c2 q1 (by omega) (by rw [u2]; rfl)
    obtain ⟨Y2, g3, c3, u3, d3, d3n, -⟩ := st_ord (r7 := f_compiles_7 N) (a1 := a) r2 c2.2.1 (by omega) (by omega) (by decide) (fun _ => False) (fun _ => False)
    have hgo := (g1.tr g2).tr g3
    obtain ⟨k, hk⟩ : ∃ k, BIG = (k + 1) + (c + 1 + 1) := ⟨BIG - (c + 3), by have := ltBIG (show c + 3 < 100000 by omega); omega⟩
    show ok (f_compiles_59 (f_compiles_7 N) BIG a Z9) _
    rw [hk, hgo (k + 1)]
    unfold f_compiles_59
    rw [lp_succ]
    unfold f_compiles_59_s
    refine ok.letV ?_
    refine ok.ite (fun _ => ?_) (fun q => absurd (show (Y2.1 0 27).toInt ≤ 0 by rw [u3]; exact Int.le_refl _) q)
    refine ok.inc (by decide) (by omega) (fun x11 h11 => ?_)
    have h11 : x11.toInt = a.toInt + 1 := h11
    -- what stands behind
    have cz : CS Z9 Y2 0 (po p) (e + 1 + 1) (fun i => lo p ≤ i ∧ i < lo (p + 1)) (fun i => lo p ≤ i ∧ i < lo (p + 1)) := ((c1.mono (by omega) (fun i q => q) (fun i (q : lo p ≤ i ∧ i < lo (p + 1) ∧ i ≠ ix (X.1 18 p)) => (⟨q.1, q.2.1⟩ : lo p ≤ i ∧ i < lo (p + 1)))).tr (c2.mono (by omega) (fun i q => q.elim) (fun i q => q.elim))).tr (c3.mono (by omega) (fun i q => q.elim) (fun i q => q.elim))
    have hFz : Fr YR [26, 27, 8000, 8200, 8400, 8600, 8800, 9000, 9200, 9400, 9600, 9800, 10000, 10200] X Y2 := hFX.tr cz.1 (by decide)
    have e18 : ∀ q, Y2.1 18 q = X.1 18 q := fun q => hFz.1 18 q (show (3600 : Nat) ∉ [26, 27, 8000, 8200, 8400, 8600, 8800, 9000, 9200, 9400, 9600, 9800, 10000, 10200] from by decide)
    have e15 : ∀ q, Y2.1 15 q = X.1 15 q := fun q => hFz.1 15 q (show (3000 : Nat) ∉ [26, 27, 8000, 8200, 8400, 8600, 8800, 9000, 9200, 9400, 9600, 9800, 10000, 10200] from by decide)
    have e44 : ∀ q, Y2.1 44 q = Z5.1 44 q := fun q => (cz.1.1 44 q (show (8800 : Nat) ∉ [26, 27, 8000, 8200, 8400, 8600, 9000, 9200, 9400, 9600, 9800, 10000, 10200] from by decide)).trans (t1.1 44 q (show (8800 : Nat) ∉ [27, 9600, 9800, 10000] from by decide))
    obtain ⟨po1, hpo1⟩ : ∃ po1 : Nat → Nat, (∀ q, q ≤ p → po1 q = po q) ∧ po1 (p + 1) = e + 2 := ⟨fun q => if q ≤ p then po q else e + 2, fun q hq => if_pos hq, if_neg (by omega)⟩
    refine ih (p + 1) Y2 po1 x11 N (by omega) (by omega) (by omega) hFz ?_ (by rw [hpo1.1 0 (Nat.zero_le _)]; exact h0) (fun q hq => ?_) (fun q hq => ?_) (fun j hj => ?_)
    · rw [hpo1.2]
      exact cz.2.1
    · by_cases q1 : q ≤ p
      · rw [hpo1.1 q q1]
        exact hpo q q1
      · have : q = p + 1 := by omega
        subst this
        rw [hpo1.2]
        omega
    · by_cases q1 : q < p
      · obtain ⟨s1, s2, e1, s3, s4, s5, s6⟩ := hC q q1
        have z18 : Z.1 18 q = X.1 18 q := hF.1 18 q (show (3600 : Nat) ∉ [26, 27, 8000, 8200, 8400, 8600, 8800, 9000, 9200, 9400, 9600, 9800, 10000, 10200] from by decide)
        have z15 : Z.1 15 q = X.1 15 q := hF.1 15 q (show (3000 : Nat) ∉ [26, 27, 8000, 8200, 8400, 8600, 8800, 9000, 9200, 9400, 9600, 9800, 10000, 10200] from by decide)
        have hle : e1 + 2 ≤ po p := by
          rw [← s6]
          exact hpm q (q + 1) p po Z lo hC (Nat.le_refl _) (by omega)
        have hml := hmon (q + 1) p (by omega) (by omega)
        have oa9 : ∀ j o n, OA Z j o n → OA Z9 j o n := fun j o n g => ⟨by rw [hF9.1 40 j (show (8000 : Nat) ∉ [27, 8800, 9600, 9800, 10000] from by decide)]; exact g.1, by rw [hF9.1 41 j (show (8200 : Nat) ∉ [27, 8800, 9600, 9800, 10000] from by decide)]; exact g.2⟩
        rw [hpo1.1 q (by omega), hpo1.1 (q + 1) (by omega), e18, e15, e44, h44o q (by omega), ← z18, ← z15]
        exact ⟨s1, s2, e1, (s3.fr0 hF9 (by decide)).cs cz (by omega) (fun i i1 i2 => ⟨fun (g : lo p ≤ i ∧ i < lo (p + 1)) => by omega, fun _ (g : lo p ≤ i ∧ i < lo (p + 1)) => by omega⟩), cz.oa (oa9 _ _ _ s4) (by omega), cz.oa (oa9 _ _ _ s5) (by omega), s6⟩
      · have eq1 : q = p := by omega
        subst eq1
        rw [hpo1.1 q (Nat.le_refl _), hpo1.2, e18, e15, e44, h44]
        refine ⟨h26, hb0, e, ?_, ?_, ?_, rfl⟩
        · exact (x1.cs c2 (Nat.le_refl _) (fun i _ _ => ⟨fun g => g, fun _ g => g⟩)).cs c3 (by omega) (fun i _ _ => ⟨fun g => g, fun _ g => g⟩)
        · exact c3.oa ⟨by rw [d2]; rfl, by rw [d2n]; exact ha⟩ (by omega)
        · exact ⟨by rw [d3]; rfl, by rw [d3n]; exact ha⟩
    · rw [hpo1.2] at hj
      by_cases q1 : j < po p
      · rw [(cz.2.2.2.2.1 j q1).2.2.2, hF9.1 43 j (show (8600 : Nat) ∉ [27, 8800, 9600, 9800, 10000] from by decide)]
        exact h43 j q1
      · exact cz.2.2.2.2.2.1 j (by omega) (by omega)
/-- a text read, in orders -/
def ALLC (X : St) : Prop := ∃ lo po : Nat → Nat, lo 0 = 0 ∧ lo (ix (X.1 0 18)) = ix (X.1 0 19) ∧ (∀ p q, p ≤ q → q ≤ ix (X.1 0 18) → lo p ≤ lo q) ∧ po 0 = 0 ∧ (X.1 0 26).toInt = (po (ix (X.1 0 18)) : Int) ∧ (∀ q, q ≤ ix (X.1 0 18) → po q ≤ 5 * lo q) ∧ CODE X lo po (ix (X.1 0 18)) ∧ ∀ j, j < po (ix (X.1 0 18)) → X.1 43 j = -1
theorem ALLP.mon {X : St} {lo : Nat → Nat} {P : Nat} (h : ∀ p, p < P → lo p ≤ lo (p + 1)) : ∀ p q, p ≤ q → q ≤ P → lo p ≤ lo q := by
  intro p q hpq
  induction q with
  | zero => intro _; rw [show p = 0 by omega]; exact Nat.le_refl _
  | succ q ih =>
    intro hq
    by_cases g : p = q + 1
    · rw [g]; exact Nat.le_refl _
    · have := ih (by omega) (by omega)
      have := h q (by omega)
      omega
theorem t_f_compiles {X : St} (h : ALLP X) (hP : 0 ≤ (X.1 0 18).toInt ∧ (X.1 0 18).toInt ≤ 40) (hN : 0 ≤ (X.1 0 19).toInt ∧ (X.1 0 19).toInt ≤ 3000) : ok (f_compiles X) (fun _ Y => Fr YR [26, 27, 8000, 8200, 8400, 8600, 8800, 9000, 9200, 9400, 9600, 9800, 10000, 10200] X Y ∧ ALLC Y) := by
  obtain ⟨lo, a, b, c, d⟩ := h
  have e18 := ixc hP.1
  have e19 := ixc hN.1
  have hmon := ALLP.mon (X := X) (fun p hp => (c p hp).1)
  unfold f_compiles
  refine ok.letV ?_
  have hF : Fr YR [26, 27, 8000, 8200, 8400, 8600, 8800, 9000, 9200, 9400, 9600, 9800, 10000, 10200] X (wI X 0 26 0) := Fr.rf.wI 0 26 _ (show (26 : Nat) ∈ [26, 27, 8000, 8200, 8400, 8600, 8800, 9000, 9200, 9400, 9600, 9800, 10000, 10200] from by decide)
  have h26 : ((wI X 0 26 0).1 0 26).toInt = 0 := by rw [wI_at]; rfl
  obtain ⟨Z, hZ⟩ : ∃ Z : St, wI X 0 26 0 = Z := ⟨_, rfl⟩
  rw [hZ] at hF h26 ⊢
  refine (comp_loop (X := X) (lo := lo) (P := ix (X.1 0 18)) e18.symm (by omega) (fun p hp => (c p hp).2.1.2.2.2.2.2.2) hmon (by omega) (ix (X.1 0 18)) 0 Z (fun _ => 0) 0 BIG (by omega) (ltBIG (by omega)) (by decide) hF (by rw [h26]; rfl) rfl (fun q hq => by rw [show q = 0 by omega]; exact Nat.zero_le _) (fun q hq => absurd hq (Nat.not_lt_zero _)) (fun j hj => absurd hj (Nat.not_lt_zero _))).mono ?_
  rintro r Y ⟨hY, po, p0, p1, p2, p3, p4⟩
  have y18 : Y.1 0 18 = X.1 0 18 := hY.1 0 18 (show (18 : Nat) ∉ [26, 27, 8000, 8200, 8400, 8600, 8800, 9000, 9200, 9400, 9600, 9800, 10000, 10200] from by decide)
  have y19 : Y.1 0 19 = X.1 0 19 := hY.1 0 19 (show (19 : Nat) ∉ [26, 27, 8000, 8200, 8400, 8600, 8800, 9000, 9200, 9400, 9600, 9800, 10000, 10200] from by decide)
  refine ⟨hY, lo, po, a, ?_, ?_, p0, ?_, ?_, ?_, ?_⟩
  · rw [y18, y19]; exact b
  · rw [y18]; exact hmon
  · rw [y18]; exact p1
  · rw [y18]; exact p2
  · rw [y18]; exact p3
  · rw [y18]; exact p4
