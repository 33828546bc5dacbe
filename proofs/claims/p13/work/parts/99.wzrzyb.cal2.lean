/-! the whole of a call, on both sides -/
/-- what a call leaves: the function's wrappings f 0 .. f (D - 1), the part f D -/
def CAQ (e : Nat) (X Y : St) (r : Nat → Int32) (ks : List (List Int)) (f : Nat → Int32) (D c b cell m A : Nat) (Z V : St) : Prop := (V.2.2 = Y.2.2 ∧ (∀ j k, ¬ (j = 70 ∧ ((4 ≤ k ∧ k ≤ 7) ∨ k = 10 ∨ k = 11 ∨ k = 15)) → ¬ (j = 71 ∧ k = 2) → ¬ (76 ≤ j ∧ j ≤ 81) → ¬ (j = 82 ∧ k = c + 1) → ¬ j = 85 → ¬ j = 87 → V.1 j k = Y.1 j k) ∧ ∀ j k, ¬ j = 75 → ¬ (j = 84 ∧ A + 1 ≤ k ∧ k < A + 1 + m) → ¬ (j = 83 ∧ 44 * (c + 1) ≤ k ∧ k < 44 * (c + 1) + m) → V.2.1 j k = Y.2.1 j k) ∧ (KJq Z ∧ KU Z ∧ KXq X Z) ∧ SCr Z V ∧ (OFr Z V ∨ (ONr Z V ∧ ∃ r1, HG X Z r r1 ∧ HR Z V r1 ks ∧ ((V.1 70 11).toInt = (c : Int) + 2 ∧ V.1 70 10 = Y.1 (e + 17) (ix (f D)) ∧ (V.1 70 15).toInt = (A : Int) + 1 ∧ V.1 82 (c + 1) = Y.1 70 10 ∧ (Z.1 0 37).toInt = ((b + D + 1 : Nat) : Int)) ∧ (∀ j, j < m → VR Z r1 (Z.1 62 (45 * (c + 1) + j)) (Z.1 63 (45 * (c + 1) + j)) (V.2.1 83 (44 * (c + 1) + j))) ∧ Z.1 61 cell = f D ∧ ∀ i, i < D → (Z.1 76 (b + i)).toInt = (f i).toInt - 100))
section CAL2S
variable {X Y Z X1 Y1 V V1 Z1 Z2 : St} {r r1 r2 : Nat → Int32} {s w k a v an pl kc o1 n1 : Int32} {y y1 : Int64} {ks : List (List Int)} {e c m n i j q A B b cell D : Nat} {f : Nat → Int32} {G : Nat → Int32} {u : Bool}
/-- a function's long, and what is around what in the class -/
theorem HR.fch (h : HR X Y r ks) (hF : FCH X f D) (hD : D ≤ 20) : ∃ (yc : Nat → Int64) (qc : Nat → Int32), CCH Y yc qc D ∧ yc 0 = fvl r (f 0) ∧ yc D = VLs 4 (f D) ∧ ∀ i, qc i = r (ix (f i) - 100) := by
  have q := h.ch4 hF hD
  obtain ⟨yc, hy⟩ : ∃ yc : Nat → Int64, yc = fun i => fvl r (f i) := ⟨_, rfl⟩
  obtain ⟨qc, hq⟩ : ∃ qc : Nat → Int32, qc = fun i => r (ix (f i) - 100) := ⟨_, rfl⟩
  rw [← hy, ← hq] at q
  refine ⟨yc, qc, q, by rw [hy], ?_, fun i => by rw [hq]⟩
  rw [hy]
  show fvl r (f D) = _
  unfold fvl
  rw [if_pos hF.2.2]
theorem CAQ.off (hr : ∀ j k, ¬ j = 85 → Y1.1 j k = Y.1 j k) (hl : Y1.2 = Y.2) (hA : A = cell + q) (h : CLQ X Y1 r ks cell m q Z V) (hO : OFr Z V) : CAQ e X Y r ks f D c b cell m A Z V := by
  obtain ⟨⟨-, a2, a3, a4⟩, b1, b2, -⟩ := h
  refine ⟨⟨by rw [a2, hl], fun j k q1 q2 q3 _ q5 q6 => (a3 j k (by omega) q2 q3 q6).trans (hr j k q5), fun j k q1 q2 q3 => ?_⟩, b1, b2, Or.inl hO⟩
  rw [a4 j k q1 (by omega), hl]
set_option maxHeartbeats 4000000 in
theorem n_call (hB : RBk e X Y ks) (hM : PRm e X Y) (hS : SCr X Y) (hO : ONr X Y) (hH : HR X Y r ks) (hT : KT X) (h3 : K3 X) (hPB : PBD X) (hcs : CST u X X G cell m b 0 kc) (hF : FCH X f D) (hD : D ≤ 20) (hf0 : f 0 = X.1 61 cell) (hm4 : m ≤ 4) (hcm : cell + m + 1 ≤ 20000) (hAm : A + m ≤ 20001) (hb : b ≤ 2100) (h27 : (X.1 27 (ix n1)).toInt = (m : Int)) (h22 : X.1 22 (ix n1) = pl) (h31 : (X.1 0 31).toInt = ((cell + 1 + m : Nat) : Int)) (h15 : (Y.1 70 15).toInt = ((A + 1 + m : Nat) : Int)) (hAq : A = cell + q) (hv : ∀ j, cell + 1 ≤ j → j < cell + 1 + m → VR X r (X.1 60 j) (X.1 61 j) (Y.2.1 84 (j + q))) (hvc : Y.2.1 84 A = fvl r (X.1 61 cell)) (h38 : (X.1 0 38).toInt = (c : Int) + 1) (hc : c ≤ 99) (h11 : (Y.1 70 11).toInt = (c : Int) + 1) (h37 : (X.1 0 37).toInt = (b : Int)) (hn : an.toInt = (m : Int)) : pw (f_call o1 n1 X) (fun z Z => ((Z.1 0 43).toInt < 0 → z = Z.1 44 (ix (Z.1 61 cell))) ∧ pw (g_Running_callWith an pl Y) (fun _ V => CAQ e X Y r ks f D c b cell m A Z V)) := by
  have l1 : (1 : Int32).toInt = 1 := by decide
  have he := hB.1
  unfold f_call
  refine pw_ck (fun _ => pw_eq (fun x1 e1 => pw_eq (fun x2 e2 => pw_eq (fun x3 e3 => pw_eq (fun x4 e4 => ?_)))))
  have v1 : x1.toInt = (m : Int) := by rw [e1]; exact h27
  have v3 : x3.toInt = ((cell + m : Nat) : Int) := by rw [e3, e2, ti_sub (by rw [h31, l1]; omega) (by rw [h31, l1]; omega), h31, l1]; omega
  have v4 : x4.toInt = (cell : Int) := by rw [e4, ti_sub (by rw [v3, v1]; omega) (by rw [v3, v1]; omega), v3, v1]; omega
  have i4 : ix x4 = cell := ixn v4
  have hz := yz_call17 (a1 := o1) (a2 := n1) (a3 := x1) (a4 := x4) BIG X
  rw [i4] at hz
  refine pw_and hz ?_
  -- the class looks at what is called
  obtain ⟨yc, qc, hC, hy0, hyD, hqc⟩ := hH.fch hF hD
  have hun := l_unwrap hC
  have key : ∀ (x5 : Int32) (Y1 : St), x5.toInt = (D : Int) → (∀ i, i < D → Y1.1 85 i = qc i) → (∀ j k, ¬ j = 85 → Y1.1 j k = Y.1 j k) → Y1.2 = Y.2 → ∀ x3' : Int32, x3'.toInt = (A : Int) → pw (f_call_17 BIG o1 n1 x1 x4 X) (fun _ Z => pw (g_Running_callWith_34 BIG an pl x3' x5 (0 : Int32) Y1) (fun _ V => CAQ e X Y r ks f D c b cell m A Z V)) := by
    intro x5 Y1 h5 h85 hr hl x3' h3'
    have hC1 : CFm Y Y1 0 0 → True := fun _ => trivial
    have hB1 : RBk e X Y1 ks := by
      obtain ⟨b1, b2, ⟨b3, b4⟩, b5⟩ := hB
      exact ⟨b1, b2, ⟨b3.cg (fun i k q1 q2 _ => hr i k (by omega)), b4⟩, by rw [hl]; exact b5⟩
    have ie : ¬ e = 85 ∧ ¬ e + 13 = 85 := by rcases he with z | z <;> omega
    have hM1 : PRm e X Y1 := ⟨hM.1, by rw [hr e 1 ie.1]; exact hM.2.1, fun k hk => by rw [hr _ k ie.2]; exact hM.2.2 k hk⟩
    have hS1 : SCr X Y1 := hS.cg ⟨fun _ _ => rfl, fun _ => rfl, fun _ => rfl⟩ ⟨fun k _ => hr 70 k (by omega), fun k _ => hr 71 k (by omega), fun k => hr 86 k (by omega), fun k => hr 87 k (by omega)⟩
    have hO1 : ONr X Y1 := hO.cg rfl rfl (fun k _ => hr 70 k (by omega))
    have hH1 : HR X Y1 r ks := hH.cg hB.2.1.1 KXq.rf ⟨fun _ _ => rfl, fun _ _ _ => rfl⟩ ⟨fun e k q => hr e k (by omega), fun e k _ => by rw [hl]⟩
    have hQ0 : CLQ X Y1 r ks cell m q X Y1 := ⟨⟨fun _ _ _ _ _ _ _ _ _ => rfl, rfl, fun _ _ _ _ _ _ => rfl, fun _ _ _ _ => rfl⟩, ⟨hB.2.1.1, hB.2.1.2, KXq.rf⟩, hS1, Or.inr ⟨hO1, r, HG.rf, hH1, fun j j1 j2 => by rw [hl]; exact hv j j1 j2⟩⟩
    refine pw_mono (n_callw (e := e) (X := X) (Y := Y1) (r := r) (G := G) (u := u) (kc := kc) (f := f) (D := D) (a1 := o1) (a2 := n1) (an := an) (pl := pl) (c3 := x3') (am := x5) (cell := cell) (m := m) (q := q) (A := A) (b := b) (P := fun Z V => CAQ e X Y r ks f D c b cell m A Z V) hB1 hM1 hT h3 hPB hM.1.2 hm4 (by omega) hb v1 v4 hAq (by omega) hn h3' h5 hD hF (fun i hi => by rw [h85 i hi, hqc]) (fun Z V n hQ hP g37 hn20 g76 hon => ?_) BIG 0 X Y1 0 rfl (Nat.zero_le _) hQ0 (PER.rf hT) h37 (fun _ _ => rfl) (fun _ => ⟨hcs, hf0.symm, fun i hi => absurd hi (Nat.not_lt_zero _)⟩)) (fun _ Z g => g BIG)
    -- the end
    unfold f_call_166
    by_cases hz : (Z.1 0 43).toInt < 0
    · have hOz := hQ.on hz
      obtain ⟨⟨c1, c2, ⟨_, c4, c5', _⟩, _, _, _⟩, d1, d2, d3, d4⟩ := hon hz
      rw [d2] at g37
      obtain ⟨⟨qa1, qa2⟩, ⟨qb1, qb2, qb3⟩, qS, qc4⟩ := id hQ
      obtain ⟨r1, hG, hHz, hvz⟩ : ∃ r1, HG X Z r r1 ∧ HR Z V r1 ks ∧ ∀ j, cell + 1 ≤ j → j < cell + 1 + m → VR Z r1 (Z.1 60 j) (Z.1 61 j) (V.2.1 84 (j + q)) := by
        rcases qc4 with z | ⟨_, r1, z1, z2, z3⟩
        · have := z.1
          omega
        · exact ⟨r1, z1, z2, z3⟩
      have z18 : Z.1 0 18 = X.1 0 18 := hP.1.1 0 18 (by decide)
      rw [d3] at c4 c5'
      have wp : 0 ≤ (f D).toInt ∧ (f D).toInt < (X.1 0 18).toInt := by
        rw [← z18]
        rcases c4 with z | z
        · exact ⟨z.1, z.2.2⟩
        · have := hF.2.2
          omega
      have fa2 : (Z.1 15 (ix (f D))).toInt = (m : Int) := by
        unfold FA at c5'
        rw [if_pos hF.2.2] at c5'
        exact c5'
      have v11 : V.1 70 11 = Y.1 70 11 := (qa2.2.1 70 11 (by omega) (by omega) (by omega) (by omega)).trans (hr 70 11 (by omega))
      have v15 : V.1 70 15 = Y.1 70 15 := (qa2.2.1 70 15 (by omega) (by omega) (by omega) (by omega)).trans (hr 70 15 (by omega))
      have v10 : V.1 70 10 = Y.1 70 10 := (qa2.2.1 70 10 (by omega) (by omega) (by omega) (by omega)).trans (hr 70 10 (by omega))
      have iee : e ≠ 70 ∧ e ≠ 71 ∧ ¬ (76 ≤ e ∧ e ≤ 81) ∧ e ≠ 85 ∧ e ≠ 87 ∧ e + 17 ≠ 70 ∧ e + 17 ≠ 71 ∧ ¬ (76 ≤ e + 17 ∧ e + 17 ≤ 81) ∧ e + 17 ≠ 85 ∧ e + 17 ≠ 87 := by rcases he with z | z <;> omega
      have ve1 : V.1 e 1 = Y.1 e 1 := (qa2.2.1 e 1 (by omega) (by omega) (by omega) (by omega)).trans (hr e 1 (by omega))
      have ve17 : V.1 (e + 17) (ix (f D)) = Y.1 (e + 17) (ix (f D)) := (qa2.2.1 (e + 17) _ (by omega) (by omega) (by omega) (by omega)).trans (hr (e + 17) _ (by omega))
      have v22 : V.2.2 70 2 = e + 1 := by rw [qa2.1, hl]; exact hB.2.2.2
      refine pw_bd (n_isOn1 hOz) ?_
      rintro z7 X8 ⟨e8, e7⟩
      rw [e8, e7]
      refine pw_neg (by decide) (pw_ck (fun _ => pw_to (show Z.1 61 (ix x4) = f D by rw [i4]; exact d3) (pw_let (pw_ck (fun _ => pw_to (show Z.1 22 (ix n1) = pl by rw [hP.1.1 22 (ix n1) (show (4400 : Nat) ∉ PR26 from by decide)]; exact h22) ?_)))))
      refine pw_bd (n_calls (e := e) (X := Z) (Y := V) (r := r1) (p1 := f D) (an := an) (pl := pl) (c := c) (cell := cell) (A := A) (m := m) (B := b + D) he v22 ⟨wp.1, by rw [ve1, hM.2.1]; exact wp.2⟩ (by have := hM.1.2; omega) hOz qS (by rw [hP.1.1 0 38 (by decide)]; exact h38) hc (by rw [v11]; exact h11) g37 (by omega) fa2 hm4 hn (by omega) hAm (by rw [hP.1.1 0 31 (by decide)]; exact h31) (by rw [v15]; exact h15) (fun j hj => by have q1 := hvz (cell + 1 + j) (by omega) (by omega); rw [show cell + 1 + j + q = A + 1 + j by omega] at q1; exact q1)) ?_
      intro _ Z1 h12
      refine pw_bd (pw_ok r_isOn) ?_
      rintro x13 Z1' ⟨e13, _⟩
      rw [← e13]
      have fin : ∀ b0 : Int32, pw (f_call_220 (f D) b0 Z1) (fun _ Z1 => ∀ (M : Nat) (x : Int32), ((Z.1 0 43).toInt < 0 → x.toInt = (D : Int)) → pw (g_Running_callWith_34 M an pl x3' x5 x V) (fun _ V1 => CAQ e X Y r ks f D c b cell m A Z1 V1)) := by
        intro b0
        unfold f_call_220
        refine pw_eq (fun Zf ef => pw_ck (fun _ => pw_let (pw_ret (fun M x hx => ?_))))
        cases M with
        | zero => exact pw_none
        | succ M =>
          have e2 : g_Running_callWith_34 (M + 1) = g_Running_callWith_34_s (g_Running_callWith_34 M) := by
            unfold g_Running_callWith_34
            exact lp_succ _ _ _
          rw [e2]
          unfold g_Running_callWith_34_s
          have hxD := hx hz
          have hFz : FCH Z f D := hF.hx c2
          obtain ⟨yd, qd, hCz, hyz0, hyzD, _⟩ := hHz.fch hFz hD
          have i3 : ix x3' = A := ixn h3'
          have e84 : V.2.1 84 (ix x3') = yd 0 := by
            rw [i3, hyz0, qa2.2.2 84 A (by omega) (by omega), hl, hvc, ← hf0]
            refine (fvl_up (fun z => ?_) hG).symm
            rcases Nat.eq_zero_or_pos D with y | y
            · have := hF.2.2
              rw [y] at this
              omega
            · rcases (hF.1 0 y).2.1 with q | q
              · omega
              · exact q.2.1
          refine pw_pos (by omega) (pw_let (pw_neg hOz.2.1 (pw_ck (fun _ => pw_to e84 (pw_bd (l_core hCz) ?_)))))
          rintro y9 V9 ⟨e9, ey9⟩
          rw [e9, ey9, hyzD]
          refine pw_bd l_contentOf ?_
          rintro x11 V11 ⟨e11, ex11⟩
          rw [e11, ex11]
          refine pw_bd h12 (fun _ V1 hE => pw_ret ?_)
          have rz : ∀ e k, ¬ (e = 0 ∧ k = 31) → Zf.1 e k = Z1.1 e k := fun e k z => by rw [ef, wI_ne _ _ _ _ _ _ z]
          rcases hE with ⟨g1, g2, g3, g4, g5⟩ | ⟨g1, ⟨g2, g3, g4⟩, ⟨g5, g6, g7, g8, _, g10⟩, g9⟩
          · have hrZ : ∀ e k, ¬ (e = 0 ∧ (k = 31 ∨ k = 43 ∨ k = 44)) → Zf.1 e k = Z.1 e k := fun e k z => (rz e k (by omega)).trans (g3 e k (by omega))
            have hOf : OFr Zf V1 := by
              unfold OFr
              rw [rz 0 43 (by omega), rz 0 44 (by omega)]
              exact g1
            refine ⟨⟨by rw [g4, qa2.1, hl], fun j k q1 q2 q3 _ q5 q6 => ?_, fun j k q1 q2 _ => ?_⟩, ⟨qb1.cg (fun e k q => hrZ e k (by omega)), (KGq.of (fun e k q => hrZ e k (by omega))).2 qb2, qb3.tr (KXq.of (fun e k q => hrZ e k (by omega)))⟩, g2.cg ⟨fun k q => rz 0 k (by omega), fun k => rz 79 k (by omega), fun k => rz 80 k (by omega)⟩ ⟨fun _ _ => rfl, fun _ _ => rfl, fun _ => rfl, fun _ => rfl⟩, Or.inl hOf⟩
            · rw [g5 j k (by omega), qa2.2.1 j k (by omega) q2 q3 q6, hr j k q5]
            · rw [g4, qa2.2.2 j k q1 (by omega), hl]
          · have hrZ : ∀ e k, ¬ (e = 0 ∧ (k = 31 ∨ k = 32 ∨ k = 37 ∨ k = 38)) → ¬ ((e = 62 ∨ e = 63) ∧ 45 * (c + 1) ≤ k ∧ k < 45 * (c + 1) + m) → ¬ (76 ≤ e ∧ e ≤ 78 ∧ k = b + D) → Zf.1 e k = Z.1 e k := fun e k z z1 z2 => (rz e k (by omega)).trans (g1 e k z z1 z2)
            have hx : HXc Z Zf := ⟨fun k _ => hrZ 0 k (by omega) (by omega) (by omega), fun e k _ => hrZ e k (by omega) (by omega) (by omega)⟩
            have hK : KXq Z Zf := KXq.of (fun e k q => hrZ e k (by omega) (by omega) (by omega))
            refine ⟨⟨by rw [g3, qa2.1, hl], fun j k q1 q2 q3 q4 q5 q6 => ?_, fun j k q1 q2 q3 => ?_⟩, ⟨qb1.cg (fun e k q => hrZ e k (by omega) (by omega) (by omega)), (KGq.of (fun e k q => hrZ e k (by omega) (by omega) (by omega))).2 qb2, qb3.tr hK⟩, qS.cg ⟨fun k q => hrZ 0 k (by omega) (by omega) (by omega), fun k => hrZ 79 k (by omega) (by omega) (by omega), fun k => hrZ 80 k (by omega) (by omega) (by omega)⟩ ⟨fun k _ => g2 70 k (by omega) (by omega), fun k _ => g2 71 k (by omega) (by omega), fun k => g2 86 k (by omega) (by omega), fun k => g2 87 k (by omega) (by omega)⟩, Or.inr ⟨hOz.cg (hrZ 0 43 (by omega) (by omega) (by omega)) (hrZ 0 44 (by omega) (by omega) (by omega)) (fun k _ => g2 70 k (by omega) (by omega)), r1, hG.tr (HG.of hx), hHz.cg qb1 hK hx ⟨fun e k _ => g2 e k (by omega) (by omega), fun e k q => g4 e k (by omega)⟩, ⟨g5, by rw [g6, ve17], g7, by rw [g8, v10], by rw [rz 0 37 (by omega), g10]; omega⟩, fun j hj => ?_, ?_, fun i hi => ?_⟩⟩
            · rw [g2 j k (by omega) (by omega), qa2.2.1 j k (by omega) q2 q3 q6, hr j k q5]
            · rw [g4 j k q3, qa2.2.2 j k q1 (by omega), hl]
            · rw [rz 62 _ (by omega), rz 63 _ (by omega)]
              exact (g9 j hj).up (HG.of hx)
            · rw [hrZ 61 cell (by omega) (by omega) (by omega)]
              exact d3
            · rw [hrZ 76 (b + i) (by omega) (by omega) (by omega)]
              exact d4 i hi
      exact pw_ite (fun _ => pw_let (fin _)) (fun _ => pw_let (pw_let (fin _)))
    · have hOz := hQ.of hz
      refine pw_bd (n_isOn0 hOz) ?_
      rintro z7 X8 ⟨e8, e7⟩
      rw [e8, e7]
      refine pw_pos (by decide) (pw_ret (fun M x _ => ?_))
      exact pw_mono (l_callO hAq (by omega) h3' hn hm4 M x V hQ hOz) (fun _ V1 g => CAQ.off hr hl hAq g.1 g.2)
  -- from the class's look on
  unfold g_Running_callWith
  refine pw_mono (pw_all (Q := fun (p : Int32 × St × Int32) _ Z => p.1.toInt = (D : Int) → (∀ i, i < D → p.2.1.1 85 i = qc i) → (∀ j k, ¬ j = 85 → p.2.1.1 j k = Y.1 j k) → p.2.1.2 = Y.2 → p.2.2.toInt = (A : Int) → pw (g_Running_callWith_34 BIG an pl p.2.2 p.1 (0 : Int32) p.2.1) (fun _ V => CAQ e X Y r ks f D c b cell m A Z V)) (fun p => pw_im (fun q1 => pw_im (fun q2 => pw_im (fun q3 => pw_im (fun q4 => pw_im (fun q5 => key p.1 p.2.1 q1 q2 q3 q4 p.2.2 q5))))))) (fun _ Z hall => ?_)
  refine pw_let (pw_eq (fun y2 d2 => pw_eq (fun y3 d3 => ?_)))
  have w2 : y2.toInt = ((A + m : Nat) : Int) := by rw [d2, ti_sub (by rw [h15, l1]; omega) (by rw [h15, l1]; omega), h15, l1]; omega
  have w3 : y3.toInt = (A : Int) := by rw [d3, ti_sub (by rw [w2, hn]; omega) (by rw [w2, hn]; omega), w2, hn]; omega
  refine pw_pos (by omega) (pw_ck (fun _ => pw_to (show Y.2.1 84 (ix y3) = yc 0 by rw [ixn w3, hvc, hy0, hf0]) (pw_bd hun ?_)))
  rintro x5 Y1 ⟨g1, g2, g3, g4⟩
  exact hall (x5, Y1, y3) g1 g2 g3 g4 w3
end CAL2S
