/-! the loop of askings outward, on both sides -/
section OUT2S
variable {X Y Z X1 Y1 X2 Y2 V V1 : St} {r r1 r2 : Nat → Int32} {s w k1 a b p g t p1 p2 ai b0 cell a7 : Int32} {y y1 : Int64} {ks : List (List Int)} {e c m n i j D : Nat} {d d1 : List Int} {u : Bool} {G : Nat → Int32} {f : Nat → Int32}
theorem KC.gv (hB : RBk e X Y ks) (h : KC ks a d) : pw (g_Kinds_givesOf (e + 1) a Y) (fun z Y1 => Y1 = Y ∧ KC ks z (gvs d)) := by
  obtain ⟨z, h1, h2⟩ := h
  refine pw_mono (kk_givesOf hB.o3 hB.2.2.1.1 hB.2.2.1.2 h1 h2) (fun x Y1 q => ⟨q.1, ?_⟩)
  obtain ⟨_, j, j1, j2, _⟩ := q
  exact ⟨j, j1, j2⟩
/-- the class's loop, one turn -/
theorem l_out1 (hB : RBk e X Y ks) (ha : a7.toInt = (i : Int)) (h85 : Y.1 85 i = w) (kd : KC ks (Y.1 76 (ix w)) d) (kd1 : KC ks (Y.1 77 (ix w)) d1) (M : Nat) {Q : Int64 → St → Prop} (h : ∀ (M1 : Nat) (q : Int32 × Int32), KC ks q.1 (gvs d) → KC ks q.2 (gvs d1) → pw (bnd (g_Running_ask y q.1 q.2 (Y.1 78 (ix w)) (Y.1 79 (ix w)) (Y.1 80 (ix w)) Y) fun y18 X19 => letV (a7 + Int32.ofInt (-1)) fun x20 => g_Running_askOutward_12 M1 y18 x20 X19) Q) : pw (g_Running_askOutward_12 M y a7 Y) Q := by
  cases M with
  | zero => exact pw_none
  | succ M =>
    have e1 : g_Running_askOutward_12 (M + 1) = g_Running_askOutward_12_s (g_Running_askOutward_12 M) := by
      unfold g_Running_askOutward_12
      exact lp_succ _ _ _
    rw [e1]
    unfold g_Running_askOutward_12_s
    refine pw_neg (by omega) (pw_ck (fun _ => pw_to (show Y.1 85 (ix a7) = w by rw [ixn ha]; exact h85) (pw_ck (fun _ => pw_to hB.pe (pw_to (kYp hB.1).1 (pw_ck (fun _ => pw_let (pw_bd (kd.gv hB) ?_))))))))
    rintro x8 X9 ⟨e9, k8⟩
    rw [e9]
    refine pw_ck (fun _ => pw_to hB.pe (pw_to (kYp hB.1).1 (pw_ck (fun _ => pw_let (pw_bd (kd1.gv hB) ?_)))))
    rintro x13 X14 ⟨e14, k13⟩
    rw [e14]
    exact pw_ck (fun _ => pw_let (pw_ck (fun _ => pw_let (pw_ck (fun _ => pw_let (h M (x8, x13) k8 k13))))))
theorem n_out (hc : ix cell = c) (hB : RBk e X Y ks) (hM : PRm e X Y) (hD : D ≤ 20) (hr : ∀ i, i < D → (f i).toInt < (X.1 0 33).toInt) (h85 : ∀ i, i < D → Y.1 85 i = r (ix (f i))) : ∀ (N k : Nat) (Z V : St) (y : Int64) (a6 a7 : Int32), a6.toInt = (k : Int) - 1 → a7.toInt = (k : Int) - 1 → k ≤ D → ASQ X Y r ks c y Z V → PRE Z cell f D → ((Z.1 0 43).toInt < 0 → WAY u Z G f D k cell) → pw (f_readsPlace_126 N cell a6 Z) (fun _ Z1 => ∀ M : Nat, pw (g_Running_askOutward_12 M y a7 V) (fun y1 V1 => ASQ X Y r ks c y1 Z1 V1)) := by
  have lm1 : (Int32.ofInt (-1)).toInt = -1 := by decide
  have l0 : (0 : Int32).toInt = 0 := by decide
  intro N
  induction N with
  | zero => exact fun _ _ _ _ _ _ _ _ _ _ _ _ => pw_none
  | succ N ih =>
    intro k Z V y a6 a7 h6 h7 hk hA hP hon
    have e1 : f_readsPlace_126 (N + 1) = f_readsPlace_126_s (f_readsPlace_126 N) := by
      unfold f_readsPlace_126
      exact lp_succ _ _ _
    rw [e1]
    unfold f_readsPlace_126_s
    cases k with
    | zero =>
      refine pw_pos (by omega) (pw_ret (fun M => ?_))
      cases M with
      | zero => exact pw_none
      | succ M =>
        have e2 : g_Running_askOutward_12 (M + 1) = g_Running_askOutward_12_s (g_Running_askOutward_12 M) := by
          unfold g_Running_askOutward_12
          exact lp_succ _ _ _
        rw [e2]
        unfold g_Running_askOutward_12_s
        exact pw_pos (by omega) (pw_ret hA)
    | succ k =>
      have hkD : k ≤ D := by omega
      have hkD1 : k < D := by omega
      have i7 : a7.toInt = (k : Int) := by omega
      have v7 : (a7 + Int32.ofInt (-1)).toInt = (k : Int) - 1 := by rw [ti_add (by rw [h7, lm1]; omega) (by rw [h7, lm1]; omega), h7, lm1]; omega
      have v6 : (a6 + Int32.ofInt (-1)).toInt = (k : Int) - 1 := by rw [ti_add (by rw [h6, lm1]; omega) (by rw [h6, lm1]; omega), h6, lm1]; omega
      have n7 : ¬ a7.toInt < 0 := by omega
      have n6 : ¬ a6.toInt < 0 := by omega
      have i6 : ix a6 = k := ixn (by omega)
      have r85 : ∀ hA : ASQ X Y r ks c y Z V, V.1 85 k = Y.1 85 k := fun hA => hA.1.2.2.1 85 k (by omega) (by omega) (by omega) (by omega)
      by_cases hz : (Z.1 0 43).toInt < 0
      · have hO := hA.on hz
        obtain ⟨r1, hG, hAP⟩ := hA.apr hB hO
        have hAP0 := hAP
        obtain ⟨hBz, hSz, _, hHz, hvz⟩ := hAP
        obtain ⟨w1, w2, w3⟩ := hon hz
        obtain ⟨⟨p1, p2, p3⟩, ⟨p4, p5⟩, p6⟩ := id hP
        obtain ⟨rfl, ⟨v8, v9⟩, ⟨m8, m9⟩, ⟨c8, c9⟩, ⟨vk, vk1⟩, fit, prt, fb⟩ := chain_ask (i := k) w1 p1 p2 w2 hkD1
        have hfi := w2.1 k hkD
        have ef := ixc hfi.1
        have hlt := hfi.2.1
        -- what both sides know of the wrapping
        obtain ⟨_, hT⟩ := hHz.2.1 (ix (f k)) (by omega)
        obtain ⟨b1, ⟨b2, b3, b4, b5⟩, ⟨b6, b7, _⟩, d, d1, kd, kd1, sd, sv⟩ := hT ((w2.2.1 k hkD1).1)
        have er : r1 (ix (f k)) = r (ix (f k)) := (hG.2 (ix (f k)) (by have := hr k hkD1; omega)).2
        have s3 : sot d = 3 ∧ sot d1 = 3 := by
          have q := kd1.1.so
          have := (hfi.2.2 ((w2.2.1 k hkD1).1)).2
          omega
        refine pw_neg n6 (pw_bd (n_isOn1 hO) ?_)
        rintro z27 X28 ⟨e28, e27⟩
        rw [e28, e27]
        refine pw_neg (by decide) (pw_ck (fun _ => pw_to (show Z.1 81 (ix a6) = f k by rw [i6]; exact p6 k hkD1) (pw_ck (fun _ => pw_let (pw_bd (pw_and (pw_ok (j_elementOf p1 (by have := p3.1; omega) (by have := p3.2; omega) v8 (show 1 ≤ km Z (Z.1 68 (ix (f k))) by omega))) (x_elem hBz.2.1.1 kd.1 s3.1)) ?_)))))
        rintro x31 X32 ⟨⟨e32, e31⟩, _, q31⟩
        rw [← e32]
        refine pw_ck (fun _ => pw_let (pw_bd (pw_and (pw_ok (j_elementOf p1 (by have := p3.1; omega) (by have := p3.2; omega) v9 (show 1 ≤ km Z (Z.1 69 (ix (f k))) by omega))) (x_elem hBz.2.1.1 kd1.1 s3.2)) ?_))
        rintro x34 X35 ⟨⟨e35, e34⟩, _, q34⟩
        rw [← e35]
        rw [c8] at e31
        rw [c9] at e34
        refine pw_ck (fun _ => pw_let (pw_ck (fun _ => pw_let (pw_ck (fun _ => pw_let ?_)))))
        rw [e31] at q31 ⊢
        rw [e34] at q34 ⊢
        have hty := vv_ty (X := Z) (G := G) (k := EK Z G (f (k + 1))) (s := Z.1 60 c) (w := Z.1 61 c) (d := gvs d) (by rw [← hc]; exact w3) q31
        have hask : pw (f_asks cell (EK Z G (f (k + 1))) (EK Z G (f k)) (Z.1 70 (ix (f k))) (Z.1 71 (ix (f k))) (Z.1 72 (ix (f k))) Z) (fun _ Z1 => ∀ q : Int32 × Int32, KC ks q.1 (gvs d) → KC ks q.2 (gvs d1) → pw (g_Running_ask y q.1 q.2 (Z.1 70 (ix (f k))) (Z.1 71 (ix (f k))) (Z.1 72 (ix (f k))) V) (fun y1 V1 => ASQ Z V r1 ks c y1 Z1 V1)) := by
          refine pw_all (fun q => pw_im (fun k8 => pw_im (fun k13 => ?_)))
          have kx : KR Z ks (EK Z G (f (k + 1))) q.1 (gvs d) := ⟨q31, k8⟩
          have ky : KR Z ks (EK Z G (f k)) q.2 (gvs d1) := ⟨q34, k13⟩
          exact n_ask hAP0 (hM.to hB.1 hA.1.1 hA.1.2) w1 p1 hty.2.2.1 hty.2.2.2 hc kx ky ⟨hty.1, hty.2.1⟩ (fit_of hBz fit kx ky) b6 b7
        refine pw_bd (pw_and (pw_ok (r_asks (G := G) ⟨w1, p1, p2, p3, p4, p5⟩ prt vk1 vk fit w3)) hask) ?_
        rintro _ Z1 ⟨⟨hPY, hQ⟩, hk⟩
        refine pw_eq (fun x40 e40 => ?_)
        have v40 : x40.toInt = (k : Int) - 1 := by rw [e40]; exact v6
        refine pw_mono (pw_all (Q := fun (q : (Int32 × Int32) × Int64 × St × Int32) (_ : Int32) Z2 => KC ks q.1.1 (gvs d) → KC ks q.1.2 (gvs d1) → g_Running_ask y q.1.1 q.1.2 (Z.1 70 (ix (f k))) (Z.1 71 (ix (f k))) (Z.1 72 (ix (f k))) V = some (q.2.1, q.2.2.1) → q.2.2.2.toInt = (k : Int) - 1 → ∀ M : Nat, pw (g_Running_askOutward_12 M q.2.1 q.2.2.2 q.2.2.1) (fun y1 V1 => ASQ X Y r ks c y1 Z2 V1)) (fun q => pw_im (fun k8 => pw_im (fun k13 => pw_im (fun hq => pw_im (fun h8 => ?_)))))) (fun _ Z2 hall M => ?_)
        · have hA1 : ASQ X Y r ks c q.2.1 Z1 q.2.2.1 := (hk q.1 k8 k13 _ _ hq).pre hA.1.1 hA.1.2 hA.2.1.2.2 hG
          refine ih k Z1 q.2.2.1 q.2.1 x40 q.2.2.2 v40 h8 hkD hA1 (hP.to hPY) (fun hz1 => ?_)
          obtain ⟨y1, y2, y3, y4⟩ := hQ hz1
          exact ⟨y2, w2.hx y1, by rw [EK.hx (w2.1 k hkD) p1 y1]; exact y3⟩
        · refine l_out1 (i := k) (w := r1 (ix (f k))) hBz i7 ?_ kd.2 kd1.2 M (fun M1 q k8 k13 => ?_)
          · rw [r85 hA, er]
            exact h85 k hkD1
          · rw [b2, b3, b4]
            refine pw_bd (R := fun y1 V1 => g_Running_ask y q.1 q.2 (Z.1 70 (ix (f k))) (Z.1 71 (ix (f k))) (Z.1 72 (ix (f k))) V = some (y1, V1)) (fun _ _ q => q) (fun y1 V1 hq => ?_)
            exact pw_eq (fun x20 e20 => hall (q, y1, V1, x20) k8 k13 hq (by rw [e20]; exact v7) M1)
      · have hO := hA.of hz
        refine pw_neg n6 (pw_bd (n_isOn0 hO) ?_)
        rintro z27 X28 ⟨e28, e27⟩
        rw [e28, e27]
        refine pw_pos (by decide) (pw_ret (fun M => pw_mono (l_outOff hO.2.1 M y a7) (fun y1 V1 q => ?_)))
        rw [q.1]
        exact hA.any hO
end OUT2S
