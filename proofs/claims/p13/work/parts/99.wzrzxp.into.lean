/-! what goes into a wrapped row is asked, on both sides -/
section INTOS
variable {X Y Z X1 Y1 X2 Y2 V V1 : St} {r r1 r2 : Nat → Int32} {s w k1 a b p g t p1 p2 ai b0 cell v a2 a4 a5 a6 a7 a8 ac an : Int32} {y y1 l2 l7 : Int64} {ks : List (List Int)} {e c m n i j D : Nat} {d d1 : List Int} {u : Bool} {G : Nat → Int32} {f : Nat → Int32}
theorem l_askOff2 (h : (Y.1 70 4).toInt = 0) : pw (g_Running_askInto w (-1 : Int32) y Y) (fun _ Y1 => Y1 = Y) := by
  have q : ∀ (kk : Int32) (v : Int32), pw (g_Running_askInto_85 w y kk v Y) (fun _ Y1 => Y1 = Y) := by
    intro kk v
    unfold g_Running_askInto_85
    refine pw_ck (fun _ => pw_let (pw_ck (fun _ => pw_let (pw_ck (fun _ => pw_let (pw_bd (l_askOff h) ?_))))))
    rintro y12 X13 ⟨e13, _⟩
    rw [e13]
    exact pw_ret rfl
  unfold g_Running_askInto
  refine pw_ck (fun _ => pw_let (pw_let (pw_pos (by decide) (pw_ck (fun _ => pw_let (pw_bd l_givesId ?_))))))
  intro x18 X19 e19
  rw [e19]
  unfold g_Running_askInto_46
  refine pw_pos (by decide) (pw_ck (fun _ => pw_let (pw_bd l_givesId ?_)))
  intro x15 X16 e16
  rw [e16]
  exact q _ _
/-- where the run has failed the class's loop does nothing -/
theorem l_storeOff (h : (Y.1 70 4).toInt = 0) : ∀ (M : Nat) (y : Int64) (a12 : Int32), pw (g_Running_store_63 M l2 ac l7 an y a12 Y) (fun _ Y1 => Y1 = Y) := by
  intro M
  induction M with
  | zero => exact fun _ _ => pw_none
  | succ M ih =>
    intro y a12
    have e : g_Running_store_63 (M + 1) = g_Running_store_63_s (g_Running_store_63 M) := by
      unfold g_Running_store_63
      exact lp_succ _ _ _
    rw [e]
    unfold g_Running_store_63_s
    refine pw_ite (fun _ => pw_let (pw_pos h (pw_ret rfl))) (fun _ => pw_ck (fun _ => pw_let (pw_bd (l_askOff2 h) ?_)))
    intro y17 X18 e18
    rw [e18]
    exact pw_let (ih y17 _)
/-- one turn of the class's loop -/
theorem l_into1 (hB : RBk e X Y ks) (ha : a7.toInt = (i : Int)) (hn : (i : Int) < an.toInt) (h85 : Y.1 85 i = w) (kd : KC ks (Y.1 76 (ix w)) d) (kd1 : KC ks (Y.1 77 (ix w)) d1) (M : Nat) {Q : Int32 → St → Prop} (h : ∀ (M1 : Nat) (q : Int32 × Int32), KC ks q.1 (gvs d1) → KC ks q.2 (gvs d) → pw (bnd (g_Running_ask y q.1 q.2 (Y.1 79 (ix w)) (Y.1 78 (ix w)) (Y.1 80 (ix w)) Y) fun y17 X18 => letV (a7 + Int32.ofInt (1)) fun x19 => g_Running_store_63 M1 l2 ac l7 an y17 x19 X18) Q) : pw (g_Running_store_63 M l2 ac l7 an y a7 Y) Q := by
  cases M with
  | zero => exact pw_none
  | succ M =>
    have e1 : g_Running_store_63 (M + 1) = g_Running_store_63_s (g_Running_store_63 M) := by
      unfold g_Running_store_63
      exact lp_succ _ _ _
    rw [e1]
    unfold g_Running_store_63_s
    refine pw_neg (by omega) (pw_ck (fun _ => pw_to (show Y.1 85 (ix a7) = w by rw [ixn ha]; exact h85) ?_))
    have h1 : ∀ (kk vv : Int32), KC ks kk (gvs d1) → KC ks vv (gvs d) → pw (g_Running_askInto_85 w y kk vv Y) (fun y1 Y1 => ∃ q : Int32 × Int32, KC ks q.1 (gvs d1) ∧ KC ks q.2 (gvs d) ∧ g_Running_ask y q.1 q.2 (Y.1 79 (ix w)) (Y.1 78 (ix w)) (Y.1 80 (ix w)) Y = some (y1, Y1)) := by
      intro kk vv k1 k2
      unfold g_Running_askInto_85
      refine pw_ck (fun _ => pw_let (pw_ck (fun _ => pw_let (pw_ck (fun _ => pw_let (pw_bd (R := fun y1 Y1 => g_Running_ask y kk vv (Y.1 79 (ix w)) (Y.1 78 (ix w)) (Y.1 80 (ix w)) Y = some (y1, Y1)) (fun _ _ q => q) (fun y12 X13 hq => pw_ret ⟨(kk, vv), k1, k2, hq⟩)))))))
    have h2 : pw (g_Running_askInto w (-1 : Int32) y Y) (fun y1 Y1 => ∃ q : Int32 × Int32, KC ks q.1 (gvs d1) ∧ KC ks q.2 (gvs d) ∧ g_Running_ask y q.1 q.2 (Y.1 79 (ix w)) (Y.1 78 (ix w)) (Y.1 80 (ix w)) Y = some (y1, Y1)) := by
      unfold g_Running_askInto
      refine pw_ck (fun _ => pw_to hB.pe (pw_to (kYp hB.1).1 (pw_pos (by decide) (pw_ck (fun _ => pw_let (pw_bd (kd1.gv hB) ?_))))))
      rintro x18 X19 ⟨e19, k18⟩
      rw [e19]
      unfold g_Running_askInto_46
      refine pw_pos (by decide) (pw_ck (fun _ => pw_let (pw_bd (kd.gv hB) ?_)))
      rintro x15 X16 ⟨e16, k15⟩
      rw [e16]
      exact h1 x18 x15 k18 k15
    refine pw_bd h2 ?_
    rintro y17 X18 ⟨q, k1, k2, hq⟩
    have h3 := h M q k1 k2
    rw [hq] at h3
    exact h3
theorem inc_i {k : Nat} (h : a7.toInt = (k : Int)) (hk : k < 1000) : (a7 + Int32.ofInt 1).toInt = ((k + 1 : Nat) : Int) := by
  have lm1 : (Int32.ofInt 1).toInt = 1 := by decide
  rw [ti_add (by rw [h, lm1]; omega) (by rw [h, lm1]; omega), h, lm1]
  omega
/-- the loop: K says what stands behind it -/
theorem n_into (hc : ix cell = c) (hB : RBk e X Y ks) (hM : PRm e X Y) (hD : D ≤ 20) (h8 : a8.toInt = (D : Int)) (hn : an.toInt = (D : Int)) (h31 : (X.1 0 31).toInt = cell.toInt + 1) (hr : ∀ i, i < D → (f i).toInt < (X.1 0 33).toInt) (h85 : ∀ i, i < D → Y.1 85 i = r (ix (f i))) {P : St → St → Prop} (K : ∀ (Z V : St) (y : Int64), ASQ X Y r ks c y Z V → PER [13, 15, 33, 36, 43, 44, 45, 800, 1000, 1200, 1400, 1600, 1800, 2000, 12200, 12800, 13400, 13600, 13800, 14000, 14200, 14400, 14600, 16000] X Z → ((Z.1 0 43).toInt < 0 → WAY u Z G f D D cell ∧ ∀ j, j ≠ ix cell → Z.1 61 j = X.1 61 j) → pw (f_writes_183 a2 a4 a5 a6 a7 Z) (fun _ Z1 => ∀ (M : Nat) (a12 : Int32), a12.toInt = (D : Int) ∨ (V.1 70 4).toInt = 0 → pw (g_Running_store_63 M l2 ac l7 an y a12 V) (fun _ V1 => P Z1 V1))) : ∀ (N i : Nat) (Z V : St) (y : Int64) (a9 a12 : Int32), a9.toInt = (i : Int) → a12.toInt = (i : Int) → i ≤ D → ASQ X Y r ks c y Z V → PRE Z cell f D → PER [13, 15, 33, 36, 43, 44, 45, 800, 1000, 1200, 1400, 1600, 1800, 2000, 12200, 12800, 13400, 13600, 13800, 14000, 14200, 14400, 14600, 16000] X Z → ((Z.1 0 43).toInt < 0 → WAY u Z G f D i cell ∧ ∀ j, j ≠ ix cell → Z.1 61 j = X.1 61 j) → pw (f_writes_101 N a2 a4 a5 a6 a7 a8 a9 Z) (fun _ Z1 => ∀ M : Nat, pw (g_Running_store_63 M l2 ac l7 an y a12 V) (fun _ V1 => P Z1 V1)) := by
  have z1 : (1 : Int32).toInt = 1 := rfl
  intro N
  induction N with
  | zero => exact fun _ _ _ _ _ _ _ _ _ _ _ _ _ => pw_none
  | succ N ih =>
    intro i Z V y a9 a12 h9 h12 hi hA hP hPX hon
    have e1 : f_writes_101 (N + 1) = f_writes_101_s (f_writes_101 N) := by
      unfold f_writes_101
      exact lp_succ _ _ _
    rw [e1]
    unfold f_writes_101_s
    by_cases hD1 : i = D
    · have g12 : a12.toInt = (D : Int) := by omega
      refine pw_pos (by omega) (pw_mono (K Z V y hA hPX (fun q => by rw [← hD1] at hon ⊢; exact hon q)) (fun _ Z1 q M => q M a12 (Or.inl g12)))
    have hkD1 : i < D := by omega
    have hkD : i ≤ D := by omega
    have n9 : ¬ a8.toInt ≤ a9.toInt := by omega
    have hin : (i : Int) < an.toInt := by omega
    have i9 : ix a9 = i := ixn h9
    have hi1 : i < 1000 := by omega
    have hi2 : i + 1 ≤ D := by omega
    refine pw_neg n9 ?_
    by_cases hz : (Z.1 0 43).toInt < 0
    · have hO := hA.on hz
      obtain ⟨r1, hG, hAP⟩ := hA.apr hB hO
      have hAP0 := hAP
      obtain ⟨hBz, hSz, _, hHz, hvz⟩ := hAP
      obtain ⟨⟨w1, w2, w3⟩, ho⟩ := hon hz
      obtain ⟨⟨p1, p2, p3⟩, ⟨p4, p5⟩, p6⟩ := id hP
      obtain ⟨rfl, ⟨v8, v9⟩, ⟨m8, m9⟩, ⟨c8, c9⟩, ⟨vk, vk1⟩, fit, prt, fb⟩ := chain_ask (i := i) w1 p1 p2 w2 hkD1
      have hfi := w2.1 i hkD
      have ef := ixc hfi.1
      have hlt := hfi.2.1
      obtain ⟨_, hT⟩ := hHz.2.1 (ix (f i)) (by omega)
      obtain ⟨b1, ⟨b2, b3, b4, b5⟩, ⟨b6, b7, _⟩, d, d1, kd, kd1, sd, sv⟩ := hT ((w2.2.1 i hkD1).1)
      have er : r1 (ix (f i)) = r (ix (f i)) := (hG.2 (ix (f i)) (by have := hr i hkD1; omega)).2
      have r85 : V.1 85 i = r1 (ix (f i)) := by
        rw [hA.1.2.2.1 85 i (by omega) (by omega) (by omega) (by omega), er]
        exact h85 i hkD1
      have s3 : sot d = 3 ∧ sot d1 = 3 := by
        have q := kd1.1.so
        have := (hfi.2.2 ((w2.2.1 i hkD1).1)).2
        omega
      refine pw_bd (n_isOn1 hO) ?_
      rintro z27 X28 ⟨e28, e27⟩
      rw [e28, e27]
      refine pw_neg (by decide) (pw_ck (fun _ => pw_to (show Z.1 81 (ix a9) = f i by rw [i9]; exact p6 i hkD1) (pw_eq (fun x40 e40 => pw_eq (fun x41 e41 => ?_)))))
      have e41c : x41 = cell := by
        refine Int32.toInt_inj.mp ?_
        rw [e41, e40, hPX.1.1 0 31 (by decide), ti_sub (by rw [h31, z1]; omega) (by rw [h31, z1]; omega), h31, z1]
        omega
      rw [e41c]
      refine pw_ck (fun _ => pw_let (pw_bd (pw_and (pw_ok (j_elementOf p1 (by have := p3.1; omega) (by have := p3.2; omega) v9 (show 1 ≤ km Z (Z.1 69 (ix (f i))) by omega))) (x_elem hBz.2.1.1 kd1.1 s3.2)) ?_))
      rintro x43 X44 ⟨⟨e44, e43⟩, _, q43⟩
      rw [← e44]
      refine pw_ck (fun _ => pw_let (pw_bd (pw_and (pw_ok (j_elementOf p1 (by have := p3.1; omega) (by have := p3.2; omega) v8 (show 1 ≤ km Z (Z.1 68 (ix (f i))) by omega))) (x_elem hBz.2.1.1 kd.1 s3.1)) ?_))
      rintro x46 X47 ⟨⟨e47, e46⟩, _, q46⟩
      rw [← e47]
      rw [c9] at e43
      rw [c8] at e46
      refine pw_ck (fun _ => pw_let (pw_ck (fun _ => pw_let (pw_ck (fun _ => pw_let ?_)))))
      rw [e43] at q43 ⊢
      rw [e46] at q46 ⊢
      have hty := vv_ty (X := Z) (G := G) (k := EK Z G (f i)) (s := Z.1 60 c) (w := Z.1 61 c) (d := gvs d1) (by rw [← hc]; exact w3) q43
      have fits := fit.symm
      have hask : pw (f_asks cell (EK Z G (f i)) (EK Z G (f (i + 1))) (Z.1 71 (ix (f i))) (Z.1 70 (ix (f i))) (Z.1 72 (ix (f i))) Z) (fun _ Z1 => ∀ q : Int32 × Int32, KC ks q.1 (gvs d1) → KC ks q.2 (gvs d) → pw (g_Running_ask y q.1 q.2 (Z.1 71 (ix (f i))) (Z.1 70 (ix (f i))) (Z.1 72 (ix (f i))) V) (fun y1 V1 => ASQ Z V r1 ks c y1 Z1 V1)) := by
        refine pw_all (fun q => pw_im (fun k8 => pw_im (fun k13 => ?_)))
        have kx : KR Z ks (EK Z G (f i)) q.1 (gvs d1) := ⟨q43, k8⟩
        have ky : KR Z ks (EK Z G (f (i + 1))) q.2 (gvs d) := ⟨q46, k13⟩
        exact n_ask hAP0 (hM.to hB.1 hA.1.1 hA.1.2) w1 p1 hty.2.2.1 hty.2.2.2 hc kx ky ⟨hty.1, hty.2.1⟩ (fit_of hBz fits kx ky) b7 b6
      refine pw_bd (pw_and (pw_ok (r_asks (G := G) ⟨w1, p1, p2, p3, p4, p5⟩ ⟨prt.2, prt.1⟩ vk vk1 fits w3)) hask) ?_
      rintro _ Z1 ⟨⟨hPY, hQ⟩, hk⟩
      refine pw_eq (fun x52 e52 => ?_)
      have v52 : x52.toInt = ((i + 1 : Nat) : Int) := by rw [e52]; exact inc_i h9 hi1
      refine pw_mono (pw_all (Q := fun (q : (Int32 × Int32) × Int64 × St × Int32) (_ : Int32) Z2 => KC ks q.1.1 (gvs d1) → KC ks q.1.2 (gvs d) → g_Running_ask y q.1.1 q.1.2 (Z.1 71 (ix (f i))) (Z.1 70 (ix (f i))) (Z.1 72 (ix (f i))) V = some (q.2.1, q.2.2.1) → q.2.2.2.toInt = ((i + 1 : Nat) : Int) → ∀ M : Nat, pw (g_Running_store_63 M l2 ac l7 an q.2.1 q.2.2.2 q.2.2.1) (fun _ V1 => P Z2 V1)) (fun q => pw_im (fun k8 => pw_im (fun k13 => pw_im (fun hq => pw_im (fun h8' => ?_)))))) (fun _ Z2 hall M => ?_)
      · have hA1 : ASQ X Y r ks c q.2.1 Z1 q.2.2.1 := (hk q.1 k8 k13 _ _ hq).pre hA.1.1 hA.1.2 hA.2.1.2.2 hG
        refine ih (i + 1) Z1 q.2.2.1 q.2.1 x52 q.2.2.2 v52 h8' hi2 hA1 (hP.to hPY) (hPX.tr hPY (fun _ q => q)) (fun hz1 => ?_)
        obtain ⟨y1, y2, y3, y4⟩ := hQ hz1
        refine ⟨⟨y2, w2.hx y1, by rw [EK.hx (w2.1 (i + 1) hi2) p1 y1]; exact y3⟩, fun j hj => (y4 j hj).trans (ho j hj)⟩
      · refine l_into1 (i := i) (w := r1 (ix (f i))) hBz h12 hin r85 kd.2 kd1.2 M (fun M1 q k8 k13 => ?_)
        rw [b2, b3, b4]
        refine pw_bd (R := fun y1 V1 => g_Running_ask y q.1 q.2 (Z.1 71 (ix (f i))) (Z.1 70 (ix (f i))) (Z.1 72 (ix (f i))) V = some (y1, V1)) (fun _ _ q => q) (fun y1 V1 hq => ?_)
        exact pw_eq (fun x20 e20 => hall (q, y1, V1, x20) k8 k13 hq (by rw [e20]; exact inc_i h12 hi1) M1)
    · have hO := hA.of hz
      refine pw_bd (n_isOn0 hO) ?_
      rintro z27 X28 ⟨e28, e27⟩
      rw [e28, e27]
      exact pw_pos (by decide) (pw_mono (K Z V y hA hPX (fun q => absurd q hz)) (fun _ Z1 q M => q M a12 (Or.inr hO.2.1)))
end INTOS
