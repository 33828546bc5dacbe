/-! what a wrapped function gives is asked, on both sides -/
section BACKS
variable {X Y Z X1 Y1 X2 Y2 V V1 : St} {r r1 r2 : Nat → Int32} {s k1 a p g t p1 p2 ai b0 a7 kc v : Int32} {y y1 : Int64} {ks : List (List Int)} {e c m n i j D b cell : Nat} {d d1 : List Int} {u : Bool} {G : Nat → Int32} {f : Nat → Int32} {o1 : Int32}
theorem ASQ.w37 (h : ASQ X Y r ks c y Z V) : ASQ X Y r ks c y (wI Z 0 37 v) V := by
  obtain ⟨⟨a1, a2⟩, ⟨a3, a4, a5⟩, a6, a7⟩ := h
  have rz : ∀ e k, ¬ (e = 0 ∧ k = 37) → (wI Z 0 37 v).1 e k = Z.1 e k := fun e k q => wI_ne _ _ _ _ _ _ (by omega)
  have hK : KXq Z (wI Z 0 37 v) := KXq.of (fun e k q => rz e k (by omega))
  have hX : HXc Z (wI Z 0 37 v) := ⟨fun k q => rz 0 k (by omega), fun e k q => rz e k (by omega)⟩
  refine ⟨⟨fun e k q1 q2 q3 q4 q5 q6 q7 => (rz e k (by omega)).trans (a1 e k q1 q2 q3 q4 q5 q6 q7), a2⟩, ⟨a3.cg (fun e k q => rz e k (by omega)), (KGq.of (fun e k q => rz e k (by omega))).2 a4, a5.tr hK⟩, a6.cg ⟨fun k q => rz 0 k (by omega), fun k => rz 79 k (by omega), fun k => rz 80 k (by omega)⟩ ⟨fun _ _ => rfl, fun _ _ => rfl, fun _ => rfl, fun _ => rfl⟩, ?_⟩
  rcases a7 with q | ⟨q, r1, q1, q2, q3⟩
  · refine Or.inl ?_
    unfold OFr
    rw [rz 0 43 (by omega), rz 0 44 (by omega)]
    exact q
  · refine Or.inr ⟨q.cg (rz 0 43 (by omega)) (rz 0 44 (by omega)) (fun _ _ => rfl), r1, q1.tr (HG.of hX), q2.cg a3 hK hX ⟨fun _ _ _ => rfl, fun _ _ _ => rfl⟩, ?_⟩
    rw [rz 60 c (by omega), rz 61 c (by omega)]
    exact q3.up (HG.of hX)
theorem APR.w37 (h : APR e Z V r ks c y) : APR e (wI Z 0 37 v) V r ks c y ∧ XF Z (wI Z 0 37 v) c ∧ KXq Z (wI Z 0 37 v) ∧ HG Z (wI Z 0 37 v) r r := by
  obtain ⟨hB, hS, hO, hH, hv⟩ := h
  have rz : ∀ e k, ¬ (e = 0 ∧ k = 37) → (wI Z 0 37 v).1 e k = Z.1 e k := fun e k q => wI_ne _ _ _ _ _ _ (by omega)
  have hK : KXq Z (wI Z 0 37 v) := KXq.of (fun e k q => rz e k (by omega))
  have hX : HXc Z (wI Z 0 37 v) := ⟨fun k q => rz 0 k (by omega), fun e k q => rz e k (by omega)⟩
  refine ⟨⟨hB.cf ⟨hB.2.1.1.cg (fun e k q => rz e k (by omega)), (KGq.of (fun e k q => rz e k (by omega))).2 hB.2.1.2⟩ CF.rf, hS.cg ⟨fun k q => rz 0 k (by omega), fun k => rz 79 k (by omega), fun k => rz 80 k (by omega)⟩ ⟨fun _ _ => rfl, fun _ _ => rfl, fun _ => rfl, fun _ => rfl⟩, hO.cg (rz 0 43 (by omega)) (rz 0 44 (by omega)) (fun _ _ => rfl), hH.cg hB.2.1.1 hK hX ⟨fun _ _ _ => rfl, fun _ _ _ => rfl⟩, ?_⟩, fun e k _ q2 _ _ _ _ _ => rz e k (by omega), hK, HG.of hX⟩
  rw [rz 60 c (by omega), rz 61 c (by omega)]
  exact hv.up (HG.of hX)
theorem dec_i {k : Nat} (h : a7.toInt = ((k + 1 : Nat) : Int) - 1) : (a7 + Int32.ofInt (-1)).toInt = (k : Int) - 1 := by
  have lm1 : (Int32.ofInt (-1)).toInt = -1 := by decide
  have q := a7.toInt_lt
  rw [h] at q
  rw [ti_add (by rw [h, lm1]; omega) (by rw [h, lm1]; omega), h, lm1]
  omega
theorem n_back (hB : RBk e X Y ks) (hM : PRm e X Y) (hcell : cell < 20000) (hb0 : b = 0 → D = 0) (hr : ∀ i, i < D → (f i).toInt - 100 < (X.1 0 33).toInt ∧ 100 ≤ (f i).toInt) (h85 : ∀ i, i < D → Y.1 85 i = r (ix (f i) - 100)) : ∀ (N k : Nat) (Z V : St) (y : Int64) (kr a7 : Int32), a7.toInt = (k : Int) - 1 → k ≤ D → ASQ X Y r ks cell y Z V → (KT Z ∧ K3 Z ∧ PBD Z) → (Z.1 0 18).toInt ≤ 40 → (Z.1 0 31).toInt = (cell : Int) + 1 → (Z.1 0 37).toInt = ((b + k : Nat) : Int) → b + k ≤ 2200 → (1 ≤ b → (Z.1 76 (b - 1)).toInt < 0) → (∀ i, i < D → (Z.1 76 (b + i)).toInt = (f i).toInt - 100) → ((Z.1 0 43).toInt < 0 → HP u Z G ∧ VV u Z G kr (Z.1 60 cell) (Z.1 61 cell) ∧ WCH Z k b kr kc) → pw (f_goesBack_43 N o1 Z) (fun _ Z1 => ∀ M : Nat, pw (g_Running_askOutward_12 M y a7 V) (fun y1 V1 => ASQ X Y r ks cell y1 Z1 V1)) := by
  have z1 : (1 : Int32).toInt = 1 := rfl
  intro N
  induction N with
  | zero => exact fun _ _ _ _ _ _ _ _ _ _ _ _ _ _ _ _ _ => pw_none
  | succ N ih =>
    intro k Z V y kr a7 h7 hk hA hP h18 h31 h37 hbk h76 hrow hon
    have e1 : f_goesBack_43 (N + 1) = f_goesBack_43_s (f_goesBack_43 N) := by
      unfold f_goesBack_43
      exact lp_succ _ _ _
    rw [e1]
    unfold f_goesBack_43_s
    by_cases hz : (Z.1 0 43).toInt < 0
    · have hO := hA.on hz
      refine pw_bd (n_isOn1 hO) ?_
      rintro z12 X13 ⟨e13, e12⟩
      rw [e13, e12]
      refine pw_neg (by decide) ?_
      cases k with
      | zero =>
        have hn : a7.toInt < 0 := by omega
        have fin : ∀ M : Nat, pw (g_Running_askOutward_12 M y a7 V) (fun y1 V1 => ASQ X Y r ks cell y1 Z V1) := by
          intro M
          cases M with
          | zero => exact pw_none
          | succ M =>
            have e2 : g_Running_askOutward_12 (M + 1) = g_Running_askOutward_12_s (g_Running_askOutward_12 M) := by
              unfold g_Running_askOutward_12
              exact lp_succ _ _ _
            rw [e2]
            unfold g_Running_askOutward_12_s
            exact pw_pos hn (pw_ret hA)
        refine pw_eq (fun x14 e14 => pw_ite (fun _ => pw_ret fin) (fun c14 => pw_eq (fun x15 e15 => pw_eq (fun x16 e16 => pw_ck (fun _ => pw_eq (fun x17 e17 => pw_pos ?_ (pw_ret fin)))))))
        have i16 : ix x16 = b - 1 := by
          refine ixn ?_
          rw [e14] at c14
          rw [e16, e15, ti_sub (by rw [h37, z1]; omega) (by rw [h37, z1]; omega), h37, z1]
          omega
        rw [e17, i16]
        refine h76 ?_
        rw [e14] at c14
        omega
      | succ k =>
        obtain ⟨r1, hG, hAP⟩ := hA.apr hB hO
        obtain ⟨hBz, hSz, _, hHz, hvz⟩ := hAP
        obtain ⟨f1, f2, w, w1, w2, w3, ⟨w4, w5, w6, w7⟩, w8, w9⟩ := hon hz
        have hkD : k ≤ D := by omega
        have hkD1 : k < D := by omega
        have hb1 : 1 ≤ b := by
          rcases Nat.eq_zero_or_pos b with q | q
          · have := hb0 q
            omega
          · exact q
        have hfk := hr k hkD1
        have hw : w = ix (f k) - 100 ∧ (w : Int) < (X.1 0 33).toInt := by
          have q1 := hrow k hkD1
          have q2 := ixc (z := f k) (by omega)
          omega
        have i7 : a7.toInt = (k : Int) := by omega
        have r85 : V.1 85 k = r1 w := by
          rw [hA.1.2.2.1 85 k (by omega) (by omega) (by omega) (by omega), h85 k hkD1, ← hw.1]
          exact (hG.2 w hw.2).2.symm
        -- what both sides know of the wrapping
        obtain ⟨b1, ⟨b2, b3, b4, b5⟩, ⟨b6, b7, _⟩, d, d1, kd, kd1, sd, sv⟩ := (hHz.2.1 w w2).2 w3
        have s4 : sot d = 4 ∧ sot d1 = 4 := by
          have q := kd1.1.so
          omega
        have h33 := f1.1.2.1
        have v37k : (Z.1 0 37).toInt = ((b + k : Nat) : Int) + 1 := by rw [h37]; omega
        refine pw_eq (fun x14 e14 => pw_neg (by rw [e14, v37k]; omega) (pw_eq (fun x15 e15 => pw_eq (fun x16 e16 => pw_ck (fun _ => pw_eq (fun x17 e17 => ?_))))))
        have v16 : x16.toInt = ((b + k : Nat) : Int) := by
          rw [e16, e15, ti_sub (by rw [v37k, z1]; omega) (by rw [v37k, z1]; omega), v37k, z1]
          omega
        have i16 : ix x16 = b + k := ixn v16
        rw [i16] at e17
        refine pw_neg (by rw [e17, w1]; omega) (pw_eq (fun x18 e18 => pw_eq (fun x19 e19 => pw_eq (fun X20 e20 => pw_eq (fun x21 e21 => pw_ck (fun _ => pw_eq (fun x22 e22 => pw_eq (fun x23 e23 => pw_eq (fun x24 e24 => ?_)))))))))
        have e196 : x19 = x16 := by rw [e19, e18, e16, e15]
        rw [e196] at e20
        have hF : Fr YR [37] Z X20 := by
          rw [e20]
          exact Fr.rf.wI 0 37 _ (show (37 : Nat) ∈ [37] from by decide)
        have v37 : X20.1 0 37 = x16 := by rw [e20]; exact wI_at _ _ _ _
        obtain ⟨hA20, hXF20, hK20, hG20⟩ := APR.w37 (v := x16) (show APR e Z V r1 ks cell y from ⟨hBz, hSz, hO, hHz, hvz⟩)
        rw [← e20] at hA20 hXF20 hK20 hG20
        have hKV : KX Z X20 := KX.fr hF (by decide)
        have hPV : PER [37] Z X20 := PER.fr hP.1 hF (by decide)
        have hXV : HX Z X20 G G := HX.fr hF hKV (by decide)
        have v76 : ∀ j, X20.1 76 j = Z.1 76 j := fun j => hF.1 76 j (show (15200 : Nat) ∉ [37] from by decide)
        have v60 : ∀ j, X20.1 60 j = Z.1 60 j := fun j => hF.1 60 j (show (12000 : Nat) ∉ [37] from by decide)
        have v61 : ∀ j, X20.1 61 j = Z.1 61 j := fun j => hF.1 61 j (show (12200 : Nat) ∉ [37] from by decide)
        have v68 : ∀ j, X20.1 68 j = Z.1 68 j := fun j => hF.1 68 j (show (13600 : Nat) ∉ [37] from by decide)
        have v69 : ∀ j, X20.1 69 j = Z.1 69 j := fun j => hF.1 69 j (show (13800 : Nat) ∉ [37] from by decide)
        have v70 : ∀ j, X20.1 70 j = Z.1 70 j := fun j => hF.1 70 j (show (14000 : Nat) ∉ [37] from by decide)
        have v71 : ∀ j, X20.1 71 j = Z.1 71 j := fun j => hF.1 71 j (show (14200 : Nat) ∉ [37] from by decide)
        have v72 : ∀ j, X20.1 72 j = Z.1 72 j := fun j => hF.1 72 j (show (14400 : Nat) ∉ [37] from by decide)
        have hBV := hP.2.2.pot hPV.2.2.2
        have i22 : ix x22 = w := by
          refine ixn ?_
          rw [e22, e21, v37, i16, v76]
          exact w1
        have i24 : ix x24 = cell := by
          refine ixn ?_
          rw [e24, e23, hF.1 0 31 (by decide), ti_sub (by rw [h31, z1]; omega) (by rw [h31, z1]; omega), h31, z1]
          omega
        have b24 : 0 ≤ x24.toInt ∧ x24.toInt < 20400 := by
          rw [e24, e23, hF.1 0 31 (by decide), ti_sub (by rw [h31, z1]; omega) (by rw [h31, z1]; omega), h31, z1]
          omega
        obtain ⟨hu, a1, a2, a3, a4, a5, a6, a7'⟩ := (f1.2 w w2).2 w3
        have n2 : ∀ k : Int32, so Z k = 5 → ¬ k.toInt = 2 := by
          intro k hk g
          obtain rfl : k = 2 := Int32.toInt_inj.mp g
          have := hP.2.1.two.2
          omega
        obtain ⟨-, -, g3, g4⟩ := a3.deep a6 (n2 _ w7) (n2 _ w6)
        have q8 := w4.cases hP.1
        have q9 := w5.cases hP.1
        have g3 : km Z (Z.1 68 w) = km Z (Z.1 69 w) := g3
        obtain ⟨m, hm⟩ : ∃ m : Nat, km Z (Z.1 68 w) = (m : Int) + 1 := ⟨ix (Z.1 5 (ix (Z.1 68 w))) - 1, by
          have := ixc (z := Z.1 5 (ix (Z.1 68 w))) (by have : km Z (Z.1 68 w) = (Z.1 5 (ix (Z.1 68 w))).toInt := rfl; omega)
          have : km Z (Z.1 68 w) = (Z.1 5 (ix (Z.1 68 w))).toInt := rfl
          omega⟩
        have rs : ∀ kk : Int32, km Z kk = (m : Int) + 1 → resK Z kk = cmpK Z kk m := by
          intro kk hk
          unfold resK
          rw [show ix (Z.1 5 (ix kk)) = m + 1 from ixn hk]
          rfl
        have r8 := rs _ hm
        have r9 := rs (Z.1 69 w) (by omega)
        have fit := g4 m (show (m : Int) < km Z (Z.1 68 w) by omega)
        have vk8 : VK Z (cmpK Z (Z.1 68 w) m) := w4.cmp hP.1 (by omega)
        have vk9 : VK Z (cmpK Z (Z.1 69 w) m) := w5.cmp hP.1 (by omega)
        have c8 : cmpK X20 (Z.1 68 w) m = cmpK Z (Z.1 68 w) m := cmpK_kx hP.1 hKV w4.1 w4.2 (show (m : Int) < km Z (Z.1 68 w) by omega)
        have c9 : cmpK X20 (Z.1 69 w) m = cmpK Z (Z.1 69 w) m := cmpK_kx hP.1 hKV w5.1 w5.2 (show (m : Int) < km Z (Z.1 69 w) by omega)
        have kd20 := kd.kx hBz.2.1.1 hK20
        have kd120 := kd1.kx hBz.2.1.1 hK20
        subst hu
        refine pw_ck (fun _ => pw_to (show X20.1 68 (ix x22) = Z.1 68 w by rw [i22, v68]) (pw_bd (pw_and (pw_ok (j_resultOf (m := m) hPV.2.1 (by have := hBV.1; omega) (by have := hBV.2; omega) (w4.kx hKV) (show km X20 (Z.1 68 w) = (m : Int) + 1 by rw [(w4.so_kx hKV).2]; exact hm))) (x_res hA20.1.2.1.1 kd20.1 s4.1)) ?_))
        rintro x26 X27 ⟨⟨e27, e26⟩, _, q26⟩
        rw [← e27]
        refine pw_ck (fun _ => pw_to (show X20.1 69 (ix x22) = Z.1 69 w by rw [i22, v69]) (pw_bd (pw_and (pw_ok (j_resultOf (m := m) hPV.2.1 (by have := hBV.1; omega) (by have := hBV.2; omega) (w5.kx hKV) (show km X20 (Z.1 69 w) = (m : Int) + 1 by rw [(w5.so_kx hKV).2]; omega))) (x_res hA20.1.2.1.1 kd120.1 s4.2)) ?_))
        rintro x29 X30 ⟨⟨e30, e29⟩, _, q29⟩
        rw [← e30]
        rw [c8] at e26
        rw [c9] at e29
        refine pw_ck (fun _ => pw_to (show X20.1 70 (ix x22) = Z.1 70 w by rw [i22, v70]) (pw_ck (fun _ => pw_to (show X20.1 71 (ix x22) = Z.1 71 w by rw [i22, v71]) (pw_ck (fun _ => pw_to (show X20.1 72 (ix x22) = Z.1 72 w by rw [i22, v72]) ?_)))))
        rw [e26] at q26 ⊢
        rw [e29] at q29 ⊢
        have hvv : VV false X20 G (cmpK Z (Z.1 68 w) m) (X20.1 60 cell) (X20.1 61 cell) := by
          rw [v60, v61, ← r8, ← w8]
          exact f2.hx hP.1 hXV
        have hty := vv_ty hvv q26
        have hfit : FIT X20 (cmpK Z (Z.1 68 w) m) (cmpK Z (Z.1 69 w) m) := fit.kx hP.1 hKV vk8 vk9
        have hH20 : HP false X20 G := f1.same hP.1 hF hKV (by decide) (by decide)
        have hM20 : PRm e X20 V := (hM.to hB.1 hA.1.1 hA.1.2).to hB.1 hXF20 CF.rf
        have hask : pw (f_asks x24 (cmpK Z (Z.1 68 w) m) (cmpK Z (Z.1 69 w) m) (Z.1 70 w) (Z.1 71 w) (Z.1 72 w) X20) (fun _ Z1 => ∀ q : Int32 × Int32, KC ks q.1 (gvs d) → KC ks q.2 (gvs d1) → pw (g_Running_ask y q.1 q.2 (Z.1 70 w) (Z.1 71 w) (Z.1 72 w) V) (fun y1 V1 => ASQ X20 V r1 ks cell y1 Z1 V1)) := by
          refine pw_all (fun q => pw_im (fun k8 => pw_im (fun k13 => ?_)))
          have kx : KR X20 ks (cmpK Z (Z.1 68 w) m) q.1 (gvs d) := ⟨q26, k8⟩
          have ky : KR X20 ks (cmpK Z (Z.1 69 w) m) q.2 (gvs d1) := ⟨q29, k13⟩
          exact n_ask hA20 hM20 hH20 hPV.2.1 hty.2.2.1 hty.2.2.2 i24 kx ky ⟨hty.1, hty.2.1⟩ (fit_of hA20.1 hfit kx ky) b6 b7
        refine pw_bd (pw_and (pw_ok (r_asks (G := G) (cell := x24) ⟨hH20, hPV.2.1, hP.2.1.kx hKV, hBV, by rw [hF.1 0 18 (by decide)]; exact h18, b24.1, b24.2⟩ a4 (vk8.kx hKV) (vk9.kx hKV) hfit (by rw [i24]; exact hvv))) hask) ?_
        rintro _ Z1 ⟨⟨hPY, hQ⟩, hk1⟩
        have y76 : ∀ j, Z1.1 76 j = Z.1 76 j := fun j => (hPY.1.1 76 j (show (15200 : Nat) ∉ [13, 15, 33, 36, 43, 44, 45, 800, 1000, 1200, 1400, 1600, 1800, 2000, 12200, 12800, 13400, 13600, 13800, 14000, 14200, 14400, 14600, 16000] from by decide)).trans (v76 j)
        have hb76 : 1 ≤ b → (Z1.1 76 (b - 1)).toInt < 0 := fun q => by rw [y76]; exact h76 q
        have hrow1 : ∀ i, i < D → (Z1.1 76 (b + i)).toInt = (f i).toInt - 100 := fun i hi => by rw [y76]; exact hrow i hi
        have z18 : (Z1.1 0 18).toInt ≤ 40 := by rw [hPY.1.1 0 18 (by decide), hF.1 0 18 (by decide)]; exact h18
        have z31 : (Z1.1 0 31).toInt = (cell : Int) + 1 := by rw [hPY.1.1 0 31 (by decide), hF.1 0 31 (by decide)]; exact h31
        have z37 : (Z1.1 0 37).toInt = ((b + k : Nat) : Int) := by rw [hPY.1.1 0 37 (by decide), v37]; exact v16
        have hbk1 : b + k ≤ 2200 := by omega
        refine pw_mono (pw_all (Q := fun (q : (Int32 × Int32) × Int64 × St × Int32) (_ : Int32) Z2 => KC ks q.1.1 (gvs d) → KC ks q.1.2 (gvs d1) → g_Running_ask y q.1.1 q.1.2 (Z.1 70 w) (Z.1 71 w) (Z.1 72 w) V = some (q.2.1, q.2.2.1) → q.2.2.2.toInt = (k : Int) - 1 → ∀ M : Nat, pw (g_Running_askOutward_12 M q.2.1 q.2.2.2 q.2.2.1) (fun y1 V1 => ASQ X Y r ks cell y1 Z2 V1)) (fun q => pw_im (fun k8 => pw_im (fun k13 => pw_im (fun hq => pw_im (fun h8 => ?_)))))) (fun _ Z2 hall M => ?_)
        · have hA1 : ASQ X Y r ks cell q.2.1 Z1 q.2.2.1 := ((hk1 q.1 k8 k13 _ _ hq).pre hXF20 CF.rf hK20 hG20).pre hA.1.1 hA.1.2 hA.2.1.2.2 hG
          refine ih k Z1 q.2.2.1 q.2.1 (resK Z (Z.1 69 w)) q.2.2.2 h8 hkD hA1 ⟨hPY.2.1, (hP.2.1.kx hKV).kx hPY.2.2.1, hBV.pot hPY.2.2.2⟩ z18 z31 z37 hbk1 hb76 hrow1 (fun hz1 => ?_)
          obtain ⟨y1, y2, y3, y4⟩ := hQ hz1
          rw [i24] at y3
          exact ⟨y2, by rw [r9]; exact y3, WCH.hx hP.1 (hXV.tr y1) k _ _ (fun j _ => y76 j) w9⟩
        · refine l_out1 (i := k) (w := r1 w) hBz i7 r85 kd.2 kd1.2 M (fun M1 q k8 k13 => ?_)
          rw [b2, b3, b4]
          refine pw_bd (R := fun y1 V1 => g_Running_ask y q.1 q.2 (Z.1 70 w) (Z.1 71 w) (Z.1 72 w) V = some (y1, V1)) (fun _ _ q => q) (fun y1 V1 hq => ?_)
          exact pw_eq (fun x20 e20 => hall (q, y1, V1, x20) k8 k13 hq (by rw [e20]; exact dec_i h7) M1)
    · have hO := hA.of hz
      refine pw_bd (n_isOn0 hO) ?_
      rintro z27 X28 ⟨e28, e27⟩
      rw [e28, e27]
      refine pw_pos (by decide) (pw_ret (fun M => pw_mono (l_outOff hO.2.1 M y a7) (fun y1 V1 q => ?_)))
      rw [q.1]
      exact hA.any hO
end BACKS
