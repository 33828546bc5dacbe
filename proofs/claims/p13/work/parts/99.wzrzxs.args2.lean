/-! the arguments of a call, asked for one wrapping: the loops -/
section ARGS2S
variable {X Y Z X1 Y1 X2 Y2 V V1 Z1 W : St} {r r1 r2 : Nat → Int32} {s w k a b p p1 p2 v a1 a2 a3 a4 a5 a6 an pl am c3 c5 : Int32} {y y1 : Int64} {ks : List (List Int)} {e c m n i j lo hi q A k0 t0 cell : Nat} {d d1 : List Int} {G : Nat → Int32} {R : Int32 → Int32 → Int32 → Int32 → Int32 → St → Option (Int32 × St)} {r17 : Int32 → Int32 → Int32 → Int32 → St → Option (Int32 × St)}
/-- p3's facts while the arguments are asked -/
def ARQ (W Z : St) (G : Nat → Int32) (cell m t0 i : Nat) : Prop := (W.1 0 43).toInt < 0 ∧ HX W Z G G ∧ HP false Z G ∧ (∀ j, j < i → VV false Z G (cmpK W (W.1 68 t0) j) (Z.1 60 (cell + 1 + j)) (Z.1 61 (cell + 1 + j))) ∧ (∀ j, i ≤ j → j < m → VV false Z G (cmpK W (W.1 69 t0) j) (Z.1 60 (cell + 1 + j)) (Z.1 61 (cell + 1 + j))) ∧ ∀ j, j ≤ cell → Z.1 61 j = W.1 61 j
def PR24 : List Nat := [13, 15, 33, 36, 43, 44, 45, 800, 1000, 1200, 1400, 1600, 1800, 2000, 12200, 12800, 13400, 13600, 13800, 14000, 14200, 14400, 14600, 16000]
theorem n_args (hB : RBk e X Y ks) (hM : PRm e X Y) (hT : KT W) (h3 : K3 W) (hPB : PBD W) (h18 : (W.1 0 18).toInt ≤ 40) (hcm : cell + m + 1 ≤ 20000) (hm4 : m ≤ 4) (ht0 : (t0 : Int) < (W.1 0 33).toInt ∧ t0 < 1000) (htX : (t0 : Int) < (X.1 0 33).toInt) (hwr : wrp W t0) (hv : VK W (W.1 68 t0) ∧ VK W (W.1 69 t0)) (hk : km W (W.1 68 t0) = (m : Int) + 1 ∧ km W (W.1 69 t0) = (m : Int) + 1) (hso : so W (W.1 68 t0) = 5 ∧ so W (W.1 69 t0) = 5) (hf : ∀ i : Nat, i ≤ m → FIT W (cmpK W (W.1 68 t0) i) (cmpK W (W.1 69 t0) i)) (hp : (0 ≤ (W.1 70 t0).toInt ∧ (W.1 70 t0).toInt ≤ 40) ∧ 0 ≤ (W.1 71 t0).toInt ∧ (W.1 71 t0).toInt ≤ 40) (h3m : a3.toInt = (m : Int)) (h4 : a4.toInt = (cell : Int)) (h5 : a5.toInt = (t0 : Int)) (hAq : A = cell + q) (hA : A < 50000) (hn : an.toInt = (m : Int)) (h3c : c3.toInt = (A : Int)) (h5c : c5.toInt = (k0 : Int)) (h85 : Y.1 85 k0 = r t0) {P : St → St → Prop} (K : ∀ Z V, MLQ X Y r ks (cell + 1) (cell + 1 + m) q Z V → PER PR24 W Z → ((Z.1 0 43).toInt < 0 → ARQ W Z G cell m t0 m) → pw (f_call_128 r17 a1 a2 a3 a4 a5 Z) (fun _ Z1 => ∀ x14 : Int32, x14 = c5 + Int32.ofInt 1 → pw (R an pl c3 am x14 V) (fun _ V1 => P Z1 V1))) : ∀ (N i : Nat) (Z V : St) (a6 b6 : Int32), a6.toInt = (i : Int) → b6.toInt = (i : Int) → i ≤ m → MLQ X Y r ks (cell + 1) (cell + 1 + m) q Z V → PER PR24 W Z → ((Z.1 0 43).toInt < 0 → ARQ W Z G cell m t0 i) → pw (f_call_51 r17 N a1 a2 a3 a4 a5 a6 Z) (fun _ Z1 => ∀ M : Nat, pw (g_Running_callWith_44 R M an pl c3 am c5 b6 V) (fun _ V1 => P Z1 V1)) := by
  have z1 : (1 : Int32).toInt = 1 := rfl
  have i5 : ix a5 = t0 := ixn h5
  intro N
  induction N with
  | zero => exact fun _ _ _ _ _ _ _ _ _ _ _ => pw_none
  | succ N ih =>
    intro i Z V a6 b6 h6 hb6 hi hQ hPW hon
    have e1 : f_call_51 r17 (N + 1) = f_call_51_s r17 (f_call_51 r17 N) := by
      unfold f_call_51
      exact lp_succ _ _ _
    rw [e1]
    unfold f_call_51_s
    by_cases him : i = m
    · refine pw_pos (by omega) (pw_mono (K Z V hQ hPW (fun q => by rw [him] at hon; exact hon q)) (fun _ Z1 g M => ?_))
      cases M with
      | zero => exact pw_none
      | succ M =>
        have e2 : g_Running_callWith_44 R (M + 1) = g_Running_callWith_44_s R (g_Running_callWith_44 R M) := by
          unfold g_Running_callWith_44
          exact lp_succ _ _ _
        rw [e2]
        unfold g_Running_callWith_44_s
        exact pw_pos (by omega) (pw_eq (fun x14 e14 => g x14 e14))
    have hi1 : i < m := by omega
    have hin : (i : Int) < an.toInt := by omega
    have hi3 : i < 1000 := by omega
    have hi2 : i + 1 ≤ m := by omega
    refine pw_neg (by omega) ?_
    by_cases hz : (Z.1 0 43).toInt < 0
    · have hO := hQ.on hz
      obtain ⟨r1, hG, hAP⟩ := hQ.apr hB hO
      obtain ⟨o1, o2, o3, o4, o5, o6⟩ := hon hz
      have hAi := hAP (cell + 1 + i) (by omega) (by omega)
      obtain ⟨hBz, hSz, _, hHz, hvz⟩ := id hAi
      obtain ⟨⟨d64, -⟩, ⟨-, d68, d69, d70, d71, -⟩, -⟩ := o2.2.2.1 t0 ht0.1
      have hwZ : wrp Z t0 := by
        unfold wrp
        rw [d64]
        exact hwr
      have hlt : (t0 : Int) < (Z.1 0 33).toInt := Int.lt_of_lt_of_le ht0.1 o2.2.1
      obtain ⟨b1, ⟨b2, b3, b4, b5⟩, ⟨b6', b7, _⟩, d, d1, kd, kd1, sd, sv⟩ := (hHz.2.1 t0 hlt).2 hwZ
      have hKV := hPW.2.2.1
      have hTV := hPW.2.1
      have v68 := hv.1.kx hKV
      have v69 := hv.2.kx hKV
      have hBV := hPB.pot hPW.2.2.2
      obtain ⟨s8, k8⟩ := hv.1.so_kx hKV
      obtain ⟨s9, k9⟩ := hv.2.so_kx hKV
      have c8 : cmpK Z (W.1 68 t0) i = cmpK W (W.1 68 t0) i := cmpK_kx hT hKV hv.1.1 hv.1.2 (show (i : Int) < km W (W.1 68 t0) by omega)
      have c9 : cmpK Z (W.1 69 t0) i = cmpK W (W.1 69 t0) i := cmpK_kx hT hKV hv.2.1 hv.2.2 (show (i : Int) < km W (W.1 69 t0) by omega)
      rw [d68] at kd
      rw [d69] at kd1
      have s4 : sot d = 4 ∧ sot d1 = 4 := by
        have q1 := kd.1.so
        have q2 := kd1.1.so
        omega
      have tk : i < tkn d ∧ i < tkn d1 := by
        have q1 := kd.1.srt.2
        have q2 := kd1.1.srt.2
        rw [cps4 s4.1] at q1
        rw [cps4 s4.2] at q2
        have q3 : km Z (W.1 68 t0) = (Z.1 5 (ix (W.1 68 t0))).toInt := rfl
        have q4 : km Z (W.1 69 t0) = (Z.1 5 (ix (W.1 69 t0))).toInt := rfl
        omega
      have er : r1 t0 = r t0 := (hG.2 t0 htX).2
      have r85 : V.1 85 k0 = r1 t0 := by
        rw [hQ.1.2.2.1 85 k0 (by omega) (by omega) (by omega) (by omega), er]
        exact h85
      have i6 : ix a6 = i := ixn h6
      refine pw_bd (n_isOn1 hO) ?_
      rintro z27 X28 ⟨e28, e27⟩
      rw [e28, e27]
      refine pw_neg (by decide) (pw_eq (fun x32 e32 => pw_eq (fun x33 e33 => ?_)))
      have g1 : x32.toInt = ((cell + 1 : Nat) : Int) := by rw [e32]; exact add1_i h4 (by omega)
      have i33 : ix x33 = cell + 1 + i := by rw [e33]; exact add_i g1 h6 (by omega)
      have v33 : 0 ≤ x33.toInt ∧ x33.toInt < 20400 := by
        rw [e33, ti_add (by rw [g1, h6]; omega) (by rw [g1, h6]; omega), g1, h6]
        omega
      refine pw_ck (fun _ => pw_to (show Z.1 69 (ix a5) = W.1 69 t0 by rw [i5]; exact d69) (pw_bd (pw_and (pw_ok (j_paramOf hTV (by have := hBV.1; omega) (by have := hBV.2; omega) v69 (show 0 ≤ a6.toInt ∧ a6.toInt < km Z (W.1 69 t0) by omega))) (x_prm hBz.2.1.1 kd1.1 s4.2 h6 tk.2)) ?_))
      rintro x35 X36 ⟨⟨e36, e35⟩, _, q35⟩
      rw [← e36]
      refine pw_ck (fun _ => pw_to (show Z.1 68 (ix a5) = W.1 68 t0 by rw [i5]; exact d68) (pw_bd (pw_and (pw_ok (j_paramOf hTV (by have := hBV.1; omega) (by have := hBV.2; omega) v68 (show 0 ≤ a6.toInt ∧ a6.toInt < km Z (W.1 68 t0) by omega))) (x_prm hBz.2.1.1 kd.1 s4.1 h6 tk.1)) ?_))
      rintro x38 X39 ⟨⟨e39, e38⟩, _, q38⟩
      rw [← e39]
      rw [i6, c9] at e35
      rw [i6, c8] at e38
      refine pw_ck (fun _ => pw_to (show Z.1 71 (ix a5) = Z.1 71 t0 by rw [i5]) (pw_ck (fun _ => pw_to (show Z.1 70 (ix a5) = Z.1 70 t0 by rw [i5]) (pw_ck (fun _ => pw_to (show Z.1 72 (ix a5) = Z.1 72 t0 by rw [i5]) ?_)))))
      rw [e35] at q35 ⊢
      rw [e38] at q38 ⊢
      have fit := (hf i (by omega)).symm
      have vk9 : VK W (cmpK W (W.1 69 t0) i) := hv.2.cmp hT (by omega)
      have vk8 : VK W (cmpK W (W.1 68 t0) i) := hv.1.cmp hT (by omega)
      have fitZ := fit.kx hT hKV vk9 vk8
      have hvv := o5 i (Nat.le_refl _) hi1
      have hty := vv_ty hvv q35
      have hask : pw (f_asks x33 (cmpK W (W.1 69 t0) i) (cmpK W (W.1 68 t0) i) (Z.1 71 t0) (Z.1 70 t0) (Z.1 72 t0) Z) (fun _ Z1 => ∀ qq : Int32 × Int32, KC ks qq.1 (prm d1 i) → KC ks qq.2 (prm d i) → pw (g_Running_ask (V.2.1 84 (cell + 1 + i + q)) qq.1 qq.2 (Z.1 71 t0) (Z.1 70 t0) (Z.1 72 t0) V) (fun y1 V1 => ASQ Z V r1 ks (cell + 1 + i) y1 Z1 V1)) := by
        refine pw_all (fun qq => pw_im (fun k8' => pw_im (fun k13' => ?_)))
        have kx : KR Z ks (cmpK W (W.1 69 t0) i) qq.1 (prm d1 i) := ⟨q35, k8'⟩
        have ky : KR Z ks (cmpK W (W.1 68 t0) i) qq.2 (prm d i) := ⟨q38, k13'⟩
        exact n_ask hAi (hM.tom hB.1 hQ.1.1 hQ.1.2) o3 hTV hty.2.2.1 hty.2.2.2 i33 kx ky ⟨hty.1, hty.2.1⟩ (fit_of hBz fitZ kx ky) b7 b6'
      refine pw_bd (pw_and (pw_ok (r_asks (G := G) (cell := x33) ⟨o3, hTV, h3.kx hKV, hBV, by rw [hPW.1.1 0 18 (by decide)]; exact h18, v33.1, v33.2⟩ ⟨by rw [d71]; exact hp.2, by rw [d70]; exact hp.1⟩ (vk9.kx hKV) (vk8.kx hKV) fitZ (by rw [i33]; exact hvv))) hask) ?_
      rintro _ Z1 ⟨⟨hPY, hAQ⟩, hk1⟩
      refine pw_eq (fun x44 e44 => ?_)
      have v44 : x44.toInt = ((i + 1 : Nat) : Int) := by rw [e44]; exact inc_i h6 hi3
      have y60 : ∀ j, Z1.1 60 j = Z.1 60 j := fun j => hPY.1.1 60 j (show (12000 : Nat) ∉ [13, 15, 33, 36, 43, 44, 45, 800, 1000, 1200, 1400, 1600, 1800, 2000, 12200, 12800, 13400, 13600, 13800, 14000, 14200, 14400, 14600, 16000] from by decide)
      refine pw_mono (pw_all (Q := fun (qq : (Int32 × Int32) × Int64 × St × Int32) (_ : Int32) Z2 => KC ks qq.1.1 (prm d1 i) → KC ks qq.1.2 (prm d i) → g_Running_ask (V.2.1 84 (cell + 1 + i + q)) qq.1.1 qq.1.2 (Z.1 71 t0) (Z.1 70 t0) (Z.1 72 t0) V = some (qq.2.1, qq.2.2.1) → qq.2.2.2.toInt = ((i + 1 : Nat) : Int) → ∀ M : Nat, pw (g_Running_callWith_44 R M an pl c3 am c5 qq.2.2.2 (wL qq.2.2.1 84 (cell + 1 + i + q) qq.2.1)) (fun _ V1 => P Z2 V1)) (fun qq => pw_im (fun k8' => pw_im (fun k13' => pw_im (fun hq => pw_im (fun h8' => ?_)))))) (fun _ Z2 hall M => ?_)
      · have hQ1 := hQ.step hB hG hAP (i := cell + 1 + i) (by omega) (by omega) (hk1 qq.1 k8' k13' _ _ hq)
        refine ih (i + 1) Z1 _ x44 qq.2.2.2 v44 h8' hi2 hQ1 (hPW.tr hPY (fun _ g => g)) (fun hz1 => ?_)
        obtain ⟨y1, y2, y3, y4⟩ := hAQ hz1
        rw [i33] at y3 y4
        refine ⟨o1, o2.tr y1, y2, fun j hj => ?_, fun j j1 j2 => ?_, fun j hj => (y4 j (by omega)).trans (o6 j hj)⟩
        · by_cases g : j = i
          · rw [g]
            exact y3
          · rw [y60, y4 _ (by omega)]
            exact (o4 j (by omega)).hx hTV y1
        · rw [y60, y4 _ (by omega)]
          exact (o5 j (by omega) j2).hx hTV y1
      · have eA : A + 1 + i = cell + 1 + i + q := by omega
        refine l_arg1 (i := i) (A := A) (k0 := k0) (w := r1 t0) hBz hb6 hin hi3 h3c hA h5c r85 kd.2 kd1.2 tk.1 tk.2 M (fun M1 qq y1 V1 x g1 g2 hq hx => ?_)
        rw [b2, b3, b4, eA] at hq
        rw [eA]
        exact hall (qq, y1, V1, x) g1 g2 hq hx M1
    · have hO := hQ.of hz
      refine pw_bd (n_isOn0 hO) ?_
      rintro z27 X28 ⟨e28, e27⟩
      rw [e28, e27]
      refine pw_pos (by decide) (pw_mono (pw_all (Q := fun (V' : St) (_ : Int32) Z2 => MLQ X Y r ks (cell + 1) (cell + 1 + m) q Z V' → ∀ x14 : Int32, x14 = c5 + Int32.ofInt 1 → pw (R an pl c3 am x14 V') (fun _ V1 => P Z2 V1)) (fun V' => pw_im (fun hQ' => K Z V' hQ' hPW (fun g => absurd g hz)))) (fun _ Z2 hall M => ?_))
      exact l_argsO hAq hA h3c hn hm4 (fun V' x hQ' _ hx => hall V' hQ' x hx) M i V b6 hb6 hi hQ hO
end ARGS2S
