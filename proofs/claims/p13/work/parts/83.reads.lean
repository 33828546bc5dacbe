set_option maxHeartbeats 4000000 in
theorem t_reads_part (X Xt Z Zt : St) (hF : Fr YR [4, 5, 6, 7, 8, 9, 10, 13, 14, 15, 16, 17, 18, 19, 20, 21, 22, 23, 24, 25, 47, 800, 1000, 1200, 1400, 1600, 1800, 2000, 2200, 2400, 2600, 2800, 3000, 3200, 3400, 3600, 4000, 4200, 4400, 4600, 4800, 5000, 5200, 5400, 5600, 5800, 6000, 6600, 6800, 7000, 7200, 7400, 7600, 7800] X Z) (hG : Fr YR [4, 5, 6, 7, 8, 9, 10, 13, 14, 15, 16, 17, 18, 19, 20, 21, 22, 23, 24, 25, 47, 800, 1000, 1200, 1400, 1600, 1800, 2000, 2200, 2400, 2600, 2800, 3000, 3200, 3400, 3600, 4000, 4200, 4400, 4600, 4800, 5000, 5200, 5400, 5600, 5800, 6000, 6600, 6800, 7000, 7200, 7400, 7600, 7800] Xt Zt) (hI : RI Z Zt) (hw : (Z.1 0 9).toInt = 0) (h7 : ¬ (Z.1 0 7).toInt = 0) (h18 : ¬ (Z.1 0 18).toInt = 40) {n : Nat} {r : St → Option (Int32 × St)} (ih : ∀ (Z Zt : St), Fr YR [4, 5, 6, 7, 8, 9, 10, 13, 14, 15, 16, 17, 18, 19, 20, 21, 22, 23, 24, 25, 47, 800, 1000, 1200, 1400, 1600, 1800, 2000, 2200, 2400, 2600, 2800, 3000, 3200, 3400, 3600, 4000, 4200, 4400, 4600, 4800, 5000, 5200, 5400, 5600, 5800, 6000, 6600, 6800, 7000, 7200, 7400, 7600, 7800] X Z → Fr YR [4, 5, 6, 7, 8, 9, 10, 13, 14, 15, 16, 17, 18, 19, 20, 21, 22, 23, 24, 25, 47, 800, 1000, 1200, 1400, 1600, 1800, 2000, 2200, 2400, 2600, 2800, 3000, 3200, 3400, 3600, 4000, 4200, 4400, 4600, 4800, 5000, 5200, 5400, 5600, 5800, 6000, 6600, 6800, 7000, 7200, 7400, 7600, 7800] Xt Zt → RI Z Zt → (0 < n ∧ ((Z.1 0 9).toInt = 0 → (3001 - (Z.1 0 6).toInt).toNat < n)) → ok2 (r Z) (r Zt) (RQ X Xt)) (hm : (3001 - (Z.1 0 6).toInt).toNat < n + 1) (v : Int32) : ok2 (bnd (f_part__V (wI Z 14 (ix (Z.1 0 18)) v)) fun _ X35 => r X35) (bnd (f_part__V (wI Zt 14 (ix (Z.1 0 18)) v)) fun _ X35 => r X35) (RQ X Xt) := by
  obtain ⟨hx, hn, hT, h3, hfl, hA, hall⟩ := hI
  have hFY : Fr YR [2800] Z (wI Z 14 (ix (Z.1 0 18)) v) := Fr.rf.wI 14 _ _ (show (2800 : Nat) ∈ [2800] from by decide)
  have hGY : Fr YR [2800] Zt (wI Zt 14 (ix (Z.1 0 18)) v) := Fr.rf.wI 14 _ _ (show (2800 : Nat) ∈ [2800] from by decide)
  have hAY := hA.wI 14 (ix (Z.1 0 18)) v (Or.inl (by decide))
  obtain ⟨Y, hY⟩ : ∃ Y : St, wI Z 14 (ix (Z.1 0 18)) v = Y := ⟨_, rfl⟩
  obtain ⟨Yt, hYt⟩ : ∃ Yt : St, wI Zt 14 (ix (Z.1 0 18)) v = Yt := ⟨_, rfl⟩
  rw [hY] at hFY hAY ⊢
  rw [hYt] at hGY hAY ⊢
  have y1 : (Y.1 0 1).toInt = (Z.1 0 1).toInt := congrArg Int32.toInt (hFY.1 0 1 (show (1 : Nat) ∉ [2800] from by decide))
  have y5 : (Y.1 0 5).toInt = (Z.1 0 5).toInt := congrArg Int32.toInt (hFY.1 0 5 (show (5 : Nat) ∉ [2800] from by decide))
  have y6 : (Y.1 0 6).toInt = (Z.1 0 6).toInt := congrArg Int32.toInt (hFY.1 0 6 (show (6 : Nat) ∉ [2800] from by decide))
  have y7 : (Y.1 0 7).toInt = (Z.1 0 7).toInt := congrArg Int32.toInt (hFY.1 0 7 (show (7 : Nat) ∉ [2800] from by decide))
  have y9 : (Y.1 0 9).toInt = (Z.1 0 9).toInt := congrArg Int32.toInt (hFY.1 0 9 (show (9 : Nat) ∉ [2800] from by decide))
  have y13 : (Y.1 0 13).toInt = (Z.1 0 13).toInt := congrArg Int32.toInt (hFY.1 0 13 (show (13 : Nat) ∉ [2800] from by decide))
  have y15 : (Y.1 0 15).toInt = (Z.1 0 15).toInt := congrArg Int32.toInt (hFY.1 0 15 (show (15 : Nat) ∉ [2800] from by decide))
  have y18 : (Y.1 0 18).toInt = (Z.1 0 18).toInt := congrArg Int32.toInt (hFY.1 0 18 (show (18 : Nat) ∉ [2800] from by decide))
  have y19 : (Y.1 0 19).toInt = (Z.1 0 19).toInt := congrArg Int32.toInt (hFY.1 0 19 (show (19 : Nat) ∉ [2800] from by decide))
  have kT := hT.fr hFY (by decide)
  have kX := KX.fr hFY (by decide)
  have e18 : Y.1 0 18 = Z.1 0 18 := hFY.1 0 18 (by decide)
  have fl := (hfl hw).fr hFY (by decide)
  have al := (hall hw).fr hT hFY (by decide) (fun i _ => hFY.1 26 i (show (5200 : Nat) ∉ [2800] from by decide))
  have k3 := h3.kx kX
  have hFX : Fr YR [4, 5, 6, 7, 8, 9, 10, 13, 14, 15, 16, 17, 18, 19, 20, 21, 22, 23, 24, 25, 47, 800, 1000, 1200, 1400, 1600, 1800, 2000, 2200, 2400, 2600, 2800, 3000, 3200, 3400, 3600, 4000, 4200, 4400, 4600, 4800, 5000, 5200, 5400, 5600, 5800, 6000, 6600, 6800, 7000, 7200, 7400, 7600, 7800] X Y := hF.tr hFY (by decide)
  have hGX : Fr YR [4, 5, 6, 7, 8, 9, 10, 13, 14, 15, 16, 17, 18, 19, 20, 21, 22, 23, 24, 25, 47, 800, 1000, 1200, 1400, 1600, 1800, 2000, 2200, 2400, 2600, 2800, 3000, 3200, 3400, 3600, 4000, 4200, 4400, 4600, 4800, 5000, 5200, 5400, 5600, 5800, 6000, 6600, 6800, 7000, 7200, 7400, 7600, 7800] Xt Yt := hG.tr hGY (by decide)
  clear hFY hGY hY hYt hfl hall
  refine ok2.bd (t_f_part__V Y Yt (Z.1 0 18).toInt hAY (by rw [e18]) (by omega) (by omega) kT k3 (fun _ => fl)) ?_
  rintro r1 X1 X1t ⟨hF1, hG1, hA1, hp, hk, hkx, hfl1, hfs, hpr⟩
  have g1 : (X1.1 0 1).toInt = (Y.1 0 1).toInt := congrArg Int32.toInt (hF1.1 0 1 (show (1 : Nat) ∉ [5, 6, 7, 8, 9, 10, 13, 15, 17, 18, 19, 20, 21, 22, 23, 24, 47, 800, 1000, 1200, 1400, 1600, 1800, 2000, 2200, 2400, 2600, 3000, 3200, 3400, 3600, 4000, 4200, 4400, 4600, 4800, 5000, 5200, 5400, 5600, 5800, 6000, 6600, 6800, 7000, 7200, 7400, 7600, 7800] from by decide))
  have g1' : X1.1 0 1 = Y.1 0 1 := hF1.1 0 1 (show (1 : Nat) ∉ [5, 6, 7, 8, 9, 10, 13, 15, 17, 18, 19, 20, 21, 22, 23, 24, 47, 800, 1000, 1200, 1400, 1600, 1800, 2000, 2200, 2400, 2600, 3000, 3200, 3400, 3600, 4000, 4200, 4400, 4600, 4800, 5000, 5200, 5400, 5600, 5800, 6000, 6600, 6800, 7000, 7200, 7400, 7600, 7800] from by decide)
  refine ih X1 X1t (hFX.tr hF1 (by decide)) (hGX.tr hG1 (by decide)) ⟨by omega, ⟨(by omega), (by omega), (by omega), (by omega), (by omega), (by omega), (by omega), (by omega), (fun hq122 => ⟨(by omega), (by omega)⟩)⟩, hk, k3.kx hkx, hfl1, hA1, fun hw1 => ?_⟩ ⟨by omega, fun hw1 => by omega⟩
  obtain ⟨p1, p2, p3⟩ := hpr hw1
  exact al.step kT hk hkx hfs (p1.le (by omega)) p2 p3 (by omega) (by omega) g1'
set_option maxHeartbeats 4000000 in
theorem t_reads_loop (X Xt : St) (n : Nat) : ∀ (Z Zt : St), Fr YR [4, 5, 6, 7, 8, 9, 10, 13, 14, 15, 16, 17, 18, 19, 20, 21, 22, 23, 24, 25, 47, 800, 1000, 1200, 1400, 1600, 1800, 2000, 2200, 2400, 2600, 2800, 3000, 3200, 3400, 3600, 4000, 4200, 4400, 4600, 4800, 5000, 5200, 5400, 5600, 5800, 6000, 6600, 6800, 7000, 7200, 7400, 7600, 7800] X Z → Fr YR [4, 5, 6, 7, 8, 9, 10, 13, 14, 15, 16, 17, 18, 19, 20, 21, 22, 23, 24, 25, 47, 800, 1000, 1200, 1400, 1600, 1800, 2000, 2200, 2400, 2600, 2800, 3000, 3200, 3400, 3600, 4000, 4200, 4400, 4600, 4800, 5000, 5200, 5400, 5600, 5800, 6000, 6600, 6800, 7000, 7200, 7400, 7600, 7800] Xt Zt → RI Z Zt → (0 < n ∧ ((Z.1 0 9).toInt = 0 → (3001 - (Z.1 0 6).toInt).toNat < n)) → ok2 (f_reads_39 n Z) (f_reads_39 n Zt) (RQ X Xt) := by
  unfold f_reads_39
  refine lp_indN (P := fun (n : Nat) (r : St → Option (Int32 × St)) => ∀ (Z Zt : St), Fr YR [4, 5, 6, 7, 8, 9, 10, 13, 14, 15, 16, 17, 18, 19, 20, 21, 22, 23, 24, 25, 47, 800, 1000, 1200, 1400, 1600, 1800, 2000, 2200, 2400, 2600, 2800, 3000, 3200, 3400, 3600, 4000, 4200, 4400, 4600, 4800, 5000, 5200, 5400, 5600, 5800, 6000, 6600, 6800, 7000, 7200, 7400, 7600, 7800] X Z → Fr YR [4, 5, 6, 7, 8, 9, 10, 13, 14, 15, 16, 17, 18, 19, 20, 21, 22, 23, 24, 25, 47, 800, 1000, 1200, 1400, 1600, 1800, 2000, 2200, 2400, 2600, 2800, 3000, 3200, 3400, 3600, 4000, 4200, 4400, 4600, 4800, 5000, 5200, 5400, 5600, 5800, 6000, 6600, 6800, 7000, 7200, 7400, 7600, 7800] Xt Zt → RI Z Zt → (0 < n ∧ ((Z.1 0 9).toInt = 0 → (3001 - (Z.1 0 6).toInt).toNat < n)) → ok2 (r Z) (r Zt) (RQ X Xt)) ?_ ?_ n
  · intro Z Zt hF hG hI hm
    exact absurd hm.1 (Nat.not_lt_zero _)
  · intro n r ih Z Zt hF hG hI hm
    unfold f_reads_39_s
    have hA := hI.2.2.2.2.2.1
    refine ok2.bd (t_f_isWell Z Zt 1 _ hA) ?_
    rintro x9 X2 X2t ⟨e2, e2t, h2⟩
    subst e2
    subst e2t
    refine ok2.ite (fun c => ?_) (fun c => ?_)
    · exact t_reads_end X Xt Z Zt hF hG hI
    have hw : (Z.1 0 9).toInt = 0 := by omega
    have hmw := hm.2 hw
    have hx := hI.1
    have hn0 : 0 < n := by omega
    refine ok2.letE (v1 := Z.1 0 7) rfl (hA.s1 7 (by decide) (Nat.le_refl 1)) ?_
    refine ok2.ite (fun c1 => ?_) (fun c1 => ?_)
    · exact t_reads_end X Xt Z Zt hF hG hI
    refine ok2.bd (t_f_isWord 0 Z Zt 1 _ hA (Nat.le_refl 1)) ?_
    rintro x29 X3 X3t ⟨e3, e3t, h3⟩
    subst e3
    subst e3t
    refine ok2.ite (fun c2 => ?_) (fun c2 => ?_)
    · refine ok2.bd (t_f_stray Z Zt 1 _ hA (Nat.le_refl 1)) ?_
      rintro r4 X4 X4t ⟨hF4, hG4, hA4, h4⟩
      exact ih X4 X4t (hF.tr hF4 (by decide)) (hG.tr hG4 (by decide)) (hI.bad hF4 hA4 h4) ⟨hn0, fun q => absurd q h4⟩
    refine ok2.letE (v1 := Z.1 0 18) rfl (hA.s0 18 (by decide)) ?_
    refine ok2.ite (fun c3 => ?_) (fun c3 => ?_)
    · refine ok2.letE (v1 := Z.1 0 6) rfl (hA.s1 6 (by decide) (Nat.le_refl 1)) ?_
      refine ok2.bd (t_f_fails 3 (Z.1 0 6) Z Zt 1 _ hA) ?_
      rintro r4 X4 X4t ⟨hF4, hG4, hA4, h4⟩
      have hz3 : (3 : Int32).toInt = 3 := rfl
      have h4' : ¬ (X4.1 0 9).toInt = 0 := by omega
      exact ih X4 X4t (hF.tr hF4 (by decide)) (hG.tr hG4 (by decide)) (hI.bad hF4 hA4 h4') ⟨hn0, fun q => absurd q h4'⟩
    refine ok2.letE (v1 := Z.1 0 18) rfl (hA.s0 18 (by decide)) ?_
    refine ok2.letE (v1 := Z.1 0 6) rfl (hA.s1 6 (by decide) (Nat.le_refl 1)) ?_
    have hnn := hI.2.1
    refine ok2.ck (⟨by omega, show (Z.1 0 18).toInt < ((41 : Nat) : Int) from by omega⟩ : inR (Z.1 0 18) 41) (ok2.letV ?_)
    exact t_reads_part X Xt Z Zt hF hG hI hw c1 c3 ih hmw (Z.1 0 6)
set_option maxHeartbeats 4000000 in
theorem t_f_reads (X Xt : St) (h1 : Xt.1 0 1 = X.1 0 1) (ht : ∀ i : Nat, (i : Int) < (X.1 0 1).toInt → Xt.1 2 i = X.1 2 i) (hl : 0 ≤ (X.1 0 1).toInt ∧ (X.1 0 1).toInt ≤ 3000) : ok2 (f_reads X) (f_reads Xt) (RQ X Xt) := by
  unfold f_reads
  refine ok2.letV (ok2.letV (ok2.letV (ok2.letV (ok2.letV (ok2.letV ?_)))))
  have hFX : ∀ W : St, Fr YR [4, 5, 6, 7, 8, 9, 10, 13, 14, 15, 16, 17, 18, 19, 20, 21, 22, 23, 24, 25, 47, 800, 1000, 1200, 1400, 1600, 1800, 2000, 2200, 2400, 2600, 2800, 3000, 3200, 3400, 3600, 4000, 4200, 4400, 4600, 4800, 5000, 5200, 5400, 5600, 5800, 6000, 6600, 6800, 7000, 7200, 7400, 7600, 7800] W (wI (wI (wI (wI (wI (wI W 0 5 0) 0 9 0) 0 10 (-1)) 0 18 0) 0 19 0) 0 4 0) := fun W => ((((((Fr.rf.wI 0 5 _ (show (5 : Nat) ∈ [4, 5, 6, 7, 8, 9, 10, 13, 14, 15, 16, 17, 18, 19, 20, 21, 22, 23, 24, 25, 47, 800, 1000, 1200, 1400, 1600, 1800, 2000, 2200, 2400, 2600, 2800, 3000, 3200, 3400, 3600, 4000, 4200, 4400, 4600, 4800, 5000, 5200, 5400, 5600, 5800, 6000, 6600, 6800, 7000, 7200, 7400, 7600, 7800] from by decide)).wI 0 9 _ (show (9 : Nat) ∈ [4, 5, 6, 7, 8, 9, 10, 13, 14, 15, 16, 17, 18, 19, 20, 21, 22, 23, 24, 25, 47, 800, 1000, 1200, 1400, 1600, 1800, 2000, 2200, 2400, 2600, 2800, 3000, 3200, 3400, 3600, 4000, 4200, 4400, 4600, 4800, 5000, 5200, 5400, 5600, 5800, 6000, 6600, 6800, 7000, 7200, 7400, 7600, 7800] from by decide)).wI 0 10 _ (show (10 : Nat) ∈ [4, 5, 6, 7, 8, 9, 10, 13, 14, 15, 16, 17, 18, 19, 20, 21, 22, 23, 24, 25, 47, 800, 1000, 1200, 1400, 1600, 1800, 2000, 2200, 2400, 2600, 2800, 3000, 3200, 3400, 3600, 4000, 4200, 4400, 4600, 4800, 5000, 5200, 5400, 5600, 5800, 6000, 6600, 6800, 7000, 7200, 7400, 7600, 7800] from by decide)).wI 0 18 _ (show (18 : Nat) ∈ [4, 5, 6, 7, 8, 9, 10, 13, 14, 15, 16, 17, 18, 19, 20, 21, 22, 23, 24, 25, 47, 800, 1000, 1200, 1400, 1600, 1800, 2000, 2200, 2400, 2600, 2800, 3000, 3200, 3400, 3600, 4000, 4200, 4400, 4600, 4800, 5000, 5200, 5400, 5600, 5800, 6000, 6600, 6800, 7000, 7200, 7400, 7600, 7800] from by decide)).wI 0 19 _ (show (19 : Nat) ∈ [4, 5, 6, 7, 8, 9, 10, 13, 14, 15, 16, 17, 18, 19, 20, 21, 22, 23, 24, 25, 47, 800, 1000, 1200, 1400, 1600, 1800, 2000, 2200, 2400, 2600, 2800, 3000, 3200, 3400, 3600, 4000, 4200, 4400, 4600, 4800, 5000, 5200, 5400, 5600, 5800, 6000, 6600, 6800, 7000, 7200, 7400, 7600, 7800] from by decide)).wI 0 4 _ (show (4 : Nat) ∈ [4, 5, 6, 7, 8, 9, 10, 13, 14, 15, 16, 17, 18, 19, 20, 21, 22, 23, 24, 25, 47, 800, 1000, 1200, 1400, 1600, 1800, 2000, 2200, 2400, 2600, 2800, 3000, 3200, 3400, 3600, 4000, 4200, 4400, 4600, 4800, 5000, 5200, 5400, 5600, 5800, 6000, 6600, 6800, 7000, 7200, 7400, 7600, 7800] from by decide))
  have hA0 : AG 0 0 (wI (wI (wI (wI (wI (wI (wI (wI X 0 5 0) 0 9 0) 0 10 (-1)) 0 18 0) 0 19 0) 0 4 0) 0 13 0) 0 15 0) (wI (wI (wI (wI (wI (wI (wI (wI Xt 0 5 0) 0 9 0) 0 10 (-1)) 0 18 0) 0 19 0) 0 4 0) 0 13 0) 0 15 0) := by
    refine AG.start (fun k hk => ?_) (fun i hi => ht i hi) (show (0 : Int32).toInt ≤ 0 from by decide) (show (0 : Int32).toInt ≤ 0 from by decide) (show (0 : Int32).toInt ≤ 0 from by decide)
    simp only [List.mem_cons, List.not_mem_nil, or_false] at hk
    rcases hk with rfl | rfl | rfl | rfl | rfl | rfl | rfl
    · exact h1
    · rfl
    · rfl
    · rfl
    · rfl
    · rfl
    · rfl
  have a5 : (wI (wI (wI (wI (wI (wI X 0 5 0) 0 9 0) 0 10 (-1)) 0 18 0) 0 19 0) 0 4 0).1 0 5 = 0 := rfl
  have a9 : (wI (wI (wI (wI (wI (wI X 0 5 0) 0 9 0) 0 10 (-1)) 0 18 0) 0 19 0) 0 4 0).1 0 9 = 0 := rfl
  have a18 : (wI (wI (wI (wI (wI (wI X 0 5 0) 0 9 0) 0 10 (-1)) 0 18 0) 0 19 0) 0 4 0).1 0 18 = 0 := rfl
  have a19 : (wI (wI (wI (wI (wI (wI X 0 5 0) 0 9 0) 0 10 (-1)) 0 18 0) 0 19 0) 0 4 0).1 0 19 = 0 := rfl
  have hFW := hFX X
  have hGW := hFX Xt
  obtain ⟨W, hW⟩ : ∃ W : St, wI (wI (wI (wI (wI (wI X 0 5 0) 0 9 0) 0 10 (-1)) 0 18 0) 0 19 0) 0 4 0 = W := ⟨_, rfl⟩
  obtain ⟨Wt, hWt⟩ : ∃ Wt : St, wI (wI (wI (wI (wI (wI Xt 0 5 0) 0 9 0) 0 10 (-1)) 0 18 0) 0 19 0) 0 4 0 = Wt := ⟨_, rfl⟩
  rw [hW] at hFW hA0 a5 a9 a18 a19
  rw [hWt] at hGW hA0
  rw [hW, hWt]
  clear hFX hW hWt
  have w1 : (W.1 0 1).toInt = (X.1 0 1).toInt := congrArg Int32.toInt (hFW.1 0 1 (show (1 : Nat) ∉ [4, 5, 6, 7, 8, 9, 10, 13, 14, 15, 16, 17, 18, 19, 20, 21, 22, 23, 24, 25, 47, 800, 1000, 1200, 1400, 1600, 1800, 2000, 2200, 2400, 2600, 2800, 3000, 3200, 3400, 3600, 4000, 4200, 4400, 4600, 4800, 5000, 5200, 5400, 5600, 5800, 6000, 6600, 6800, 7000, 7200, 7400, 7600, 7800] from by decide))
  refine ok2.bd (t_f_kinds0 W Wt hA0) ?_
  rintro r1 X1 X1t ⟨hF1, hG1, hA1, kT, k3, k13, k15⟩
  have b1 : (X1.1 0 1).toInt = (W.1 0 1).toInt := congrArg Int32.toInt (hF1.1 0 1 (by decide))
  have b5 : X1.1 0 5 = 0 := (hF1.1 0 5 (by decide)).trans a5
  have b9 : X1.1 0 9 = 0 := (hF1.1 0 9 (by decide)).trans a9
  have b18 : X1.1 0 18 = 0 := (hF1.1 0 18 (by decide)).trans a18
  have b19 : X1.1 0 19 = 0 := (hF1.1 0 19 (by decide)).trans a19
  have hz0 : (0 : Int32).toInt = 0 := rfl
  have c5 : (X1.1 0 5).toInt = 0 := by rw [b5]; exact hz0
  refine ok2.bd (t_f_next X1 X1t 0 0 hA1 (by omega)) ?_
  rintro r2 Z Zt ⟨hF2, hG2, hA2, hx, hd6, hd7, hdT⟩
  have z1 : (Z.1 0 1).toInt = (X1.1 0 1).toInt := congrArg Int32.toInt (hF2.1 0 1 (by decide))
  have z9 : (Z.1 0 9).toInt = 0 := by rw [hF2.1 0 9 (by decide), b9]; exact hz0
  have z18 : (Z.1 0 18).toInt = 0 := by rw [hF2.1 0 18 (by decide), b18]; exact hz0
  have z19 : (Z.1 0 19).toInt = 0 := by rw [hF2.1 0 19 (by decide), b19]; exact hz0
  have z13 : (Z.1 0 13).toInt = 3 := by rw [hF2.1 0 13 (by decide)]; exact k13
  have z15 : (Z.1 0 15).toInt = 0 := by rw [hF2.1 0 15 (by decide)]; exact k15
  have zT := kT.fr hF2 (by decide)
  have zA := AG.up1 hA2 hd6 hd7 hdT
  have e18 := ixc (z := Z.1 0 18) (by omega)
  have e19 := ixc (z := Z.1 0 19) (by omega)
  exact t_reads_loop X Xt BIG Z Zt ((hFW.tr hF1 (by decide)).tr hF2 (by decide)) ((hGW.tr hG1 (by decide)).tr hG2 (by decide)) ⟨by omega, ⟨(by omega), (by omega), (by omega), (by omega), (by omega), (by omega), (by omega), (by omega), (fun hq116 => ⟨(by omega), (by omega)⟩)⟩, zT, k3.kx (KX.fr hF2 (by decide)), fun _ => ⟨fun i hi => by omega, fun i hi => by omega, fun i hi => by omega⟩, by rw [z18]; exact zA, fun _ => ⟨fun _ => 0, rfl, (by show 0 = ix (Z.1 0 19); omega), fun p hp => by omega, fun p _ => Nat.zero_le _⟩⟩ ⟨by decide, fun _ => ltBIG (by omega)⟩
