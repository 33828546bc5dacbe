/-! expression() -/
theorem t_f_expression (X Xt : St) (P : Int) (hag : AG 2 P X Xt) (hy0 : (0 ≤ (X.1 0 6).toInt ∧ (X.1 0 6).toInt ≤ (X.1 0 5).toInt ∧ (X.1 0 5).toInt ≤ (X.1 0 1).toInt ∧ (X.1 0 1).toInt ≤ 3000 ∧ 0 ≤ (X.1 0 7).toInt ∧ (X.1 0 7).toInt ≤ 5 ∧ ((X.1 0 7).toInt = 0 ∨ (X.1 0 6).toInt < (X.1 0 5).toInt))) (hy1 : (X.1 0 9).toInt = 0 ∧ (X.1 0 21).toInt = 0 ∧ 0 ≤ (X.1 0 20).toInt ∧ (X.1 0 20).toInt ≤ 4 ∧ 0 ≤ (X.1 0 19).toInt ∧ (X.1 0 19).toInt ≤ (X.1 0 6).toInt ∧ 3 ≤ (X.1 0 13).toInt ∧ (X.1 0 13).toInt ≤ (X.1 0 6).toInt + 3 ∧ 0 ≤ (X.1 0 15).toInt ∧ (X.1 0 15).toInt ≤ (X.1 0 6).toInt) (h_KT : KT X) (h_K3 : K3 X) (h_FL : FLw X) : ok2 (f_expression X) (f_expression Xt) (fun r X1 X1t => Fr YR [5, 6, 7, 8, 9, 10, 13, 15, 17, 19, 20, 21, 22, 23, 24, 47, 800, 1000, 1200, 1400, 1600, 1800, 2000, 4000, 4200, 4400, 4600, 4800, 5000, 5200, 5400, 5600, 5800, 6000, 6600, 6800, 7000, 7200, 7400, 7600, 7800] X X1 ∧ Fr YR [5, 6, 7, 8, 9, 10, 13, 15, 17, 19, 20, 21, 22, 23, 24, 47, 800, 1000, 1200, 1400, 1600, 1800, 2000, 4000, 4200, 4400, 4600, 4800, 5000, 5200, 5400, 5600, 5800, 6000, 6600, 6800, 7000, 7200, 7400, 7600, 7800] Xt X1t ∧ AG 2 P X1 X1t ∧ (0 ≤ (X1.1 0 6).toInt ∧ (X1.1 0 6).toInt ≤ (X1.1 0 5).toInt ∧ (X1.1 0 5).toInt ≤ (X1.1 0 1).toInt ∧ (X1.1 0 1).toInt ≤ 3000 ∧ 0 ≤ (X1.1 0 7).toInt ∧ (X1.1 0 7).toInt ≤ 5 ∧ ((X1.1 0 7).toInt = 0 ∨ (X1.1 0 6).toInt < (X1.1 0 5).toInt) ∧ (X.1 0 6).toInt ≤ (X1.1 0 6).toInt ∧ 0 ≤ (X1.1 0 19).toInt ∧ (X1.1 0 19).toInt ≤ (X1.1 0 6).toInt + 1 ∧ 3 ≤ (X1.1 0 13).toInt ∧ (X1.1 0 13).toInt ≤ (X1.1 0 6).toInt + 3 ∧ 0 ≤ (X1.1 0 15).toInt ∧ (X1.1 0 15).toInt ≤ (X1.1 0 6).toInt ∧ -50 ≤ (X1.1 0 21).toInt ∧ (X1.1 0 21).toInt ≤ 90 ∧ ((X1.1 0 9).toInt = 0 → (X1.1 0 19).toInt ≤ (X1.1 0 6).toInt) ∧ ((X1.1 0 9).toInt = 0 → (X1.1 0 19).toInt + (X1.1 0 13).toInt ≤ (X.1 0 19).toInt + (X.1 0 13).toInt + (X1.1 0 6).toInt - (X.1 0 6).toInt)) ∧ KT X1 ∧ KX X X1 ∧ ((X1.1 0 9).toInt = 0 → WH X1 r (ix (X.1 0 19)) (ix (X1.1 0 19)) (X.1 0 20).toInt ∧ (X1.1 0 20).toInt = (X.1 0 20).toInt ∧ (X1.1 0 21).toInt = 0) ∧ FLw X1 ∧ FS X X1 0 (ix (X.1 0 19))) := by
  unfold f_expression
  refine ok2.letV ?_
  have hz : (0 : Int32).toInt = 0 := rfl
  have hA1 : AG 3 P (wI X 0 22 0) (wI Xt 0 22 0) := AG.up3 (hag.cn 22 0 (fun e i _ _ _ hl _ => absurd hl (by decide)) (fun e i _ _ _ hl _ => absurd hl (by decide)) (by decide)) ((wI_at _ 0 22 _).trans (wI_at _ 0 22 _).symm) (by rw [wI_at]; decide)
  refine ok2.bd (t_f_enter 0 (-1) _ _ 3 P hA1 (Nat.le_refl 3) (by rw [wI_at]; decide)) ?_
  rintro r0 X2 X2t ⟨hF, hG, hA, h22, hE⟩
  refine ok2.letV (ok2.letV ?_)
  have hA4 : AG 4 P (wI (wI X2 0 23 0) 0 24 (-1)) (wI (wI X2t 0 23 0) 0 24 (-1)) := AG.up4 ((hA.wI 0 23 _ (by decide)).wI 0 24 _ (by decide)) rfl rfl
  have hFX : Fr YR [22, 23, 24, 7000, 7200, 7400, 7600] X (wI (wI X2 0 23 0) 0 24 (-1)) := (((Fr.rf.wI 0 22 _ (show (22 : Nat) ∈ [22, 23, 24, 7000, 7200, 7400, 7600] from by decide)).tr hF (by decide)).wI 0 23 _ (show (23 : Nat) ∈ [22, 23, 24, 7000, 7200, 7400, 7600] from by decide)).wI 0 24 _ (show (24 : Nat) ∈ [22, 23, 24, 7000, 7200, 7400, 7600] from by decide)
  have hGX : Fr YR [22, 23, 24, 7000, 7200, 7400, 7600] Xt (wI (wI X2t 0 23 0) 0 24 (-1)) := (((Fr.rf.wI 0 22 _ (show (22 : Nat) ∈ [22, 23, 24, 7000, 7200, 7400, 7600] from by decide)).tr hG (by decide)).wI 0 23 _ (show (23 : Nat) ∈ [22, 23, 24, 7000, 7200, 7400, 7600] from by decide)).wI 0 24 _ (show (24 : Nat) ∈ [22, 23, 24, 7000, 7200, 7400, 7600] from by decide)
  have hE0 : X2.1 35 0 = 0 := by
    have q := hE.1
    rw [wI_at, show ix (0 : Int32) = 0 from by decide] at q
    exact q
  have h22' : (X2.1 0 22).toInt = 1 := by
    rw [h22, wI_at, hz]
    rfl
  obtain ⟨Y, hY⟩ : ∃ Y : St, wI (wI X2 0 23 0) 0 24 (-1) = Y := ⟨_, rfl⟩
  have y22 : (Y.1 0 22).toInt = 1 := by rw [← hY]; exact h22'
  have y23 : (Y.1 0 23).toInt = 0 := by rw [← hY]; rfl
  have y35 : Y.1 35 0 = 0 := by rw [← hY]; exact hE0
  rw [hY] at hA4 hFX ⊢
  have y1 : Y.1 0 1 = X.1 0 1 := hFX.1 0 1 (show (1 : Nat) ∉ [22, 23, 24, 7000, 7200, 7400, 7600] from by decide)
  have y5 : Y.1 0 5 = X.1 0 5 := hFX.1 0 5 (show (5 : Nat) ∉ [22, 23, 24, 7000, 7200, 7400, 7600] from by decide)
  have y6 : Y.1 0 6 = X.1 0 6 := hFX.1 0 6 (show (6 : Nat) ∉ [22, 23, 24, 7000, 7200, 7400, 7600] from by decide)
  have y7 : Y.1 0 7 = X.1 0 7 := hFX.1 0 7 (show (7 : Nat) ∉ [22, 23, 24, 7000, 7200, 7400, 7600] from by decide)
  have y9 : Y.1 0 9 = X.1 0 9 := hFX.1 0 9 (show (9 : Nat) ∉ [22, 23, 24, 7000, 7200, 7400, 7600] from by decide)
  have y13 : Y.1 0 13 = X.1 0 13 := hFX.1 0 13 (show (13 : Nat) ∉ [22, 23, 24, 7000, 7200, 7400, 7600] from by decide)
  have y15 : Y.1 0 15 = X.1 0 15 := hFX.1 0 15 (show (15 : Nat) ∉ [22, 23, 24, 7000, 7200, 7400, 7600] from by decide)
  have y19 : Y.1 0 19 = X.1 0 19 := hFX.1 0 19 (show (19 : Nat) ∉ [22, 23, 24, 7000, 7200, 7400, 7600] from by decide)
  have y20 : Y.1 0 20 = X.1 0 20 := hFX.1 0 20 (show (20 : Nat) ∉ [22, 23, 24, 7000, 7200, 7400, 7600] from by decide)
  have y21 : Y.1 0 21 = X.1 0 21 := hFX.1 0 21 (show (21 : Nat) ∉ [22, 23, 24, 7000, 7200, 7400, 7600] from by decide)
  have hKT := h_KT.fr hFX (by decide)
  have hKX := KX.fr hFX (by decide)
  have hMM : MM Y (ix (X.1 0 19)) (X.1 0 20).toInt 0 := by
    intro _
    refine Or.inr (Or.inl ⟨y23, 1, (X.1 0 20).toInt, 0, 0, 0, ⟨⟨ix (X.1 0 19), (X.1 0 20).toInt, 0, 0, 0, ⟨rfl, rfl, rfl, rfl, rfl⟩, Or.inl ⟨by rw [y35]; rfl, rfl, by rw [y19], rfl, rfl, rfl⟩, by rw [y35]; rfl⟩, by omega, Nat.le_refl 1, by rw [y20], by rw [y21]; omega, Nat.le_refl _, by rw [y19]; omega⟩, by decide, by decide⟩)
  show ok2 (f_expr0 Y) (f_expr0 _) _
  refine (t_f_expr0 Y _ 4 P hA4 (Nat.le_refl 4) (by rw [y6, y5, y1, y7]; exact hy0) (by rw [y6, y5, y1, y7, y19, y13, y15, y21, y9]; omega) hKT (h_K3.kx hKX) ⟨hy1.2.2.1, hy1.2.2.2.1, rfl⟩ hMM (fun _ => (h_FL hy1.1).fr hFX (by decide))).mono ?_
  rintro r X1 X1t ⟨hF1, hG1, hA5, hp, hk, hkx, hfin, hfl, hfs⟩
  rw [y6, y13, y19] at hp
  exact ⟨(hFX.mono (by decide)).tr hF1 (by decide), (hGX.mono (by decide)).tr hG1 (by decide), hA5.lo (by decide), hp, hk, hKX.tr hkx, hfin, hfl, (FS.fr0 hFX (by decide)).tr hfs⟩
