/-! a text's parts -/
theorem PRW.ns {X Y : St} {b lo hi : Nat} {T : Int} (h : PRW X b lo hi T) (hT : KT X) (hTY : KT Y) (hK : KX X Y) (e15 : Y.1 15 b = X.1 15 b) (e17 : Y.1 17 b = X.1 17 b) (e18 : Y.1 18 b = X.1 18 b) (e16 : ∀ i, Y.1 16 i = X.1 16 i) (hn : NSx X Y (ix (X.1 18 b)) lo hi) : PRW Y b lo hi T := by
  obtain ⟨h1, h2, h3, h4, h5, h6, h7⟩ := h
  have hk := hK.1
  have h4x := ixc h4
  unfold PRW
  rw [e15, e17, e18]
  refine ⟨h1, h2, fun i hi => ?_, h4, by omega, ?_, h7.1, h7.2.fr hn⟩
  · rw [e16]
    have := h3 i hi
    omega
  · rw [psum_congr hT hTY hK (fun i _ => e16 _) h3, ksz_kx hT hTY hK _ (by omega)]
    exact h6
/-- each part is well, its nodes behind those of the part before -/
def ALLP (X : St) : Prop := ∃ lo : Nat → Nat, lo 0 = 0 ∧ lo (ix (X.1 0 18)) = ix (X.1 0 19) ∧ (∀ p, p < ix (X.1 0 18) → lo p ≤ lo (p + 1) ∧ PRW X p (lo p) (lo (p + 1)) 3001 ∧ 0 ≤ (X.1 12 p).toInt ∧ 0 ≤ (X.1 13 p).toInt ∧ (X.1 12 p).toInt + (X.1 13 p).toInt ≤ (X.1 0 1).toInt) ∧ ∀ p, p ≤ ix (X.1 0 18) → lo p ≤ ix (X.1 0 19)
theorem ALLP.ns {X Y : St} (h : ALLP X) (hT : KT X) (hTY : KT Y) (hK : KX X Y) (e1 : Y.1 0 1 = X.1 0 1) (e18 : Y.1 0 18 = X.1 0 18) (e19 : Y.1 0 19 = X.1 0 19) (hr : ∀ i, Y.1 12 i = X.1 12 i ∧ Y.1 13 i = X.1 13 i ∧ Y.1 15 i = X.1 15 i ∧ Y.1 16 i = X.1 16 i ∧ Y.1 17 i = X.1 17 i ∧ Y.1 18 i = X.1 18 i) (hn : ∀ n lo hi, NSx X Y n lo hi) : ALLP Y := by
  obtain ⟨lo, a, b, c, d⟩ := h
  refine ⟨lo, a, by rw [e18, e19]; exact b, fun p hp => ?_, by rw [e18, e19]; exact d⟩
  rw [e18] at hp
  obtain ⟨c1, c2, c3, c4, c5⟩ := c p hp
  obtain ⟨r12, r13, r15, r16, r17, r18⟩ := hr p
  refine ⟨c1, c2.ns hT hTY hK r15 r17 r18 (fun i => (hr i).2.2.2.1) (hn _ _ _), by rw [r12]; exact c3, by rw [r13]; exact c4, by rw [r12, r13, e1]; exact c5⟩
theorem ALLP.fr {X Y : St} {L : List Nat} (h : ALLP X) (hT : KT X) (hF : Fr YR L X Y) (hl : (13 ∉ L ∧ 15 ∉ L ∧ 800 ∉ L ∧ 1000 ∉ L ∧ 1200 ∉ L ∧ 1800 ∉ L) ∧ (1 ∉ L ∧ 18 ∉ L ∧ 19 ∉ L) ∧ (2400 ∉ L ∧ 2600 ∉ L ∧ 3000 ∉ L ∧ 3200 ∉ L ∧ 3400 ∉ L ∧ 3600 ∉ L) ∧ (4000 ∉ L ∧ 4600 ∉ L ∧ 4800 ∉ L ∧ 5000 ∉ L ∧ 5400 ∉ L ∧ 5600 ∉ L)) (h3 : ∀ i, ¬ (X.1 20 i).toInt = 3 → Y.1 26 i = X.1 26 i) : ALLP Y := by
  refine h.ns hT (hT.fr hF hl.1) (KX.fr hF hl.1) (hF.1 0 1 hl.2.1.1) (hF.1 0 18 hl.2.1.2.1) (hF.1 0 19 hl.2.1.2.2) (fun i => ⟨hF.1 12 i hl.2.2.1.1, hF.1 13 i hl.2.2.1.2.1, hF.1 15 i hl.2.2.1.2.2.1, hF.1 16 i hl.2.2.1.2.2.2.1, hF.1 17 i hl.2.2.1.2.2.2.2.1, hF.1 18 i hl.2.2.1.2.2.2.2.2⟩) (fun n lo hi i _ _ => ⟨hF.1 20 i hl.2.2.2.1, hF.1 23 i hl.2.2.2.2.1, hF.1 24 i hl.2.2.2.2.2.1, hF.1 25 i hl.2.2.2.2.2.2.1, ?_, hF.1 27 i hl.2.2.2.2.2.2.2.1, fun _ => hF.1 28 i hl.2.2.2.2.2.2.2.2⟩)
  by_cases q : (X.1 20 i).toInt = 3
  · exact Or.inl q
  · exact Or.inr (h3 i q)
theorem ALLP.step {X Y : St} (h : ALLP X) (hT : KT X) (hTY : KT Y) (hK : KX X Y) (hF : FS X Y 0 (ix (X.1 0 19))) (hP : PRW Y (ix (X.1 0 18)) (ix (X.1 0 19)) (ix (Y.1 0 19)) 3001) (hO : OTH X Y (ix (X.1 0 18))) (hN : (∀ i, i ≠ ix (X.1 0 18) → Y.2.1 11 i = X.2.1 11 i ∧ Y.1 12 i = X.1 12 i ∧ Y.1 13 i = X.1 13 i) ∧ 0 ≤ (Y.1 12 (ix (X.1 0 18))).toInt ∧ 0 ≤ (Y.1 13 (ix (X.1 0 18))).toInt ∧ (Y.1 12 (ix (X.1 0 18))).toInt + (Y.1 13 (ix (X.1 0 18))).toInt ≤ (X.1 0 1).toInt) (h18 : (Y.1 0 18).toInt = (X.1 0 18).toInt + 1) (h0 : 0 ≤ (X.1 0 18).toInt) (e1 : Y.1 0 1 = X.1 0 1) : ALLP Y := by
  obtain ⟨lo, a, b, c, d⟩ := h
  have x18 := ixc h0
  have y18 := ixc (z := Y.1 0 18) (by omega)
  have e18 : ix (Y.1 0 18) = ix (X.1 0 18) + 1 := by omega
  obtain ⟨lo1, hlo⟩ : ∃ lo1 : Nat → Nat, (∀ p, p ≤ ix (X.1 0 18) → lo1 p = lo p) ∧ lo1 (ix (X.1 0 18) + 1) = ix (Y.1 0 19) := ⟨fun p => if p ≤ ix (X.1 0 18) then lo p else ix (Y.1 0 19), fun p hp => if_pos hp, if_neg (by omega)⟩
  have hb := hP.2.2.2.2.2.2.2.bd
  refine ⟨lo1, by rw [hlo.1 0 (Nat.zero_le _)]; exact a, by rw [e18]; exact hlo.2, fun p hp => ?_, fun p hp => ?_⟩
  · rw [e18] at hp
    by_cases q : p = ix (X.1 0 18)
    · subst q
      rw [hlo.1 _ (Nat.le_refl _), hlo.2, b, e1]
      exact ⟨by omega, hP, hN.2⟩
    · have hp1 : p < ix (X.1 0 18) := by omega
      obtain ⟨c1, c2, c3, c4, c5⟩ := c p hp1
      obtain ⟨-, n12, n13⟩ := hN.1 p q
      rw [hlo.1 p (by omega), hlo.1 (p + 1) (by omega), n12, n13, e1]
      exact ⟨c1, c2.fr hT hTY hK hO hp1 (hF.le (Nat.le_refl _) (d (p + 1) (by omega))), c3, c4, c5⟩
  · rw [e18] at hp
    by_cases q : p = ix (X.1 0 18) + 1
    · rw [q, hlo.2]
      exact Nat.le_refl _
    · rw [hlo.1 p (by omega)]
      have := d p (by omega)
      omega
/-- a text that was read without a fault -/
def PROG (X : St) : Prop := FLa X ∧ ALLP X ∧ ((X.1 0 19).toInt ≤ 3000 ∧ (X.1 0 19).toInt + (X.1 0 13).toInt ≤ 3003) ∧ (∀ i : Nat, (i : Int) < (X.1 0 19).toInt → (X.1 20 i).toInt = 3 → 0 ≤ (X.1 26 i).toInt ∧ (X.1 26 i).toInt < (X.1 0 18).toInt) ∧ 0 ≤ (X.1 0 25).toInt ∧ (X.1 0 25).toInt < (X.1 0 18).toInt ∧ (X.1 15 (ix (X.1 0 25))).toInt ≤ 0
/-- what stands when a text has been read -/
def RGOOD (X : St) : Prop := KT X ∧ K3 X ∧ (0 ≤ (X.1 0 18).toInt ∧ (X.1 0 18).toInt ≤ 40 ∧ 0 ≤ (X.1 0 19).toInt ∧ (X.1 0 19).toInt ≤ 3001 ∧ (X.1 0 13).toInt ≤ 3003 ∧ (X.1 0 15).toInt ≤ 3000 ∧ (X.1 0 14).toInt = (X.1 0 13).toInt ∧ (X.1 0 16).toInt = (X.1 0 15).toInt) ∧ ((X.1 0 9).toInt = 0 → PROG X)
/-- while parts are read -/
def RI (Z Zt : St) : Prop := (0 ≤ (Z.1 0 6).toInt ∧ (Z.1 0 6).toInt ≤ (Z.1 0 5).toInt ∧ (Z.1 0 5).toInt ≤ (Z.1 0 1).toInt ∧ (Z.1 0 1).toInt ≤ 3000 ∧ 0 ≤ (Z.1 0 7).toInt ∧ (Z.1 0 7).toInt ≤ 5 ∧ ((Z.1 0 7).toInt = 0 ∨ (Z.1 0 6).toInt < (Z.1 0 5).toInt)) ∧ (0 ≤ (Z.1 0 18).toInt ∧ (Z.1 0 18).toInt ≤ 40 ∧ 0 ≤ (Z.1 0 19).toInt ∧ (Z.1 0 19).toInt ≤ (Z.1 0 6).toInt + 1 ∧ 3 ≤ (Z.1 0 13).toInt ∧ (Z.1 0 13).toInt ≤ (Z.1 0 6).toInt + 3 ∧ 0 ≤ (Z.1 0 15).toInt ∧ (Z.1 0 15).toInt ≤ (Z.1 0 6).toInt ∧ ((Z.1 0 9).toInt = 0 → (Z.1 0 19).toInt ≤ (Z.1 0 6).toInt ∧ (Z.1 0 19).toInt + (Z.1 0 13).toInt ≤ (Z.1 0 6).toInt + 3)) ∧ KT Z ∧ K3 Z ∧ FLw Z ∧ AG 1 (Z.1 0 18).toInt Z Zt ∧ ((Z.1 0 9).toInt = 0 → ALLP Z)
def RQ (X Xt : St) : Int32 → St → St → Prop := fun _ X1 X1t => Fr YR [4, 5, 6, 7, 8, 9, 10, 13, 14, 15, 16, 17, 18, 19, 20, 21, 22, 23, 24, 25, 47, 800, 1000, 1200, 1400, 1600, 1800, 2000, 2200, 2400, 2600, 2800, 3000, 3200, 3400, 3600, 4000, 4200, 4400, 4600, 4800, 5000, 5200, 5400, 5600, 5800, 6000, 6600, 6800, 7000, 7200, 7400, 7600, 7800] X X1 ∧ Fr YR [4, 5, 6, 7, 8, 9, 10, 13, 14, 15, 16, 17, 18, 19, 20, 21, 22, 23, 24, 25, 47, 800, 1000, 1200, 1400, 1600, 1800, 2000, 2200, 2400, 2600, 2800, 3000, 3200, 3400, 3600, 4000, 4200, 4400, 4600, 4800, 5000, 5200, 5400, 5600, 5800, 6000, 6600, 6800, 7000, 7200, 7400, 7600, 7800] Xt X1t ∧ X1t.1 0 9 = X1.1 0 9 ∧ RGOOD X1
theorem t_reads_end (X Xt Z Zt : St) (hF : Fr YR [4, 5, 6, 7, 8, 9, 10, 13, 14, 15, 16, 17, 18, 19, 20, 21, 22, 23, 24, 25, 47, 800, 1000, 1200, 1400, 1600, 1800, 2000, 2200, 2400, 2600, 2800, 3000, 3200, 3400, 3600, 4000, 4200, 4400, 4600, 4800, 5000, 5200, 5400, 5600, 5800, 6000, 6600, 6800, 7000, 7200, 7400, 7600, 7800] X Z) (hG : Fr YR [4, 5, 6, 7, 8, 9, 10, 13, 14, 15, 16, 17, 18, 19, 20, 21, 22, 23, 24, 25, 47, 800, 1000, 1200, 1400, 1600, 1800, 2000, 2200, 2400, 2600, 2800, 3000, 3200, 3400, 3600, 4000, 4200, 4400, 4600, 4800, 5000, 5200, 5400, 5600, 5800, 6000, 6600, 6800, 7000, 7200, 7400, 7600, 7800] Xt Zt) (hI : RI Z Zt) : ok2 (f_reads_109 Z) (f_reads_109 Zt) (RQ X Xt) := by
  obtain ⟨hx, hn, hT, h3, hfl, hA, hall⟩ := hI
  refine (t_f_reads_109 Z Zt 1 (Z.1 0 18).toInt hA (by omega) (by omega) hfl).mono ?_
  rintro r X1 X1t ⟨hF1, hG1, hA1, hp, hkn, hv3, m, hm, hmm⟩
  have c1 : (X1.1 0 1).toInt = (Z.1 0 1).toInt := congrArg Int32.toInt (hF1.1 0 1 (show (1 : Nat) ∉ [9, 10, 14, 16, 25, 5200] from by decide))
  have c13 : (X1.1 0 13).toInt = (Z.1 0 13).toInt := congrArg Int32.toInt (hF1.1 0 13 (show (13 : Nat) ∉ [9, 10, 14, 16, 25, 5200] from by decide))
  have c15 : (X1.1 0 15).toInt = (Z.1 0 15).toInt := congrArg Int32.toInt (hF1.1 0 15 (show (15 : Nat) ∉ [9, 10, 14, 16, 25, 5200] from by decide))
  have c18 : (X1.1 0 18).toInt = (Z.1 0 18).toInt := congrArg Int32.toInt (hF1.1 0 18 (show (18 : Nat) ∉ [9, 10, 14, 16, 25, 5200] from by decide))
  have c19 : (X1.1 0 19).toInt = (Z.1 0 19).toInt := congrArg Int32.toInt (hF1.1 0 19 (show (19 : Nat) ∉ [9, 10, 14, 16, 25, 5200] from by decide))
  have e15 : ∀ i, X1.1 15 i = Z.1 15 i := fun i => hF1.1 15 i (show (3000 : Nat) ∉ [9, 10, 14, 16, 25, 5200] from by decide)
  have e20 : ∀ i, X1.1 20 i = Z.1 20 i := fun i => hF1.1 20 i (show (4000 : Nat) ∉ [9, 10, 14, 16, 25, 5200] from by decide)
  refine ⟨hF.tr hF1 (by decide), hG.tr hG1 (by decide), hA1.s0 9 (by decide), hT.fr hF1 (by decide), h3.kx (KX.fr hF1 (by decide)), by omega, fun hw => ?_⟩
  have hw0 := hp.1 hw
  have hm1 := hmm hw
  refine ⟨(hfl hw0).v3 hF1 (by decide) hv3, (hall hw0).fr hT hF1 (by decide) hv3, by omega, fun i hi h => ?_, by rw [hm]; omega, by rw [hm]; omega, by rw [hm, e15]; omega⟩
  rw [e20] at h
  have := hkn hw i (by omega) h
  omega
theorem RI.bad {Z Zt Y Yt : St} (h : RI Z Zt) (hF : Fr YR [9, 10] Z Y) (hA : AG 1 (Z.1 0 18).toInt Y Yt) (hw : ¬ (Y.1 0 9).toInt = 0) : RI Y Yt := by
  obtain ⟨hx, hn, hT, h3, hfl, -, hall⟩ := h
  have b1 : (Y.1 0 1).toInt = (Z.1 0 1).toInt := congrArg Int32.toInt (hF.1 0 1 (show (1 : Nat) ∉ [9, 10] from by decide))
  have b5 : (Y.1 0 5).toInt = (Z.1 0 5).toInt := congrArg Int32.toInt (hF.1 0 5 (show (5 : Nat) ∉ [9, 10] from by decide))
  have b6 : (Y.1 0 6).toInt = (Z.1 0 6).toInt := congrArg Int32.toInt (hF.1 0 6 (show (6 : Nat) ∉ [9, 10] from by decide))
  have b7 : (Y.1 0 7).toInt = (Z.1 0 7).toInt := congrArg Int32.toInt (hF.1 0 7 (show (7 : Nat) ∉ [9, 10] from by decide))
  have b13 : (Y.1 0 13).toInt = (Z.1 0 13).toInt := congrArg Int32.toInt (hF.1 0 13 (show (13 : Nat) ∉ [9, 10] from by decide))
  have b15 : (Y.1 0 15).toInt = (Z.1 0 15).toInt := congrArg Int32.toInt (hF.1 0 15 (show (15 : Nat) ∉ [9, 10] from by decide))
  have b18 : (Y.1 0 18).toInt = (Z.1 0 18).toInt := congrArg Int32.toInt (hF.1 0 18 (show (18 : Nat) ∉ [9, 10] from by decide))
  have b19 : (Y.1 0 19).toInt = (Z.1 0 19).toInt := congrArg Int32.toInt (hF.1 0 19 (show (19 : Nat) ∉ [9, 10] from by decide))
  exact ⟨by omega, ⟨(by omega), (by omega), (by omega), (by omega), (by omega), (by omega), (by omega), (by omega), (fun hq116 => ⟨(by omega), (by omega)⟩)⟩, hT.fr hF (by decide), h3.kx (KX.fr hF (by decide)), fun q => absurd q hw, by rw [show (Y.1 0 18).toInt = (Z.1 0 18).toInt from by omega]; exact hA, fun q => absurd q hw⟩
