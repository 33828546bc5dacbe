/-! starts() -/
theorem starts_loop {X0 : St} {a1 : Int32} {Q : Int32 → St → Prop} (K : ∀ V, Fr YR [16000] X0 V → ok (bnd (f_calls a1 (-1 : Int32) (0 : Int32) V) fun _ X15 => chk (inR a1 41) (letV (X15.1 44 (ix a1)) fun x16 => f_starts_106 BIG x16 X15)) Q) : ∀ (d i : Nat) (Z : St) (a2 : Int32) (N : Nat), i + d = 1681 → d < N → a2.toInt = (i : Int) → Fr YR [16000] X0 Z → ok (f_starts_72 N a1 a2 Z) Q := by
  intro d
  induction d with
  | zero =>
    intro i Z a2 N hi hN ha hF
    obtain ⟨N, rfl⟩ : ∃ k, N = k + 1 := ⟨N - 1, by omega⟩
    show ok (f_starts_72_s (f_starts_72 N) a1 a2 Z) _
    unfold f_starts_72_s
    exact ok.ite (fun _ => K Z hF) (fun c => absurd (show 1681 ≤ a2.toInt by omega) c)
  | succ d ih =>
    intro i Z a2 N hi hN ha hF
    obtain ⟨N, rfl⟩ : ∃ k, N = k + 1 := ⟨N - 1, by omega⟩
    show ok (f_starts_72_s (f_starts_72 N) a1 a2 Z) _
    unfold f_starts_72_s
    refine ok.ite (fun c => absurd c (by omega)) (fun _ => ok.ck (show 0 ≤ a2.toInt ∧ a2.toInt < ((1681 : Nat) : Int) by omega) (ok.letV (ok.inc (by decide) (by omega) (fun x hx => ?_))))
    exact ih (i + 1) _ x N (by omega) (by omega) (by omega) (hF.wI 80 _ _ (show (16000 : Nat) ∈ [16000] from by decide))
set_option maxHeartbeats 4000000 in
theorem r_starts {u : Bool} {X : St} {po : Nat → Nat} {PTs : Nat → Nat → Ty} {p1 : Int32} (hT : KT X) (h3 : K3 X) (hB : PBD X) (hR : RUNC u X po PTs) (h39 : 0 ≤ (X.1 0 39).toInt ∧ (X.1 0 39).toInt ≤ 20000) (h28 : (X.1 0 28).toInt ≤ 12000) (h42 : u = true ↔ (X.1 0 42).toInt = 0) (hm : 0 ≤ p1.toInt ∧ p1.toInt < (X.1 0 18).toInt) (hm0 : (X.1 15 (ix p1)).toInt ≤ 0) : ok (f_starts p1 X) (fun _ Y => PER [13, 15, 31, 32, 33, 34, 35, 36, 37, 38, 40, 41, 43, 44, 45, 46, 800, 1000, 1200, 1400, 1600, 1800, 2000, 12000, 12200, 12400, 12600, 12800, 13000, 13200, 13400, 13600, 13800, 14000, 14200, 14400, 14600, 14800, 15000, 15200, 15400, 15600, 15800, 16000, 16200] X Y ∧ (0 ≤ (Y.1 0 46).toInt ∧ (Y.1 0 46).toInt ≤ 200) ∧ (0 < (Y.1 0 43).toInt ∨ ((Y.1 0 43).toInt = 0 ∧ FINAL u Y))) := by
  have ep := ixc hm.1
  obtain ⟨k1, k2, k3, k4, k5, k6, k7, k8, k9⟩ := hR.2 (ix p1) (by omega)
  have h18 := hR.1
  unfold f_starts
  refine ok.letV (ok.letV (ok.letV (ok.letV (ok.letV (ok.letV (ok.letV (ok.letV (ok.letV (ok.letV (ok.letV (ok.letV (ok.letV (ok.letV ?_)))))))))))))
  have hF : Fr YR [31, 32, 33, 34, 35, 36, 37, 38, 40, 41, 43, 44, 45, 46] X (wI (wI (wI (wI (wI (wI (wI (wI (wI (wI (wI (wI (wI (wI X 0 41 1) 0 31 0) 0 32 0) 0 33 0) 0 34 0) 0 35 0) 0 36 0) 0 37 0) 0 38 0) 0 40 0) 0 43 (-1)) 0 44 (-1)) 0 45 (-1)) 0 46 0) := ((((((((((((((Fr.rf.wI 0 41 _ (show (41 : Nat) ∈ [31, 32, 33, 34, 35, 36, 37, 38, 40, 41, 43, 44, 45, 46] from by decide)).wI 0 31 _ (show (31 : Nat) ∈ [31, 32, 33, 34, 35, 36, 37, 38, 40, 41, 43, 44, 45, 46] from by decide)).wI 0 32 _ (show (32 : Nat) ∈ [31, 32, 33, 34, 35, 36, 37, 38, 40, 41, 43, 44, 45, 46] from by decide)).wI 0 33 _ (show (33 : Nat) ∈ [31, 32, 33, 34, 35, 36, 37, 38, 40, 41, 43, 44, 45, 46] from by decide)).wI 0 34 _ (show (34 : Nat) ∈ [31, 32, 33, 34, 35, 36, 37, 38, 40, 41, 43, 44, 45, 46] from by decide)).wI 0 35 _ (show (35 : Nat) ∈ [31, 32, 33, 34, 35, 36, 37, 38, 40, 41, 43, 44, 45, 46] from by decide)).wI 0 36 _ (show (36 : Nat) ∈ [31, 32, 33, 34, 35, 36, 37, 38, 40, 41, 43, 44, 45, 46] from by decide)).wI 0 37 _ (show (37 : Nat) ∈ [31, 32, 33, 34, 35, 36, 37, 38, 40, 41, 43, 44, 45, 46] from by decide)).wI 0 38 _ (show (38 : Nat) ∈ [31, 32, 33, 34, 35, 36, 37, 38, 40, 41, 43, 44, 45, 46] from by decide)).wI 0 40 _ (show (40 : Nat) ∈ [31, 32, 33, 34, 35, 36, 37, 38, 40, 41, 43, 44, 45, 46] from by decide)).wI 0 43 _ (show (43 : Nat) ∈ [31, 32, 33, 34, 35, 36, 37, 38, 40, 41, 43, 44, 45, 46] from by decide)).wI 0 44 _ (show (44 : Nat) ∈ [31, 32, 33, 34, 35, 36, 37, 38, 40, 41, 43, 44, 45, 46] from by decide)).wI 0 45 _ (show (45 : Nat) ∈ [31, 32, 33, 34, 35, 36, 37, 38, 40, 41, 43, 44, 45, 46] from by decide)).wI 0 46 _ (show (46 : Nat) ∈ [31, 32, 33, 34, 35, 36, 37, 38, 40, 41, 43, 44, 45, 46] from by decide))
  have g31 : (wI (wI (wI (wI (wI (wI (wI (wI (wI (wI (wI (wI (wI (wI X 0 41 1) 0 31 0) 0 32 0) 0 33 0) 0 34 0) 0 35 0) 0 36 0) 0 37 0) 0 38 0) 0 40 0) 0 43 (-1)) 0 44 (-1)) 0 45 (-1)) 0 46 0).1 0 31 = 0 := by rw [wI_ne _ 0 _ _ 0 _ (by rintro ⟨-, a_⟩; exact absurd a_ (by decide)), wI_ne _ 0 _ _ 0 _ (by rintro ⟨-, a_⟩; exact absurd a_ (by decide)), wI_ne _ 0 _ _ 0 _ (by rintro ⟨-, a_⟩; exact absurd a_ (by decide)), wI_ne _ 0 _ _ 0 _ (by rintro ⟨-, a_⟩; exact absurd a_ (by decide)), wI_ne _ 0 _ _ 0 _ (by rintro ⟨-, a_⟩; exact absurd a_ (by decide)), wI_ne _ 0 _ _ 0 _ (by rintro ⟨-, a_⟩; exact absurd a_ (by decide)), wI_ne _ 0 _ _ 0 _ (by rintro ⟨-, a_⟩; exact absurd a_ (by decide)), wI_ne _ 0 _ _ 0 _ (by rintro ⟨-, a_⟩; exact absurd a_ (by decide)), wI_ne _ 0 _ _ 0 _ (by rintro ⟨-, a_⟩; exact absurd a_ (by decide)), wI_ne _ 0 _ _ 0 _ (by rintro ⟨-, a_⟩; exact absurd a_ (by decide)), wI_ne _ 0 _ _ 0 _ (by rintro ⟨-, a_⟩; exact absurd a_ (by decide)), wI_ne _ 0 _ _ 0 _ (by rintro ⟨-, a_⟩; exact absurd a_ (by decide)), wI_at]
  have g33 : (wI (wI (wI (wI (wI (wI (wI (wI (wI (wI (wI (wI (wI (wI X 0 41 1) 0 31 0) 0 32 0) 0 33 0) 0 34 0) 0 35 0) 0 36 0) 0 37 0) 0 38 0) 0 40 0) 0 43 (-1)) 0 44 (-1)) 0 45 (-1)) 0 46 0).1 0 33 = 0 := by rw [wI_ne _ 0 _ _ 0 _ (by rintro ⟨-, a_⟩; exact absurd a_ (by decide)), wI_ne _ 0 _ _ 0 _ (by rintro ⟨-, a_⟩; exact absurd a_ (by decide)), wI_ne _ 0 _ _ 0 _ (by rintro ⟨-, a_⟩; exact absurd a_ (by decide)), wI_ne _ 0 _ _ 0 _ (by rintro ⟨-, a_⟩; exact absurd a_ (by decide)), wI_ne _ 0 _ _ 0 _ (by rintro ⟨-, a_⟩; exact absurd a_ (by decide)), wI_ne _ 0 _ _ 0 _ (by rintro ⟨-, a_⟩; exact absurd a_ (by decide)), wI_ne _ 0 _ _ 0 _ (by rintro ⟨-, a_⟩; exact absurd a_ (by decide)), wI_ne _ 0 _ _ 0 _ (by rintro ⟨-, a_⟩; exact absurd a_ (by decide)), wI_ne _ 0 _ _ 0 _ (by rintro ⟨-, a_⟩; exact absurd a_ (by decide)), wI_ne _ 0 _ _ 0 _ (by rintro ⟨-, a_⟩; exact absurd a_ (by decide)), wI_at]
  have g34 : (wI (wI (wI (wI (wI (wI (wI (wI (wI (wI (wI (wI (wI (wI X 0 41 1) 0 31 0) 0 32 0) 0 33 0) 0 34 0) 0 35 0) 0 36 0) 0 37 0) 0 38 0) 0 40 0) 0 43 (-1)) 0 44 (-1)) 0 45 (-1)) 0 46 0).1 0 34 = 0 := by rw [wI_ne _ 0 _ _ 0 _ (by rintro ⟨-, a_⟩; exact absurd a_ (by decide)), wI_ne _ 0 _ _ 0 _ (by rintro ⟨-, a_⟩; exact absurd a_ (by decide)), wI_ne _ 0 _ _ 0 _ (by rintro ⟨-, a_⟩; exact absurd a_ (by decide)), wI_ne _ 0 _ _ 0 _ (by rintro ⟨-, a_⟩; exact absurd a_ (by decide)), wI_ne _ 0 _ _ 0 _ (by rintro ⟨-, a_⟩; exact absurd a_ (by decide)), wI_ne _ 0 _ _ 0 _ (by rintro ⟨-, a_⟩; exact absurd a_ (by decide)), wI_ne _ 0 _ _ 0 _ (by rintro ⟨-, a_⟩; exact absurd a_ (by decide)), wI_ne _ 0 _ _ 0 _ (by rintro ⟨-, a_⟩; exact absurd a_ (by decide)), wI_ne _ 0 _ _ 0 _ (by rintro ⟨-, a_⟩; exact absurd a_ (by decide)), wI_at]
  have g37 : (wI (wI (wI (wI (wI (wI (wI (wI (wI (wI (wI (wI (wI (wI X 0 41 1) 0 31 0) 0 32 0) 0 33 0) 0 34 0) 0 35 0) 0 36 0) 0 37 0) 0 38 0) 0 40 0) 0 43 (-1)) 0 44 (-1)) 0 45 (-1)) 0 46 0).1 0 37 = 0 := by rw [wI_ne _ 0 _ _ 0 _ (by rintro ⟨-, a_⟩; exact absurd a_ (by decide)), wI_ne _ 0 _ _ 0 _ (by rintro ⟨-, a_⟩; exact absurd a_ (by decide)), wI_ne _ 0 _ _ 0 _ (by rintro ⟨-, a_⟩; exact absurd a_ (by decide)), wI_ne _ 0 _ _ 0 _ (by rintro ⟨-, a_⟩; exact absurd a_ (by decide)), wI_ne _ 0 _ _ 0 _ (by rintro ⟨-, a_⟩; exact absurd a_ (by decide)), wI_ne _ 0 _ _ 0 _ (by rintro ⟨-, a_⟩; exact absurd a_ (by decide)), wI_at]
  have g38 : (wI (wI (wI (wI (wI (wI (wI (wI (wI (wI (wI (wI (wI (wI X 0 41 1) 0 31 0) 0 32 0) 0 33 0) 0 34 0) 0 35 0) 0 36 0) 0 37 0) 0 38 0) 0 40 0) 0 43 (-1)) 0 44 (-1)) 0 45 (-1)) 0 46 0).1 0 38 = 0 := by rw [wI_ne _ 0 _ _ 0 _ (by rintro ⟨-, a_⟩; exact absurd a_ (by decide)), wI_ne _ 0 _ _ 0 _ (by rintro ⟨-, a_⟩; exact absurd a_ (by decide)), wI_ne _ 0 _ _ 0 _ (by rintro ⟨-, a_⟩; exact absurd a_ (by decide)), wI_ne _ 0 _ _ 0 _ (by rintro ⟨-, a_⟩; exact absurd a_ (by decide)), wI_ne _ 0 _ _ 0 _ (by rintro ⟨-, a_⟩; exact absurd a_ (by decide)), wI_at]
  have g40 : (wI (wI (wI (wI (wI (wI (wI (wI (wI (wI (wI (wI (wI (wI X 0 41 1) 0 31 0) 0 32 0) 0 33 0) 0 34 0) 0 35 0) 0 36 0) 0 37 0) 0 38 0) 0 40 0) 0 43 (-1)) 0 44 (-1)) 0 45 (-1)) 0 46 0).1 0 40 = 0 := by rw [wI_ne _ 0 _ _ 0 _ (by rintro ⟨-, a_⟩; exact absurd a_ (by decide)), wI_ne _ 0 _ _ 0 _ (by rintro ⟨-, a_⟩; exact absurd a_ (by decide)), wI_ne _ 0 _ _ 0 _ (by rintro ⟨-, a_⟩; exact absurd a_ (by decide)), wI_ne _ 0 _ _ 0 _ (by rintro ⟨-, a_⟩; exact absurd a_ (by decide)), wI_at]
  have g43 : (wI (wI (wI (wI (wI (wI (wI (wI (wI (wI (wI (wI (wI (wI X 0 41 1) 0 31 0) 0 32 0) 0 33 0) 0 34 0) 0 35 0) 0 36 0) 0 37 0) 0 38 0) 0 40 0) 0 43 (-1)) 0 44 (-1)) 0 45 (-1)) 0 46 0).1 0 43 = (-1) := by rw [wI_ne _ 0 _ _ 0 _ (by rintro ⟨-, a_⟩; exact absurd a_ (by decide)), wI_ne _ 0 _ _ 0 _ (by rintro ⟨-, a_⟩; exact absurd a_ (by decide)), wI_ne _ 0 _ _ 0 _ (by rintro ⟨-, a_⟩; exact absurd a_ (by decide)), wI_at]
  have g46 : (wI (wI (wI (wI (wI (wI (wI (wI (wI (wI (wI (wI (wI (wI X 0 41 1) 0 31 0) 0 32 0) 0 33 0) 0 34 0) 0 35 0) 0 36 0) 0 37 0) 0 38 0) 0 40 0) 0 43 (-1)) 0 44 (-1)) 0 45 (-1)) 0 46 0).1 0 46 = 0 := by rw [wI_at]
  obtain ⟨W, hW⟩ : ∃ W : St, wI (wI (wI (wI (wI (wI (wI (wI (wI (wI (wI (wI (wI (wI X 0 41 1) 0 31 0) 0 32 0) 0 33 0) 0 34 0) 0 35 0) 0 36 0) 0 37 0) 0 38 0) 0 40 0) 0 43 (-1)) 0 44 (-1)) 0 45 (-1)) 0 46 0 = W := ⟨_, rfl⟩
  rw [hW] at hF g31 g33 g34 g37 g38 g40 g43 g46 ⊢
  refine starts_loop (X0 := W) (a1 := p1) (fun V hV => ?_) 1681 0 W 0 BIG rfl (ltBIG (by decide)) rfl Fr.rf
  have hXV : Fr YR [31, 32, 33, 34, 35, 36, 37, 38, 40, 41, 43, 44, 45, 46, 16000] X V := (hF.mono (by decide)).tr hV (by decide)
  have v15 : V.1 15 (ix p1) = X.1 15 (ix p1) := hXV.1 15 _ (show (3000 : Nat) ∉ [31, 32, 33, 34, 35, 36, 37, 38, 40, 41, 43, 44, 45, 46, 16000] from by decide)
  have v43 : V.1 0 43 = -1 := (hV.1 0 43 (by decide)).trans g43
  have n43 : ¬ (V.1 0 43).toInt = 0 := by rw [v43]; decide
  have hPV : PER [31, 32, 33, 34, 35, 36, 37, 38, 40, 41, 43, 44, 45, 46, 16000] X V := PER.fr hT hXV (by decide)
  refine ok.bd ((r_calls (X := V) (p1 := p1) (p2 := -1) (p3 := 0) (b := 0) (c := 0) (tp0 := 0) (m := 0) (by omega) (by rw [v15]; omega) (by decide) (by rw [hV.1 0 38 (by decide), g38]; rfl) (by decide) (by rw [hV.1 0 37 (by decide), g37]; rfl) (by decide) (by rw [hV.1 0 31 (by decide), g31]; rfl) (by decide)).nz (z_calls n43)) ?_
  rintro r Y ⟨hY, hnz⟩
  have hbp : 0 ≤ p1.toInt ∧ p1.toInt < ((41 : Nat) : Int) := by omega
  obtain ⟨N, hN⟩ : ∃ N, BIG = N + 1 := ⟨BIG - 1, by decide⟩
  rcases hY with ⟨hFY, hoff⟩ | ⟨hFY, d1, d2, d3, d4, d5, ⟨d6, d7, d8⟩, d9, d10, d11⟩
  · have hPY : PER [13, 15, 31, 32, 33, 34, 35, 36, 37, 38, 40, 41, 43, 44, 45, 46, 800, 1000, 1200, 1400, 1600, 1800, 2000, 12000, 12200, 12400, 12600, 12800, 13000, 13200, 13400, 13600, 13800, 14000, 14200, 14400, 14600, 14800, 15000, 15200, 15400, 15600, 15800, 16000, 16200] X Y := (hPV.mono (by decide)).tr (PER.fr hPV.2.1 hFY (by decide)) (by decide)
    have y46 : (Y.1 0 46).toInt = 0 := by
      rw [hFY.1 0 46 (by decide), hV.1 0 46 (by decide), g46]
      rfl
    refine ok.ck hbp (ok.letV ?_)
    rw [hN]
    refine (loop_off (u := u) hPY.2.1 (by omega) (Or.inl (by omega))).mono ?_
    rintro r2 Z ⟨z1, z2, z3⟩
    exact ⟨hPY.tr z1 (by decide), z2, z3⟩
  · have hFX : Fr YR [31, 32, 33, 34, 35, 36, 37, 38, 40, 41, 43, 44, 45, 46, 12400, 12600, 15200, 15400, 15600, 16000] X Y := (hXV.mono (by decide)).tr hFY (by decide)
    have hKY : KX X Y := KX.fr hFX (by decide)
    have hPX : PER [31, 32, 33, 34, 35, 36, 37, 38, 40, 41, 43, 44, 45, 46, 12400, 12600, 15200, 15400, 15600, 16000] X Y := PER.fr hT hFX (by decide)
    have hJ : JW X Y (fun _ => False) := JW.fr hFX hKY (by decide) _
    have hRY : RUNC u Y po PTs := hR.jw hT hJ (fun p => hFX.1 44 p (show (8800 : Nat) ∉ [31, 32, 33, 34, 35, 36, 37, 38, 40, 41, 43, 44, 45, 46, 12400, 12600, 15200, 15400, 15600, 16000] from by decide))
    have y18 : Y.1 0 18 = X.1 0 18 := hFX.1 0 18 (by decide)
    have y39 : Y.1 0 39 = X.1 0 39 := hFX.1 0 39 (by decide)
    have y28 : Y.1 0 28 = X.1 0 28 := hFX.1 0 28 (by decide)
    have y42 : Y.1 0 42 = X.1 0 42 := hFX.1 0 42 (by decide)
    have y15 : Y.1 15 (ix p1) = X.1 15 (ix p1) := hFX.1 15 _ (show (3000 : Nat) ∉ [31, 32, 33, 34, 35, 36, 37, 38, 40, 41, 43, 44, 45, 46, 12400, 12600, 15200, 15400, 15600, 16000] from by decide)
    have y44 : Y.1 44 (ix p1) = X.1 44 (ix p1) := hFX.1 44 _ (show (8800 : Nat) ∉ [31, 32, 33, 34, 35, 36, 37, 38, 40, 41, 43, 44, 45, 46, 12400, 12600, 15200, 15400, 15600, 16000] from by decide)
    have y33 : (Y.1 0 33).toInt = 0 := by
      rw [hFY.1 0 33 (by decide), hV.1 0 33 (by decide), g33]
      rfl
    have y34 : (Y.1 0 34).toInt = 0 := by
      rw [hFY.1 0 34 (by decide), hV.1 0 34 (by decide), g34]
      rfl
    have y40 : (Y.1 0 40).toInt = 0 := by
      rw [hFY.1 0 40 (by decide), hV.1 0 40 (by decide), g40]
      rfl
    have y43 : (Y.1 0 43).toInt = -1 := by
      rw [hFY.1 0 43 (by decide), v43]
      rfl
    have y46 : (Y.1 0 46).toInt = 0 := by
      rw [hFY.1 0 46 (by decide), hV.1 0 46 (by decide), g46]
      rfl
    obtain ⟨j1, j2, j3, j4, j5, j6, j7, j8, j9⟩ := hRY.2 (ix p1) (by rw [y18]; omega)
    have n0 : ix (Y.1 15 (ix p1)) = 0 := ixn (by rw [y15]; omega)
    have hRS : RST u Y (fun _ => 0) po PTs (ix p1) (po (ix p1)) 0 1 0 := by
      refine ⟨?_, ⟨by rw [y18]; omega, Nat.le_refl _, by omega⟩, ⟨by omega, by omega⟩, ⟨by omega, by omega⟩, ⟨rfl, rfl, by rw [d6]; decide, by rw [d7]; decide⟩, ?_, fun z => ?_⟩
      · rw [j4]
        refine ⟨⟨⟨⟨by omega, by omega, by omega, by omega⟩, fun t ht => by omega⟩, hPX.2.1, h3.kx hKY, hB.pot hPX.2.2.2⟩, ⟨by rw [y18]; exact h18.2, by omega, by rw [y42]; exact h42⟩, ⟨fun j hj => absurd hj (Nat.not_lt_zero _), fun j hj => ?_⟩, ⟨d5, by show 0 + 0 ≤ 20000; omega, d4, by omega, by show ix (Y.1 15 (ix p1)) ≤ 44; omega⟩, by omega⟩
        have hj : j < ix (Y.1 15 (ix p1)) := hj
        omega
      · rw [j4]
        show ((0 + 0 : Nat) : Int) ≤ _
        omega
      · unfold LFP at z
        omega
    have hG : GLB u Y po PTs := ⟨hRY, by rw [y39]; omega, by rw [y28]; exact h28⟩
    refine ok.ck hbp (ok.letV ?_)
    refine (run_loop (u := u) 960044001 Y (fun _ => 0) (ix p1) (po (ix p1)) 0 1 0 BIG (Y.1 44 (ix p1)) (by rw [y44]; exact k2.1) ?_ (by decide) hRS hG).mono ?_
    · have := @dd_le Y (po (ix p1))
      rw [dd0 j3, y40]
      omega
    · rintro r2 Z ⟨z1, z2, z3⟩
      exact ⟨(hPX.mono (by decide)).tr z1 (by decide), z2, z3⟩
/-! what told() meets -/
/-- rows and functions of a run, whatever became of the kinds -/
def TV (X : St) : Prop := ∃ R F : Nat → Prop, (X.1 0 33).toInt ≤ 1000 ∧ (∀ t, R t → (t : Int) < (X.1 0 33).toInt ∧ (wrp X t → 0 ≤ (X.1 67 t).toInt ∧ (X.1 67 t).toInt < (t : Int) ∧ R (ix (X.1 67 t)))) ∧ (∀ t, F t → (t : Int) < (X.1 0 33).toInt ∧ 0 ≤ (X.1 67 t).toInt ∧ ((X.1 67 t).toInt < 100 ∨ (100 ≤ (X.1 67 t).toInt ∧ (X.1 67 t).toInt - 100 < (t : Int) ∧ F (ix (X.1 67 t) - 100)))) ∧ ((X.1 60 0).toInt = 3 → 0 ≤ (X.1 61 0).toInt ∧ R (ix (X.1 61 0))) ∧ ((X.1 60 0).toInt = 4 → 0 ≤ (X.1 61 0).toInt ∧ (100 ≤ (X.1 61 0).toInt → F (ix (X.1 61 0) - 100)))
theorem FINAL.tv {u : Bool} {X : St} (h : FINAL u X) : TV X := by
  obtain ⟨G, k, hH, hV⟩ := h
  obtain ⟨b3, b4⟩ := hV.base
  refine ⟨fun t => (t : Int) < (X.1 0 33).toInt ∧ (wrp X t → so X (X.1 69 t) = 4), fun t => (t : Int) < (X.1 0 33).toInt ∧ wrp X t ∧ so X (X.1 69 t) = 5, hH.1.2.1, ?_, ?_, ?_, ?_⟩
  · rintro t ⟨h1, h2⟩
    refine ⟨h1, fun hw => ?_⟩
    obtain ⟨-, a1, a2, a3, a4, a5, a6, a7⟩ := (hH.2 t h1).2 hw
    rcases a7 with ⟨r1, r2, r3, r4, -⟩ | ⟨-, r2, -⟩
    · have := ixc r3.1
      exact ⟨r3.1, r4, by omega, fun q => (r3.2.2 q).2⟩
    · have := h2 hw
      omega
  · rintro t ⟨h1, hw, h2⟩
    obtain ⟨-, a1, a2, a3, a4, a5, a6, a7⟩ := (hH.2 t h1).2 hw
    rcases a7 with ⟨-, r2, -⟩ | ⟨r1, r2, r3, r4, r5, -⟩
    · omega
    · rcases r4 with q | ⟨q1, q2, q3, q4, q5⟩
      · exact ⟨h1, by omega, Or.inl q.2.1⟩
      · have := ixc (z := X.1 67 t) (by omega)
        exact ⟨h1, by omega, Or.inr ⟨q1, r5, by omega, q3, q5⟩⟩
  · intro s3
    obtain ⟨a, b, c⟩ := b3 s3
    have := ixc a
    exact ⟨a, by omega, fun q => (c q).2⟩
  · intro s4
    rcases b4 s4 with q | ⟨q1, q2, q3, q4, q5⟩
    · exact ⟨q.1, fun z => by omega⟩
    · have := ixc (z := X.1 61 0) (by omega)
      exact ⟨by omega, fun _ => ⟨by omega, q3, q5⟩⟩
theorem TV.fr {X Y : St} {L : List Nat} (h : TV X) (hF : Fr YR L X Y) (hl : 33 ∉ L ∧ 12000 ∉ L ∧ 12200 ∉ L ∧ 12800 ∉ L ∧ 13400 ∉ L) : TV Y := by
  obtain ⟨h33, h60, h61, h64, h67⟩ := hl
  obtain ⟨R, F, a, b, c, d, e⟩ := h
  have e33 : Y.1 0 33 = X.1 0 33 := hF.1 0 33 h33
  have e60 : Y.1 60 0 = X.1 60 0 := hF.1 60 0 h60
  have e61 : Y.1 61 0 = X.1 61 0 := hF.1 61 0 h61
  have e64 : ∀ t, Y.1 64 t = X.1 64 t := fun t => hF.1 64 t h64
  have e67 : ∀ t, Y.1 67 t = X.1 67 t := fun t => hF.1 67 t h67
  refine ⟨R, F, by rw [e33]; exact a, fun t ht => ?_, fun t ht => ?_, by rw [e60, e61]; exact d, by rw [e60, e61]; exact e⟩
  · unfold wrp
    rw [e33, e64, e67]
    exact b t ht
  · rw [e33, e67]
    exact c t ht
theorem tv_row {X : St} {R : Nat → Prop} (h33 : (X.1 0 33).toInt ≤ 1000) (hR : ∀ t, R t → (t : Int) < (X.1 0 33).toInt ∧ (wrp X t → 0 ≤ (X.1 67 t).toInt ∧ (X.1 67 t).toInt < (t : Int) ∧ R (ix (X.1 67 t)))) {s : Int32} (hs : s.toInt = 3) : ∀ (n N : Nat) (w : Int32), 0 ≤ w.toInt → w.toInt < (n : Int) → n < N → R (ix w) → ok (f_within_2 N s w X) (fun r Y => X = Y ∧ 0 ≤ r.toInt ∧ r.toInt < 1000) := by
  intro n
  induction n with
  | zero =>
    intro N w h0 hw
    omega
  | succ n ih =>
    intro N w h0 hw hN h
    obtain ⟨N, rfl⟩ : ∃ k, N = k + 1 := ⟨N - 1, by omega⟩
    have e := ixc h0
    obtain ⟨a, b⟩ := hR _ h
    show ok (f_within_2_s (f_within_2 N) s w X) _
    unfold f_within_2_s
    refine ok.ite (fun _ => ?_) (fun c => absurd hs c)
    refine ok.ck (show 0 ≤ w.toInt ∧ w.toInt < ((1000 : Nat) : Int) by omega) (ok.letV ?_)
    refine ok.ite (fun c => ?_) (fun c => ?_)
    · unfold f_within_16
      exact ok.ite (fun c => by omega) (fun _ => ok.ret ⟨rfl, h0, by omega⟩)
    · obtain ⟨b1, b2, b3⟩ := b c
      unfold f_within_27
      refine ok.ite (fun _ => ?_) (fun c => absurd hs c)
      unfold f_within_44
      refine ok.ck (show 0 ≤ w.toInt ∧ w.toInt < ((1000 : Nat) : Int) by omega) (ok.letV ?_)
      exact ih N _ b1 (by omega) (by omega) b3
theorem tv_fn {X : St} {F : Nat → Prop} (h33 : (X.1 0 33).toInt ≤ 1000) (hF : ∀ t, F t → (t : Int) < (X.1 0 33).toInt ∧ 0 ≤ (X.1 67 t).toInt ∧ ((X.1 67 t).toInt < 100 ∨ (100 ≤ (X.1 67 t).toInt ∧ (X.1 67 t).toInt - 100 < (t : Int) ∧ F (ix (X.1 67 t) - 100)))) {s : Int32} (hs : s.toInt = 4) : ∀ (n N : Nat) (w : Int32), 0 ≤ w.toInt → w.toInt < (n : Int) + 100 → n < N → (100 ≤ w.toInt → F (ix w - 100)) → ok (f_within_2 N s w X) (fun _ Y => X = Y) := by
  have z1 : (100 : Int32).toInt = 100 := rfl
  intro n
  induction n with
  | zero =>
    intro N w h0 hw hN h
    obtain ⟨N, rfl⟩ : ∃ k, N = k + 1 := ⟨N - 1, by omega⟩
    show ok (f_within_2_s (f_within_2 N) s w X) _
    unfold f_within_2_s
    refine ok.ite (fun c => by omega) (fun _ => ?_)
    unfold f_within_16
    exact ok.ite (fun _ => ok.ite (fun c => ok.ret rfl) (fun c => by omega)) (fun c => absurd hs c)
  | succ n ih =>
    intro N w h0 hw hN h
    obtain ⟨N, rfl⟩ : ∃ k, N = k + 1 := ⟨N - 1, by omega⟩
    show ok (f_within_2_s (f_within_2 N) s w X) _
    unfold f_within_2_s
    refine ok.ite (fun c => by omega) (fun _ => ?_)
    unfold f_within_16
    refine ok.ite (fun _ => ?_) (fun c => absurd hs c)
    refine ok.ite (fun c => ok.ret rfl) (fun c => ?_)
    have e := ixc h0
    obtain ⟨a, b, d⟩ := hF _ (h (by omega))
    unfold f_within_27
    refine ok.ite (fun c => by omega) (fun _ => ?_)
    refine ok.sub (by rw [z1]; omega) (fun x hx => ?_)
    rw [z1] at hx
    have ex := ixc (z := x) (by omega)
    unfold f_within_44
    refine ok.ck (show 0 ≤ x.toInt ∧ x.toInt < ((1000 : Nat) : Int) by omega) (ok.letE (v1 := X.1 67 (ix w - 100)) (by rw [show ix x = ix w - 100 by omega]) ?_)
    refine ih N _ b (by omega) (by omega) (fun z => ?_)
    rcases d with d | ⟨d1, d2, d3⟩
    · omega
    · exact d3
/-- told() answers, and nothing changes -/
theorem r_told {X : St} {p1 : Int32} (h : ¬ (X.1 0 41).toInt = 0 → (X.1 0 43).toInt = 0 → TV X) : ok (f_told p1 X) (fun _ Y => X = Y) := by
  have z3 : (3 : Int32).toInt = 3 := rfl
  have z4 : (4 : Int32).toInt = 4 := rfl
  have zm : (-1 : Int32).toInt = -1 := rfl
  have z100 : (100 : Int32).toInt = 100 := rfl
  have i0 : ix (0 : Int32) = 0 := by decide
  -- the cases of what is told, with a value that may be looked into
  have key : ∀ (g s w : Int32), (s.toInt = 3 → ∃ R : Nat → Prop, (X.1 0 33).toInt ≤ 1000 ∧ (∀ t, R t → (t : Int) < (X.1 0 33).toInt ∧ (wrp X t → 0 ≤ (X.1 67 t).toInt ∧ (X.1 67 t).toInt < (t : Int) ∧ R (ix (X.1 67 t)))) ∧ 0 ≤ w.toInt ∧ R (ix w)) → (s.toInt = 4 → ∃ F : Nat → Prop, (X.1 0 33).toInt ≤ 1000 ∧ (∀ t, F t → (t : Int) < (X.1 0 33).toInt ∧ 0 ≤ (X.1 67 t).toInt ∧ ((X.1 67 t).toInt < 100 ∨ (100 ≤ (X.1 67 t).toInt ∧ (X.1 67 t).toInt - 100 < (t : Int) ∧ F (ix (X.1 67 t) - 100)))) ∧ 0 ≤ w.toInt ∧ (100 ≤ w.toInt → F (ix w - 100))) → ok (f_told_51 p1 g s w X) (fun _ Y => X = Y) := by
    intro g s w k3 k4
    unfold f_told_51
    refine ok.ite (fun _ => ok.letV (ok.ret rfl)) (fun _ => ok.ite (fun _ => ok.letV (ok.ret rfl)) (fun _ => ok.ite (fun _ => ok.letV (ok.ret rfl)) (fun _ => ok.ite (fun _ => ok.letV (ok.ret rfl)) (fun _ => ok.ite (fun _ => ok.ret rfl) (fun _ => ok.ite (fun _ => ?_) (fun _ => ok.ite (fun _ => ok.ite (fun _ => ok.ret rfl) (fun _ => ?_)) (fun _ => ok.ite (fun _ => ok.letV (ok.ret rfl)) (fun _ => ok.ite (fun _ => ok.letV (ok.ret rfl)) (fun _ => ok.ite (fun _ => ok.letV (ok.ret rfl)) (fun _ => ok.ret rfl))))))))))
    · refine ok.ite (fun c => ?_) (fun c => ok.ite (fun c4 => ?_) (fun _ => ok.ret rfl))
      · obtain ⟨R, a, b, d, e⟩ := k3 c
        have ew := ixc d
        have lt := (b _ e).1
        unfold f_within
        refine ok.bd (tv_row a b rfl 1001 BIG w d (by omega) (ltBIG (by decide)) e) ?_
        rintro r Y ⟨rfl, r1, r2⟩
        exact ok.ck (show 0 ≤ r.toInt ∧ r.toInt < ((1000 : Nat) : Int) by omega) (ok.letV (ok.ret rfl))
      · obtain ⟨F, a, b, d, e⟩ := k4 c4
        have ew := ixc d
        unfold f_within
        refine ok.bd (tv_fn a b rfl 1001 BIG w d ?_ (ltBIG (by decide)) e) ?_
        · by_cases q : 100 ≤ w.toInt
          · have := (b _ (e q)).1
            omega
          · omega
        · rintro r Y rfl
          exact ok.ret rfl
    · unfold f_deep
      refine ok.bd (R := fun _ Y => X = Y) (ok.ite (fun c => ?_) (fun c => ok.ite (fun c4 => ?_) (fun _ => ok.ret rfl))) ?_
      · obtain ⟨R, a, b, d, e⟩ := k3 c
        have ew := ixc d
        have lt := (b _ e).1
        exact ok.ck (show 0 ≤ w.toInt ∧ w.toInt < ((1000 : Nat) : Int) by omega) (ok.letV (ok.ite (fun _ => ok.ret rfl) (fun _ => ok.ck (show 0 ≤ w.toInt ∧ w.toInt < ((1000 : Nat) : Int) by omega) (ok.letV (ok.ret rfl)))))
      · obtain ⟨F, a, b, d, e⟩ := k4 c4
        have ew := ixc d
        refine ok.ite (fun _ => ok.ret rfl) (fun c5 => ?_)
        have lt := (b _ (e (by omega))).1
        refine ok.sub (by rw [z100]; omega) (fun x hx => ?_)
        rw [z100] at hx
        exact ok.ck (show 0 ≤ x.toInt ∧ x.toInt < ((1000 : Nat) : Int) by omega) (ok.letV (ok.ret rfl))
      · rintro r Y rfl
        exact ok.ret rfl
  have k0 : ∀ g w : Int32, ok (f_told_51 p1 g (-1) w X) (fun _ Y => X = Y) := fun g w => key g (-1) w (fun q => by rw [zm] at q; omega) (fun q => by rw [zm] at q; omega)
  unfold f_told
  refine ok.letV (ok.ite (fun _ => ok.ret rfl) (fun c41 => ok.letV (ok.ite (fun c43 => ?_) (fun _ => ?_))))
  · obtain ⟨R, F, a, b, c, d, e⟩ := h c41 c43
    unfold f_told_21
    refine ok.ite (fun q => absurd q (by decide)) (fun _ => ok.ck (show 0 ≤ (0 : Int32).toInt ∧ (0 : Int32).toInt < ((20400 : Nat) : Int) by decide) (ok.letE (v1 := X.1 60 0) (by rw [i0]) ?_))
    unfold f_told_36
    refine ok.ite (fun q => absurd q (by decide)) (fun _ => ok.ck (show 0 ≤ (0 : Int32).toInt ∧ (0 : Int32).toInt < ((20400 : Nat) : Int) by decide) (ok.letE (v1 := X.1 61 0) (by rw [i0]) ?_))
    exact key 1 _ _ (fun q => ⟨R, a, b, d q⟩) (fun q => ⟨F, a, c, e q⟩)
  · unfold f_told_21
    refine ok.ite (fun _ => ?_) (fun q => absurd (show (0 : Int32).toInt = 0 from rfl) q)
    unfold f_told_36
    exact ok.ite (fun _ => k0 _ _) (fun q => absurd (show (0 : Int32).toInt = 0 from rfl) q)
