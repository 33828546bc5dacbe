/-! a run from its beginning, on both sides -/
/-- the class, main entered -/
def BQ (e : Nat) (p3 a1 p4 : Int32) (Y V : St) : Prop := ((∀ j k, ¬ j = 70 → ¬ (j = 71 ∧ k ≤ 2) → ¬ j = 82 → ¬ j = 87 → V.1 j k = Y.1 j k) ∧ V.2.2 70 2 = e + 1) ∧ (V.1 70 3 = p3 ∧ V.1 70 4 = 1 ∧ V.1 70 5 = 0 ∧ V.1 70 6 = -1 ∧ V.1 70 7 = -1 ∧ V.1 70 8 = p4 ∧ V.1 70 9 = 0 ∧ V.1 70 18 = 0) ∧ ((V.1 70 15).toInt = 1 ∧ (V.1 70 11).toInt = 1 ∧ V.1 70 10 = Y.1 (e + 17) (ix a1)) ∧ (V.1 71 0 = 0 ∧ V.1 71 1 = 0 ∧ V.1 71 2 = 0) ∧ (∀ k : Nat, k < 1600 → V.1 87 k = 0) ∧ V.2.1 84 0 = VLs 4 a1
/-- the reference, where a run has ended -/
def ENDq (u : Bool) (X : St) : Prop := X.1 0 41 = 1 ∧ 0 ≤ (X.1 0 43).toInt ∧ ((X.1 0 43).toInt = 0 → FINAL u X)
section BEG2
variable {u : Bool}
variable {X Y Z V : St} {e i : Nat} {p1 p2 p3 p4 a1 a2 : Int32} {Q : Int32 → St → Prop} {ks : List (List Int)} {po W pst pen : Nat → Nat} {PTs : Nat → Nat → Ty} {nr : Int → Int} {cd : List Ins}
theorem l_begin (he : e = 2 ∨ e = 24) (h2 : Y.1 e 2 = a1) (ha : 0 ≤ a1.toInt ∧ a1.toInt < (Y.1 e 1).toInt) (h : ∀ V, BQ e p3 a1 p4 Y V → pw (g_Running_runAll_122 BIG (0 : Int32) V) Q) : pw (g_Running_runAll e 55 p3 p4 Y) Q := by
  unfold g_Running_runAll g_Heap_clear
  refine pw_eq (fun X1 e1 => pw_eq (fun X2 e2 => pw_ck (fun _ => pw_eq (fun X3 e3 => pw_eq (fun X4 e4 => pw_bd (R := fun _ Z => Z = wI (wI (wI X4 71 0 0) 71 1 0) 71 2 0) (pw_let (pw_let (pw_let (pw_ret rfl)))) (fun _ X5 e5 => pw_bd l_fill87 ?_))))))
  rintro _ X6 ⟨r6, l6, z6⟩
  refine pw_eq (fun X7 e7 => pw_eq (fun X8 e8 => pw_eq (fun X9 e9 => pw_eq (fun X10 e10 => pw_eq (fun X11 e11 => pw_eq (fun X12 e12 => pw_eq (fun X13 e13 => pw_eq (fun X14 e14 => pw_eq (fun X15 e15 => pw_ck (fun _ => ?_))))))))))
  have ie : ¬ e = 70 ∧ ¬ e = 71 ∧ ¬ e = 82 ∧ ¬ e = 87 := by omega
  have r4 : ∀ j k, ¬ (j = 70 ∧ (k = 3 ∨ k = 8)) → X4.1 j k = Y.1 j k := fun j k q => by rw [e4, wI_ne _ _ _ _ _ _ (by omega), e3, wI_ne _ _ _ _ _ _ (by omega), e2, e1]; rfl
  have r5 : ∀ j k, ¬ (j = 71 ∧ k ≤ 2) → X5.1 j k = X4.1 j k := fun j k q => by rw [e5, wI_ne _ _ _ _ _ _ (by omega), wI_ne _ _ _ _ _ _ (by omega), wI_ne _ _ _ _ _ _ (by omega)]
  have r15 : ∀ j k, ¬ (j = 70 ∧ (k = 4 ∨ k = 5 ∨ k = 6 ∨ k = 7 ∨ k = 9 ∨ k = 10 ∨ k = 11 ∨ k = 15 ∨ k = 18)) → X15.1 j k = X6.1 j k := fun j k q => by rw [e15, wI_ne _ _ _ _ _ _ (by omega), e14, wI_ne _ _ _ _ _ _ (by omega), e13, wI_ne _ _ _ _ _ _ (by omega), e12, wI_ne _ _ _ _ _ _ (by omega), e11, wI_ne _ _ _ _ _ _ (by omega), e10, wI_ne _ _ _ _ _ _ (by omega), e9, wI_ne _ _ _ _ _ _ (by omega), e8, wI_ne _ _ _ _ _ _ (by omega), e7, wI_ne _ _ _ _ _ _ (by omega)]
  have l15 : X15.2 = X4.2 := by
    rw [e15, e14, e13, e12, e11, e10, e9, e8, e7]
    exact l6.trans (by rw [e5]; rfl)
  have o15 : X15.2.2 70 2 = e + 1 := by
    rw [l15, e4, e3, e2, e1]
    show (wR (wR Y 70 2 (e + 1)) 70 0 (55 + 1)).2.2 70 2 = e + 1
    simp [_root_.Jvm.Pilot.CBlameCourtLaw_law_r8381_f30dd1.wR, uA]
  have p15 : X15.2.2 70 2 - 1 = e := by rw [o15]; rfl
  have c15 : ∀ j k, ¬ j = 70 → ¬ (j = 71 ∧ k ≤ 2) → ¬ j = 87 → X15.1 j k = Y.1 j k := fun j k q1 q2 q3 => by rw [r15 j k (by omega), r6 j k q3, r5 j k q2, r4 j k (by omega)]
  refine pw_to p15 (pw_eq (fun x17 e17 => pw_bd l_valueOf ?_))
  rintro y18 X19 ⟨e19, e18⟩
  rw [e19]
  have v17 : x17 = a1 := by rw [e17, c15 e 2 ie.1 (fun z => ie.2.1 z.1) ie.2.2.2]; exact h2
  have t15 : X15.1 70 15 = 0 := by rw [e15, wI_ne _ _ _ _ _ _ (by omega), e14, wI_ne _ _ _ _ _ _ (by omega), e13, wI_ne _ _ _ _ _ _ (by omega), e12, wI_at]
  have t11 : X15.1 70 11 = 0 := by rw [e15, wI_ne _ _ _ _ _ _ (by omega), e14, wI_ne _ _ _ _ _ _ (by omega), e13, wI_ne _ _ _ _ _ _ (by omega), e12, wI_ne _ _ _ _ _ _ (by omega), e11, wI_at]
  refine pw_bd (l_rpush (n := 0) (by rw [t15]; rfl) (by omega)) (fun _ X20 e20 => ?_)
  have r20 : ∀ j k, ¬ (j = 70 ∧ k = 15) → X20.1 j k = X15.1 j k := fun j k q => by rw [e20, wI_ne _ _ _ _ _ _ (by omega)]; rfl
  have o20 : X20.2.2 70 2 = e + 1 := by rw [e20]; exact o15
  have p20 : X20.2.2 70 2 - 1 = e := by rw [o20]; rfl
  refine pw_ck (fun _ => pw_to p20 (pw_eq (fun x22 e22 => ?_)))
  have v22 : x22 = a1 := by rw [e22, r20 e 2 (fun z => ie.1 z.1), c15 e 2 ie.1 (fun z => ie.2.1 z.1) ie.2.2.2]; exact h2
  rw [v22]
  refine pw_bd (l_entermain he o20 (by rw [r20 70 11 (by omega), t11]; rfl) (by rw [r20 e 1 (fun z => ie.1 z.1), c15 e 1 ie.1 (fun z => ie.2.1 z.1) ie.2.2.2]; exact ha)) ?_
  rintro _ V ⟨rV, lV, v11, v10⟩
  refine h V ⟨⟨fun j k q1 q2 q3 q4 => ?_, by rw [lV]; exact o20⟩, ⟨?_, ?_, ?_, ?_, ?_, ?_, ?_, ?_⟩, ⟨?_, v11, ?_⟩, ⟨?_, ?_, ?_⟩, fun k hk => ?_, ?_⟩
  · rw [rV j k (by omega) (by omega), r20 j k (by omega), c15 j k q1 q2 q4]
  · rw [rV 70 3 (by omega) (by omega), r20 70 3 (by omega), r15 70 3 (by omega), r6 70 3 (by omega), r5 70 3 (by omega), e4, wI_ne _ _ _ _ _ _ (by omega), e3, wI_at]
  · rw [rV 70 4 (by omega) (by omega), r20 70 4 (by omega), e15, wI_at]
  · rw [rV 70 5 (by omega) (by omega), r20 70 5 (by omega), e15, wI_ne _ _ _ _ _ _ (by omega), e14, wI_ne _ _ _ _ _ _ (by omega), e13, wI_ne _ _ _ _ _ _ (by omega), e12, wI_ne _ _ _ _ _ _ (by omega), e11, wI_ne _ _ _ _ _ _ (by omega), e10, wI_ne _ _ _ _ _ _ (by omega), e9, wI_ne _ _ _ _ _ _ (by omega), e8, wI_ne _ _ _ _ _ _ (by omega), e7, wI_at]
  · rw [rV 70 6 (by omega) (by omega), r20 70 6 (by omega), e15, wI_ne _ _ _ _ _ _ (by omega), e14, wI_ne _ _ _ _ _ _ (by omega), e13, wI_ne _ _ _ _ _ _ (by omega), e12, wI_ne _ _ _ _ _ _ (by omega), e11, wI_ne _ _ _ _ _ _ (by omega), e10, wI_ne _ _ _ _ _ _ (by omega), e9, wI_ne _ _ _ _ _ _ (by omega), e8, wI_at]
  · rw [rV 70 7 (by omega) (by omega), r20 70 7 (by omega), e15, wI_ne _ _ _ _ _ _ (by omega), e14, wI_ne _ _ _ _ _ _ (by omega), e13, wI_ne _ _ _ _ _ _ (by omega), e12, wI_ne _ _ _ _ _ _ (by omega), e11, wI_ne _ _ _ _ _ _ (by omega), e10, wI_ne _ _ _ _ _ _ (by omega), e9, wI_at]
  · rw [rV 70 8 (by omega) (by omega), r20 70 8 (by omega), r15 70 8 (by omega), r6 70 8 (by omega), r5 70 8 (by omega), e4, wI_at]
  · rw [rV 70 9 (by omega) (by omega), r20 70 9 (by omega), e15, wI_ne _ _ _ _ _ _ (by omega), e14, wI_ne _ _ _ _ _ _ (by omega), e13, wI_ne _ _ _ _ _ _ (by omega), e12, wI_ne _ _ _ _ _ _ (by omega), e11, wI_ne _ _ _ _ _ _ (by omega), e10, wI_at]
  · rw [rV 70 18 (by omega) (by omega), r20 70 18 (by omega), e15, wI_ne _ _ _ _ _ _ (by omega), e14, wI_ne _ _ _ _ _ _ (by omega), e13, wI_at]
  · rw [rV 70 15 (by omega) (by omega), e20, wI_at, t15]
    decide
  · rw [v10, r20 _ _ (by omega), c15 _ _ (by omega) (by omega) (by omega)]
  · rw [rV 71 0 (by omega) (by omega), r20 71 0 (by omega), r15 71 0 (by omega), r6 71 0 (by omega), e5, wI_ne _ _ _ _ _ _ (by omega), wI_ne _ _ _ _ _ _ (by omega), wI_at]
  · rw [rV 71 1 (by omega) (by omega), r20 71 1 (by omega), r15 71 1 (by omega), r6 71 1 (by omega), e5, wI_ne _ _ _ _ _ _ (by omega), wI_at]
  · rw [rV 71 2 (by omega) (by omega), r20 71 2 (by omega), r15 71 2 (by omega), r6 71 2 (by omega), e5, wI_at]
  · rw [rV 87 k (by omega) (by omega), r20 87 k (by omega), r15 87 k (by omega)]
    exact z6 k hk
  · rw [lV, e20]
    show (wL X15 84 0 y18).2.1 84 0 = _
    rw [wL_at, e18, v17]
set_option maxHeartbeats 2000000 in
theorem n_start (hS : STAT u e ks X Y po W nr cd pst pen) (hT : KT X) (h3 : K3 X) (hB : PBD X) (hR : RUNC u X po PTs) (h39 : 0 ≤ (X.1 0 39).toInt ∧ (X.1 0 39).toInt ≤ 20000) (h28 : (X.1 0 28).toInt ≤ 12000) (h42 : u = true ↔ (X.1 0 42).toInt = 0) (hp3 : u = true ↔ p3.toInt = 0) (hm : 0 ≤ a1.toInt ∧ a1.toInt < (X.1 0 18).toInt) (hm0 : (X.1 15 (ix a1)).toInt = 0) (hU : KU X) (hTK : TKS (e + 1) Y ks ∧ K9 <+: ks) (hPR : PRm e X Y) (he : e = 2 ∨ e = 24) (hy2 : Y.1 e 2 = a1) (hp4 : p4 = X.1 0 39) : pw (f_starts a1 X) (fun z X' => ENDq u X' ∧ pw (g_Running_runAll e 55 p3 p4 Y) (fun z' Y' => FNr ks z X' z' Y')) := by
  have ep := ixc hm.1
  obtain ⟨k1, k2, k3, k4, k5, k6, k7, k8, k9⟩ := hR.2 (ix a1) (by omega)
  have h18 := hR.1
  have hJ0 := hS.1.1
  unfold f_starts
  refine pw_let (pw_let (pw_let (pw_let (pw_let (pw_let (pw_let (pw_let (pw_let (pw_let (pw_let (pw_let (pw_let (pw_let ?_)))))))))))))
  obtain ⟨V0, hV0⟩ : ∃ V0 : St, V0 = wI (wI (wI (wI (wI (wI (wI (wI (wI (wI (wI (wI (wI (wI X 0 41 1) 0 31 0) 0 32 0) 0 33 0) 0 34 0) 0 35 0) 0 36 0) 0 37 0) 0 38 0) 0 40 0) 0 43 (-1)) 0 44 (-1)) 0 45 (-1)) 0 46 0 := ⟨_, rfl⟩
  rw [← hV0]
  have hF : Fr YR [31, 32, 33, 34, 35, 36, 37, 38, 40, 41, 43, 44, 45, 46] X V0 := by
    rw [hV0]
    exact ((((((((((((((Fr.rf.wI 0 41 _ (show (41 : Nat) ∈ [31, 32, 33, 34, 35, 36, 37, 38, 40, 41, 43, 44, 45, 46] from by decide)).wI 0 31 _ (show (31 : Nat) ∈ [31, 32, 33, 34, 35, 36, 37, 38, 40, 41, 43, 44, 45, 46] from by decide)).wI 0 32 _ (show (32 : Nat) ∈ [31, 32, 33, 34, 35, 36, 37, 38, 40, 41, 43, 44, 45, 46] from by decide)).wI 0 33 _ (show (33 : Nat) ∈ [31, 32, 33, 34, 35, 36, 37, 38, 40, 41, 43, 44, 45, 46] from by decide)).wI 0 34 _ (show (34 : Nat) ∈ [31, 32, 33, 34, 35, 36, 37, 38, 40, 41, 43, 44, 45, 46] from by decide)).wI 0 35 _ (show (35 : Nat) ∈ [31, 32, 33, 34, 35, 36, 37, 38, 40, 41, 43, 44, 45, 46] from by decide)).wI 0 36 _ (show (36 : Nat) ∈ [31, 32, 33, 34, 35, 36, 37, 38, 40, 41, 43, 44, 45, 46] from by decide)).wI 0 37 _ (show (37 : Nat) ∈ [31, 32, 33, 34, 35, 36, 37, 38, 40, 41, 43, 44, 45, 46] from by decide)).wI 0 38 _ (show (38 : Nat) ∈ [31, 32, 33, 34, 35, 36, 37, 38, 40, 41, 43, 44, 45, 46] from by decide)).wI 0 40 _ (show (40 : Nat) ∈ [31, 32, 33, 34, 35, 36, 37, 38, 40, 41, 43, 44, 45, 46] from by decide)).wI 0 43 _ (show (43 : Nat) ∈ [31, 32, 33, 34, 35, 36, 37, 38, 40, 41, 43, 44, 45, 46] from by decide)).wI 0 44 _ (show (44 : Nat) ∈ [31, 32, 33, 34, 35, 36, 37, 38, 40, 41, 43, 44, 45, 46] from by decide)).wI 0 45 _ (show (45 : Nat) ∈ [31, 32, 33, 34, 35, 36, 37, 38, 40, 41, 43, 44, 45, 46] from by decide)).wI 0 46 _ (show (46 : Nat) ∈ [31, 32, 33, 34, 35, 36, 37, 38, 40, 41, 43, 44, 45, 46] from by decide))
  have r0 : ∀ e k, ¬ (e = 0 ∧ 31 ≤ k ∧ k ≤ 46 ∧ ¬ k = 39 ∧ ¬ k = 42) → V0.1 e k = X.1 e k := fun e k q => by rw [hV0, wI_ne _ _ _ _ _ _ (by omega), wI_ne _ _ _ _ _ _ (by omega), wI_ne _ _ _ _ _ _ (by omega), wI_ne _ _ _ _ _ _ (by omega), wI_ne _ _ _ _ _ _ (by omega), wI_ne _ _ _ _ _ _ (by omega), wI_ne _ _ _ _ _ _ (by omega), wI_ne _ _ _ _ _ _ (by omega), wI_ne _ _ _ _ _ _ (by omega), wI_ne _ _ _ _ _ _ (by omega), wI_ne _ _ _ _ _ _ (by omega), wI_ne _ _ _ _ _ _ (by omega), wI_ne _ _ _ _ _ _ (by omega), wI_ne _ _ _ _ _ _ (by omega)]
  have g46 : V0.1 0 46 = 0 := by rw [hV0, wI_at]
  have g45 : V0.1 0 45 = (-1) := by rw [hV0, wI_ne _ _ _ _ _ _ (by omega), wI_at]
  have g44 : V0.1 0 44 = (-1) := by rw [hV0, wI_ne _ _ _ _ _ _ (by omega), wI_ne _ _ _ _ _ _ (by omega), wI_at]
  have g43 : V0.1 0 43 = (-1) := by rw [hV0, wI_ne _ _ _ _ _ _ (by omega), wI_ne _ _ _ _ _ _ (by omega), wI_ne _ _ _ _ _ _ (by omega), wI_at]
  have g41 : V0.1 0 41 = 1 := by rw [hV0, wI_ne _ _ _ _ _ _ (by omega), wI_ne _ _ _ _ _ _ (by omega), wI_ne _ _ _ _ _ _ (by omega), wI_ne _ _ _ _ _ _ (by omega), wI_ne _ _ _ _ _ _ (by omega), wI_ne _ _ _ _ _ _ (by omega), wI_ne _ _ _ _ _ _ (by omega), wI_ne _ _ _ _ _ _ (by omega), wI_ne _ _ _ _ _ _ (by omega), wI_ne _ _ _ _ _ _ (by omega), wI_ne _ _ _ _ _ _ (by omega), wI_ne _ _ _ _ _ _ (by omega), wI_ne _ _ _ _ _ _ (by omega), wI_at]
  have g40 : V0.1 0 40 = 0 := by rw [hV0, wI_ne _ _ _ _ _ _ (by omega), wI_ne _ _ _ _ _ _ (by omega), wI_ne _ _ _ _ _ _ (by omega), wI_ne _ _ _ _ _ _ (by omega), wI_at]
  have g38 : V0.1 0 38 = 0 := by rw [hV0, wI_ne _ _ _ _ _ _ (by omega), wI_ne _ _ _ _ _ _ (by omega), wI_ne _ _ _ _ _ _ (by omega), wI_ne _ _ _ _ _ _ (by omega), wI_ne _ _ _ _ _ _ (by omega), wI_at]
  have g37 : V0.1 0 37 = 0 := by rw [hV0, wI_ne _ _ _ _ _ _ (by omega), wI_ne _ _ _ _ _ _ (by omega), wI_ne _ _ _ _ _ _ (by omega), wI_ne _ _ _ _ _ _ (by omega), wI_ne _ _ _ _ _ _ (by omega), wI_ne _ _ _ _ _ _ (by omega), wI_at]
  have g36 : V0.1 0 36 = 0 := by rw [hV0, wI_ne _ _ _ _ _ _ (by omega), wI_ne _ _ _ _ _ _ (by omega), wI_ne _ _ _ _ _ _ (by omega), wI_ne _ _ _ _ _ _ (by omega), wI_ne _ _ _ _ _ _ (by omega), wI_ne _ _ _ _ _ _ (by omega), wI_ne _ _ _ _ _ _ (by omega), wI_at]
  have g35 : V0.1 0 35 = 0 := by rw [hV0, wI_ne _ _ _ _ _ _ (by omega), wI_ne _ _ _ _ _ _ (by omega), wI_ne _ _ _ _ _ _ (by omega), wI_ne _ _ _ _ _ _ (by omega), wI_ne _ _ _ _ _ _ (by omega), wI_ne _ _ _ _ _ _ (by omega), wI_ne _ _ _ _ _ _ (by omega), wI_ne _ _ _ _ _ _ (by omega), wI_at]
  have g34 : V0.1 0 34 = 0 := by rw [hV0, wI_ne _ _ _ _ _ _ (by omega), wI_ne _ _ _ _ _ _ (by omega), wI_ne _ _ _ _ _ _ (by omega), wI_ne _ _ _ _ _ _ (by omega), wI_ne _ _ _ _ _ _ (by omega), wI_ne _ _ _ _ _ _ (by omega), wI_ne _ _ _ _ _ _ (by omega), wI_ne _ _ _ _ _ _ (by omega), wI_ne _ _ _ _ _ _ (by omega), wI_at]
  have g33 : V0.1 0 33 = 0 := by rw [hV0, wI_ne _ _ _ _ _ _ (by omega), wI_ne _ _ _ _ _ _ (by omega), wI_ne _ _ _ _ _ _ (by omega), wI_ne _ _ _ _ _ _ (by omega), wI_ne _ _ _ _ _ _ (by omega), wI_ne _ _ _ _ _ _ (by omega), wI_ne _ _ _ _ _ _ (by omega), wI_ne _ _ _ _ _ _ (by omega), wI_ne _ _ _ _ _ _ (by omega), wI_ne _ _ _ _ _ _ (by omega), wI_at]
  have g32 : V0.1 0 32 = 0 := by rw [hV0, wI_ne _ _ _ _ _ _ (by omega), wI_ne _ _ _ _ _ _ (by omega), wI_ne _ _ _ _ _ _ (by omega), wI_ne _ _ _ _ _ _ (by omega), wI_ne _ _ _ _ _ _ (by omega), wI_ne _ _ _ _ _ _ (by omega), wI_ne _ _ _ _ _ _ (by omega), wI_ne _ _ _ _ _ _ (by omega), wI_ne _ _ _ _ _ _ (by omega), wI_ne _ _ _ _ _ _ (by omega), wI_ne _ _ _ _ _ _ (by omega), wI_at]
  have g31 : V0.1 0 31 = 0 := by rw [hV0, wI_ne _ _ _ _ _ _ (by omega), wI_ne _ _ _ _ _ _ (by omega), wI_ne _ _ _ _ _ _ (by omega), wI_ne _ _ _ _ _ _ (by omega), wI_ne _ _ _ _ _ _ (by omega), wI_ne _ _ _ _ _ _ (by omega), wI_ne _ _ _ _ _ _ (by omega), wI_ne _ _ _ _ _ _ (by omega), wI_ne _ _ _ _ _ _ (by omega), wI_ne _ _ _ _ _ _ (by omega), wI_ne _ _ _ _ _ _ (by omega), wI_ne _ _ _ _ _ _ (by omega), wI_at]
  refine n_72 (X := V0) (fun V hV hV80 hVF => ?_) BIG 0 0 V0 (by decide) (by omega) (fun _ _ _ => rfl) (fun k hk => absurd hk (Nat.not_lt_zero _)) Fr.rf
  have hXV : Fr YR [31, 32, 33, 34, 35, 36, 37, 38, 40, 41, 43, 44, 45, 46, 16000] X V := (hF.mono (by decide)).tr hVF (by decide)
  refine pw_bd (x_callmain (by rw [hV 0 38 (by omega), g38]; rfl) (by rw [hV 0 37 (by omega), g37]; rfl) (by rw [hV 15 _ (by omega), r0 15 _ (by omega)]; exact hm0)) ?_
  rintro _ Z ⟨hFY, rZ, z38, z37, z32, z76, z77⟩
  refine pw_ck (fun _ => pw_let ?_)
  have zr : ∀ e k, ¬ (e = 0 ∧ 31 ≤ k ∧ k ≤ 46 ∧ ¬ k = 39 ∧ ¬ k = 42) → ¬ (76 ≤ e ∧ e ≤ 78) → ¬ e = 80 → Z.1 e k = X.1 e k := fun e k q1 q2 q3 => by rw [rZ e k (by omega) q2, hV e k q3, r0 e k q1]
  have zv : ∀ k, ¬ (k = 32 ∨ k = 37 ∨ k = 38) → Z.1 0 k = V0.1 0 k := fun k q => by rw [rZ 0 k (by omega) (by omega), hV 0 k (by omega)]
  have hFX : Fr YR [31, 32, 33, 34, 35, 36, 37, 38, 40, 41, 43, 44, 45, 46, 12400, 12600, 15200, 15400, 15600, 16000] X Z := (hXV.mono (by decide)).tr hFY (by decide)
  have hKY : KX X Z := KX.fr hFX (by decide)
  have hPX : PER [31, 32, 33, 34, 35, 36, 37, 38, 40, 41, 43, 44, 45, 46, 12400, 12600, 15200, 15400, 15600, 16000] X Z := PER.fr hT hFX (by decide)
  have hJ : JW X Z (fun _ => False) := JW.fr hFX hKY (by decide) _
  have hRY : RUNC u Z po PTs := hR.jw hT hJ (fun p => zr 44 p (by omega) (by omega) (by omega))
  have y18 : Z.1 0 18 = X.1 0 18 := zr 0 18 (by omega) (by omega) (by omega)
  have y39 : Z.1 0 39 = X.1 0 39 := zr 0 39 (by omega) (by omega) (by omega)
  have y28 : Z.1 0 28 = X.1 0 28 := zr 0 28 (by omega) (by omega) (by omega)
  have y42 : Z.1 0 42 = X.1 0 42 := zr 0 42 (by omega) (by omega) (by omega)
  have y15 : Z.1 15 (ix a1) = X.1 15 (ix a1) := zr 15 _ (by omega) (by omega) (by omega)
  have y44 : Z.1 44 (ix a1) = X.1 44 (ix a1) := zr 44 _ (by omega) (by omega) (by omega)
  have y31 : Z.1 0 31 = 0 := (zv 31 (by omega)).trans g31
  have y33 : Z.1 0 33 = 0 := (zv 33 (by omega)).trans g33
  have y34 : Z.1 0 34 = 0 := (zv 34 (by omega)).trans g34
  have y35 : Z.1 0 35 = 0 := (zv 35 (by omega)).trans g35
  have y36 : Z.1 0 36 = 0 := (zv 36 (by omega)).trans g36
  have y40 : Z.1 0 40 = 0 := (zv 40 (by omega)).trans g40
  have y43 : Z.1 0 43 = -1 := (zv 43 (by omega)).trans g43
  have y44b : Z.1 0 44 = -1 := (zv 44 (by omega)).trans g44
  have y45 : Z.1 0 45 = -1 := (zv 45 (by omega)).trans g45
  have y46 : Z.1 0 46 = 0 := (zv 46 (by omega)).trans g46
  have t0 : (0 : Int32).toInt = 0 := by decide
  have t1 : (-1 : Int32).toInt = -1 := by decide
  obtain ⟨j1, j2, j3, j4, j5, j6, j7, j8, j9⟩ := hRY.2 (ix a1) (by rw [y18]; omega)
  have n0 : ix (Z.1 15 (ix a1)) = 0 := ixn (by rw [y15, hm0]; rfl)
  have pt1 : (PTs (ix a1) (po (ix a1))).1 = 0 := by rw [j4]; rfl
  have pt2 : (PTs (ix a1) (po (ix a1))).2.2.1 = 0 := by rw [j4]; exact n0
  have hRS : RST u Z (fun _ => 0) po PTs (ix a1) (po (ix a1)) 0 1 0 := by
    refine ⟨?_, ⟨by rw [y18]; omega, Nat.le_refl _, by omega⟩, ⟨by rw [z38]; rfl, by omega⟩, ⟨by rw [z37]; rfl, by omega⟩, ⟨rfl, rfl, by rw [z76]; decide, by rw [z77]; decide⟩, ?_, fun z => ?_⟩
    · rw [j4]
      refine ⟨⟨⟨⟨by rw [y33, t0]; omega, by rw [y33, t0]; omega, by rw [y34, t0]; omega, by rw [y34, t0]; omega⟩, fun t ht => by rw [y33, t0] at ht; omega⟩, hPX.2.1, h3.kx hKY, hB.pot hPX.2.2.2⟩, ⟨by rw [y18]; exact h18.2, by rw [y43, t1]; omega, by rw [y42]; exact h42⟩, ⟨fun j hj => absurd hj (Nat.not_lt_zero _), fun j hj => ?_⟩, ⟨by rw [y31]; rfl, by show 0 + 0 ≤ 20000; omega, by rw [z32]; rfl, by omega, by show ix (Z.1 15 (ix a1)) ≤ 44; omega⟩, by rw [y46, t0]; omega⟩
      have hj : j < ix (Z.1 15 (ix a1)) := hj
      omega
    · rw [pt1, y40, t0]
      omega
    · unfold LFP at z
      omega
  have hG : GLB u Z po PTs := ⟨hRY, by rw [y39, y40, t0]; omega, by rw [y28]; exact h28⟩
  have hp0 : ((ix a1 : Nat) : Int) < (X.1 0 18).toInt := by omega
  obtain ⟨⟨s1, s2, s3, s4, s5⟩, ⟨s6, s7, s8⟩, s9⟩ := hS.2 (ix a1) hp0
  have kj : KJq Z := hJ0.cg (fun e k q => zr e k (by omega) (by omega) (by omega))
  have kxq : KXq X Z := KXq.of (fun e k q => zr e k (by omega) (by omega) (by omega))
  have ku : KU Z := (KGq.of (fun e k q => zr e k (by omega) (by omega) (by omega))).2 hU
  have mrl : ∀ V, BQ e p3 a1 p4 Y V → MRL u e ks X Y po PTs (SY cd pst pen) (SY cd pst pen) W Z V (fun _ => 0) (fun _ => 0) (ix a1) (pst (ix a1)) (po (ix a1)) 0 1 0 0 0 := by
    rintro V ⟨⟨b1, b2⟩, ⟨b3, b4, b5, b6, b7, b8, b9, b10⟩, ⟨b11, b12, b13⟩, ⟨b14, b15, b16⟩, b17, b18⟩
    refine ⟨hRS, hG, ⟨⟨he, ⟨kj, ku⟩, ⟨hTK.1.cg (fun i k q1 q2 _ => b1 i k (by omega) (by omega) (by omega) (by omega)), hTK.2⟩, b2⟩, ⟨⟨by rw [b7, y45], by rw [b9, y40], by rw [b8, hp4, y39], by rw [b10, y46]⟩, ⟨by rw [b14, y35], by rw [b16, y36]⟩, fun i hi => by rw [y46, t0] at hi; omega, fun g t h1 h2 => ?_⟩, ⟨⟨by rw [y43, t1]; omega, by rw [y44b, t1]⟩, by rw [b4]; decide, by rw [b5]; decide, by rw [b6]; decide⟩, ⟨⟨by rw [y35, y36, y33, y34, t0]; omega, by rw [b14, y35], by rw [b15, y34], by rw [b16, y36]⟩, fun t ht => by rw [y33, t0] at ht; omega, fun c hc => by rw [y34, t0] at hc; omega⟩, ⟨by rw [y31, pt1]; rfl, by rw [b11, pt1]; rfl, by omega, fun i i1 i2 => by rw [pt1] at i2; omega⟩, fun s hs => by rw [pt2] at hs; omega⟩, ⟨⟨rfl, rfl, rfl⟩, ⟨by rw [z76]; decide, by rw [z77]; decide⟩, a1, b18⟩, ⟨by rw [b12]; rfl, by rw [b13]; exact s1, by rw [b3]; exact hp3⟩, ?_, ⟨Nat.le_refl _, s3, s2⟩, ⟨⟨fun e k h1 h2 => zr e k (by omega) (by omega) (by omega), kxq, y18⟩, fun j k hj => b1 j k (by omega) (by omega) (by omega) (by omega)⟩, by rw [s6, y40, t0]; omega⟩
    · rw [b17 _ (by omega), rZ 80 _ (by omega) (by omega)]
      exact (hV80 _ (by omega)).symm
    · obtain ⟨⟨q1, q2⟩, q3, q4⟩ := hPR
      refine ⟨by rw [y18]; exact ⟨q1, q2⟩, by rw [b1 e 1 (by omega) (by omega) (by omega) (by omega), y18]; exact q3, fun k hk => ?_⟩
      rw [y18] at hk
      rw [b1 (e + 13) k (by omega) (by omega) (by omega) (by omega), zr 15 k (by omega) (by omega) (by omega)]
      exact q4 k hk
  have ho1 : (Z.1 44 (ix a1)).toInt = ((po (ix a1) : Nat) : Int) := by rw [y44]; exact k2.1
  have all : pw (f_starts_106 BIG (Z.1 44 (ix a1)) Z) (fun z X' => ∀ V, BQ e p3 a1 p4 Y V → ∀ (M : Nat) (a5 : Int32), a5.toInt = ((0 : Nat) : Int) → pw (g_Running_runAll_122 M a5 V) (fun z' Y' => FNr ks z X' z' Y')) := pw_all (fun V => pw_im (fun q => run_all hS BIG Z V (fun _ => 0) (fun _ => 0) (ix a1) (pst (ix a1)) (po (ix a1)) 0 1 0 0 0 _ ho1 (mrl V q)))
  refine pw_mono (pw_and all (pw_ok (run_loop (u := u) 960044001 Z (fun _ => 0) (ix a1) (po (ix a1)) 0 1 0 BIG (Z.1 44 (ix a1)) ho1 ?_ (by decide) hRS hG))) (fun z X' h => ⟨⟨?_, ?_, fun z0 => ?_⟩, l_begin he hy2 (by rw [hPR.2.1]; exact hm) (fun V q => h.1 V q BIG 0 rfl)⟩)
  · have := @dd_le Z (po (ix a1))
    rw [dd0 j3, y40, t0]
    omega
  · rw [h.2.1.1.1 0 41 (by decide), zv 41 (by omega)]
    exact g41
  · rcases h.2.2.2 with q | q
    · omega
    · omega
  · rcases h.2.2.2 with q | q
    · omega
    · exact q.2
end BEG2
