/-! a part is entered, a call is made: both sides -/
/-- what entering leaves; B: where row 76 has its mark -/
def ENQ (e : Nat) (X Y : St) (r : Nat → Int32) (p1 : Int32) (c cell A m B : Nat) (Z V : St) : Prop := (OFr Z V ∧ SCr Z V ∧ (∀ e k, ¬ (e = 0 ∧ (k = 43 ∨ k = 44)) → Z.1 e k = X.1 e k) ∧ V.2 = Y.2 ∧ ∀ j k, ¬ (j = 70 ∧ 4 ≤ k ∧ k ≤ 6) → V.1 j k = Y.1 j k) ∨ ((∀ e k, ¬ (e = 0 ∧ (k = 31 ∨ k = 32 ∨ k = 37 ∨ k = 38)) → ¬ ((e = 62 ∨ e = 63) ∧ 45 * (c + 1) ≤ k ∧ k < 45 * (c + 1) + m) → ¬ (76 ≤ e ∧ e ≤ 78 ∧ k = B) → Z.1 e k = X.1 e k) ∧ ((∀ j k, ¬ (j = 70 ∧ (k = 10 ∨ k = 11 ∨ k = 15)) → ¬ (j = 82 ∧ k = c + 1) → V.1 j k = Y.1 j k) ∧ V.2.2 = Y.2.2 ∧ ∀ j k, ¬ (j = 83 ∧ 44 * (c + 1) ≤ k ∧ k < 44 * (c + 1) + m) → V.2.1 j k = Y.2.1 j k) ∧ ((V.1 70 11).toInt = (c : Int) + 2 ∧ V.1 70 10 = Y.1 (e + 17) (ix p1) ∧ (V.1 70 15).toInt = (A : Int) + 1 ∧ V.1 82 (c + 1) = Y.1 70 10 ∧ (Z.1 0 31).toInt = (cell : Int) + 1 ∧ (Z.1 0 37).toInt = (B : Int) + 1) ∧ ∀ j, j < m → VR X r (Z.1 62 (45 * (c + 1) + j)) (Z.1 63 (45 * (c + 1) + j)) (V.2.1 83 (44 * (c + 1) + j)))
section CALS
variable {X Y Z X1 Y1 V V1 Z1 Z2 : St} {r r1 r2 : Nat → Int32} {s w k a v a1 a2 a3 a4 a5 an pl am c3 c5 kc p1 p2 o1 n1 : Int32} {y y1 : Int64} {ks : List (List Int)} {e c m n i j q A B b cell D : Nat} {f : Nat → Int32} {G : Nat → Int32} {u : Bool}
theorem n_calls (he : e = 2 ∨ e = 24) (hp2 : Y.2.2 70 2 = e + 1) (hpp : 0 ≤ p1.toInt ∧ p1.toInt < (Y.1 e 1).toInt) (hp41 : p1.toInt ≤ 40) (hO : ONr X Y) (hS : SCr X Y) (h38 : (X.1 0 38).toInt = (c : Int) + 1) (hc : c ≤ 99) (h11 : (Y.1 70 11).toInt = (c : Int) + 1) (h37 : (X.1 0 37).toInt = (B : Int)) (hB : B ≤ 2200) (h15 : (X.1 15 (ix p1)).toInt = (m : Int)) (hm : m ≤ 4) (hn : an.toInt = (m : Int)) (hcell : cell + m ≤ 20000) (hA : A + m ≤ 20001) (h31 : (X.1 0 31).toInt = ((cell + 1 + m : Nat) : Int)) (h70 : (Y.1 70 15).toInt = ((A + 1 + m : Nat) : Int)) (hv : ∀ j, j < m → VR X r (X.1 60 (cell + 1 + j)) (X.1 61 (cell + 1 + j)) (Y.2.1 84 (A + 1 + j))) : pw (f_calls p1 p2 pl X) (fun _ Z => pw (g_Running_enterPart p1 an pl Y) (fun _ V => ENQ e X Y r p1 c cell A m B Z V)) := by
  have l1 : (1 : Int32).toInt = 1 := by decide
  have l45 : (45 : Int32).toInt = 45 := by decide
  have ie : ¬ e = 70 ∧ ¬ e + 17 = 70 ∧ ¬ e = 82 ∧ ¬ e + 17 = 82 := by rcases he with q | q <;> omega
  unfold f_calls
  refine pw_let ?_
  by_cases h99 : c = 99
  · refine pw_pos (by omega) (pw_bd (n_ends hO) ?_)
    rintro _ Z1 e1
    refine pw_ret ?_
    unfold g_Running_enterPart
    refine pw_let (pw_neg (by omega) (pw_bd (l_failW hO) ?_))
    rintro _ V1 e2
    have q := OFr.of (p1 := 5) (p2 := pl) hS (by decide)
    rw [← e1, ← e2] at q
    refine pw_ret (Or.inl ⟨q.1, q.2, fun e k z => ?_, by rw [e2]; rfl, fun j k z => ?_⟩)
    · rw [e1, wI_ne _ _ _ _ _ _ (by omega), wI_ne _ _ _ _ _ _ (by omega)]
    · rw [e2, wI_ne _ _ _ _ _ _ (by omega), wI_ne _ _ _ _ _ _ (by omega), wI_ne _ _ _ _ _ _ (by omega)]
  · have iB : ix (X.1 0 37) = B := ixn h37
    refine pw_neg (by omega) (pw_eq (fun x2 e2 => pw_eq (fun x3 e3 => pw_eq (fun X4 e4 => pw_eq (fun x5 e5 => pw_ck (fun _ => pw_eq (fun X6 e6 => pw_eq (fun x7 e7 => pw_ck (fun _ => pw_eq (fun X8 e8 => pw_eq (fun x9 e9 => pw_eq (fun x10 e10 => pw_ck (fun _ => pw_eq (fun X11 e11 => pw_eq (fun x12 e12 => pw_eq (fun x13 e13 => pw_eq (fun X14 e14 => pw_eq (fun x15 e15 => pw_eq (fun x16 e16 => pw_eq (fun x17 e17 => pw_eq (fun X18 e18 => pw_ck (fun _ => pw_eq (fun x19 e19 => pw_eq (fun x20 e20 => ?_))))))))))))))))))))))))
    have v3 : x3.toInt = (c : Int) + 2 := by rw [e3, e2, ti_add (by rw [h38, l1]; omega) (by rw [h38, l1]; omega), h38, l1]; omega
    have f5 : x5 = X.1 0 37 := by rw [e5, e4, wI_ne _ _ _ _ _ _ (by omega)]
    have f7 : x7 = X.1 0 37 := by rw [e7, e6, wI_ne _ _ _ _ _ _ (by omega), ← e5, f5]
    have f9 : x9 = X.1 0 37 := by rw [e9, e8, wI_ne _ _ _ _ _ _ (by omega), ← e7, f7]
    rw [f5, iB] at e6
    rw [f7, iB] at e8
    rw [f9, iB] at e11
    have r4 : ∀ e k, ¬ (e = 0 ∧ k = 38) → X4.1 e k = X.1 e k := fun e k z => by rw [e4, wI_ne _ _ _ _ _ _ z]
    have r11 : ∀ e k, ¬ (e = 0 ∧ k = 38) → ¬ (76 ≤ e ∧ e ≤ 78 ∧ k = B) → X11.1 e k = X.1 e k := fun e k z z2 => by rw [e11, wI_ne _ _ _ _ _ _ (by omega), e8, wI_ne _ _ _ _ _ _ (by omega), e6, wI_ne _ _ _ _ _ _ (by omega), r4 e k z]
    have s38 : X11.1 0 38 = x3 := by rw [e11, wI_ne _ _ _ _ _ _ (by omega), e8, wI_ne _ _ _ _ _ _ (by omega), e6, wI_ne _ _ _ _ _ _ (by omega), e4, wI_at]
    have s15 : x15 = x3 := by rw [e15, e14, wI_ne _ _ _ _ _ _ (by omega), s38]
    have v16 : x16.toInt = (c : Int) + 1 := by rw [e16, s15, ti_sub (by rw [v3, l1]; omega) (by rw [v3, l1]; omega), v3, l1]; omega
    have v17 : x17.toInt = 45 * ((c : Int) + 1) := by rw [e17, ti_mul (by rw [v16, l45]; omega) (by rw [v16, l45]; omega), v16, l45]
    have r18 : ∀ e k, ¬ (e = 0 ∧ (k = 32 ∨ k = 37 ∨ k = 38)) → ¬ (76 ≤ e ∧ e ≤ 78 ∧ k = B) → X18.1 e k = X.1 e k := fun e k z z2 => by rw [e18, wI_ne _ _ _ _ _ _ (by omega), e14, wI_ne _ _ _ _ _ _ (by omega), r11 e k (by omega) z2]
    have s32 : (X18.1 0 32).toInt = 45 * ((c : Int) + 1) := by rw [e18, wI_at]; exact v17
    have v19 : x19.toInt = (m : Int) := by rw [e19, r18 15 _ (by omega) (by omega)]; exact h15
    have v20 : x20.toInt = (m : Int) - 1 := by rw [e20, ti_sub (by rw [v19, l1]; omega) (by rw [v19, l1]; omega), v19, l1]
    -- the class
    obtain ⟨V0, hV0⟩ : ∃ V0 : St, V0 = wI (wI Y 82 (c + 1) (Y.1 70 10)) 70 11 (Y.1 70 11 + 1) := ⟨_, rfl⟩
    have ry : ∀ j k, ¬ (j = 70 ∧ k = 11) → ¬ (j = 82 ∧ k = c + 1) → V0.1 j k = Y.1 j k := fun j k z z2 => by rw [hV0, wI_ne _ _ _ _ _ _ z, wI_ne _ _ _ _ _ _ z2]
    have y2 : V0.2 = Y.2 := by rw [hV0]; rfl
    have hx : HXc X X18 := ⟨fun k q => r18 0 k (by omega) (by omega), fun e k q => r18 e k (by omega) (by omega)⟩
    have key := n_names (e := e) (Z0 := X18) (V0 := V0) (r := r) (p1 := p1) (c := c) (m := m) (cell := cell) (A := A) he (by rw [y2]; exact hp2) (by rw [ry e 1 (by omega) (by omega)]; exact hpp) hp41 s32 (by rw [hV0, wI_at, ti_add (by rw [h11, l1]; omega) (by rw [h11, l1]; omega), h11, l1]; omega) (by omega) hm hcell hA (fun j hj => by rw [r18 60 _ (by omega) (by omega), r18 61 _ (by omega) (by omega), y2]; exact (hv j hj).up (HG.of hx)) BIG m X18 V0 x20 (an - 1) v20 (by rw [ti_sub (by rw [hn, l1]; omega) (by rw [hn, l1]; omega), hn, l1]) (Nat.le_refl _) ⟨⟨by rw [r18 0 31 (by omega) (by omega)]; exact h31, by rw [ry 70 15 (by omega) (by omega)]; exact h70⟩, fun _ _ _ _ => rfl, ⟨fun _ _ _ => rfl, rfl, fun _ _ _ => rfl⟩, fun j j1 j2 => absurd j2 (by omega)⟩
    refine pw_mono key (fun _ Z1 g => ?_)
    unfold g_Running_enterPart
    have i11 : ix (Y.1 70 11) = c + 1 := ixn (by rw [h11]; omega)
    refine pw_let (pw_pos (by omega) (pw_let (pw_let (pw_ck (fun _ => pw_eq (fun Y4 d4 => pw_eq (fun y5 d5 => pw_eq (fun y6 d6 => pw_eq (fun Y7 d7 => pw_let ?_)))))))))
    rw [i11] at d4
    have hY7 : Y7 = V0 := by
      rw [d7, d6, d5, hV0, d4, wI_ne _ _ _ _ _ _ (by omega)]
    rw [hY7]
    refine pw_mono (g BIG) (fun _ V1 h => ?_)
    obtain ⟨V2, ⟨⟨t1, t2⟩, z1, ⟨z2, z3, z4⟩, z5⟩, ev⟩ := h
    have rv : ∀ j k, ¬ (j = 70 ∧ k = 10) → V1.1 j k = V2.1 j k := fun j k z => by rw [ev, wI_ne _ _ _ _ _ _ z]
    have rl : V1.2 = V2.2 := by rw [ev]; rfl
    refine Or.inr ⟨fun e k q1 q2 q3 => (z1 e k (by omega) (by omega)).trans (r18 e k (by omega) q3), ⟨fun j k q1 q2 => ?_, by rw [rl, z3, y2], fun j k q => by rw [rl, z4 j k q, y2]⟩, ⟨?_, ?_, ?_, ?_, ?_, ?_⟩, fun j hj => ?_⟩
    · rw [rv j k (by omega), z2 j k (by omega), ry j k (by omega) q2]
    · rw [rv 70 11 (by omega), z2 70 11 (by omega), hV0, wI_at, ti_add (by rw [h11, l1]; omega) (by rw [h11, l1]; omega), h11, l1]
      omega
    · rw [ev, wI_at, ry (e + 17) _ (by omega) (by omega)]
    · rw [rv 70 15 (by omega), t2]
      omega
    · rw [rv 82 _ (by omega), z2 82 _ (by omega), hV0, wI_ne _ _ _ _ _ _ (by omega), wI_at]
    · rw [t1]
      omega
    · have f12 : x12 = X.1 0 37 := by rw [e12, r11 0 37 (by omega) (by omega)]
      rw [z1 0 37 (by omega) (by omega), e18, wI_ne _ _ _ _ _ _ (by omega), e14, wI_at, e13, f12, ti_add (by rw [h37, l1]; omega) (by rw [h37, l1]; omega), h37, l1]
    · rw [rl]
      have hx2 : HXc X18 X := ⟨fun k q => (r18 0 k (by omega) (by omega)).symm, fun e k q => (r18 e k (by omega) (by omega)).symm⟩
      exact (z5 j (Nat.zero_le _) hj).up (HG.of hx2)
/-- where the reference goes on is told by the cell of what is called -/
theorem yz_calls92 : ∀ (N : Nat) (a4 : Int32) (X : St), pw (f_calls_92 N a4 X) (fun _ Z => ∀ e k, e = 44 ∨ e = 61 → Z.1 e k = X.1 e k) := by
  intro N
  induction N with
  | zero => exact fun _ _ => pw_none
  | succ N ih =>
    intro a4 X
    have e1 : f_calls_92 (N + 1) = f_calls_92_s (f_calls_92 N) := by
      unfold f_calls_92
      exact lp_succ _ _ _
    rw [e1]
    unfold f_calls_92_s
    refine pw_ite (fun _ => pw_ret (fun _ _ _ => rfl)) (fun _ => pw_let (pw_let (pw_eq (fun X23 e23 => pw_let (pw_let (pw_let (pw_ck (fun _ => pw_let (pw_ck (fun _ => pw_eq (fun X28 e28 => pw_let (pw_let (pw_let (pw_ck (fun _ => pw_let (pw_ck (fun _ => pw_eq (fun X33 e33 => pw_let (pw_mono (ih _ X33) (fun _ Z g e k q => ?_))))))))))))))))))))
    rw [g e k q, e33, wI_ne _ _ _ _ _ _ (by omega), e28, wI_ne _ _ _ _ _ _ (by omega), e23, wI_ne _ _ _ _ _ _ (by omega)]
theorem yz_calls : pw (f_calls p1 p2 a X) (fun _ Z => ∀ e k, e = 44 ∨ e = 61 → Z.1 e k = X.1 e k) := by
  unfold f_calls
  refine pw_let (pw_ite (fun _ => pw_bd (pw_ok r_ends) (fun _ Z g => ?_)) (fun _ => pw_let (pw_let (pw_eq (fun X4 e4 => pw_let (pw_ck (fun _ => pw_eq (fun X6 e6 => pw_let (pw_ck (fun _ => pw_eq (fun X8 e8 => pw_let (pw_let (pw_ck (fun _ => pw_eq (fun X11 e11 => pw_let (pw_let (pw_eq (fun X14 e14 => pw_let (pw_let (pw_let (pw_eq (fun X18 e18 => pw_ck (fun _ => pw_let (pw_let (pw_mono (yz_calls92 BIG _ X18) (fun _ Z g e k q => ?_))))))))))))))))))))))))))
  · refine pw_ret (fun e k q => ?_)
    rcases q with q | q
    · rw [q]
      exact g.1.1 44 k (show (8800 : Nat) ∉ [43, 44] from by decide)
    · rw [q]
      exact g.1.1 61 k (show (12200 : Nat) ∉ [43, 44] from by decide)
  · rw [g e k q, e18, wI_ne _ _ _ _ _ _ (by omega), e14, wI_ne _ _ _ _ _ _ (by omega), e11, wI_ne _ _ _ _ _ _ (by omega), e8, wI_ne _ _ _ _ _ _ (by omega), e6, wI_ne _ _ _ _ _ _ (by omega), e4, wI_ne _ _ _ _ _ _ (by omega)]
theorem yz_call166 : pw (f_call_166 a1 a2 a4 X) (fun z Z => (Z.1 0 43).toInt < 0 → z = Z.1 44 (ix (Z.1 61 (ix a4)))) := by
  have q220 : ∀ (x : Int32) (b0 : Int32) (W : St), W.1 61 (ix a4) = x → pw (f_call_220 x b0 W) (fun z Z => (Z.1 0 43).toInt < 0 → z = Z.1 44 (ix (Z.1 61 (ix a4)))) := by
    intro x b0 W hW
    unfold f_call_220
    refine pw_eq (fun X16 e16 => pw_ck (fun _ => pw_eq (fun x17 e17 => pw_ret (fun _ => ?_))))
    rw [e17, e16, wI_ne _ 0 _ _ 61 _ (by omega), hW]
  unfold f_call_166
  refine pw_bd (pw_ok r_isOn) ?_
  rintro x7 X8 ⟨e8, h7⟩
  refine pw_ite (fun z => pw_ret (fun q => ?_)) (fun _ => pw_ck (fun _ => pw_eq (fun x9 e9 => pw_let (pw_ck (fun _ => pw_let (pw_bd yz_calls ?_))))))
  · rw [← e8] at q
    omega
  · rintro _ X12 g
    refine pw_bd (pw_ok r_isOn) ?_
    rintro x13 X14 ⟨e14, _⟩
    have hW : X14.1 61 (ix a4) = x9 := by rw [← e14, g 61 _ (Or.inr rfl), e9]
    exact pw_ite (fun _ => pw_let (q220 _ _ _ hW)) (fun _ => pw_let (pw_let (q220 _ _ _ hW)))
theorem yz_call17 : ∀ (N : Nat) (X : St), pw (f_call_17 N a1 a2 a3 a4 X) (fun z Z => (Z.1 0 43).toInt < 0 → z = Z.1 44 (ix (Z.1 61 (ix a4)))) := by
  have tr : ∀ {ρ : Type} (F : Option (ρ × St)), pw F (fun _ _ => True) := fun _ _ _ _ => trivial
  intro N
  induction N with
  | zero => exact fun _ => pw_none
  | succ N ih =>
    have inner : ∀ (M : Nat) (a5 a6 : Int32) (X : St), pw (f_call_51 (f_call_17 N) M a1 a2 a3 a4 a5 a6 X) (fun z Z => (Z.1 0 43).toInt < 0 → z = Z.1 44 (ix (Z.1 61 (ix a4)))) := by
      intro M
      induction M with
      | zero => exact fun _ _ _ => pw_none
      | succ M ih2 =>
        intro a5 a6 X
        have x128 : ∀ X, pw (f_call_128 (f_call_17 N) a1 a2 a3 a4 a5 X) (fun z Z => (Z.1 0 43).toInt < 0 → z = Z.1 44 (ix (Z.1 61 (ix a4)))) := by
          intro X
          unfold f_call_128
          exact pw_let (pw_ck (fun _ => pw_let (pw_let (pw_let (pw_let (pw_ck (fun _ => pw_let (pw_ck (fun _ => pw_let (ih _))))))))))
        have e1 : f_call_51 (f_call_17 N) (M + 1) = f_call_51_s (f_call_17 N) (f_call_51 (f_call_17 N) M) := by
          unfold f_call_51
          exact lp_succ _ _ _
        rw [e1]
        unfold f_call_51_s
        exact pw_ite (fun _ => x128 _) (fun _ => pw_bd (tr _) (fun _ X31 _ => pw_ite (fun _ => x128 _) (fun _ => pw_let (pw_let (pw_ck (fun _ => pw_let (pw_bd (tr _) (fun _ X36 _ => pw_ck (fun _ => pw_let (pw_bd (tr _) (fun _ X39 _ => pw_ck (fun _ => pw_let (pw_ck (fun _ => pw_let (pw_ck (fun _ => pw_let (pw_bd (tr _) (fun _ X43 _ => pw_let (ih2 _ _ _)))))))))))))))))))
    intro X
    have e1 : f_call_17 (N + 1) = f_call_17_s (f_call_17 N) := by
      unfold f_call_17
      exact lp_succ _ _ _
    rw [e1]
    unfold f_call_17_s
    exact pw_bd (tr _) (fun _ X6 _ => pw_ite (fun _ => yz_call166) (fun _ => pw_ck (fun _ => pw_let (pw_ite (fun _ => yz_call166) (fun _ => pw_ck (fun _ => pw_let (pw_let (inner _ _ _ _))))))))
end CALS
