/-! the loops of a run: one turn, the end -/
noncomputable def WRK (op x pl here : Int32) (Y : St) : Option (Int32 × St) := if op.toInt < 27 then (if op.toInt < 18 then (if op.toInt < 10 then g_Running_workPlain op x pl Y else g_Running_workRowOrCall op x pl Y) else g_Running_workNumbers op pl Y) else g_Running_workAsking here Y
/-- how a run has ended on both sides -/
def FNr (ks : List (List Int)) (z : Int32) (X : St) (z' : Int32) (Y : St) : Prop := z' = z ∧ SCr X Y ∧ (Y.1 70 5 = X.1 0 43 ∧ Y.1 70 6 = X.1 0 44) ∧ z = X.1 0 43 ∧ ((X.1 0 43).toInt = 0 → ∃ r, HR X Y r ks ∧ VR X r (X.1 60 0) (X.1 61 0) (Y.2.1 84 0) ∧ (Y.1 70 15).toInt = 1)
section LOPS
variable {X Y Z X1 Y1 : St} {r : Nat → Int32} {ks : List (List Int)} {o1 a5 : Int32} {e i j o : Nat} {Q : Int32 → St → Prop}
/-- a turn of the reference -/
theorem n_turn (hO : ONr X Y) (ho : o1.toInt = (o : Int)) (N : Nat) (h : pw (bnd (f_does o1 (X.1 41 o) X) fun z X1 => f_starts_106 N z X1) Q) : pw (f_starts_106 (N + 1) o1 X) Q := by
  have e1 : f_starts_106 (N + 1) = f_starts_106_s (f_starts_106 N) := by
    unfold f_starts_106
    exact lp_succ _ _ _
  rw [e1]
  unfold f_starts_106_s
  refine pw_bd (n_isOn1 hO) ?_
  rintro z17 X18 ⟨e18, e17⟩
  rw [e18, e17]
  refine pw_neg (by decide) (pw_neg (by omega) (pw_ck (fun _ => pw_let ?_)))
  rw [ixn ho]
  exact h
/-- a turn of the class -/
theorem l_turn (he : e = 2 ∨ e = 24) (hr : Y.2.2 70 2 = e + 1) (h4 : ¬ (Y.1 70 4).toInt = 0) (hi : a5.toInt = (i : Int)) (hi2 : i < 1000000) (hj : (Y.1 70 10).toInt = (j : Int)) (hjl : (j : Int) < (Y.1 e 6).toInt) (h : ∀ (M : Nat) (a5' : Int32), a5'.toInt = ((i + 1 : Nat) : Int) → pw (bnd (WRK (Y.1 (e + 18) j) (Y.1 (e + 19) j) (Y.1 (e + 21) j) (Y.1 70 10) (wI Y 70 10 (Y.1 70 10 + 1))) fun _ X46 => g_Running_runAll_122 M a5' X46) Q) : ∀ M : Nat, pw (g_Running_runAll_122 M a5 Y) Q := by
  have lo1 : (Int32.ofInt 1).toInt = 1 := by decide
  intro M
  cases M with
  | zero => exact pw_none
  | succ M =>
    have e1 : g_Running_runAll_122 (M + 1) = g_Running_runAll_122_s (g_Running_runAll_122 M) := by
      unfold g_Running_runAll_122
      exact lp_succ _ _ _
    rw [e1]
    unfold g_Running_runAll_122_s
    have pe : Y.2.2 70 2 - 1 = e := by rw [hr]; rfl
    have ij : ix (Y.1 70 10) = j := ixn hj
    have i5 : (a5 + Int32.ofInt 1).toInt = ((i + 1 : Nat) : Int) := by rw [ti_add (by rw [hi, lo1]; omega) (by rw [hi, lo1]; omega), hi, lo1]; omega
    have hh := h M (a5 + Int32.ofInt 1) i5
    have hne : ¬ e = 70 ∧ ¬ e + 18 = 70 ∧ ¬ e + 19 = 70 ∧ ¬ e + 21 = 70 := by rcases he with q | q <;> omega
    refine pw_neg (by omega) (pw_let (pw_neg h4 (pw_let (pw_neg (by omega) (pw_let (pw_ck (fun _ => pw_to pe (pw_let (pw_neg (by omega) (pw_let (pw_let (pw_let (pw_eq (fun X36 e36 => pw_ck (fun _ => ?_)))))))))))))))
    have pe36 : X36.2.2 70 2 - 1 = e := by rw [e36]; exact pe
    rw [← e36] at hh
    have g18 : X36.1 (e + 18) j = Y.1 (e + 18) j := by rw [e36, wI_ne _ _ _ _ _ _ (by omega)]
    have g19 : X36.1 (e + 19) j = Y.1 (e + 19) j := by rw [e36, wI_ne _ _ _ _ _ _ (by omega)]
    have g21 : X36.1 (e + 21) j = Y.1 (e + 21) j := by rw [e36, wI_ne _ _ _ _ _ _ (by omega)]
    refine pw_to pe36 (pw_to (kYp he).2.1 (pw_ck (fun _ => pw_to (show X36.1 (e + 18) (ix (Y.1 70 10)) = Y.1 (e + 18) j by rw [ij]; exact g18) ?_)))
    have f289 : ∀ V, g_Running_runAll_289 (g_Running_runAll_122 M) a5 V = g_Running_runAll_122 M (a5 + Int32.ofInt 1) V := fun V => by
      unfold g_Running_runAll_289
      rfl
    unfold WRK at hh
    refine pw_ite (fun c27 => ?_) (fun c27 => ?_)
    · rw [if_pos c27] at hh
      refine pw_ite (fun c18 => ?_) (fun c18 => ?_)
      · rw [if_pos c18] at hh
        refine pw_ite (fun c10 => ?_) (fun c10 => ?_)
        · rw [if_pos c10] at hh
          refine pw_ck (fun _ => pw_to pe36 (pw_to (kYp he).2.2.1 (pw_ck (fun _ => pw_to (show X36.1 (e + 19) (ix (Y.1 70 10)) = Y.1 (e + 19) j by rw [ij]; exact g19) (pw_ck (fun _ => pw_to pe36 (pw_to (kYp he).2.2.2.2 (pw_ck (fun _ => pw_to (show X36.1 (e + 21) (ix (Y.1 70 10)) = Y.1 (e + 21) j by rw [ij]; exact g21) ?_)))))))))
          exact hh
        · rw [if_neg c10] at hh
          refine pw_ck (fun _ => pw_to pe36 (pw_to (kYp he).2.2.1 (pw_ck (fun _ => pw_to (show X36.1 (e + 19) (ix (Y.1 70 10)) = Y.1 (e + 19) j by rw [ij]; exact g19) (pw_ck (fun _ => pw_to pe36 (pw_to (kYp he).2.2.2.2 (pw_ck (fun _ => pw_to (show X36.1 (e + 21) (ix (Y.1 70 10)) = Y.1 (e + 21) j by rw [ij]; exact g21) ?_)))))))))
          exact hh
      · rw [if_neg c18] at hh
        refine pw_ck (fun _ => pw_to pe36 (pw_to (kYp he).2.2.2.2 (pw_ck (fun _ => pw_to (show X36.1 (e + 21) (ix (Y.1 70 10)) = Y.1 (e + 21) j by rw [ij]; exact g21) ?_))))
        exact hh
    · rw [if_neg c27] at hh
      exact hh
/-- a run that has failed ends -/
theorem n_endO (hO : OFr X Y) (hS : SCr X Y) (N : Nat) : pw (f_starts_106 N o1 X) (fun z X' => ∀ (M : Nat) (a5 : Int32), pw (g_Running_runAll_122 M a5 Y) (fun z' Y' => FNr ks z X' z' Y')) := by
  have fin : FNr ks (X.1 0 43) X (Y.1 70 5) Y := ⟨hO.2.2.1, hS, hO.2.2, rfl, fun q => by have := hO.1; omega⟩
  cases N with
  | zero => exact pw_none
  | succ N =>
    have e1 : f_starts_106 (N + 1) = f_starts_106_s (f_starts_106 N) := by
      unfold f_starts_106
      exact lp_succ _ _ _
    rw [e1]
    unfold f_starts_106_s
    refine pw_bd (n_isOn0 hO) ?_
    rintro z17 X18 ⟨e18, e17⟩
    rw [e18, e17]
    refine pw_pos (by decide) ?_
    unfold f_starts_132
    refine pw_bd (n_isOn0 hO) ?_
    rintro z19 X20 ⟨e20, e19⟩
    rw [e20, e19]
    refine pw_pos (by decide) (pw_let (pw_ret (fun M a5 => ?_)))
    cases M with
    | zero => exact pw_none
    | succ M =>
      have e2 : g_Running_runAll_122 (M + 1) = g_Running_runAll_122_s (g_Running_runAll_122 M) := by
        unfold g_Running_runAll_122
        exact lp_succ _ _ _
      rw [e2]
      unfold g_Running_runAll_122_s
      exact pw_ite (fun _ => pw_let (pw_ret fin)) (fun _ => pw_let (pw_pos hO.2.1 (pw_let (pw_ret fin))))
/-- a run that has come to its end -/
theorem n_endM (h43 : (X.1 0 43).toInt < 0 ∧ (X.1 0 44).toInt = -1) (ho : o1.toInt < 0) (hS : SCr X Y) (hJ : KJq X) (h4 : (Y.1 70 4).toInt = 0) (h5 : (Y.1 70 5).toInt = 0) (h6 : (Y.1 70 6).toInt = -1) (hH : HR X Y r ks) (hv : VR X r (X.1 60 0) (X.1 61 0) (Y.2.1 84 0)) (h15 : (Y.1 70 15).toInt = 1) (N : Nat) : pw (f_starts_106 N o1 X) (fun z X' => ∀ (M : Nat) (a5 : Int32), pw (g_Running_runAll_122 M a5 Y) (fun z' Y' => FNr ks z X' z' Y')) := by
  have rx : ∀ e k, ¬ (e = 0 ∧ k = 43) → (wI X 0 43 0).1 e k = X.1 e k := fun e k q => wI_ne _ _ _ _ _ _ q
  have hX : HXc X (wI X 0 43 0) := ⟨fun k q => rx 0 k (by omega), fun e k q => rx e k (by omega)⟩
  have y5 : Y.1 70 5 = 0 := Int32.toInt_inj.mp (by rw [h5]; decide)
  have fin : FNr ks 0 (wI X 0 43 0) (Y.1 70 5) Y := by
    refine ⟨y5, hS.cg ⟨fun k q => rx 0 k (by omega), fun k => rx 79 k (by omega), fun k => rx 80 k (by omega)⟩ ⟨fun _ _ => rfl, fun _ _ => rfl, fun _ => rfl, fun _ => rfl⟩, ⟨by rw [wI_at]; exact y5, ?_⟩, by rw [wI_at], fun _ => ⟨r, hH.cg hJ (KXq.of (fun e k q => rx e k (by omega))) hX ⟨fun _ _ _ => rfl, fun _ _ _ => rfl⟩, by rw [rx 60 0 (by omega), rx 61 0 (by omega)]; exact hv.up (HG.of hX), h15⟩⟩
    rw [rx 0 44 (by omega)]
    exact Int32.toInt_inj.mp (by rw [h6, h43.2])
  have on0 : pw (f_isOn X) (fun z X1 => X1 = X ∧ z = 1) := by
    unfold f_isOn
    exact pw_let (pw_neg (by omega) (pw_ret ⟨rfl, rfl⟩))
  cases N with
  | zero => exact pw_none
  | succ N =>
    have e1 : f_starts_106 (N + 1) = f_starts_106_s (f_starts_106 N) := by
      unfold f_starts_106
      exact lp_succ _ _ _
    rw [e1]
    unfold f_starts_106_s
    refine pw_bd on0 ?_
    rintro z17 X18 ⟨e18, e17⟩
    rw [e18, e17]
    refine pw_neg (by decide) (pw_pos ho ?_)
    unfold f_starts_132
    refine pw_bd on0 ?_
    rintro z19 X20 ⟨e20, e19⟩
    rw [e20, e19]
    refine pw_neg (by decide) (pw_eq (fun X22 e22 => pw_let (pw_ret (fun M a5 => ?_))))
    rw [e22, wI_at]
    cases M with
    | zero => exact pw_none
    | succ M =>
      have e2 : g_Running_runAll_122 (M + 1) = g_Running_runAll_122_s (g_Running_runAll_122 M) := by
        unfold g_Running_runAll_122
        exact lp_succ _ _ _
      rw [e2]
      unfold g_Running_runAll_122_s
      exact pw_ite (fun _ => pw_let (pw_ret fin)) (fun _ => pw_let (pw_pos h4 (pw_let (pw_ret fin))))
end LOPS
