/-! the stacks of both sides -/
/-- the innermost frame's values: the reference's cells sb .. tp - 1, the class's c + 1 further -/
def STK (X Y : St) (r : Nat → Int32) (sb c tp : Nat) : Prop := (X.1 0 31).toInt = (tp : Int) ∧ (Y.1 70 15).toInt = ((tp + c + 1 : Nat) : Int) ∧ sb ≤ tp ∧ ∀ i, sb ≤ i → i < tp → VR X r (X.1 60 i) (X.1 61 i) (Y.2.1 84 (i + c + 1))
section STKS
variable {X Y Z X1 Y1 X2 Y2 : St} {r r1 r2 : Nat → Int32} {s w k a b p p1 p2 v : Int32} {y y1 : Int64} {ks : List (List Int)} {e c m n i j sb tp : Nat}
theorem l_rpush (h : (Y.1 70 15).toInt = (n : Int)) (hn : n < 20002) : pw (g_Running_push y Y) (fun _ Y1 => Y1 = wI (wL Y 84 n y) 70 15 (Y.1 70 15 + 1)) := by
  unfold g_Running_push
  refine pw_let (pw_neg (by omega) (pw_eq (fun x2 e2 => pw_ck (fun _ => pw_eq (fun X3 e3 => pw_eq (fun x4 e4 => pw_eq (fun x5 e5 => pw_eq (fun X6 e6 => pw_ret ?_))))))))
  rw [e2, ixn h] at e3
  rw [e6, e5, e4, e3]
  rfl
theorem l_rpop (h : (Y.1 70 15).toInt = (n : Int) + 1) : pw (g_Running_pop Y) (fun z Y1 => Y1 = wI Y 70 15 (Y.1 70 15 - 1) ∧ z = Y.2.1 84 n) := by
  have l1 : (1 : Int32).toInt = 1 := by decide
  unfold g_Running_pop
  refine pw_let (pw_pos (by omega) (pw_eq (fun x2 e2 => pw_eq (fun x3 e3 => pw_eq (fun X4 e4 => pw_eq (fun x5 e5 => pw_ck (fun _ => pw_eq (fun y6 e6 => pw_ret ⟨by rw [e4, e3, e2], ?_⟩))))))))
  have i5 : ix x5 = n := by
    refine ixn ?_
    rw [e5, e4, wI_at, e3, e2, ti_sub (by rw [h, l1]; have := (Y.1 70 15).toInt_lt; omega) (by rw [h, l1]; have := (Y.1 70 15).toInt_lt; omega), h, l1]
    omega
  rw [e6, i5, e4]
  rfl
theorem n_value (h : (X.1 0 31).toInt = (n : Int)) : pw (f_value s w X) (fun _ X1 => X1 = wI (wI (wI X 60 n s) 61 n w) 0 31 (X.1 0 31 + 1)) := by
  unfold f_value
  refine pw_eq (fun x1 e1 => pw_ck (fun _ => pw_eq (fun X2 e2 => pw_eq (fun x3 e3 => pw_ck (fun _ => pw_eq (fun X4 e4 => pw_eq (fun x5 e5 => pw_eq (fun x6 e6 => pw_eq (fun X7 e7 => pw_ret ?_)))))))))
  rw [e1, ixn h] at e2
  have e3' : x3 = X.1 0 31 := by rw [e3, e2, wI_ne _ _ _ _ _ _ (by omega)]
  rw [e3', ixn h, e2] at e4
  have e5' : x5 = X.1 0 31 := by rw [e5, e4, wI_ne _ _ _ _ _ _ (by omega), wI_ne _ _ _ _ _ _ (by omega)]
  rw [e7, e6, e5', e4]
/-- a value more on both sides -/
theorem STK.push (h : STK X Y r sb c tp) (hv : VR X r s w y) (hX1 : X1 = wI (wI (wI X 60 tp s) 61 tp w) 0 31 (X.1 0 31 + 1)) (hY1 : Y1 = wI (wL Y 84 (tp + c + 1) y) 70 15 (Y.1 70 15 + 1)) (ht : tp + c < 100000) : STK X1 Y1 r sb c (tp + 1) := by
  obtain ⟨h1, h2, h3, h4⟩ := h
  have l1 : (1 : Int32).toInt = 1 := by decide
  have hX : HXc X X1 := by
    rw [hX1]
    exact ⟨fun k q => by rw [wI_ne _ _ _ _ _ _ (by omega), wI_ne _ _ _ _ _ _ (by omega), wI_ne _ _ _ _ _ _ (by omega)], fun e k q => by rw [wI_ne _ _ _ _ _ _ (by omega), wI_ne _ _ _ _ _ _ (by omega), wI_ne _ _ _ _ _ _ (by omega)]⟩
  have hg : HG X X1 r r := HG.of hX
  refine ⟨?_, ?_, by omega, fun i q1 q2 => ?_⟩
  · rw [hX1, wI_at, ti_add (by rw [h1, l1]; omega) (by rw [h1, l1]; omega), h1, l1]
    omega
  · rw [hY1, wI_at, ti_add (by rw [h2, l1]; omega) (by rw [h2, l1]; omega), h2, l1]
    omega
  · have yl : Y1.2.1 = (wL Y 84 (tp + c + 1) y).2.1 := by rw [hY1]; rfl
    rw [yl]
    by_cases z : i = tp
    · have x60 : X1.1 60 i = s := by rw [hX1, z, wI_ne _ _ _ _ _ _ (by omega), wI_ne _ _ _ _ _ _ (by omega), wI_at]
      have x61 : X1.1 61 i = w := by rw [hX1, z, wI_ne _ _ _ _ _ _ (by omega), wI_at]
      rw [x60, x61, z, wL_at]
      exact hv.up hg
    · have x60 : X1.1 60 i = X.1 60 i := by rw [hX1, wI_ne _ _ _ _ _ _ (by omega), wI_ne _ _ _ _ _ _ (by omega), wI_ne _ _ _ _ _ _ (by omega)]
      have x61 : X1.1 61 i = X.1 61 i := by rw [hX1, wI_ne _ _ _ _ _ _ (by omega), wI_ne _ _ _ _ _ _ (by omega), wI_ne _ _ _ _ _ _ (by omega)]
      rw [x60, x61, wL_ne _ _ _ _ _ _ (by omega)]
      exact (h4 i q1 (by omega)).up hg
end STKS
