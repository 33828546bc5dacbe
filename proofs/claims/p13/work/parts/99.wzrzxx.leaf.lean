/-! leaves on both sides: a number, a truth, a part -/
section LEAFS
variable {X Y Z X1 Y1 : St} {r : Nat → Int32} {p1 p2 o1 n1 x pl s w : Int32} {o n sb c tp : Nat}
/-- a value more, and what has changed -/
def LFq (X Y : St) (r : Nat → Int32) (sb c tp : Nat) (X1 Y1 : St) : Prop := STK X1 Y1 r sb c (tp + 1) ∧ (∀ e k, ¬ (e = 0 ∧ k = 31) → ¬ ((e = 60 ∨ e = 61) ∧ k = tp) → X1.1 e k = X.1 e k) ∧ (∀ j k, ¬ (j = 70 ∧ k = 15) → Y1.1 j k = Y.1 j k) ∧ (∀ j k, ¬ (j = 84 ∧ k = tp + c + 1) → Y1.2.1 j k = Y.2.1 j k) ∧ Y1.2.2 = Y.2.2
theorem LFq.of {y : Int64} (h : STK X Y r sb c tp) (hv : VR X r s w y) (hX1 : X1 = wI (wI (wI X 60 tp s) 61 tp w) 0 31 (X.1 0 31 + 1)) (hY1 : Y1 = wI (wL Y 84 (tp + c + 1) y) 70 15 (Y.1 70 15 + 1)) (ht : tp + c < 100000) : LFq X Y r sb c tp X1 Y1 := by
  refine ⟨h.push hv hX1 hY1 ht, fun e k q1 q2 => ?_, fun j k q => ?_, fun j k q => ?_, by rw [hY1]; rfl⟩
  · rw [hX1, wI_ne _ _ _ _ _ _ (by omega), wI_ne _ _ _ _ _ _ (by omega), wI_ne _ _ _ _ _ _ (by omega)]
  · rw [hY1, wI_ne _ _ _ _ _ _ q]
    rfl
  · rw [hY1, show (wI (wL Y 84 (tp + c + 1) y) 70 15 (Y.1 70 15 + 1)).2.1 = (wL Y 84 (tp + c + 1) y).2.1 from rfl, wL_ne _ _ _ _ _ _ q]
theorem l_pushV {y : Int64} (h : STK X Y r sb c tp) (hn : tp + c + 1 < 20002) : pw (g_Running_push y Y) (fun _ Y1 => Y1 = wI (wL Y 84 (tp + c + 1) y) 70 15 (Y.1 70 15 + 1)) := l_rpush h.2.1 hn
theorem l_pushNum (h : STK X Y r sb c tp) (hn : tp + c + 1 < 20002) : pw (g_Running_pushNumber x Y) (fun _ Y1 => Y1 = wI (wL Y 84 (tp + c + 1) (VLs 0 x)) 70 15 (Y.1 70 15 + 1)) := by
  unfold g_Running_pushNumber
  refine pw_bd l_valueOf ?_
  rintro y1 X2 ⟨e2, e1⟩
  rw [e2, e1]
  exact pw_bd (l_pushV h hn) (fun _ X3 e3 => pw_ret e3)
theorem l_pushTru (h : STK X Y r sb c tp) (hn : tp + c + 1 < 20002) : pw (g_Running_pushTruth x Y) (fun _ Y1 => Y1 = wI (wL Y 84 (tp + c + 1) (VLs 1 (if x.toInt = 0 then 0 else 1))) 70 15 (Y.1 70 15 + 1)) := by
  have q : ∀ b : Int32, pw (g_Running_pushTruth_11 b (1 : Int32) Y) (fun _ Y1 => Y1 = wI (wL Y 84 (tp + c + 1) (VLs 1 b)) 70 15 (Y.1 70 15 + 1)) := by
    intro b
    unfold g_Running_pushTruth_11
    refine pw_bd l_valueOf ?_
    rintro y1 X2 ⟨e2, e1⟩
    rw [e2, e1]
    exact pw_bd (l_pushV h hn) (fun _ X3 e3 => pw_ret e3)
  unfold g_Running_pushTruth
  refine pw_ite (fun z => ?_) (fun z => ?_)
  · rw [if_pos z]
    exact q 0
  · rw [if_neg z]
    exact q 1
/-- NUMBER -/
theorem op1 (ho : o1.toInt = (o : Int)) (h1 : (X.1 40 o).toInt = 1) (h : STK X Y r sb c tp) (hn : tp + c + 1 < 20002) (hx : X.1 26 (ix n1) = x) : pw (f_does o1 n1 X) (fun z X1 => z = o1 + 1 ∧ pw (g_Running_workPlain 1 x pl Y) (fun _ Y1 => LFq X Y r sb c tp X1 Y1)) := by
  unfold f_does
  refine pw_ck (fun _ => pw_eq (fun x1 e1 => ?_))
  have v1 : x1.toInt = 1 := by rw [e1, ixn ho]; exact h1
  refine pw_neg (by omega) (pw_pos v1 (pw_ck (fun _ => pw_to hx (pw_bd (n_value h.1) ?_))))
  rintro _ X14 e14
  refine pw_let (pw_ret ⟨rfl, ?_⟩)
  unfold g_Running_workPlain
  refine pw_neg (by decide) (pw_pos (by decide) (pw_bd (l_pushNum h hn) ?_))
  rintro _ Y4 e4
  exact pw_ret (LFq.of h (Or.inl ⟨⟨by decide, by decide, fun q => absurd q (by decide)⟩, rfl⟩) e14 e4 (by omega))
/-- PART -/
theorem op4 (ho : o1.toInt = (o : Int)) (h1 : (X.1 40 o).toInt = 4) (h : STK X Y r sb c tp) (hn : tp + c + 1 < 20002) (hx : X.1 26 (ix n1) = x) (hr : 0 ≤ x.toInt ∧ x.toInt < 100) : pw (f_does o1 n1 X) (fun z X1 => z = o1 + 1 ∧ pw (g_Running_workPlain 4 x pl Y) (fun _ Y1 => LFq X Y r sb c tp X1 Y1)) := by
  unfold f_does
  refine pw_ck (fun _ => pw_eq (fun x1 e1 => ?_))
  have v1 : x1.toInt = 4 := by rw [e1, ixn ho]; exact h1
  refine pw_neg (by omega) (pw_neg (by omega) (pw_neg (by omega) (pw_neg (by omega) (pw_pos v1 (pw_ck (fun _ => pw_to hx (pw_bd (n_value h.1) ?_)))))))
  rintro _ X14 e14
  refine pw_let (pw_ret ⟨rfl, ?_⟩)
  unfold g_Running_workPlain
  refine pw_neg (by decide) (pw_neg (by decide) (pw_neg (by decide) (pw_neg (by decide) (pw_pos (by decide) (pw_bd l_valueOf ?_)))))
  rintro y13 Y14 ⟨f14, ey⟩
  rw [f14, ey]
  refine pw_bd (l_pushV h hn) ?_
  rintro _ Y15 e15
  exact pw_ret (LFq.of h (Or.inr (Or.inr ⟨by decide, Or.inl ⟨hr.1, hr.2, rfl⟩⟩)) e14 e15 (by omega))
end LEAFS
