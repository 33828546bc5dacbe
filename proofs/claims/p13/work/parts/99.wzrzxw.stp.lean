/-! steps on both sides -/
section STPS
variable {X Y Z X1 Y1 : St} {p1 p2 o1 n1 : Int32} {x : Int} {o n : Nat}
/-- the class makes so many steps, or has spent its fuel -/
theorem l_steps (h8 : 0 ≤ (Y.1 70 9).toInt ∧ (Y.1 70 9).toInt ≤ (Y.1 70 8).toInt) (hp : 0 ≤ p1.toInt) (hO : ONr X Y) : pw (g_Running_makeSteps p1 p2 Y) (fun _ Y1 => (p1.toInt ≤ (Y.1 70 8).toInt - (Y.1 70 9).toInt ∧ Y1 = wI Y 70 9 (Y.1 70 9 + p1)) ∨ ((Y.1 70 8).toInt - (Y.1 70 9).toInt < p1.toInt ∧ Y1 = wI (wI (wI (wI Y 70 9 (Y.1 70 8)) 70 4 0) 70 5 7) 70 6 p2)) := by
  have b := (Y.1 70 8).toInt_lt
  unfold g_Running_makeSteps
  refine pw_eq (fun x1 e1 => pw_eq (fun x2 e2 => pw_eq (fun x3 e3 => ?_)))
  have v3 : x3.toInt = (Y.1 70 8).toInt - (Y.1 70 9).toInt := by rw [e3, e1, e2, ti_sub (by omega) (by omega)]
  refine pw_ite (fun c => pw_eq (fun x4 e4 => pw_eq (fun x5 e5 => pw_eq (fun X6 e6 => pw_ret (Or.inl ⟨by omega, by rw [e6, e5, e4]⟩))))) (fun c => pw_eq (fun x7 e7 => pw_eq (fun X8 e8 => ?_)))
  have hO8 : ONr X X8 := by
    rw [e8]
    exact hO.cg rfl rfl (fun k q => wI_ne _ _ _ _ _ _ (by omega))
  refine pw_bd (l_failW hO8) ?_
  rintro _ X9 e9
  exact pw_ret (Or.inr ⟨by omega, by rw [e9, e8, e7]⟩)
/-- the reference makes one -/
theorem n_step (ho : o1.toInt = (o : Int)) (h0 : (X.1 40 o).toInt = 0) (hO : ONr X Y) (h40 : 0 ≤ (X.1 0 40).toInt ∧ (X.1 0 40).toInt ≤ (X.1 0 39).toInt) : pw (f_does o1 n1 X) (fun z X1 => z = o1 + 1 ∧ ((¬ (X.1 0 40).toInt = (X.1 0 39).toInt ∧ X1 = wI X 0 40 (X.1 0 40 + 1)) ∨ ((X.1 0 40).toInt = (X.1 0 39).toInt ∧ X1 = wI (wI X 0 43 7) 0 44 (X.1 21 (ix n1))))) := by
  unfold f_does
  refine pw_ck (fun _ => pw_eq (fun x1 e1 => pw_pos (by rw [e1, ixn ho]; exact h0) (pw_eq (fun x3 e3 => pw_eq (fun x4 e4 => ?_)))))
  refine pw_ite (fun c => pw_ck (fun _ => pw_eq (fun x9 e9 => pw_bd (n_ends hO) ?_))) (fun c => pw_eq (fun x5 e5 => pw_eq (fun x6 e6 => pw_eq (fun X7 e7 => pw_let (pw_ret ⟨rfl, Or.inl ⟨by rw [← e3, ← e4]; exact c, by rw [e7, e6, e5]⟩⟩)))))
  rintro _ X10 e10
  exact pw_let (pw_ret ⟨rfl, Or.inr ⟨by rw [← e3, ← e4]; exact c, by rw [e10, e9]⟩⟩)
end STPS
