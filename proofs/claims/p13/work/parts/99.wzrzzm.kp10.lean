/-! a run keeps what the next one needs -/
section KP10S
variable {X0 X Y Z : St} {p1 : Int32}
theorem R10.rf : R10 X X := ⟨rfl, rfl, rfl, rfl, fun _ _ _ _ => rfl, fun h _ => h, fun _ h => h, KXq.rf⟩
theorem R10.rk (h : R10 X Y) : RK10 X Y := ⟨h.1, fun _ => h⟩
theorem W11.r10 (h : W11 X0 Y) (hT : KT Y) : R10 X0 Y := by
  obtain ⟨⟨_, kx, b, r⟩, _⟩ := h
  have nb : ¬ BDn Y := fun ⟨k, a, q⟩ => by
    have := (hT.2.2 k a).2.1
    omega
  have g : KJq X0 → KU X0 → KIq Y ∧ KU Y := fun z y => (b z.1 y).resolve_right nb
  refine ⟨r 0 4 (by omega), r 0 28 (by omega), r 0 18 (by omega), r 0 26 (by omega), fun e k q1 q2 => r e k (by omega), fun z y => ⟨(g z y).1, Int.le_trans z.2.1 kx.1, fun i hi => ?_⟩, fun z y => (g z y).2, kx⟩
  have h3 := z.2.1
  obtain ⟨a1, a2, _⟩ := kx.2.2.1 i (by omega)
  rw [a1, a2]
  exact z.2.2 i hi
theorem W11.rf (hV : KVa True X) (h13 : 0 ≤ (X.1 0 13).toInt) : W11 X X := ⟨⟨hV, KXq.rf, fun a b => Or.inl ⟨a, b⟩, fun _ _ _ => rfl⟩, h13⟩
theorem k_run10 (hV : KVa True X) (h13 : 0 ≤ (X.1 0 13).toInt) : pw (f_run p1 X) (fun _ Y => KT Y → R10 X Y) := by
  unfold f_run
  refine pw_let (pw_ite (fun _ => pw_ret (fun _ => R10.rf)) (fun c => pw_bd (pw_ok (s_f_in _ _ _ _)) ?_))
  rintro r0 X' ⟨hF0, _⟩
  obtain rfl : X = X' := (Fr.nil hF0).symm
  refine pw_ite (fun _ => pw_ret (fun _ => R10.rf)) (fun c2 => pw_let (pw_let (pw_let (pw_bd (wk_starts (W11_w (W11_w (W11.rf hV h13) (by omega)) (by omega))) (fun _ Y g => pw_ret (fun t => g.r10 t))))))
theorem k_runUntold10 (hV : KVa True X) (h13 : 0 ≤ (X.1 0 13).toInt) : pw (f_runUntold p1 X) (fun _ Y => ¬ (X.1 0 4).toInt = 0 → KT Y → R10 X Y) := by
  unfold f_runUntold
  refine pw_let (pw_ite (fun _ => pw_ret (fun _ _ => R10.rf)) (fun c => pw_bd (pw_ok (s_f_in _ _ _ _)) ?_))
  rintro r0 X' ⟨hF0, _⟩
  obtain rfl : X = X' := (Fr.nil hF0).symm
  refine pw_ite (fun _ => pw_ret (fun _ _ => R10.rf)) (fun c2 => pw_let (pw_ite (fun c4 => ?_) (fun c4 => ?_)))
  · exact fun _ _ _ z => absurd c4 z
  · unfold f_runUntold_31
    exact pw_let (pw_let (pw_let (pw_bd (wk_starts (W11_w (W11_w (W11.rf hV h13) (by omega)) (by omega))) (fun _ Y g => pw_ret (fun _ t => g.r10 t)))))
end KP10S
