/-! the reference reads lists of items -/
section RLIST
variable {ch : Tx} {n q : Nat} {X Y Z X0 : St} {o : Int} {sc : List Nm} {j N s N0 : Nat} {Q : Int32 → St → Prop} {c c1 : List Ins}
/-- where no expression begins the text has none -/
def NBq (ch : Tx) (E : EF) : Prop := ∀ o sc q c, bgE (ty ch q) = false → E o sc q c = none
theorem b_items {E : EF} (hE : SEq ch n (o + 1) E) (hn : NBq ch E) {t : Nat} {r v20 v39 : Int32} {k cl ask : Int} (hr : r.toInt = (t : Int)) (hk : (k = 8 ∧ cl = 93) ∨ (k = 12 ∧ cl = 41)) (hask : ¬ ask = 4) (ho : 0 ≤ o ∧ o < 40) : ∀ (kk i q : Nat) (W : St) (N1 : Nat) (c : List Ins), ITq ch n X W q o sc j N t N1 r k i v20 v39 c → (k = 8 → kk + i = 20) → (k = 12 → kk + i = 4) → ¬ (i = 0 ∧ ty ch q = cl) → HH (DQ Q) (fun b : Nat × Out => CLq ch n X o sc j N t v20 v39 Q b.2) (sList1 ch E o sc cl ask (kk + 1) i q c) → pr W Q := by
  have l44 : (44 : Int32).toInt = 44 := by decide
  have l93 : (93 : Int32).toInt = 93 := by decide
  have l41 : (41 : Int32).toInt = 41 := by decide
  have hi36 : ix r = t := ixn hr
  intro kk
  induction kk with
  | zero =>
    intro i q W N1 c h h8 h12 hz H
    rw [sList1] at H
    have H := H.q hz
    obtain ⟨gW, mW, nW, kW, ⟨f35, f36, f37⟩, ht, h27, h20, h39⟩ := h
    refine pr_full gW mW ?_ ?_
    · rw [f36, hi36, h27, f35]
      rcases hk with hk | hk
      · exact Or.inr ⟨hk.1, by have := h8 hk.1; omega⟩
      · exact Or.inl ⟨hk.1, by have := h12 hk.1; omega⟩
    · by_cases g : bgE (ty ch q) = true
      · exact (H.p ⟨rfl, g⟩).n
      · have H := H.q (fun z => g z.2)
        rw [hn _ _ _ _ (nb.mpr g)] at H
        exact H.n
  | succ kk ih =>
    intro i q W N1 c h h8 h12 hz H
    rw [sList1] at H
    have H := (H.q hz).q (fun z => absurd z.1 (Nat.succ_ne_zero kk))
    have hif : (k = 12 → ¬ (i : Int) = 4) ∧ (k = 8 → ¬ (i : Int) = 20) := ⟨fun e => by have := h12 e; omega, fun e => by have := h8 e; omega⟩
    have hi2 : 0 ≤ (i : Int) ∧ (i : Int) ≤ 4000 := by
      rcases hk with hk | hk
      · have := h8 hk.1; omega
      · have := h12 hk.1; omega
    refine b_item hE h hr (by omega) hi2 hif ho (H.b.m (fun a H => ?_))
    rintro x2 Z N2 i2 gZ mZ kZ ⟨z35, z36, z37⟩ htN z27 z20 z39
    refine pw_neg (by omega) ?_
    unfold f_endsWithin_232
    refine pw_pos rfl ?_
    unfold f_endsWithin_245
    refine pw_bd (q_isSign gZ.1 (by decide)) ?_
    rintro x37 X38 ⟨rfl, h37⟩
    rw [l44] at h37
    refine pw_ite (fun c37 => ?_) (fun c37 => ?_)
    · have H := H.q (h37.mp c37)
      refine pw_pos rfl ?_
      rw [i2]
      refine pw_ck (fun _ => pw_let ?_)
      unfold f_endsWithin_291
      rcases hk with ⟨hk, hcl⟩ | ⟨hk, hcl⟩
      · refine pw_pos (by omega) ?_
        exact pw_bd (b_shut2 (X := X) (N := N) (t := t) (v20 := v20) (v39 := v39) (c1 := a.2 ++ [(ask, (i : Int), plc a.2 c.length, [])]) (by decide) gZ ⟨by omega, by omega⟩ (mZ.cd (fun p => NPl.snoc hask)) kZ hr htN z20 z39 (by rw [l93, ← hcl]; exact H.b.m (fun q2 H => H.s))) (fun _ W h => pw_ret h)
      · refine pw_neg (by omega) ?_
        exact pw_bd (b_shut2 (X := X) (N := N) (t := t) (v20 := v20) (v39 := v39) (c1 := a.2 ++ [(ask, (i : Int), plc a.2 c.length, [])]) (by decide) gZ ⟨by omega, by omega⟩ (mZ.cd (fun p => NPl.snoc hask)) kZ hr htN z20 z39 (by rw [l41, ← hcl]; exact H.b.m (fun q2 H => H.s))) (fun _ W h => pw_ret h)
    · have y44 : ty ch a.1 = 44 := Classical.byContradiction (fun z => c37 (h37.mpr z))
      have H := H.p y44
      refine pw_bd (x_next gZ) ?_
      rintro _ X41 ⟨g41, t41⟩
      refine pw_eq (fun X42 e42 => ?_)
      refine pw_ret ?_
      have rr : ∀ e m, 20 ≤ e → X42.1 e m = X38.1 e m := fun e m he => by rw [e42, wI_ne _ _ _ _ _ _ (by omega)]; exact t41.r e m (by omega)
      refine ih (i + 1) (nx ch a.1) X42 N2 (a.2 ++ [(ask, (i : Int), plc a.2 c.length, [])]) ⟨by rw [e42]; exact g41.wI (by omega), by rw [e42, wI_at]; rfl, ?_, ?_, ⟨by rw [rr 35 _ (by omega)]; exact z35, by rw [rr 36 _ (by omega)]; exact z36, by rw [rr 37 _ (by omega)]; exact z37⟩, ⟨h.2.2.2.2.2.1.1, htN⟩, by rw [rr 27 _ (by omega), z27]; omega, by rw [rr 20 _ (by omega)]; exact z20, by rw [rr 39 _ (by omega)]; exact z39⟩ (fun e => by have := h8 e; omega) (fun e => by have := h12 e; omega) (fun z => by omega) H
      · rw [e42]; exact ((mZ.tn t41).wI (by omega)).cd (fun p => NPl.snoc hask)
      · rw [e42]; exact (kZ.tn t41).wI (by unfold KPs; omega)
end RLIST
