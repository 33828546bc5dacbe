/-! the reference reads lists of items -/
section RLIST
variable {ch : Tx} {n q : Nat} {X Y Z X0 : St} {o : Int} {sc : List Nm} {j N s N0 : Nat} {Q : Int32 → St → Prop} {c c1 cb : List Ins}
/-- where no expression begins the text has none -/
def NBq (ch : Tx) (E : EF) : Prop := ∀ o sc q c, bgE (ty ch q) = false → E o sc q c = none
theorem b_items {E : EF} (hE : SEq ch n (o + 1) E) (hn : NBq ch E) {t : Nat} {r : Int32} {k cl ask : Int} {sp : Nat → List Ins → List Ins → Prop} (hr : r.toInt = (t : Int)) (hk : (k = 8 ∧ cl = 93) ∨ (k = 12 ∧ cl = 41)) (hask : ¬ ask = 4) (hsp : ∀ (m : Nat) (e : List Ins), sp m e [(ask, (m : Int), plh e, [])]) (ho : 0 ≤ o ∧ o < 40) : ∀ (kk q : Nat) (W : St) (N1 : Nat) (c : List Ins) (es : Els), ITq ch n X W q o sc j t N1 r k sp cb c es → (k = 8 → kk + es.length = 20) → (k = 12 → kk + es.length = 4) → ¬ (es.length = 0 ∧ ty ch q = cl) → HH (DQ Q) (fun b : Nat × Out => CLq ch n X o sc j t b.1 sp cb Q b.2) (sList1 ch E o sc cl ask (kk + 1) es.length q c) → pr W Q := by
  have l44 : (44 : Int32).toInt = 44 := by decide
  have l93 : (93 : Int32).toInt = 93 := by decide
  have l41 : (41 : Int32).toInt = 41 := by decide
  have hi36 : ix r = t := ixn hr
  intro kk
  induction kk with
  | zero =>
    intro q W N1 c es h h8 h12 hz H
    rw [sList1] at H
    have H := H.q hz
    obtain ⟨gW, mW, nW, kW, ⟨f35, f36, f37⟩, ht, hT, hC⟩ := h
    have h27 : (W.1 27 t).toInt = (es.length : Int) := hC.2.1
    refine pr_full gW mW ?_ ?_
    · rw [f36, hi36, h27, f35]
      rcases hk with hk | hk
      · exact Or.inr ⟨hk.1, by have := h8 hk.1; omega⟩
      · exact Or.inl ⟨hk.1, by have := h12 hk.1; omega⟩
    · by_cases g : bgE (ty ch q) = true
      · exact (H.p ⟨rfl, g⟩).n
      · have H := H.q (fun z => g z.2)
        rw [hn _ _ _ _ (nb.mpr g)] at H
        exact H.n
  | succ kk ih =>
    intro q W N1 c es h h8 h12 hz H
    rw [sList1] at H
    have H := (H.q hz).q (fun z => absurd z.1 (Nat.succ_ne_zero kk))
    have hif : (k = 12 → ¬ es.length = 4) ∧ (k = 8 → ¬ es.length = 20) := ⟨fun e => by have := h12 e; omega, fun e => by have := h8 e; omega⟩
    have hi2 : es.length ≤ 4000 := by
      rcases hk with hk | hk
      · have := h8 hk.1; omega
      · have := h12 hk.1; omega
    refine b_item hE h hr (by omega) hi2 hif ho (H.b.m (fun a H => ?_))
    rintro x2 Z N2 i2 gZ mZ kZ ⟨z35, z36⟩ htN zT ⟨u, e, pe, z37, zC⟩
    have zC1 := zC [(ask, (es.length : Int), plh e, [])] sp (fun _ _ _ _ x => x) (hsp _ _)
    have le : (es ++ [(u, N2, e, [((ask, (es.length : Int), plh e, []) : Ins)])]).length = es.length + 1 := by rw [List.length_append, List.length_singleton]
    refine pw_neg (by omega) ?_
    unfold f_endsWithin_232
    refine pw_pos rfl ?_
    unfold f_endsWithin_245
    refine pw_bd (q_isSign gZ.1 (by decide)) ?_
    rintro x37 X38 ⟨rfl, h37⟩
    rw [l44] at h37
    refine pw_ite (fun c37 => ?_) (fun c37 => ?_)
    · have H := H.q (h37.mp c37)
      rw [pe] at H
      refine pw_pos rfl ?_
      rw [i2]
      refine pw_ck (fun _ => pw_let ?_)
      unfold f_endsWithin_291
      have H2 : HH (DQ Q) (fun q2 => CLq ch n X o sc j t (es ++ [(u, N2, e, [((ask, (es.length : Int), plh e, []) : Ins)])]).length sp cb Q (q2, a.2 ++ [(ask, (es.length : Int), plh e, [])])) (sWant ch cl a.1) := by
        rw [le]
        exact H.b.m (fun q2 H => H.s)
      rcases hk with ⟨hk, hcl⟩ | ⟨hk, hcl⟩
      · refine pw_pos (by omega) ?_
        exact pw_bd (b_shut2 (X := X) (t := t) (by decide) gZ ⟨by omega, by omega⟩ (mZ.cd (fun p => NPl.snoc hask)) kZ hr htN zT zC1 (by rw [l93, ← hcl]; exact H2)) (fun _ W h => pw_ret h)
      · refine pw_neg (by omega) ?_
        exact pw_bd (b_shut2 (X := X) (t := t) (by decide) gZ ⟨by omega, by omega⟩ (mZ.cd (fun p => NPl.snoc hask)) kZ hr htN zT zC1 (by rw [l41, ← hcl]; exact H2)) (fun _ W h => pw_ret h)
    · have y44 : ty ch a.1 = 44 := Classical.byContradiction (fun z => c37 (h37.mpr z))
      have H := H.p y44
      rw [pe] at H
      refine pw_bd (x_next gZ) ?_
      rintro _ X41 ⟨g41, t41⟩
      refine pw_eq (fun X42 e42 => ?_)
      refine pw_ret ?_
      have rr : ∀ e m, 20 ≤ e → X42.1 e m = X38.1 e m := fun e m he => by rw [e42, wI_ne _ _ _ _ _ _ (by omega)]; exact t41.r e m (by omega)
      have k42 : ∀ {S : St} {N s : Nat}, KP S X38 (j + 1) N s → KP S X42 (j + 1) N s := fun kS => by rw [e42]; exact (kS.tn t41).wI (by unfold KPs; omega)
      refine ih (nx ch a.1) X42 N2 (a.2 ++ [(ask, (es.length : Int), plh e, [])]) (es ++ [(u, N2, e, [(ask, (es.length : Int), plh e, [])])]) ⟨by rw [e42]; exact g41.wI (by omega), by rw [e42, wI_at]; rfl, ?_, k42 kZ, ⟨by rw [rr 35 _ (by omega)]; exact z35, by rw [rr 36 _ (by omega)]; exact z36, by rw [rr 37 _ (by omega), ela.ad]; exact z37⟩, htN, zT.eq (fun e he => rr e t he), zC1.cg gZ.kj (k42 (KP.rf (N := 0) (s := 0))).2.2.2 (fun e m he _ => rr e m he.1) (fun m _ => by rw [e42]; exact t41.2.1 29 m (by omega)) htN⟩ (fun e => by have := h8 e; omega) (fun e => by have := h12 e; omega) (fun z => by omega) (by rw [le]; exact H)
      rw [e42]; exact ((mZ.tn t41).wI (by omega)).cd (fun p => NPl.snoc hask)
end RLIST
