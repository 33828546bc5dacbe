/-! the class's judge and where any stands: what each step leaves of row 62 -/
def R62 (X Y : St) : Prop := (∀ q, Y.1 62 q = X.1 62 q) ∧ Y.1 61 3 = X.1 61 3 ∧ Y.2 = X.2
/-- and of object 61 -/
def R61 (X Y : St) : Prop := R62 X Y ∧ Y.1 61 14 = X.1 61 14
/-- where the judge's objects stand -/
def RQo (e : Nat) (X : St) : Prop := (e = 2 ∨ e = 24) ∧ X.2.2 61 1 = e + 1 ∧ X.2.2 61 2 = e + 2
/-- no any in the kind v -/
def hAc (o : Nat) (X : St) (v : Int32) : Prop := v.toInt < 0 ∨ (X.1 o 0).toInt ≤ v.toInt ∨ (X.1 (o + 5) (ix v)).toInt = 0
/-- the kind on top of the stack has come into part g -/
def PUc (e : Nat) (X Y : St) (g : Nat) : Prop := (∀ q, ¬ q = g → Y.1 62 q = X.1 62 q) ∧ ((Y.1 62 g).toInt = 0 ↔ (X.1 62 g).toInt = 0 ∧ hAc (e + 1) Y (Y.1 67 (ix (Y.1 61 14 - 1))))
section R62S
variable {X0 X Y Z : St} {e o g m : Nat} {p1 p2 p3 p4 v : Int32} {ps : List Pt} {c : List Ins}
theorem R62.rf : R62 X X := ⟨fun _ => rfl, rfl, rfl⟩
theorem R62.tr (h : R62 X Y) (g : R62 Y Z) : R62 X Z := ⟨fun q => (g.1 q).trans (h.1 q), g.2.1.trans h.2.1, g.2.2.trans h.2.2⟩
theorem R62.w {p q : Nat} {v : Int32} (h : R62 X0 X) (hp : ¬ p = 62 ∧ ¬ (p = 61 ∧ q = 3)) : R62 X0 (wI X p q v) := ⟨fun q => (wI_ne _ _ _ _ _ _ (by omega)).trans (h.1 q), (wI_ne _ _ _ _ _ _ (by omega)).trans h.2.1, h.2.2⟩
theorem RQo.r (h : RQo e X) (g : R62 X Y) : RQo e Y := ⟨h.1, by rw [g.2.2]; exact h.2.1, by rw [g.2.2]; exact h.2.2⟩
theorem RQo.p (h : RQo e X) : X.2.2 61 1 - 1 = e := by rw [h.2.1]; rfl
theorem RQo.k (h : RQo e X) : X.2.2 61 2 - 1 = e + 1 := by rw [h.2.2]; rfl
theorem RQo.ob (h : RQo e X) : e + 1 = 3 ∨ e + 1 = 25 := by have := h.1; omega
theorem kyo (ho : o = 3 ∨ o = 25) : ∀ k ∈ [1, 2, 3, 4, 5, 6, 7], ¬ kY YC o k - 3 = 62 ∧ ¬ kY YC o k - 3 = 61 := by
  rcases ho with h | h <;> rw [h] <;> decide +kernel
theorem kyo5 (ho : o = 3 ∨ o = 25) : kY YC o 5 - 3 = o + 5 := by
  rcases ho with h | h <;> rw [h] <;> decide +kernel
theorem rk_has (ho : o = 3 ∨ o = 25) : pw (g_Kinds_hasAny o v X) (fun r Y => Y = X ∧ (r.toInt = 0 ↔ hAc o X v)) := by
  have l1 : ¬ (1 : Int32).toInt = 0 := by decide
  have l0 : (0 : Int32).toInt = 0 := by decide
  unfold g_Kinds_hasAny
  refine pw_ite (fun c => pw_ret ⟨rfl, fun _ => Or.inl c, fun _ => l0⟩) (fun c => pw_let (pw_ite (fun c1 => pw_ret ⟨rfl, fun _ => Or.inr (Or.inl c1), fun _ => l0⟩) (fun c1 => ?_)))
  refine pw_to (kyo5 ho) (pw_ck (fun _ => pw_let (pw_ite (fun c3 => pw_ret ⟨rfl, fun _ => Or.inr (Or.inr c3), fun _ => l0⟩) (fun c3 => pw_ret ⟨rfl, fun z => absurd z l1, fun z => ?_⟩))))
  rcases z with z | z | z
  · exact absurd z c
  · exact absurd z c1
  · exact absurd z c3
theorem rk_sort : pw (g_Kinds_sortOf o v X) (fun _ Y => Y = X) := by
  unfold g_Kinds_sortOf
  exact pw_ite (fun _ => pw_ret rfl) (fun _ => pw_let (pw_ite (fun _ => pw_ret rfl) (fun _ => pw_let (pw_ck (fun _ => pw_let (pw_ret rfl))))))
theorem rk_taken : pw (g_Kinds_takenBy o v X) (fun _ Y => Y = X) := by
  unfold g_Kinds_takenBy
  exact pw_ite (fun _ => pw_ret rfl) (fun _ => pw_let (pw_ite (fun _ => pw_ret rfl) (fun _ => pw_let (pw_ck (fun _ => pw_let (pw_ret rfl))))))
theorem rk_gives : pw (g_Kinds_givesOf o v X) (fun _ Y => Y = X) := by
  unfold g_Kinds_givesOf
  exact pw_ite (fun _ => pw_ret rfl) (fun _ => pw_let (pw_ite (fun _ => pw_ret rfl) (fun _ => pw_let (pw_let (pw_let (pw_ck (fun _ => pw_let (pw_ret rfl))))))))
theorem rk_code : pw (g_Kinds_codeOf o v X) (fun _ Y => Y = X) := by
  unfold g_Kinds_codeOf
  exact pw_ite (fun _ => pw_ret rfl) (fun _ => pw_let (pw_ite (fun _ => pw_ret rfl) (fun _ => pw_let (pw_ck (fun _ => pw_let (pw_ret rfl))))))
theorem rk_param : pw (g_Kinds_paramOf o p1 p2 X) (fun _ Y => Y = X) := by
  unfold g_Kinds_paramOf
  exact pw_ite (fun _ => pw_ret rfl) (fun _ => pw_let (pw_ite (fun _ => pw_ret rfl) (fun _ => pw_ite (fun _ => pw_ret rfl) (fun _ => pw_let (pw_ck (fun _ => pw_let (pw_ite (fun _ => pw_ret rfl) (fun _ => pw_let (pw_let (pw_let (pw_ck (fun _ => pw_let (pw_ret rfl)))))))))))))
/-- what leaves all as it was -/
def NSf (v : Nat → Int32 → Int32 → Int32 → St → Option (Int32 × St)) : Prop := ∀ o p1 p2 p3 X, pw (v o p1 p2 p3 X) (fun _ Y => Y = X)
theorem rk_fitB {vf : Nat → Int32 → Int32 → Int32 → St → Option (Int32 × St)} (hv : NSf vf) : NSf (g_Kinds_fit_b vf) := by
  have loop : ∀ (M : Nat) (o : Nat) (a3 a4 a5 a6 : Int32) (X : St), pw (g_Kinds_fit_9 vf M o a3 a4 a5 a6 X) (fun _ Y => Y = X) := by
    intro M
    induction M with
    | zero => exact fun _ _ _ _ _ _ => pw_none
    | succ M ih =>
      have lp79 : ∀ (N : Nat) (o : Nat) (a3 a4 a5 a6 a7 : Int32) (X : St), pw (g_Kinds_fit_79 vf (g_Kinds_fit_9 vf M) N o a3 a4 a5 a6 a7 X) (fun _ Y => Y = X) := by
        intro N
        induction N with
        | zero => exact fun _ _ _ _ _ _ _ => pw_none
        | succ N ih2 =>
          intro o a3 a4 a5 a6 a7 X
          have eu : g_Kinds_fit_79 vf (g_Kinds_fit_9 vf M) (N + 1) = g_Kinds_fit_79_s vf (g_Kinds_fit_9 vf M) (g_Kinds_fit_79 vf (g_Kinds_fit_9 vf M) N) := by
            unfold g_Kinds_fit_79
            exact lp_succ _ _ _
          rw [eu]
          unfold g_Kinds_fit_79_s
          refine pw_bd rk_taken (fun x9 X10 e10 => ?_)
          rw [e10]
          refine pw_ite (fun _ => pw_bd rk_gives (fun x11 X12 e12 => ?_)) (fun _ => pw_bd rk_param (fun x16 X17 e17 => ?_))
          · rw [e12]
            refine pw_bd rk_gives (fun x13 X14 e14 => ?_)
            rw [e14]
            exact pw_let (ih _ _ _ _ _ _)
          · rw [e17]
            refine pw_bd rk_param (fun x18 X19 e19 => ?_)
            rw [e19]
            refine pw_let (pw_bd (hv _ _ _ _ _) (fun x21 X22 e22 => ?_))
            rw [e22]
            exact pw_ite (fun _ => pw_ret rfl) (fun _ => pw_let (ih2 _ _ _ _ _ _ _))
      intro o a3 a4 a5 a6 X
      have eu : g_Kinds_fit_9 vf (M + 1) = g_Kinds_fit_9_s vf (g_Kinds_fit_9 vf M) := by
        unfold g_Kinds_fit_9
        exact lp_succ _ _ _
      rw [eu]
      unfold g_Kinds_fit_9_s
      refine pw_ite (fun _ => pw_ret rfl) (fun _ => pw_ite (fun _ => pw_ret rfl) (fun _ => pw_ite (fun _ => pw_ret rfl) (fun _ => pw_ite (fun _ => pw_ret rfl) (fun _ => pw_bd rk_sort (fun x1 X2 e2 => ?_)))))
      rw [e2]
      refine pw_bd rk_sort (fun x3 X4 e4 => ?_)
      rw [e4]
      refine pw_ite (fun _ => pw_bd rk_taken (fun x5 X6 e6 => ?_)) (fun _ => pw_ret rfl)
      rw [e6]
      refine pw_bd rk_taken (fun x7 X8 e8 => ?_)
      rw [e8]
      exact pw_ite (fun _ => pw_ite (fun _ => lp79 _ _ _ _ _ _ _ _) (fun _ => pw_ret rfl)) (fun _ => pw_ret rfl)
  intro o p1 p2 p3 X
  unfold g_Kinds_fit_b
  exact loop _ _ _ _ _ _ _
theorem rk_fit : NSf g_Kinds_fit := by
  have h : ∀ N, NSf (rec_fit N) := by
    intro N
    unfold rec_fit
    exact lp_ind (γ := Nat → Int32 → Int32 → Int32 → St → Option (Int32 × St)) (P := fun r => NSf r) (fun _ _ _ _ _ => pw_none) (fun r ih => rk_fitB ih) N
  exact h 64
theorem rk_same {o3 : Nat} : pw (g_Kinds_isSame o p1 p2 o3 p3 p4 X) (fun _ Y => Y = X) := by
  have loop : ∀ (M : Nat) (a6 : Int32), pw (g_Kinds_isSame_30 M o p1 p2 o3 p3 a6 X) (fun _ Y => Y = X) := by
    intro M
    induction M with
    | zero => exact fun _ => pw_none
    | succ M ih =>
      intro a6
      have eu : g_Kinds_isSame_30 (M + 1) = g_Kinds_isSame_30_s (g_Kinds_isSame_30 M) := by
        unfold g_Kinds_isSame_30
        exact lp_succ _ _ _
      rw [eu]
      unfold g_Kinds_isSame_30_s
      exact pw_ite (fun _ => pw_ret rfl) (fun _ => pw_let (pw_let (pw_let (pw_ck (fun _ => pw_let (pw_let (pw_ck (fun _ => pw_let (pw_ite (fun _ => pw_let (ih _)) (fun _ => pw_ret rfl))))))))))
  unfold g_Kinds_isSame
  exact pw_let (pw_ck (fun _ => pw_let (pw_ite (fun _ => pw_let (pw_let (pw_let (pw_ck (fun _ => pw_let (pw_ite (fun _ => loop _ _) (fun _ => pw_ret rfl))))))) (fun _ => pw_ret rfl))))
theorem R61.rf : R61 X X := ⟨R62.rf, rfl⟩
theorem R61.w {p q : Nat} {v : Int32} (h : R61 X0 X) (hp : ¬ p = 62 ∧ ¬ p = 61) : R61 X0 (wI X p q v) := ⟨h.1.w (by omega), (wI_ne _ _ _ _ _ _ (by omega)).trans h.2⟩
/-- a kind is made -/
theorem rk_add (ho : o = 3 ∨ o = 25) {o3 : Nat} : pw (g_Kinds_findOrAdd o p1 p2 o3 p3 p4 v X) (fun _ Y => R61 X Y) := by
  have ky := kyo ho
  have wk : ∀ (Z : St) (k q : Nat) (u : Int32), k ∈ [1, 2, 3, 4, 5, 6, 7] → R61 X Z → R61 X (wI Z (kY YC o k - 3) q u) := fun Z k q u hk h => h.w ⟨(ky k hk).1, (ky k hk).2⟩
  have p172 : ∀ (M : Nat) (a2 a4 a7 a8 a9 a10 : Int32) (Z : St), R61 X Z → pw (g_Kinds_findOrAdd_172 M o a2 o3 a4 a7 a8 a9 a10 Z) (fun _ Y => R61 X Y) := by
    intro M
    induction M with
    | zero => exact fun _ _ _ _ _ _ _ _ => pw_none
    | succ M ih =>
      intro a2 a4 a7 a8 a9 a10 Z h
      have eu : g_Kinds_findOrAdd_172 (M + 1) = g_Kinds_findOrAdd_172_s (g_Kinds_findOrAdd_172 M) := by
        unfold g_Kinds_findOrAdd_172
        exact lp_succ _ _ _
      rw [eu]
      have p221 : ∀ (b0 : Int32) (W : St), R61 X W → pw (g_Kinds_findOrAdd_221 (g_Kinds_findOrAdd_172 M) o a2 o3 a4 a7 a8 a10 b0 W) (fun _ Y => R61 X Y) := fun b0 W hW => by
        unfold g_Kinds_findOrAdd_221
        exact pw_let (ih _ _ _ _ _ _ W hW)
      have p216 : ∀ (W : St), R61 X W → pw (g_Kinds_findOrAdd_216 (g_Kinds_findOrAdd_172 M) o a2 o3 a4 a7 a8 a10 W) (fun _ Y => R61 X Y) := fun W hW => by
        unfold g_Kinds_findOrAdd_216
        exact p221 _ W hW
      unfold g_Kinds_findOrAdd_172_s
      refine pw_ite (fun _ => ?_) (fun _ => ?_)
      · refine pw_let (pw_ck (fun _ => pw_let (pw_let (pw_let (pw_ck (fun _ => pw_let (pw_ck (fun _ => pw_let (pw_let (pw_ck (fun _ => pw_let (pw_ret ?_))))))))))))
        exact wk _ 6 _ _ (by decide) (wk _ 7 _ _ (by decide) (wk _ 5 _ _ (by decide) h))
      · refine pw_let (pw_let (pw_let (pw_let (pw_ck (fun _ => pw_let (pw_ck (fun _ => pw_eq (fun X33 e33 => ?_))))))))
        have h33 : R61 X X33 := by rw [e33]; exact wk _ 3 _ _ (by decide) h
        refine pw_ite (fun _ => pw_let (pw_ck (fun _ => pw_let (pw_bd (rk_has ho) ?_)))) (fun _ => p216 _ h33)
        rintro x37 X38 ⟨e38, _⟩
        rw [e38]
        exact pw_ite (fun _ => p221 _ _ h33) (fun _ => p216 _ h33)
  have p167 : ∀ (b0 a2 a4 a7 a8 : Int32) (Z : St), R61 X Z → pw (g_Kinds_findOrAdd_167 o a2 o3 a4 a7 a8 b0 Z) (fun _ Y => R61 X Y) := fun b0 a2 a4 a7 a8 Z h => by
    unfold g_Kinds_findOrAdd_167
    exact p172 _ _ _ _ _ _ _ Z h
  have p77 : ∀ (a1 a2 a4 a5 a6 a7 : Int32), pw (g_Kinds_findOrAdd_77 o a1 a2 o3 a4 a5 a6 a7 X) (fun _ Y => R61 X Y) := fun a1 a2 a4 a5 a6 a7 => by
    unfold g_Kinds_findOrAdd_77 g_Kinds_findOrAdd_162 g_Kinds_findOrAdd_166
    refine pw_let (pw_ite (fun _ => ?_) (fun _ => pw_ret R61.rf))
    refine pw_let (pw_let (pw_let (pw_let (pw_let (pw_ck (fun _ => pw_let (pw_let (pw_ck (fun _ => pw_let (pw_let (pw_ck (fun _ => pw_let (pw_let (pw_let (pw_let (pw_ck (fun _ => pw_eq (fun X19 e19 => ?_))))))))))))))))))
    have h19 : R61 X X19 := by
      rw [e19]
      exact wk _ 3 _ _ (by decide) (wk _ 4 _ _ (by decide) (wk _ 2 _ _ (by decide) (wk _ 1 _ _ (by decide) (R61.rf.w (by omega)))))
    refine pw_ite (fun _ => p167 _ _ _ _ _ _ h19) (fun _ => pw_ite (fun _ => p167 _ _ _ _ _ _ h19) (fun _ => pw_bd (rk_has ho) ?_))
    rintro x39 X40 ⟨e40, _⟩
    rw [e40]
    exact pw_ite (fun _ => p167 _ _ _ _ _ _ h19) (fun _ => p167 _ _ _ _ _ _ h19)
  have p19 : ∀ (M : Nat) (a1 a2 a4 a5 a6 a7 a8 a9 : Int32), pw (g_Kinds_findOrAdd_19 M o a1 a2 o3 a4 a5 a6 a7 a8 a9 X) (fun _ Y => R61 X Y) := by
    intro M
    induction M with
    | zero => exact fun _ _ _ _ _ _ _ _ => pw_none
    | succ M ih =>
      intro a1 a2 a4 a5 a6 a7 a8 a9
      have eu : g_Kinds_findOrAdd_19 (M + 1) = g_Kinds_findOrAdd_19_s (g_Kinds_findOrAdd_19 M) := by
        unfold g_Kinds_findOrAdd_19
        exact lp_succ _ _ _
      rw [eu]
      have p62 : pw (g_Kinds_findOrAdd_62 (g_Kinds_findOrAdd_19 M) o a1 a2 o3 a4 a5 a6 a7 a8 a9 X) (fun _ Y => R61 X Y) := by
        unfold g_Kinds_findOrAdd_62
        exact pw_let (pw_ck (fun _ => pw_let (pw_let (ih _ _ _ _ _ _ _ _))))
      unfold g_Kinds_findOrAdd_19_s
      refine pw_ite (fun _ => p77 _ _ _ _ _ _) (fun _ => pw_ite (fun _ => p77 _ _ _ _ _ _) (fun _ => pw_let (pw_ck (fun _ => pw_let (pw_ite (fun _ => pw_bd rk_same (fun x46 X47 e47 => ?_)) (fun _ => p62))))))
      rw [e47]
      exact pw_ite (fun _ => p62) (fun _ => pw_ret R61.rf)
  unfold g_Kinds_findOrAdd
  refine pw_bd (R := fun _ Y => Y = X) ?_ (fun x1 X2 e2 => ?_)
  · unfold g_Kinds_bucketOf
    exact pw_let (pw_let (pw_let (pw_let (pw_let (pw_ret rfl)))))
  · rw [e2]
    exact pw_let (pw_ck (fun _ => pw_let (p19 _ _ _ _ _ _ _ _ _)))
theorem rk_row14 (ho : o = 3 ∨ o = 25) : pw (g_Kinds_rowOf o v X) (fun _ Y => R62 X Y ∧ Y.1 61 14 = X.1 61 14) := by
  unfold g_Kinds_rowOf
  refine pw_bd rk_code (fun x1 X2 e2 => ?_)
  rw [e2]
  exact pw_let (pw_let (pw_let (pw_bd (rk_add ho) (fun _ X7 h7 => pw_ret h7))))
theorem rk_below : pw (g_Judging_below v X) (fun _ Y => Y = X) := by
  unfold g_Judging_below
  exact pw_let (pw_let (pw_let (pw_ite (fun _ => pw_ret rfl) (fun _ => pw_ck (fun _ => pw_let (pw_ret rfl))))))
theorem rk_taker : pw (g_Judging_takerBelow v X) (fun _ Y => Y = X) := by
  unfold g_Judging_takerBelow
  exact pw_let (pw_let (pw_let (pw_ite (fun _ => pw_let (pw_ret rfl)) (fun _ => pw_ck (fun _ => pw_let (pw_ret rfl))))))
theorem rk_asTold : pw (g_Judging_asTold p1 p2 X) (fun _ Y => Y = X) := by
  unfold g_Judging_asTold
  exact pw_ck (fun _ => pw_let (pw_let (pw_ck (fun _ => pw_let (pw_ite (fun _ => pw_ret rfl) (fun _ => pw_ret rfl))))))
theorem rj_refuse (h : R62 X0 X) : pw (g_Judging_refuse p1 p2 X) (fun _ Y => R62 X0 Y) := by
  unfold g_Judging_refuse
  exact pw_let (pw_ck (fun _ => pw_let (pw_let (pw_ck (fun _ => pw_let (pw_let (pw_ret ((h.w (by omega)).w (by omega)))))))))
theorem rj_set (h : R62 X0 X) : pw (g_Judging_setTop p1 X) (fun _ Y => R62 X0 Y) := by
  unfold g_Judging_setTop
  exact pw_let (pw_let (pw_let (pw_ck (fun _ => pw_let (pw_ret (h.w (by omega)))))))
theorem rj_glay {p5 : Int32} (h : R62 X0 X) : pw (g_Guards_lay p1 p2 p3 p4 p5 X) (fun _ Y => R62 X0 Y) := by
  unfold g_Guards_lay
  refine pw_let (pw_ite (fun _ => ?_) (fun _ => pw_ret h))
  refine pw_let (pw_ck (fun _ => pw_let (pw_let (pw_ck (fun _ => pw_let (pw_let (pw_ck (fun _ => pw_let (pw_let (pw_ck (fun _ => pw_let (pw_let (pw_ck (fun _ => pw_let (pw_let (pw_let (pw_let (pw_let (pw_let (pw_ret ?_))))))))))))))))))))
  exact (((((h.w (by omega)).w (by omega)).w (by omega)).w (by omega)).w (by omega)).w (by omega)
theorem rj_lay (hr : RQo e X) : pw (g_Judging_layGuard p1 p2 p3 p4 X) (fun _ Y => R62 X Y) := by
  have he := hr.1
  have k15 := (kYp he).2.2.2.1
  unfold g_Judging_layGuard
  refine pw_ck (fun _ => pw_to hr.p (pw_to k15 (pw_ck (fun _ => pw_ck (fun _ => pw_let (pw_let (pw_ck (fun _ => pw_let (pw_let (pw_bd (rj_glay R62.rf) (fun x7 X8 h8 => pw_ck (fun _ => pw_let (pw_ret (h8.w ?_))))))))))))))
  clear k15
  omega
theorem rj_meet (hr : RQo e X) : pw (g_Judging_meet p1 p2 p3 X) (fun _ Y => R62 X Y) := by
  unfold g_Judging_meet
  refine pw_bd rk_below (fun x1 X2 e2 => ?_)
  rw [e2]
  refine pw_ck (fun _ => pw_to hr.k (pw_bd (rk_fit _ _ _ _ _) (fun x4 X5 e5 => ?_)))
  rw [e5]
  refine pw_ite (fun _ => pw_bd (rj_refuse R62.rf) (fun _ Y h => pw_ret h)) (fun _ => pw_ite (fun _ => pw_ret R62.rf) (fun _ => pw_bd (rj_lay hr) (fun _ X6 h6 => pw_bd (rj_set h6) (fun _ Y h => pw_ret h))))
theorem rj_form (hr : RQo e X) : pw (g_Judging_meetForm p1 p2 p3 X) (fun _ Y => R62 X Y) := by
  unfold g_Judging_meetForm
  refine pw_bd rk_below (fun x1 X2 e2 => ?_)
  rw [e2]
  refine pw_ite (fun _ => pw_let (pw_bd (rj_lay hr) (fun _ X6 h6 => pw_bd (rj_set h6) (fun _ Y h => pw_ret h)))) (fun _ => pw_ck (fun _ => pw_let (pw_bd rk_sort (fun x4 X5 e5 => ?_))))
  rw [e5]
  exact pw_ite (fun _ => pw_ret R62.rf) (fun _ => pw_bd (rj_refuse R62.rf) (fun _ Y h => pw_ret h))
theorem rj_39 (h : R62 X0 X) : pw (g_Judging_meetCalled_39 p1 X) (fun _ Y => R62 X0 Y) := by
  have p99 : ∀ b0 b1 : Int32, pw (g_Judging_meetCalled_99 b0 b1 X) (fun _ Y => R62 X0 Y) := fun b0 b1 => by
    unfold g_Judging_meetCalled_99
    exact pw_ck (fun _ => pw_let (pw_ret (h.w (by omega))))
  have p62 : ∀ b0 : Int32, pw (g_Judging_meetCalled_62 p1 b0 X) (fun _ Y => R62 X0 Y) := fun b0 => by
    unfold g_Judging_meetCalled_62
    exact pw_let (pw_let (pw_let (pw_ite (fun _ => pw_let (p99 _ _)) (fun _ => pw_ck (fun _ => pw_let (pw_let (pw_let (pw_ck (fun _ => pw_let (p99 _ _))))))))))
  unfold g_Judging_meetCalled_39 g_Judging_meetCalled_61
  exact pw_ck (fun _ => pw_let (pw_let (pw_ck (fun _ => pw_let (pw_ite (fun _ => pw_ite (fun _ => p62 _) (fun _ => p62 _)) (fun _ => p62 _))))))
theorem rj_called (hr : RQo e X) : pw (g_Judging_meetCalled p1 p2 X) (fun _ Y => R62 X Y) := by
  unfold g_Judging_meetCalled
  refine pw_let (pw_bd (rj_form hr) (fun _ X2 h2 => pw_let (pw_ite (fun _ => pw_ck (fun _ => pw_let (pw_bd rk_below (fun x17 X18 e18 => ?_)))) (fun _ => rj_39 h2))))
  rw [e18]
  refine pw_bd rk_taken (fun x19 X20 e20 => ?_)
  rw [e20]
  exact pw_ite (fun _ => rj_39 h2) (fun _ => pw_bd (rj_refuse h2) (fun _ X21 h21 => rj_39 h21))
theorem rj_pop : pw (g_Judging_pop X) (fun _ Y => R62 X Y) := by
  unfold g_Judging_pop
  exact pw_let (pw_ite (fun _ => pw_let (pw_let (pw_let (pw_let (pw_ck (fun _ => pw_let (pw_ret (R62.rf.w (by omega)))))))) ) (fun _ => pw_ret R62.rf))
theorem rj_bind : pw (g_Judging_bind p1 X) (fun _ Y => R62 X Y) := by
  unfold g_Judging_bind
  exact pw_bd rj_pop (fun _ X2 h2 => pw_ite (fun _ => pw_ret h2) (fun _ => pw_ite (fun _ => pw_ret h2) (fun _ => pw_ck (fun _ => pw_let (pw_ret (h2.w (by omega)))))))
/-- many become one -/
theorem rj_mix (hr : RQo e X) (h14 : 0 ≤ (X.1 61 14).toInt ∧ (X.1 61 14).toInt < 3000) (hp : 0 ≤ p1.toInt) : pw (g_Judging_mix p1 X) (fun _ Y => R62 X Y ∧ 0 ≤ (Y.1 61 14).toInt ∧ (Y.1 61 14).toInt < 3000) := by
  have l0 : (0 : Int32).toInt = 0 := by decide
  have b1 := p1.toInt_lt
  have p131 : ∀ (a2 a3 a4 : Int32) (Z : St), 0 ≤ a2.toInt ∧ a2.toInt < 3000 → R62 X Z → pw (g_Judging_mix_131 a2 a3 a4 Z) (fun _ Y => R62 X Y ∧ 0 ≤ (Y.1 61 14).toInt ∧ (Y.1 61 14).toInt < 3000) := fun a2 a3 a4 Z ha h => by
    unfold g_Judging_mix_131
    refine pw_eq (fun X7 e7 => ?_)
    have q : R62 X X7 ∧ 0 ≤ (X7.1 61 14).toInt ∧ (X7.1 61 14).toInt < 3000 := ⟨by rw [e7]; exact h.w (by omega), by rw [e7, wI_at]; exact ha⟩
    exact pw_ite (fun _ => pw_ret q) (fun _ => pw_ret q)
  have p77 : ∀ (M : Nat) (a2 a3 a4 a5 : Int32) (Z : St), 0 ≤ a2.toInt ∧ a2.toInt < 3000 → R62 X Z → pw (g_Judging_mix_77 M a2 a3 a4 a5 Z) (fun _ Y => R62 X Y ∧ 0 ≤ (Y.1 61 14).toInt ∧ (Y.1 61 14).toInt < 3000) := by
    intro M
    induction M with
    | zero => exact fun _ _ _ _ _ _ _ => pw_none
    | succ M ih =>
      intro a2 a3 a4 a5 Z ha h
      have eu : g_Judging_mix_77 (M + 1) = g_Judging_mix_77_s (g_Judging_mix_77 M) := by
        unfold g_Judging_mix_77
        exact lp_succ _ _ _
      rw [eu]
      unfold g_Judging_mix_77_s g_Judging_mix_125
      refine pw_let (pw_ite (fun _ => p131 _ _ _ _ ha h) (fun _ => pw_ite (fun _ => pw_ck (fun _ => pw_let (pw_ite (fun _ => pw_let (ih _ _ _ _ _ ha h)) (fun _ => ?_)))) (fun _ => p131 _ _ _ _ ha h)))
      exact pw_ck (fun _ => pw_let (pw_ck (fun _ => pw_let (pw_let (pw_bd (rj_lay (hr.r h)) (fun _ X13 h13 => pw_let (ih _ _ _ _ _ ha (h.tr h13))))))))
  have p36 : ∀ (M : Nat) (a2 a3 a4 a5 : Int32), 0 ≤ a2.toInt ∧ a2.toInt < 3000 → pw (g_Judging_mix_36 M a2 a3 a4 a5 X) (fun _ Y => R62 X Y ∧ 0 ≤ (Y.1 61 14).toInt ∧ (Y.1 61 14).toInt < 3000) := by
    intro M
    induction M with
    | zero => exact fun _ _ _ _ _ => pw_none
    | succ M ih =>
      intro a2 a3 a4 a5 ha
      have eu : g_Judging_mix_36 (M + 1) = g_Judging_mix_36_s (g_Judging_mix_36 M) := by
        unfold g_Judging_mix_36
        exact lp_succ _ _ _
      rw [eu]
      unfold g_Judging_mix_36_s g_Judging_mix_65 g_Judging_mix_66
      exact pw_let (pw_ite (fun _ => p77 _ _ _ _ _ _ ha R62.rf) (fun _ => pw_ite (fun _ => pw_let (ih _ _ _ _ ha)) (fun _ => pw_ck (fun _ => pw_let (pw_ite (fun _ => pw_let (ih _ _ _ _ ha)) (fun _ => pw_let (ih _ _ _ _ ha)))))))
  unfold g_Judging_mix g_Judging_mix_29
  refine pw_let (pw_eq (fun x2 e2 => pw_eq (fun x3 e3 => ?_)))
  have v2 : x2.toInt = (X.1 61 14).toInt - p1.toInt := by rw [e2, ti_sub (by omega) (by omega)]
  have v3 : 0 ≤ x3.toInt ∧ x3.toInt < 3000 := by
    rw [e3]
    by_cases z : (0 : Int32) < x2
    · rw [if_pos z]
      have : (0 : Int32).toInt < x2.toInt := Int32.lt_iff_toInt_lt.mp z
      omega
    · rw [if_neg z]
      omega
  exact pw_let (pw_ite (fun _ => p36 _ _ _ _ _ v3) (fun _ => pw_ck (fun _ => pw_let (p36 _ _ _ _ _ v3))))
/-- onto the stack -/
theorem pu_30 (hr : RQo e X) (h3 : (X.1 61 3).toInt = (g : Int)) : pw (g_Judging_push_30 v X) (fun _ Y => (∀ j q, ¬ (j = 62 ∧ q = g) → Y.1 j q = X.1 j q) ∧ ((Y.1 62 g).toInt = 0 ↔ (X.1 62 g).toInt = 0 ∧ hAc (e + 1) X v)) := by
  have ig : ix (X.1 61 3) = g := ixn h3
  have p66 : ∀ b0 : Int32, ((b0 = 0 ∧ (X.1 62 g).toInt = 0 ∧ hAc (e + 1) X v) ∨ (b0 = 1 ∧ ¬ ((X.1 62 g).toInt = 0 ∧ hAc (e + 1) X v))) → pw (g_Judging_push_66 b0 (X.1 61 3) X) (fun _ Y => (∀ j q, ¬ (j = 62 ∧ q = g) → Y.1 j q = X.1 j q) ∧ ((Y.1 62 g).toInt = 0 ↔ (X.1 62 g).toInt = 0 ∧ hAc (e + 1) X v)) := fun b0 hb => by
    unfold g_Judging_push_66
    refine pw_ck (fun _ => pw_eq (fun X5 e5 => pw_ret ?_))
    rw [ig] at e5
    refine ⟨fun j q z => by rw [e5, wI_ne _ _ _ _ _ _ (by omega)], ?_⟩
    rw [e5, wI_at]
    rcases hb with ⟨z, y⟩ | ⟨z, y⟩
    · rw [z]
      exact ⟨fun _ => y, fun _ => nar8_0⟩
    · rw [z]
      exact ⟨fun u => absurd u nar8_1, fun u => absurd u y⟩
  unfold g_Judging_push_30 g_Judging_push_61
  refine pw_let (pw_let (pw_ck (fun _ => ?_)))
  rw [ig]
  refine pw_let (pw_ite (fun c => pw_ck (fun _ => pw_to hr.k (pw_bd (rk_has hr.ob) ?_))) (fun c => p66 1 (Or.inr ⟨rfl, fun z => c z.1⟩)))
  rintro x7 X8 ⟨e8, h8⟩
  rw [e8]
  exact pw_ite (fun c7 => p66 0 (Or.inl ⟨rfl, c, h8.mp c7⟩)) (fun c7 => p66 1 (Or.inr ⟨rfl, fun z => c7 (h8.mpr z.2)⟩))
theorem pu_pushc (hr : RQo e X) (h3 : (X.1 61 3).toInt = (g : Int)) (h14 : 0 ≤ (X.1 61 14).toInt ∧ (X.1 61 14).toInt < 3000) : pw (g_Judging_push v X) (fun _ Y => PUc e X Y g) := by
  have l1 : (1 : Int32).toInt = 1 := by decide
  have he := hr.1
  unfold g_Judging_push
  refine pw_let (pw_neg (by omega) (pw_eq (fun x9 e9 => pw_ck (fun _ => pw_eq (fun X10 e10 => pw_eq (fun x11 e11 => pw_eq (fun x12 e12 => pw_eq (fun X13 e13 => ?_))))))))
  have c11 : x11 = x9 := by rw [e11, e10, wI_ne _ _ _ _ _ _ (by omega), e9]
  have v9 : x9.toInt = (X.1 61 14).toInt := by rw [e9]
  have v12 : x12.toInt = x9.toInt + 1 := by rw [e12, c11, ti_add (by rw [l1]; omega) (by rw [l1]; omega), l1]
  have t14 : X13.1 61 14 - 1 = x9 := by
    rw [e13, wI_at]
    refine Int32.toInt_inj.mp ?_
    rw [ti_sub (by rw [l1]; omega) (by rw [l1]; omega), l1]
    omega
  have t67 : X13.1 67 (ix x9) = v := by rw [e13, wI_ne _ _ _ _ _ _ (by omega), e10, wI_at]
  have r13 : ∀ j q, ¬ j = 67 → ¬ (j = 61 ∧ q = 14) → X13.1 j q = X.1 j q := fun j q z1 z2 => by rw [e13, wI_ne _ _ _ _ _ _ (by omega), e10, wI_ne _ _ _ _ _ _ (by omega)]
  have s13 : X13.2 = X.2 := by rw [e13, e10]; rfl
  have hr13 : RQo e X13 := ⟨he, by rw [s13]; exact hr.2.1, by rw [s13]; exact hr.2.2⟩
  refine pw_mono (pu_30 (g := g) hr13 (by rw [r13 61 3 (by omega) (by omega)]; exact h3)) ?_
  rintro _ Y ⟨a, b⟩
  refine ⟨fun q hq => by rw [a 62 q (by omega), r13 62 q (by omega) (by omega)], ?_⟩
  rw [b, r13 62 g (by omega) (by omega), a 61 14 (by omega), t14, a 67 _ (by omega), t67]
  unfold hAc
  rw [a (e + 1) 0 (by omega), a (e + 1 + 5) _ (by omega)]
theorem PUc.pre (h : R62 X Z) (p : PUc e Z Y g) : PUc e X Y g := ⟨fun q hq => (p.1 q hq).trans (h.1 q), by rw [p.2, h.1 g]⟩
theorem pu_repl (hr : RQo e X) (h3 : (X.1 61 3).toInt = (g : Int)) (h14 : 0 ≤ (X.1 61 14).toInt ∧ (X.1 61 14).toInt < 3000) (hp : 0 ≤ p1.toInt) : pw (g_Judging_replace p1 v X) (fun _ Y => PUc e X Y g) := by
  have l0 : (0 : Int32).toInt = 0 := by decide
  have b1 := p1.toInt_lt
  unfold g_Judging_replace
  refine pw_let (pw_eq (fun x2 e2 => pw_eq (fun x3 e3 => pw_eq (fun X4 e4 => ?_))))
  have v2 : x2.toInt = (X.1 61 14).toInt - p1.toInt := by rw [e2, ti_sub (by omega) (by omega)]
  have v3 : 0 ≤ x3.toInt ∧ x3.toInt < 3000 := by
    rw [e3]
    by_cases z : (0 : Int32) < x2
    · rw [if_pos z]
      have : (0 : Int32).toInt < x2.toInt := Int32.lt_iff_toInt_lt.mp z
      omega
    · rw [if_neg z]
      omega
  have h4 : R62 X X4 := by rw [e4]; exact R62.rf.w (by omega)
  exact pw_bd (pu_pushc (g := g) (hr.r h4) (by rw [h4.2.1]; exact h3) (by rw [e4, wI_at]; exact v3)) (fun _ Y hY => pw_ret (hY.pre h4))
/-- what an instruction makes of row 62 -/
def PUr (e : Nat) (X Y : St) (g : Nat) (o : Int) : Prop := (pai o → PUc e X Y g) ∧ (¬ pai o → ¬ o = 34 → ∀ q, Y.1 62 q = X.1 62 q)
theorem PUr.p {o : Int} (ho : pai o) (h : PUc e X Y g) : PUr e X Y g o := ⟨fun _ => h, fun z => absurd ho z⟩
theorem PUr.n {o : Int} (ho : ¬ pai o) (h : R62 X Y) : PUr e X Y g o := ⟨fun z => absurd z ho, fun _ _ => h.1⟩
theorem pu_plain {o : Int} (hr : RQo e X) (h3 : (X.1 61 3).toInt = (g : Int)) (h14 : 0 ≤ (X.1 61 14).toInt) (h15 : pai o → (X.1 61 14).toInt < 3000) (h1 : p1.toInt = o) (ho : 0 ≤ o ∧ o ≤ 10) (h2 : o = 10 → 0 ≤ p2.toInt) : pw (g_Judging_judgePlain p1 p2 X) (fun _ Y => PUr e X Y g o) := by
  have l2 : (2 : Int32).toInt = 2 := by decide
  have P : ∀ (v : Int32) (Z : St), pai o → R62 X Z → 0 ≤ (Z.1 61 14).toInt ∧ (Z.1 61 14).toInt < 3000 → pw (g_Judging_push v Z) (fun _ Y => PUr e X Y g o) := fun v Z hp h hz => pw_mono (pu_pushc (g := g) (hr.r h) (by rw [h.2.1]; exact h3) hz) (fun _ Y hY => PUr.p hp (hY.pre h))
  have P0 : ∀ (v : Int32), pai o → pw (g_Judging_push v X) (fun _ Y => PUr e X Y g o) := fun v hp => P v X hp R62.rf ⟨h14, h15 hp⟩
  unfold g_Judging_judgePlain
  rw [h1]
  refine pw_ite (fun c => pw_ret (PUr.n (by unfold pai; omega) R62.rf)) (fun c0 => ?_)
  refine pw_ite (fun c => pw_bd (P0 _ (by unfold pai; omega)) (fun _ Y hY => pw_ret hY)) (fun c1 => ?_)
  refine pw_ite (fun c => pw_bd (P0 _ (by unfold pai; omega)) (fun _ Y hY => pw_ret hY)) (fun c2 => ?_)
  refine pw_ite (fun c => ?_) (fun c3 => ?_)
  · have q : ∀ v : Int32, pw (g_Judging_judgePlain_96 v X) (fun _ Y => PUr e X Y g o) := fun v => by
      unfold g_Judging_judgePlain_96
      exact pw_bd (P0 _ (by unfold pai; omega)) (fun _ Y hY => pw_ret hY)
    unfold g_Judging_judgePlain_95
    exact pw_ite (fun _ => q _) (fun _ => pw_ite (fun _ => q _) (fun _ => pw_ck (fun _ => pw_let (q _))))
  refine pw_ite (fun c => ?_) (fun c4 => ?_)
  · have q : ∀ v : Int32, pw (g_Judging_judgePlain_123 v X) (fun _ Y => PUr e X Y g o) := fun v => by
      unfold g_Judging_judgePlain_123
      exact pw_bd (P0 _ (by unfold pai; omega)) (fun _ Y hY => pw_ret hY)
    unfold g_Judging_judgePlain_122
    exact pw_ite (fun _ => q _) (fun _ => pw_ite (fun _ => q _) (fun _ => pw_ck (fun _ => pw_let (q _))))
  refine pw_ite (fun c => pw_bd rj_bind (fun _ Y hY => pw_ret (PUr.n (by unfold pai; omega) hY))) (fun c5 => ?_)
  refine pw_ite (fun c => pw_bd rj_pop (fun _ Y hY => pw_ret (PUr.n (by unfold pai; omega) hY))) (fun c6 => ?_)
  refine pw_ite (fun c => pw_ret (PUr.n (by unfold pai; omega) R62.rf)) (fun c7 => ?_)
  refine pw_ite (fun c => ?_) (fun c8 => ?_)
  · have hp : pai o := by unfold pai; omega
    refine pw_bd (rj_mix hr ⟨h14, h15 hp⟩ (by omega)) ?_
    rintro x19 X20 ⟨h20, a20⟩
    exact pw_bd (P _ _ hp h20 a20) (fun _ Y hY => pw_ret hY)
  refine pw_ite (fun c => pw_bd rj_pop (fun _ Y hY => pw_ret (PUr.n (by unfold pai; omega) hY))) (fun c9 => ?_)
  have hp : pai o := by unfold pai; omega
  refine pw_ck (fun _ => pw_to hr.k (pw_bd (rj_mix hr ⟨h14, h15 hp⟩ (h2 (by omega))) ?_))
  rintro x26 X27 ⟨h27, a27⟩
  refine pw_bd (rk_row14 hr.ob) ?_
  rintro x28 X29 ⟨h29, a29⟩
  exact pw_bd (P _ _ hp (h27.tr h29) (by rw [a29]; exact a27)) (fun _ Y hY => pw_ret hY)
theorem pu_work {o : Int} (hr : RQo e X) (h3 : (X.1 61 3).toInt = (g : Int)) (h14 : 0 ≤ (X.1 61 14).toInt) (h15 : pai o → (X.1 61 14).toInt < 3000) (h1 : p1.toInt = o) (ho : 11 ≤ o ∧ o ≤ 26) (h2 : o = 16 → 0 ≤ p2.toInt ∧ p2.toInt ≤ 3000) : pw (g_Judging_judgeWork p1 p2 X) (fun _ Y => PUr e X Y g o) := by
  have l1 : (1 : Int32).toInt = 1 := by decide
  have l2 : (2 : Int32).toInt = 2 := by decide
  have l3 : (3 : Int32).toInt = 3 := by decide
  have P : ∀ (m v : Int32) (Z : St), pai o → R62 X Z → Z.1 61 14 = X.1 61 14 → 0 ≤ m.toInt → pw (g_Judging_replace m v Z) (fun _ Y => PUr e X Y g o) := fun m v Z hp h hz hm => pw_mono (pu_repl (g := g) (hr.r h) (by rw [h.2.1]; exact h3) (by rw [hz]; exact ⟨h14, h15 hp⟩) hm) (fun _ Y hY => PUr.p hp (hY.pre h))
  have P0 : ∀ (m v : Int32), pai o → 0 ≤ m.toInt → pw (g_Judging_replace m v X) (fun _ Y => PUr e X Y g o) := fun m v hp hm => P m v X hp R62.rf rfl hm
  unfold g_Judging_judgeWork
  rw [h1]
  refine pw_ite (fun c => ?_) (fun c11 => ?_)
  · refine pw_ck (fun _ => pw_to hr.k (pw_bd rk_below (fun x3 X4 e4 => ?_)))
    rw [e4]
    refine pw_bd (rk_row14 hr.ob) ?_
    rintro x5 X6 ⟨h6, a6⟩
    exact pw_bd (P _ _ _ (by unfold pai; omega) h6 a6 (by omega)) (fun _ Y hY => pw_ret hY)
  refine pw_ite (fun c => pw_bd (P0 _ _ (by unfold pai; omega) (by omega)) (fun _ Y hY => pw_ret hY)) (fun c12 => ?_)
  refine pw_ite (fun c => pw_bd (P0 _ _ (by unfold pai; omega) (by omega)) (fun _ Y hY => pw_ret hY)) (fun c13 => ?_)
  refine pw_ite (fun c => ?_) (fun c14 => ?_)
  · refine pw_ck (fun _ => pw_let (pw_bd rk_below (fun x3 X4 e4 => ?_)))
    rw [e4]
    refine pw_bd rk_gives (fun x5 X6 e6 => ?_)
    rw [e6]
    exact pw_bd (P0 _ _ (by unfold pai; omega) (by omega)) (fun _ Y hY => pw_ret hY)
  refine pw_ite (fun c => ?_) (fun c15 => ?_)
  · refine pw_ck (fun _ => pw_let (pw_bd rk_below (fun x3 X4 e4 => ?_)))
    rw [e4]
    refine pw_bd rk_gives (fun x5 X6 e6 => ?_)
    rw [e6]
    exact pw_bd (P0 _ _ (by unfold pai; omega) (by omega)) (fun _ Y hY => pw_ret hY)
  refine pw_ite (fun c => ?_) (fun c16 => ?_)
  · have q := h2 c
    refine pw_eq (fun x27 e27 => pw_ck (fun _ => pw_let (pw_bd rk_below (fun x3 X4 e4 => ?_))))
    rw [e4]
    refine pw_bd rk_gives (fun x5 X6 e6 => ?_)
    rw [e6]
    exact pw_bd (P0 _ _ (by unfold pai; omega) (by rw [e27, ti_add (by rw [l1]; omega) (by rw [l1]; omega), l1]; omega)) (fun _ Y hY => pw_ret hY)
  refine pw_ite (fun c => pw_bd rj_pop (fun _ Y hY => pw_ret (PUr.n (by unfold pai; omega) hY))) (fun c17 => ?_)
  refine pw_ite (fun c => pw_bd (P0 _ _ (by unfold pai; omega) (by omega)) (fun _ Y hY => pw_ret hY)) (fun c18 => ?_)
  refine pw_ite (fun c => pw_bd (P0 _ _ (by unfold pai; omega) (by omega)) (fun _ Y hY => pw_ret hY)) (fun c19 => ?_)
  refine pw_ite (fun c => pw_bd (P0 _ _ (by unfold pai; omega) (by omega)) (fun _ Y hY => pw_ret hY)) (fun c20 => ?_)
  refine pw_ite (fun c => pw_bd (P0 _ _ (by unfold pai; omega) (by omega)) (fun _ Y hY => pw_ret hY)) (fun c21 => ?_)
  exact pw_bd (P0 _ _ (by unfold pai; omega) (by omega)) (fun _ Y hY => pw_ret hY)
/-- an asking that isn't a let's -/
theorem pu_ask {j : Nat} {a : Ins} (hr : RQo e X) (h1 : p1.toInt = (j : Int)) (hop : (X.1 (e + 18) j).toInt = a.1) (h34 : ¬ a.1 = 34) (h27 : 27 ≤ a.1) : pw (g_Judging_judgeAsking p1 X) (fun _ Y => PUr e X Y g a.1) := by
  have he := hr.1
  obtain ⟨_, k13, k14, _, _⟩ := kYp he
  have np : ¬ pai a.1 := by unfold pai; omega
  have N : ∀ Y : St, R62 X Y → PUr e X Y g a.1 := fun Y h => PUr.n np h
  unfold g_Judging_judgeAsking
  refine pw_ck (fun _ => pw_to hr.p (pw_to k14 (pw_ck (fun _ => pw_let (pw_ck (fun _ => pw_to hr.p (pw_to k13 (pw_ck (fun _ => ?_)))))))))
  clear k13 k14
  rw [ixn h1]
  refine pw_eq (fun x6 e6 => ?_)
  have v6 : x6.toInt = a.1 := by rw [e6]; exact hop
  rw [v6]
  refine pw_ite (fun _ => pw_let (pw_bd (rj_meet hr) (fun _ Y hY => pw_ret (N Y hY)))) (fun _ => ?_)
  refine pw_ite (fun _ => pw_let (pw_bd (rj_meet hr) (fun _ Y hY => pw_ret (N Y hY)))) (fun _ => ?_)
  refine pw_ite (fun _ => pw_bd (rj_form hr) (fun _ Y hY => pw_ret (N Y hY))) (fun _ => ?_)
  refine pw_ite (fun _ => pw_bd (rj_called hr) (fun _ Y hY => pw_ret (N Y hY))) (fun _ => ?_)
  refine pw_ite (fun _ => pw_bd (rj_called hr) (fun _ Y hY => pw_ret (N Y hY))) (fun _ => ?_)
  refine pw_ite (fun _ => ?_) (fun _ => ?_)
  · refine pw_ck (fun _ => pw_let (pw_let (pw_bd rk_below (fun _ X23 e23 => ?_))))
    rw [e23]
    refine pw_bd rk_param (fun _ X25 e25 => ?_)
    rw [e25]
    refine pw_let (pw_bd rk_taker (fun _ X28 e28 => ?_))
    rw [e28]
    exact pw_bd (rj_meet hr) (fun _ Y hY => pw_ret (N Y hY))
  refine pw_ite (fun _ => ?_) (fun _ => ?_)
  · refine pw_ck (fun _ => pw_let (pw_bd rk_below (fun _ X23 e23 => ?_)))
    rw [e23]
    refine pw_bd rk_gives (fun _ X25 e25 => ?_)
    rw [e25]
    exact pw_let (pw_bd (rj_meet hr) (fun _ Y hY => pw_ret (N Y hY)))
  refine pw_neg h34 ?_
  refine pw_ite (fun _ => pw_let (pw_ck (fun _ => pw_let (pw_let (pw_bd (rj_meet hr) (fun _ Y hY => pw_ret (N Y hY))))))) (fun _ => ?_)
  exact pw_let (pw_let (pw_let (pw_ck (fun _ => pw_let (pw_ret (N _ (R62.rf.w (by omega))))))))
end R62S
