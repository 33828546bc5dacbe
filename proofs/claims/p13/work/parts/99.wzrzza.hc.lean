/-! the class's judge: which place a guard stands at -/
/-- nothing is laid since X0 -/
def HC0 (e : Nat) (X0 X : St) : Prop := (e = 2 ∨ e = 24) ∧ X.2 = X0.2 ∧ X.1 55 5 = X0.1 55 5 ∧ ∀ q, X.1 (e + 20) q = X0.1 (e + 20) q
/-- at most one guard is laid since X0, at place jg (where the table wasn't full) -/
def HC (e : Nat) (X0 : St) (jg : Nat) (X : St) : Prop := (e = 2 ∨ e = 24) ∧ X.2 = X0.2 ∧ (3000 ≤ (X0.1 55 5).toInt ∨ ((∀ q, ¬ q = jg → X.1 (e + 20) q = X0.1 (e + 20) q) ∧ (((X.1 55 5).toInt = (X0.1 55 5).toInt ∧ X.1 (e + 20) jg = X0.1 (e + 20) jg) ∨ ((X.1 55 5).toInt = (X0.1 55 5).toInt + 1 ∧ (X.1 (e + 20) jg).toInt = (X0.1 55 5).toInt))))
section HCS
variable {X0 X Y Z : St} {e o jg g m : Nat} {p1 p2 p3 p4 v : Int32}
theorem HC0.rf (he : e = 2 ∨ e = 24) : HC0 e X X := ⟨he, rfl, rfl, fun _ => rfl⟩
theorem HC0.hc (h : HC0 e X0 X) : HC e X0 jg X := ⟨h.1, h.2.1, Or.inr ⟨fun q _ => h.2.2.2 q, Or.inl ⟨by rw [h.2.2.1], h.2.2.2 jg⟩⟩⟩
theorem HC0.w {p q : Nat} {v : Int32} (h : HC0 e X0 X) (hp : (e = 2 ∨ e = 24) → ¬ p = e + 20 ∧ ¬ (p = 55 ∧ q = 5)) : HC0 e X0 (wI X p q v) := by
  obtain ⟨he, h2, h3, h4⟩ := h
  have hp := hp he
  exact ⟨he, h2, by rw [wI_ne _ _ _ _ _ _ (by omega)]; exact h3, fun q1 => by rw [wI_ne _ _ _ _ _ _ (by omega)]; exact h4 q1⟩
theorem HC.w {p q : Nat} {v : Int32} (h : HC e X0 jg X) (hp : (e = 2 ∨ e = 24) → ¬ p = e + 20 ∧ ¬ (p = 55 ∧ q = 5)) : HC e X0 jg (wI X p q v) := by
  obtain ⟨he, h2, h3⟩ := h
  have hp := hp he
  refine ⟨he, h2, ?_⟩
  rw [wI_ne _ _ _ _ _ _ (by omega)]
  rcases h3 with h3 | ⟨b, c⟩
  · exact Or.inl h3
  · refine Or.inr ⟨fun q1 hq => by rw [wI_ne _ _ _ _ _ _ (by omega)]; exact b q1 hq, ?_⟩
    rw [wI_ne _ _ _ _ _ _ (by omega)]
    exact c
theorem RQo.hc (hr : RQo e X0) (h : HC0 e X0 X) : RQo e X := ⟨hr.1, by rw [h.2.1]; exact hr.2.1, by rw [h.2.1]; exact hr.2.2⟩
theorem kyo20 (ho : o = 3 ∨ o = 25) : ∀ k ∈ [1, 2, 3, 4, 5, 6, 7], ¬ kY YC o k - 3 = o + 19 ∧ ¬ kY YC o k - 3 = 55 := by
  rcases ho with h | h <;> rw [h] <;> decide +kernel
theorem hc_add (ho : o = e + 1) (h0 : HC0 e X0 X) {o3 : Nat} : pw (g_Kinds_findOrAdd o p1 p2 o3 p3 p4 v X) (fun _ Y => HC0 e X0 Y) := by
  have ho3 : o = 3 ∨ o = 25 := by have := h0.1; omega
  have ky := kyo20 ho3
  have wk : ∀ (Z : St) (k q : Nat) (u : Int32), k ∈ [1, 2, 3, 4, 5, 6, 7] → HC0 e X0 Z → HC0 e X0 (wI Z (kY YC o k - 3) q u) := fun Z k q u hk h => h.w (fun _ => ⟨by have := (ky k hk).1; omega, fun z => (ky k hk).2 z.1⟩)
  have p172 : ∀ (M : Nat) (a2 a4 a7 a8 a9 a10 : Int32) (Z : St), HC0 e X0 Z → pw (g_Kinds_findOrAdd_172 M o a2 o3 a4 a7 a8 a9 a10 Z) (fun _ Y => HC0 e X0 Y) := by
    intro M
    induction M with
    | zero => exact fun _ _ _ _ _ _ _ _ => pw_none
    | succ M ih =>
      intro a2 a4 a7 a8 a9 a10 Z h
      have eu : g_Kinds_findOrAdd_172 (M + 1) = g_Kinds_findOrAdd_172_s (g_Kinds_findOrAdd_172 M) := by
        unfold g_Kinds_findOrAdd_172
        exact lp_succ _ _ _
      rw [eu]
      have p221 : ∀ (b0 : Int32) (W : St), HC0 e X0 W → pw (g_Kinds_findOrAdd_221 (g_Kinds_findOrAdd_172 M) o a2 o3 a4 a7 a8 a10 b0 W) (fun _ Y => HC0 e X0 Y) := fun b0 W hW => by
        unfold g_Kinds_findOrAdd_221
        exact pw_let (ih _ _ _ _ _ _ W hW)
      have p216 : ∀ (W : St), HC0 e X0 W → pw (g_Kinds_findOrAdd_216 (g_Kinds_findOrAdd_172 M) o a2 o3 a4 a7 a8 a10 W) (fun _ Y => HC0 e X0 Y) := fun W hW => by
        unfold g_Kinds_findOrAdd_216
        exact p221 _ W hW
      unfold g_Kinds_findOrAdd_172_s
      refine pw_ite (fun _ => ?_) (fun _ => ?_)
      · refine pw_let (pw_ck (fun _ => pw_let (pw_let (pw_let (pw_ck (fun _ => pw_let (pw_ck (fun _ => pw_let (pw_let (pw_ck (fun _ => pw_let (pw_ret ?_))))))))))))
        exact wk _ 6 _ _ (by decide) (wk _ 7 _ _ (by decide) (wk _ 5 _ _ (by decide) h))
      · refine pw_let (pw_let (pw_let (pw_let (pw_ck (fun _ => pw_let (pw_ck (fun _ => pw_eq (fun X33 e33 => ?_))))))))
        have h33 : HC0 e X0 X33 := by rw [e33]; exact wk _ 3 _ _ (by decide) h
        refine pw_ite (fun _ => pw_let (pw_ck (fun _ => pw_let (pw_bd (rk_has ho3) ?_)))) (fun _ => p216 _ h33)
        rintro x37 X38 ⟨e38, _⟩
        rw [e38]
        exact pw_ite (fun _ => p221 _ _ h33) (fun _ => p216 _ h33)
  have p167 : ∀ (b0 a2 a4 a7 a8 : Int32) (Z : St), HC0 e X0 Z → pw (g_Kinds_findOrAdd_167 o a2 o3 a4 a7 a8 b0 Z) (fun _ Y => HC0 e X0 Y) := fun b0 a2 a4 a7 a8 Z h => by
    unfold g_Kinds_findOrAdd_167
    exact p172 _ _ _ _ _ _ _ Z h
  have p77 : ∀ (a1 a2 a4 a5 a6 a7 : Int32), pw (g_Kinds_findOrAdd_77 o a1 a2 o3 a4 a5 a6 a7 X) (fun _ Y => HC0 e X0 Y) := fun a1 a2 a4 a5 a6 a7 => by
    unfold g_Kinds_findOrAdd_77 g_Kinds_findOrAdd_162 g_Kinds_findOrAdd_166
    refine pw_let (pw_ite (fun _ => ?_) (fun _ => pw_ret h0))
    refine pw_let (pw_let (pw_let (pw_let (pw_let (pw_ck (fun _ => pw_let (pw_let (pw_ck (fun _ => pw_let (pw_let (pw_ck (fun _ => pw_let (pw_let (pw_let (pw_let (pw_ck (fun _ => pw_eq (fun X19 e19 => ?_))))))))))))))))))
    have h19 : HC0 e X0 X19 := by
      rw [e19]
      exact wk _ 3 _ _ (by decide) (wk _ 4 _ _ (by decide) (wk _ 2 _ _ (by decide) (wk _ 1 _ _ (by decide) (h0.w (fun _ => by omega)))))
    refine pw_ite (fun _ => p167 _ _ _ _ _ _ h19) (fun _ => pw_ite (fun _ => p167 _ _ _ _ _ _ h19) (fun _ => pw_bd (rk_has ho3) ?_))
    rintro x39 X40 ⟨e40, _⟩
    rw [e40]
    exact pw_ite (fun _ => p167 _ _ _ _ _ _ h19) (fun _ => p167 _ _ _ _ _ _ h19)
  have p19 : ∀ (M : Nat) (a1 a2 a4 a5 a6 a7 a8 a9 : Int32), pw (g_Kinds_findOrAdd_19 M o a1 a2 o3 a4 a5 a6 a7 a8 a9 X) (fun _ Y => HC0 e X0 Y) := by
    intro M
    induction M with
    | zero => exact fun _ _ _ _ _ _ _ _ => pw_none
    | succ M ih =>
      intro a1 a2 a4 a5 a6 a7 a8 a9
      have eu : g_Kinds_findOrAdd_19 (M + 1) = g_Kinds_findOrAdd_19_s (g_Kinds_findOrAdd_19 M) := by
        unfold g_Kinds_findOrAdd_19
        exact lp_succ _ _ _
      rw [eu]
      have p62 : pw (g_Kinds_findOrAdd_62 (g_Kinds_findOrAdd_19 M) o a1 a2 o3 a4 a5 a6 a7 a8 a9 X) (fun _ Y => HC0 e X0 Y) := by
        unfold g_Kinds_findOrAdd_62
        exact pw_let (pw_ck (fun _ => pw_let (pw_let (ih _ _ _ _ _ _ _ _))))
      unfold g_Kinds_findOrAdd_19_s
      refine pw_ite (fun _ => p77 _ _ _ _ _ _) (fun _ => pw_ite (fun _ => p77 _ _ _ _ _ _) (fun _ => pw_let (pw_ck (fun _ => pw_let (pw_ite (fun _ => pw_bd rk_same (fun x46 X47 e47 => ?_)) (fun _ => p62))))))
      rw [e47]
      exact pw_ite (fun _ => p62) (fun _ => pw_ret h0)
  unfold g_Kinds_findOrAdd
  refine pw_bd (R := fun _ Y => Y = X) ?_ (fun x1 X2 e2 => ?_)
  · unfold g_Kinds_bucketOf
    exact pw_let (pw_let (pw_let (pw_let (pw_let (pw_ret rfl)))))
  · rw [e2]
    exact pw_let (pw_ck (fun _ => pw_let (p19 _ _ _ _ _ _ _ _ _)))
theorem hc_row (ho : o = e + 1) (h0 : HC0 e X0 X) : pw (g_Kinds_rowOf o v X) (fun _ Y => HC0 e X0 Y) := by
  unfold g_Kinds_rowOf
  refine pw_bd rk_code (fun x1 X2 e2 => ?_)
  rw [e2]
  exact pw_let (pw_let (pw_let (pw_bd (hc_add ho h0) (fun _ X7 h7 => pw_ret h7))))
theorem hc_refuse (h : HC e X0 jg X) : pw (g_Judging_refuse p1 p2 X) (fun _ Y => HC e X0 jg Y) := by
  unfold g_Judging_refuse
  exact pw_let (pw_ck (fun _ => pw_let (pw_let (pw_ck (fun _ => pw_let (pw_let (pw_ret ((h.w (fun _ => by omega)).w (fun _ => by omega)))))))))
theorem hc_set (h : HC e X0 jg X) : pw (g_Judging_setTop p1 X) (fun _ Y => HC e X0 jg Y) := by
  unfold g_Judging_setTop
  exact pw_let (pw_let (pw_let (pw_ck (fun _ => pw_let (pw_ret (h.w (fun _ => by omega)))))))
theorem hc_glay {p5 : Int32} : pw (g_Guards_lay p1 p2 p3 p4 p5 X) (fun z Y => (3000 ≤ (X.1 55 5).toInt ∧ Y = X) ∨ (¬ 3000 ≤ (X.1 55 5).toInt ∧ Y.2 = X.2 ∧ (∀ j k, ¬ (56 ≤ j ∧ j ≤ 60) → ¬ (j = 55 ∧ k = 5) → Y.1 j k = X.1 j k) ∧ (Y.1 55 5).toInt = (X.1 55 5).toInt + 1 ∧ z.toInt = (X.1 55 5).toInt)) := by
  have l1 : (1 : Int32).toInt = 1 := by decide
  unfold g_Guards_lay
  refine pw_let (pw_ite (fun c => ?_) (fun c => pw_ret (Or.inl ⟨by omega, rfl⟩)))
  refine pw_eq (fun x2 e2 => pw_ck (fun k2 => pw_eq (fun X3 e3 => pw_let (pw_ck (fun _ => pw_eq (fun X5 e5 => pw_let (pw_ck (fun _ => pw_eq (fun X7 e7 => pw_let (pw_ck (fun _ => pw_eq (fun X9 e9 => pw_let (pw_ck (fun _ => pw_eq (fun X11 e11 => pw_eq (fun x12 e12 => pw_eq (fun x13 e13 => pw_eq (fun X14 e14 => pw_eq (fun x15 e15 => pw_eq (fun x16 e16 => pw_ret (Or.inr ⟨by omega, ?_, ?_, ?_, ?_⟩)))))))))))))))))))))
  · rw [e14, e11, e9, e7, e5, e3]; rfl
  all_goals have r11 : ∀ j k, ¬ (56 ≤ j ∧ j ≤ 60) → X11.1 j k = X.1 j k := fun j k q => by rw [e11, wI_ne _ _ _ _ _ _ (by omega), e9, wI_ne _ _ _ _ _ _ (by omega), e7, wI_ne _ _ _ _ _ _ (by omega), e5, wI_ne _ _ _ _ _ _ (by omega), e3, wI_ne _ _ _ _ _ _ (by omega)]
  all_goals have v2 : 0 ≤ (X.1 55 5).toInt ∧ (X.1 55 5).toInt < 3000 := by rw [← e2]; exact k2
  all_goals have v13 : x13.toInt = (X.1 55 5).toInt + 1 := by rw [e13, e12, r11 55 5 (by omega), ti_add (by rw [l1]; omega) (by rw [l1]; omega), l1]
  · intro j k q1 q2
    rw [e14, wI_ne _ _ _ _ _ _ (by omega), r11 j k q1]
  · rw [e14, wI_at]
    exact v13
  · have v15 : x15.toInt = (X.1 55 5).toInt + 1 := by rw [e15, e14, wI_at]; exact v13
    rw [e16, ti_sub (by rw [v15, l1]; omega) (by rw [v15, l1]; omega), v15, l1]
    omega
theorem hc_lay (hr : RQo e X0) (ho : ix p1 = jg) (h : HC0 e X0 X) : pw (g_Judging_layGuard p1 p2 p3 p4 X) (fun _ Y => HC e X0 jg Y) := by
  have hr := hr.hc h
  have he := hr.1
  have k15 := (kYp he).2.2.2.1
  unfold g_Judging_layGuard
  refine pw_ck (fun _ => pw_to hr.p (pw_to k15 (pw_ck (fun _ => pw_ck (fun _ => pw_let (pw_let (pw_ck (fun _ => pw_let (pw_let (pw_bd hc_glay (fun x7 X8 h8 => pw_ck (fun _ => pw_eq (fun X9 e9 => pw_ret ?_)))))))))))))
  clear k15
  rw [ho] at e9
  obtain ⟨_, h2, h3, h4⟩ := h
  have e1 : X9.1 55 5 = X8.1 55 5 := by rw [e9, wI_ne _ _ _ _ _ _ (by omega)]
  have e2 : ∀ q, ¬ q = jg → X9.1 (e + 20) q = X8.1 (e + 20) q := fun q hq => by rw [e9, wI_ne _ _ _ _ _ _ (by omega)]
  have e3 : X9.2 = X8.2 := by rw [e9]; rfl
  rcases h8 with ⟨a, b⟩ | ⟨a, b, c, d, f⟩
  · exact ⟨he, by rw [e3, b]; exact h2, Or.inl (by rw [← h3]; exact a)⟩
  · refine ⟨he, by rw [e3, b]; exact h2, Or.inr ⟨fun q hq => by rw [e2 q hq, c (e + 20) q (by omega) (by omega)]; exact h4 q, Or.inr ⟨by rw [e1, d, h3], ?_⟩⟩⟩
    rw [e9, wI_at, f, h3]
theorem hc_meet (hr : RQo e X0) (ho : ix p1 = jg) (h : HC0 e X0 X) : pw (g_Judging_meet p1 p2 p3 X) (fun _ Y => HC e X0 jg Y) := by
  unfold g_Judging_meet
  refine pw_bd rk_below (fun x1 X2 e2 => ?_)
  rw [e2]
  refine pw_ck (fun _ => pw_to (hr.hc h).k (pw_bd (rk_fit _ _ _ _ _) (fun x4 X5 e5 => ?_)))
  rw [e5]
  refine pw_ite (fun _ => pw_bd (hc_refuse h.hc) (fun _ Y h => pw_ret h)) (fun _ => pw_ite (fun _ => pw_ret h.hc) (fun _ => pw_bd (hc_lay hr ho h) (fun _ X6 h6 => pw_bd (hc_set h6) (fun _ Y h => pw_ret h))))
theorem hc_form (hr : RQo e X0) (ho : ix p1 = jg) (h : HC0 e X0 X) : pw (g_Judging_meetForm p1 p2 p3 X) (fun _ Y => HC e X0 jg Y) := by
  unfold g_Judging_meetForm
  refine pw_bd rk_below (fun x1 X2 e2 => ?_)
  rw [e2]
  refine pw_ite (fun _ => pw_let (pw_bd (hc_lay hr ho h) (fun _ X6 h6 => pw_bd (hc_set h6) (fun _ Y h => pw_ret h)))) (fun _ => pw_ck (fun _ => pw_let (pw_bd rk_sort (fun x4 X5 e5 => ?_))))
  rw [e5]
  exact pw_ite (fun _ => pw_ret h.hc) (fun _ => pw_bd (hc_refuse h.hc) (fun _ Y h => pw_ret h))
theorem hc_39 (h : HC e X0 jg X) : pw (g_Judging_meetCalled_39 p1 X) (fun _ Y => HC e X0 jg Y) := by
  have p99 : ∀ b0 b1 : Int32, pw (g_Judging_meetCalled_99 b0 b1 X) (fun _ Y => HC e X0 jg Y) := fun b0 b1 => by
    unfold g_Judging_meetCalled_99
    exact pw_ck (fun _ => pw_let (pw_ret (h.w (fun _ => by omega))))
  have p62 : ∀ b0 : Int32, pw (g_Judging_meetCalled_62 p1 b0 X) (fun _ Y => HC e X0 jg Y) := fun b0 => by
    unfold g_Judging_meetCalled_62
    exact pw_let (pw_let (pw_let (pw_ite (fun _ => pw_let (p99 _ _)) (fun _ => pw_ck (fun _ => pw_let (pw_let (pw_let (pw_ck (fun _ => pw_let (p99 _ _))))))))))
  unfold g_Judging_meetCalled_39 g_Judging_meetCalled_61
  exact pw_ck (fun _ => pw_let (pw_let (pw_ck (fun _ => pw_let (pw_ite (fun _ => pw_ite (fun _ => p62 _) (fun _ => p62 _)) (fun _ => p62 _))))))
theorem hc_called (hr : RQo e X0) (ho : ix p1 = jg) (h : HC0 e X0 X) : pw (g_Judging_meetCalled p1 p2 X) (fun _ Y => HC e X0 jg Y) := by
  unfold g_Judging_meetCalled
  refine pw_let (pw_bd (hc_form hr ho h) (fun _ X2 h2 => pw_let (pw_ite (fun _ => pw_ck (fun _ => pw_let (pw_bd rk_below (fun x17 X18 e18 => ?_)))) (fun _ => hc_39 h2))))
  rw [e18]
  refine pw_bd rk_taken (fun x19 X20 e20 => ?_)
  rw [e20]
  exact pw_ite (fun _ => hc_39 h2) (fun _ => pw_bd (hc_refuse h2) (fun _ X21 h21 => hc_39 h21))
theorem hc_pop (h : HC0 e X0 X) : pw (g_Judging_pop X) (fun _ Y => HC0 e X0 Y) := by
  unfold g_Judging_pop
  exact pw_let (pw_ite (fun _ => pw_let (pw_let (pw_let (pw_let (pw_ck (fun _ => pw_let (pw_ret (h.w (fun _ => by omega)))))))) ) (fun _ => pw_ret h))
theorem hc_bind (h : HC0 e X0 X) : pw (g_Judging_bind p1 X) (fun _ Y => HC0 e X0 Y) := by
  unfold g_Judging_bind
  exact pw_bd (hc_pop h) (fun _ X2 h2 => pw_ite (fun _ => pw_ret h2) (fun _ => pw_ite (fun _ => pw_ret h2) (fun _ => pw_ck (fun _ => pw_let (pw_ret (h2.w (fun _ => by omega)))))))
theorem hc_30 (hr : RQo e X0) (h : HC0 e X0 X) : pw (g_Judging_push_30 v X) (fun _ Y => HC0 e X0 Y) := by
  have p66 : ∀ (b0 b1 : Int32) (Z : St), Z = X → pw (g_Judging_push_66 b0 b1 Z) (fun _ Y => HC0 e X0 Y) := fun b0 b1 Z z => by
    rw [z]
    unfold g_Judging_push_66
    exact pw_ck (fun _ => pw_let (pw_ret (h.w (fun _ => by omega))))
  have p61 : ∀ (b0 : Int32) (Z : St), Z = X → pw (g_Judging_push_61 b0 Z) (fun _ Y => HC0 e X0 Y) := fun b0 Z z => by
    unfold g_Judging_push_61
    exact p66 _ _ _ z
  unfold g_Judging_push_30
  exact pw_let (pw_let (pw_ck (fun _ => pw_let (pw_ite (fun _ => pw_ck (fun _ => pw_to (hr.hc h).k (pw_bd (rk_has (hr.hc h).ob) (fun _ _ z => pw_ite (fun _ => p66 _ _ _ z.1) (fun _ => p61 _ _ z.1))))) (fun _ => p61 _ _ rfl)))))
theorem hc_push (hr : RQo e X0) (h : HC0 e X0 X) : pw (g_Judging_push v X) (fun _ Y => HC0 e X0 Y) := by
  unfold g_Judging_push
  exact pw_let (pw_ite (fun _ => hc_30 hr h) (fun _ => pw_let (pw_ck (fun _ => pw_let (pw_let (pw_let (pw_let (hc_30 hr ((h.w (fun _ => by omega)).w (fun _ => by omega))))))))))
theorem hc_repl (hr : RQo e X0) (h : HC0 e X0 X) : pw (g_Judging_replace p1 p2 X) (fun _ Y => HC0 e X0 Y) := by
  unfold g_Judging_replace
  exact pw_let (pw_let (pw_let (pw_let (pw_bd (hc_push hr (h.w (fun _ => by omega))) (fun _ _ z => pw_ret z)))))
theorem hc_plain {o : Int} (hr : RQo e X0) (h : HC0 e X0 X) (h1 : p1.toInt = o) (ho : 0 ≤ o ∧ o ≤ 9 ∧ ¬ o = 8) : pw (g_Judging_judgePlain p1 p2 X) (fun _ Y => HC0 e X0 Y) := by
  have P0 : ∀ v : Int32, pw (g_Judging_push v X) (fun _ Y => HC0 e X0 Y) := fun v => hc_push hr h
  unfold g_Judging_judgePlain
  rw [h1]
  refine pw_ite (fun c => pw_ret h) (fun c0 => ?_)
  refine pw_ite (fun c => pw_bd (P0 _) (fun _ Y hY => pw_ret hY)) (fun c1 => ?_)
  refine pw_ite (fun c => pw_bd (P0 _) (fun _ Y hY => pw_ret hY)) (fun c2 => ?_)
  refine pw_ite (fun c => ?_) (fun c3 => ?_)
  · have q : ∀ v : Int32, pw (g_Judging_judgePlain_96 v X) (fun _ Y => HC0 e X0 Y) := fun v => by
      unfold g_Judging_judgePlain_96
      exact pw_bd (P0 _) (fun _ Y hY => pw_ret hY)
    unfold g_Judging_judgePlain_95
    exact pw_ite (fun _ => q _) (fun _ => pw_ite (fun _ => q _) (fun _ => pw_ck (fun _ => pw_let (q _))))
  refine pw_ite (fun c => ?_) (fun c4 => ?_)
  · have q : ∀ v : Int32, pw (g_Judging_judgePlain_123 v X) (fun _ Y => HC0 e X0 Y) := fun v => by
      unfold g_Judging_judgePlain_123
      exact pw_bd (P0 _) (fun _ Y hY => pw_ret hY)
    unfold g_Judging_judgePlain_122
    exact pw_ite (fun _ => q _) (fun _ => pw_ite (fun _ => q _) (fun _ => pw_ck (fun _ => pw_let (q _))))
  refine pw_ite (fun c => pw_bd (hc_bind h) (fun _ Y hY => pw_ret hY)) (fun c5 => ?_)
  refine pw_ite (fun c => pw_bd (hc_pop h) (fun _ Y hY => pw_ret hY)) (fun c6 => ?_)
  refine pw_ite (fun c => pw_ret h) (fun c7 => ?_)
  refine pw_ite (fun c => absurd c ho.2.2) (fun c8 => ?_)
  refine pw_ite (fun c => pw_bd (hc_pop h) (fun _ Y hY => pw_ret hY)) (fun c9 => ?_)
  exfalso
  omega
theorem hc_work (hr : RQo e X0) (h : HC0 e X0 X) : pw (g_Judging_judgeWork p1 p2 X) (fun _ Y => HC0 e X0 Y) := by
  have P0 : ∀ (m v : Int32), pw (g_Judging_replace m v X) (fun _ Y => HC0 e X0 Y) := fun m v => hc_repl hr h
  have hk := (hr.hc h).k
  unfold g_Judging_judgeWork
  refine pw_ite (fun c => ?_) (fun c11 => ?_)
  · refine pw_ck (fun _ => pw_to hk (pw_bd rk_below (fun x3 X4 e4 => ?_)))
    rw [e4]
    exact pw_bd (hc_row rfl h) (fun _ X6 h6 => pw_bd (hc_repl hr h6) (fun _ Y hY => pw_ret hY))
  refine pw_ite (fun c => pw_bd (P0 _ _) (fun _ Y hY => pw_ret hY)) (fun c12 => ?_)
  refine pw_ite (fun c => pw_bd (P0 _ _) (fun _ Y hY => pw_ret hY)) (fun c13 => ?_)
  refine pw_ite (fun c => ?_) (fun c14 => ?_)
  · refine pw_ck (fun _ => pw_let (pw_bd rk_below (fun x3 X4 e4 => ?_)))
    rw [e4]
    refine pw_bd rk_gives (fun x5 X6 e6 => ?_)
    rw [e6]
    exact pw_bd (P0 _ _) (fun _ Y hY => pw_ret hY)
  refine pw_ite (fun c => ?_) (fun c15 => ?_)
  · refine pw_ck (fun _ => pw_let (pw_bd rk_below (fun x3 X4 e4 => ?_)))
    rw [e4]
    refine pw_bd rk_gives (fun x5 X6 e6 => ?_)
    rw [e6]
    exact pw_bd (P0 _ _) (fun _ Y hY => pw_ret hY)
  refine pw_ite (fun c => ?_) (fun c16 => ?_)
  · refine pw_eq (fun x27 e27 => pw_ck (fun _ => pw_let (pw_bd rk_below (fun x3 X4 e4 => ?_))))
    rw [e4]
    refine pw_bd rk_gives (fun x5 X6 e6 => ?_)
    rw [e6]
    exact pw_bd (P0 _ _) (fun _ Y hY => pw_ret hY)
  refine pw_ite (fun c => pw_bd (hc_pop h) (fun _ Y hY => pw_ret hY)) (fun c17 => ?_)
  refine pw_ite (fun c => pw_bd (P0 _ _) (fun _ Y hY => pw_ret hY)) (fun c18 => ?_)
  refine pw_ite (fun c => pw_bd (P0 _ _) (fun _ Y hY => pw_ret hY)) (fun c19 => ?_)
  refine pw_ite (fun c => pw_bd (P0 _ _) (fun _ Y hY => pw_ret hY)) (fun c20 => ?_)
  refine pw_ite (fun c => pw_bd (P0 _ _) (fun _ Y hY => pw_ret hY)) (fun c21 => ?_)
  exact pw_bd (P0 _ _) (fun _ Y hY => pw_ret hY)
/-- an asking -/
theorem hc_ask (hr : RQo e X0) (ho : ix p1 = jg) (h : HC0 e X0 X) : pw (g_Judging_judgeAsking p1 X) (fun _ Y => HC e X0 jg Y) := by
  have hr1 := hr.hc h
  have he := hr1.1
  obtain ⟨_, k13, k14, _, _⟩ := kYp he
  unfold g_Judging_judgeAsking
  refine pw_ck (fun _ => pw_to hr1.p (pw_to k14 (pw_ck (fun _ => pw_let (pw_ck (fun _ => pw_to hr1.p (pw_to k13 (pw_ck (fun _ => ?_)))))))))
  clear k13 k14
  refine pw_eq (fun x6 e6 => ?_)
  refine pw_ite (fun _ => pw_let (pw_bd (hc_meet hr ho h) (fun _ Y hY => pw_ret hY))) (fun _ => ?_)
  refine pw_ite (fun _ => pw_let (pw_bd (hc_meet hr ho h) (fun _ Y hY => pw_ret hY))) (fun _ => ?_)
  refine pw_ite (fun _ => pw_bd (hc_form hr ho h) (fun _ Y hY => pw_ret hY)) (fun _ => ?_)
  refine pw_ite (fun _ => pw_bd (hc_called hr ho h) (fun _ Y hY => pw_ret hY)) (fun _ => ?_)
  refine pw_ite (fun _ => pw_bd (hc_called hr ho h) (fun _ Y hY => pw_ret hY)) (fun _ => ?_)
  refine pw_ite (fun _ => ?_) (fun _ => ?_)
  · refine pw_ck (fun _ => pw_let (pw_let (pw_bd rk_below (fun _ X23 e23 => ?_))))
    rw [e23]
    refine pw_bd rk_param (fun _ X25 e25 => ?_)
    rw [e25]
    refine pw_let (pw_bd rk_taker (fun _ X28 e28 => ?_))
    rw [e28]
    exact pw_bd (hc_meet hr ho h) (fun _ Y hY => pw_ret hY)
  refine pw_ite (fun _ => ?_) (fun _ => ?_)
  · refine pw_ck (fun _ => pw_let (pw_bd rk_below (fun _ X23 e23 => ?_)))
    rw [e23]
    refine pw_bd rk_gives (fun _ X25 e25 => ?_)
    rw [e25]
    exact pw_let (pw_bd (hc_meet hr ho h) (fun _ Y hY => pw_ret hY))
  have p211 : ∀ (a2 b0 b1 : Int32), pw (g_Judging_judgeAsking_211 p1 a2 b0 b1 X) (fun _ Y => HC e X0 jg Y) := fun a2 b0 b1 => by
    unfold g_Judging_judgeAsking_211
    refine pw_ck (fun _ => pw_eq (fun X42 e42 => pw_let (pw_bd rk_asTold (fun _ X45 e45 => ?_))))
    have h42 : HC0 e X0 X42 := by rw [e42]; exact h.w (fun _ => by omega)
    rw [e45]
    exact pw_let (pw_bd (hc_meet hr ho h42) (fun _ Y hY => pw_ret hY))
  have p206 : ∀ (a2 b0 : Int32), pw (g_Judging_judgeAsking_206 p1 a2 b0 X) (fun _ Y => HC e X0 jg Y) := fun a2 b0 => by
    unfold g_Judging_judgeAsking_206
    exact p211 _ _ _
  refine pw_ite (fun _ => ?_) (fun _ => ?_)
  · refine pw_let (pw_let (pw_ck (fun _ => pw_let (pw_ite (fun _ => pw_ck (fun _ => pw_to hr1.k (pw_let (pw_bd rk_asTold (fun _ X51 e51 => ?_))))) (fun _ => p206 _ _)))))
    rw [e51]
    refine pw_bd (rk_has hr1.ob) ?_
    rintro _ X53 ⟨e53, _⟩
    rw [e53]
    exact pw_ite (fun _ => p211 _ _ _) (fun _ => p206 _ _)
  refine pw_ite (fun _ => pw_let (pw_ck (fun _ => pw_let (pw_let (pw_bd (hc_meet hr ho h) (fun _ Y hY => pw_ret hY)))))) (fun _ => ?_)
  exact pw_let (pw_let (pw_let (pw_ck (fun _ => pw_let (pw_ret (h.w (fun _ => by omega)).hc)))))
end HCS
