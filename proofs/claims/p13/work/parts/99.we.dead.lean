/-! behind a fault the class's reader stays faulty -/
def fd (X : St) : Prop := ¬ (X.1 46 3).toInt = 0
theorem fd_w {X : St} {e k : Nat} {v : Int32} (h : fd X) (hk : ¬ (46 = e ∧ 3 = k)) : fd (wI X e k v) := by
  unfold fd
  rw [wI_ne _ _ _ _ _ _ hk]
  exact h
/-- an object of programs, or of their kinds -/
def PKo (e : Nat) : Prop := e = 2 ∨ e = 24 ∨ e = 3 ∨ e = 25
theorem PKo.of {e : Nat} (h : e = 2 ∨ e = 24) : PKo e := by
  rcases h with h | h
  · exact Or.inl h
  · exact Or.inr (Or.inl h)
theorem PKo.ne {e : Nat} (h : PKo e) : ¬ 46 = e := by
  rcases h with h | h | h | h <;> omega
theorem kY_49 {e : Nat} (h : PKo e) (k : Nat) : ¬ kY YC e k = 49 := by
  rcases Nat.lt_or_ge k 17 with g | g
  · have all : ∀ e ∈ [2, 24, 3, 25], ∀ k, k < 17 → ¬ kY YC e k = 49 := by decide +kernel
    exact all e (by rcases h with h | h | h | h <;> rw [h] <;> decide) k g
  · have hl : (eY YC e).2.2.2.length ≤ 17 := by
      have all : ∀ e ∈ [2, 24, 3, 25], (eY YC e).2.2.2.length ≤ 17 := by decide +kernel
      exact all e (by rcases h with h | h | h | h <;> rw [h] <;> decide)
    unfold kY
    rw [List.getD_eq_getElem?_getD, List.getElem?_eq_none (by omega)]
    decide
theorem PKo.row {e : Nat} (h : PKo e) (k : Nat) : ¬ 46 = kY YC e k - 3 := by
  have := kY_49 h k
  omega
theorem refO_24 {r : Nat} (h : refO YC r 4 17 = true) : r = 3 ∨ r = 25 := by
  obtain ⟨h0, h1, h2, h3⟩ := refO_spec h
  have all : ∀ e, e < YC.length → isOb YC e 4 17 = true → e = 2 ∨ e = 24 := by decide +kernel
  have hl : r - 1 < YC.length := eY_lt (by rw [h1]; decide)
  have := all (r - 1) hl (by unfold isOb; rw [h1, h2, h3]; rfl)
  omega
theorem PKo.kd {r : Nat} (h : refO YC r 4 17 = true) : PKo (kY YC (r - 1) 0 - 3) := by
  rcases refO_24 h with g | g
  · rw [g]; exact Or.inr (Or.inr (Or.inl (by decide +kernel)))
  · rw [g]; exact Or.inr (Or.inr (Or.inr (by decide +kernel)))
theorem refO_pk {r : Nat} (h : refO YC r 4 17 = true) : PKo (r - 1) := by
  rcases refO_24 h with g | g
  · rw [g]; exact Or.inl rfl
  · rw [g]; exact Or.inr (Or.inl rfl)
theorem z_Reader_refuseAt {p1 p2 : Int32} {X : St} (h : fd X) : pw (g_Reader_refuseAt p1 p2 X) (fun _ Y => fd Y) := by
  unfold g_Reader_refuseAt
  refine pw_let ?_
  exact pw_neg h (pw_ret h)
theorem f_Reader_refuse {p1 : Int32} (X : St) (h1 : ¬ p1.toInt = 0) : pw (g_Reader_refuse p1 X) (fun _ Y => fd Y) := by
  unfold g_Reader_refuse
  refine pw_eq (fun x1 _ => ?_)
  have h2 : pw (g_Reader_refuseAt p1 x1 X) (fun _ Y => fd Y) := by
    unfold g_Reader_refuseAt
    refine pw_let ?_
    refine pw_ite (fun _ => ?_) (fun h => pw_ret h)
    refine pw_eq (fun X2 e2 => ?_)
    refine pw_eq (fun X3 e3 => ?_)
    refine pw_ret ?_
    rw [e3, e2]
    unfold fd
    rw [wI_ne _ _ _ _ _ _ (by decide), wI_at]
    exact h1
  refine pw_bd h2 (fun _ X2 d2 => ?_)
  unfold g_Tokens_stop
  refine pw_bd (R := fun _ Y => fd Y) ?_ (fun _ X3 d3 => pw_ret d3)
  refine pw_eq (fun X3 e3 => ?_)
  refine pw_let ?_
  refine pw_eq (fun X5 e5 => ?_)
  have d3 : fd X3 := by rw [e3]; exact fd_w d2 (by decide)
  exact pw_ret (by rw [e5]; exact fd_w d3 (by decide))
theorem z_Reader_refuse {p1 : Int32} {X : St} (h : fd X) : pw (g_Reader_refuse p1 X) (fun _ Y => fd Y) := by
  unfold g_Reader_refuse
  refine pw_eq (fun x1 _ => ?_)
  refine pw_bd (z_Reader_refuseAt h) (fun _ X2 d2 => ?_)
  unfold g_Tokens_stop
  refine pw_bd (R := fun _ Y => fd Y) ?_ (fun _ X3 d3 => pw_ret d3)
  refine pw_eq (fun X3 e3 => ?_)
  refine pw_let ?_
  refine pw_eq (fun X5 e5 => ?_)
  have d3 : fd X3 := by rw [e3]; exact fd_w d2 (by decide)
  exact pw_ret (by rw [e5]; exact fd_w d3 (by decide))
theorem z_Kinds_bucketOf {p0 : Int32} {X : St} (h : fd X) : pw (g_Kinds_bucketOf p0 X) (fun _ Y => fd Y) := by
  unfold g_Kinds_bucketOf
  refine pw_eq (fun x1 _ => ?_)
  refine pw_eq (fun x2 _ => ?_)
  refine pw_eq (fun x3 _ => ?_)
  refine pw_eq (fun x4 _ => ?_)
  refine pw_eq (fun x5 _ => ?_)
  exact pw_ret h
theorem z_Kinds_codeOf {o0 : Nat} {p1 : Int32} (p_o0 : PKo o0) {X : St} (h : fd X) : pw (g_Kinds_codeOf o0 p1 X) (fun _ Y => fd Y) := by
  have ne46_o0 : ¬ 46 = o0 := PKo.ne p_o0
  unfold g_Kinds_codeOf
  refine pw_ite (fun _ => ?_) (fun _ => ?_)
  · exact pw_ret h
  · refine pw_eq (fun x1 _ => ?_)
    refine pw_ite (fun _ => ?_) (fun _ => ?_)
    · exact pw_ret h
    · refine pw_eq (fun e2 ee2 => ?_)
      have ne46_e2 : ¬ 46 = e2 := by rw [ee2]; exact PKo.row p_o0 4
      refine pw_ck (fun _ => ?_)
      refine pw_eq (fun x3 _ => ?_)
      exact pw_ret h
theorem z_Kinds_isSame_30 (N : Nat) : ∀ (e_0 : Nat) (a_1 : Int32) (a_2 : Int32) (e_3 : Nat) (a_4 : Int32) (a_6 : Int32) (X : St), PKo e_0 → fd X → pw (g_Kinds_isSame_30 N e_0 a_1 a_2 e_3 a_4 a_6 X) (fun _ Y => fd Y) := by
  unfold g_Kinds_isSame_30
  refine lp_ind (P := fun (r : Nat → Int32 → Int32 → Nat → Int32 → Int32 → St → Option (Int32 × St)) => ∀ (e_0 : Nat) (a_1 : Int32) (a_2 : Int32) (e_3 : Nat) (a_4 : Int32) (a_6 : Int32) (X : St), PKo e_0 → fd X → pw (r e_0 a_1 a_2 e_3 a_4 a_6 X) (fun _ Y => fd Y)) (fun _ _ _ _ _ _ _ _ _ => pw_none) (fun r ih e_0 a_1 a_2 e_3 a_4 a_6 X p_e_0 h => ?_) N
  have ne46_e_0 : ¬ 46 = e_0 := PKo.ne p_e_0
  unfold g_Kinds_isSame_30_s
  refine pw_ite (fun _ => ?_) (fun _ => ?_)
  · exact pw_ret h
  · refine pw_eq (fun e7 ee7 => ?_)
    have ne46_e7 : ¬ 46 = e7 := by rw [ee7]; exact PKo.row p_e_0 3
    refine pw_eq (fun x8 _ => ?_)
    refine pw_eq (fun x9 _ => ?_)
    refine pw_ck (fun _ => ?_)
    refine pw_eq (fun x10 _ => ?_)
    refine pw_eq (fun x11 _ => ?_)
    refine pw_ck (fun _ => ?_)
    refine pw_eq (fun x12 _ => ?_)
    refine pw_ite (fun _ => ?_) (fun _ => ?_)
    · refine pw_eq (fun x13 _ => ?_)
      exact ih _ _ _ _ _ _ _ p_e_0 h
    · exact pw_ret h
theorem z_Kinds_isSame {o0 : Nat} {p1 : Int32} {p2 : Int32} {o3 : Nat} {p4 : Int32} {p5 : Int32} (p_o0 : PKo o0) {X : St} (h : fd X) : pw (g_Kinds_isSame o0 p1 p2 o3 p4 p5 X) (fun _ Y => fd Y) := by
  have ne46_o0 : ¬ 46 = o0 := PKo.ne p_o0
  unfold g_Kinds_isSame
  refine pw_eq (fun e1 ee1 => ?_)
  have ne46_e1 : ¬ 46 = e1 := by rw [ee1]; exact PKo.row p_o0 2
  refine pw_ck (fun _ => ?_)
  refine pw_eq (fun x2 _ => ?_)
  refine pw_ite (fun _ => ?_) (fun _ => ?_)
  · refine pw_eq (fun e3 ee3 => ?_)
    have ne46_e3 : ¬ 46 = e3 := by rw [ee3]; exact PKo.row p_o0 3
    refine pw_eq (fun x4 _ => ?_)
    refine pw_eq (fun x5 _ => ?_)
    refine pw_ck (fun _ => ?_)
    refine pw_eq (fun x6 _ => ?_)
    refine pw_ite (fun _ => ?_) (fun _ => ?_)
    · exact z_Kinds_isSame_30 _ _ _ _ _ _ _ _ p_o0 h
    · exact pw_ret h
  · exact pw_ret h
theorem z_Kinds_hasAny {o0 : Nat} {p1 : Int32} (p_o0 : PKo o0) {X : St} (h : fd X) : pw (g_Kinds_hasAny o0 p1 X) (fun _ Y => fd Y) := by
  have ne46_o0 : ¬ 46 = o0 := PKo.ne p_o0
  unfold g_Kinds_hasAny
  refine pw_ite (fun _ => ?_) (fun _ => ?_)
  · exact pw_ret h
  · refine pw_eq (fun x1 _ => ?_)
    refine pw_ite (fun _ => ?_) (fun _ => ?_)
    · exact pw_ret h
    · refine pw_eq (fun e2 ee2 => ?_)
      have ne46_e2 : ¬ 46 = e2 := by rw [ee2]; exact PKo.row p_o0 5
      refine pw_ck (fun _ => ?_)
      refine pw_eq (fun x3 _ => ?_)
      refine pw_ite (fun _ => ?_) (fun _ => ?_)
      · exact pw_ret h
      · exact pw_ret h
theorem z_Kinds_findOrAdd_221 {r172 : Nat → Int32 → Nat → Int32 → Int32 → Int32 → Int32 → Int32 → St → Option (Int32 × St)} (hr172 : ∀ (q0 : Nat) (q1 : Int32) (q2 : Nat) (q3 : Int32) (q4 : Int32) (q5 : Int32) (q6 : Int32) (q7 : Int32) (X : St), PKo q0 → fd X → pw (r172 q0 q1 q2 q3 q4 q5 q6 q7 X) (fun _ Y => fd Y)) {e_0 : Nat} {a_2 : Int32} {e_3 : Nat} {a_4 : Int32} {a_7 : Int32} {a_8 : Int32} {a_10 : Int32} {b_0 : Int32} (p_e_0 : PKo e_0) {X : St} (h : fd X) : pw (g_Kinds_findOrAdd_221 r172 e_0 a_2 e_3 a_4 a_7 a_8 a_10 b_0 X) (fun _ Y => fd Y) := by
  have ne46_e_0 : ¬ 46 = e_0 := PKo.ne p_e_0
  unfold g_Kinds_findOrAdd_221
  refine pw_eq (fun x34 _ => ?_)
  exact hr172 _ _ _ _ _ _ _ _ _ p_e_0 h
theorem z_Kinds_findOrAdd_216 {r172 : Nat → Int32 → Nat → Int32 → Int32 → Int32 → Int32 → Int32 → St → Option (Int32 × St)} (hr172 : ∀ (q0 : Nat) (q1 : Int32) (q2 : Nat) (q3 : Int32) (q4 : Int32) (q5 : Int32) (q6 : Int32) (q7 : Int32) (X : St), PKo q0 → fd X → pw (r172 q0 q1 q2 q3 q4 q5 q6 q7 X) (fun _ Y => fd Y)) {e_0 : Nat} {a_2 : Int32} {e_3 : Nat} {a_4 : Int32} {a_7 : Int32} {a_8 : Int32} {a_10 : Int32} (p_e_0 : PKo e_0) {X : St} (h : fd X) : pw (g_Kinds_findOrAdd_216 r172 e_0 a_2 e_3 a_4 a_7 a_8 a_10 X) (fun _ Y => fd Y) := by
  have ne46_e_0 : ¬ 46 = e_0 := PKo.ne p_e_0
  unfold g_Kinds_findOrAdd_216
  exact z_Kinds_findOrAdd_221 hr172 p_e_0 h
theorem z_Kinds_findOrAdd_172 (N : Nat) : ∀ (e_0 : Nat) (a_2 : Int32) (e_3 : Nat) (a_4 : Int32) (a_7 : Int32) (a_8 : Int32) (a_9 : Int32) (a_10 : Int32) (X : St), PKo e_0 → fd X → pw (g_Kinds_findOrAdd_172 N e_0 a_2 e_3 a_4 a_7 a_8 a_9 a_10 X) (fun _ Y => fd Y) := by
  unfold g_Kinds_findOrAdd_172
  refine lp_ind (P := fun (r : Nat → Int32 → Nat → Int32 → Int32 → Int32 → Int32 → Int32 → St → Option (Int32 × St)) => ∀ (e_0 : Nat) (a_2 : Int32) (e_3 : Nat) (a_4 : Int32) (a_7 : Int32) (a_8 : Int32) (a_9 : Int32) (a_10 : Int32) (X : St), PKo e_0 → fd X → pw (r e_0 a_2 e_3 a_4 a_7 a_8 a_9 a_10 X) (fun _ Y => fd Y)) (fun _ _ _ _ _ _ _ _ _ _ _ => pw_none) (fun r ih e_0 a_2 e_3 a_4 a_7 a_8 a_9 a_10 X p_e_0 h => ?_) N
  have ne46_e_0 : ¬ 46 = e_0 := PKo.ne p_e_0
  unfold g_Kinds_findOrAdd_172_s
  refine pw_ite (fun _ => ?_) (fun _ => ?_)
  · refine pw_eq (fun e20 ee20 => ?_)
    have ne46_e20 : ¬ 46 = e20 := by rw [ee20]; exact PKo.row p_e_0 5
    refine pw_ck (fun _ => ?_)
    refine pw_eq (fun X21 eX21 => ?_)
    have dX21 : fd X21 := by rw [eX21]; exact fd_w h (fun g_ => ne46_e20 g_.1)
    refine pw_eq (fun e22 ee22 => ?_)
    have ne46_e22 : ¬ 46 = e22 := by rw [ee22]; exact PKo.row p_e_0 7
    refine pw_eq (fun e23 ee23 => ?_)
    have ne46_e23 : ¬ 46 = e23 := by rw [ee23]; exact PKo.row p_e_0 6
    refine pw_ck (fun _ => ?_)
    refine pw_eq (fun x24 _ => ?_)
    refine pw_ck (fun _ => ?_)
    refine pw_eq (fun X25 eX25 => ?_)
    have dX25 : fd X25 := by rw [eX25]; exact fd_w dX21 (fun g_ => ne46_e22 g_.1)
    refine pw_eq (fun e26 ee26 => ?_)
    have ne46_e26 : ¬ 46 = e26 := by rw [ee26]; exact PKo.row p_e_0 6
    refine pw_ck (fun _ => ?_)
    refine pw_eq (fun X27 eX27 => ?_)
    have dX27 : fd X27 := by rw [eX27]; exact fd_w dX25 (fun g_ => ne46_e26 g_.1)
    exact pw_ret dX27
  · refine pw_eq (fun e28 ee28 => ?_)
    have ne46_e28 : ¬ 46 = e28 := by rw [ee28]; exact PKo.row p_e_0 3
    refine pw_eq (fun x29 _ => ?_)
    refine pw_eq (fun x30 _ => ?_)
    refine pw_eq (fun x31 _ => ?_)
    refine pw_ck (fun _ => ?_)
    refine pw_eq (fun x32 _ => ?_)
    refine pw_ck (fun _ => ?_)
    refine pw_eq (fun X33 eX33 => ?_)
    have dX33 : fd X33 := by rw [eX33]; exact fd_w h (fun g_ => ne46_e28 g_.1)
    refine pw_ite (fun _ => ?_) (fun _ => ?_)
    · refine pw_eq (fun x35 _ => ?_)
      refine pw_ck (fun _ => ?_)
      refine pw_eq (fun x36 _ => ?_)
      refine pw_bd (z_Kinds_hasAny p_e_0 dX33) (fun x37 X38 dX38 => ?_)
      refine pw_ite (fun _ => ?_) (fun _ => ?_)
      · exact z_Kinds_findOrAdd_221 ih p_e_0 dX38
      · exact z_Kinds_findOrAdd_216 ih p_e_0 dX38
    · exact z_Kinds_findOrAdd_216 ih p_e_0 dX33
theorem z_Kinds_findOrAdd_167 {e_0 : Nat} {a_2 : Int32} {e_3 : Nat} {a_4 : Int32} {a_7 : Int32} {a_8 : Int32} {b_0 : Int32} (p_e_0 : PKo e_0) {X : St} (h : fd X) : pw (g_Kinds_findOrAdd_167 e_0 a_2 e_3 a_4 a_7 a_8 b_0 X) (fun _ Y => fd Y) := by
  have ne46_e_0 : ¬ 46 = e_0 := PKo.ne p_e_0
  unfold g_Kinds_findOrAdd_167
  exact z_Kinds_findOrAdd_172 _ _ _ _ _ _ _ _ _ _ p_e_0 h
theorem z_Kinds_findOrAdd_162 {e_0 : Nat} {a_2 : Int32} {e_3 : Nat} {a_4 : Int32} {a_7 : Int32} {a_8 : Int32} (p_e_0 : PKo e_0) {X : St} (h : fd X) : pw (g_Kinds_findOrAdd_162 e_0 a_2 e_3 a_4 a_7 a_8 X) (fun _ Y => fd Y) := by
  have ne46_e_0 : ¬ 46 = e_0 := PKo.ne p_e_0
  unfold g_Kinds_findOrAdd_162
  exact z_Kinds_findOrAdd_167 p_e_0 h
theorem z_Kinds_findOrAdd_166 {e_0 : Nat} {a_2 : Int32} {e_3 : Nat} {a_4 : Int32} {a_7 : Int32} {a_8 : Int32} (p_e_0 : PKo e_0) {X : St} (h : fd X) : pw (g_Kinds_findOrAdd_166 e_0 a_2 e_3 a_4 a_7 a_8 X) (fun _ Y => fd Y) := by
  have ne46_e_0 : ¬ 46 = e_0 := PKo.ne p_e_0
  unfold g_Kinds_findOrAdd_166
  exact z_Kinds_findOrAdd_167 p_e_0 h
theorem z_Kinds_findOrAdd_77 {e_0 : Nat} {a_1 : Int32} {a_2 : Int32} {e_3 : Nat} {a_4 : Int32} {a_5 : Int32} {a_6 : Int32} {a_7 : Int32} (p_e_0 : PKo e_0) {X : St} (h : fd X) : pw (g_Kinds_findOrAdd_77 e_0 a_1 a_2 e_3 a_4 a_5 a_6 a_7 X) (fun _ Y => fd Y) := by
  have ne46_e_0 : ¬ 46 = e_0 := PKo.ne p_e_0
  unfold g_Kinds_findOrAdd_77
  refine pw_eq (fun x5 _ => ?_)
  refine pw_ite (fun _ => ?_) (fun _ => ?_)
  · refine pw_eq (fun x6 _ => ?_)
    refine pw_eq (fun x7 _ => ?_)
    refine pw_eq (fun x8 _ => ?_)
    refine pw_eq (fun X9 eX9 => ?_)
    have dX9 : fd X9 := by rw [eX9]; exact fd_w h (fun g_ => ne46_e_0 g_.1)
    refine pw_eq (fun e10 ee10 => ?_)
    have ne46_e10 : ¬ 46 = e10 := by rw [ee10]; exact PKo.row p_e_0 1
    refine pw_ck (fun _ => ?_)
    refine pw_eq (fun X11 eX11 => ?_)
    have dX11 : fd X11 := by rw [eX11]; exact fd_w dX9 (fun g_ => ne46_e10 g_.1)
    refine pw_eq (fun e12 ee12 => ?_)
    have ne46_e12 : ¬ 46 = e12 := by rw [ee12]; exact PKo.row p_e_0 2
    refine pw_ck (fun _ => ?_)
    refine pw_eq (fun X13 eX13 => ?_)
    have dX13 : fd X13 := by rw [eX13]; exact fd_w dX11 (fun g_ => ne46_e12 g_.1)
    refine pw_eq (fun e14 ee14 => ?_)
    have ne46_e14 : ¬ 46 = e14 := by rw [ee14]; exact PKo.row p_e_0 4
    refine pw_ck (fun _ => ?_)
    refine pw_eq (fun X15 eX15 => ?_)
    have dX15 : fd X15 := by rw [eX15]; exact fd_w dX13 (fun g_ => ne46_e14 g_.1)
    refine pw_eq (fun e16 ee16 => ?_)
    have ne46_e16 : ¬ 46 = e16 := by rw [ee16]; exact PKo.row p_e_0 3
    refine pw_eq (fun x17 _ => ?_)
    refine pw_eq (fun x18 _ => ?_)
    refine pw_ck (fun _ => ?_)
    refine pw_eq (fun X19 eX19 => ?_)
    have dX19 : fd X19 := by rw [eX19]; exact fd_w dX15 (fun g_ => ne46_e16 g_.1)
    refine pw_ite (fun _ => ?_) (fun _ => ?_)
    · exact z_Kinds_findOrAdd_162 p_e_0 dX19
    · refine pw_ite (fun _ => ?_) (fun _ => ?_)
      · exact z_Kinds_findOrAdd_166 p_e_0 dX19
      · refine pw_bd (z_Kinds_hasAny p_e_0 dX19) (fun x39 X40 dX40 => ?_)
        refine pw_ite (fun _ => ?_) (fun _ => ?_)
        · exact z_Kinds_findOrAdd_166 p_e_0 dX40
        · exact z_Kinds_findOrAdd_162 p_e_0 dX40
  · exact pw_ret h
theorem z_Kinds_findOrAdd_62 {r19 : Nat → Int32 → Int32 → Nat → Int32 → Int32 → Int32 → Int32 → Int32 → Int32 → St → Option (Int32 × St)} (hr19 : ∀ (q0 : Nat) (q1 : Int32) (q2 : Int32) (q3 : Nat) (q4 : Int32) (q5 : Int32) (q6 : Int32) (q7 : Int32) (q8 : Int32) (q9 : Int32) (X : St), PKo q0 → fd X → pw (r19 q0 q1 q2 q3 q4 q5 q6 q7 q8 q9 X) (fun _ Y => fd Y)) {e_0 : Nat} {a_1 : Int32} {a_2 : Int32} {e_3 : Nat} {a_4 : Int32} {a_5 : Int32} {a_6 : Int32} {a_7 : Int32} {a_8 : Int32} {a_9 : Int32} (p_e_0 : PKo e_0) {X : St} (h : fd X) : pw (g_Kinds_findOrAdd_62 r19 e_0 a_1 a_2 e_3 a_4 a_5 a_6 a_7 a_8 a_9 X) (fun _ Y => fd Y) := by
  have ne46_e_0 : ¬ 46 = e_0 := PKo.ne p_e_0
  unfold g_Kinds_findOrAdd_62
  refine pw_eq (fun e43 ee43 => ?_)
  have ne46_e43 : ¬ 46 = e43 := by rw [ee43]; exact PKo.row p_e_0 7
  refine pw_ck (fun _ => ?_)
  refine pw_eq (fun x44 _ => ?_)
  refine pw_eq (fun x45 _ => ?_)
  exact hr19 _ _ _ _ _ _ _ _ _ _ _ p_e_0 h
theorem z_Kinds_findOrAdd_19 (N : Nat) : ∀ (e_0 : Nat) (a_1 : Int32) (a_2 : Int32) (e_3 : Nat) (a_4 : Int32) (a_5 : Int32) (a_6 : Int32) (a_7 : Int32) (a_8 : Int32) (a_9 : Int32) (X : St), PKo e_0 → fd X → pw (g_Kinds_findOrAdd_19 N e_0 a_1 a_2 e_3 a_4 a_5 a_6 a_7 a_8 a_9 X) (fun _ Y => fd Y) := by
  unfold g_Kinds_findOrAdd_19
  refine lp_ind (P := fun (r : Nat → Int32 → Int32 → Nat → Int32 → Int32 → Int32 → Int32 → Int32 → Int32 → St → Option (Int32 × St)) => ∀ (e_0 : Nat) (a_1 : Int32) (a_2 : Int32) (e_3 : Nat) (a_4 : Int32) (a_5 : Int32) (a_6 : Int32) (a_7 : Int32) (a_8 : Int32) (a_9 : Int32) (X : St), PKo e_0 → fd X → pw (r e_0 a_1 a_2 e_3 a_4 a_5 a_6 a_7 a_8 a_9 X) (fun _ Y => fd Y)) (fun _ _ _ _ _ _ _ _ _ _ _ _ _ => pw_none) (fun r ih e_0 a_1 a_2 e_3 a_4 a_5 a_6 a_7 a_8 a_9 X p_e_0 h => ?_) N
  have ne46_e_0 : ¬ 46 = e_0 := PKo.ne p_e_0
  unfold g_Kinds_findOrAdd_19_s
  refine pw_ite (fun _ => ?_) (fun _ => ?_)
  · exact z_Kinds_findOrAdd_77 p_e_0 h
  · refine pw_ite (fun _ => ?_) (fun _ => ?_)
    · exact z_Kinds_findOrAdd_77 p_e_0 h
    · refine pw_eq (fun e41 ee41 => ?_)
      have ne46_e41 : ¬ 46 = e41 := by rw [ee41]; exact PKo.row p_e_0 1
      refine pw_ck (fun _ => ?_)
      refine pw_eq (fun x42 _ => ?_)
      refine pw_ite (fun _ => ?_) (fun _ => ?_)
      · refine pw_bd (z_Kinds_isSame p_e_0 h) (fun x46 X47 dX47 => ?_)
        refine pw_ite (fun _ => ?_) (fun _ => ?_)
        · exact z_Kinds_findOrAdd_62 ih p_e_0 dX47
        · exact pw_ret dX47
      · exact z_Kinds_findOrAdd_62 ih p_e_0 h
theorem z_Kinds_findOrAdd {o0 : Nat} {p1 : Int32} {p2 : Int32} {o3 : Nat} {p4 : Int32} {p5 : Int32} {p6 : Int32} (p_o0 : PKo o0) {X : St} (h : fd X) : pw (g_Kinds_findOrAdd o0 p1 p2 o3 p4 p5 p6 X) (fun _ Y => fd Y) := by
  have ne46_o0 : ¬ 46 = o0 := PKo.ne p_o0
  unfold g_Kinds_findOrAdd
  refine pw_bd (z_Kinds_bucketOf h) (fun x1 X2 dX2 => ?_)
  refine pw_eq (fun e3 ee3 => ?_)
  have ne46_e3 : ¬ 46 = e3 := by rw [ee3]; exact PKo.row p_o0 6
  refine pw_ck (fun _ => ?_)
  refine pw_eq (fun x4 _ => ?_)
  exact z_Kinds_findOrAdd_19 _ _ _ _ _ _ _ _ _ _ _ _ p_o0 dX2
theorem z_Kinds_functionOf_32 (N : Nat) : ∀ (e_0 : Nat) (e_1 : Nat) (a_2 : Int32) (a_3 : Int32) (a_4 : Int32) (a_5 : Int32) (a_6 : Int32) (X : St), PKo e_0 → fd X → pw (g_Kinds_functionOf_32 N e_0 e_1 a_2 a_3 a_4 a_5 a_6 X) (fun _ Y => fd Y) := by
  unfold g_Kinds_functionOf_32
  refine lp_ind (P := fun (r : Nat → Nat → Int32 → Int32 → Int32 → Int32 → Int32 → St → Option (Int32 × St)) => ∀ (e_0 : Nat) (e_1 : Nat) (a_2 : Int32) (a_3 : Int32) (a_4 : Int32) (a_5 : Int32) (a_6 : Int32) (X : St), PKo e_0 → fd X → pw (r e_0 e_1 a_2 a_3 a_4 a_5 a_6 X) (fun _ Y => fd Y)) (fun _ _ _ _ _ _ _ _ _ _ => pw_none) (fun r ih e_0 e_1 a_2 a_3 a_4 a_5 a_6 X p_e_0 h => ?_) N
  have ne46_e_0 : ¬ 46 = e_0 := PKo.ne p_e_0
  unfold g_Kinds_functionOf_32_s
  refine pw_ite (fun _ => ?_) (fun _ => ?_)
  · refine pw_eq (fun x4 _ => ?_)
    refine pw_bd (z_Kinds_codeOf p_e_0 h) (fun x5 X6 dX6 => ?_)
    refine pw_eq (fun x7 _ => ?_)
    refine pw_bd (z_Kinds_findOrAdd p_e_0 dX6) (fun x8 X9 dX9 => ?_)
    exact pw_ret dX9
  · refine pw_eq (fun x10 _ => ?_)
    refine pw_eq (fun x11 _ => ?_)
    refine pw_ck (fun _ => ?_)
    refine pw_eq (fun x12 _ => ?_)
    refine pw_bd (z_Kinds_codeOf p_e_0 h) (fun x13 X14 dX14 => ?_)
    refine pw_eq (fun x15 _ => ?_)
    refine pw_eq (fun x16 _ => ?_)
    exact ih _ _ _ _ _ _ _ _ p_e_0 dX14
theorem z_Kinds_functionOf {o0 : Nat} {o1 : Nat} {p2 : Int32} {p3 : Int32} {p4 : Int32} (p_o0 : PKo o0) {X : St} (h : fd X) : pw (g_Kinds_functionOf o0 o1 p2 p3 p4 X) (fun _ Y => fd Y) := by
  have ne46_o0 : ¬ 46 = o0 := PKo.ne p_o0
  unfold g_Kinds_functionOf
  refine pw_ite (fun _ => ?_) (fun _ => ?_)
  · exact pw_ret h
  · refine pw_ite (fun _ => ?_) (fun _ => ?_)
    · exact pw_ret h
    · refine pw_ite (fun _ => ?_) (fun _ => ?_)
      · exact pw_ret h
      · refine pw_eq (fun x1 _ => ?_)
        refine pw_eq (fun x2 _ => ?_)
        refine pw_ite (fun _ => ?_) (fun _ => ?_)
        · refine pw_eq (fun x3 _ => ?_)
          exact z_Kinds_functionOf_32 _ _ _ _ _ _ _ _ _ p_o0 h
        · exact pw_ret h
theorem z_Kinds_rowOf {o0 : Nat} {p1 : Int32} (p_o0 : PKo o0) {X : St} (h : fd X) : pw (g_Kinds_rowOf o0 p1 X) (fun _ Y => fd Y) := by
  have ne46_o0 : ¬ 46 = o0 := PKo.ne p_o0
  unfold g_Kinds_rowOf
  refine pw_bd (z_Kinds_codeOf p_o0 h) (fun x1 X2 dX2 => ?_)
  refine pw_eq (fun x3 _ => ?_)
  refine pw_eq (fun x4 _ => ?_)
  refine pw_eq (fun e5 ee5 => ?_)
  have ne46_e5 : ¬ 46 = e5 := by rw [ee5]; exact PKo.row p_o0 3
  refine pw_bd (z_Kinds_findOrAdd p_o0 dX2) (fun x6 X7 dX7 => ?_)
  exact pw_ret dX7
theorem z_Program_partOfName_2 (N : Nat) : ∀ (e_0 : Nat) (l_1 : Int64) (a_3 : Int32) (X : St), PKo e_0 → fd X → pw (g_Program_partOfName_2 N e_0 l_1 a_3 X) (fun _ Y => fd Y) := by
  unfold g_Program_partOfName_2
  refine lp_ind (P := fun (r : Nat → Int64 → Int32 → St → Option (Int32 × St)) => ∀ (e_0 : Nat) (l_1 : Int64) (a_3 : Int32) (X : St), PKo e_0 → fd X → pw (r e_0 l_1 a_3 X) (fun _ Y => fd Y)) (fun _ _ _ _ _ _ => pw_none) (fun r ih e_0 l_1 a_3 X p_e_0 h => ?_) N
  have ne46_e_0 : ¬ 46 = e_0 := PKo.ne p_e_0
  unfold g_Program_partOfName_2_s
  refine pw_eq (fun x1 _ => ?_)
  refine pw_ite (fun _ => ?_) (fun _ => ?_)
  · exact pw_ret h
  · refine pw_eq (fun e2 ee2 => ?_)
    have ne46_e2 : ¬ 46 = e2 := by rw [ee2]; exact PKo.row p_e_0 7
    refine pw_ck (fun _ => ?_)
    refine pw_eq (fun y3 _ => ?_)
    refine pw_eq (fun x4 _ => ?_)
    refine pw_ite (fun _ => ?_) (fun _ => ?_)
    · exact pw_ret h
    · refine pw_eq (fun x5 _ => ?_)
      exact ih _ _ _ _ p_e_0 h
theorem z_Program_partOfName {o0 : Nat} {q1 : Int64} (p_o0 : PKo o0) {X : St} (h : fd X) : pw (g_Program_partOfName o0 q1 X) (fun _ Y => fd Y) := by
  have ne46_o0 : ¬ 46 = o0 := PKo.ne p_o0
  unfold g_Program_partOfName
  exact z_Program_partOfName_2 _ _ _ _ _ p_o0 h
theorem z_Program_paramsOf {o0 : Nat} {p1 : Int32} (p_o0 : PKo o0) {X : St} (h : fd X) : pw (g_Program_paramsOf o0 p1 X) (fun _ Y => fd Y) := by
  have ne46_o0 : ¬ 46 = o0 := PKo.ne p_o0
  unfold g_Program_paramsOf
  refine pw_ite (fun _ => ?_) (fun _ => ?_)
  · exact pw_ret h
  · refine pw_eq (fun x1 _ => ?_)
    refine pw_ite (fun _ => ?_) (fun _ => ?_)
    · exact pw_ret h
    · refine pw_eq (fun e2 ee2 => ?_)
      have ne46_e2 : ¬ 46 = e2 := by rw [ee2]; exact PKo.row p_o0 10
      refine pw_ck (fun _ => ?_)
      refine pw_eq (fun x3 _ => ?_)
      exact pw_ret h
theorem z_Program_emit {o0 : Nat} {p1 : Int32} {p2 : Int32} {p3 : Int32} (p_o0 : PKo o0) {X : St} (h : fd X) : pw (g_Program_emit o0 p1 p2 p3 X) (fun _ Y => fd Y) := by
  have ne46_o0 : ¬ 46 = o0 := PKo.ne p_o0
  unfold g_Program_emit
  refine pw_eq (fun x1 _ => ?_)
  refine pw_ite (fun _ => ?_) (fun _ => ?_)
  · refine pw_eq (fun e2 ee2 => ?_)
    have ne46_e2 : ¬ 46 = e2 := by rw [ee2]; exact PKo.row p_o0 13
    refine pw_eq (fun x3 _ => ?_)
    refine pw_ck (fun _ => ?_)
    refine pw_eq (fun X4 eX4 => ?_)
    have dX4 : fd X4 := by rw [eX4]; exact fd_w h (fun g_ => ne46_e2 g_.1)
    refine pw_eq (fun e5 ee5 => ?_)
    have ne46_e5 : ¬ 46 = e5 := by rw [ee5]; exact PKo.row p_o0 14
    refine pw_eq (fun x6 _ => ?_)
    refine pw_ck (fun _ => ?_)
    refine pw_eq (fun X7 eX7 => ?_)
    have dX7 : fd X7 := by rw [eX7]; exact fd_w dX4 (fun g_ => ne46_e5 g_.1)
    refine pw_eq (fun e8 ee8 => ?_)
    have ne46_e8 : ¬ 46 = e8 := by rw [ee8]; exact PKo.row p_o0 15
    refine pw_eq (fun x9 _ => ?_)
    refine pw_ck (fun _ => ?_)
    refine pw_eq (fun X10 eX10 => ?_)
    have dX10 : fd X10 := by rw [eX10]; exact fd_w dX7 (fun g_ => ne46_e8 g_.1)
    refine pw_eq (fun e11 ee11 => ?_)
    have ne46_e11 : ¬ 46 = e11 := by rw [ee11]; exact PKo.row p_o0 16
    refine pw_eq (fun x12 _ => ?_)
    refine pw_ck (fun _ => ?_)
    refine pw_eq (fun X13 eX13 => ?_)
    have dX13 : fd X13 := by rw [eX13]; exact fd_w dX10 (fun g_ => ne46_e11 g_.1)
    refine pw_eq (fun x14 _ => ?_)
    refine pw_eq (fun x15 _ => ?_)
    refine pw_eq (fun X16 eX16 => ?_)
    have dX16 : fd X16 := by rw [eX16]; exact fd_w dX13 (fun g_ => ne46_o0 g_.1)
    refine pw_eq (fun x17 _ => ?_)
    refine pw_eq (fun x18 _ => ?_)
    exact pw_ret dX16
  · exact pw_ret h
theorem z_Tokens_byteAt {p1 : Int32} {X : St} (h : fd X) : pw (g_Tokens_byteAt p1 X) (fun _ Y => fd Y) := by
  unfold g_Tokens_byteAt
  refine pw_ite (fun _ => ?_) (fun _ => ?_)
  · exact pw_ret h
  · refine pw_eq (fun x1 _ => ?_)
    refine pw_ite (fun _ => ?_) (fun _ => ?_)
    · exact pw_ret h
    · refine pw_ck (fun _ => ?_)
      refine pw_eq (fun e2 _ => ?_)
      refine pw_ck (fun _ => ?_)
      refine pw_eq (fun x3 _ => ?_)
      refine pw_eq (fun x4 _ => ?_)
      exact pw_ret h
theorem z_Tokens_isLetter_12 {a_0 : Int32} {X : St} (h : fd X) : pw (g_Tokens_isLetter_12 a_0 X) (fun _ Y => fd Y) := by
  unfold g_Tokens_isLetter_12
  refine pw_ite (fun _ => ?_) (fun _ => ?_)
  · exact pw_ret h
  · refine pw_ite (fun _ => ?_) (fun _ => ?_)
    · exact pw_ret h
    · exact pw_ret h
theorem z_Tokens_isLetter {p0 : Int32} {X : St} (h : fd X) : pw (g_Tokens_isLetter p0 X) (fun _ Y => fd Y) := by
  unfold g_Tokens_isLetter
  refine pw_ite (fun _ => ?_) (fun _ => ?_)
  · exact z_Tokens_isLetter_12 h
  · refine pw_ite (fun _ => ?_) (fun _ => ?_)
    · exact pw_ret h
    · exact z_Tokens_isLetter_12 h
theorem z_Tokens_wordType_2 (N : Nat) : ∀ (a_1 : Int32) (X : St), fd X → pw (g_Tokens_wordType_2 N a_1 X) (fun _ Y => fd Y) := by
  unfold g_Tokens_wordType_2
  refine lp_ind (P := fun (r : Int32 → St → Option (Int32 × St)) => ∀ (a_1 : Int32) (X : St), fd X → pw (r a_1 X) (fun _ Y => fd Y)) (fun _ _ _ => pw_none) (fun r ih a_1 X h => ?_) N
  unfold g_Tokens_wordType_2_s
  refine pw_ite (fun _ => ?_) (fun _ => ?_)
  · exact pw_ret h
  · refine pw_ck (fun _ => ?_)
    refine pw_eq (fun y1 _ => ?_)
    refine pw_eq (fun y2 _ => ?_)
    refine pw_eq (fun x3 _ => ?_)
    refine pw_ite (fun _ => ?_) (fun _ => ?_)
    · refine pw_eq (fun x5 _ => ?_)
      exact pw_ret h
    · refine pw_eq (fun x4 _ => ?_)
      exact ih _ _ h
theorem z_Tokens_wordType {X : St} (h : fd X) : pw (g_Tokens_wordType X) (fun _ Y => fd Y) := by
  unfold g_Tokens_wordType
  exact z_Tokens_wordType_2 _ _ _ h
theorem z_Tokens_takeWord_88 {b_0 : Int32} {X : St} (h : fd X) : pw (g_Tokens_takeWord_88 b_0 X) (fun _ Y => fd Y) := by
  unfold g_Tokens_takeWord_88
  refine pw_eq (fun X11 eX11 => ?_)
  have dX11 : fd X11 := by rw [eX11]; exact fd_w h (by decide)
  exact pw_ret dX11
theorem z_Tokens_takeWord_53 {a_1 : Int32} {X : St} (h : fd X) : pw (g_Tokens_takeWord_53 a_1 X) (fun _ Y => fd Y) := by
  unfold g_Tokens_takeWord_53
  refine pw_eq (fun X4 eX4 => ?_)
  have dX4 : fd X4 := by rw [eX4]; exact fd_w h (by decide)
  refine pw_eq (fun x5 _ => ?_)
  refine pw_eq (fun x6 _ => ?_)
  refine pw_eq (fun X7 eX7 => ?_)
  have dX7 : fd X7 := by rw [eX7]; exact fd_w dX4 (by decide)
  refine pw_eq (fun x8 _ => ?_)
  refine pw_ite (fun _ => ?_) (fun _ => ?_)
  · refine pw_bd (z_Tokens_wordType dX7) (fun x9 X10 dX10 => ?_)
    exact z_Tokens_takeWord_88 dX10
  · exact z_Tokens_takeWord_88 dX7
theorem z_Tokens_takeWord_10 (N : Nat) : ∀ (a_1 : Int32) (X : St), fd X → pw (g_Tokens_takeWord_10 N a_1 X) (fun _ Y => fd Y) := by
  unfold g_Tokens_takeWord_10
  refine lp_ind (P := fun (r : Int32 → St → Option (Int32 × St)) => ∀ (a_1 : Int32) (X : St), fd X → pw (r a_1 X) (fun _ Y => fd Y)) (fun _ _ _ => pw_none) (fun r ih a_1 X h => ?_) N
  unfold g_Tokens_takeWord_10_s
  refine pw_eq (fun x3 _ => ?_)
  refine pw_ite (fun _ => ?_) (fun _ => ?_)
  · exact z_Tokens_takeWord_53 h
  · refine pw_bd (z_Tokens_byteAt h) (fun x12 X13 dX13 => ?_)
    refine pw_bd (z_Tokens_isLetter dX13) (fun x14 X15 dX15 => ?_)
    refine pw_ite (fun _ => ?_) (fun _ => ?_)
    · exact z_Tokens_takeWord_53 dX15
    · refine pw_eq (fun y16 _ => ?_)
      refine pw_eq (fun y17 _ => ?_)
      refine pw_bd (z_Tokens_byteAt dX15) (fun x18 X19 dX19 => ?_)
      refine pw_eq (fun y20 _ => ?_)
      refine pw_eq (fun y21 _ => ?_)
      refine pw_eq (fun X22 eX22 => ?_)
      have dX22 : fd X22 := by rw [eX22]; exact dX19
      refine pw_eq (fun x23 _ => ?_)
      exact ih _ _ dX22
theorem z_Tokens_takeWord {X : St} (h : fd X) : pw (g_Tokens_takeWord X) (fun _ Y => fd Y) := by
  unfold g_Tokens_takeWord
  refine pw_eq (fun X1 eX1 => ?_)
  have dX1 : fd X1 := by rw [eX1]; exact h
  refine pw_eq (fun x2 _ => ?_)
  exact z_Tokens_takeWord_10 _ _ _ dX1
theorem z_Tokens_isDigit {p0 : Int32} {X : St} (h : fd X) : pw (g_Tokens_isDigit p0 X) (fun _ Y => fd Y) := by
  unfold g_Tokens_isDigit
  refine pw_ite (fun _ => ?_) (fun _ => ?_)
  · exact pw_ret h
  · refine pw_ite (fun _ => ?_) (fun _ => ?_)
    · exact pw_ret h
    · exact pw_ret h
theorem z_Tokens_takeNumber_83 {a_1 : Int32} {X : St} (h : fd X) : pw (g_Tokens_takeNumber_83 a_1 X) (fun _ Y => fd Y) := by
  unfold g_Tokens_takeNumber_83
  refine pw_eq (fun X4 eX4 => ?_)
  have dX4 : fd X4 := by rw [eX4]; exact fd_w h (by decide)
  refine pw_eq (fun X5 eX5 => ?_)
  have dX5 : fd X5 := by rw [eX5]; exact fd_w dX4 (by decide)
  exact pw_ret dX5
theorem z_Tokens_takeNumber_74 {r10 : Int32 → St → Option (Int32 × St)} (hr10 : ∀ (q0 : Int32) (X : St), fd X → pw (r10 q0 X) (fun _ Y => fd Y)) {a_1 : Int32} {m_0 : Int64} {X : St} (h : fd X) : pw (g_Tokens_takeNumber_74 r10 a_1 m_0 X) (fun _ Y => fd Y) := by
  unfold g_Tokens_takeNumber_74
  refine pw_eq (fun X21 eX21 => ?_)
  have dX21 : fd X21 := by rw [eX21]; exact h
  refine pw_eq (fun x22 _ => ?_)
  exact hr10 _ _ dX21
theorem z_Tokens_takeNumber_10 (N : Nat) : ∀ (a_1 : Int32) (X : St), fd X → pw (g_Tokens_takeNumber_10 N a_1 X) (fun _ Y => fd Y) := by
  unfold g_Tokens_takeNumber_10
  refine lp_ind (P := fun (r : Int32 → St → Option (Int32 × St)) => ∀ (a_1 : Int32) (X : St), fd X → pw (r a_1 X) (fun _ Y => fd Y)) (fun _ _ _ => pw_none) (fun r ih a_1 X h => ?_) N
  unfold g_Tokens_takeNumber_10_s
  refine pw_eq (fun x3 _ => ?_)
  refine pw_ite (fun _ => ?_) (fun _ => ?_)
  · exact z_Tokens_takeNumber_83 h
  · refine pw_bd (z_Tokens_byteAt h) (fun x6 X7 dX7 => ?_)
    refine pw_bd (z_Tokens_isDigit dX7) (fun x8 X9 dX9 => ?_)
    refine pw_ite (fun _ => ?_) (fun _ => ?_)
    · exact z_Tokens_takeNumber_83 dX9
    · refine pw_eq (fun y10 _ => ?_)
      refine pw_eq (fun y11 _ => ?_)
      refine pw_bd (z_Tokens_byteAt dX9) (fun x12 X13 dX13 => ?_)
      refine pw_eq (fun y14 _ => ?_)
      refine pw_eq (fun y15 _ => ?_)
      refine pw_eq (fun y16 _ => ?_)
      refine pw_eq (fun X17 eX17 => ?_)
      have dX17 : fd X17 := by rw [eX17]; exact dX13
      refine pw_eq (fun y18 _ => ?_)
      refine pw_eq (fun x19 _ => ?_)
      refine pw_ite (fun _ => ?_) (fun _ => ?_)
      · refine pw_eq (fun y20 _ => ?_)
        exact z_Tokens_takeNumber_74 ih dX17
      · exact z_Tokens_takeNumber_74 ih dX17
theorem z_Tokens_takeNumber {X : St} (h : fd X) : pw (g_Tokens_takeNumber X) (fun _ Y => fd Y) := by
  unfold g_Tokens_takeNumber
  refine pw_eq (fun X1 eX1 => ?_)
  have dX1 : fd X1 := by rw [eX1]; exact h
  refine pw_eq (fun x2 _ => ?_)
  exact z_Tokens_takeNumber_10 _ _ _ dX1
theorem z_Tokens_isSign {p0 : Int32} {X : St} (h : fd X) : pw (g_Tokens_isSign p0 X) (fun _ Y => fd Y) := by
  unfold g_Tokens_isSign
  refine pw_ite (fun _ => ?_) (fun _ => ?_)
  · exact pw_ret h
  · refine pw_ite (fun _ => ?_) (fun _ => ?_)
    · exact pw_ret h
    · refine pw_ite (fun _ => ?_) (fun _ => ?_)
      · exact pw_ret h
      · refine pw_ite (fun _ => ?_) (fun _ => ?_)
        · exact pw_ret h
        · refine pw_ite (fun _ => ?_) (fun _ => ?_)
          · exact pw_ret h
          · refine pw_ite (fun _ => ?_) (fun _ => ?_)
            · exact pw_ret h
            · refine pw_ite (fun _ => ?_) (fun _ => ?_)
              · exact pw_ret h
              · refine pw_ite (fun _ => ?_) (fun _ => ?_)
                · exact pw_ret h
                · refine pw_ite (fun _ => ?_) (fun _ => ?_)
                  · exact pw_ret h
                  · refine pw_ite (fun _ => ?_) (fun _ => ?_)
                    · exact pw_ret h
                    · refine pw_ite (fun _ => ?_) (fun _ => ?_)
                      · exact pw_ret h
                      · refine pw_ite (fun _ => ?_) (fun _ => ?_)
                        · exact pw_ret h
                        · refine pw_ite (fun _ => ?_) (fun _ => ?_)
                          · exact pw_ret h
                          · refine pw_ite (fun _ => ?_) (fun _ => ?_)
                            · exact pw_ret h
                            · refine pw_ite (fun _ => ?_) (fun _ => ?_)
                              · exact pw_ret h
                              · refine pw_ite (fun _ => ?_) (fun _ => ?_)
                                · exact pw_ret h
                                · refine pw_ite (fun _ => ?_) (fun _ => ?_)
                                  · exact pw_ret h
                                  · exact pw_ret h
theorem z_Tokens_takeSign_54 {b_0 : Int32} {X : St} (h : fd X) : pw (g_Tokens_takeSign_54 b_0 X) (fun _ Y => fd Y) := by
  unfold g_Tokens_takeSign_54
  refine pw_eq (fun X3 eX3 => ?_)
  have dX3 : fd X3 := by rw [eX3]; exact fd_w h (by decide)
  exact pw_ret dX3
theorem z_Tokens_takeSign_39 {a_1 : Int32} {X : St} (h : fd X) : pw (g_Tokens_takeSign_39 a_1 X) (fun _ Y => fd Y) := by
  unfold g_Tokens_takeSign_39
  refine pw_bd (z_Tokens_isSign h) (fun x1 X2 dX2 => ?_)
  refine pw_ite (fun _ => ?_) (fun _ => ?_)
  · exact z_Tokens_takeSign_54 dX2
  · exact z_Tokens_takeSign_54 dX2
theorem z_Tokens_takeSign {p1 : Int32} {X : St} (h : fd X) : pw (g_Tokens_takeSign p1 X) (fun _ Y => fd Y) := by
  unfold g_Tokens_takeSign
  refine pw_ite (fun _ => ?_) (fun _ => ?_)
  · refine pw_eq (fun x4 _ => ?_)
    refine pw_eq (fun x5 _ => ?_)
    refine pw_bd (z_Tokens_byteAt h) (fun x6 X7 dX7 => ?_)
    refine pw_ite (fun _ => ?_) (fun _ => ?_)
    · refine pw_eq (fun X8 eX8 => ?_)
      have dX8 : fd X8 := by rw [eX8]; exact fd_w dX7 (by decide)
      refine pw_eq (fun x9 _ => ?_)
      refine pw_eq (fun x10 _ => ?_)
      refine pw_eq (fun X11 eX11 => ?_)
      have dX11 : fd X11 := by rw [eX11]; exact fd_w dX8 (by decide)
      exact pw_ret dX11
    · exact z_Tokens_takeSign_39 dX7
  · exact z_Tokens_takeSign_39 h
theorem z_Tokens_advance_50 {a_1 : Int32} {X : St} (h : fd X) : pw (g_Tokens_advance_50 a_1 X) (fun _ Y => fd Y) := by
  unfold g_Tokens_advance_50
  refine pw_eq (fun X4 eX4 => ?_)
  have dX4 : fd X4 := by rw [eX4]; exact fd_w h (by decide)
  refine pw_eq (fun x5 _ => ?_)
  refine pw_eq (fun X6 eX6 => ?_)
  have dX6 : fd X6 := by rw [eX6]; exact fd_w dX4 (by decide)
  refine pw_bd (z_Tokens_byteAt dX6) (fun x7 X8 dX8 => ?_)
  refine pw_ite (fun _ => ?_) (fun _ => ?_)
  · refine pw_eq (fun X16 eX16 => ?_)
    have dX16 : fd X16 := by rw [eX16]; exact fd_w dX8 (by decide)
    refine pw_eq (fun x17 _ => ?_)
    refine pw_eq (fun X18 eX18 => ?_)
    have dX18 : fd X18 := by rw [eX18]; exact fd_w dX16 (by decide)
    exact pw_ret dX18
  · refine pw_bd (z_Tokens_isLetter dX8) (fun x9 X10 dX10 => ?_)
    refine pw_ite (fun _ => ?_) (fun _ => ?_)
    · refine pw_bd (z_Tokens_isDigit dX10) (fun x11 X12 dX12 => ?_)
      refine pw_ite (fun _ => ?_) (fun _ => ?_)
      · refine pw_bd (z_Tokens_takeSign dX12) (fun _ X13 dX13 => ?_)
        exact pw_ret dX13
      · refine pw_bd (z_Tokens_takeNumber dX12) (fun _ X14 dX14 => ?_)
        exact pw_ret dX14
    · refine pw_bd (z_Tokens_takeWord dX10) (fun _ X15 dX15 => ?_)
      exact pw_ret dX15
theorem z_Tokens_advance_44 {r16 : Int32 → St → Option (Int32 × St)} (hr16 : ∀ (q0 : Int32) (X : St), fd X → pw (r16 q0 X) (fun _ Y => fd Y)) {a_1 : Int32} {X : St} (h : fd X) : pw (g_Tokens_advance_44 r16 a_1 X) (fun _ Y => fd Y) := by
  unfold g_Tokens_advance_44
  refine pw_eq (fun x21 _ => ?_)
  exact hr16 _ _ h
theorem z_Tokens_advance_16 (N : Nat) : ∀ (a_1 : Int32) (X : St), fd X → pw (g_Tokens_advance_16 N a_1 X) (fun _ Y => fd Y) := by
  unfold g_Tokens_advance_16
  refine lp_ind (P := fun (r : Int32 → St → Option (Int32 × St)) => ∀ (a_1 : Int32) (X : St), fd X → pw (r a_1 X) (fun _ Y => fd Y)) (fun _ _ _ => pw_none) (fun r ih a_1 X h => ?_) N
  unfold g_Tokens_advance_16_s
  refine pw_eq (fun x3 _ => ?_)
  refine pw_ite (fun _ => ?_) (fun _ => ?_)
  · exact z_Tokens_advance_50 h
  · refine pw_bd (z_Tokens_byteAt h) (fun x19 X20 dX20 => ?_)
    refine pw_ite (fun _ => ?_) (fun _ => ?_)
    · exact z_Tokens_advance_44 ih dX20
    · refine pw_bd (z_Tokens_byteAt dX20) (fun x22 X23 dX23 => ?_)
      refine pw_ite (fun _ => ?_) (fun _ => ?_)
      · exact z_Tokens_advance_44 ih dX23
      · exact z_Tokens_advance_50 dX23
theorem z_Tokens_advance {X : St} (h : fd X) : pw (g_Tokens_advance X) (fun _ Y => fd Y) := by
  unfold g_Tokens_advance
  refine pw_eq (fun x1 _ => ?_)
  refine pw_ite (fun _ => ?_) (fun _ => ?_)
  · exact pw_ret h
  · refine pw_eq (fun x2 _ => ?_)
    exact z_Tokens_advance_16 _ _ _ h
theorem z_Tokens_goTo {p1 : Int32} {X : St} (h : fd X) : pw (g_Tokens_goTo p1 X) (fun _ Y => fd Y) := by
  unfold g_Tokens_goTo
  refine pw_eq (fun X1 eX1 => ?_)
  have dX1 : fd X1 := by rw [eX1]; exact fd_w h (by decide)
  refine pw_eq (fun X2 eX2 => ?_)
  have dX2 : fd X2 := by rw [eX2]; exact fd_w dX1 (by decide)
  refine pw_bd (z_Tokens_advance dX2) (fun _ X3 dX3 => ?_)
  exact pw_ret dX3
theorem z_Tokens_stop {X : St} (h : fd X) : pw (g_Tokens_stop X) (fun _ Y => fd Y) := by
  unfold g_Tokens_stop
  refine pw_eq (fun X1 eX1 => ?_)
  have dX1 : fd X1 := by rw [eX1]; exact fd_w h (by decide)
  refine pw_eq (fun x2 _ => ?_)
  refine pw_eq (fun X3 eX3 => ?_)
  have dX3 : fd X3 := by rw [eX3]; exact fd_w dX1 (by decide)
  exact pw_ret dX3
theorem z_Reader_want {p1 : Int32} {X : St} (h : fd X) : pw (g_Reader_want p1 X) (fun _ Y => fd Y) := by
  unfold g_Reader_want
  refine pw_eq (fun x1 _ => ?_)
  refine pw_ite (fun _ => ?_) (fun _ => ?_)
  · refine pw_bd (z_Tokens_advance h) (fun _ X3 dX3 => ?_)
    exact pw_ret dX3
  · refine pw_bd (z_Reader_refuse h) (fun _ X2 dX2 => ?_)
    exact pw_ret dX2
theorem z_Reader_takePartName {p1 : Int32} {X : St} (h : fd X) : pw (g_Reader_takePartName p1 X) (fun _ Y => fd Y) := by
  unfold g_Reader_takePartName
  refine pw_ck (fun hck1 => ?_)
  refine pw_eq (fun e1 ee1 => ?_)
  have pke1 : PKo e1 := by rw [ee1]; exact refO_pk hck1
  have ne46_e1 : ¬ 46 = e1 := PKo.ne pke1
  refine pw_eq (fun e2 ee2 => ?_)
  have ne46_e2 : ¬ 46 = e2 := by rw [ee2]; exact PKo.row pke1 9
  refine pw_eq (fun x3 _ => ?_)
  refine pw_ck (fun _ => ?_)
  refine pw_eq (fun X4 eX4 => ?_)
  have dX4 : fd X4 := by rw [eX4]; exact fd_w h (fun g_ => ne46_e2 g_.1)
  refine pw_bd (z_Tokens_advance dX4) (fun _ X5 dX5 => ?_)
  refine pw_eq (fun x6 _ => ?_)
  refine pw_ck (fun _ => ?_)
  refine pw_eq (fun X7 eX7 => ?_)
  have dX7 : fd X7 := by rw [eX7]; exact fd_w dX5 (fun g_ => absurd g_.1 (by decide))
  refine pw_ck (fun hck2 => ?_)
  refine pw_eq (fun e8 ee8 => ?_)
  have pke8 : PKo e8 := by rw [ee8]; exact refO_pk hck2
  have ne46_e8 : ¬ 46 = e8 := PKo.ne pke8
  refine pw_eq (fun e9 ee9 => ?_)
  have ne46_e9 : ¬ 46 = e9 := by rw [ee9]; exact PKo.row pke8 7
  refine pw_eq (fun y10 _ => ?_)
  refine pw_ck (fun _ => ?_)
  refine pw_eq (fun X11 eX11 => ?_)
  have dX11 : fd X11 := by rw [eX11]; exact dX7
  refine pw_ck (fun hck3 => ?_)
  refine pw_eq (fun e12 ee12 => ?_)
  have pke12 : PKo e12 := by rw [ee12]; exact refO_pk hck3
  have ne46_e12 : ¬ 46 = e12 := PKo.ne pke12
  refine pw_eq (fun e13 ee13 => ?_)
  have ne46_e13 : ¬ 46 = e13 := by rw [ee13]; exact PKo.row pke12 8
  refine pw_eq (fun x14 _ => ?_)
  refine pw_ck (fun _ => ?_)
  refine pw_eq (fun X15 eX15 => ?_)
  have dX15 : fd X15 := by rw [eX15]; exact fd_w dX11 (fun g_ => ne46_e13 g_.1)
  refine pw_bd (z_Reader_want dX15) (fun _ X16 dX16 => ?_)
  exact pw_ret dX16
theorem z_Reader_enter_43 {X : St} (h : fd X) : pw (g_Reader_enter_43 X) (fun _ Y => fd Y) := by
  unfold g_Reader_enter_43
  refine pw_eq (fun x4 _ => ?_)
  refine pw_eq (fun x5 _ => ?_)
  refine pw_eq (fun X6 eX6 => ?_)
  have dX6 : fd X6 := by rw [eX6]; exact fd_w h (by decide)
  exact pw_ret dX6
theorem z_Reader_enter {p1 : Int32} {X : St} (h : fd X) : pw (g_Reader_enter p1 X) (fun _ Y => fd Y) := by
  unfold g_Reader_enter
  refine pw_eq (fun x1 _ => ?_)
  refine pw_ite (fun _ => ?_) (fun _ => ?_)
  · refine pw_eq (fun x2 _ => ?_)
    refine pw_ite (fun _ => ?_) (fun _ => ?_)
    · refine pw_bd (z_Tokens_advance h) (fun _ X3 dX3 => ?_)
      exact z_Reader_enter_43 dX3
    · refine pw_bd (z_Reader_refuse h) (fun _ X7 dX7 => ?_)
      exact z_Reader_enter_43 dX7
  · refine pw_bd (z_Reader_refuse h) (fun _ X8 dX8 => ?_)
    exact z_Reader_enter_43 dX8
theorem z_Reader_slotOf_7 (N : Nat) : ∀ (l_1 : Int64) (a_3 : Int32) (X : St), fd X → pw (g_Reader_slotOf_7 N l_1 a_3 X) (fun _ Y => fd Y) := by
  unfold g_Reader_slotOf_7
  refine lp_ind (P := fun (r : Int64 → Int32 → St → Option (Int32 × St)) => ∀ (l_1 : Int64) (a_3 : Int32) (X : St), fd X → pw (r l_1 a_3 X) (fun _ Y => fd Y)) (fun _ _ _ _ => pw_none) (fun r ih l_1 a_3 X h => ?_) N
  unfold g_Reader_slotOf_7_s
  refine pw_ite (fun _ => ?_) (fun _ => ?_)
  · exact pw_ret h
  · refine pw_ck (fun _ => ?_)
    refine pw_eq (fun y3 _ => ?_)
    refine pw_eq (fun x4 _ => ?_)
    refine pw_ite (fun _ => ?_) (fun _ => ?_)
    · exact pw_ret h
    · refine pw_eq (fun x5 _ => ?_)
      exact ih _ _ _ h
theorem z_Reader_slotOf {q1 : Int64} {X : St} (h : fd X) : pw (g_Reader_slotOf q1 X) (fun _ Y => fd Y) := by
  unfold g_Reader_slotOf
  refine pw_eq (fun x1 _ => ?_)
  refine pw_eq (fun x2 _ => ?_)
  exact z_Reader_slotOf_7 _ _ _ _ h
theorem z_Reader_pushLocal {q1 : Int64} {X : St} (h : fd X) : pw (g_Reader_pushLocal q1 X) (fun _ Y => fd Y) := by
  unfold g_Reader_pushLocal
  refine pw_eq (fun x1 _ => ?_)
  refine pw_ite (fun _ => ?_) (fun _ => ?_)
  · exact pw_ret h
  · refine pw_eq (fun x2 _ => ?_)
    refine pw_ck (fun _ => ?_)
    refine pw_eq (fun X3 eX3 => ?_)
    have dX3 : fd X3 := by rw [eX3]; exact h
    refine pw_eq (fun x4 _ => ?_)
    refine pw_eq (fun x5 _ => ?_)
    refine pw_eq (fun X6 eX6 => ?_)
    have dX6 : fd X6 := by rw [eX6]; exact fd_w dX3 (by decide)
    exact pw_ret dX6
theorem z_Reader_tookColon {X : St} (h : fd X) : pw (g_Reader_tookColon X) (fun _ Y => fd Y) := by
  unfold g_Reader_tookColon
  refine pw_eq (fun x1 _ => ?_)
  refine pw_ite (fun _ => ?_) (fun _ => ?_)
  · refine pw_bd (z_Tokens_advance h) (fun _ X2 dX2 => ?_)
    exact pw_ret dX2
  · exact pw_ret h
theorem z_Reader_beginsKind {X : St} (h : fd X) : pw (g_Reader_beginsKind X) (fun _ Y => fd Y) := by
  unfold g_Reader_beginsKind
  refine pw_eq (fun x1 _ => ?_)
  refine pw_ite (fun _ => ?_) (fun _ => ?_)
  · exact pw_ret h
  · refine pw_eq (fun x2 _ => ?_)
    refine pw_ite (fun _ => ?_) (fun _ => ?_)
    · exact pw_ret h
    · refine pw_eq (fun x3 _ => ?_)
      refine pw_ite (fun _ => ?_) (fun _ => ?_)
      · exact pw_ret h
      · exact pw_ret h
theorem z_Reader_takeKindList_24 {v_takeKind : St → Option (Int32 × St)} {r2 : Int32 → St → Option (Int32 × St)} (hv_takeKind : ∀ (X : St), fd X → pw (v_takeKind X) (fun _ Y => fd Y)) (hr2 : ∀ (q0 : Int32) (X : St), fd X → pw (r2 q0 X) (fun _ Y => fd Y)) {a_1 : Int32} {X : St} (h : fd X) : pw (g_Reader_takeKindList_24 v_takeKind r2 a_1 X) (fun _ Y => fd Y) := by
  unfold g_Reader_takeKindList_24
  refine pw_bd (hv_takeKind _ h) (fun x1 X2 dX2 => ?_)
  refine pw_eq (fun x3 _ => ?_)
  refine pw_ite (fun _ => ?_) (fun _ => ?_)
  · refine pw_eq (fun x4 _ => ?_)
    refine pw_ite (fun _ => ?_) (fun _ => ?_)
    · refine pw_eq (fun x5 _ => ?_)
      refine pw_ck (fun _ => ?_)
      refine pw_eq (fun X6 eX6 => ?_)
      have dX6 : fd X6 := by rw [eX6]; exact fd_w dX2 (fun g_ => absurd g_.1 (by decide))
      refine pw_eq (fun x7 _ => ?_)
      refine pw_eq (fun x8 _ => ?_)
      refine pw_eq (fun X9 eX9 => ?_)
      have dX9 : fd X9 := by rw [eX9]; exact fd_w dX6 (by decide)
      refine pw_eq (fun x10 _ => ?_)
      refine pw_ite (fun _ => ?_) (fun _ => ?_)
      · refine pw_bd (z_Tokens_advance dX9) (fun _ X11 dX11 => ?_)
        refine pw_eq (fun x12 _ => ?_)
        exact hr2 _ _ dX11
      · exact pw_ret dX9
    · exact pw_ret dX2
  · exact pw_ret dX2
theorem z_Reader_takeKindList_2 {v_takeKind : St → Option (Int32 × St)} (hv_takeKind : ∀ (X : St), fd X → pw (v_takeKind X) (fun _ Y => fd Y)) (N : Nat) : ∀ (a_1 : Int32) (X : St), fd X → pw (g_Reader_takeKindList_2 v_takeKind N a_1 X) (fun _ Y => fd Y) := by
  unfold g_Reader_takeKindList_2
  refine lp_ind (P := fun (r : Int32 → St → Option (Int32 × St)) => ∀ (a_1 : Int32) (X : St), fd X → pw (r a_1 X) (fun _ Y => fd Y)) (fun _ _ _ => pw_none) (fun r ih a_1 X h => ?_) N
  unfold g_Reader_takeKindList_2_s
  refine pw_ite (fun _ => ?_) (fun _ => ?_)
  · exact pw_ret h
  · refine pw_ite (fun _ => ?_) (fun _ => ?_)
    · exact z_Reader_takeKindList_24 hv_takeKind ih h
    · refine pw_bd (z_Reader_beginsKind h) (fun x13 X14 dX14 => ?_)
      refine pw_ite (fun _ => ?_) (fun _ => ?_)
      · exact z_Reader_takeKindList_24 hv_takeKind ih dX14
      · refine pw_bd (z_Reader_refuse dX14) (fun _ X15 dX15 => ?_)
        exact z_Reader_takeKindList_24 hv_takeKind ih dX15
theorem z_Reader_takeKindList {v_takeKind : St → Option (Int32 × St)} (hv_takeKind : ∀ (X : St), fd X → pw (v_takeKind X) (fun _ Y => fd Y)) {X : St} (h : fd X) : pw (g_Reader_takeKindList v_takeKind X) (fun _ Y => fd Y) := by
  unfold g_Reader_takeKindList
  exact z_Reader_takeKindList_2 hv_takeKind _ _ _ h
theorem z_Reader_takeFunctionKind_34 {v_takeKind : St → Option (Int32 × St)} (hv_takeKind : ∀ (X : St), fd X → pw (v_takeKind X) (fun _ Y => fd Y)) {a_1 : Int32} {X : St} (h : fd X) : pw (g_Reader_takeFunctionKind_34 v_takeKind a_1 X) (fun _ Y => fd Y) := by
  unfold g_Reader_takeFunctionKind_34
  refine pw_bd (z_Reader_want h) (fun _ X5 dX5 => ?_)
  refine pw_eq (fun x6 _ => ?_)
  refine pw_eq (fun x7 _ => ?_)
  refine pw_eq (fun X8 eX8 => ?_)
  have dX8 : fd X8 := by rw [eX8]; exact fd_w dX5 (by decide)
  refine pw_bd (hv_takeKind _ dX8) (fun x9 X10 dX10 => ?_)
  refine pw_ck (fun hck1 => ?_)
  refine pw_eq (fun e11 ee11 => ?_)
  have pke11 : PKo e11 := by rw [ee11]; exact refO_pk hck1
  have ne46_e11 : ¬ 46 = e11 := PKo.ne pke11
  refine pw_eq (fun e12 ee12 => ?_)
  have ne46_e12 : ¬ 46 = e12 := by rw [ee12]; exact PKo.row pke11 0
  have pke12 : PKo e12 := by rw [ee12]; rw [ee11]; exact PKo.kd hck1
  refine pw_eq (fun x13 _ => ?_)
  refine pw_eq (fun x14 _ => ?_)
  refine pw_bd (z_Kinds_functionOf pke12 dX10) (fun x15 X16 dX16 => ?_)
  refine pw_eq (fun X17 eX17 => ?_)
  have dX17 : fd X17 := by rw [eX17]; exact fd_w dX16 (by decide)
  refine pw_eq (fun x18 _ => ?_)
  refine pw_eq (fun x19 _ => ?_)
  refine pw_eq (fun X20 eX20 => ?_)
  have dX20 : fd X20 := by rw [eX20]; exact fd_w dX17 (by decide)
  exact pw_ret dX20
theorem z_Reader_takeFunctionKind {v_takeKind : St → Option (Int32 × St)} (hv_takeKind : ∀ (X : St), fd X → pw (v_takeKind X) (fun _ Y => fd Y)) {X : St} (h : fd X) : pw (g_Reader_takeFunctionKind v_takeKind X) (fun _ Y => fd Y) := by
  unfold g_Reader_takeFunctionKind
  refine pw_eq (fun x1 _ => ?_)
  refine pw_bd (z_Reader_enter h) (fun _ X2 dX2 => ?_)
  refine pw_bd (z_Reader_enter dX2) (fun _ X3 dX3 => ?_)
  refine pw_eq (fun x4 _ => ?_)
  refine pw_ite (fun _ => ?_) (fun _ => ?_)
  · exact z_Reader_takeFunctionKind_34 hv_takeKind dX3
  · refine pw_bd (z_Reader_takeKindList hv_takeKind dX3) (fun _ X21 dX21 => ?_)
    exact z_Reader_takeFunctionKind_34 hv_takeKind dX21
theorem z_Reader_takeKind_b {v_takeKind : St → Option (Int32 × St)} (hv_takeKind : ∀ (X : St), fd X → pw (v_takeKind X) (fun _ Y => fd Y)) {X : St} (h : fd X) : pw (g_Reader_takeKind_b v_takeKind X) (fun _ Y => fd Y) := by
  unfold g_Reader_takeKind_b
  refine pw_bd (z_Reader_beginsKind h) (fun x1 X2 dX2 => ?_)
  refine pw_ite (fun _ => ?_) (fun _ => ?_)
  · refine pw_bd (z_Reader_refuse dX2) (fun _ X22 dX22 => ?_)
    exact pw_ret dX22
  · refine pw_eq (fun x3 _ => ?_)
    refine pw_ite (fun _ => ?_) (fun _ => ?_)
    · refine pw_bd (z_Reader_takeFunctionKind hv_takeKind dX2) (fun x20 X21 dX21 => ?_)
      exact pw_ret dX21
    · refine pw_eq (fun x4 _ => ?_)
      refine pw_ite (fun _ => ?_) (fun _ => ?_)
      · refine pw_bd (z_Reader_enter dX2) (fun _ X9 dX9 => ?_)
        refine pw_bd (hv_takeKind _ dX9) (fun x10 X11 dX11 => ?_)
        refine pw_bd (z_Reader_want dX11) (fun _ X12 dX12 => ?_)
        refine pw_eq (fun x13 _ => ?_)
        refine pw_eq (fun x14 _ => ?_)
        refine pw_eq (fun X15 eX15 => ?_)
        have dX15 : fd X15 := by rw [eX15]; exact fd_w dX12 (by decide)
        refine pw_ck (fun hck1 => ?_)
        refine pw_eq (fun e16 ee16 => ?_)
        have pke16 : PKo e16 := by rw [ee16]; exact refO_pk hck1
        have ne46_e16 : ¬ 46 = e16 := PKo.ne pke16
        refine pw_eq (fun e17 ee17 => ?_)
        have ne46_e17 : ¬ 46 = e17 := by rw [ee17]; exact PKo.row pke16 0
        have pke17 : PKo e17 := by rw [ee17]; rw [ee16]; exact PKo.kd hck1
        refine pw_bd (z_Kinds_rowOf pke17 dX15) (fun x18 X19 dX19 => ?_)
        exact pw_ret dX19
      · refine pw_eq (fun x5 _ => ?_)
        refine pw_eq (fun x6 _ => ?_)
        refine pw_eq (fun x7 _ => ?_)
        refine pw_bd (z_Tokens_advance dX2) (fun _ X8 dX8 => ?_)
        exact pw_ret dX8
theorem z_rec_kind : ∀ (N : Nat) (X : St), fd X → pw (rec_kind N X) (fun _ Y => fd Y) := by
  intro N
  unfold rec_kind
  refine lp_ind (γ := St → Option (Int32 × St)) (P := fun (r : St → Option (Int32 × St)) => ∀ (X : St), fd X → pw (r X) (fun _ Y => fd Y)) (fun _ _ => pw_none) (fun r ih X h => z_Reader_takeKind_b ih h) N
theorem z_Reader_takeKind {X : St} (h : fd X) : pw (g_Reader_takeKind X) (fun _ Y => fd Y) := z_rec_kind 64 X h
theorem z_Reader_takeParams_173 {a_1 : Int32} {X : St} (h : fd X) : pw (g_Reader_takeParams_173 a_1 X) (fun _ Y => fd Y) := by
  unfold g_Reader_takeParams_173
  refine pw_ck (fun hck1 => ?_)
  refine pw_eq (fun e3 ee3 => ?_)
  have pke3 : PKo e3 := by rw [ee3]; exact refO_pk hck1
  have ne46_e3 : ¬ 46 = e3 := PKo.ne pke3
  refine pw_eq (fun e4 ee4 => ?_)
  have ne46_e4 : ¬ 46 = e4 := by rw [ee4]; exact PKo.row pke3 10
  refine pw_eq (fun x5 _ => ?_)
  refine pw_ck (fun _ => ?_)
  refine pw_eq (fun X6 eX6 => ?_)
  have dX6 : fd X6 := by rw [eX6]; exact fd_w h (fun g_ => ne46_e4 g_.1)
  refine pw_bd (z_Reader_want dX6) (fun _ X7 dX7 => ?_)
  refine pw_eq (fun x8 _ => ?_)
  refine pw_eq (fun x9 _ => ?_)
  refine pw_eq (fun X10 eX10 => ?_)
  have dX10 : fd X10 := by rw [eX10]; exact fd_w dX7 (by decide)
  exact pw_ret dX10
theorem z_Reader_takeParams_144 {r13 : Int32 → Int32 → St → Option (Int32 × St)} (hr13 : ∀ (q0 : Int32) (q1 : Int32) (X : St), fd X → pw (r13 q0 q1 X) (fun _ Y => fd Y)) {a_1 : Int32} {a_2 : Int32} {b_0 : Int32} {b_1 : Int32} {g_2 : Nat} (ne46_g_2 : ¬ 46 = g_2) {X : St} (h : fd X) : pw (g_Reader_takeParams_144 r13 a_1 a_2 b_0 b_1 g_2 X) (fun _ Y => fd Y) := by
  unfold g_Reader_takeParams_144
  refine pw_ck (fun _ => ?_)
  refine pw_eq (fun X23 eX23 => ?_)
  have dX23 : fd X23 := by rw [eX23]; exact fd_w h (fun g_ => ne46_g_2 g_.1)
  refine pw_eq (fun x24 _ => ?_)
  refine pw_ite (fun _ => ?_) (fun _ => ?_)
  · refine pw_bd (z_Tokens_advance dX23) (fun _ X25 dX25 => ?_)
    refine pw_eq (fun x26 _ => ?_)
    exact hr13 _ _ _ dX25
  · exact z_Reader_takeParams_173 dX23
theorem z_Reader_takeParams_95 {r13 : Int32 → Int32 → St → Option (Int32 × St)} (hr13 : ∀ (q0 : Int32) (q1 : Int32) (X : St), fd X → pw (r13 q0 q1 X) (fun _ Y => fd Y)) {a_1 : Int32} {a_2 : Int32} {l_3 : Int64} {X : St} (h : fd X) : pw (g_Reader_takeParams_95 r13 a_1 a_2 l_3 X) (fun _ Y => fd Y) := by
  unfold g_Reader_takeParams_95
  refine pw_bd (z_Reader_want h) (fun _ X14 dX14 => ?_)
  refine pw_eq (fun x15 _ => ?_)
  refine pw_ite (fun _ => ?_) (fun _ => ?_)
  · refine pw_bd (z_Reader_pushLocal dX14) (fun _ X16 dX16 => ?_)
    refine pw_ck (fun hck1 => ?_)
    refine pw_eq (fun e17 ee17 => ?_)
    have pke17 : PKo e17 := by rw [ee17]; exact refO_pk hck1
    have ne46_e17 : ¬ 46 = e17 := PKo.ne pke17
    refine pw_eq (fun e18 ee18 => ?_)
    have ne46_e18 : ¬ 46 = e18 := by rw [ee18]; exact PKo.row pke17 11
    refine pw_eq (fun x19 _ => ?_)
    refine pw_eq (fun x20 _ => ?_)
    refine pw_bd (z_Reader_tookColon dX16) (fun x21 X22 dX22 => ?_)
    refine pw_ite (fun _ => ?_) (fun _ => ?_)
    · exact z_Reader_takeParams_144 hr13 ne46_e18 dX22
    · refine pw_bd (z_Reader_takeKind dX22) (fun x27 X28 dX28 => ?_)
      exact z_Reader_takeParams_144 hr13 ne46_e18 dX28
  · exact z_Reader_takeParams_173 dX14
theorem z_Reader_takeParams_72 {r13 : Int32 → Int32 → St → Option (Int32 × St)} (hr13 : ∀ (q0 : Int32) (q1 : Int32) (X : St), fd X → pw (r13 q0 q1 X) (fun _ Y => fd Y)) {a_1 : Int32} {a_2 : Int32} {l_3 : Int64} {X : St} (h : fd X) : pw (g_Reader_takeParams_72 r13 a_1 a_2 l_3 X) (fun _ Y => fd Y) := by
  unfold g_Reader_takeParams_72
  refine pw_eq (fun x13 _ => ?_)
  refine pw_ite (fun _ => ?_) (fun _ => ?_)
  · refine pw_ite (fun _ => ?_) (fun _ => ?_)
    · exact z_Reader_takeParams_95 hr13 h
    · refine pw_bd (z_Reader_refuse h) (fun _ X29 dX29 => ?_)
      exact z_Reader_takeParams_95 hr13 dX29
  · exact z_Reader_takeParams_95 hr13 h
theorem z_Reader_takeParams_34 {r13 : Int32 → Int32 → St → Option (Int32 × St)} (hr13 : ∀ (q0 : Int32) (q1 : Int32) (X : St), fd X → pw (r13 q0 q1 X) (fun _ Y => fd Y)) {a_1 : Int32} {a_2 : Int32} {X : St} (h : fd X) : pw (g_Reader_takeParams_34 r13 a_1 a_2 X) (fun _ Y => fd Y) := by
  unfold g_Reader_takeParams_34
  refine pw_eq (fun y11 _ => ?_)
  refine pw_eq (fun x12 _ => ?_)
  refine pw_ite (fun _ => ?_) (fun _ => ?_)
  · refine pw_bd (z_Reader_slotOf h) (fun x30 X31 dX31 => ?_)
    refine pw_ite (fun _ => ?_) (fun _ => ?_)
    · exact z_Reader_takeParams_72 hr13 dX31
    · refine pw_bd (z_Reader_refuse dX31) (fun _ X32 dX32 => ?_)
      exact z_Reader_takeParams_95 hr13 dX32
  · exact z_Reader_takeParams_72 hr13 h
theorem z_Reader_takeParams_13 (N : Nat) : ∀ (a_1 : Int32) (a_2 : Int32) (X : St), fd X → pw (g_Reader_takeParams_13 N a_1 a_2 X) (fun _ Y => fd Y) := by
  unfold g_Reader_takeParams_13
  refine lp_ind (P := fun (r : Int32 → Int32 → St → Option (Int32 × St)) => ∀ (a_1 : Int32) (a_2 : Int32) (X : St), fd X → pw (r a_1 a_2 X) (fun _ Y => fd Y)) (fun _ _ _ _ => pw_none) (fun r ih a_1 a_2 X h => ?_) N
  unfold g_Reader_takeParams_13_s
  refine pw_ite (fun _ => ?_) (fun _ => ?_)
  · exact z_Reader_takeParams_173 h
  · refine pw_ite (fun _ => ?_) (fun _ => ?_)
    · exact z_Reader_takeParams_34 ih h
    · refine pw_eq (fun x33 _ => ?_)
      refine pw_ite (fun _ => ?_) (fun _ => ?_)
      · exact z_Reader_takeParams_173 h
      · exact z_Reader_takeParams_34 ih h
theorem z_Reader_takeParams {p1 : Int32} {X : St} (h : fd X) : pw (g_Reader_takeParams p1 X) (fun _ Y => fd Y) := by
  unfold g_Reader_takeParams
  refine pw_eq (fun X1 eX1 => ?_)
  have dX1 : fd X1 := by rw [eX1]; exact fd_w h (by decide)
  refine pw_bd (z_Reader_enter dX1) (fun _ X2 dX2 => ?_)
  exact z_Reader_takeParams_13 _ _ _ _ dX2
theorem z_Reader_takeOwnKind_23 {a_1 : Int32} {b_0 : Int32} {b_1 : Int32} {g_2 : Nat} (ne46_g_2 : ¬ 46 = g_2) {X : St} (h : fd X) : pw (g_Reader_takeOwnKind_23 a_1 b_0 b_1 g_2 X) (fun _ Y => fd Y) := by
  unfold g_Reader_takeOwnKind_23
  refine pw_ck (fun _ => ?_)
  refine pw_eq (fun X5 eX5 => ?_)
  have dX5 : fd X5 := by rw [eX5]; exact fd_w h (fun g_ => ne46_g_2 g_.1)
  refine pw_bd (z_Reader_want dX5) (fun _ X6 dX6 => ?_)
  refine pw_ck (fun hck1 => ?_)
  refine pw_eq (fun e7 ee7 => ?_)
  have pke7 : PKo e7 := by rw [ee7]; exact refO_pk hck1
  have ne46_e7 : ¬ 46 = e7 := PKo.ne pke7
  refine pw_eq (fun e8 ee8 => ?_)
  have ne46_e8 : ¬ 46 = e8 := by rw [ee8]; exact PKo.row pke7 4
  refine pw_ck (fun hck2 => ?_)
  refine pw_eq (fun e9 ee9 => ?_)
  have pke9 : PKo e9 := by rw [ee9]; exact refO_pk hck2
  have ne46_e9 : ¬ 46 = e9 := PKo.ne pke9
  refine pw_eq (fun x10 _ => ?_)
  refine pw_ck (fun _ => ?_)
  refine pw_eq (fun X11 eX11 => ?_)
  have dX11 : fd X11 := by rw [eX11]; exact fd_w dX6 (fun g_ => ne46_e8 g_.1)
  exact pw_ret dX11
theorem z_Reader_takeOwnKind {p1 : Int32} {X : St} (h : fd X) : pw (g_Reader_takeOwnKind p1 X) (fun _ Y => fd Y) := by
  unfold g_Reader_takeOwnKind
  refine pw_ck (fun hck1 => ?_)
  refine pw_eq (fun e1 ee1 => ?_)
  have pke1 : PKo e1 := by rw [ee1]; exact refO_pk hck1
  have ne46_e1 : ¬ 46 = e1 := PKo.ne pke1
  refine pw_eq (fun e2 ee2 => ?_)
  have ne46_e2 : ¬ 46 = e2 := by rw [ee2]; exact PKo.row pke1 12
  refine pw_bd (z_Reader_tookColon h) (fun x3 X4 dX4 => ?_)
  refine pw_ite (fun _ => ?_) (fun _ => ?_)
  · exact z_Reader_takeOwnKind_23 ne46_e2 dX4
  · refine pw_bd (z_Reader_takeKind dX4) (fun x12 X13 dX13 => ?_)
    exact z_Reader_takeOwnKind_23 ne46_e2 dX13
theorem z_Reader_emitStep {X : St} (h : fd X) : pw (g_Reader_emitStep X) (fun _ Y => fd Y) := by
  unfold g_Reader_emitStep
  refine pw_ck (fun hck1 => ?_)
  refine pw_eq (fun e1 ee1 => ?_)
  have pke1 : PKo e1 := by rw [ee1]; exact refO_pk hck1
  have ne46_e1 : ¬ 46 = e1 := PKo.ne pke1
  refine pw_eq (fun x2 _ => ?_)
  refine pw_bd (z_Program_emit pke1 h) (fun x3 X4 dX4 => ?_)
  exact pw_ret dX4
theorem z_Reader_placeOf {p1 : Int32} {X : St} (h : fd X) : pw (g_Reader_placeOf p1 X) (fun _ Y => fd Y) := by
  unfold g_Reader_placeOf
  refine pw_ck (fun hck1 => ?_)
  refine pw_eq (fun e1 ee1 => ?_)
  have pke1 : PKo e1 := by rw [ee1]; exact refO_pk hck1
  have ne46_e1 : ¬ 46 = e1 := PKo.ne pke1
  refine pw_eq (fun e2 ee2 => ?_)
  have ne46_e2 : ¬ 46 = e2 := by rw [ee2]; exact PKo.row pke1 16
  refine pw_ck (fun _ => ?_)
  refine pw_eq (fun x3 _ => ?_)
  exact pw_ret h
theorem z_Reader_takeDigits {X : St} (h : fd X) : pw (g_Reader_takeDigits X) (fun _ Y => fd Y) := by
  unfold g_Reader_takeDigits
  refine pw_eq (fun y1 _ => ?_)
  refine pw_eq (fun x2 _ => ?_)
  refine pw_ite (fun _ => ?_) (fun _ => ?_)
  · refine pw_ck (fun hck1 => ?_)
    refine pw_eq (fun e3 ee3 => ?_)
    have pke3 : PKo e3 := by rw [ee3]; exact refO_pk hck1
    have ne46_e3 : ¬ 46 = e3 := PKo.ne pke3
    refine pw_eq (fun y4 _ => ?_)
    refine pw_eq (fun x5 _ => ?_)
    refine pw_eq (fun x6 _ => ?_)
    refine pw_bd (z_Program_emit pke3 h) (fun x7 X8 dX8 => ?_)
    refine pw_bd (z_Tokens_advance dX8) (fun _ X9 dX9 => ?_)
    exact pw_ret dX9
  · refine pw_bd (z_Reader_refuse h) (fun _ X10 dX10 => ?_)
    exact pw_ret dX10
theorem z_Reader_takeName_26 {a_1 : Int32} {b_0 : Int32} {g_1 : Nat} (p_g_1 : PKo g_1) {X : St} (h : fd X) : pw (g_Reader_takeName_26 a_1 b_0 g_1 X) (fun _ Y => fd Y) := by
  have ne46_g_1 : ¬ 46 = g_1 := PKo.ne p_g_1
  unfold g_Reader_takeName_26
  refine pw_eq (fun x5 _ => ?_)
  refine pw_bd (z_Program_emit p_g_1 h) (fun x6 X7 dX7 => ?_)
  refine pw_bd (z_Tokens_advance dX7) (fun _ X8 dX8 => ?_)
  exact pw_ret dX8
theorem z_Reader_takeName {X : St} (h : fd X) : pw (g_Reader_takeName X) (fun _ Y => fd Y) := by
  unfold g_Reader_takeName
  refine pw_eq (fun y1 _ => ?_)
  refine pw_bd (z_Reader_slotOf h) (fun x2 X3 dX3 => ?_)
  refine pw_ck (fun hck1 => ?_)
  refine pw_eq (fun e4 ee4 => ?_)
  have pke4 : PKo e4 := by rw [ee4]; exact refO_pk hck1
  have ne46_e4 : ¬ 46 = e4 := PKo.ne pke4
  refine pw_ite (fun _ => ?_) (fun _ => ?_)
  · exact z_Reader_takeName_26 pke4 dX3
  · exact z_Reader_takeName_26 pke4 dX3
theorem z_Reader_beginsE {X : St} (h : fd X) : pw (g_Reader_beginsE X) (fun _ Y => fd Y) := by
  unfold g_Reader_beginsE
  refine pw_eq (fun x1 _ => ?_)
  refine pw_ite (fun _ => ?_) (fun _ => ?_)
  · exact pw_ret h
  · refine pw_ite (fun _ => ?_) (fun _ => ?_)
    · exact pw_ret h
    · refine pw_ite (fun _ => ?_) (fun _ => ?_)
      · exact pw_ret h
      · refine pw_ite (fun _ => ?_) (fun _ => ?_)
        · exact pw_ret h
        · refine pw_ite (fun _ => ?_) (fun _ => ?_)
          · exact pw_ret h
          · refine pw_ite (fun _ => ?_) (fun _ => ?_)
            · exact pw_ret h
            · refine pw_ite (fun _ => ?_) (fun _ => ?_)
              · exact pw_ret h
              · refine pw_ite (fun _ => ?_) (fun _ => ?_)
                · exact pw_ret h
                · refine pw_ite (fun _ => ?_) (fun _ => ?_)
                  · exact pw_ret h
                  · refine pw_ite (fun _ => ?_) (fun _ => ?_)
                    · exact pw_ret h
                    · refine pw_ite (fun _ => ?_) (fun _ => ?_)
                      · exact pw_ret h
                      · refine pw_ite (fun _ => ?_) (fun _ => ?_)
                        · exact pw_ret h
                        · refine pw_ite (fun _ => ?_) (fun _ => ?_)
                          · exact pw_ret h
                          · refine pw_ite (fun _ => ?_) (fun _ => ?_)
                            · exact pw_ret h
                            · exact pw_ret h
theorem z_Reader_addStep {p1 : Int32} {X : St} (h : fd X) : pw (g_Reader_addStep p1 X) (fun _ Y => fd Y) := by
  unfold g_Reader_addStep
  refine pw_ck (fun hck1 => ?_)
  refine pw_eq (fun e1 ee1 => ?_)
  have pke1 : PKo e1 := by rw [ee1]; exact refO_pk hck1
  have ne46_e1 : ¬ 46 = e1 := PKo.ne pke1
  refine pw_eq (fun e2 ee2 => ?_)
  have ne46_e2 : ¬ 46 = e2 := by rw [ee2]; exact PKo.row pke1 14
  refine pw_ck (fun _ => ?_)
  refine pw_eq (fun x3 _ => ?_)
  refine pw_eq (fun x4 _ => ?_)
  refine pw_ck (fun _ => ?_)
  refine pw_eq (fun X5 eX5 => ?_)
  have dX5 : fd X5 := by rw [eX5]; exact fd_w h (fun g_ => ne46_e2 g_.1)
  exact pw_ret dX5
theorem z_Reader_levelOf {p0 : Int32} {X : St} (h : fd X) : pw (g_Reader_levelOf p0 X) (fun _ Y => fd Y) := by
  unfold g_Reader_levelOf
  refine pw_ite (fun _ => ?_) (fun _ => ?_)
  · exact pw_ret h
  · refine pw_ite (fun _ => ?_) (fun _ => ?_)
    · exact pw_ret h
    · refine pw_ite (fun _ => ?_) (fun _ => ?_)
      · exact pw_ret h
      · refine pw_ite (fun _ => ?_) (fun _ => ?_)
        · exact pw_ret h
        · refine pw_ite (fun _ => ?_) (fun _ => ?_)
          · exact pw_ret h
          · refine pw_ite (fun _ => ?_) (fun _ => ?_)
            · exact pw_ret h
            · refine pw_ite (fun _ => ?_) (fun _ => ?_)
              · exact pw_ret h
              · exact pw_ret h
theorem z_Reader_opOf {p0 : Int32} {X : St} (h : fd X) : pw (g_Reader_opOf p0 X) (fun _ Y => fd Y) := by
  unfold g_Reader_opOf
  refine pw_ite (fun _ => ?_) (fun _ => ?_)
  · exact pw_ret h
  · refine pw_ite (fun _ => ?_) (fun _ => ?_)
    · exact pw_ret h
    · refine pw_ite (fun _ => ?_) (fun _ => ?_)
      · exact pw_ret h
      · refine pw_ite (fun _ => ?_) (fun _ => ?_)
        · exact pw_ret h
        · refine pw_ite (fun _ => ?_) (fun _ => ?_)
          · exact pw_ret h
          · refine pw_ite (fun _ => ?_) (fun _ => ?_)
            · exact pw_ret h
            · exact pw_ret h
theorem z_Reader_applyWaiting_11 (N : Nat) : ∀ (a_1 : Int32) (a_2 : Int32) (a_4 : Int32) (a_5 : Int32) (X : St), fd X → pw (g_Reader_applyWaiting_11 N a_1 a_2 a_4 a_5 X) (fun _ Y => fd Y) := by
  unfold g_Reader_applyWaiting_11
  refine lp_ind (P := fun (r : Int32 → Int32 → Int32 → Int32 → St → Option (Int32 × St)) => ∀ (a_1 : Int32) (a_2 : Int32) (a_4 : Int32) (a_5 : Int32) (X : St), fd X → pw (r a_1 a_2 a_4 a_5 X) (fun _ Y => fd Y)) (fun _ _ _ _ _ _ => pw_none) (fun r ih a_1 a_2 a_4 a_5 X h => ?_) N
  unfold g_Reader_applyWaiting_11_s
  refine pw_ite (fun _ => ?_) (fun _ => ?_)
  · exact pw_ret h
  · refine pw_ck (fun _ => ?_)
    refine pw_eq (fun x3 _ => ?_)
    refine pw_bd (z_Reader_levelOf h) (fun x4 X5 dX5 => ?_)
    refine pw_ite (fun _ => ?_) (fun _ => ?_)
    · exact pw_ret dX5
    · refine pw_ck (fun hck1 => ?_)
      refine pw_eq (fun e6 ee6 => ?_)
      have pke6 : PKo e6 := by rw [ee6]; exact refO_pk hck1
      have ne46_e6 : ¬ 46 = e6 := PKo.ne pke6
      refine pw_bd (z_Reader_placeOf dX5) (fun x7 X8 dX8 => ?_)
      refine pw_bd (z_Program_emit pke6 dX8) (fun x9 X10 dX10 => ?_)
      refine pw_ck (fun hck2 => ?_)
      refine pw_eq (fun e11 ee11 => ?_)
      have pke11 : PKo e11 := by rw [ee11]; exact refO_pk hck2
      have ne46_e11 : ¬ 46 = e11 := PKo.ne pke11
      refine pw_ck (fun _ => ?_)
      refine pw_eq (fun x12 _ => ?_)
      refine pw_bd (z_Reader_opOf dX10) (fun x13 X14 dX14 => ?_)
      refine pw_ck (fun _ => ?_)
      refine pw_eq (fun x15 _ => ?_)
      refine pw_bd (z_Program_emit pke11 dX14) (fun x16 X17 dX17 => ?_)
      refine pw_ck (fun _ => ?_)
      refine pw_eq (fun x18 _ => ?_)
      refine pw_bd (z_Reader_addStep dX17) (fun _ X19 dX19 => ?_)
      refine pw_eq (fun X20 eX20 => ?_)
      have dX20 : fd X20 := by rw [eX20]; exact fd_w dX19 (by decide)
      refine pw_eq (fun x21 _ => ?_)
      exact ih _ _ _ _ _ dX20
theorem z_Reader_applyWaiting {p1 : Int32} {p2 : Int32} {p3 : Int32} {X : St} (h : fd X) : pw (g_Reader_applyWaiting p1 p2 p3 X) (fun _ Y => fd Y) := by
  unfold g_Reader_applyWaiting
  refine pw_eq (fun x1 _ => ?_)
  refine pw_eq (fun x2 _ => ?_)
  exact z_Reader_applyWaiting_11 _ _ _ _ _ _ h
theorem z_Reader_pushWaiting {p1 : Int32} {X : St} (h : fd X) : pw (g_Reader_pushWaiting p1 X) (fun _ Y => fd Y) := by
  unfold g_Reader_pushWaiting
  refine pw_ck (fun hck1 => ?_)
  refine pw_eq (fun e1 ee1 => ?_)
  have pke1 : PKo e1 := by rw [ee1]; exact refO_pk hck1
  have ne46_e1 : ¬ 46 = e1 := PKo.ne pke1
  refine pw_bd (z_Reader_placeOf h) (fun x2 X3 dX3 => ?_)
  refine pw_bd (z_Program_emit pke1 dX3) (fun x4 X5 dX5 => ?_)
  refine pw_eq (fun x6 _ => ?_)
  refine pw_ite (fun _ => ?_) (fun _ => ?_)
  · exact pw_ret dX5
  · refine pw_eq (fun x7 _ => ?_)
    refine pw_eq (fun x8 _ => ?_)
    refine pw_ck (fun _ => ?_)
    refine pw_eq (fun X9 eX9 => ?_)
    have dX9 : fd X9 := by rw [eX9]; exact fd_w dX5 (fun g_ => absurd g_.1 (by decide))
    refine pw_eq (fun x10 _ => ?_)
    refine pw_eq (fun x11 _ => ?_)
    refine pw_ck (fun _ => ?_)
    refine pw_eq (fun X12 eX12 => ?_)
    have dX12 : fd X12 := by rw [eX12]; exact fd_w dX9 (fun g_ => absurd g_.1 (by decide))
    refine pw_eq (fun x13 _ => ?_)
    refine pw_ck (fun _ => ?_)
    refine pw_eq (fun X14 eX14 => ?_)
    have dX14 : fd X14 := by rw [eX14]; exact fd_w dX12 (fun g_ => absurd g_.1 (by decide))
    refine pw_eq (fun x15 _ => ?_)
    refine pw_eq (fun x16 _ => ?_)
    refine pw_eq (fun X17 eX17 => ?_)
    have dX17 : fd X17 := by rw [eX17]; exact fd_w dX14 (by decide)
    exact pw_ret dX17
theorem z_Reader_takePlace {v_takePrefix : Int32 → Int32 → St → Option (Int32 × St)} {v_takeE : St → Option (Int32 × St)} (hv_takePrefix : ∀ (q0 : Int32) (q1 : Int32) (X : St), fd X → pw (v_takePrefix q0 q1 X) (fun _ Y => fd Y)) (hv_takeE : ∀ (X : St), fd X → pw (v_takeE X) (fun _ Y => fd Y)) {X : St} (h : fd X) : pw (g_Reader_takePlace v_takePrefix v_takeE X) (fun _ Y => fd Y) := by
  unfold g_Reader_takePlace
  refine pw_eq (fun x1 _ => ?_)
  refine pw_ck (fun hck1 => ?_)
  refine pw_eq (fun e2 ee2 => ?_)
  have pke2 : PKo e2 := by rw [ee2]; exact refO_pk hck1
  have ne46_e2 : ¬ 46 = e2 := PKo.ne pke2
  refine pw_bd (z_Program_emit pke2 h) (fun x3 X4 dX4 => ?_)
  refine pw_bd (z_Reader_enter dX4) (fun _ X5 dX5 => ?_)
  refine pw_bd (hv_takeE _ dX5) (fun x6 X7 dX7 => ?_)
  refine pw_ck (fun hck2 => ?_)
  refine pw_eq (fun e8 ee8 => ?_)
  have pke8 : PKo e8 := by rw [ee8]; exact refO_pk hck2
  have ne46_e8 : ¬ 46 = e8 := PKo.ne pke8
  refine pw_bd (z_Reader_placeOf dX7) (fun x9 X10 dX10 => ?_)
  refine pw_bd (z_Program_emit pke8 dX10) (fun x11 X12 dX12 => ?_)
  refine pw_bd (z_Reader_want dX12) (fun _ X13 dX13 => ?_)
  refine pw_eq (fun x14 _ => ?_)
  refine pw_eq (fun x15 _ => ?_)
  refine pw_eq (fun X16 eX16 => ?_)
  have dX16 : fd X16 := by rw [eX16]; exact fd_w dX13 (by decide)
  refine pw_eq (fun x17 _ => ?_)
  refine pw_ite (fun _ => ?_) (fun _ => ?_)
  · refine pw_bd (z_Reader_enter dX16) (fun _ X18 dX18 => ?_)
    refine pw_bd (hv_takeE _ dX18) (fun x19 X20 dX20 => ?_)
    refine pw_ck (fun hck3 => ?_)
    refine pw_eq (fun e21 ee21 => ?_)
    have pke21 : PKo e21 := by rw [ee21]; exact refO_pk hck3
    have ne46_e21 : ¬ 46 = e21 := PKo.ne pke21
    refine pw_bd (z_Reader_placeOf dX20) (fun x22 X23 dX23 => ?_)
    refine pw_bd (z_Program_emit pke21 dX23) (fun x24 X25 dX25 => ?_)
    refine pw_ck (fun hck4 => ?_)
    refine pw_eq (fun e26 ee26 => ?_)
    have pke26 : PKo e26 := by rw [ee26]; exact refO_pk hck4
    have ne46_e26 : ¬ 46 = e26 := PKo.ne pke26
    refine pw_bd (z_Program_emit pke26 dX25) (fun x27 X28 dX28 => ?_)
    refine pw_eq (fun x29 _ => ?_)
    refine pw_eq (fun x30 _ => ?_)
    refine pw_eq (fun X31 eX31 => ?_)
    have dX31 : fd X31 := by rw [eX31]; exact fd_w dX28 (by decide)
    exact pw_ret dX31
  · refine pw_ck (fun hck5 => ?_)
    refine pw_eq (fun e32 ee32 => ?_)
    have pke32 : PKo e32 := by rw [ee32]; exact refO_pk hck5
    have ne46_e32 : ¬ 46 = e32 := PKo.ne pke32
    refine pw_bd (z_Program_emit pke32 dX16) (fun x33 X34 dX34 => ?_)
    exact pw_ret dX34
theorem z_Reader_takeBlock_68 {v_takePrefix : Int32 → Int32 → St → Option (Int32 × St)} {v_takeE : St → Option (Int32 × St)} (hv_takePrefix : ∀ (q0 : Int32) (q1 : Int32) (X : St), fd X → pw (v_takePrefix q0 q1 X) (fun _ Y => fd Y)) (hv_takeE : ∀ (X : St), fd X → pw (v_takeE X) (fun _ Y => fd Y)) {X : St} (h : fd X) : pw (g_Reader_takeBlock_68 v_takePrefix v_takeE X) (fun _ Y => fd Y) := by
  unfold g_Reader_takeBlock_68
  refine pw_bd (z_Reader_want h) (fun _ X4 dX4 => ?_)
  refine pw_eq (fun x5 _ => ?_)
  refine pw_eq (fun x6 _ => ?_)
  refine pw_eq (fun X7 eX7 => ?_)
  have dX7 : fd X7 := by rw [eX7]; exact fd_w dX4 (by decide)
  exact pw_ret dX7
theorem z_Reader_takeBlock_13 {v_takePrefix : Int32 → Int32 → St → Option (Int32 × St)} {v_takeE : St → Option (Int32 × St)} (hv_takePrefix : ∀ (q0 : Int32) (q1 : Int32) (X : St), fd X → pw (v_takePrefix q0 q1 X) (fun _ Y => fd Y)) (hv_takeE : ∀ (X : St), fd X → pw (v_takeE X) (fun _ Y => fd Y)) (N : Nat) : ∀ (a_1 : Int32) (X : St), fd X → pw (g_Reader_takeBlock_13 v_takePrefix v_takeE N a_1 X) (fun _ Y => fd Y) := by
  unfold g_Reader_takeBlock_13
  refine lp_ind (P := fun (r : Int32 → St → Option (Int32 × St)) => ∀ (a_1 : Int32) (X : St), fd X → pw (r a_1 X) (fun _ Y => fd Y)) (fun _ _ _ => pw_none) (fun r ih a_1 X h => ?_) N
  unfold g_Reader_takeBlock_13_s
  refine pw_ite (fun _ => ?_) (fun _ => ?_)
  · exact z_Reader_takeBlock_68 hv_takePrefix hv_takeE h
  · refine pw_eq (fun x8 _ => ?_)
    refine pw_ite (fun _ => ?_) (fun _ => ?_)
    · refine pw_ck (fun hck1 => ?_)
      refine pw_eq (fun e9 ee9 => ?_)
      have pke9 : PKo e9 := by rw [ee9]; exact refO_pk hck1
      have ne46_e9 : ¬ 46 = e9 := PKo.ne pke9
      refine pw_eq (fun x10 _ => ?_)
      refine pw_bd (z_Program_emit pke9 h) (fun x11 X12 dX12 => ?_)
      refine pw_bd (z_Tokens_advance dX12) (fun _ X13 dX13 => ?_)
      refine pw_bd (hv_takeE _ dX13) (fun x14 X15 dX15 => ?_)
      refine pw_eq (fun x16 _ => ?_)
      exact ih _ _ dX15
    · exact z_Reader_takeBlock_68 hv_takePrefix hv_takeE h
theorem z_Reader_takeBlock {v_takePrefix : Int32 → Int32 → St → Option (Int32 × St)} {v_takeE : St → Option (Int32 × St)} (hv_takePrefix : ∀ (q0 : Int32) (q1 : Int32) (X : St), fd X → pw (v_takePrefix q0 q1 X) (fun _ Y => fd Y)) (hv_takeE : ∀ (X : St), fd X → pw (v_takeE X) (fun _ Y => fd Y)) {X : St} (h : fd X) : pw (g_Reader_takeBlock v_takePrefix v_takeE X) (fun _ Y => fd Y) := by
  unfold g_Reader_takeBlock
  refine pw_bd (z_Reader_enter h) (fun _ X1 dX1 => ?_)
  refine pw_bd (hv_takeE _ dX1) (fun x2 X3 dX3 => ?_)
  exact z_Reader_takeBlock_13 hv_takePrefix hv_takeE _ _ _ dX3
theorem z_Reader_takeList_111 {v_takePrefix : Int32 → Int32 → St → Option (Int32 × St)} {v_takeE : St → Option (Int32 × St)} (hv_takePrefix : ∀ (q0 : Int32) (q1 : Int32) (X : St), fd X → pw (v_takePrefix q0 q1 X) (fun _ Y => fd Y)) (hv_takeE : ∀ (X : St), fd X → pw (v_takeE X) (fun _ Y => fd Y)) {a_1 : Int32} {a_4 : Int32} {X : St} (h : fd X) : pw (g_Reader_takeList_111 v_takePrefix v_takeE a_1 a_4 X) (fun _ Y => fd Y) := by
  unfold g_Reader_takeList_111
  refine pw_bd (z_Reader_want h) (fun _ X3 dX3 => ?_)
  refine pw_eq (fun x4 _ => ?_)
  refine pw_eq (fun x5 _ => ?_)
  refine pw_eq (fun X6 eX6 => ?_)
  have dX6 : fd X6 := by rw [eX6]; exact fd_w dX3 (by decide)
  exact pw_ret dX6
theorem z_Reader_takeList_57 {v_takePrefix : Int32 → Int32 → St → Option (Int32 × St)} {v_takeE : St → Option (Int32 × St)} {r17 : Int32 → Int32 → Int32 → Int32 → Int32 → St → Option (Int32 × St)} (hv_takePrefix : ∀ (q0 : Int32) (q1 : Int32) (X : St), fd X → pw (v_takePrefix q0 q1 X) (fun _ Y => fd Y)) (hv_takeE : ∀ (X : St), fd X → pw (v_takeE X) (fun _ Y => fd Y)) (hr17 : ∀ (q0 : Int32) (q1 : Int32) (q2 : Int32) (q3 : Int32) (q4 : Int32) (X : St), fd X → pw (r17 q0 q1 q2 q3 q4 X) (fun _ Y => fd Y)) {a_1 : Int32} {a_2 : Int32} {a_3 : Int32} {a_4 : Int32} {a_5 : Int32} {X : St} (h : fd X) : pw (g_Reader_takeList_57 v_takePrefix v_takeE r17 a_1 a_2 a_3 a_4 a_5 X) (fun _ Y => fd Y) := by
  unfold g_Reader_takeList_57
  refine pw_bd (hv_takeE _ h) (fun x7 X8 dX8 => ?_)
  refine pw_ck (fun hck1 => ?_)
  refine pw_eq (fun e9 ee9 => ?_)
  have pke9 : PKo e9 := by rw [ee9]; exact refO_pk hck1
  have ne46_e9 : ¬ 46 = e9 := PKo.ne pke9
  refine pw_bd (z_Reader_placeOf dX8) (fun x10 X11 dX11 => ?_)
  refine pw_bd (z_Program_emit pke9 dX11) (fun x12 X13 dX13 => ?_)
  refine pw_eq (fun x14 _ => ?_)
  refine pw_eq (fun x15 _ => ?_)
  refine pw_ite (fun _ => ?_) (fun _ => ?_)
  · refine pw_bd (z_Tokens_advance dX13) (fun _ X16 dX16 => ?_)
    refine pw_eq (fun x17 _ => ?_)
    exact hr17 _ _ _ _ _ _ dX16
  · exact z_Reader_takeList_111 hv_takePrefix hv_takeE dX13
theorem z_Reader_takeList_39 {v_takePrefix : Int32 → Int32 → St → Option (Int32 × St)} {v_takeE : St → Option (Int32 × St)} {r17 : Int32 → Int32 → Int32 → Int32 → Int32 → St → Option (Int32 × St)} (hv_takePrefix : ∀ (q0 : Int32) (q1 : Int32) (X : St), fd X → pw (v_takePrefix q0 q1 X) (fun _ Y => fd Y)) (hv_takeE : ∀ (X : St), fd X → pw (v_takeE X) (fun _ Y => fd Y)) (hr17 : ∀ (q0 : Int32) (q1 : Int32) (q2 : Int32) (q3 : Int32) (q4 : Int32) (X : St), fd X → pw (r17 q0 q1 q2 q3 q4 X) (fun _ Y => fd Y)) {a_1 : Int32} {a_2 : Int32} {a_3 : Int32} {a_4 : Int32} {a_5 : Int32} {X : St} (h : fd X) : pw (g_Reader_takeList_39 v_takePrefix v_takeE r17 a_1 a_2 a_3 a_4 a_5 X) (fun _ Y => fd Y) := by
  unfold g_Reader_takeList_39
  refine pw_ite (fun _ => ?_) (fun _ => ?_)
  · exact z_Reader_takeList_57 hv_takePrefix hv_takeE hr17 h
  · refine pw_bd (z_Reader_beginsE h) (fun x18 X19 dX19 => ?_)
    refine pw_ite (fun _ => ?_) (fun _ => ?_)
    · exact z_Reader_takeList_57 hv_takePrefix hv_takeE hr17 dX19
    · refine pw_bd (z_Reader_refuse dX19) (fun _ X20 dX20 => ?_)
      exact z_Reader_takeList_57 hv_takePrefix hv_takeE hr17 dX20
theorem z_Reader_takeList_17 {v_takePrefix : Int32 → Int32 → St → Option (Int32 × St)} {v_takeE : St → Option (Int32 × St)} (hv_takePrefix : ∀ (q0 : Int32) (q1 : Int32) (X : St), fd X → pw (v_takePrefix q0 q1 X) (fun _ Y => fd Y)) (hv_takeE : ∀ (X : St), fd X → pw (v_takeE X) (fun _ Y => fd Y)) (N : Nat) : ∀ (a_1 : Int32) (a_2 : Int32) (a_3 : Int32) (a_4 : Int32) (a_5 : Int32) (X : St), fd X → pw (g_Reader_takeList_17 v_takePrefix v_takeE N a_1 a_2 a_3 a_4 a_5 X) (fun _ Y => fd Y) := by
  unfold g_Reader_takeList_17
  refine lp_ind (P := fun (r : Int32 → Int32 → Int32 → Int32 → Int32 → St → Option (Int32 × St)) => ∀ (a_1 : Int32) (a_2 : Int32) (a_3 : Int32) (a_4 : Int32) (a_5 : Int32) (X : St), fd X → pw (r a_1 a_2 a_3 a_4 a_5 X) (fun _ Y => fd Y)) (fun _ _ _ _ _ _ _ => pw_none) (fun r ih a_1 a_2 a_3 a_4 a_5 X h => ?_) N
  unfold g_Reader_takeList_17_s
  refine pw_ite (fun _ => ?_) (fun _ => ?_)
  · exact z_Reader_takeList_111 hv_takePrefix hv_takeE h
  · refine pw_ite (fun _ => ?_) (fun _ => ?_)
    · exact z_Reader_takeList_39 hv_takePrefix hv_takeE ih h
    · refine pw_eq (fun x21 _ => ?_)
      refine pw_ite (fun _ => ?_) (fun _ => ?_)
      · exact z_Reader_takeList_111 hv_takePrefix hv_takeE h
      · exact z_Reader_takeList_39 hv_takePrefix hv_takeE ih h
theorem z_Reader_takeList {v_takePrefix : Int32 → Int32 → St → Option (Int32 × St)} {v_takeE : St → Option (Int32 × St)} (hv_takePrefix : ∀ (q0 : Int32) (q1 : Int32) (X : St), fd X → pw (v_takePrefix q0 q1 X) (fun _ Y => fd Y)) (hv_takeE : ∀ (X : St), fd X → pw (v_takeE X) (fun _ Y => fd Y)) {p1 : Int32} {p2 : Int32} {p3 : Int32} {X : St} (h : fd X) : pw (g_Reader_takeList v_takePrefix v_takeE p1 p2 p3 X) (fun _ Y => fd Y) := by
  unfold g_Reader_takeList
  refine pw_eq (fun x1 _ => ?_)
  refine pw_bd (z_Reader_enter h) (fun _ X2 dX2 => ?_)
  exact z_Reader_takeList_17 hv_takePrefix hv_takeE _ _ _ _ _ _ _ dX2
theorem z_Reader_takeCall {v_takePrefix : Int32 → Int32 → St → Option (Int32 × St)} {v_takeE : St → Option (Int32 × St)} (hv_takePrefix : ∀ (q0 : Int32) (q1 : Int32) (X : St), fd X → pw (v_takePrefix q0 q1 X) (fun _ Y => fd Y)) (hv_takeE : ∀ (X : St), fd X → pw (v_takeE X) (fun _ Y => fd Y)) {p1 : Int32} {X : St} (h : fd X) : pw (g_Reader_takeCall v_takePrefix v_takeE p1 X) (fun _ Y => fd Y) := by
  unfold g_Reader_takeCall
  refine pw_eq (fun x1 _ => ?_)
  refine pw_ck (fun hck1 => ?_)
  refine pw_eq (fun e2 ee2 => ?_)
  have pke2 : PKo e2 := by rw [ee2]; exact refO_pk hck1
  have ne46_e2 : ¬ 46 = e2 := PKo.ne pke2
  refine pw_bd (z_Program_emit pke2 h) (fun x3 X4 dX4 => ?_)
  refine pw_bd (z_Reader_takeList hv_takePrefix hv_takeE dX4) (fun x5 X6 dX6 => ?_)
  refine pw_ck (fun hck2 => ?_)
  refine pw_eq (fun e7 ee7 => ?_)
  have pke7 : PKo e7 := by rw [ee7]; exact refO_pk hck2
  have ne46_e7 : ¬ 46 = e7 := PKo.ne pke7
  refine pw_eq (fun e8 ee8 => ?_)
  have ne46_e8 : ¬ 46 = e8 := by rw [ee8]; exact PKo.row pke7 14
  refine pw_ck (fun _ => ?_)
  refine pw_eq (fun X9 eX9 => ?_)
  have dX9 : fd X9 := by rw [eX9]; exact fd_w dX6 (fun g_ => ne46_e8 g_.1)
  refine pw_ck (fun hck3 => ?_)
  refine pw_eq (fun e10 ee10 => ?_)
  have pke10 : PKo e10 := by rw [ee10]; exact refO_pk hck3
  have ne46_e10 : ¬ 46 = e10 := PKo.ne pke10
  refine pw_bd (z_Program_emit pke10 dX9) (fun x11 X12 dX12 => ?_)
  exact pw_ret dX12
theorem z_Reader_takeWork {v_takePrefix : Int32 → Int32 → St → Option (Int32 × St)} {v_takeE : St → Option (Int32 × St)} (hv_takePrefix : ∀ (q0 : Int32) (q1 : Int32) (X : St), fd X → pw (v_takePrefix q0 q1 X) (fun _ Y => fd Y)) (hv_takeE : ∀ (X : St), fd X → pw (v_takeE X) (fun _ Y => fd Y)) {p1 : Int32} {p2 : Int32} {X : St} (h : fd X) : pw (g_Reader_takeWork v_takePrefix v_takeE p1 p2 X) (fun _ Y => fd Y) := by
  unfold g_Reader_takeWork
  refine pw_eq (fun x1 _ => ?_)
  refine pw_bd (z_Tokens_advance h) (fun _ X2 dX2 => ?_)
  refine pw_bd (z_Reader_enter dX2) (fun _ X3 dX3 => ?_)
  refine pw_bd (hv_takeE _ dX3) (fun x4 X5 dX5 => ?_)
  refine pw_ck (fun hck1 => ?_)
  refine pw_eq (fun e6 ee6 => ?_)
  have pke6 : PKo e6 := by rw [ee6]; exact refO_pk hck1
  have ne46_e6 : ¬ 46 = e6 := PKo.ne pke6
  refine pw_bd (z_Reader_placeOf dX5) (fun x7 X8 dX8 => ?_)
  refine pw_bd (z_Program_emit pke6 dX8) (fun x9 X10 dX10 => ?_)
  refine pw_bd (z_Reader_want dX10) (fun _ X11 dX11 => ?_)
  refine pw_eq (fun x12 _ => ?_)
  refine pw_eq (fun x13 _ => ?_)
  refine pw_eq (fun X14 eX14 => ?_)
  have dX14 : fd X14 := by rw [eX14]; exact fd_w dX11 (by decide)
  refine pw_ck (fun hck2 => ?_)
  refine pw_eq (fun e15 ee15 => ?_)
  have pke15 : PKo e15 := by rw [ee15]; exact refO_pk hck2
  have ne46_e15 : ¬ 46 = e15 := PKo.ne pke15
  refine pw_bd (z_Program_emit pke15 dX14) (fun x16 X17 dX17 => ?_)
  exact pw_ret dX17
theorem z_Reader_takeNew {v_takePrefix : Int32 → Int32 → St → Option (Int32 × St)} {v_takeE : St → Option (Int32 × St)} (hv_takePrefix : ∀ (q0 : Int32) (q1 : Int32) (X : St), fd X → pw (v_takePrefix q0 q1 X) (fun _ Y => fd Y)) (hv_takeE : ∀ (X : St), fd X → pw (v_takeE X) (fun _ Y => fd Y)) {X : St} (h : fd X) : pw (g_Reader_takeNew v_takePrefix v_takeE X) (fun _ Y => fd Y) := by
  unfold g_Reader_takeNew
  refine pw_eq (fun x1 _ => ?_)
  refine pw_bd (z_Tokens_advance h) (fun _ X2 dX2 => ?_)
  refine pw_bd (z_Reader_enter dX2) (fun _ X3 dX3 => ?_)
  refine pw_bd (hv_takeE _ dX3) (fun x4 X5 dX5 => ?_)
  refine pw_ck (fun hck1 => ?_)
  refine pw_eq (fun e6 ee6 => ?_)
  have pke6 : PKo e6 := by rw [ee6]; exact refO_pk hck1
  have ne46_e6 : ¬ 46 = e6 := PKo.ne pke6
  refine pw_bd (z_Reader_placeOf dX5) (fun x7 X8 dX8 => ?_)
  refine pw_bd (z_Program_emit pke6 dX8) (fun x9 X10 dX10 => ?_)
  refine pw_bd (z_Reader_want dX10) (fun _ X11 dX11 => ?_)
  refine pw_bd (hv_takeE _ dX11) (fun x12 X13 dX13 => ?_)
  refine pw_bd (z_Reader_want dX13) (fun _ X14 dX14 => ?_)
  refine pw_eq (fun x15 _ => ?_)
  refine pw_eq (fun x16 _ => ?_)
  refine pw_eq (fun X17 eX17 => ?_)
  have dX17 : fd X17 := by rw [eX17]; exact fd_w dX14 (by decide)
  refine pw_ck (fun hck2 => ?_)
  refine pw_eq (fun e18 ee18 => ?_)
  have pke18 : PKo e18 := by rw [ee18]; exact refO_pk hck2
  have ne46_e18 : ¬ 46 = e18 := PKo.ne pke18
  refine pw_bd (z_Program_emit pke18 dX17) (fun x19 X20 dX20 => ?_)
  exact pw_ret dX20
theorem z_Reader_takeB_134 {v_takePrefix : Int32 → Int32 → St → Option (Int32 × St)} {v_takeE : St → Option (Int32 × St)} (hv_takePrefix : ∀ (q0 : Int32) (q1 : Int32) (X : St), fd X → pw (v_takePrefix q0 q1 X) (fun _ Y => fd Y)) (hv_takeE : ∀ (X : St), fd X → pw (v_takeE X) (fun _ Y => fd Y)) {a_1 : Int32} {b_0 : Int32} {b_1 : Int32} {g_2 : Nat} (p_g_2 : PKo g_2) {X : St} (h : fd X) : pw (g_Reader_takeB_134 v_takePrefix v_takeE a_1 b_0 b_1 g_2 X) (fun _ Y => fd Y) := by
  have ne46_g_2 : ¬ 46 = g_2 := PKo.ne p_g_2
  unfold g_Reader_takeB_134
  refine pw_eq (fun x29 _ => ?_)
  refine pw_bd (z_Program_emit p_g_2 h) (fun x30 X31 dX31 => ?_)
  refine pw_bd (z_Tokens_advance dX31) (fun _ X32 dX32 => ?_)
  exact pw_ret dX32
theorem z_Reader_takeB {v_takePrefix : Int32 → Int32 → St → Option (Int32 × St)} {v_takeE : St → Option (Int32 × St)} (hv_takePrefix : ∀ (q0 : Int32) (q1 : Int32) (X : St), fd X → pw (v_takePrefix q0 q1 X) (fun _ Y => fd Y)) (hv_takeE : ∀ (X : St), fd X → pw (v_takeE X) (fun _ Y => fd Y)) {X : St} (h : fd X) : pw (g_Reader_takeB v_takePrefix v_takeE X) (fun _ Y => fd Y) := by
  unfold g_Reader_takeB
  refine pw_bd (z_Reader_emitStep h) (fun x1 X2 dX2 => ?_)
  refine pw_eq (fun x3 _ => ?_)
  refine pw_ite (fun _ => ?_) (fun _ => ?_)
  · refine pw_bd (z_Reader_enter dX2) (fun _ X5 dX5 => ?_)
    refine pw_bd (hv_takeE _ dX5) (fun x6 X7 dX7 => ?_)
    refine pw_bd (z_Reader_want dX7) (fun _ X8 dX8 => ?_)
    refine pw_eq (fun x9 _ => ?_)
    refine pw_eq (fun x10 _ => ?_)
    refine pw_eq (fun X11 eX11 => ?_)
    have dX11 : fd X11 := by rw [eX11]; exact fd_w dX8 (by decide)
    exact pw_ret dX11
  · refine pw_ite (fun _ => ?_) (fun _ => ?_)
    · refine pw_ck (fun hck1 => ?_)
      refine pw_eq (fun e13 ee13 => ?_)
      have pke13 : PKo e13 := by rw [ee13]; exact refO_pk hck1
      have ne46_e13 : ¬ 46 = e13 := PKo.ne pke13
      refine pw_bd (z_Reader_takeList hv_takePrefix hv_takeE dX2) (fun x14 X15 dX15 => ?_)
      refine pw_bd (z_Reader_placeOf dX15) (fun x16 X17 dX17 => ?_)
      refine pw_bd (z_Program_emit pke13 dX17) (fun x18 X19 dX19 => ?_)
      exact pw_ret dX19
    · refine pw_ite (fun _ => ?_) (fun _ => ?_)
      · refine pw_bd (z_Reader_takeBlock hv_takePrefix hv_takeE dX2) (fun _ X21 dX21 => ?_)
        exact pw_ret dX21
      · refine pw_ite (fun _ => ?_) (fun _ => ?_)
        · refine pw_bd (z_Reader_takeName dX2) (fun _ X23 dX23 => ?_)
          exact pw_ret dX23
        · refine pw_ite (fun _ => ?_) (fun _ => ?_)
          · refine pw_bd (z_Reader_takeDigits dX2) (fun _ X25 dX25 => ?_)
            exact pw_ret dX25
          · refine pw_ite (fun _ => ?_) (fun _ => ?_)
            · refine pw_ck (fun hck2 => ?_)
              refine pw_eq (fun e27 ee27 => ?_)
              have pke27 : PKo e27 := by rw [ee27]; exact refO_pk hck2
              have ne46_e27 : ¬ 46 = e27 := PKo.ne pke27
              refine pw_eq (fun x28 _ => ?_)
              refine pw_ite (fun _ => ?_) (fun _ => ?_)
              · exact z_Reader_takeB_134 hv_takePrefix hv_takeE pke27 dX2
              · exact z_Reader_takeB_134 hv_takePrefix hv_takeE pke27 dX2
            · refine pw_ite (fun _ => ?_) (fun _ => ?_)
              · refine pw_ck (fun hck3 => ?_)
                refine pw_eq (fun e34 ee34 => ?_)
                have pke34 : PKo e34 := by rw [ee34]; exact refO_pk hck3
                have ne46_e34 : ¬ 46 = e34 := PKo.ne pke34
                refine pw_eq (fun x35 _ => ?_)
                refine pw_ite (fun _ => ?_) (fun _ => ?_)
                · exact z_Reader_takeB_134 hv_takePrefix hv_takeE pke34 dX2
                · exact z_Reader_takeB_134 hv_takePrefix hv_takeE pke34 dX2
              · refine pw_ite (fun _ => ?_) (fun _ => ?_)
                · refine pw_bd (z_Reader_takeNew hv_takePrefix hv_takeE dX2) (fun _ X37 dX37 => ?_)
                  exact pw_ret dX37
                · refine pw_ite (fun _ => ?_) (fun _ => ?_)
                  · refine pw_bd (z_Reader_takeWork hv_takePrefix hv_takeE dX2) (fun _ X39 dX39 => ?_)
                    exact pw_ret dX39
                  · refine pw_ite (fun _ => ?_) (fun _ => ?_)
                    · refine pw_bd (z_Reader_takeWork hv_takePrefix hv_takeE dX2) (fun _ X41 dX41 => ?_)
                      exact pw_ret dX41
                    · refine pw_bd (z_Reader_refuse dX2) (fun _ X42 dX42 => ?_)
                      exact pw_ret dX42
theorem z_Reader_takeU_181 {v_takePrefix : Int32 → Int32 → St → Option (Int32 × St)} {v_takeE : St → Option (Int32 × St)} {r86 : Int32 → Int32 → Int32 → Int32 → St → Option (Int32 × St)} (hv_takePrefix : ∀ (q0 : Int32) (q1 : Int32) (X : St), fd X → pw (v_takePrefix q0 q1 X) (fun _ Y => fd Y)) (hv_takeE : ∀ (X : St), fd X → pw (v_takeE X) (fun _ Y => fd Y)) (hr86 : ∀ (q0 : Int32) (q1 : Int32) (q2 : Int32) (q3 : Int32) (X : St), fd X → pw (r86 q0 q1 q2 q3 X) (fun _ Y => fd Y)) {a_1 : Int32} {a_2 : Int32} {a_3 : Int32} {a_4 : Int32} {X : St} (h : fd X) : pw (g_Reader_takeU_181 v_takePrefix v_takeE r86 a_1 a_2 a_3 a_4 X) (fun _ Y => fd Y) := by
  unfold g_Reader_takeU_181
  refine pw_eq (fun x11 _ => ?_)
  exact hr86 _ _ _ _ _ h
theorem z_Reader_takeU_170 {v_takePrefix : Int32 → Int32 → St → Option (Int32 × St)} {v_takeE : St → Option (Int32 × St)} {r86 : Int32 → Int32 → Int32 → Int32 → St → Option (Int32 × St)} (hv_takePrefix : ∀ (q0 : Int32) (q1 : Int32) (X : St), fd X → pw (v_takePrefix q0 q1 X) (fun _ Y => fd Y)) (hv_takeE : ∀ (X : St), fd X → pw (v_takeE X) (fun _ Y => fd Y)) (hr86 : ∀ (q0 : Int32) (q1 : Int32) (q2 : Int32) (q3 : Int32) (X : St), fd X → pw (r86 q0 q1 q2 q3 X) (fun _ Y => fd Y)) {a_1 : Int32} {a_2 : Int32} {a_3 : Int32} {a_4 : Int32} {b_0 : Int32} {X : St} (h : fd X) : pw (g_Reader_takeU_170 v_takePrefix v_takeE r86 a_1 a_2 a_3 a_4 b_0 X) (fun _ Y => fd Y) := by
  unfold g_Reader_takeU_170
  refine pw_bd (z_Reader_takeCall hv_takePrefix hv_takeE h) (fun _ X12 dX12 => ?_)
  exact z_Reader_takeU_181 hv_takePrefix hv_takeE hr86 dX12
theorem z_Reader_takeU_168 {v_takePrefix : Int32 → Int32 → St → Option (Int32 × St)} {v_takeE : St → Option (Int32 × St)} {r86 : Int32 → Int32 → Int32 → Int32 → St → Option (Int32 × St)} (hv_takePrefix : ∀ (q0 : Int32) (q1 : Int32) (X : St), fd X → pw (v_takePrefix q0 q1 X) (fun _ Y => fd Y)) (hv_takeE : ∀ (X : St), fd X → pw (v_takeE X) (fun _ Y => fd Y)) (hr86 : ∀ (q0 : Int32) (q1 : Int32) (q2 : Int32) (q3 : Int32) (X : St), fd X → pw (r86 q0 q1 q2 q3 X) (fun _ Y => fd Y)) {a_1 : Int32} {a_2 : Int32} {a_3 : Int32} {a_4 : Int32} {X : St} (h : fd X) : pw (g_Reader_takeU_168 v_takePrefix v_takeE r86 a_1 a_2 a_3 a_4 X) (fun _ Y => fd Y) := by
  unfold g_Reader_takeU_168
  exact z_Reader_takeU_170 hv_takePrefix hv_takeE hr86 h
theorem z_Reader_takeU_121 {v_takePrefix : Int32 → Int32 → St → Option (Int32 × St)} {v_takeE : St → Option (Int32 × St)} {r86 : Int32 → Int32 → Int32 → Int32 → St → Option (Int32 × St)} (hv_takePrefix : ∀ (q0 : Int32) (q1 : Int32) (X : St), fd X → pw (v_takePrefix q0 q1 X) (fun _ Y => fd Y)) (hv_takeE : ∀ (X : St), fd X → pw (v_takeE X) (fun _ Y => fd Y)) (hr86 : ∀ (q0 : Int32) (q1 : Int32) (q2 : Int32) (q3 : Int32) (X : St), fd X → pw (r86 q0 q1 q2 q3 X) (fun _ Y => fd Y)) {a_1 : Int32} {a_2 : Int32} {a_3 : Int32} {a_4 : Int32} {X : St} (h : fd X) : pw (g_Reader_takeU_121 v_takePrefix v_takeE r86 a_1 a_2 a_3 a_4 X) (fun _ Y => fd Y) := by
  unfold g_Reader_takeU_121
  refine pw_bd (z_Reader_addStep h) (fun _ X7 dX7 => ?_)
  refine pw_ite (fun _ => ?_) (fun _ => ?_)
  · refine pw_eq (fun x8 _ => ?_)
    refine pw_ite (fun _ => ?_) (fun _ => ?_)
    · refine pw_ite (fun _ => ?_) (fun _ => ?_)
      · exact z_Reader_takeU_168 hv_takePrefix hv_takeE hr86 dX7
      · refine pw_ite (fun _ => ?_) (fun _ => ?_)
        · exact z_Reader_takeU_170 hv_takePrefix hv_takeE hr86 dX7
        · exact z_Reader_takeU_168 hv_takePrefix hv_takeE hr86 dX7
    · refine pw_bd (z_Reader_takePlace hv_takePrefix hv_takeE dX7) (fun x9 X10 dX10 => ?_)
      exact z_Reader_takeU_181 hv_takePrefix hv_takeE hr86 dX10
  · refine pw_bd (z_Reader_refuse dX7) (fun _ X13 dX13 => ?_)
    exact z_Reader_takeU_181 hv_takePrefix hv_takeE hr86 dX13
theorem z_Reader_takeU_86 {v_takePrefix : Int32 → Int32 → St → Option (Int32 × St)} {v_takeE : St → Option (Int32 × St)} (hv_takePrefix : ∀ (q0 : Int32) (q1 : Int32) (X : St), fd X → pw (v_takePrefix q0 q1 X) (fun _ Y => fd Y)) (hv_takeE : ∀ (X : St), fd X → pw (v_takeE X) (fun _ Y => fd Y)) (N : Nat) : ∀ (a_1 : Int32) (a_2 : Int32) (a_3 : Int32) (a_4 : Int32) (X : St), fd X → pw (g_Reader_takeU_86 v_takePrefix v_takeE N a_1 a_2 a_3 a_4 X) (fun _ Y => fd Y) := by
  unfold g_Reader_takeU_86
  refine lp_ind (P := fun (r : Int32 → Int32 → Int32 → Int32 → St → Option (Int32 × St)) => ∀ (a_1 : Int32) (a_2 : Int32) (a_3 : Int32) (a_4 : Int32) (X : St), fd X → pw (r a_1 a_2 a_3 a_4 X) (fun _ Y => fd Y)) (fun _ _ _ _ _ _ => pw_none) (fun r ih a_1 a_2 a_3 a_4 X h => ?_) N
  unfold g_Reader_takeU_86_s
  refine pw_ite (fun _ => ?_) (fun _ => ?_)
  · exact pw_ret h
  · refine pw_ite (fun _ => ?_) (fun _ => ?_)
    · refine pw_eq (fun x6 _ => ?_)
      refine pw_ite (fun _ => ?_) (fun _ => ?_)
      · exact z_Reader_takeU_121 hv_takePrefix hv_takeE ih h
      · refine pw_eq (fun x14 _ => ?_)
        refine pw_ite (fun _ => ?_) (fun _ => ?_)
        · exact z_Reader_takeU_121 hv_takePrefix hv_takeE ih h
        · exact pw_ret h
    · exact pw_ret h
theorem z_Reader_takeU_75 {v_takePrefix : Int32 → Int32 → St → Option (Int32 × St)} {v_takeE : St → Option (Int32 × St)} (hv_takePrefix : ∀ (q0 : Int32) (q1 : Int32) (X : St), fd X → pw (v_takePrefix q0 q1 X) (fun _ Y => fd Y)) (hv_takeE : ∀ (X : St), fd X → pw (v_takeE X) (fun _ Y => fd Y)) {b_0 : Int32} {X : St} (h : fd X) : pw (g_Reader_takeU_75 v_takePrefix v_takeE b_0 X) (fun _ Y => fd Y) := by
  unfold g_Reader_takeU_75
  refine pw_bd (z_Reader_takeB hv_takePrefix hv_takeE h) (fun x4 X5 dX5 => ?_)
  exact z_Reader_takeU_86 hv_takePrefix hv_takeE _ _ _ _ _ _ dX5
theorem z_Reader_takeU_74 {v_takePrefix : Int32 → Int32 → St → Option (Int32 × St)} {v_takeE : St → Option (Int32 × St)} (hv_takePrefix : ∀ (q0 : Int32) (q1 : Int32) (X : St), fd X → pw (v_takePrefix q0 q1 X) (fun _ Y => fd Y)) (hv_takeE : ∀ (X : St), fd X → pw (v_takeE X) (fun _ Y => fd Y)) {X : St} (h : fd X) : pw (g_Reader_takeU_74 v_takePrefix v_takeE X) (fun _ Y => fd Y) := by
  unfold g_Reader_takeU_74
  exact z_Reader_takeU_75 hv_takePrefix hv_takeE h
theorem z_Reader_takeU {v_takePrefix : Int32 → Int32 → St → Option (Int32 × St)} {v_takeE : St → Option (Int32 × St)} (hv_takePrefix : ∀ (q0 : Int32) (q1 : Int32) (X : St), fd X → pw (v_takePrefix q0 q1 X) (fun _ Y => fd Y)) (hv_takeE : ∀ (X : St), fd X → pw (v_takeE X) (fun _ Y => fd Y)) {X : St} (h : fd X) : pw (g_Reader_takeU v_takePrefix v_takeE X) (fun _ Y => fd Y) := by
  unfold g_Reader_takeU
  refine pw_eq (fun x1 _ => ?_)
  refine pw_ite (fun _ => ?_) (fun _ => ?_)
  · refine pw_bd (hv_takePrefix _ _ _ h) (fun x20 X21 dX21 => ?_)
    exact pw_ret dX21
  · refine pw_eq (fun x2 _ => ?_)
    refine pw_ite (fun _ => ?_) (fun _ => ?_)
    · refine pw_bd (hv_takePrefix _ _ _ h) (fun x18 X19 dX19 => ?_)
      exact pw_ret dX19
    · refine pw_eq (fun x3 _ => ?_)
      refine pw_ite (fun _ => ?_) (fun _ => ?_)
      · refine pw_eq (fun y15 _ => ?_)
        refine pw_bd (z_Reader_slotOf h) (fun x16 X17 dX17 => ?_)
        refine pw_ite (fun _ => ?_) (fun _ => ?_)
        · exact z_Reader_takeU_75 hv_takePrefix hv_takeE dX17
        · exact z_Reader_takeU_74 hv_takePrefix hv_takeE dX17
      · exact z_Reader_takeU_74 hv_takePrefix hv_takeE h
theorem z_Reader_takeC_169 {v_takePrefix : Int32 → Int32 → St → Option (Int32 × St)} {v_takeE : St → Option (Int32 × St)} (hv_takePrefix : ∀ (q0 : Int32) (q1 : Int32) (X : St), fd X → pw (v_takePrefix q0 q1 X) (fun _ Y => fd Y)) (hv_takeE : ∀ (X : St), fd X → pw (v_takeE X) (fun _ Y => fd Y)) {a_1 : Int32} {a_5 : Int32} {X : St} (h : fd X) : pw (g_Reader_takeC_169 v_takePrefix v_takeE a_1 a_5 X) (fun _ Y => fd Y) := by
  unfold g_Reader_takeC_169
  refine pw_bd (z_Reader_applyWaiting h) (fun x4 X5 dX5 => ?_)
  exact pw_ret dX5
theorem z_Reader_takeC_144 {v_takePrefix : Int32 → Int32 → St → Option (Int32 × St)} {v_takeE : St → Option (Int32 × St)} {r21 : Int32 → Int32 → Int32 → Int32 → Int32 → Int32 → St → Option (Int32 × St)} (hv_takePrefix : ∀ (q0 : Int32) (q1 : Int32) (X : St), fd X → pw (v_takePrefix q0 q1 X) (fun _ Y => fd Y)) (hv_takeE : ∀ (X : St), fd X → pw (v_takeE X) (fun _ Y => fd Y)) (hr21 : ∀ (q0 : Int32) (q1 : Int32) (q2 : Int32) (q3 : Int32) (q4 : Int32) (q5 : Int32) (X : St), fd X → pw (r21 q0 q1 q2 q3 q4 q5 X) (fun _ Y => fd Y)) {a_1 : Int32} {a_2 : Int32} {a_3 : Int32} {a_4 : Int32} {a_5 : Int32} {a_6 : Int32} {X : St} (h : fd X) : pw (g_Reader_takeC_144 v_takePrefix v_takeE r21 a_1 a_2 a_3 a_4 a_5 a_6 X) (fun _ Y => fd Y) := by
  unfold g_Reader_takeC_144
  refine pw_bd (z_Reader_pushWaiting h) (fun _ X12 dX12 => ?_)
  refine pw_bd (z_Tokens_advance dX12) (fun _ X13 dX13 => ?_)
  refine pw_bd (z_Reader_takeU hv_takePrefix hv_takeE dX13) (fun x14 X15 dX15 => ?_)
  refine pw_eq (fun x16 _ => ?_)
  exact hr21 _ _ _ _ _ _ _ dX15
theorem z_Reader_takeC_139 {v_takePrefix : Int32 → Int32 → St → Option (Int32 × St)} {v_takeE : St → Option (Int32 × St)} {r21 : Int32 → Int32 → Int32 → Int32 → Int32 → Int32 → St → Option (Int32 × St)} (hv_takePrefix : ∀ (q0 : Int32) (q1 : Int32) (X : St), fd X → pw (v_takePrefix q0 q1 X) (fun _ Y => fd Y)) (hv_takeE : ∀ (X : St), fd X → pw (v_takeE X) (fun _ Y => fd Y)) (hr21 : ∀ (q0 : Int32) (q1 : Int32) (q2 : Int32) (q3 : Int32) (q4 : Int32) (q5 : Int32) (X : St), fd X → pw (r21 q0 q1 q2 q3 q4 q5 X) (fun _ Y => fd Y)) {a_1 : Int32} {a_2 : Int32} {a_3 : Int32} {a_4 : Int32} {a_5 : Int32} {a_6 : Int32} {X : St} (h : fd X) : pw (g_Reader_takeC_139 v_takePrefix v_takeE r21 a_1 a_2 a_3 a_4 a_5 a_6 X) (fun _ Y => fd Y) := by
  unfold g_Reader_takeC_139
  refine pw_bd (z_Reader_refuse h) (fun _ X11 dX11 => ?_)
  exact z_Reader_takeC_144 hv_takePrefix hv_takeE hr21 dX11
theorem z_Reader_takeC_126 {v_takePrefix : Int32 → Int32 → St → Option (Int32 × St)} {v_takeE : St → Option (Int32 × St)} {r21 : Int32 → Int32 → Int32 → Int32 → Int32 → Int32 → St → Option (Int32 × St)} (hv_takePrefix : ∀ (q0 : Int32) (q1 : Int32) (X : St), fd X → pw (v_takePrefix q0 q1 X) (fun _ Y => fd Y)) (hv_takeE : ∀ (X : St), fd X → pw (v_takeE X) (fun _ Y => fd Y)) (hr21 : ∀ (q0 : Int32) (q1 : Int32) (q2 : Int32) (q3 : Int32) (q4 : Int32) (q5 : Int32) (X : St), fd X → pw (r21 q0 q1 q2 q3 q4 q5 X) (fun _ Y => fd Y)) {a_1 : Int32} {a_3 : Int32} {a_4 : Int32} {a_5 : Int32} {a_6 : Int32} {b_0 : Int32} {X : St} (h : fd X) : pw (g_Reader_takeC_126 v_takePrefix v_takeE r21 a_1 a_3 a_4 a_5 a_6 b_0 X) (fun _ Y => fd Y) := by
  unfold g_Reader_takeC_126
  refine pw_ite (fun _ => ?_) (fun _ => ?_)
  · exact z_Reader_takeC_139 hv_takePrefix hv_takeE hr21 h
  · refine pw_ite (fun _ => ?_) (fun _ => ?_)
    · exact z_Reader_takeC_144 hv_takePrefix hv_takeE hr21 h
    · exact z_Reader_takeC_139 hv_takePrefix hv_takeE hr21 h
theorem z_Reader_takeC_102 {v_takePrefix : Int32 → Int32 → St → Option (Int32 × St)} {v_takeE : St → Option (Int32 × St)} {r21 : Int32 → Int32 → Int32 → Int32 → Int32 → Int32 → St → Option (Int32 × St)} (hv_takePrefix : ∀ (q0 : Int32) (q1 : Int32) (X : St), fd X → pw (v_takePrefix q0 q1 X) (fun _ Y => fd Y)) (hv_takeE : ∀ (X : St), fd X → pw (v_takeE X) (fun _ Y => fd Y)) (hr21 : ∀ (q0 : Int32) (q1 : Int32) (q2 : Int32) (q3 : Int32) (q4 : Int32) (q5 : Int32) (X : St), fd X → pw (r21 q0 q1 q2 q3 q4 q5 X) (fun _ Y => fd Y)) {a_1 : Int32} {a_2 : Int32} {a_4 : Int32} {a_5 : Int32} {a_6 : Int32} {a_7 : Int32} {b_0 : Int32} {X : St} (h : fd X) : pw (g_Reader_takeC_102 v_takePrefix v_takeE r21 a_1 a_2 a_4 a_5 a_6 a_7 b_0 X) (fun _ Y => fd Y) := by
  unfold g_Reader_takeC_102
  refine pw_ite (fun _ => ?_) (fun _ => ?_)
  · refine pw_eq (fun x17 _ => ?_)
    exact z_Reader_takeC_126 hv_takePrefix hv_takeE hr21 h
  · refine pw_ite (fun _ => ?_) (fun _ => ?_)
    · exact z_Reader_takeC_126 hv_takePrefix hv_takeE hr21 h
    · exact z_Reader_takeC_126 hv_takePrefix hv_takeE hr21 h
theorem z_Reader_takeC_87 {v_takePrefix : Int32 → Int32 → St → Option (Int32 × St)} {v_takeE : St → Option (Int32 × St)} {r21 : Int32 → Int32 → Int32 → Int32 → Int32 → Int32 → St → Option (Int32 × St)} (hv_takePrefix : ∀ (q0 : Int32) (q1 : Int32) (X : St), fd X → pw (v_takePrefix q0 q1 X) (fun _ Y => fd Y)) (hv_takeE : ∀ (X : St), fd X → pw (v_takeE X) (fun _ Y => fd Y)) (hr21 : ∀ (q0 : Int32) (q1 : Int32) (q2 : Int32) (q3 : Int32) (q4 : Int32) (q5 : Int32) (X : St), fd X → pw (r21 q0 q1 q2 q3 q4 q5 X) (fun _ Y => fd Y)) {a_1 : Int32} {a_2 : Int32} {a_3 : Int32} {a_5 : Int32} {a_6 : Int32} {a_7 : Int32} {b_0 : Int32} {X : St} (h : fd X) : pw (g_Reader_takeC_87 v_takePrefix v_takeE r21 a_1 a_2 a_3 a_5 a_6 a_7 b_0 X) (fun _ Y => fd Y) := by
  unfold g_Reader_takeC_87
  refine pw_ite (fun _ => ?_) (fun _ => ?_)
  · refine pw_eq (fun x18 _ => ?_)
    exact z_Reader_takeC_102 hv_takePrefix hv_takeE hr21 h
  · exact z_Reader_takeC_102 hv_takePrefix hv_takeE hr21 h
theorem z_Reader_takeC_82 {v_takePrefix : Int32 → Int32 → St → Option (Int32 × St)} {v_takeE : St → Option (Int32 × St)} {r21 : Int32 → Int32 → Int32 → Int32 → Int32 → Int32 → St → Option (Int32 × St)} (hv_takePrefix : ∀ (q0 : Int32) (q1 : Int32) (X : St), fd X → pw (v_takePrefix q0 q1 X) (fun _ Y => fd Y)) (hv_takeE : ∀ (X : St), fd X → pw (v_takeE X) (fun _ Y => fd Y)) (hr21 : ∀ (q0 : Int32) (q1 : Int32) (q2 : Int32) (q3 : Int32) (q4 : Int32) (q5 : Int32) (X : St), fd X → pw (r21 q0 q1 q2 q3 q4 q5 X) (fun _ Y => fd Y)) {a_1 : Int32} {a_2 : Int32} {a_3 : Int32} {a_5 : Int32} {a_6 : Int32} {a_7 : Int32} {X : St} (h : fd X) : pw (g_Reader_takeC_82 v_takePrefix v_takeE r21 a_1 a_2 a_3 a_5 a_6 a_7 X) (fun _ Y => fd Y) := by
  unfold g_Reader_takeC_82
  exact z_Reader_takeC_87 hv_takePrefix hv_takeE hr21 h
theorem z_Reader_takeC_60 {v_takePrefix : Int32 → Int32 → St → Option (Int32 × St)} {v_takeE : St → Option (Int32 × St)} {r21 : Int32 → Int32 → Int32 → Int32 → Int32 → Int32 → St → Option (Int32 × St)} (hv_takePrefix : ∀ (q0 : Int32) (q1 : Int32) (X : St), fd X → pw (v_takePrefix q0 q1 X) (fun _ Y => fd Y)) (hv_takeE : ∀ (X : St), fd X → pw (v_takeE X) (fun _ Y => fd Y)) (hr21 : ∀ (q0 : Int32) (q1 : Int32) (q2 : Int32) (q3 : Int32) (q4 : Int32) (q5 : Int32) (X : St), fd X → pw (r21 q0 q1 q2 q3 q4 q5 X) (fun _ Y => fd Y)) {a_1 : Int32} {a_2 : Int32} {a_3 : Int32} {a_4 : Int32} {a_5 : Int32} {a_6 : Int32} {a_7 : Int32} {X : St} (h : fd X) : pw (g_Reader_takeC_60 v_takePrefix v_takeE r21 a_1 a_2 a_3 a_4 a_5 a_6 a_7 X) (fun _ Y => fd Y) := by
  unfold g_Reader_takeC_60
  refine pw_bd (z_Reader_applyWaiting h) (fun x9 X10 dX10 => ?_)
  refine pw_ite (fun _ => ?_) (fun _ => ?_)
  · refine pw_ite (fun _ => ?_) (fun _ => ?_)
    · exact z_Reader_takeC_82 hv_takePrefix hv_takeE hr21 dX10
    · exact z_Reader_takeC_87 hv_takePrefix hv_takeE hr21 dX10
  · exact z_Reader_takeC_82 hv_takePrefix hv_takeE hr21 dX10
theorem z_Reader_takeC_21 {v_takePrefix : Int32 → Int32 → St → Option (Int32 × St)} {v_takeE : St → Option (Int32 × St)} (hv_takePrefix : ∀ (q0 : Int32) (q1 : Int32) (X : St), fd X → pw (v_takePrefix q0 q1 X) (fun _ Y => fd Y)) (hv_takeE : ∀ (X : St), fd X → pw (v_takeE X) (fun _ Y => fd Y)) (N : Nat) : ∀ (a_1 : Int32) (a_2 : Int32) (a_3 : Int32) (a_4 : Int32) (a_5 : Int32) (a_6 : Int32) (X : St), fd X → pw (g_Reader_takeC_21 v_takePrefix v_takeE N a_1 a_2 a_3 a_4 a_5 a_6 X) (fun _ Y => fd Y) := by
  unfold g_Reader_takeC_21
  refine lp_ind (P := fun (r : Int32 → Int32 → Int32 → Int32 → Int32 → Int32 → St → Option (Int32 × St)) => ∀ (a_1 : Int32) (a_2 : Int32) (a_3 : Int32) (a_4 : Int32) (a_5 : Int32) (a_6 : Int32) (X : St), fd X → pw (r a_1 a_2 a_3 a_4 a_5 a_6 X) (fun _ Y => fd Y)) (fun _ _ _ _ _ _ _ _ => pw_none) (fun r ih a_1 a_2 a_3 a_4 a_5 a_6 X h => ?_) N
  unfold g_Reader_takeC_21_s
  refine pw_ite (fun _ => ?_) (fun _ => ?_)
  · exact z_Reader_takeC_169 hv_takePrefix hv_takeE h
  · refine pw_eq (fun x6 _ => ?_)
    refine pw_bd (z_Reader_levelOf h) (fun x7 X8 dX8 => ?_)
    refine pw_ite (fun _ => ?_) (fun _ => ?_)
    · exact z_Reader_takeC_169 hv_takePrefix hv_takeE dX8
    · refine pw_ite (fun _ => ?_) (fun _ => ?_)
      · refine pw_ite (fun _ => ?_) (fun _ => ?_)
        · exact z_Reader_takeC_60 hv_takePrefix hv_takeE ih dX8
        · exact z_Reader_takeC_169 hv_takePrefix hv_takeE dX8
      · exact z_Reader_takeC_60 hv_takePrefix hv_takeE ih dX8
theorem z_Reader_takeC {v_takePrefix : Int32 → Int32 → St → Option (Int32 × St)} {v_takeE : St → Option (Int32 × St)} (hv_takePrefix : ∀ (q0 : Int32) (q1 : Int32) (X : St), fd X → pw (v_takePrefix q0 q1 X) (fun _ Y => fd Y)) (hv_takeE : ∀ (X : St), fd X → pw (v_takeE X) (fun _ Y => fd Y)) {X : St} (h : fd X) : pw (g_Reader_takeC v_takePrefix v_takeE X) (fun _ Y => fd Y) := by
  unfold g_Reader_takeC
  refine pw_eq (fun x1 _ => ?_)
  refine pw_bd (z_Reader_takeU hv_takePrefix hv_takeE h) (fun x2 X3 dX3 => ?_)
  exact z_Reader_takeC_21 hv_takePrefix hv_takeE _ _ _ _ _ _ _ _ dX3
theorem z_Reader_takeIf {v_takePrefix : Int32 → Int32 → St → Option (Int32 × St)} {v_takeE : St → Option (Int32 × St)} (hv_takePrefix : ∀ (q0 : Int32) (q1 : Int32) (X : St), fd X → pw (v_takePrefix q0 q1 X) (fun _ Y => fd Y)) (hv_takeE : ∀ (X : St), fd X → pw (v_takeE X) (fun _ Y => fd Y)) {X : St} (h : fd X) : pw (g_Reader_takeIf v_takePrefix v_takeE X) (fun _ Y => fd Y) := by
  unfold g_Reader_takeIf
  refine pw_bd (z_Reader_emitStep h) (fun x1 X2 dX2 => ?_)
  refine pw_bd (z_Reader_enter dX2) (fun _ X3 dX3 => ?_)
  refine pw_bd (hv_takeE _ dX3) (fun x4 X5 dX5 => ?_)
  refine pw_ck (fun hck1 => ?_)
  refine pw_eq (fun e6 ee6 => ?_)
  have pke6 : PKo e6 := by rw [ee6]; exact refO_pk hck1
  have ne46_e6 : ¬ 46 = e6 := PKo.ne pke6
  refine pw_bd (z_Reader_placeOf dX5) (fun x7 X8 dX8 => ?_)
  refine pw_bd (z_Program_emit pke6 dX8) (fun x9 X10 dX10 => ?_)
  refine pw_ck (fun hck2 => ?_)
  refine pw_eq (fun e11 ee11 => ?_)
  have pke11 : PKo e11 := by rw [ee11]; exact refO_pk hck2
  have ne46_e11 : ¬ 46 = e11 := PKo.ne pke11
  refine pw_bd (z_Reader_placeOf dX10) (fun x12 X13 dX13 => ?_)
  refine pw_bd (z_Program_emit pke11 dX13) (fun x14 X15 dX15 => ?_)
  refine pw_bd (z_Reader_want dX15) (fun _ X16 dX16 => ?_)
  refine pw_bd (hv_takeE _ dX16) (fun x17 X18 dX18 => ?_)
  refine pw_ck (fun hck3 => ?_)
  refine pw_eq (fun e19 ee19 => ?_)
  have pke19 : PKo e19 := by rw [ee19]; exact refO_pk hck3
  have ne46_e19 : ¬ 46 = e19 := PKo.ne pke19
  refine pw_bd (z_Reader_placeOf dX18) (fun x20 X21 dX21 => ?_)
  refine pw_bd (z_Program_emit pke19 dX21) (fun x22 X23 dX23 => ?_)
  refine pw_ck (fun hck4 => ?_)
  refine pw_eq (fun e24 ee24 => ?_)
  have pke24 : PKo e24 := by rw [ee24]; exact refO_pk hck4
  have ne46_e24 : ¬ 46 = e24 := PKo.ne pke24
  refine pw_bd (z_Reader_placeOf dX23) (fun x25 X26 dX26 => ?_)
  refine pw_bd (z_Program_emit pke24 dX26) (fun x27 X28 dX28 => ?_)
  refine pw_bd (z_Reader_want dX28) (fun _ X29 dX29 => ?_)
  refine pw_ck (fun hck5 => ?_)
  refine pw_eq (fun e30 ee30 => ?_)
  have pke30 : PKo e30 := by rw [ee30]; exact refO_pk hck5
  have ne46_e30 : ¬ 46 = e30 := PKo.ne pke30
  refine pw_eq (fun e31 ee31 => ?_)
  have ne46_e31 : ¬ 46 = e31 := by rw [ee31]; exact PKo.row pke30 14
  refine pw_ck (fun hck6 => ?_)
  refine pw_eq (fun e32 ee32 => ?_)
  have pke32 : PKo e32 := by rw [ee32]; exact refO_pk hck6
  have ne46_e32 : ¬ 46 = e32 := PKo.ne pke32
  refine pw_eq (fun x33 _ => ?_)
  refine pw_ck (fun _ => ?_)
  refine pw_eq (fun X34 eX34 => ?_)
  have dX34 : fd X34 := by rw [eX34]; exact fd_w dX29 (fun g_ => ne46_e31 g_.1)
  refine pw_bd (hv_takeE _ dX34) (fun x35 X36 dX36 => ?_)
  refine pw_ck (fun hck7 => ?_)
  refine pw_eq (fun e37 ee37 => ?_)
  have pke37 : PKo e37 := by rw [ee37]; exact refO_pk hck7
  have ne46_e37 : ¬ 46 = e37 := PKo.ne pke37
  refine pw_bd (z_Reader_placeOf dX36) (fun x38 X39 dX39 => ?_)
  refine pw_bd (z_Program_emit pke37 dX39) (fun x40 X41 dX41 => ?_)
  refine pw_ck (fun hck8 => ?_)
  refine pw_eq (fun e42 ee42 => ?_)
  have pke42 : PKo e42 := by rw [ee42]; exact refO_pk hck8
  have ne46_e42 : ¬ 46 = e42 := PKo.ne pke42
  refine pw_eq (fun e43 ee43 => ?_)
  have ne46_e43 : ¬ 46 = e43 := by rw [ee43]; exact PKo.row pke42 14
  refine pw_ck (fun hck9 => ?_)
  refine pw_eq (fun e44 ee44 => ?_)
  have pke44 : PKo e44 := by rw [ee44]; exact refO_pk hck9
  have ne46_e44 : ¬ 46 = e44 := PKo.ne pke44
  refine pw_bd (z_Reader_placeOf dX41) (fun x45 X46 dX46 => ?_)
  refine pw_bd (z_Program_emit pke44 dX46) (fun x47 X48 dX48 => ?_)
  refine pw_ck (fun _ => ?_)
  refine pw_eq (fun X49 eX49 => ?_)
  have dX49 : fd X49 := by rw [eX49]; exact fd_w dX48 (fun g_ => ne46_e43 g_.1)
  refine pw_eq (fun x50 _ => ?_)
  refine pw_eq (fun x51 _ => ?_)
  refine pw_eq (fun X52 eX52 => ?_)
  have dX52 : fd X52 := by rw [eX52]; exact fd_w dX49 (by decide)
  exact pw_ret dX52
theorem z_Reader_takeLet_80 {v_takePrefix : Int32 → Int32 → St → Option (Int32 × St)} {v_takeE : St → Option (Int32 × St)} (hv_takePrefix : ∀ (q0 : Int32) (q1 : Int32) (X : St), fd X → pw (v_takePrefix q0 q1 X) (fun _ Y => fd Y)) (hv_takeE : ∀ (X : St), fd X → pw (v_takeE X) (fun _ Y => fd Y)) {a_1 : Int32} {l_2 : Int64} {a_5 : Int32} {X : St} (h : fd X) : pw (g_Reader_takeLet_80 v_takePrefix v_takeE a_1 l_2 a_5 X) (fun _ Y => fd Y) := by
  unfold g_Reader_takeLet_80
  refine pw_bd (z_Reader_want h) (fun _ X11 dX11 => ?_)
  refine pw_eq (fun x12 _ => ?_)
  refine pw_ck (fun hck1 => ?_)
  refine pw_eq (fun e13 ee13 => ?_)
  have pke13 : PKo e13 := by rw [ee13]; exact refO_pk hck1
  have ne46_e13 : ¬ 46 = e13 := PKo.ne pke13
  refine pw_bd (z_Reader_placeOf dX11) (fun x14 X15 dX15 => ?_)
  refine pw_bd (z_Program_emit pke13 dX15) (fun x16 X17 dX17 => ?_)
  refine pw_bd (z_Reader_pushLocal dX17) (fun _ X18 dX18 => ?_)
  refine pw_bd (hv_takeE _ dX18) (fun x19 X20 dX20 => ?_)
  refine pw_eq (fun X21 eX21 => ?_)
  have dX21 : fd X21 := by rw [eX21]; exact fd_w dX20 (by decide)
  refine pw_eq (fun x22 _ => ?_)
  refine pw_eq (fun x23 _ => ?_)
  refine pw_eq (fun X24 eX24 => ?_)
  have dX24 : fd X24 := by rw [eX24]; exact fd_w dX21 (by decide)
  exact pw_ret dX24
theorem z_Reader_takeLet_42 {v_takePrefix : Int32 → Int32 → St → Option (Int32 × St)} {v_takeE : St → Option (Int32 × St)} (hv_takePrefix : ∀ (q0 : Int32) (q1 : Int32) (X : St), fd X → pw (v_takePrefix q0 q1 X) (fun _ Y => fd Y)) (hv_takeE : ∀ (X : St), fd X → pw (v_takeE X) (fun _ Y => fd Y)) {a_1 : Int32} {l_2 : Int64} {b_0 : Int32} {X : St} (h : fd X) : pw (g_Reader_takeLet_42 v_takePrefix v_takeE a_1 l_2 b_0 X) (fun _ Y => fd Y) := by
  unfold g_Reader_takeLet_42
  refine pw_bd (z_Reader_want h) (fun _ X8 dX8 => ?_)
  refine pw_bd (hv_takeE _ dX8) (fun x9 X10 dX10 => ?_)
  refine pw_ite (fun _ => ?_) (fun _ => ?_)
  · exact z_Reader_takeLet_80 hv_takePrefix hv_takeE dX10
  · refine pw_ck (fun hck1 => ?_)
    refine pw_eq (fun e25 ee25 => ?_)
    have pke25 : PKo e25 := by rw [ee25]; exact refO_pk hck1
    have ne46_e25 : ¬ 46 = e25 := PKo.ne pke25
    refine pw_bd (z_Reader_placeOf dX10) (fun x26 X27 dX27 => ?_)
    refine pw_bd (z_Program_emit pke25 dX27) (fun x28 X29 dX29 => ?_)
    exact z_Reader_takeLet_80 hv_takePrefix hv_takeE dX29
theorem z_Reader_takeLet {v_takePrefix : Int32 → Int32 → St → Option (Int32 × St)} {v_takeE : St → Option (Int32 × St)} (hv_takePrefix : ∀ (q0 : Int32) (q1 : Int32) (X : St), fd X → pw (v_takePrefix q0 q1 X) (fun _ Y => fd Y)) (hv_takeE : ∀ (X : St), fd X → pw (v_takeE X) (fun _ Y => fd Y)) {X : St} (h : fd X) : pw (g_Reader_takeLet v_takePrefix v_takeE X) (fun _ Y => fd Y) := by
  unfold g_Reader_takeLet
  refine pw_bd (z_Reader_emitStep h) (fun x1 X2 dX2 => ?_)
  refine pw_bd (z_Reader_enter dX2) (fun _ X3 dX3 => ?_)
  refine pw_eq (fun y4 _ => ?_)
  refine pw_bd (z_Reader_want dX3) (fun _ X5 dX5 => ?_)
  refine pw_bd (z_Reader_tookColon dX5) (fun x6 X7 dX7 => ?_)
  refine pw_ite (fun _ => ?_) (fun _ => ?_)
  · exact z_Reader_takeLet_42 hv_takePrefix hv_takeE dX7
  · refine pw_bd (z_Reader_takeKind dX7) (fun x30 X31 dX31 => ?_)
    exact z_Reader_takeLet_42 hv_takePrefix hv_takeE dX31
theorem z_Reader_takePrefix_b {v_takePrefix : Int32 → Int32 → St → Option (Int32 × St)} {v_takeE : St → Option (Int32 × St)} (hv_takePrefix : ∀ (q0 : Int32) (q1 : Int32) (X : St), fd X → pw (v_takePrefix q0 q1 X) (fun _ Y => fd Y)) (hv_takeE : ∀ (X : St), fd X → pw (v_takeE X) (fun _ Y => fd Y)) {p1 : Int32} {p2 : Int32} {X : St} (h : fd X) : pw (g_Reader_takePrefix_b v_takePrefix v_takeE p1 p2 X) (fun _ Y => fd Y) := by
  unfold g_Reader_takePrefix_b
  refine pw_bd (z_Reader_emitStep h) (fun x1 X2 dX2 => ?_)
  refine pw_eq (fun x3 _ => ?_)
  refine pw_bd (z_Reader_enter dX2) (fun _ X4 dX4 => ?_)
  refine pw_bd (z_Reader_takeU hv_takePrefix hv_takeE dX4) (fun x5 X6 dX6 => ?_)
  refine pw_ck (fun hck1 => ?_)
  refine pw_eq (fun e7 ee7 => ?_)
  have pke7 : PKo e7 := by rw [ee7]; exact refO_pk hck1
  have ne46_e7 : ¬ 46 = e7 := PKo.ne pke7
  refine pw_bd (z_Reader_placeOf dX6) (fun x8 X9 dX9 => ?_)
  refine pw_bd (z_Program_emit pke7 dX9) (fun x10 X11 dX11 => ?_)
  refine pw_ck (fun hck2 => ?_)
  refine pw_eq (fun e12 ee12 => ?_)
  have pke12 : PKo e12 := by rw [ee12]; exact refO_pk hck2
  have ne46_e12 : ¬ 46 = e12 := PKo.ne pke12
  refine pw_bd (z_Reader_placeOf dX11) (fun x13 X14 dX14 => ?_)
  refine pw_bd (z_Program_emit pke12 dX14) (fun x15 X16 dX16 => ?_)
  refine pw_eq (fun x17 _ => ?_)
  refine pw_eq (fun x18 _ => ?_)
  refine pw_eq (fun X19 eX19 => ?_)
  have dX19 : fd X19 := by rw [eX19]; exact fd_w dX16 (by decide)
  exact pw_ret dX19
theorem z_Reader_takeE_b {v_takePrefix : Int32 → Int32 → St → Option (Int32 × St)} {v_takeE : St → Option (Int32 × St)} (hv_takePrefix : ∀ (q0 : Int32) (q1 : Int32) (X : St), fd X → pw (v_takePrefix q0 q1 X) (fun _ Y => fd Y)) (hv_takeE : ∀ (X : St), fd X → pw (v_takeE X) (fun _ Y => fd Y)) {X : St} (h : fd X) : pw (g_Reader_takeE_b v_takePrefix v_takeE X) (fun _ Y => fd Y) := by
  unfold g_Reader_takeE_b
  refine pw_eq (fun x1 _ => ?_)
  refine pw_ite (fun _ => ?_) (fun _ => ?_)
  · refine pw_bd (z_Reader_takeLet hv_takePrefix hv_takeE h) (fun x7 X8 dX8 => ?_)
    exact pw_ret dX8
  · refine pw_eq (fun x2 _ => ?_)
    refine pw_ite (fun _ => ?_) (fun _ => ?_)
    · refine pw_bd (z_Reader_takeIf hv_takePrefix hv_takeE h) (fun x5 X6 dX6 => ?_)
      exact pw_ret dX6
    · refine pw_bd (z_Reader_takeC hv_takePrefix hv_takeE h) (fun x3 X4 dX4 => ?_)
      exact pw_ret dX4
theorem z_rec_e : ∀ (N : Nat), (∀ (p1 p2 : Int32) (X : St), fd X → pw ((rec_e N).1 p1 p2 X) (fun _ Y => fd Y)) ∧ (∀ (X : St), fd X → pw ((rec_e N).2 X) (fun _ Y => fd Y)) := by
  intro N
  unfold rec_e
  refine lp_ind (γ := (Int32 → Int32 → St → Option (Int32 × St)) × (St → Option (Int32 × St))) (P := fun r => (∀ (p1 p2 : Int32) (X : St), fd X → pw (r.1 p1 p2 X) (fun _ Y => fd Y)) ∧ (∀ (X : St), fd X → pw (r.2 X) (fun _ Y => fd Y))) ⟨fun _ _ _ _ => pw_none, fun _ _ => pw_none⟩ (fun r ih => ⟨fun p1 p2 X h => z_Reader_takePrefix_b ih.1 ih.2 h, fun X h => z_Reader_takeE_b ih.1 ih.2 h⟩) N
theorem z_Reader_takeE {X : St} (h : fd X) : pw (g_Reader_takeE X) (fun _ Y => fd Y) := (z_rec_e 64).2 X h
theorem z_Reader_takePrefix {p1 p2 : Int32} {X : St} (h : fd X) : pw (g_Reader_takePrefix p1 p2 X) (fun _ Y => fd Y) := (z_rec_e 64).1 p1 p2 X h
theorem z_Reader_endPart {p1 : Int32} {p2 : Int32} {X : St} (h : fd X) : pw (g_Reader_endPart p1 p2 X) (fun _ Y => fd Y) := by
  unfold g_Reader_endPart
  refine pw_ck (fun hck1 => ?_)
  refine pw_eq (fun e1 ee1 => ?_)
  have pke1 : PKo e1 := by rw [ee1]; exact refO_pk hck1
  have ne46_e1 : ¬ 46 = e1 := PKo.ne pke1
  refine pw_bd (z_Reader_placeOf h) (fun x2 X3 dX3 => ?_)
  refine pw_bd (z_Program_emit pke1 dX3) (fun x4 X5 dX5 => ?_)
  refine pw_ck (fun hck2 => ?_)
  refine pw_eq (fun e6 ee6 => ?_)
  have pke6 : PKo e6 := by rw [ee6]; exact refO_pk hck2
  have ne46_e6 : ¬ 46 = e6 := PKo.ne pke6
  refine pw_bd (z_Reader_placeOf dX5) (fun x7 X8 dX8 => ?_)
  refine pw_bd (z_Program_emit pke6 dX8) (fun x9 X10 dX10 => ?_)
  refine pw_bd (z_Reader_want dX10) (fun _ X11 dX11 => ?_)
  refine pw_ck (fun hck3 => ?_)
  refine pw_eq (fun e12 ee12 => ?_)
  have pke12 : PKo e12 := by rw [ee12]; exact refO_pk hck3
  have ne46_e12 : ¬ 46 = e12 := PKo.ne pke12
  refine pw_eq (fun x13 _ => ?_)
  refine pw_eq (fun X14 eX14 => ?_)
  have dX14 : fd X14 := by rw [eX14]; exact fd_w dX11 (fun g_ => ne46_e12 g_.1)
  exact pw_ret dX14
theorem z_Reader_resolveAt_65 {a_1 : Int32} {a_2 : Int32} {X : St} (h : fd X) : pw (g_Reader_resolveAt_65 a_1 a_2 X) (fun _ Y => fd Y) := by
  unfold g_Reader_resolveAt_65
  refine pw_ck (fun hck1 => ?_)
  refine pw_eq (fun e12 ee12 => ?_)
  have pke12 : PKo e12 := by rw [ee12]; exact refO_pk hck1
  have ne46_e12 : ¬ 46 = e12 := PKo.ne pke12
  refine pw_eq (fun e13 ee13 => ?_)
  have ne46_e13 : ¬ 46 = e13 := by rw [ee13]; exact PKo.row pke12 14
  refine pw_ck (fun _ => ?_)
  refine pw_eq (fun X14 eX14 => ?_)
  have dX14 : fd X14 := by rw [eX14]; exact fd_w h (fun g_ => ne46_e13 g_.1)
  exact pw_ret dX14
theorem z_Reader_resolveAt {p1 : Int32} {X : St} (h : fd X) : pw (g_Reader_resolveAt p1 X) (fun _ Y => fd Y) := by
  unfold g_Reader_resolveAt
  refine pw_ck (fun hck1 => ?_)
  refine pw_eq (fun e1 ee1 => ?_)
  have pke1 : PKo e1 := by rw [ee1]; exact refO_pk hck1
  have ne46_e1 : ¬ 46 = e1 := PKo.ne pke1
  refine pw_eq (fun e2 ee2 => ?_)
  have ne46_e2 : ¬ 46 = e2 := by rw [ee2]; exact PKo.row pke1 13
  refine pw_ck (fun _ => ?_)
  refine pw_eq (fun x3 _ => ?_)
  refine pw_ite (fun _ => ?_) (fun _ => ?_)
  · refine pw_ck (fun hck2 => ?_)
    refine pw_eq (fun e4 ee4 => ?_)
    have pke4 : PKo e4 := by rw [ee4]; exact refO_pk hck2
    have ne46_e4 : ¬ 46 = e4 := PKo.ne pke4
    refine pw_eq (fun e5 ee5 => ?_)
    have ne46_e5 : ¬ 46 = e5 := by rw [ee5]; exact PKo.row pke4 16
    refine pw_ck (fun _ => ?_)
    refine pw_eq (fun x6 _ => ?_)
    refine pw_bd (z_Tokens_goTo h) (fun _ X7 dX7 => ?_)
    refine pw_ck (fun hck3 => ?_)
    refine pw_eq (fun e8 ee8 => ?_)
    have pke8 : PKo e8 := by rw [ee8]; exact refO_pk hck3
    have ne46_e8 : ¬ 46 = e8 := PKo.ne pke8
    refine pw_eq (fun y9 _ => ?_)
    refine pw_bd (z_Program_partOfName pke8 dX7) (fun x10 X11 dX11 => ?_)
    refine pw_ite (fun _ => ?_) (fun _ => ?_)
    · refine pw_ck (fun hck4 => ?_)
      refine pw_eq (fun e15 ee15 => ?_)
      have pke15 : PKo e15 := by rw [ee15]; exact refO_pk hck4
      have ne46_e15 : ¬ 46 = e15 := PKo.ne pke15
      refine pw_eq (fun e16 ee16 => ?_)
      have ne46_e16 : ¬ 46 = e16 := by rw [ee16]; exact PKo.row pke15 16
      refine pw_ck (fun _ => ?_)
      refine pw_eq (fun x17 _ => ?_)
      refine pw_bd (z_Reader_refuseAt dX11) (fun _ X18 dX18 => ?_)
      exact z_Reader_resolveAt_65 dX18
    · exact z_Reader_resolveAt_65 dX11
  · exact pw_ret h
theorem z_Reader_resolve_93 {a_1 : Int32} {X : St} (h : fd X) : pw (g_Reader_resolve_93 a_1 X) (fun _ Y => fd Y) := by
  unfold g_Reader_resolve_93
  refine pw_ck (fun hck1 => ?_)
  refine pw_eq (fun e3 ee3 => ?_)
  have pke3 : PKo e3 := by rw [ee3]; exact refO_pk hck1
  have ne46_e3 : ¬ 46 = e3 := PKo.ne pke3
  refine pw_ck (fun hck2 => ?_)
  refine pw_eq (fun e4 ee4 => ?_)
  have pke4 : PKo e4 := by rw [ee4]; exact refO_pk hck2
  have ne46_e4 : ¬ 46 = e4 := PKo.ne pke4
  refine pw_bd (z_Program_partOfName pke4 h) (fun x5 X6 dX6 => ?_)
  refine pw_eq (fun X7 eX7 => ?_)
  have dX7 : fd X7 := by rw [eX7]; exact fd_w dX6 (fun g_ => ne46_e3 g_.1)
  refine pw_ck (fun hck3 => ?_)
  refine pw_eq (fun e8 ee8 => ?_)
  have pke8 : PKo e8 := by rw [ee8]; exact refO_pk hck3
  have ne46_e8 : ¬ 46 = e8 := PKo.ne pke8
  refine pw_ck (fun hck4 => ?_)
  refine pw_eq (fun e9 ee9 => ?_)
  have pke9 : PKo e9 := by rw [ee9]; exact refO_pk hck4
  have ne46_e9 : ¬ 46 = e9 := PKo.ne pke9
  refine pw_eq (fun x10 _ => ?_)
  refine pw_bd (z_Program_paramsOf pke8 dX7) (fun x11 X12 dX12 => ?_)
  refine pw_ite (fun _ => ?_) (fun _ => ?_)
  · exact pw_ret dX12
  · refine pw_bd (z_Reader_refuseAt dX12) (fun _ X13 dX13 => ?_)
    exact pw_ret dX13
theorem z_Reader_resolve_61 {r2 : Int32 → Int32 → St → Option (Int32 × St)} (hr2 : ∀ (q0 : Int32) (q1 : Int32) (X : St), fd X → pw (r2 q0 q1 X) (fun _ Y => fd Y)) (N : Nat) : ∀ (a_1 : Int32) (a_2 : Int32) (a_3 : Int32) (X : St), fd X → pw (g_Reader_resolve_61 r2 N a_1 a_2 a_3 X) (fun _ Y => fd Y) := by
  unfold g_Reader_resolve_61
  refine lp_ind (P := fun (r : Int32 → Int32 → Int32 → St → Option (Int32 × St)) => ∀ (a_1 : Int32) (a_2 : Int32) (a_3 : Int32) (X : St), fd X → pw (r a_1 a_2 a_3 X) (fun _ Y => fd Y)) (fun _ _ _ _ _ => pw_none) (fun r ih a_1 a_2 a_3 X h => ?_) N
  unfold g_Reader_resolve_61_s
  refine pw_ck (fun hck1 => ?_)
  refine pw_eq (fun e24 ee24 => ?_)
  have pke24 : PKo e24 := by rw [ee24]; exact refO_pk hck1
  have ne46_e24 : ¬ 46 = e24 := PKo.ne pke24
  refine pw_eq (fun e25 ee25 => ?_)
  have ne46_e25 : ¬ 46 = e25 := by rw [ee25]; exact PKo.row pke24 4
  refine pw_eq (fun x26 _ => ?_)
  refine pw_ck (fun _ => ?_)
  refine pw_eq (fun x27 _ => ?_)
  refine pw_ite (fun _ => ?_) (fun _ => ?_)
  · refine pw_eq (fun x28 _ => ?_)
    exact hr2 _ _ _ h
  · refine pw_bd (z_Reader_resolveAt h) (fun _ X29 dX29 => ?_)
    refine pw_eq (fun x30 _ => ?_)
    exact ih _ _ _ _ dX29
theorem z_Reader_resolve_51 {r2 : Int32 → Int32 → St → Option (Int32 × St)} (hr2 : ∀ (q0 : Int32) (q1 : Int32) (X : St), fd X → pw (r2 q0 q1 X) (fun _ Y => fd Y)) {a_1 : Int32} {a_2 : Int32} {X : St} (h : fd X) : pw (g_Reader_resolve_51 r2 a_1 a_2 X) (fun _ Y => fd Y) := by
  unfold g_Reader_resolve_51
  refine pw_ck (fun hck1 => ?_)
  refine pw_eq (fun e21 ee21 => ?_)
  have pke21 : PKo e21 := by rw [ee21]; exact refO_pk hck1
  have ne46_e21 : ¬ 46 = e21 := PKo.ne pke21
  refine pw_eq (fun e22 ee22 => ?_)
  have ne46_e22 : ¬ 46 = e22 := by rw [ee22]; exact PKo.row pke21 4
  refine pw_ck (fun _ => ?_)
  refine pw_eq (fun x23 _ => ?_)
  exact z_Reader_resolve_61 hr2 _ _ _ _ _ h
theorem z_Reader_resolve_2 (N : Nat) : ∀ (a_1 : Int32) (a_2 : Int32) (X : St), fd X → pw (g_Reader_resolve_2 N a_1 a_2 X) (fun _ Y => fd Y) := by
  unfold g_Reader_resolve_2
  refine lp_ind (P := fun (r : Int32 → Int32 → St → Option (Int32 × St)) => ∀ (a_1 : Int32) (a_2 : Int32) (X : St), fd X → pw (r a_1 a_2 X) (fun _ Y => fd Y)) (fun _ _ _ _ => pw_none) (fun r ih a_1 a_2 X h => ?_) N
  unfold g_Reader_resolve_2_s
  refine pw_ck (fun hck1 => ?_)
  refine pw_eq (fun e1 ee1 => ?_)
  have pke1 : PKo e1 := by rw [ee1]; exact refO_pk hck1
  have ne46_e1 : ¬ 46 = e1 := PKo.ne pke1
  refine pw_eq (fun x2 _ => ?_)
  refine pw_ite (fun _ => ?_) (fun _ => ?_)
  · exact z_Reader_resolve_93 h
  · refine pw_eq (fun x14 _ => ?_)
    refine pw_ite (fun _ => ?_) (fun _ => ?_)
    · refine pw_ck (fun hck2 => ?_)
      refine pw_eq (fun e15 ee15 => ?_)
      have pke15 : PKo e15 := by rw [ee15]; exact refO_pk hck2
      have ne46_e15 : ¬ 46 = e15 := PKo.ne pke15
      refine pw_ck (fun hck3 => ?_)
      refine pw_eq (fun e16 ee16 => ?_)
      have pke16 : PKo e16 := by rw [ee16]; exact refO_pk hck3
      have ne46_e16 : ¬ 46 = e16 := PKo.ne pke16
      refine pw_eq (fun e17 ee17 => ?_)
      have ne46_e17 : ¬ 46 = e17 := by rw [ee17]; exact PKo.row pke16 7
      refine pw_ck (fun _ => ?_)
      refine pw_eq (fun y18 _ => ?_)
      refine pw_bd (z_Program_partOfName pke15 h) (fun x19 X20 dX20 => ?_)
      refine pw_ite (fun _ => ?_) (fun _ => ?_)
      · exact z_Reader_resolve_51 ih dX20
      · refine pw_ck (fun _ => ?_)
        refine pw_eq (fun x31 _ => ?_)
        refine pw_bd (z_Reader_refuseAt dX20) (fun _ X32 dX32 => ?_)
        exact z_Reader_resolve_51 ih dX32
    · exact z_Reader_resolve_93 h
theorem z_Reader_resolve {p1 : Int32} {X : St} (h : fd X) : pw (g_Reader_resolve p1 X) (fun _ Y => fd Y) := by
  unfold g_Reader_resolve
  exact z_Reader_resolve_2 _ _ _ _ h
theorem z_Reader_readInto_145 {a_3 : Int32} {X : St} (h : fd X) : pw (g_Reader_readInto_145 a_3 X) (fun _ Y => fd Y) := by
  unfold g_Reader_readInto_145
  refine pw_ck (fun hck1 => ?_)
  refine pw_eq (fun e11 ee11 => ?_)
  have pke11 : PKo e11 := by rw [ee11]; exact refO_pk hck1
  have ne46_e11 : ¬ 46 = e11 := PKo.ne pke11
  refine pw_eq (fun e12 ee12 => ?_)
  have ne46_e12 : ¬ 46 = e12 := by rw [ee12]; exact PKo.row pke11 4
  refine pw_ck (fun hck2 => ?_)
  refine pw_eq (fun e13 ee13 => ?_)
  have pke13 : PKo e13 := by rw [ee13]; exact refO_pk hck2
  have ne46_e13 : ¬ 46 = e13 := PKo.ne pke13
  refine pw_eq (fun x14 _ => ?_)
  refine pw_ck (fun hck3 => ?_)
  refine pw_eq (fun e15 ee15 => ?_)
  have pke15 : PKo e15 := by rw [ee15]; exact refO_pk hck3
  have ne46_e15 : ¬ 46 = e15 := PKo.ne pke15
  refine pw_eq (fun x16 _ => ?_)
  refine pw_ck (fun _ => ?_)
  refine pw_eq (fun X17 eX17 => ?_)
  have dX17 : fd X17 := by rw [eX17]; exact fd_w h (fun g_ => ne46_e12 g_.1)
  refine pw_ck (fun hck4 => ?_)
  refine pw_eq (fun e18 ee18 => ?_)
  have pke18 : PKo e18 := by rw [ee18]; exact refO_pk hck4
  have ne46_e18 : ¬ 46 = e18 := PKo.ne pke18
  refine pw_ck (fun hck5 => ?_)
  refine pw_eq (fun e19 ee19 => ?_)
  have pke19 : PKo e19 := by rw [ee19]; exact refO_pk hck5
  have ne46_e19 : ¬ 46 = e19 := PKo.ne pke19
  refine pw_eq (fun e20 ee20 => ?_)
  have ne46_e20 : ¬ 46 = e20 := by rw [ee20]; exact PKo.row pke19 0
  have pke20 : PKo e20 := by rw [ee20]; rw [ee19]; exact PKo.kd hck5
  refine pw_eq (fun x21 _ => ?_)
  refine pw_eq (fun X22 eX22 => ?_)
  have dX22 : fd X22 := by rw [eX22]; exact fd_w dX17 (fun g_ => ne46_e18 g_.1)
  refine pw_eq (fun x23 _ => ?_)
  refine pw_ite (fun _ => ?_) (fun _ => ?_)
  · refine pw_bd (z_Reader_resolve dX22) (fun _ X24 dX24 => ?_)
    exact pw_ret dX24
  · exact pw_ret dX22
theorem z_Reader_readInto_127 {a_3 : Int32} {X : St} (h : fd X) : pw (g_Reader_readInto_127 a_3 X) (fun _ Y => fd Y) := by
  unfold g_Reader_readInto_127
  refine pw_eq (fun x10 _ => ?_)
  refine pw_ite (fun _ => ?_) (fun _ => ?_)
  · exact z_Reader_readInto_145 h
  · refine pw_bd (z_Reader_refuse h) (fun _ X25 dX25 => ?_)
    exact z_Reader_readInto_145 dX25
theorem z_Reader_readInto_121 {r58 : Int32 → Int32 → St → Option (Int32 × St)} (hr58 : ∀ (q0 : Int32) (q1 : Int32) (X : St), fd X → pw (r58 q0 q1 X) (fun _ Y => fd Y)) {a_3 : Int32} {a_4 : Int32} {X : St} (h : fd X) : pw (g_Reader_readInto_121 r58 a_3 a_4 X) (fun _ Y => fd Y) := by
  unfold g_Reader_readInto_121
  refine pw_eq (fun x33 _ => ?_)
  exact hr58 _ _ _ h
theorem z_Reader_readInto_58 (N : Nat) : ∀ (a_3 : Int32) (a_4 : Int32) (X : St), fd X → pw (g_Reader_readInto_58 N a_3 a_4 X) (fun _ Y => fd Y) := by
  unfold g_Reader_readInto_58
  refine lp_ind (P := fun (r : Int32 → Int32 → St → Option (Int32 × St)) => ∀ (a_3 : Int32) (a_4 : Int32) (X : St), fd X → pw (r a_3 a_4 X) (fun _ Y => fd Y)) (fun _ _ _ _ => pw_none) (fun r ih a_3 a_4 X h => ?_) N
  unfold g_Reader_readInto_58_s
  refine pw_ite (fun _ => ?_) (fun _ => ?_)
  · exact z_Reader_readInto_127 h
  · refine pw_eq (fun x26 _ => ?_)
    refine pw_ite (fun _ => ?_) (fun _ => ?_)
    · refine pw_ite (fun _ => ?_) (fun _ => ?_)
      · refine pw_bd (z_Reader_takePartName h) (fun _ X27 dX27 => ?_)
        refine pw_bd (z_Reader_takeParams dX27) (fun _ X28 dX28 => ?_)
        refine pw_bd (z_Reader_takeOwnKind dX28) (fun _ X29 dX29 => ?_)
        refine pw_bd (z_Reader_takeE dX29) (fun x30 X31 dX31 => ?_)
        refine pw_bd (z_Reader_endPart dX31) (fun _ X32 dX32 => ?_)
        exact z_Reader_readInto_121 ih dX32
      · refine pw_bd (z_Reader_refuse h) (fun _ X34 dX34 => ?_)
        exact z_Reader_readInto_121 ih dX34
    · exact z_Reader_readInto_127 h
/-- all but the kinds of the object o stays -/
def KFo (o : Nat) (X0 X : St) : Prop := (∀ j k, ¬ (o ≤ j ∧ j ≤ o + 8) → X.1 j k = X0.1 j k) ∧ X.2 = X0.2
def KO (o e : Nat) : Prop := e = o ∧ (o = 3 ∨ o = 25)
theorem KFo.rf {o : Nat} {X : St} : KFo o X X := ⟨fun _ _ _ => rfl, rfl⟩
theorem KFo.w {o e k : Nat} {v : Int32} {X0 X : St} (h : KFo o X0 X) (g : o ≤ e ∧ e ≤ o + 8) : KFo o X0 (wI X e k v) := ⟨fun j i hj => by
  rw [wI_ne _ _ _ _ _ _ (fun q => hj (by rw [q.1]; exact g))]
  exact h.1 j i hj, h.2⟩
theorem KO.self {o e : Nat} (h : KO o e) : o ≤ e ∧ e ≤ o + 8 := by
  have := h.1
  omega
theorem KO.row {o e : Nat} (h : KO o e) (k : Nat) (hk : 1 ≤ k ∧ k ≤ 7) : o ≤ kY YC e k - 3 ∧ kY YC e k - 3 ≤ o + 8 := by
  obtain ⟨rfl, h⟩ := h
  have all : ∀ e ∈ [3, 25], ∀ k, k < 8 → 1 ≤ k → e ≤ kY YC e k - 3 ∧ kY YC e k - 3 ≤ e + 8 := by decide +kernel
  exact all e (by rcases h with h | h <;> rw [h] <;> decide) k (by omega) hk.1
theorem y_Kinds_bucketOf {o : Nat} {X0 : St} {p0 : Int32} {X : St} (h : KFo o X0 X) : pw (g_Kinds_bucketOf p0 X) (fun _ Y => KFo o X0 Y) := by
  unfold g_Kinds_bucketOf
  refine pw_eq (fun x1 _ => ?_)
  refine pw_eq (fun x2 _ => ?_)
  refine pw_eq (fun x3 _ => ?_)
  refine pw_eq (fun x4 _ => ?_)
  refine pw_eq (fun x5 _ => ?_)
  exact pw_ret h
theorem y_Kinds_cutTo_7 {o : Nat} {X0 : St} (N : Nat) : ∀ (e_0 : Nat) (a_1 : Int32) (a_2 : Int32) (X : St), KO o e_0 → KFo o X0 X → pw (g_Kinds_cutTo_7 N e_0 a_1 a_2 X) (fun _ Y => KFo o X0 Y) := by
  unfold g_Kinds_cutTo_7
  refine lp_ind (P := fun (r : Nat → Int32 → Int32 → St → Option (Int32 × St)) => ∀ (e_0 : Nat) (a_1 : Int32) (a_2 : Int32) (X : St), KO o e_0 → KFo o X0 X → pw (r e_0 a_1 a_2 X) (fun _ Y => KFo o X0 Y)) (fun _ _ _ _ _ _ => pw_none) (fun r ih e_0 a_1 a_2 X p_e_0 h => ?_) N
  have in_e_0 : o ≤ e_0 ∧ e_0 ≤ o + 8 := KO.self p_e_0
  unfold g_Kinds_cutTo_7_s
  refine pw_ite (fun _ => ?_) (fun _ => ?_)
  · exact pw_ret h
  · refine pw_ite (fun _ => ?_) (fun _ => ?_)
    · exact pw_ret h
    · refine pw_eq (fun e3 ee3 => ?_)
      have in_e3 : o ≤ e3 ∧ e3 ≤ o + 8 := by rw [ee3]; exact KO.row p_e_0 6 (by decide)
      refine pw_eq (fun e4 ee4 => ?_)
      have in_e4 : o ≤ e4 ∧ e4 ≤ o + 8 := by rw [ee4]; exact KO.row p_e_0 4 (by decide)
      refine pw_ck (fun _ => ?_)
      refine pw_eq (fun x5 _ => ?_)
      refine pw_bd (y_Kinds_bucketOf h) (fun x6 X7 dX7 => ?_)
      refine pw_eq (fun e8 ee8 => ?_)
      have in_e8 : o ≤ e8 ∧ e8 ≤ o + 8 := by rw [ee8]; exact KO.row p_e_0 7 (by decide)
      refine pw_ck (fun _ => ?_)
      refine pw_eq (fun x9 _ => ?_)
      refine pw_ck (fun _ => ?_)
      refine pw_eq (fun X10 eX10 => ?_)
      have dX10 : KFo o X0 X10 := by rw [eX10]; exact dX7.w in_e3
      refine pw_eq (fun X11 eX11 => ?_)
      have dX11 : KFo o X0 X11 := by rw [eX11]; exact dX10.w in_e_0
      refine pw_eq (fun x12 _ => ?_)
      exact ih _ _ _ _ p_e_0 dX11
theorem y_Kinds_cutTo {o : Nat} {X0 : St} {o0 : Nat} {p1 : Int32} (p_o0 : KO o o0) {X : St} (h : KFo o X0 X) : pw (g_Kinds_cutTo o0 p1 X) (fun _ Y => KFo o X0 Y) := by
  have in_o0 : o ≤ o0 ∧ o0 ≤ o + 8 := KO.self p_o0
  unfold g_Kinds_cutTo
  refine pw_eq (fun x1 _ => ?_)
  refine pw_eq (fun x2 _ => ?_)
  exact y_Kinds_cutTo_7 _ _ _ _ _ p_o0 h
theorem y_Kinds_codeOf {o : Nat} {X0 : St} {o0 : Nat} {p1 : Int32} (p_o0 : KO o o0) {X : St} (h : KFo o X0 X) : pw (g_Kinds_codeOf o0 p1 X) (fun _ Y => KFo o X0 Y) := by
  have in_o0 : o ≤ o0 ∧ o0 ≤ o + 8 := KO.self p_o0
  unfold g_Kinds_codeOf
  refine pw_ite (fun _ => ?_) (fun _ => ?_)
  · exact pw_ret h
  · refine pw_eq (fun x1 _ => ?_)
    refine pw_ite (fun _ => ?_) (fun _ => ?_)
    · exact pw_ret h
    · refine pw_eq (fun e2 ee2 => ?_)
      have in_e2 : o ≤ e2 ∧ e2 ≤ o + 8 := by rw [ee2]; exact KO.row p_o0 4 (by decide)
      refine pw_ck (fun _ => ?_)
      refine pw_eq (fun x3 _ => ?_)
      exact pw_ret h
theorem y_Kinds_isSame_30 {o : Nat} {X0 : St} (N : Nat) : ∀ (e_0 : Nat) (a_1 : Int32) (a_2 : Int32) (e_3 : Nat) (a_4 : Int32) (a_6 : Int32) (X : St), KO o e_0 → KFo o X0 X → pw (g_Kinds_isSame_30 N e_0 a_1 a_2 e_3 a_4 a_6 X) (fun _ Y => KFo o X0 Y) := by
  unfold g_Kinds_isSame_30
  refine lp_ind (P := fun (r : Nat → Int32 → Int32 → Nat → Int32 → Int32 → St → Option (Int32 × St)) => ∀ (e_0 : Nat) (a_1 : Int32) (a_2 : Int32) (e_3 : Nat) (a_4 : Int32) (a_6 : Int32) (X : St), KO o e_0 → KFo o X0 X → pw (r e_0 a_1 a_2 e_3 a_4 a_6 X) (fun _ Y => KFo o X0 Y)) (fun _ _ _ _ _ _ _ _ _ => pw_none) (fun r ih e_0 a_1 a_2 e_3 a_4 a_6 X p_e_0 h => ?_) N
  have in_e_0 : o ≤ e_0 ∧ e_0 ≤ o + 8 := KO.self p_e_0
  unfold g_Kinds_isSame_30_s
  refine pw_ite (fun _ => ?_) (fun _ => ?_)
  · exact pw_ret h
  · refine pw_eq (fun e7 ee7 => ?_)
    have in_e7 : o ≤ e7 ∧ e7 ≤ o + 8 := by rw [ee7]; exact KO.row p_e_0 3 (by decide)
    refine pw_eq (fun x8 _ => ?_)
    refine pw_eq (fun x9 _ => ?_)
    refine pw_ck (fun _ => ?_)
    refine pw_eq (fun x10 _ => ?_)
    refine pw_eq (fun x11 _ => ?_)
    refine pw_ck (fun _ => ?_)
    refine pw_eq (fun x12 _ => ?_)
    refine pw_ite (fun _ => ?_) (fun _ => ?_)
    · refine pw_eq (fun x13 _ => ?_)
      exact ih _ _ _ _ _ _ _ p_e_0 h
    · exact pw_ret h
theorem y_Kinds_isSame {o : Nat} {X0 : St} {o0 : Nat} {p1 : Int32} {p2 : Int32} {o3 : Nat} {p4 : Int32} {p5 : Int32} (p_o0 : KO o o0) {X : St} (h : KFo o X0 X) : pw (g_Kinds_isSame o0 p1 p2 o3 p4 p5 X) (fun _ Y => KFo o X0 Y) := by
  have in_o0 : o ≤ o0 ∧ o0 ≤ o + 8 := KO.self p_o0
  unfold g_Kinds_isSame
  refine pw_eq (fun e1 ee1 => ?_)
  have in_e1 : o ≤ e1 ∧ e1 ≤ o + 8 := by rw [ee1]; exact KO.row p_o0 2 (by decide)
  refine pw_ck (fun _ => ?_)
  refine pw_eq (fun x2 _ => ?_)
  refine pw_ite (fun _ => ?_) (fun _ => ?_)
  · refine pw_eq (fun e3 ee3 => ?_)
    have in_e3 : o ≤ e3 ∧ e3 ≤ o + 8 := by rw [ee3]; exact KO.row p_o0 3 (by decide)
    refine pw_eq (fun x4 _ => ?_)
    refine pw_eq (fun x5 _ => ?_)
    refine pw_ck (fun _ => ?_)
    refine pw_eq (fun x6 _ => ?_)
    refine pw_ite (fun _ => ?_) (fun _ => ?_)
    · exact y_Kinds_isSame_30 _ _ _ _ _ _ _ _ p_o0 h
    · exact pw_ret h
  · exact pw_ret h
theorem y_Kinds_hasAny {o : Nat} {X0 : St} {o0 : Nat} {p1 : Int32} (p_o0 : KO o o0) {X : St} (h : KFo o X0 X) : pw (g_Kinds_hasAny o0 p1 X) (fun _ Y => KFo o X0 Y) := by
  have in_o0 : o ≤ o0 ∧ o0 ≤ o + 8 := KO.self p_o0
  unfold g_Kinds_hasAny
  refine pw_ite (fun _ => ?_) (fun _ => ?_)
  · exact pw_ret h
  · refine pw_eq (fun x1 _ => ?_)
    refine pw_ite (fun _ => ?_) (fun _ => ?_)
    · exact pw_ret h
    · refine pw_eq (fun e2 ee2 => ?_)
      have in_e2 : o ≤ e2 ∧ e2 ≤ o + 8 := by rw [ee2]; exact KO.row p_o0 5 (by decide)
      refine pw_ck (fun _ => ?_)
      refine pw_eq (fun x3 _ => ?_)
      refine pw_ite (fun _ => ?_) (fun _ => ?_)
      · exact pw_ret h
      · exact pw_ret h
theorem y_Kinds_findOrAdd_221 {o : Nat} {X0 : St} {r172 : Nat → Int32 → Nat → Int32 → Int32 → Int32 → Int32 → Int32 → St → Option (Int32 × St)} (hr172 : ∀ (q0 : Nat) (q1 : Int32) (q2 : Nat) (q3 : Int32) (q4 : Int32) (q5 : Int32) (q6 : Int32) (q7 : Int32) (X : St), KO o q0 → KFo o X0 X → pw (r172 q0 q1 q2 q3 q4 q5 q6 q7 X) (fun _ Y => KFo o X0 Y)) {e_0 : Nat} {a_2 : Int32} {e_3 : Nat} {a_4 : Int32} {a_7 : Int32} {a_8 : Int32} {a_10 : Int32} {b_0 : Int32} (p_e_0 : KO o e_0) {X : St} (h : KFo o X0 X) : pw (g_Kinds_findOrAdd_221 r172 e_0 a_2 e_3 a_4 a_7 a_8 a_10 b_0 X) (fun _ Y => KFo o X0 Y) := by
  have in_e_0 : o ≤ e_0 ∧ e_0 ≤ o + 8 := KO.self p_e_0
  unfold g_Kinds_findOrAdd_221
  refine pw_eq (fun x34 _ => ?_)
  exact hr172 _ _ _ _ _ _ _ _ _ p_e_0 h
theorem y_Kinds_findOrAdd_216 {o : Nat} {X0 : St} {r172 : Nat → Int32 → Nat → Int32 → Int32 → Int32 → Int32 → Int32 → St → Option (Int32 × St)} (hr172 : ∀ (q0 : Nat) (q1 : Int32) (q2 : Nat) (q3 : Int32) (q4 : Int32) (q5 : Int32) (q6 : Int32) (q7 : Int32) (X : St), KO o q0 → KFo o X0 X → pw (r172 q0 q1 q2 q3 q4 q5 q6 q7 X) (fun _ Y => KFo o X0 Y)) {e_0 : Nat} {a_2 : Int32} {e_3 : Nat} {a_4 : Int32} {a_7 : Int32} {a_8 : Int32} {a_10 : Int32} (p_e_0 : KO o e_0) {X : St} (h : KFo o X0 X) : pw (g_Kinds_findOrAdd_216 r172 e_0 a_2 e_3 a_4 a_7 a_8 a_10 X) (fun _ Y => KFo o X0 Y) := by
  have in_e_0 : o ≤ e_0 ∧ e_0 ≤ o + 8 := KO.self p_e_0
  unfold g_Kinds_findOrAdd_216
  exact y_Kinds_findOrAdd_221 hr172 p_e_0 h
theorem y_Kinds_findOrAdd_172 {o : Nat} {X0 : St} (N : Nat) : ∀ (e_0 : Nat) (a_2 : Int32) (e_3 : Nat) (a_4 : Int32) (a_7 : Int32) (a_8 : Int32) (a_9 : Int32) (a_10 : Int32) (X : St), KO o e_0 → KFo o X0 X → pw (g_Kinds_findOrAdd_172 N e_0 a_2 e_3 a_4 a_7 a_8 a_9 a_10 X) (fun _ Y => KFo o X0 Y) := by
  unfold g_Kinds_findOrAdd_172
  refine lp_ind (P := fun (r : Nat → Int32 → Nat → Int32 → Int32 → Int32 → Int32 → Int32 → St → Option (Int32 × St)) => ∀ (e_0 : Nat) (a_2 : Int32) (e_3 : Nat) (a_4 : Int32) (a_7 : Int32) (a_8 : Int32) (a_9 : Int32) (a_10 : Int32) (X : St), KO o e_0 → KFo o X0 X → pw (r e_0 a_2 e_3 a_4 a_7 a_8 a_9 a_10 X) (fun _ Y => KFo o X0 Y)) (fun _ _ _ _ _ _ _ _ _ _ _ => pw_none) (fun r ih e_0 a_2 e_3 a_4 a_7 a_8 a_9 a_10 X p_e_0 h => ?_) N
  have in_e_0 : o ≤ e_0 ∧ e_0 ≤ o + 8 := KO.self p_e_0
  unfold g_Kinds_findOrAdd_172_s
  refine pw_ite (fun _ => ?_) (fun _ => ?_)
  · refine pw_eq (fun e20 ee20 => ?_)
    have in_e20 : o ≤ e20 ∧ e20 ≤ o + 8 := by rw [ee20]; exact KO.row p_e_0 5 (by decide)
    refine pw_ck (fun _ => ?_)
    refine pw_eq (fun X21 eX21 => ?_)
    have dX21 : KFo o X0 X21 := by rw [eX21]; exact h.w in_e20
    refine pw_eq (fun e22 ee22 => ?_)
    have in_e22 : o ≤ e22 ∧ e22 ≤ o + 8 := by rw [ee22]; exact KO.row p_e_0 7 (by decide)
    refine pw_eq (fun e23 ee23 => ?_)
    have in_e23 : o ≤ e23 ∧ e23 ≤ o + 8 := by rw [ee23]; exact KO.row p_e_0 6 (by decide)
    refine pw_ck (fun _ => ?_)
    refine pw_eq (fun x24 _ => ?_)
    refine pw_ck (fun _ => ?_)
    refine pw_eq (fun X25 eX25 => ?_)
    have dX25 : KFo o X0 X25 := by rw [eX25]; exact dX21.w in_e22
    refine pw_eq (fun e26 ee26 => ?_)
    have in_e26 : o ≤ e26 ∧ e26 ≤ o + 8 := by rw [ee26]; exact KO.row p_e_0 6 (by decide)
    refine pw_ck (fun _ => ?_)
    refine pw_eq (fun X27 eX27 => ?_)
    have dX27 : KFo o X0 X27 := by rw [eX27]; exact dX25.w in_e26
    exact pw_ret dX27
  · refine pw_eq (fun e28 ee28 => ?_)
    have in_e28 : o ≤ e28 ∧ e28 ≤ o + 8 := by rw [ee28]; exact KO.row p_e_0 3 (by decide)
    refine pw_eq (fun x29 _ => ?_)
    refine pw_eq (fun x30 _ => ?_)
    refine pw_eq (fun x31 _ => ?_)
    refine pw_ck (fun _ => ?_)
    refine pw_eq (fun x32 _ => ?_)
    refine pw_ck (fun _ => ?_)
    refine pw_eq (fun X33 eX33 => ?_)
    have dX33 : KFo o X0 X33 := by rw [eX33]; exact h.w in_e28
    refine pw_ite (fun _ => ?_) (fun _ => ?_)
    · refine pw_eq (fun x35 _ => ?_)
      refine pw_ck (fun _ => ?_)
      refine pw_eq (fun x36 _ => ?_)
      refine pw_bd (y_Kinds_hasAny p_e_0 dX33) (fun x37 X38 dX38 => ?_)
      refine pw_ite (fun _ => ?_) (fun _ => ?_)
      · exact y_Kinds_findOrAdd_221 ih p_e_0 dX38
      · exact y_Kinds_findOrAdd_216 ih p_e_0 dX38
    · exact y_Kinds_findOrAdd_216 ih p_e_0 dX33
theorem y_Kinds_findOrAdd_167 {o : Nat} {X0 : St} {e_0 : Nat} {a_2 : Int32} {e_3 : Nat} {a_4 : Int32} {a_7 : Int32} {a_8 : Int32} {b_0 : Int32} (p_e_0 : KO o e_0) {X : St} (h : KFo o X0 X) : pw (g_Kinds_findOrAdd_167 e_0 a_2 e_3 a_4 a_7 a_8 b_0 X) (fun _ Y => KFo o X0 Y) := by
  have in_e_0 : o ≤ e_0 ∧ e_0 ≤ o + 8 := KO.self p_e_0
  unfold g_Kinds_findOrAdd_167
  exact y_Kinds_findOrAdd_172 _ _ _ _ _ _ _ _ _ _ p_e_0 h
theorem y_Kinds_findOrAdd_162 {o : Nat} {X0 : St} {e_0 : Nat} {a_2 : Int32} {e_3 : Nat} {a_4 : Int32} {a_7 : Int32} {a_8 : Int32} (p_e_0 : KO o e_0) {X : St} (h : KFo o X0 X) : pw (g_Kinds_findOrAdd_162 e_0 a_2 e_3 a_4 a_7 a_8 X) (fun _ Y => KFo o X0 Y) := by
  have in_e_0 : o ≤ e_0 ∧ e_0 ≤ o + 8 := KO.self p_e_0
  unfold g_Kinds_findOrAdd_162
  exact y_Kinds_findOrAdd_167 p_e_0 h
theorem y_Kinds_findOrAdd_166 {o : Nat} {X0 : St} {e_0 : Nat} {a_2 : Int32} {e_3 : Nat} {a_4 : Int32} {a_7 : Int32} {a_8 : Int32} (p_e_0 : KO o e_0) {X : St} (h : KFo o X0 X) : pw (g_Kinds_findOrAdd_166 e_0 a_2 e_3 a_4 a_7 a_8 X) (fun _ Y => KFo o X0 Y) := by
  have in_e_0 : o ≤ e_0 ∧ e_0 ≤ o + 8 := KO.self p_e_0
  unfold g_Kinds_findOrAdd_166
  exact y_Kinds_findOrAdd_167 p_e_0 h
theorem y_Kinds_findOrAdd_77 {o : Nat} {X0 : St} {e_0 : Nat} {a_1 : Int32} {a_2 : Int32} {e_3 : Nat} {a_4 : Int32} {a_5 : Int32} {a_6 : Int32} {a_7 : Int32} (p_e_0 : KO o e_0) {X : St} (h : KFo o X0 X) : pw (g_Kinds_findOrAdd_77 e_0 a_1 a_2 e_3 a_4 a_5 a_6 a_7 X) (fun _ Y => KFo o X0 Y) := by
  have in_e_0 : o ≤ e_0 ∧ e_0 ≤ o + 8 := KO.self p_e_0
  unfold g_Kinds_findOrAdd_77
  refine pw_eq (fun x5 _ => ?_)
  refine pw_ite (fun _ => ?_) (fun _ => ?_)
  · refine pw_eq (fun x6 _ => ?_)
    refine pw_eq (fun x7 _ => ?_)
    refine pw_eq (fun x8 _ => ?_)
    refine pw_eq (fun X9 eX9 => ?_)
    have dX9 : KFo o X0 X9 := by rw [eX9]; exact h.w in_e_0
    refine pw_eq (fun e10 ee10 => ?_)
    have in_e10 : o ≤ e10 ∧ e10 ≤ o + 8 := by rw [ee10]; exact KO.row p_e_0 1 (by decide)
    refine pw_ck (fun _ => ?_)
    refine pw_eq (fun X11 eX11 => ?_)
    have dX11 : KFo o X0 X11 := by rw [eX11]; exact dX9.w in_e10
    refine pw_eq (fun e12 ee12 => ?_)
    have in_e12 : o ≤ e12 ∧ e12 ≤ o + 8 := by rw [ee12]; exact KO.row p_e_0 2 (by decide)
    refine pw_ck (fun _ => ?_)
    refine pw_eq (fun X13 eX13 => ?_)
    have dX13 : KFo o X0 X13 := by rw [eX13]; exact dX11.w in_e12
    refine pw_eq (fun e14 ee14 => ?_)
    have in_e14 : o ≤ e14 ∧ e14 ≤ o + 8 := by rw [ee14]; exact KO.row p_e_0 4 (by decide)
    refine pw_ck (fun _ => ?_)
    refine pw_eq (fun X15 eX15 => ?_)
    have dX15 : KFo o X0 X15 := by rw [eX15]; exact dX13.w in_e14
    refine pw_eq (fun e16 ee16 => ?_)
    have in_e16 : o ≤ e16 ∧ e16 ≤ o + 8 := by rw [ee16]; exact KO.row p_e_0 3 (by decide)
    refine pw_eq (fun x17 _ => ?_)
    refine pw_eq (fun x18 _ => ?_)
    refine pw_ck (fun _ => ?_)
    refine pw_eq (fun X19 eX19 => ?_)
    have dX19 : KFo o X0 X19 := by rw [eX19]; exact dX15.w in_e16
    refine pw_ite (fun _ => ?_) (fun _ => ?_)
    · exact y_Kinds_findOrAdd_162 p_e_0 dX19
    · refine pw_ite (fun _ => ?_) (fun _ => ?_)
      · exact y_Kinds_findOrAdd_166 p_e_0 dX19
      · refine pw_bd (y_Kinds_hasAny p_e_0 dX19) (fun x39 X40 dX40 => ?_)
        refine pw_ite (fun _ => ?_) (fun _ => ?_)
        · exact y_Kinds_findOrAdd_166 p_e_0 dX40
        · exact y_Kinds_findOrAdd_162 p_e_0 dX40
  · exact pw_ret h
theorem y_Kinds_findOrAdd_62 {o : Nat} {X0 : St} {r19 : Nat → Int32 → Int32 → Nat → Int32 → Int32 → Int32 → Int32 → Int32 → Int32 → St → Option (Int32 × St)} (hr19 : ∀ (q0 : Nat) (q1 : Int32) (q2 : Int32) (q3 : Nat) (q4 : Int32) (q5 : Int32) (q6 : Int32) (q7 : Int32) (q8 : Int32) (q9 : Int32) (X : St), KO o q0 → KFo o X0 X → pw (r19 q0 q1 q2 q3 q4 q5 q6 q7 q8 q9 X) (fun _ Y => KFo o X0 Y)) {e_0 : Nat} {a_1 : Int32} {a_2 : Int32} {e_3 : Nat} {a_4 : Int32} {a_5 : Int32} {a_6 : Int32} {a_7 : Int32} {a_8 : Int32} {a_9 : Int32} (p_e_0 : KO o e_0) {X : St} (h : KFo o X0 X) : pw (g_Kinds_findOrAdd_62 r19 e_0 a_1 a_2 e_3 a_4 a_5 a_6 a_7 a_8 a_9 X) (fun _ Y => KFo o X0 Y) := by
  have in_e_0 : o ≤ e_0 ∧ e_0 ≤ o + 8 := KO.self p_e_0
  unfold g_Kinds_findOrAdd_62
  refine pw_eq (fun e43 ee43 => ?_)
  have in_e43 : o ≤ e43 ∧ e43 ≤ o + 8 := by rw [ee43]; exact KO.row p_e_0 7 (by decide)
  refine pw_ck (fun _ => ?_)
  refine pw_eq (fun x44 _ => ?_)
  refine pw_eq (fun x45 _ => ?_)
  exact hr19 _ _ _ _ _ _ _ _ _ _ _ p_e_0 h
theorem y_Kinds_findOrAdd_19 {o : Nat} {X0 : St} (N : Nat) : ∀ (e_0 : Nat) (a_1 : Int32) (a_2 : Int32) (e_3 : Nat) (a_4 : Int32) (a_5 : Int32) (a_6 : Int32) (a_7 : Int32) (a_8 : Int32) (a_9 : Int32) (X : St), KO o e_0 → KFo o X0 X → pw (g_Kinds_findOrAdd_19 N e_0 a_1 a_2 e_3 a_4 a_5 a_6 a_7 a_8 a_9 X) (fun _ Y => KFo o X0 Y) := by
  unfold g_Kinds_findOrAdd_19
  refine lp_ind (P := fun (r : Nat → Int32 → Int32 → Nat → Int32 → Int32 → Int32 → Int32 → Int32 → Int32 → St → Option (Int32 × St)) => ∀ (e_0 : Nat) (a_1 : Int32) (a_2 : Int32) (e_3 : Nat) (a_4 : Int32) (a_5 : Int32) (a_6 : Int32) (a_7 : Int32) (a_8 : Int32) (a_9 : Int32) (X : St), KO o e_0 → KFo o X0 X → pw (r e_0 a_1 a_2 e_3 a_4 a_5 a_6 a_7 a_8 a_9 X) (fun _ Y => KFo o X0 Y)) (fun _ _ _ _ _ _ _ _ _ _ _ _ _ => pw_none) (fun r ih e_0 a_1 a_2 e_3 a_4 a_5 a_6 a_7 a_8 a_9 X p_e_0 h => ?_) N
  have in_e_0 : o ≤ e_0 ∧ e_0 ≤ o + 8 := KO.self p_e_0
  unfold g_Kinds_findOrAdd_19_s
  refine pw_ite (fun _ => ?_) (fun _ => ?_)
  · exact y_Kinds_findOrAdd_77 p_e_0 h
  · refine pw_ite (fun _ => ?_) (fun _ => ?_)
    · exact y_Kinds_findOrAdd_77 p_e_0 h
    · refine pw_eq (fun e41 ee41 => ?_)
      have in_e41 : o ≤ e41 ∧ e41 ≤ o + 8 := by rw [ee41]; exact KO.row p_e_0 1 (by decide)
      refine pw_ck (fun _ => ?_)
      refine pw_eq (fun x42 _ => ?_)
      refine pw_ite (fun _ => ?_) (fun _ => ?_)
      · refine pw_bd (y_Kinds_isSame p_e_0 h) (fun x46 X47 dX47 => ?_)
        refine pw_ite (fun _ => ?_) (fun _ => ?_)
        · exact y_Kinds_findOrAdd_62 ih p_e_0 dX47
        · exact pw_ret dX47
      · exact y_Kinds_findOrAdd_62 ih p_e_0 h
theorem y_Kinds_findOrAdd {o : Nat} {X0 : St} {o0 : Nat} {p1 : Int32} {p2 : Int32} {o3 : Nat} {p4 : Int32} {p5 : Int32} {p6 : Int32} (p_o0 : KO o o0) {X : St} (h : KFo o X0 X) : pw (g_Kinds_findOrAdd o0 p1 p2 o3 p4 p5 p6 X) (fun _ Y => KFo o X0 Y) := by
  have in_o0 : o ≤ o0 ∧ o0 ≤ o + 8 := KO.self p_o0
  unfold g_Kinds_findOrAdd
  refine pw_bd (y_Kinds_bucketOf h) (fun x1 X2 dX2 => ?_)
  refine pw_eq (fun e3 ee3 => ?_)
  have in_e3 : o ≤ e3 ∧ e3 ≤ o + 8 := by rw [ee3]; exact KO.row p_o0 6 (by decide)
  refine pw_ck (fun _ => ?_)
  refine pw_eq (fun x4 _ => ?_)
  exact y_Kinds_findOrAdd_19 _ _ _ _ _ _ _ _ _ _ _ _ p_o0 dX2
theorem y_Kinds_functionOf_32 {o : Nat} {X0 : St} (N : Nat) : ∀ (e_0 : Nat) (e_1 : Nat) (a_2 : Int32) (a_3 : Int32) (a_4 : Int32) (a_5 : Int32) (a_6 : Int32) (X : St), KO o e_0 → KFo o X0 X → pw (g_Kinds_functionOf_32 N e_0 e_1 a_2 a_3 a_4 a_5 a_6 X) (fun _ Y => KFo o X0 Y) := by
  unfold g_Kinds_functionOf_32
  refine lp_ind (P := fun (r : Nat → Nat → Int32 → Int32 → Int32 → Int32 → Int32 → St → Option (Int32 × St)) => ∀ (e_0 : Nat) (e_1 : Nat) (a_2 : Int32) (a_3 : Int32) (a_4 : Int32) (a_5 : Int32) (a_6 : Int32) (X : St), KO o e_0 → KFo o X0 X → pw (r e_0 e_1 a_2 a_3 a_4 a_5 a_6 X) (fun _ Y => KFo o X0 Y)) (fun _ _ _ _ _ _ _ _ _ _ => pw_none) (fun r ih e_0 e_1 a_2 a_3 a_4 a_5 a_6 X p_e_0 h => ?_) N
  have in_e_0 : o ≤ e_0 ∧ e_0 ≤ o + 8 := KO.self p_e_0
  unfold g_Kinds_functionOf_32_s
  refine pw_ite (fun _ => ?_) (fun _ => ?_)
  · refine pw_eq (fun x4 _ => ?_)
    refine pw_bd (y_Kinds_codeOf p_e_0 h) (fun x5 X6 dX6 => ?_)
    refine pw_eq (fun x7 _ => ?_)
    refine pw_bd (y_Kinds_findOrAdd p_e_0 dX6) (fun x8 X9 dX9 => ?_)
    exact pw_ret dX9
  · refine pw_eq (fun x10 _ => ?_)
    refine pw_eq (fun x11 _ => ?_)
    refine pw_ck (fun _ => ?_)
    refine pw_eq (fun x12 _ => ?_)
    refine pw_bd (y_Kinds_codeOf p_e_0 h) (fun x13 X14 dX14 => ?_)
    refine pw_eq (fun x15 _ => ?_)
    refine pw_eq (fun x16 _ => ?_)
    exact ih _ _ _ _ _ _ _ _ p_e_0 dX14
theorem y_Kinds_functionOf {o : Nat} {X0 : St} {o0 : Nat} {o1 : Nat} {p2 : Int32} {p3 : Int32} {p4 : Int32} (p_o0 : KO o o0) {X : St} (h : KFo o X0 X) : pw (g_Kinds_functionOf o0 o1 p2 p3 p4 X) (fun _ Y => KFo o X0 Y) := by
  have in_o0 : o ≤ o0 ∧ o0 ≤ o + 8 := KO.self p_o0
  unfold g_Kinds_functionOf
  refine pw_ite (fun _ => ?_) (fun _ => ?_)
  · exact pw_ret h
  · refine pw_ite (fun _ => ?_) (fun _ => ?_)
    · exact pw_ret h
    · refine pw_ite (fun _ => ?_) (fun _ => ?_)
      · exact pw_ret h
      · refine pw_eq (fun x1 _ => ?_)
        refine pw_eq (fun x2 _ => ?_)
        refine pw_ite (fun _ => ?_) (fun _ => ?_)
        · refine pw_eq (fun x3 _ => ?_)
          exact y_Kinds_functionOf_32 _ _ _ _ _ _ _ _ _ p_o0 h
        · exact pw_ret h
theorem y_Kinds_rowOf {o : Nat} {X0 : St} {o0 : Nat} {p1 : Int32} (p_o0 : KO o o0) {X : St} (h : KFo o X0 X) : pw (g_Kinds_rowOf o0 p1 X) (fun _ Y => KFo o X0 Y) := by
  have in_o0 : o ≤ o0 ∧ o0 ≤ o + 8 := KO.self p_o0
  unfold g_Kinds_rowOf
  refine pw_bd (y_Kinds_codeOf p_o0 h) (fun x1 X2 dX2 => ?_)
  refine pw_eq (fun x3 _ => ?_)
  refine pw_eq (fun x4 _ => ?_)
  refine pw_eq (fun e5 ee5 => ?_)
  have in_e5 : o ≤ e5 ∧ e5 ≤ o + 8 := by rw [ee5]; exact KO.row p_o0 3 (by decide)
  refine pw_bd (y_Kinds_findOrAdd p_o0 dX2) (fun x6 X7 dX7 => ?_)
  exact pw_ret dX7
theorem y_Kinds_forgetTexts {o : Nat} {X0 : St} {o0 : Nat} (p_o0 : KO o o0) {X : St} (h : KFo o X0 X) : pw (g_Kinds_forgetTexts o0 X) (fun _ Y => KFo o X0 Y) := by
  have in_o0 : o ≤ o0 ∧ o0 ≤ o + 8 := KO.self p_o0
  unfold g_Kinds_forgetTexts
  refine pw_bd (y_Kinds_cutTo p_o0 h) (fun _ X1 dX1 => ?_)
  exact pw_ret dX1
theorem x_Kinds_findOrAdd_172 (N : Nat) : ∀ (e_0 : Nat) (a_2 : Int32) (e_3 : Nat) (a_4 : Int32) (a_7 : Int32) (a_8 : Int32) (a_9 : Int32) (a_10 : Int32) (X : St), pw (g_Kinds_findOrAdd_172 N e_0 a_2 e_3 a_4 a_7 a_8 a_9 a_10 X) (fun r _ => 0 ≤ r.toInt) := by
  unfold g_Kinds_findOrAdd_172
  refine lp_ind (P := fun (r : Nat → Int32 → Nat → Int32 → Int32 → Int32 → Int32 → Int32 → St → Option (Int32 × St)) => ∀ (e_0 : Nat) (a_2 : Int32) (e_3 : Nat) (a_4 : Int32) (a_7 : Int32) (a_8 : Int32) (a_9 : Int32) (a_10 : Int32) (X : St), pw (r e_0 a_2 e_3 a_4 a_7 a_8 a_9 a_10 X) (fun r _ => 0 ≤ r.toInt)) (fun _ _ _ _ _ _ _ _ _ => pw_none) (fun r ih e_0 a_2 e_3 a_4 a_7 a_8 a_9 a_10 X => ?_) N
  unfold g_Kinds_findOrAdd_172_s
  refine pw_ite (fun k1 => ?_) (fun k1 => ?_)
  · refine pw_eq (fun e20 _ => ?_)
    refine pw_ck (fun k2 => ?_)
    refine pw_eq (fun X21 _ => ?_)
    refine pw_eq (fun e22 _ => ?_)
    refine pw_eq (fun e23 _ => ?_)
    refine pw_ck (fun k3 => ?_)
    refine pw_eq (fun x24 _ => ?_)
    refine pw_ck (fun k4 => ?_)
    refine pw_eq (fun X25 _ => ?_)
    refine pw_eq (fun e26 _ => ?_)
    refine pw_ck (fun k5 => ?_)
    refine pw_eq (fun X27 _ => ?_)
    exact pw_ret (show 0 ≤ (a_8 : Int32).toInt from by first | decide | omega)
  · refine pw_eq (fun e28 _ => ?_)
    refine pw_eq (fun x29 _ => ?_)
    refine pw_eq (fun x30 _ => ?_)
    refine pw_eq (fun x31 _ => ?_)
    refine pw_ck (fun k6 => ?_)
    refine pw_eq (fun x32 _ => ?_)
    refine pw_ck (fun k7 => ?_)
    refine pw_eq (fun X33 _ => ?_)
    refine pw_ite (fun k8 => ?_) (fun k8 => ?_)
    · refine pw_eq (fun x35 _ => ?_)
      refine pw_ck (fun k9 => ?_)
      refine pw_eq (fun x36 _ => ?_)
      refine pw_bd (R := fun _ _ => True) (fun _ _ _ => trivial) (fun x37 X38 _ => ?_)
      refine pw_ite (fun k10 => ?_) (fun k10 => ?_)
      · unfold g_Kinds_findOrAdd_221
        refine pw_eq (fun x34 _ => ?_)
        exact ih _ _ _ _ _ _ _ _ _
      · unfold g_Kinds_findOrAdd_216
        unfold g_Kinds_findOrAdd_221
        refine pw_eq (fun x34 _ => ?_)
        exact ih _ _ _ _ _ _ _ _ _
    · unfold g_Kinds_findOrAdd_216
      unfold g_Kinds_findOrAdd_221
      refine pw_eq (fun x34 _ => ?_)
      exact ih _ _ _ _ _ _ _ _ _
theorem x_Kinds_findOrAdd_167 {e_0 : Nat} {a_2 : Int32} {e_3 : Nat} {a_4 : Int32} {a_7 : Int32} {a_8 : Int32} {b_0 : Int32} {X : St} : pw (g_Kinds_findOrAdd_167 e_0 a_2 e_3 a_4 a_7 a_8 b_0 X) (fun r _ => 0 ≤ r.toInt) := by
  unfold g_Kinds_findOrAdd_167
  exact x_Kinds_findOrAdd_172 _ _ _ _ _ _ _ _ _ _
theorem x_Kinds_findOrAdd_162 {e_0 : Nat} {a_2 : Int32} {e_3 : Nat} {a_4 : Int32} {a_7 : Int32} {a_8 : Int32} {X : St} : pw (g_Kinds_findOrAdd_162 e_0 a_2 e_3 a_4 a_7 a_8 X) (fun r _ => 0 ≤ r.toInt) := by
  unfold g_Kinds_findOrAdd_162
  exact x_Kinds_findOrAdd_167
theorem x_Kinds_findOrAdd_166 {e_0 : Nat} {a_2 : Int32} {e_3 : Nat} {a_4 : Int32} {a_7 : Int32} {a_8 : Int32} {X : St} : pw (g_Kinds_findOrAdd_166 e_0 a_2 e_3 a_4 a_7 a_8 X) (fun r _ => 0 ≤ r.toInt) := by
  unfold g_Kinds_findOrAdd_166
  exact x_Kinds_findOrAdd_167
theorem x_Kinds_findOrAdd_77 {e_0 : Nat} {a_1 : Int32} {a_2 : Int32} {e_3 : Nat} {a_4 : Int32} {a_5 : Int32} {a_6 : Int32} {a_7 : Int32} {X : St} : pw (g_Kinds_findOrAdd_77 e_0 a_1 a_2 e_3 a_4 a_5 a_6 a_7 X) (fun r _ => 0 ≤ r.toInt) := by
  unfold g_Kinds_findOrAdd_77
  refine pw_eq (fun x5 _ => ?_)
  refine pw_ite (fun k1 => ?_) (fun k1 => ?_)
  · refine pw_eq (fun x6 _ => ?_)
    refine pw_eq (fun x7 _ => ?_)
    refine pw_eq (fun x8 _ => ?_)
    refine pw_eq (fun X9 _ => ?_)
    refine pw_eq (fun e10 _ => ?_)
    refine pw_ck (fun k2 => ?_)
    refine pw_eq (fun X11 _ => ?_)
    refine pw_eq (fun e12 _ => ?_)
    refine pw_ck (fun k3 => ?_)
    refine pw_eq (fun X13 _ => ?_)
    refine pw_eq (fun e14 _ => ?_)
    refine pw_ck (fun k4 => ?_)
    refine pw_eq (fun X15 _ => ?_)
    refine pw_eq (fun e16 _ => ?_)
    refine pw_eq (fun x17 _ => ?_)
    refine pw_eq (fun x18 _ => ?_)
    refine pw_ck (fun k5 => ?_)
    refine pw_eq (fun X19 _ => ?_)
    refine pw_ite (fun k6 => ?_) (fun k6 => ?_)
    · exact x_Kinds_findOrAdd_162
    · refine pw_ite (fun k7 => ?_) (fun k7 => ?_)
      · exact x_Kinds_findOrAdd_166
      · refine pw_bd (R := fun _ _ => True) (fun _ _ _ => trivial) (fun x39 X40 _ => ?_)
        refine pw_ite (fun k8 => ?_) (fun k8 => ?_)
        · exact x_Kinds_findOrAdd_166
        · exact x_Kinds_findOrAdd_162
  · exact pw_ret (show 0 ≤ (2 : Int32).toInt from by first | decide | omega)
theorem x_Kinds_findOrAdd_19 (N : Nat) : ∀ (e_0 : Nat) (a_1 : Int32) (a_2 : Int32) (e_3 : Nat) (a_4 : Int32) (a_5 : Int32) (a_6 : Int32) (a_7 : Int32) (a_8 : Int32) (a_9 : Int32) (X : St), pw (g_Kinds_findOrAdd_19 N e_0 a_1 a_2 e_3 a_4 a_5 a_6 a_7 a_8 a_9 X) (fun r _ => 0 ≤ r.toInt) := by
  unfold g_Kinds_findOrAdd_19
  refine lp_ind (P := fun (r : Nat → Int32 → Int32 → Nat → Int32 → Int32 → Int32 → Int32 → Int32 → Int32 → St → Option (Int32 × St)) => ∀ (e_0 : Nat) (a_1 : Int32) (a_2 : Int32) (e_3 : Nat) (a_4 : Int32) (a_5 : Int32) (a_6 : Int32) (a_7 : Int32) (a_8 : Int32) (a_9 : Int32) (X : St), pw (r e_0 a_1 a_2 e_3 a_4 a_5 a_6 a_7 a_8 a_9 X) (fun r _ => 0 ≤ r.toInt)) (fun _ _ _ _ _ _ _ _ _ _ _ => pw_none) (fun r ih e_0 a_1 a_2 e_3 a_4 a_5 a_6 a_7 a_8 a_9 X => ?_) N
  unfold g_Kinds_findOrAdd_19_s
  refine pw_ite (fun k1 => ?_) (fun k1 => ?_)
  · exact x_Kinds_findOrAdd_77
  · refine pw_ite (fun k2 => ?_) (fun k2 => ?_)
    · exact x_Kinds_findOrAdd_77
    · refine pw_eq (fun e41 _ => ?_)
      refine pw_ck (fun k3 => ?_)
      refine pw_eq (fun x42 _ => ?_)
      refine pw_ite (fun k4 => ?_) (fun k4 => ?_)
      · refine pw_bd (R := fun _ _ => True) (fun _ _ _ => trivial) (fun x46 X47 _ => ?_)
        refine pw_ite (fun k5 => ?_) (fun k5 => ?_)
        · unfold g_Kinds_findOrAdd_62
          refine pw_eq (fun e43 _ => ?_)
          refine pw_ck (fun k6 => ?_)
          refine pw_eq (fun x44 _ => ?_)
          refine pw_eq (fun x45 _ => ?_)
          exact ih _ _ _ _ _ _ _ _ _ _ _
        · exact pw_ret (show 0 ≤ (a_8 : Int32).toInt from by first | decide | omega)
      · unfold g_Kinds_findOrAdd_62
        refine pw_eq (fun e43 _ => ?_)
        refine pw_ck (fun k7 => ?_)
        refine pw_eq (fun x44 _ => ?_)
        refine pw_eq (fun x45 _ => ?_)
        exact ih _ _ _ _ _ _ _ _ _ _ _
theorem x_Kinds_findOrAdd {o0 : Nat} {p1 : Int32} {p2 : Int32} {o3 : Nat} {p4 : Int32} {p5 : Int32} {p6 : Int32} {X : St} : pw (g_Kinds_findOrAdd o0 p1 p2 o3 p4 p5 p6 X) (fun r _ => 0 ≤ r.toInt) := by
  unfold g_Kinds_findOrAdd
  refine pw_bd (R := fun _ _ => True) (fun _ _ _ => trivial) (fun x1 X2 _ => ?_)
  refine pw_eq (fun e3 _ => ?_)
  refine pw_ck (fun k1 => ?_)
  refine pw_eq (fun x4 _ => ?_)
  exact x_Kinds_findOrAdd_19 _ _ _ _ _ _ _ _ _ _ _ _
theorem x_Kinds_functionOf_32 (N : Nat) : ∀ (e_0 : Nat) (e_1 : Nat) (a_2 : Int32) (a_3 : Int32) (a_4 : Int32) (a_5 : Int32) (a_6 : Int32) (X : St), pw (g_Kinds_functionOf_32 N e_0 e_1 a_2 a_3 a_4 a_5 a_6 X) (fun r _ => 0 ≤ r.toInt) := by
  unfold g_Kinds_functionOf_32
  refine lp_ind (P := fun (r : Nat → Nat → Int32 → Int32 → Int32 → Int32 → Int32 → St → Option (Int32 × St)) => ∀ (e_0 : Nat) (e_1 : Nat) (a_2 : Int32) (a_3 : Int32) (a_4 : Int32) (a_5 : Int32) (a_6 : Int32) (X : St), pw (r e_0 e_1 a_2 a_3 a_4 a_5 a_6 X) (fun r _ => 0 ≤ r.toInt)) (fun _ _ _ _ _ _ _ _ => pw_none) (fun r ih e_0 e_1 a_2 a_3 a_4 a_5 a_6 X => ?_) N
  unfold g_Kinds_functionOf_32_s
  refine pw_ite (fun k1 => ?_) (fun k1 => ?_)
  · refine pw_eq (fun x4 _ => ?_)
    refine pw_bd (R := fun _ _ => True) (fun _ _ _ => trivial) (fun x5 X6 _ => ?_)
    refine pw_eq (fun x7 _ => ?_)
    exact pw_bd (x_Kinds_findOrAdd) (fun _ _ h => pw_ret h)
  · refine pw_eq (fun x10 _ => ?_)
    refine pw_eq (fun x11 _ => ?_)
    refine pw_ck (fun k2 => ?_)
    refine pw_eq (fun x12 _ => ?_)
    refine pw_bd (R := fun _ _ => True) (fun _ _ _ => trivial) (fun x13 X14 _ => ?_)
    refine pw_eq (fun x15 _ => ?_)
    refine pw_eq (fun x16 _ => ?_)
    exact ih _ _ _ _ _ _ _ _
theorem x_Kinds_functionOf {o0 : Nat} {o1 : Nat} {p2 : Int32} {p3 : Int32} {p4 : Int32} {X : St} : pw (g_Kinds_functionOf o0 o1 p2 p3 p4 X) (fun r _ => 0 ≤ r.toInt) := by
  unfold g_Kinds_functionOf
  refine pw_ite (fun k1 => ?_) (fun k1 => ?_)
  · exact pw_ret (show 0 ≤ (2 : Int32).toInt from by first | decide | omega)
  · refine pw_ite (fun k2 => ?_) (fun k2 => ?_)
    · exact pw_ret (show 0 ≤ (2 : Int32).toInt from by first | decide | omega)
    · refine pw_ite (fun k3 => ?_) (fun k3 => ?_)
      · exact pw_ret (show 0 ≤ (2 : Int32).toInt from by first | decide | omega)
      · refine pw_eq (fun x1 _ => ?_)
        refine pw_eq (fun x2 _ => ?_)
        refine pw_ite (fun k4 => ?_) (fun k4 => ?_)
        · refine pw_eq (fun x3 _ => ?_)
          exact x_Kinds_functionOf_32 _ _ _ _ _ _ _ _ _
        · exact pw_ret (show 0 ≤ (2 : Int32).toInt from by first | decide | omega)
theorem x_Kinds_rowOf {o0 : Nat} {p1 : Int32} {X : St} : pw (g_Kinds_rowOf o0 p1 X) (fun r _ => 0 ≤ r.toInt) := by
  unfold g_Kinds_rowOf
  refine pw_bd (R := fun _ _ => True) (fun _ _ _ => trivial) (fun x1 X2 _ => ?_)
  refine pw_eq (fun x3 _ => ?_)
  refine pw_eq (fun x4 _ => ?_)
  refine pw_eq (fun e5 _ => ?_)
  exact pw_bd (x_Kinds_findOrAdd) (fun _ _ h => pw_ret h)
