/-! instructions without the reference; how far stack and guards grow -/
/-- what stands ahead of an instruction -/
def ASp (c : List Ins) (j : Nat) (S : List SE) (a : Ins) : Prop := ((0 ≤ a.1 ∧ a.1 ≤ 36) ∧ (a.1 = 3 ∨ a.1 = 5 ∨ a.1 = 10 ∨ a.1 = 16 ∨ a.1 = 30 ∨ a.1 = 31 ∨ a.1 = 32 → -2147483648 ≤ a.2.1 ∧ a.2.1 ≤ 2147483647)) ∧ (a.1 = 8 → ∃ (S1 : List SE) (j1 j2 : Nat), S = (some j2, none, 0) :: (some j1, none, 0) :: S1) ∧ (a.1 = 10 → ∃ (S1 : List SE) (us : List (Nat × Nat)), a.2.1 = (us.length : Int) ∧ S = us.reverse.map (fun w => ((some w.2, none, 0) : SE)) ++ S1) ∧ (a.1 = 14 → FM S 1 1) ∧ (a.1 = 15 → FM S 2 1) ∧ (a.1 = 16 → 0 ≤ a.2.1 ∧ FM S a.2.1.toNat (2 + a.2.1.toNat)) ∧ (a.1 = 31 → 1 ≤ j ∧ ∃ a1, c[j - 1]? = some a1 ∧ a1.1 = 4) ∧ (a.1 = 32 → 0 ≤ a.2.1 ∧ ∃ (q t : Option Nat) (h : Nat), S[a.2.1.toNat + 1]? = some (q, t, 2 + h) ∧ a.2.1.toNat < h) ∧ (a.1 = 33 → FM S 2 1)
/-- how many on the stack have been asked last where a guard may come -/
def mk (S : List SE) : Nat := (S.map (fun w => if w.1.isSome = true then 1 else 0)).sum
section ASPS
variable {W : St} {nr : Int → Int} {ch : Tx} {ps : List Pt} {told : Nat → Bool} {c : List Ins} {g j s m : Nat} {S S1 : List SE} {a : Ins} {J J1 : JS} {b : Bool} {w : SE} {k : List Int} {L : Nat}
theorem AO.asp (h : AO W nr c j b s S a) : ASp c j S a := by
  have r : ∀ {x : Int} {z : Int32}, z.toInt = x → -2147483648 ≤ x ∧ x ≤ 2147483647 := fun {x z} e => by
    have a1 := z.le_toInt
    have a2 := z.toInt_lt
    omega
  refine ⟨⟨?_, ?_⟩, fun e => ?_, fun e => ?_, fun e => ?_, fun e => ?_, fun e => ?_, fun e => ?_, fun e => ?_, fun e => ?_⟩
  · obtain ⟨n, h⟩ := h
    rcases h with ⟨g, h⟩ | ⟨g, h⟩ | ⟨g, h⟩ | ⟨g, h⟩ | ⟨g, h⟩ | ⟨g, h⟩ | ⟨g, h⟩ | ⟨g, h⟩ | ⟨g, h⟩ | ⟨g, h⟩ | ⟨g, h⟩ | ⟨g, h⟩ | ⟨g, h⟩ | ⟨g, h⟩ | ⟨g, h⟩ | ⟨g, h⟩ | ⟨g, h⟩ | ⟨g, h⟩ | ⟨g, h⟩ | ⟨g, h⟩ | ⟨g, h⟩ | ⟨g, h⟩ | ⟨g, h⟩ | ⟨g, h⟩ | ⟨g, h⟩ | ⟨g, h⟩ | ⟨g, h⟩ | ⟨g, h⟩ | ⟨g, h⟩ | ⟨g, h⟩ | ⟨g, h⟩ <;> (clear h; omega)
  · rintro (e | e | e | e | e | e | e)
    · obtain ⟨n, _, h1, _⟩ := h.e3 e
      exact r h1
    · obtain ⟨n, h1⟩ := h.e5 e
      rcases h1 with ⟨_, _, h1⟩ | ⟨_, _, _, _, h1⟩
      · exact r h1
      · exact r h1
    · obtain ⟨n, _, _, h1, _⟩ := h.e10 e
      exact r h1
    · obtain ⟨n, _, _, h1, _⟩ := h.e16 e
      exact r h1
    · obtain ⟨n, _, _, h1, _⟩ := h.e30 e
      exact r h1
    · obtain ⟨n, _, _, h1, _⟩ := h.e31 e
      exact r h1
    · obtain ⟨n, _, _, h1, h0, _⟩ := h.e32 e
      have := r h1
      omega
  · obtain ⟨n, _, _, S1, j1, j2, h1, _⟩ := h.e8 e
    exact ⟨S1, j1, j2, h1⟩
  · obtain ⟨n, _, _, _, S1, us, h1, h2, _⟩ := h.e10 e
    exact ⟨S1, us, h1, h2⟩
  · obtain ⟨n, _, _, h1⟩ := h.e14 e
    exact h1
  · obtain ⟨n, _, _, h1⟩ := h.e15 e
    exact h1
  · obtain ⟨n, _, _, _, h0, h1⟩ := h.e16 e
    exact ⟨h0, h1⟩
  · obtain ⟨n, _, _, _, _, _, h1, h2⟩ := h.e31 e
    exact ⟨h1, h2⟩
  · obtain ⟨n, _, _, _, h0, m, q, t, f, _, h1, h2, _⟩ := h.e32 e
    exact ⟨h0, q, t, f, h1, h2⟩
  · obtain ⟨n, _, _, h1⟩ := h.e33 e
    exact h1
theorem mk_cons : mk (w :: S) = (if w.1.isSome = true then 1 else 0) + mk S := by
  unfold mk
  rw [List.map_cons, List.sum_cons]
theorem mk_app : mk (S ++ S1) = mk S + mk S1 := by
  unfold mk
  rw [List.map_append, List.sum_append]
theorem mk_drop (m : Nat) : mk (S.drop m) ≤ mk S := by
  have e : mk (S.take m ++ S.drop m) = mk S := by rw [List.take_append_drop]
  rw [mk_app] at e
  omega
theorem mk_new {t : Option Nat} {f : Nat} : mk ((none, t, f) :: S) = mk S := by
  rw [mk_cons]
  show (if false = true then 1 else 0) + mk S = _
  rw [if_neg (by decide)]
  omega
theorem mk_some {q : Nat} {t : Option Nat} {f : Nat} : mk ((some q, t, f) :: S) = 1 + mk S := by
  rw [mk_cons]
  show (if true = true then 1 else 0) + mk S = _
  rw [if_pos rfl]
theorem mk_stk {t : Option Nat} : mk (stk t m S) = mk S := by
  cases S with
  | nil => rfl
  | cons w S =>
    show mk ((w.1, t, m) :: S) = _
    rw [mk_cons, mk_cons]
theorem mk_sfm : mk (sfm m S) = mk S := by
  cases S with
  | nil => rfl
  | cons w S =>
    show mk ((w.1, w.2.1, m) :: S) = _
    rw [mk_cons, mk_cons]
theorem mk_sas {q : Option Nat} : mk (sas q S) ≤ mk S + 1 := by
  cases S with
  | nil => exact Nat.zero_le _
  | cons w S =>
    show mk ((q, w.2) :: S) ≤ _
    rw [mk_cons, mk_cons]
    split <;> omega
theorem mk_us : ∀ us : List (Nat × Nat), mk (us.map (fun w => ((some w.2, none, 0) : SE))) = us.length
  | [] => rfl
  | w :: us => by
    rw [List.map_cons, mk_some, mk_us us, List.length_cons]
    omega
theorem jmg_len : ∀ l : List (List Int × SE), (jmg c g l).length ≤ l.length
  | [] => Nat.le_refl _
  | (k, w) :: l => by
    show (jmg c g l ++ _).length ≤ l.length + 1
    have := jmg_len l
    rw [List.length_append]
    split
    · rw [List.length_nil]; omega
    · rw [List.length_singleton]; omega
theorem wk_a {t : Int} (h : 27 ≤ t) : wk L t = L := by unfold wk; rw [if_pos h]
theorem wk_p {t : Int} (h : wp t) : wk L t = 1 - L := by unfold wk; rw [if_neg h.1, if_neg h.2]
theorem meet_bd {p t : Int} (h : jmeet g j p t k J (Sum.inl J1)) : J1.2.2.2.length ≤ J.2.2.2.length + 1 := by
  rcases h with ⟨_, h1⟩ | ⟨_, _, h1⟩ | ⟨_, _, h1⟩
  · exact absurd h1 (by simp)
  · rw [Sum.inl.inj h1]; omega
  · rw [Sum.inl.inj h1]
    show (J.2.2.2 ++ _).length ≤ _
    rw [List.length_append, List.length_singleton]
    omega
theorem form_bd {p t : Int} (h : jform g j p t k J (Sum.inl J1)) : J1.2.2.2.length ≤ J.2.2.2.length + 1 := by
  rcases h with ⟨_, h1⟩ | ⟨_, _, h1⟩ | ⟨_, _, h1⟩
  · rw [Sum.inl.inj h1]
    show (J.2.2.2 ++ _).length ≤ _
    rw [List.length_append, List.length_singleton]
    omega
  · rw [Sum.inl.inj h1]; omega
  · exact absurd h1 (by simp)
theorem call_bd {p : Int} {n : Nat} (h : jcall g j p n J (Sum.inl J1)) : J1.2.2.2.length ≤ J.2.2.2.length + 1 := by
  rcases h with ⟨_, h1⟩ | ⟨_, h⟩
  · rw [Sum.inl.inj h1]
    show (J.2.2.2 ++ _).length ≤ _
    rw [List.length_append, List.length_singleton]
    omega
  · rcases h with ⟨_, h⟩ | ⟨_, h1⟩
    · rcases h with ⟨_, h1⟩ | ⟨_, h1⟩
      · rw [Sum.inl.inj h1]; omega
      · exact absurd h1 (by simp)
    · exact absurd h1 (by simp)
theorem mix_bd (hm : jmix c g m S J k J1) : J1.2.2.2.length ≤ J.2.2.2.length + m := by
  rcases hm with ⟨_, _, rfl⟩ | ⟨_, _, rfl⟩
  · exact Nat.le_add_right _ _
  · show (J.2.2.2 ++ _).length ≤ _
    rw [List.length_append]
    have := jmg_len (c := c) (g := g) ((J.1.take m).zip (S.take m))
    rw [List.length_zip, List.length_take, List.length_take] at this
    omega
/-- how far stack and guards grow -/
theorem jst_bd (hA : ASp c j S a) (h : JST ch ps told c g j S a J (Sum.inl J1)) : J1.2.2.2.length + mk (sh1 j a S) ≤ J.2.2.2.length + mk S + wk 1 a.1 ∧ (sh1 j a S).length ≤ S.length + wk 0 a.1 := by
  have z1 : ∀ t : Int, 0 ≤ wk 1 t := fun _ => Nat.zero_le _
  have dr : ∀ m, mk (S.drop m) ≤ mk S ∧ (S.drop m).length ≤ S.length := fun m => ⟨mk_drop m, by rw [List.length_drop]; omega⟩
  have nw : ∀ m, wp a.1 → J1.2.2.2.length ≤ J.2.2.2.length → J1.2.2.2.length + mk ((none, none, 0) :: S.drop m) ≤ J.2.2.2.length + mk S + wk 1 a.1 ∧ (((none, none, 0) : SE) :: S.drop m).length ≤ S.length + wk 0 a.1 := fun m hw hl => by
    have := dr m
    rw [wk_p hw, wk_p hw, mk_new, List.length_cons]
    omega
  have po : ∀ m, J1.2.2.2.length ≤ J.2.2.2.length → J1.2.2.2.length + mk (S.drop m) ≤ J.2.2.2.length + mk S + wk 1 a.1 ∧ (S.drop m).length ≤ S.length + wk 0 a.1 := fun m hl => by
    have := dr m
    omega
  have ask : ∀ S2 : List SE, 27 ≤ a.1 → J1.2.2.2.length ≤ J.2.2.2.length + 1 → mk S2 = mk S → S2.length = S.length → J1.2.2.2.length + mk S2 ≤ J.2.2.2.length + mk S + wk 1 a.1 ∧ S2.length ≤ S.length + wk 0 a.1 := fun S2 ha hl h1 h2 => by
    rw [wk_a ha, wk_a ha]
    omega
  rcases h with ⟨e, hr⟩ | ⟨e, hr⟩ | ⟨e, hr⟩ | ⟨e, hr⟩ | ⟨e, hr⟩ | ⟨e, hr⟩ | ⟨e, hr⟩ | ⟨e, hr⟩ | ⟨e, hr⟩ | ⟨e, hr⟩ | ⟨e, hr⟩ | ⟨e, hr⟩ | ⟨e, hr⟩ | ⟨e, hr⟩ | ⟨e, hr⟩ | ⟨e, hr⟩ | ⟨e, hr⟩ | ⟨e, hr⟩ | ⟨e, hr⟩ | ⟨e, hr⟩ | ⟨e, hr⟩ | ⟨e, hr⟩ | ⟨e, hr⟩ | ⟨e, hr⟩ | ⟨e, hr⟩ | ⟨e, hr⟩ | ⟨e, hr⟩ | ⟨e, hr⟩ | ⟨e, hr⟩ | ⟨e, hr⟩ | ⟨e, hr⟩
  · rw [sh1_0 e, Sum.inl.inj hr]; omega
  · rw [sh1_1 e]; exact nw 0 (by unfold wp; omega) (by rw [Sum.inl.inj hr]; exact Nat.le_refl _)
  · rw [sh1_2 e]; exact nw 0 (by unfold wp; omega) (by rw [Sum.inl.inj hr]; exact Nat.le_refl _)
  · obtain ⟨d, _, hr⟩ := hr
    rw [sh1_3 e]; exact nw 0 (by unfold wp; omega) (by rw [Sum.inl.inj hr]; exact Nat.le_refl _)
  · rw [sh1_4 e]; exact nw 0 (by unfold wp; omega) (by rw [Sum.inl.inj hr]; exact Nat.le_refl _)
  · rw [sh1_5 e]; exact po 1 (by rw [Sum.inl.inj hr]; exact Nat.le_refl _)
  · rw [sh1_6 e]; exact po 1 (by rw [Sum.inl.inj hr]; exact Nat.le_refl _)
  · rw [sh1_7 e, Sum.inl.inj hr]; omega
  · obtain ⟨k, J2, hm, hr⟩ := hr
    obtain ⟨S1, j1, j2, hS⟩ := hA.2.1 e
    have := mix_bd hm
    rw [sh1_8 e, wk_p (by unfold wp; omega), wk_p (by unfold wp; omega), Sum.inl.inj hr, hS]
    show J2.2.2.2.length + mk ((none, none, 0) :: S1) ≤ _ ∧ S1.length + 1 ≤ S1.length + 1 + 1 + (1 - 0)
    rw [mk_new, mk_some, mk_some]
    omega
  · rw [sh1_9 e]; exact po 1 (by rw [Sum.inl.inj hr]; exact Nat.le_refl _)
  · obtain ⟨k, J2, hm, hr⟩ := hr
    obtain ⟨S1, us, hu, hS⟩ := hA.2.2.1 e
    have := mix_bd hm
    have hl : a.2.1.toNat = us.length := by omega
    rw [hl] at this
    have ml : (us.reverse.map (fun w => ((some w.2, none, 0) : SE))).length = us.length := by rw [List.length_map, List.length_reverse]
    have mm := mk_us us.reverse
    rw [List.length_reverse] at mm
    have dl := List.drop_left (l₁ := us.reverse.map (fun w => ((some w.2, none, 0) : SE))) (l₂ := S1)
    rw [ml] at dl
    rw [sh1_10 e, wk_p (by unfold wp; omega), wk_p (by unfold wp; omega), Sum.inl.inj hr, hl, hS, dl, mk_new, mk_app, mm, List.length_append, ml, List.length_cons]
    show J2.2.2.2.length + _ ≤ _ ∧ _
    omega
  · rw [sh1_11 e]; exact nw 2 (by unfold wp; omega) (by rw [Sum.inl.inj hr]; exact Nat.le_refl _)
  · rw [sh1_12 e]; exact nw 1 (by unfold wp; omega) (by rw [Sum.inl.inj hr]; exact Nat.le_refl _)
  · rw [sh1_13 e]; exact nw 1 (by unfold wp; omega) (by rw [Sum.inl.inj hr]; exact Nat.le_refl _)
  · rw [sh1_14 e]; exact nw 2 (by unfold wp; omega) (by rw [Sum.inl.inj hr]; exact Nat.le_refl _)
  · rw [sh1_15 e]; exact nw 3 (by unfold wp; omega) (by rw [Sum.inl.inj hr]; exact Nat.le_refl _)
  · rw [sh1_16 e]; exact nw _ (by unfold wp; omega) (by rw [Sum.inl.inj hr]; exact Nat.le_refl _)
  · rw [sh1_17 e]; exact po 1 (by rw [Sum.inl.inj hr]; exact Nat.le_refl _)
  · rw [sh1_18 e]; exact nw 1 (by unfold wp; omega) (by rw [Sum.inl.inj hr]; exact Nat.le_refl _)
  · rw [sh1_19 e]; exact nw 1 (by unfold wp; omega) (by rw [Sum.inl.inj hr]; exact Nat.le_refl _)
  · rw [sh1_20 e]; exact nw 2 (by unfold wp; omega) (by rw [Sum.inl.inj hr]; exact Nat.le_refl _)
  · rw [sh1_27 e]; exact ask S (by omega) (meet_bd hr) rfl rfl
  · rw [sh1_28 e]; exact ask S (by omega) (meet_bd hr) rfl rfl
  · rw [sh1_29 e]; exact ask _ (by omega) (form_bd hr) mk_sfm sfm_len
  · rw [sh1_30 e]; exact ask _ (by omega) (call_bd hr) mk_stk stk_len
  · rw [sh1_31 e]; exact ask _ (by omega) (call_bd hr) mk_stk stk_len
  · obtain ⟨w, _, hr⟩ := hr
    rw [sh1_32 e]; exact ask S (by omega) (meet_bd hr) rfl rfl
  · rw [sh1_33 e]; exact ask S (by omega) (meet_bd hr) rfl rfl
  · rw [sh1_34 e]; exact ask S (by omega) (meet_bd (J := jany (askd told g a.2.2.2) J) hr) rfl rfl
  · rw [sh1_35 e]; exact ask S (by omega) (meet_bd hr) rfl rfl
  · rw [sh1_36 e, wk_a (by omega), wk_a (by omega), Sum.inl.inj hr, sas_len]
    have := mk_sas (q := some j) (S := S)
    omega
end ASPS
