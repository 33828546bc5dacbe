/-! one part more -/
theorem bdA_P2 {P Q : Int} {X : St} {c : Nat} (h : ¬ c = 99) : bdA P X c = bdA Q X c := by
  unfold bdA
  rw [if_neg h, if_neg h]
theorem ctI99 (e : Nat) (h : ctI e = 99) : e = 12 ∨ e = 15 := by
  unfold ctI at h
  simp only [List.mem_cons, List.not_mem_nil, or_false] at h
  repeat' split at h
  all_goals omega
theorem ctL99 (e : Nat) (h : ctL e = 99) : e = 11 := by
  unfold ctL at h
  repeat' split at h
  all_goals omega
theorem AG.incP {lv : Nat} {P : Int} {X Xt : St} (h : AG lv P X Xt) (k : Nat) (hk : (k : Int) = P) (h11 : Xt.2.1 11 k = X.2.1 11 k) (h12 : Xt.1 12 k = X.1 12 k) (h15 : Xt.1 15 k = X.1 15 k) : AG lv (P + 1) X Xt := by
  refine ⟨fun e i hd => ?_, fun e i hd => ?_⟩
  · rcases hd with hd | ⟨a, b, c, d⟩
    · exact h.1 e i (Or.inl hd)
    · by_cases q : ctI e = 99
      · rw [bdA_P q] at d
        by_cases g : i = k
        · subst g
          rcases ctI99 e q with rfl | rfl
          · exact h12
          · exact h15
        · refine h.1 e i (Or.inr ⟨a, b, c, ?_⟩)
          rw [bdA_P q]
          omega
      · refine h.1 e i (Or.inr ⟨a, b, c, ?_⟩)
        rw [bdA_P2 (Q := P) q] at d
        exact d
  · rcases hd with hd | ⟨a, b, c, d⟩
    · exact h.2 e i (Or.inl hd)
    · by_cases q : ctL e = 99
      · rw [bdL_P q] at d
        by_cases g : i = k
        · subst g
          obtain rfl := ctL99 e q
          exact h11
        · refine h.2 e i (Or.inr ⟨a, b, c, ?_⟩)
          rw [bdL_P q]
          omega
      · refine h.2 e i (Or.inr ⟨a, b, c, ?_⟩)
        rw [bdA_P2 (Q := P) q] at d
        exact d
theorem AG.leP {lv : Nat} {P Q : Int} {X Xt : St} (h : AG lv P X Xt) (hQ : Q ≤ P) : AG lv Q X Xt := by
  refine ⟨fun e i hd => ?_, fun e i hd => ?_⟩
  · rcases hd with hd | ⟨a, b, c, d⟩
    · exact h.1 e i (Or.inl hd)
    · refine h.1 e i (Or.inr ⟨a, b, c, ?_⟩)
      by_cases q : ctI e = 99
      · rw [bdA_P q] at d ⊢
        omega
      · rw [bdA_P2 (Q := P) q] at d
        exact d
  · rcases hd with hd | ⟨a, b, c, d⟩
    · exact h.2 e i (Or.inl hd)
    · refine h.2 e i (Or.inr ⟨a, b, c, ?_⟩)
      by_cases q : ctL e = 99
      · rw [bdL_P q] at d ⊢
        omega
      · rw [bdA_P2 (Q := P) q] at d
        exact d
