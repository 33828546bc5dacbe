/-! what agrees as a text begins to be read -/
theorem AG.start {X Xt : St} (hs : ∀ k ∈ [1, 5, 9, 13, 15, 18, 19], Xt.1 0 k = X.1 0 k) (ht : ∀ i : Nat, (i : Int) < (X.1 0 1).toInt → Xt.1 2 i = X.1 2 i) (h13 : (X.1 0 13).toInt ≤ 0) (h15 : (X.1 0 15).toInt ≤ 0) (h19 : (X.1 0 19).toInt ≤ 0) : AG 0 0 X Xt := by
  refine ⟨fun e i hd => ?_, fun e i hd => ?_⟩
  · rcases hd with ⟨rfl, hd⟩ | ⟨a, b, c, d⟩
    · rcases hd with hd | hd | hd | hd | hd
      · exact hs i hd
      · exact absurd hd.1 (by decide)
      · exact absurd hd.1 (by decide)
      · exact absurd hd.1 (by decide)
      · exact absurd hd.1 (by decide)
    · by_cases q : ctI e = 99
      · rw [bdA_P q] at d
        omega
      · rw [bdA_n (c := ctI e) ⟨rfl, q⟩] at d
        have hin := ctI_in e b q
        simp only [List.mem_cons, List.not_mem_nil, or_false] at hin
        rcases hin with g | g | g | g | g | g
        · rw [g] at d
          have he : e = 2 := by
            unfold ctI at g
            simp only [List.mem_cons, List.not_mem_nil, or_false] at g
            repeat' split at g
            all_goals omega
          subst he
          exact ht i d
        · rw [g] at d
          omega
        · rw [g] at d
          omega
        · rw [g] at d
          omega
        · rw [g] at c
          exact absurd c (by decide)
        · rw [g] at c
          exact absurd c (by decide)
  · rcases hd with ⟨rfl, hd, -⟩ | ⟨a, b, c, d⟩
    · exact absurd hd (by decide)
    · by_cases q : ctL e = 99
      · rw [bdL_P q] at d
        omega
      · rw [bdL_n (c := ctL e) ⟨rfl, q⟩] at d
        have he : ctL e = 19 ∨ ctL e = 20 := by
          unfold ctL at b q ⊢
          repeat' split at b
          all_goals simp_all
        rcases he with g | g
        · rw [g] at d
          omega
        · rw [g] at c
          exact absurd c (by decide)
theorem KT.zero {X : St} (h13 : (X.1 0 13).toInt = 0) (h15 : (X.1 0 15).toInt = 0) : KT X := ⟨by omega, by omega, fun k hk => by omega⟩
