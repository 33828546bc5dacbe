/-! walks that tell what holds where a function answers -/
def pw {ρ : Type} (F : Option (ρ × St)) (Q : ρ → St → Prop) : Prop := ∀ r X, F = some (r, X) → Q r X
section PW
variable {ρ ρ1 τ : Type} {Q : ρ → St → Prop} {A B : Option (ρ × St)}
theorem pw_ret {r : ρ} {X : St} (h : Q r X) : pw (some (r, X)) Q := by
  intro r1 X1 e
  have e1 := Option.some.inj e
  have e2 : r = r1 := congrArg Prod.fst e1
  have e3 : X = X1 := congrArg Prod.snd e1
  rw [← e2, ← e3]
  exact h
theorem pw_none : pw (none : Option (ρ × St)) Q := fun _ _ e => absurd e.symm (Option.some_ne_none _)
theorem pw_ite {c : Prop} [Decidable c] (h1 : c → pw A Q) (h2 : ¬ c → pw B Q) : pw (if c then A else B) Q := by
  by_cases h : c
  · rw [if_pos h]; exact h1 h
  · rw [if_neg h]; exact h2 h
theorem pw_pos {c : Prop} [Decidable c] (h : c) (g : pw A Q) : pw (if c then A else B) Q := by rw [if_pos h]; exact g
theorem pw_neg {c : Prop} [Decidable c] (h : ¬ c) (g : pw B Q) : pw (if c then A else B) Q := by rw [if_neg h]; exact g
theorem pw_ck {c : Prop} [Decidable c] (h : c → pw A Q) : pw (chk c A) Q := pw_ite (A := A) (B := none) h (fun _ => pw_none)
theorem pw_let {v : τ} {K : τ → Option (ρ × St)} (h : pw (K v) Q) : pw (letV v K) Q := h
theorem pw_eq {v : τ} {K : τ → Option (ρ × St)} (h : ∀ z, z = v → pw (K z) Q) : pw (letV v K) Q := h v rfl
theorem pw_to {v w : τ} {K : τ → Option (ρ × St)} (e : v = w) (h : pw (K w) Q) : pw (letV v K) Q := by
  rw [e]
  exact h
theorem pw_bd {G : Option (ρ1 × St)} {K : ρ1 → St → Option (ρ × St)} {R : ρ1 → St → Prop} (hG : pw G R) (h : ∀ r X, R r X → pw (K r X) Q) : pw (bnd G K) Q := by
  intro r X e
  cases hg : G with
  | none =>
    rw [hg] at e
    exact absurd (show (none : Option (ρ × St)) = some (r, X) from e).symm (Option.some_ne_none _)
  | some p =>
    rw [hg] at e
    exact h p.1 p.2 (hG p.1 p.2 hg) r X e
theorem pw_mono {R : ρ → St → Prop} (hA : pw A R) (h : ∀ r X, R r X → Q r X) : pw A Q := fun r X e => h r X (hA r X e)
theorem pw_and {R : ρ → St → Prop} (hA : pw A R) (hB : pw A Q) : pw A (fun r X => R r X ∧ Q r X) := fun r X e => ⟨hA r X e, hB r X e⟩
theorem ok_pw {R : ρ → St → Prop} (hA : ok A R) (hB : pw A Q) : ok A (fun r X => R r X ∧ Q r X) := by
  obtain ⟨r, X, e, h⟩ := hA
  exact ⟨r, X, e, h, hB r X e⟩
end PW
