/-! a run's end isn't told as 0 within does() -/
def nz {ρ : Type} (F : Option (ρ × St)) : Prop := ∀ r Y, F = some (r, Y) → ¬ (Y.1 0 43).toInt = 0
section NZ
variable {ρ ρ1 τ : Type} {A B : Option (ρ × St)}
theorem nz.none : nz (none : Option (ρ × St)) := fun r Y h => by cases h
theorem nz.ret {r : ρ} {X : St} (h : ¬ (X.1 0 43).toInt = 0) : nz (some (r, X)) := fun r1 Y e => by
  injection e with e
  injection e with _ e
  rw [← e]
  exact h
theorem nz.ite {c : Prop} [Decidable c] (h1 : nz A) (h2 : nz B) : nz (if c then A else B) := by
  by_cases h : c
  · rw [if_pos h]; exact h1
  · rw [if_neg h]; exact h2
theorem nz.ck {c : Prop} [Decidable c] (h : nz A) : nz (chk c A) := nz.ite h nz.none
theorem nz.lt {v : τ} {K : τ → Option (ρ × St)} (h : ∀ z, nz (K z)) : nz (letV v K) := h v
theorem nz.lv {v : τ} {K : τ → Option (ρ × St)} (h : nz (K v)) : nz (letV v K) := h
theorem nz.wr {X : St} {e k : Nat} {v : Int32} {K : St → Option (ρ × St)} (h0 : ¬ (X.1 0 43).toInt = 0) (hn : ¬ (0 = e ∧ 43 = k)) (h : ∀ X1 : St, ¬ (X1.1 0 43).toInt = 0 → nz (K X1)) : nz (letV (wI X e k v) K) := h _ (by rw [wI_ne _ e k v 0 43 hn]; exact h0)
theorem nz.bd {G : Option (ρ1 × St)} {K : ρ1 → St → Option (ρ × St)} (hG : nz G) (h : ∀ r X, ¬ (X.1 0 43).toInt = 0 → nz (K r X)) : nz (bnd G K) := by
  intro r Y e
  cases hg : G with
  | none =>
    rw [hg] at e
    cases e
  | some p =>
    obtain ⟨r1, X1⟩ := p
    rw [hg] at e
    exact h r1 X1 (hG r1 X1 hg) r Y e
end NZ
theorem ok.nz {ρ : Type} {A : Option (ρ × St)} {Q : ρ → St → Prop} (h : ok A Q) (g : nz A) : ok A (fun r Y => Q r Y ∧ ¬ (Y.1 0 43).toInt = 0) := by
  obtain ⟨r, Y, e, q⟩ := h
  exact ⟨r, Y, e, q, g r Y e⟩
theorem z_ends {p1 p2 : Int32} (hp : ¬ p1.toInt = 0) {X : St} (h : ¬ (X.1 0 43).toInt = 0) : nz (f_ends p1 p2 X) := by
  unfold f_ends
  refine nz.lt (fun _ => nz.ite (nz.ret h) ?_)
  refine nz.lv (nz.wr ?_ (by decide) (fun _ hX => nz.ret hX))
  rw [wI_at]
  exact hp
theorem z_in {p0 p1 p2 : Int32} {X : St} (h : ¬ (X.1 0 43).toInt = 0) : nz (f_in p0 p1 p2 X) := by
  unfold f_in
  refine nz.ite ?_ ?_
  · exact nz.ret h
  · refine nz.ite ?_ ?_
    · exact nz.ret h
    · exact nz.ret h
theorem z_kindOf_315 {r212 : Int32 → Int32 → Int32 → Int32 → Int32 → Int32 → St → Option (Int32 × St)} (hr212 : ∀ (q0 q1 q2 q3 q4 q5 : Int32) (X : St), ¬ (X.1 0 43).toInt = 0 → nz (r212 q0 q1 q2 q3 q4 q5 X)) {a1 a2 a3 a4 a6 b0 : Int32} {X : St} (h : ¬ (X.1 0 43).toInt = 0) : nz (f_kindOf_315 r212 a1 a2 a3 a4 a6 b0 X) := by
  unfold f_kindOf_315
  refine nz.lt (fun x21 => ?_)
  exact hr212 _ _ _ _ _ _ _ h
theorem z_kindOf_284 {r212 : Int32 → Int32 → Int32 → Int32 → Int32 → Int32 → St → Option (Int32 × St)} (hr212 : ∀ (q0 q1 q2 q3 q4 q5 : Int32) (X : St), ¬ (X.1 0 43).toInt = 0 → nz (r212 q0 q1 q2 q3 q4 q5 X)) {a1 a2 a3 a4 a5 a6 b0 b1 : Int32} {X : St} (h : ¬ (X.1 0 43).toInt = 0) : nz (f_kindOf_284 r212 a1 a2 a3 a4 a5 a6 b0 b1 X) := by
  unfold f_kindOf_284
  refine nz.ck ?_
  refine nz.wr h (by rintro ⟨a_, -⟩; exact absurd a_ (by decide)) (fun X20 hX20 => ?_)
  refine nz.ite ?_ ?_
  · refine nz.lt (fun x22 => ?_)
    refine nz.lt (fun x23 => ?_)
    refine nz.ck ?_
    refine nz.lt (fun x24 => ?_)
    refine nz.ck ?_
    refine nz.lt (fun x25 => ?_)
    refine nz.lt (fun x26 => ?_)
    exact z_kindOf_315 hr212 hX20
  · exact z_kindOf_315 hr212 hX20
theorem z_kindOf_279 {r212 : Int32 → Int32 → Int32 → Int32 → Int32 → Int32 → St → Option (Int32 × St)} (hr212 : ∀ (q0 q1 q2 q3 q4 q5 : Int32) (X : St), ¬ (X.1 0 43).toInt = 0 → nz (r212 q0 q1 q2 q3 q4 q5 X)) {a1 a2 a3 a4 a5 a6 b0 : Int32} {X : St} (h : ¬ (X.1 0 43).toInt = 0) : nz (f_kindOf_279 r212 a1 a2 a3 a4 a5 a6 b0 X) := by
  unfold f_kindOf_279
  exact z_kindOf_284 hr212 h
theorem z_kindOf_212 (N : Nat) : ∀ (a1 a2 a3 a4 a5 a6 : Int32) (X : St), ¬ (X.1 0 43).toInt = 0 → nz (f_kindOf_212 N a1 a2 a3 a4 a5 a6 X) := by
  induction N with
  | zero => exact fun _ _ _ _ _ _ _ _ => nz.none
  | succ N ih =>
    intro a1 a2 a3 a4 a5 a6 X h
    show nz (f_kindOf_212_s (f_kindOf_212 N) a1 a2 a3 a4 a5 a6 X)
    unfold f_kindOf_212_s
    refine nz.ite ?_ ?_
    · refine nz.ck ?_
      refine nz.wr h (by rintro ⟨a_, -⟩; exact absurd a_ (by decide)) (fun X11 hX11 => ?_)
      exact nz.ret hX11
    · refine nz.lt (fun x12 => ?_)
      refine nz.lt (fun x13 => ?_)
      refine nz.ck ?_
      refine nz.lt (fun x14 => ?_)
      refine nz.ck ?_
      refine nz.wr h (by rintro ⟨a_, -⟩; exact absurd a_ (by decide)) (fun X15 hX15 => ?_)
      refine nz.lt (fun x16 => ?_)
      refine nz.lt (fun x17 => ?_)
      refine nz.wr hX15 (by decide) (fun X18 hX18 => ?_)
      refine nz.ck ?_
      refine nz.lt (fun x19 => ?_)
      refine nz.ite ?_ ?_
      · refine nz.lt (fun x27 => ?_)
        refine nz.ck ?_
        refine nz.lt (fun x28 => ?_)
        refine nz.ck ?_
        refine nz.lt (fun x29 => ?_)
        refine nz.ite ?_ ?_
        · exact z_kindOf_284 ih hX18
        · exact z_kindOf_279 ih hX18
      · exact z_kindOf_279 ih hX18
theorem z_kindOf_207 {a1 a2 a3 a4 b0 : Int32} {X : St} (h : ¬ (X.1 0 43).toInt = 0) : nz (f_kindOf_207 a1 a2 a3 a4 b0 X) := by
  unfold f_kindOf_207
  exact z_kindOf_212 _ _ _ _ _ _ _ _ h
theorem z_kindOf_168 {a1 a2 a3 a4 b0 b1 : Int32} {X : St} (h : ¬ (X.1 0 43).toInt = 0) : nz (f_kindOf_168 a1 a2 a3 a4 b0 b1 X) := by
  unfold f_kindOf_168
  refine nz.ck ?_
  refine nz.wr h (by rintro ⟨a_, -⟩; exact absurd a_ (by decide)) (fun X10 hX10 => ?_)
  refine nz.ite ?_ ?_
  · refine nz.ck ?_
    refine nz.lt (fun x32 => ?_)
    refine nz.ck ?_
    refine nz.lt (fun x33 => ?_)
    refine nz.lt (fun x34 => ?_)
    refine nz.lt (fun x35 => ?_)
    exact z_kindOf_207 hX10
  · refine nz.ite ?_ ?_
    · refine nz.lt (fun x30 => ?_)
      refine nz.lt (fun x31 => ?_)
      exact z_kindOf_207 hX10
    · exact z_kindOf_207 hX10
theorem z_kindOf_95 {r3 : Int32 → Int32 → Int32 → Int32 → St → Option (Int32 × St)} (hr3 : ∀ (q0 q1 q2 q3 : Int32) (X : St), ¬ (X.1 0 43).toInt = 0 → nz (r3 q0 q1 q2 q3 X)) {a1 a2 a3 a4 a5 : Int32} {X : St} (h : ¬ (X.1 0 43).toInt = 0) : nz (f_kindOf_95 r3 a1 a2 a3 a4 a5 X) := by
  unfold f_kindOf_95
  refine nz.ite ?_ ?_
  · refine nz.lt (fun x37 => ?_)
    exact hr3 _ _ _ _ _ h
  · exact nz.ret h
theorem z_kindOf_87 {r3 : Int32 → Int32 → Int32 → Int32 → St → Option (Int32 × St)} {r44 : Int32 → Int32 → Int32 → Int32 → Int32 → Int32 → St → Option (Int32 × St)} (hr3 : ∀ (q0 q1 q2 q3 : Int32) (X : St), ¬ (X.1 0 43).toInt = 0 → nz (r3 q0 q1 q2 q3 X)) (hr44 : ∀ (q0 q1 q2 q3 q4 q5 : Int32) (X : St), ¬ (X.1 0 43).toInt = 0 → nz (r44 q0 q1 q2 q3 q4 q5 X)) {a1 a2 a3 a4 a6 b0 : Int32} {X : St} (h : ¬ (X.1 0 43).toInt = 0) : nz (f_kindOf_87 r3 r44 a1 a2 a3 a4 a6 b0 X) := by
  unfold f_kindOf_87
  refine nz.lt (fun x43 => ?_)
  exact hr44 _ _ _ _ _ _ _ h
theorem z_kindOf_44 {r3 : Int32 → Int32 → Int32 → Int32 → St → Option (Int32 × St)} (hr3 : ∀ (q0 q1 q2 q3 : Int32) (X : St), ¬ (X.1 0 43).toInt = 0 → nz (r3 q0 q1 q2 q3 X)) (N : Nat) : ∀ (a1 a2 a3 a4 a5 a6 : Int32) (X : St), ¬ (X.1 0 43).toInt = 0 → nz (f_kindOf_44 r3 N a1 a2 a3 a4 a5 a6 X) := by
  induction N with
  | zero => exact fun _ _ _ _ _ _ _ _ => nz.none
  | succ N ih =>
    intro a1 a2 a3 a4 a5 a6 X h
    show nz (f_kindOf_44_s r3 (f_kindOf_44 r3 N) a1 a2 a3 a4 a5 a6 X)
    unfold f_kindOf_44_s
    refine nz.ite ?_ ?_
    · exact z_kindOf_95 hr3 h
    · refine nz.ite ?_ ?_
      · exact z_kindOf_95 hr3 h
      · refine nz.ck ?_
        refine nz.lt (fun x38 => ?_)
        refine nz.lt (fun x39 => ?_)
        refine nz.ck ?_
        refine nz.lt (fun x40 => ?_)
        refine nz.lt (fun x41 => ?_)
        refine nz.ck ?_
        refine nz.lt (fun x42 => ?_)
        refine nz.ite ?_ ?_
        · exact z_kindOf_87 hr3 ih h
        · exact z_kindOf_87 hr3 ih h
theorem z_kindOf_39 {r3 : Int32 → Int32 → Int32 → Int32 → St → Option (Int32 × St)} (hr3 : ∀ (q0 q1 q2 q3 : Int32) (X : St), ¬ (X.1 0 43).toInt = 0 → nz (r3 q0 q1 q2 q3 X)) {a1 a2 a3 a4 b0 : Int32} {X : St} (h : ¬ (X.1 0 43).toInt = 0) : nz (f_kindOf_39 r3 a1 a2 a3 a4 b0 X) := by
  unfold f_kindOf_39
  exact z_kindOf_44 hr3 _ _ _ _ _ _ _ _ h
theorem z_kindOf_38 {r3 : Int32 → Int32 → Int32 → Int32 → St → Option (Int32 × St)} (hr3 : ∀ (q0 q1 q2 q3 : Int32) (X : St), ¬ (X.1 0 43).toInt = 0 → nz (r3 q0 q1 q2 q3 X)) {a1 a2 a3 a4 : Int32} {X : St} (h : ¬ (X.1 0 43).toInt = 0) : nz (f_kindOf_38 r3 a1 a2 a3 a4 X) := by
  unfold f_kindOf_38
  exact z_kindOf_39 hr3 h
theorem z_kindOf_3 (N : Nat) : ∀ (a1 a2 a3 a4 : Int32) (X : St), ¬ (X.1 0 43).toInt = 0 → nz (f_kindOf_3 N a1 a2 a3 a4 X) := by
  induction N with
  | zero => exact fun _ _ _ _ _ _ => nz.none
  | succ N ih =>
    intro a1 a2 a3 a4 X h
    show nz (f_kindOf_3_s (f_kindOf_3 N) a1 a2 a3 a4 X)
    unfold f_kindOf_3_s
    refine nz.lt (fun x1 => ?_)
    refine nz.ite ?_ ?_
    · refine nz.lt (fun x2 => ?_)
      refine nz.lt (fun x3 => ?_)
      refine nz.lt (fun x4 => ?_)
      refine nz.wr h (by decide) (fun X5 hX5 => ?_)
      refine nz.ck ?_
      refine nz.wr hX5 (by rintro ⟨a_, -⟩; exact absurd a_ (by decide)) (fun X6 hX6 => ?_)
      refine nz.ck ?_
      refine nz.wr hX6 (by rintro ⟨a_, -⟩; exact absurd a_ (by decide)) (fun X7 hX7 => ?_)
      refine nz.lt (fun x8 => ?_)
      refine nz.ck ?_
      refine nz.wr hX7 (by rintro ⟨a_, -⟩; exact absurd a_ (by decide)) (fun X9 hX9 => ?_)
      refine nz.ite ?_ ?_
      · exact z_kindOf_168 hX9
      · exact z_kindOf_168 hX9
    · refine nz.ck ?_
      refine nz.lt (fun x36 => ?_)
      refine nz.ite ?_ ?_
      · refine nz.ck ?_
        refine nz.lt (fun x44 => ?_)
        refine nz.ite ?_ ?_
        · exact z_kindOf_39 ih h
        · exact z_kindOf_38 ih h
      · exact z_kindOf_38 ih h
theorem z_kindOf {p1 p2 p3 : Int32} {X : St} (h : ¬ (X.1 0 43).toInt = 0) : nz (f_kindOf p1 p2 p3 X) := by
  unfold f_kindOf
  exact z_kindOf_3 _ _ _ _ _ _ h
theorem z_rowOf {p1 : Int32} {X : St} (h : ¬ (X.1 0 43).toInt = 0) : nz (f_rowOf p1 X) := by
  unfold f_rowOf
  refine nz.ck ?_
  refine nz.wr h (by rintro ⟨a_, -⟩; exact absurd a_ (by decide)) (fun X1 hX1 => ?_)
  refine nz.bd (z_kindOf hX1) (fun x2 X3 hX3 => ?_)
  exact nz.ret hX3
theorem z_anyFunction_2 (N : Nat) : ∀ (a1 a2 : Int32) (X : St), ¬ (X.1 0 43).toInt = 0 → nz (f_anyFunction_2 N a1 a2 X) := by
  induction N with
  | zero => exact fun _ _ _ _ => nz.none
  | succ N ih =>
    intro a1 a2 X h
    show nz (f_anyFunction_2_s (f_anyFunction_2 N) a1 a2 X)
    unfold f_anyFunction_2_s
    refine nz.ite ?_ ?_
    · refine nz.lt (fun x1 => ?_)
      refine nz.bd (z_kindOf h) (fun x2 X3 hX3 => ?_)
      exact nz.ret hX3
    · refine nz.lt (fun x4 => ?_)
      refine nz.ck ?_
      refine nz.wr h (by rintro ⟨a_, -⟩; exact absurd a_ (by decide)) (fun X5 hX5 => ?_)
      refine nz.lt (fun x6 => ?_)
      exact ih _ _ _ hX5
theorem z_anyFunction {p1 : Int32} {X : St} (h : ¬ (X.1 0 43).toInt = 0) : nz (f_anyFunction p1 X) := by
  unfold f_anyFunction
  exact z_anyFunction_2 _ _ _ _ h
theorem z_elementOf {p1 : Int32} {X : St} (h : ¬ (X.1 0 43).toInt = 0) : nz (f_elementOf p1 X) := by
  unfold f_elementOf
  refine nz.ck ?_
  refine nz.lt (fun x1 => ?_)
  refine nz.ck ?_
  refine nz.lt (fun x2 => ?_)
  exact nz.ret h
theorem z_resultOf {p1 : Int32} {X : St} (h : ¬ (X.1 0 43).toInt = 0) : nz (f_resultOf p1 X) := by
  unfold f_resultOf
  refine nz.ck ?_
  refine nz.lt (fun x1 => ?_)
  refine nz.ck ?_
  refine nz.lt (fun x2 => ?_)
  refine nz.lt (fun x3 => ?_)
  refine nz.lt (fun x4 => ?_)
  refine nz.ck ?_
  refine nz.lt (fun x5 => ?_)
  exact nz.ret h
theorem z_paramOf {p1 p2 : Int32} {X : St} (h : ¬ (X.1 0 43).toInt = 0) : nz (f_paramOf p1 p2 X) := by
  unfold f_paramOf
  refine nz.ck ?_
  refine nz.lt (fun x1 => ?_)
  refine nz.lt (fun x2 => ?_)
  refine nz.ck ?_
  refine nz.lt (fun x3 => ?_)
  exact nz.ret h
theorem z_isOn {X : St} (h : ¬ (X.1 0 43).toInt = 0) : nz (f_isOn X) := by
  unfold f_isOn
  refine nz.lt (fun x1 => ?_)
  refine nz.ite ?_ ?_
  · exact nz.ret h
  · exact nz.ret h
theorem z_value {p1 p2 : Int32} {X : St} (h : ¬ (X.1 0 43).toInt = 0) : nz (f_value p1 p2 X) := by
  unfold f_value
  refine nz.lt (fun x1 => ?_)
  refine nz.ck ?_
  refine nz.wr h (by rintro ⟨a_, -⟩; exact absurd a_ (by decide)) (fun X2 hX2 => ?_)
  refine nz.lt (fun x3 => ?_)
  refine nz.ck ?_
  refine nz.wr hX2 (by rintro ⟨a_, -⟩; exact absurd a_ (by decide)) (fun X4 hX4 => ?_)
  refine nz.lt (fun x5 => ?_)
  refine nz.lt (fun x6 => ?_)
  refine nz.wr hX4 (by decide) (fun X7 hX7 => ?_)
  exact nz.ret hX7
theorem z_within_44 {r2 : Int32 → Int32 → St → Option (Int32 × St)} (hr2 : ∀ (q0 q1 : Int32) (X : St), ¬ (X.1 0 43).toInt = 0 → nz (r2 q0 q1 X)) {a1 b0 : Int32} {X : St} (h : ¬ (X.1 0 43).toInt = 0) : nz (f_within_44 r2 a1 b0 X) := by
  unfold f_within_44
  refine nz.ck ?_
  refine nz.lt (fun x2 => ?_)
  exact hr2 _ _ _ h
theorem z_within_27 {r2 : Int32 → Int32 → St → Option (Int32 × St)} (hr2 : ∀ (q0 q1 : Int32) (X : St), ¬ (X.1 0 43).toInt = 0 → nz (r2 q0 q1 X)) {a1 a3 : Int32} {X : St} (h : ¬ (X.1 0 43).toInt = 0) : nz (f_within_27 r2 a1 a3 X) := by
  unfold f_within_27
  refine nz.ite ?_ ?_
  · exact z_within_44 hr2 h
  · refine nz.lt (fun x1 => ?_)
    exact z_within_44 hr2 h
theorem z_within_16 {r2 : Int32 → Int32 → St → Option (Int32 × St)} (hr2 : ∀ (q0 q1 : Int32) (X : St), ¬ (X.1 0 43).toInt = 0 → nz (r2 q0 q1 X)) {a1 a3 : Int32} {X : St} (h : ¬ (X.1 0 43).toInt = 0) : nz (f_within_16 r2 a1 a3 X) := by
  unfold f_within_16
  refine nz.ite ?_ ?_
  · refine nz.ite ?_ ?_
    · exact nz.ret h
    · exact z_within_27 hr2 h
  · exact nz.ret h
theorem z_within_2 (N : Nat) : ∀ (a1 a3 : Int32) (X : St), ¬ (X.1 0 43).toInt = 0 → nz (f_within_2 N a1 a3 X) := by
  induction N with
  | zero => exact fun _ _ _ _ => nz.none
  | succ N ih =>
    intro a1 a3 X h
    show nz (f_within_2_s (f_within_2 N) a1 a3 X)
    unfold f_within_2_s
    refine nz.ite ?_ ?_
    · refine nz.ck ?_
      refine nz.lt (fun x3 => ?_)
      refine nz.ite ?_ ?_
      · exact z_within_16 ih h
      · exact z_within_27 ih h
    · exact z_within_16 ih h
theorem z_within {p1 p2 : Int32} {X : St} (h : ¬ (X.1 0 43).toInt = 0) : nz (f_within p1 p2 X) := by
  unfold f_within
  exact z_within_2 _ _ _ _ h
theorem z_deep {p1 p2 : Int32} {X : St} (h : ¬ (X.1 0 43).toInt = 0) : nz (f_deep p1 p2 X) := by
  unfold f_deep
  refine nz.ite ?_ ?_
  · refine nz.ck ?_
    refine nz.lt (fun x3 => ?_)
    refine nz.ite ?_ ?_
    · exact nz.ret h
    · refine nz.ck ?_
      refine nz.lt (fun x4 => ?_)
      exact nz.ret h
  · refine nz.ite ?_ ?_
    · refine nz.ite ?_ ?_
      · exact nz.ret h
      · refine nz.lt (fun x1 => ?_)
        refine nz.ck ?_
        refine nz.lt (fun x2 => ?_)
        exact nz.ret h
    · exact nz.ret h
theorem z_isOfSort {p1 p2 : Int32} {X : St} (h : ¬ (X.1 0 43).toInt = 0) : nz (f_isOfSort p1 p2 X) := by
  unfold f_isOfSort
  refine nz.ck ?_
  refine nz.lt (fun x1 => ?_)
  refine nz.ck ?_
  refine nz.lt (fun x2 => ?_)
  refine nz.ite ?_ ?_
  · refine nz.ite ?_ ?_
    · exact nz.ret h
    · exact nz.ret h
  · refine nz.ite ?_ ?_
    · refine nz.ite ?_ ?_
      · exact nz.ret h
      · exact nz.ret h
    · refine nz.ite ?_ ?_
      · refine nz.ite ?_ ?_
        · exact nz.ret h
        · exact nz.ret h
      · refine nz.ite ?_ ?_
        · refine nz.ck ?_
          refine nz.lt (fun x6 => ?_)
          refine nz.bd (z_within h) (fun x7 X8 hX8 => ?_)
          refine nz.ck ?_
          refine nz.lt (fun x9 => ?_)
          refine nz.ck ?_
          refine nz.lt (fun x10 => ?_)
          refine nz.lt (fun x11 => ?_)
          refine nz.ite ?_ ?_
          · exact nz.ret hX8
          · exact nz.ret hX8
        · exact nz.ret h
theorem z_wraps_39 {a6 : Int32} {X : St} (h : ¬ (X.1 0 43).toInt = 0) : nz (f_wraps_39 a6 X) := by
  unfold f_wraps_39
  refine nz.bd (z_ends (by decide) h) (fun _ X6 hX6 => ?_)
  exact nz.ret hX6
theorem z_wraps_164 {b0 b1 : Int32} {X : St} (h : ¬ (X.1 0 43).toInt = 0) : nz (f_wraps_164 b0 b1 X) := by
  unfold f_wraps_164
  refine nz.ck ?_
  refine nz.wr h (by rintro ⟨a_, -⟩; exact absurd a_ (by decide)) (fun X27 hX27 => ?_)
  refine nz.lt (fun x28 => ?_)
  refine nz.lt (fun x29 => ?_)
  refine nz.wr hX27 (by decide) (fun X30 hX30 => ?_)
  refine nz.lt (fun x31 => ?_)
  refine nz.lt (fun x32 => ?_)
  refine nz.wr hX30 (by decide) (fun X33 hX33 => ?_)
  exact nz.ret hX33
theorem z_wraps {p1 p2 p3 p4 p5 p6 : Int32} {X : St} (h : ¬ (X.1 0 43).toInt = 0) : nz (f_wraps p1 p2 p3 p4 p5 p6 X) := by
  unfold f_wraps
  refine nz.ck ?_
  refine nz.lt (fun x1 => ?_)
  refine nz.ck ?_
  refine nz.lt (fun x2 => ?_)
  refine nz.bd (z_deep h) (fun x3 X4 hX4 => ?_)
  refine nz.lt (fun x5 => ?_)
  refine nz.ite ?_ ?_
  · exact z_wraps_39 hX4
  · refine nz.ite ?_ ?_
    · exact z_wraps_39 hX4
    · refine nz.lt (fun x7 => ?_)
      refine nz.ck ?_
      refine nz.wr hX4 (by rintro ⟨a_, -⟩; exact absurd a_ (by decide)) (fun X8 hX8 => ?_)
      refine nz.lt (fun x9 => ?_)
      refine nz.ck ?_
      refine nz.lt (fun x10 => ?_)
      refine nz.ck ?_
      refine nz.wr hX8 (by rintro ⟨a_, -⟩; exact absurd a_ (by decide)) (fun X11 hX11 => ?_)
      refine nz.lt (fun x12 => ?_)
      refine nz.ck ?_
      refine nz.wr hX11 (by rintro ⟨a_, -⟩; exact absurd a_ (by decide)) (fun X13 hX13 => ?_)
      refine nz.lt (fun x14 => ?_)
      refine nz.ck ?_
      refine nz.wr hX13 (by rintro ⟨a_, -⟩; exact absurd a_ (by decide)) (fun X15 hX15 => ?_)
      refine nz.lt (fun x16 => ?_)
      refine nz.ck ?_
      refine nz.wr hX15 (by rintro ⟨a_, -⟩; exact absurd a_ (by decide)) (fun X17 hX17 => ?_)
      refine nz.lt (fun x18 => ?_)
      refine nz.ck ?_
      refine nz.wr hX17 (by rintro ⟨a_, -⟩; exact absurd a_ (by decide)) (fun X19 hX19 => ?_)
      refine nz.lt (fun x20 => ?_)
      refine nz.ck ?_
      refine nz.wr hX19 (by rintro ⟨a_, -⟩; exact absurd a_ (by decide)) (fun X21 hX21 => ?_)
      refine nz.lt (fun x22 => ?_)
      refine nz.lt (fun x23 => ?_)
      refine nz.ck ?_
      refine nz.wr hX21 (by rintro ⟨a_, -⟩; exact absurd a_ (by decide)) (fun X24 hX24 => ?_)
      refine nz.ite ?_ ?_
      · refine nz.lt (fun x34 => ?_)
        exact z_wraps_164 hX24
      · refine nz.lt (fun x25 => ?_)
        refine nz.lt (fun x26 => ?_)
        exact z_wraps_164 hX24
theorem z_asks_217 {r9 : Int32 → Int32 → Int32 → Int32 → Int32 → Int32 → Int32 → St → Option (Int32 × St)} (hr9 : ∀ (q0 q1 q2 q3 q4 q5 q6 : Int32) (X : St), ¬ (X.1 0 43).toInt = 0 → nz (r9 q0 q1 q2 q3 q4 q5 q6 X)) {a1 a4 a5 a6 a8 a9 b0 : Int32} {X : St} (h : ¬ (X.1 0 43).toInt = 0) : nz (f_asks_217 r9 a1 a4 a5 a6 a8 a9 b0 X) := by
  unfold f_asks_217
  exact hr9 _ _ _ _ _ _ _ _ h
theorem z_asks_167 {r9 : Int32 → Int32 → Int32 → Int32 → Int32 → Int32 → Int32 → St → Option (Int32 × St)} (hr9 : ∀ (q0 q1 q2 q3 q4 q5 q6 : Int32) (X : St), ¬ (X.1 0 43).toInt = 0 → nz (r9 q0 q1 q2 q3 q4 q5 q6 X)) {a1 a4 a5 a6 a7 a8 b0 : Int32} {X : St} (h : ¬ (X.1 0 43).toInt = 0) : nz (f_asks_167 r9 a1 a4 a5 a6 a7 a8 b0 X) := by
  unfold f_asks_167
  refine nz.ck ?_
  refine nz.lt (fun x10 => ?_)
  refine nz.ite ?_ ?_
  · refine nz.bd (z_rowOf h) (fun x16 X17 hX17 => ?_)
    exact z_asks_217 hr9 hX17
  · refine nz.ck ?_
    refine nz.lt (fun x11 => ?_)
    refine nz.ite ?_ ?_
    · refine nz.ck ?_
      refine nz.lt (fun x12 => ?_)
      refine nz.lt (fun x13 => ?_)
      refine nz.bd (z_anyFunction h) (fun x14 X15 hX15 => ?_)
      exact z_asks_217 hr9 hX15
    · exact z_asks_217 hr9 h
theorem z_asks_166 {r9 : Int32 → Int32 → Int32 → Int32 → Int32 → Int32 → Int32 → St → Option (Int32 × St)} (hr9 : ∀ (q0 q1 q2 q3 q4 q5 q6 : Int32) (X : St), ¬ (X.1 0 43).toInt = 0 → nz (r9 q0 q1 q2 q3 q4 q5 q6 X)) {a1 a4 a5 a6 a7 a8 : Int32} {X : St} (h : ¬ (X.1 0 43).toInt = 0) : nz (f_asks_166 r9 a1 a4 a5 a6 a7 a8 X) := by
  unfold f_asks_166
  exact z_asks_167 hr9 h
theorem z_asks_144 {r9 : Int32 → Int32 → Int32 → Int32 → Int32 → Int32 → Int32 → St → Option (Int32 × St)} (hr9 : ∀ (q0 q1 q2 q3 q4 q5 q6 : Int32) (X : St), ¬ (X.1 0 43).toInt = 0 → nz (r9 q0 q1 q2 q3 q4 q5 q6 X)) {a1 a4 a5 a6 a7 a8 : Int32} {X : St} (h : ¬ (X.1 0 43).toInt = 0) : nz (f_asks_144 r9 a1 a4 a5 a6 a7 a8 X) := by
  unfold f_asks_144
  refine nz.ck ?_
  refine nz.lt (fun x9 => ?_)
  refine nz.ite ?_ ?_
  · exact z_asks_166 hr9 h
  · refine nz.bd (z_isOn h) (fun x18 X19 hX19 => ?_)
    refine nz.ite ?_ ?_
    · exact z_asks_166 hr9 hX19
    · exact z_asks_167 hr9 hX19
theorem z_asks_110 {r9 : Int32 → Int32 → Int32 → Int32 → Int32 → Int32 → Int32 → St → Option (Int32 × St)} (hr9 : ∀ (q0 q1 q2 q3 q4 q5 q6 : Int32) (X : St), ¬ (X.1 0 43).toInt = 0 → nz (r9 q0 q1 q2 q3 q4 q5 q6 X)) {a1 a4 a5 a6 a7 a9 b0 : Int32} {X : St} (h : ¬ (X.1 0 43).toInt = 0) : nz (f_asks_110 r9 a1 a4 a5 a6 a7 a9 b0 X) := by
  unfold f_asks_110
  exact hr9 _ _ _ _ _ _ _ _ h
theorem z_asks_60 {r9 : Int32 → Int32 → Int32 → Int32 → Int32 → Int32 → Int32 → St → Option (Int32 × St)} (hr9 : ∀ (q0 q1 q2 q3 q4 q5 q6 : Int32) (X : St), ¬ (X.1 0 43).toInt = 0 → nz (r9 q0 q1 q2 q3 q4 q5 q6 X)) {a1 a4 a5 a6 a7 a8 b0 : Int32} {X : St} (h : ¬ (X.1 0 43).toInt = 0) : nz (f_asks_60 r9 a1 a4 a5 a6 a7 a8 b0 X) := by
  unfold f_asks_60
  refine nz.ck ?_
  refine nz.lt (fun x23 => ?_)
  refine nz.ite ?_ ?_
  · refine nz.bd (z_rowOf h) (fun x29 X30 hX30 => ?_)
    exact z_asks_110 hr9 hX30
  · refine nz.ck ?_
    refine nz.lt (fun x24 => ?_)
    refine nz.ite ?_ ?_
    · refine nz.ck ?_
      refine nz.lt (fun x25 => ?_)
      refine nz.lt (fun x26 => ?_)
      refine nz.bd (z_anyFunction h) (fun x27 X28 hX28 => ?_)
      exact z_asks_110 hr9 hX28
    · exact z_asks_110 hr9 h
theorem z_asks_9 (N : Nat) : ∀ (a1 a4 a5 a6 a7 a8 a9 : Int32) (X : St), ¬ (X.1 0 43).toInt = 0 → nz (f_asks_9 N a1 a4 a5 a6 a7 a8 a9 X) := by
  induction N with
  | zero => exact fun _ _ _ _ _ _ _ _ _ => nz.none
  | succ N ih =>
    intro a1 a4 a5 a6 a7 a8 a9 X h
    show nz (f_asks_9_s (f_asks_9 N) a1 a4 a5 a6 a7 a8 a9 X)
    unfold f_asks_9_s
    refine nz.ite ?_ ?_
    · exact nz.ret h
    · refine nz.ite ?_ ?_
      · exact nz.ret h
      · refine nz.lt (fun x1 => ?_)
        refine nz.lt (fun x2 => ?_)
        refine nz.ck ?_
        refine nz.lt (fun x3 => ?_)
        refine nz.lt (fun x4 => ?_)
        refine nz.ck ?_
        refine nz.wr h (by rintro ⟨a_, -⟩; exact absurd a_ (by decide)) (fun X5 hX5 => ?_)
        refine nz.ite ?_ ?_
        · refine nz.ck ?_
          refine nz.lt (fun x22 => ?_)
          refine nz.ite ?_ ?_
          · exact z_asks_60 ih hX5
          · exact z_asks_60 ih hX5
        · refine nz.ite ?_ ?_
          · refine nz.bd (z_isOfSort hX5) (fun x7 X8 hX8 => ?_)
            refine nz.ite ?_ ?_
            · refine nz.wr hX8 (by decide) (fun X20 hX20 => ?_)
              refine nz.bd (z_ends (by decide) hX20) (fun _ X21 hX21 => ?_)
              exact z_asks_144 ih hX21
            · exact z_asks_144 ih hX8
          · refine nz.bd (z_wraps hX5) (fun _ X6 hX6 => ?_)
            exact ih _ _ _ _ _ _ _ _ hX6
theorem z_asks {p1 p2 p3 p4 p5 p6 : Int32} {X : St} (h : ¬ (X.1 0 43).toInt = 0) : nz (f_asks p1 p2 p3 p4 p5 p6 X) := by
  unfold f_asks
  exact z_asks_9 _ _ _ _ _ _ _ _ _ h
theorem z_row_22 {a2 : Int32} {X : St} (h : ¬ (X.1 0 43).toInt = 0) : nz (f_row_22 a2 X) := by
  unfold f_row_22
  refine nz.bd (z_ends (by decide) h) (fun _ X3 hX3 => ?_)
  exact nz.ret hX3
theorem z_row {p1 p2 : Int32} {X : St} (h : ¬ (X.1 0 43).toInt = 0) : nz (f_row p1 p2 X) := by
  unfold f_row
  refine nz.lt (fun x1 => ?_)
  refine nz.lt (fun x2 => ?_)
  refine nz.ite ?_ ?_
  · exact z_row_22 h
  · refine nz.lt (fun x4 => ?_)
    refine nz.ite ?_ ?_
    · exact z_row_22 h
    · refine nz.lt (fun x5 => ?_)
      refine nz.ck ?_
      refine nz.wr h (by rintro ⟨a_, -⟩; exact absurd a_ (by decide)) (fun X6 hX6 => ?_)
      refine nz.lt (fun x7 => ?_)
      refine nz.lt (fun x8 => ?_)
      refine nz.ck ?_
      refine nz.wr hX6 (by rintro ⟨a_, -⟩; exact absurd a_ (by decide)) (fun X9 hX9 => ?_)
      refine nz.lt (fun x10 => ?_)
      refine nz.ck ?_
      refine nz.wr hX9 (by rintro ⟨a_, -⟩; exact absurd a_ (by decide)) (fun X11 hX11 => ?_)
      refine nz.lt (fun x12 => ?_)
      refine nz.lt (fun x13 => ?_)
      refine nz.wr hX11 (by decide) (fun X14 hX14 => ?_)
      refine nz.lt (fun x15 => ?_)
      refine nz.lt (fun x16 => ?_)
      refine nz.wr hX14 (by decide) (fun X17 hX17 => ?_)
      refine nz.lt (fun x18 => ?_)
      refine nz.lt (fun x19 => ?_)
      refine nz.wr hX17 (by decide) (fun X20 hX20 => ?_)
      refine nz.lt (fun x21 => ?_)
      refine nz.lt (fun x22 => ?_)
      exact nz.ret hX20
theorem z_calls_92 (N : Nat) : ∀ (a4 : Int32) (X : St), ¬ (X.1 0 43).toInt = 0 → nz (f_calls_92 N a4 X) := by
  induction N with
  | zero => exact fun _ _ _ => nz.none
  | succ N ih =>
    intro a4 X h
    show nz (f_calls_92_s (f_calls_92 N) a4 X)
    unfold f_calls_92_s
    refine nz.ite ?_ ?_
    · exact nz.ret h
    · refine nz.lt (fun x21 => ?_)
      refine nz.lt (fun x22 => ?_)
      refine nz.wr h (by decide) (fun X23 hX23 => ?_)
      refine nz.lt (fun x24 => ?_)
      refine nz.lt (fun x25 => ?_)
      refine nz.lt (fun x26 => ?_)
      refine nz.ck ?_
      refine nz.lt (fun x27 => ?_)
      refine nz.ck ?_
      refine nz.wr hX23 (by rintro ⟨a_, -⟩; exact absurd a_ (by decide)) (fun X28 hX28 => ?_)
      refine nz.lt (fun x29 => ?_)
      refine nz.lt (fun x30 => ?_)
      refine nz.lt (fun x31 => ?_)
      refine nz.ck ?_
      refine nz.lt (fun x32 => ?_)
      refine nz.ck ?_
      refine nz.wr hX28 (by rintro ⟨a_, -⟩; exact absurd a_ (by decide)) (fun X33 hX33 => ?_)
      refine nz.lt (fun x34 => ?_)
      exact ih _ _ hX33
theorem z_calls {p1 p2 p3 : Int32} {X : St} (h : ¬ (X.1 0 43).toInt = 0) : nz (f_calls p1 p2 p3 X) := by
  unfold f_calls
  refine nz.lt (fun x1 => ?_)
  refine nz.ite ?_ ?_
  · refine nz.bd (z_ends (by decide) h) (fun _ X35 hX35 => ?_)
    exact nz.ret hX35
  · refine nz.lt (fun x2 => ?_)
    refine nz.lt (fun x3 => ?_)
    refine nz.wr h (by decide) (fun X4 hX4 => ?_)
    refine nz.lt (fun x5 => ?_)
    refine nz.ck ?_
    refine nz.wr hX4 (by rintro ⟨a_, -⟩; exact absurd a_ (by decide)) (fun X6 hX6 => ?_)
    refine nz.lt (fun x7 => ?_)
    refine nz.ck ?_
    refine nz.wr hX6 (by rintro ⟨a_, -⟩; exact absurd a_ (by decide)) (fun X8 hX8 => ?_)
    refine nz.lt (fun x9 => ?_)
    refine nz.lt (fun x10 => ?_)
    refine nz.ck ?_
    refine nz.wr hX8 (by rintro ⟨a_, -⟩; exact absurd a_ (by decide)) (fun X11 hX11 => ?_)
    refine nz.lt (fun x12 => ?_)
    refine nz.lt (fun x13 => ?_)
    refine nz.wr hX11 (by decide) (fun X14 hX14 => ?_)
    refine nz.lt (fun x15 => ?_)
    refine nz.lt (fun x16 => ?_)
    refine nz.lt (fun x17 => ?_)
    refine nz.wr hX14 (by decide) (fun X18 hX18 => ?_)
    refine nz.ck ?_
    refine nz.lt (fun x19 => ?_)
    refine nz.lt (fun x20 => ?_)
    exact z_calls_92 _ _ _ hX18
theorem z_guarded {p1 p2 p3 : Int32} {X : St} (h : ¬ (X.1 0 43).toInt = 0) : nz (f_guarded p1 p2 p3 X) := by
  unfold f_guarded
  refine nz.lt (fun x1 => ?_)
  refine nz.ite ?_ ?_
  · refine nz.ite ?_ ?_
    · exact nz.ret h
    · refine nz.lt (fun x2 => ?_)
      refine nz.lt (fun x3 => ?_)
      refine nz.ck ?_
      refine nz.lt (fun x4 => ?_)
      refine nz.ite ?_ ?_
      · exact nz.ret h
      · refine nz.bd (z_ends (by decide) h) (fun _ X5 hX5 => ?_)
        exact nz.ret hX5
  · refine nz.ck ?_
    refine nz.lt (fun x6 => ?_)
    refine nz.ite ?_ ?_
    · exact nz.ret h
    · refine nz.lt (fun x7 => ?_)
      refine nz.lt (fun x8 => ?_)
      refine nz.ck ?_
      refine nz.lt (fun x9 => ?_)
      refine nz.ck ?_
      refine nz.lt (fun x10 => ?_)
      refine nz.ck ?_
      refine nz.lt (fun x11 => ?_)
      refine nz.ck ?_
      refine nz.lt (fun x12 => ?_)
      refine nz.ck ?_
      refine nz.lt (fun x13 => ?_)
      refine nz.bd (z_asks h) (fun _ X14 hX14 => ?_)
      exact nz.ret hX14
theorem z_call_220 {a5 b0 : Int32} {X : St} (h : ¬ (X.1 0 43).toInt = 0) : nz (f_call_220 a5 b0 X) := by
  unfold f_call_220
  refine nz.wr h (by decide) (fun X16 hX16 => ?_)
  refine nz.ck ?_
  refine nz.lt (fun x17 => ?_)
  exact nz.ret hX16
theorem z_call_166 {a1 a2 a4 : Int32} {X : St} (h : ¬ (X.1 0 43).toInt = 0) : nz (f_call_166 a1 a2 a4 X) := by
  unfold f_call_166
  refine nz.bd (z_isOn h) (fun x7 X8 hX8 => ?_)
  refine nz.ite ?_ ?_
  · exact nz.ret hX8
  · refine nz.ck ?_
    refine nz.lt (fun x9 => ?_)
    refine nz.lt (fun x10 => ?_)
    refine nz.ck ?_
    refine nz.lt (fun x11 => ?_)
    refine nz.bd (z_calls hX8) (fun _ X12 hX12 => ?_)
    refine nz.bd (z_isOn hX12) (fun x13 X14 hX14 => ?_)
    refine nz.ite ?_ ?_
    · refine nz.lt (fun x15 => ?_)
      exact z_call_220 hX14
    · refine nz.lt (fun x18 => ?_)
      refine nz.lt (fun x19 => ?_)
      exact z_call_220 hX14
theorem z_call_128 {r17 : Int32 → Int32 → Int32 → Int32 → St → Option (Int32 × St)} (hr17 : ∀ (q0 q1 q2 q3 : Int32) (X : St), ¬ (X.1 0 43).toInt = 0 → nz (r17 q0 q1 q2 q3 X)) {a1 a2 a3 a4 a5 : Int32} {X : St} (h : ¬ (X.1 0 43).toInt = 0) : nz (f_call_128 r17 a1 a2 a3 a4 a5 X) := by
  unfold f_call_128
  refine nz.lt (fun x23 => ?_)
  refine nz.ck ?_
  refine nz.wr h (by rintro ⟨a_, -⟩; exact absurd a_ (by decide)) (fun X24 hX24 => ?_)
  refine nz.lt (fun x25 => ?_)
  refine nz.lt (fun x26 => ?_)
  refine nz.wr hX24 (by decide) (fun X27 hX27 => ?_)
  refine nz.ck ?_
  refine nz.lt (fun x28 => ?_)
  refine nz.ck ?_
  refine nz.wr hX27 (by rintro ⟨a_, -⟩; exact absurd a_ (by decide)) (fun X29 hX29 => ?_)
  exact hr17 _ _ _ _ _ hX29
theorem z_call_51 {r17 : Int32 → Int32 → Int32 → Int32 → St → Option (Int32 × St)} (hr17 : ∀ (q0 q1 q2 q3 : Int32) (X : St), ¬ (X.1 0 43).toInt = 0 → nz (r17 q0 q1 q2 q3 X)) (N : Nat) : ∀ (a1 a2 a3 a4 a5 a6 : Int32) (X : St), ¬ (X.1 0 43).toInt = 0 → nz (f_call_51 r17 N a1 a2 a3 a4 a5 a6 X) := by
  induction N with
  | zero => exact fun _ _ _ _ _ _ _ _ => nz.none
  | succ N ih =>
    intro a1 a2 a3 a4 a5 a6 X h
    show nz (f_call_51_s r17 (f_call_51 r17 N) a1 a2 a3 a4 a5 a6 X)
    unfold f_call_51_s
    refine nz.ite ?_ ?_
    · exact z_call_128 hr17 h
    · refine nz.bd (z_isOn h) (fun x30 X31 hX31 => ?_)
      refine nz.ite ?_ ?_
      · exact z_call_128 hr17 hX31
      · refine nz.lt (fun x32 => ?_)
        refine nz.lt (fun x33 => ?_)
        refine nz.ck ?_
        refine nz.lt (fun x34 => ?_)
        refine nz.bd (z_paramOf hX31) (fun x35 X36 hX36 => ?_)
        refine nz.ck ?_
        refine nz.lt (fun x37 => ?_)
        refine nz.bd (z_paramOf hX36) (fun x38 X39 hX39 => ?_)
        refine nz.ck ?_
        refine nz.lt (fun x40 => ?_)
        refine nz.ck ?_
        refine nz.lt (fun x41 => ?_)
        refine nz.ck ?_
        refine nz.lt (fun x42 => ?_)
        refine nz.bd (z_asks hX39) (fun _ X43 hX43 => ?_)
        refine nz.lt (fun x44 => ?_)
        exact ih _ _ _ _ _ _ _ hX43
theorem z_call_17 (N : Nat) : ∀ (a1 a2 a3 a4 : Int32) (X : St), ¬ (X.1 0 43).toInt = 0 → nz (f_call_17 N a1 a2 a3 a4 X) := by
  induction N with
  | zero => exact fun _ _ _ _ _ _ => nz.none
  | succ N ih =>
    intro a1 a2 a3 a4 X h
    show nz (f_call_17_s (f_call_17 N) a1 a2 a3 a4 X)
    unfold f_call_17_s
    refine nz.bd (z_isOn h) (fun x5 X6 hX6 => ?_)
    refine nz.ite ?_ ?_
    · exact z_call_166 hX6
    · refine nz.ck ?_
      refine nz.lt (fun x20 => ?_)
      refine nz.ite ?_ ?_
      · exact z_call_166 hX6
      · refine nz.ck ?_
        refine nz.lt (fun x21 => ?_)
        refine nz.lt (fun x22 => ?_)
        exact z_call_51 ih _ _ _ _ _ _ _ _ hX6
theorem z_call {p1 p2 : Int32} {X : St} (h : ¬ (X.1 0 43).toInt = 0) : nz (f_call p1 p2 X) := by
  unfold f_call
  refine nz.ck ?_
  refine nz.lt (fun x1 => ?_)
  refine nz.lt (fun x2 => ?_)
  refine nz.lt (fun x3 => ?_)
  refine nz.lt (fun x4 => ?_)
  exact z_call_17 _ _ _ _ _ _ h
theorem z_goesBack_43 (N : Nat) : ∀ (a1 : Int32) (X : St), ¬ (X.1 0 43).toInt = 0 → nz (f_goesBack_43 N a1 X) := by
  induction N with
  | zero => exact fun _ _ _ => nz.none
  | succ N ih =>
    intro a1 X h
    show nz (f_goesBack_43_s (f_goesBack_43 N) a1 X)
    unfold f_goesBack_43_s
    refine nz.bd (z_isOn h) (fun x12 X13 hX13 => ?_)
    refine nz.ite ?_ ?_
    · exact nz.ret hX13
    · refine nz.lt (fun x14 => ?_)
      refine nz.ite ?_ ?_
      · exact nz.ret hX13
      · refine nz.lt (fun x15 => ?_)
        refine nz.lt (fun x16 => ?_)
        refine nz.ck ?_
        refine nz.lt (fun x17 => ?_)
        refine nz.ite ?_ ?_
        · exact nz.ret hX13
        · refine nz.lt (fun x18 => ?_)
          refine nz.lt (fun x19 => ?_)
          refine nz.wr hX13 (by decide) (fun X20 hX20 => ?_)
          refine nz.lt (fun x21 => ?_)
          refine nz.ck ?_
          refine nz.lt (fun x22 => ?_)
          refine nz.lt (fun x23 => ?_)
          refine nz.lt (fun x24 => ?_)
          refine nz.ck ?_
          refine nz.lt (fun x25 => ?_)
          refine nz.bd (z_resultOf hX20) (fun x26 X27 hX27 => ?_)
          refine nz.ck ?_
          refine nz.lt (fun x28 => ?_)
          refine nz.bd (z_resultOf hX27) (fun x29 X30 hX30 => ?_)
          refine nz.ck ?_
          refine nz.lt (fun x31 => ?_)
          refine nz.ck ?_
          refine nz.lt (fun x32 => ?_)
          refine nz.ck ?_
          refine nz.lt (fun x33 => ?_)
          refine nz.bd (z_asks hX30) (fun _ X34 hX34 => ?_)
          exact ih _ _ hX34
theorem z_goesBack {X : St} (h : ¬ (X.1 0 43).toInt = 0) : nz (f_goesBack X) := by
  unfold f_goesBack
  refine nz.lt (fun x1 => ?_)
  refine nz.lt (fun x2 => ?_)
  refine nz.wr h (by decide) (fun X3 hX3 => ?_)
  refine nz.lt (fun x4 => ?_)
  refine nz.ck ?_
  refine nz.lt (fun x5 => ?_)
  refine nz.lt (fun x6 => ?_)
  refine nz.ck ?_
  refine nz.lt (fun x7 => ?_)
  refine nz.wr hX3 (by decide) (fun X8 hX8 => ?_)
  refine nz.lt (fun x9 => ?_)
  refine nz.lt (fun x10 => ?_)
  refine nz.wr hX8 (by decide) (fun X11 hX11 => ?_)
  exact z_goesBack_43 _ _ _ hX11
theorem z_makes_58 (N : Nat) : ∀ (a2 a3 a4 : Int32) (X : St), ¬ (X.1 0 43).toInt = 0 → nz (f_makes_58 N a2 a3 a4 X) := by
  induction N with
  | zero => exact fun _ _ _ _ _ => nz.none
  | succ N ih =>
    intro a2 a3 a4 X h
    show nz (f_makes_58_s (f_makes_58 N) a2 a3 a4 X)
    unfold f_makes_58_s
    refine nz.ite ?_ ?_
    · refine nz.lt (fun x11 => ?_)
      refine nz.lt (fun x12 => ?_)
      refine nz.wr h (by decide) (fun X13 hX13 => ?_)
      refine nz.bd (z_value hX13) (fun _ X14 hX14 => ?_)
      exact nz.ret hX14
    · refine nz.ck ?_
      refine nz.lt (fun x15 => ?_)
      refine nz.lt (fun x16 => ?_)
      refine nz.lt (fun x17 => ?_)
      refine nz.lt (fun x18 => ?_)
      refine nz.ck ?_
      refine nz.lt (fun x19 => ?_)
      refine nz.ck ?_
      refine nz.wr h (by rintro ⟨a_, -⟩; exact absurd a_ (by decide)) (fun X20 hX20 => ?_)
      refine nz.ck ?_
      refine nz.lt (fun x21 => ?_)
      refine nz.lt (fun x22 => ?_)
      refine nz.lt (fun x23 => ?_)
      refine nz.lt (fun x24 => ?_)
      refine nz.ck ?_
      refine nz.lt (fun x25 => ?_)
      refine nz.ck ?_
      refine nz.wr hX20 (by rintro ⟨a_, -⟩; exact absurd a_ (by decide)) (fun X26 hX26 => ?_)
      refine nz.lt (fun x27 => ?_)
      exact ih _ _ _ _ hX26
theorem z_makes {p1 : Int32} {X : St} (h : ¬ (X.1 0 43).toInt = 0) : nz (f_makes p1 X) := by
  unfold f_makes
  refine nz.lt (fun x1 => ?_)
  refine nz.lt (fun x2 => ?_)
  refine nz.ck ?_
  refine nz.lt (fun x3 => ?_)
  refine nz.bd (z_in h) (fun x4 X5 hX5 => ?_)
  refine nz.ite ?_ ?_
  · refine nz.ck ?_
    refine nz.lt (fun x28 => ?_)
    refine nz.bd (z_ends (by decide) hX5) (fun _ X29 hX29 => ?_)
    exact nz.ret hX29
  · refine nz.ck ?_
    refine nz.lt (fun x6 => ?_)
    refine nz.bd (z_row hX5) (fun x7 X8 hX8 => ?_)
    refine nz.bd (z_isOn hX8) (fun x9 X10 hX10 => ?_)
    refine nz.ite ?_ ?_
    · exact nz.ret hX10
    · exact z_makes_58 _ _ _ _ _ hX10
theorem z_sums_70 {a1 a2 a3 : Int32} {X : St} (h : ¬ (X.1 0 43).toInt = 0) : nz (f_sums_70 a1 a2 a3 X) := by
  unfold f_sums_70
  refine nz.ck ?_
  refine nz.lt (fun x10 => ?_)
  refine nz.ite ?_ ?_
  · refine nz.lt (fun x12 => ?_)
    refine nz.bd (z_value h) (fun _ X13 hX13 => ?_)
    exact nz.ret hX13
  · refine nz.ite ?_ ?_
    · refine nz.lt (fun x15 => ?_)
      refine nz.bd (z_value h) (fun _ X16 hX16 => ?_)
      exact nz.ret hX16
    · refine nz.ite ?_ ?_
      · refine nz.lt (fun x18 => ?_)
        refine nz.bd (z_value h) (fun _ X19 hX19 => ?_)
        exact nz.ret hX19
      · refine nz.ite ?_ ?_
        · refine nz.ck ?_
          refine nz.lt (fun x21 => ?_)
          refine nz.bd (z_value h) (fun _ X23 hX23 => ?_)
          exact nz.ret hX23
        · refine nz.ck ?_
          refine nz.lt (fun x24 => ?_)
          refine nz.bd (z_value h) (fun _ X26 hX26 => ?_)
          exact nz.ret hX26
theorem z_sums_54 {a1 a2 a3 : Int32} {X : St} (h : ¬ (X.1 0 43).toInt = 0) : nz (f_sums_54 a1 a2 a3 X) := by
  unfold f_sums_54
  refine nz.ite ?_ ?_
  · refine nz.ck ?_
    refine nz.lt (fun x27 => ?_)
    refine nz.bd (z_ends (by decide) h) (fun _ X28 hX28 => ?_)
    exact nz.ret hX28
  · exact z_sums_70 h
theorem z_sums {p1 : Int32} {X : St} (h : ¬ (X.1 0 43).toInt = 0) : nz (f_sums p1 X) := by
  unfold f_sums
  refine nz.lt (fun x1 => ?_)
  refine nz.lt (fun x2 => ?_)
  refine nz.wr h (by decide) (fun X3 hX3 => ?_)
  refine nz.lt (fun x4 => ?_)
  refine nz.ck ?_
  refine nz.lt (fun x5 => ?_)
  refine nz.lt (fun x6 => ?_)
  refine nz.lt (fun x7 => ?_)
  refine nz.ck ?_
  refine nz.lt (fun x8 => ?_)
  refine nz.ck ?_
  refine nz.lt (fun x9 => ?_)
  refine nz.ite ?_ ?_
  · exact z_sums_54 hX3
  · refine nz.ck ?_
    refine nz.lt (fun x29 => ?_)
    refine nz.ite ?_ ?_
    · exact z_sums_54 hX3
    · exact z_sums_70 hX3
theorem z_aroundOf_4 (N : Nat) : ∀ (a2 a3 : Int32) (X : St), ¬ (X.1 0 43).toInt = 0 → nz (f_aroundOf_4 N a2 a3 X) := by
  induction N with
  | zero => exact fun _ _ _ _ => nz.none
  | succ N ih =>
    intro a2 a3 X h
    show nz (f_aroundOf_4_s (f_aroundOf_4 N) a2 a3 X)
    unfold f_aroundOf_4_s
    refine nz.ck ?_
    refine nz.lt (fun x1 => ?_)
    refine nz.ite ?_ ?_
    · exact nz.ret h
    · refine nz.ck ?_
      refine nz.wr h (by rintro ⟨a_, -⟩; exact absurd a_ (by decide)) (fun X2 hX2 => ?_)
      refine nz.lt (fun x3 => ?_)
      refine nz.ck ?_
      refine nz.lt (fun x4 => ?_)
      exact ih _ _ _ hX2
theorem z_aroundOf {p1 : Int32} {X : St} (h : ¬ (X.1 0 43).toInt = 0) : nz (f_aroundOf p1 X) := by
  unfold f_aroundOf
  exact z_aroundOf_4 _ _ _ _ h
theorem z_readsPlace_126 (N : Nat) : ∀ (a2 a6 : Int32) (X : St), ¬ (X.1 0 43).toInt = 0 → nz (f_readsPlace_126 N a2 a6 X) := by
  induction N with
  | zero => exact fun _ _ _ _ => nz.none
  | succ N ih =>
    intro a2 a6 X h
    show nz (f_readsPlace_126_s (f_readsPlace_126 N) a2 a6 X)
    unfold f_readsPlace_126_s
    refine nz.ite ?_ ?_
    · exact nz.ret h
    · refine nz.bd (z_isOn h) (fun x27 X28 hX28 => ?_)
      refine nz.ite ?_ ?_
      · exact nz.ret hX28
      · refine nz.ck ?_
        refine nz.lt (fun x29 => ?_)
        refine nz.ck ?_
        refine nz.lt (fun x30 => ?_)
        refine nz.bd (z_elementOf hX28) (fun x31 X32 hX32 => ?_)
        refine nz.ck ?_
        refine nz.lt (fun x33 => ?_)
        refine nz.bd (z_elementOf hX32) (fun x34 X35 hX35 => ?_)
        refine nz.ck ?_
        refine nz.lt (fun x36 => ?_)
        refine nz.ck ?_
        refine nz.lt (fun x37 => ?_)
        refine nz.ck ?_
        refine nz.lt (fun x38 => ?_)
        refine nz.bd (z_asks hX35) (fun _ X39 hX39 => ?_)
        refine nz.lt (fun x40 => ?_)
        exact ih _ _ _ hX39
theorem z_readsPlace {p1 : Int32} {X : St} (h : ¬ (X.1 0 43).toInt = 0) : nz (f_readsPlace p1 X) := by
  unfold f_readsPlace
  refine nz.lt (fun x1 => ?_)
  refine nz.lt (fun x2 => ?_)
  refine nz.ck ?_
  refine nz.lt (fun x3 => ?_)
  refine nz.bd (z_within h) (fun x4 X5 hX5 => ?_)
  refine nz.lt (fun x6 => ?_)
  refine nz.lt (fun x7 => ?_)
  refine nz.ck ?_
  refine nz.lt (fun x8 => ?_)
  refine nz.ck ?_
  refine nz.lt (fun x9 => ?_)
  refine nz.lt (fun x10 => ?_)
  refine nz.bd (z_in hX5) (fun x11 X12 hX12 => ?_)
  refine nz.ite ?_ ?_
  · refine nz.ck ?_
    refine nz.lt (fun x41 => ?_)
    refine nz.bd (z_ends (by decide) hX12) (fun _ X42 hX42 => ?_)
    exact nz.ret hX42
  · refine nz.lt (fun x13 => ?_)
    refine nz.lt (fun x14 => ?_)
    refine nz.wr hX12 (by decide) (fun X15 hX15 => ?_)
    refine nz.ck ?_
    refine nz.lt (fun x16 => ?_)
    refine nz.lt (fun x17 => ?_)
    refine nz.ck ?_
    refine nz.lt (fun x18 => ?_)
    refine nz.ck ?_
    refine nz.wr hX15 (by rintro ⟨a_, -⟩; exact absurd a_ (by decide)) (fun X19 hX19 => ?_)
    refine nz.ck ?_
    refine nz.lt (fun x20 => ?_)
    refine nz.lt (fun x21 => ?_)
    refine nz.ck ?_
    refine nz.lt (fun x22 => ?_)
    refine nz.ck ?_
    refine nz.wr hX19 (by rintro ⟨a_, -⟩; exact absurd a_ (by decide)) (fun X23 hX23 => ?_)
    refine nz.bd (z_aroundOf hX23) (fun x24 X25 hX25 => ?_)
    refine nz.lt (fun x26 => ?_)
    exact z_readsPlace_126 _ _ _ _ hX25
theorem z_writes_242 {a2 a6 a7 : Int32} {X : St} (h : ¬ (X.1 0 43).toInt = 0) : nz (f_writes_242 a2 a6 a7 X) := by
  unfold f_writes_242
  refine nz.wr h (by decide) (fun X23 hX23 => ?_)
  refine nz.bd (z_value hX23) (fun _ X24 hX24 => ?_)
  exact nz.ret hX24
theorem z_writes_183 {a2 a4 a5 a6 a7 : Int32} {X : St} (h : ¬ (X.1 0 43).toInt = 0) : nz (f_writes_183 a2 a4 a5 a6 a7 X) := by
  unfold f_writes_183
  refine nz.bd (z_isOn h) (fun x21 X22 hX22 => ?_)
  refine nz.ite ?_ ?_
  · exact z_writes_242 hX22
  · refine nz.ck ?_
    refine nz.lt (fun x25 => ?_)
    refine nz.lt (fun x26 => ?_)
    refine nz.lt (fun x27 => ?_)
    refine nz.lt (fun x28 => ?_)
    refine nz.ck ?_
    refine nz.lt (fun x29 => ?_)
    refine nz.ck ?_
    refine nz.wr hX22 (by rintro ⟨a_, -⟩; exact absurd a_ (by decide)) (fun X30 hX30 => ?_)
    refine nz.ck ?_
    refine nz.lt (fun x31 => ?_)
    refine nz.lt (fun x32 => ?_)
    refine nz.lt (fun x33 => ?_)
    refine nz.lt (fun x34 => ?_)
    refine nz.ck ?_
    refine nz.lt (fun x35 => ?_)
    refine nz.ck ?_
    refine nz.wr hX30 (by rintro ⟨a_, -⟩; exact absurd a_ (by decide)) (fun X36 hX36 => ?_)
    exact z_writes_242 hX36
theorem z_writes_101 (N : Nat) : ∀ (a2 a4 a5 a6 a7 a8 a9 : Int32) (X : St), ¬ (X.1 0 43).toInt = 0 → nz (f_writes_101 N a2 a4 a5 a6 a7 a8 a9 X) := by
  induction N with
  | zero => exact fun _ _ _ _ _ _ _ _ _ => nz.none
  | succ N ih =>
    intro a2 a4 a5 a6 a7 a8 a9 X h
    show nz (f_writes_101_s (f_writes_101 N) a2 a4 a5 a6 a7 a8 a9 X)
    unfold f_writes_101_s
    refine nz.ite ?_ ?_
    · exact z_writes_183 h
    · refine nz.bd (z_isOn h) (fun x37 X38 hX38 => ?_)
      refine nz.ite ?_ ?_
      · exact z_writes_183 hX38
      · refine nz.ck ?_
        refine nz.lt (fun x39 => ?_)
        refine nz.lt (fun x40 => ?_)
        refine nz.lt (fun x41 => ?_)
        refine nz.ck ?_
        refine nz.lt (fun x42 => ?_)
        refine nz.bd (z_elementOf hX38) (fun x43 X44 hX44 => ?_)
        refine nz.ck ?_
        refine nz.lt (fun x45 => ?_)
        refine nz.bd (z_elementOf hX44) (fun x46 X47 hX47 => ?_)
        refine nz.ck ?_
        refine nz.lt (fun x48 => ?_)
        refine nz.ck ?_
        refine nz.lt (fun x49 => ?_)
        refine nz.ck ?_
        refine nz.lt (fun x50 => ?_)
        refine nz.bd (z_asks hX47) (fun _ X51 hX51 => ?_)
        refine nz.lt (fun x52 => ?_)
        exact ih _ _ _ _ _ _ _ _ hX51
theorem z_writes {p1 : Int32} {X : St} (h : ¬ (X.1 0 43).toInt = 0) : nz (f_writes p1 X) := by
  unfold f_writes
  refine nz.lt (fun x1 => ?_)
  refine nz.lt (fun x2 => ?_)
  refine nz.ck ?_
  refine nz.lt (fun x3 => ?_)
  refine nz.bd (z_within h) (fun x4 X5 hX5 => ?_)
  refine nz.lt (fun x6 => ?_)
  refine nz.lt (fun x7 => ?_)
  refine nz.ck ?_
  refine nz.lt (fun x8 => ?_)
  refine nz.ck ?_
  refine nz.lt (fun x9 => ?_)
  refine nz.lt (fun x10 => ?_)
  refine nz.bd (z_in hX5) (fun x11 X12 hX12 => ?_)
  refine nz.ite ?_ ?_
  · refine nz.ck ?_
    refine nz.lt (fun x53 => ?_)
    refine nz.bd (z_ends (by decide) hX12) (fun _ X54 hX54 => ?_)
    exact nz.ret hX54
  · refine nz.lt (fun x13 => ?_)
    refine nz.lt (fun x14 => ?_)
    refine nz.ck ?_
    refine nz.lt (fun x15 => ?_)
    refine nz.lt (fun x16 => ?_)
    refine nz.lt (fun x17 => ?_)
    refine nz.ck ?_
    refine nz.lt (fun x18 => ?_)
    refine nz.bd (z_aroundOf hX12) (fun x19 X20 hX20 => ?_)
    exact z_writes_101 _ _ _ _ _ _ _ _ _ hX20
theorem z_works_98 (N : Nat) : ∀ (a2 a3 a4 : Int32) (X : St), ¬ (X.1 0 43).toInt = 0 → nz (f_works_98 N a2 a3 a4 X) := by
  induction N with
  | zero => exact fun _ _ _ _ _ => nz.none
  | succ N ih =>
    intro a2 a3 a4 X h
    show nz (f_works_98_s (f_works_98 N) a2 a3 a4 X)
    unfold f_works_98_s
    refine nz.ck ?_
    refine nz.lt (fun x12 => ?_)
    refine nz.ite ?_ ?_
    · refine nz.bd (z_value h) (fun _ X13 hX13 => ?_)
      exact nz.ret hX13
    · refine nz.ck ?_
      refine nz.lt (fun x14 => ?_)
      refine nz.lt (fun x15 => ?_)
      refine nz.lt (fun x16 => ?_)
      refine nz.lt (fun x17 => ?_)
      refine nz.ck ?_
      refine nz.lt (fun x18 => ?_)
      refine nz.ck ?_
      refine nz.wr h (by rintro ⟨a_, -⟩; exact absurd a_ (by decide)) (fun X19 hX19 => ?_)
      refine nz.ck ?_
      refine nz.lt (fun x20 => ?_)
      refine nz.lt (fun x21 => ?_)
      refine nz.lt (fun x22 => ?_)
      refine nz.lt (fun x23 => ?_)
      refine nz.ck ?_
      refine nz.lt (fun x24 => ?_)
      refine nz.ck ?_
      refine nz.wr hX19 (by rintro ⟨a_, -⟩; exact absurd a_ (by decide)) (fun X25 hX25 => ?_)
      refine nz.lt (fun x26 => ?_)
      exact ih _ _ _ _ hX25
theorem z_works_432 {b0 b1 : Int32} {X : St} (h : ¬ (X.1 0 43).toInt = 0) : nz (f_works_432 b0 b1 X) := by
  unfold f_works_432
  refine nz.bd (z_value h) (fun _ X79 hX79 => ?_)
  exact nz.ret hX79
theorem z_works_420 {b0 : Int32} {X : St} (h : ¬ (X.1 0 43).toInt = 0) : nz (f_works_420 b0 X) := by
  unfold f_works_420
  refine nz.ite ?_ ?_
  · exact z_works_432 h
  · exact z_works_432 h
theorem z_works {p1 p2 : Int32} {X : St} (h : ¬ (X.1 0 43).toInt = 0) : nz (f_works p1 p2 X) := by
  unfold f_works
  refine nz.ite ?_ ?_
  · refine nz.ck ?_
    refine nz.lt (fun x2 => ?_)
    refine nz.ck ?_
    refine nz.lt (fun x3 => ?_)
    refine nz.bd (z_row h) (fun x4 X5 hX5 => ?_)
    refine nz.bd (z_isOn hX5) (fun x6 X7 hX7 => ?_)
    refine nz.ite ?_ ?_
    · exact nz.ret hX7
    · refine nz.lt (fun x8 => ?_)
      refine nz.ck ?_
      refine nz.lt (fun x9 => ?_)
      refine nz.lt (fun x10 => ?_)
      refine nz.wr hX7 (by decide) (fun X11 hX11 => ?_)
      exact z_works_98 _ _ _ _ _ hX11
  · refine nz.ite ?_ ?_
    · refine nz.bd (z_makes h) (fun _ X28 hX28 => ?_)
      exact nz.ret hX28
    · refine nz.ite ?_ ?_
      · refine nz.lt (fun x30 => ?_)
        refine nz.lt (fun x31 => ?_)
        refine nz.wr h (by decide) (fun X32 hX32 => ?_)
        refine nz.lt (fun x33 => ?_)
        refine nz.ck ?_
        refine nz.lt (fun x34 => ?_)
        refine nz.bd (z_within hX32) (fun x35 X36 hX36 => ?_)
        refine nz.ck ?_
        refine nz.lt (fun x37 => ?_)
        refine nz.bd (z_value hX36) (fun _ X38 hX38 => ?_)
        exact nz.ret hX38
      · refine nz.ite ?_ ?_
        · refine nz.lt (fun x40 => ?_)
          refine nz.ite ?_ ?_
          · refine nz.ck ?_
            refine nz.lt (fun x49 => ?_)
            refine nz.bd (z_ends (by decide) h) (fun _ X50 hX50 => ?_)
            exact nz.ret hX50
          · refine nz.lt (fun x41 => ?_)
            refine nz.lt (fun x42 => ?_)
            refine nz.lt (fun x43 => ?_)
            refine nz.ck ?_
            refine nz.lt (fun x44 => ?_)
            refine nz.ck ?_
            refine nz.wr h (by rintro ⟨a_, -⟩; exact absurd a_ (by decide)) (fun X45 hX45 => ?_)
            refine nz.lt (fun x46 => ?_)
            refine nz.lt (fun x47 => ?_)
            refine nz.wr hX45 (by decide) (fun X48 hX48 => ?_)
            exact nz.ret hX48
        · refine nz.ite ?_ ?_
          · refine nz.lt (fun x52 => ?_)
            refine nz.lt (fun x53 => ?_)
            refine nz.lt (fun x54 => ?_)
            refine nz.lt (fun x55 => ?_)
            refine nz.ck ?_
            refine nz.lt (fun x56 => ?_)
            refine nz.lt (fun x57 => ?_)
            refine nz.ck ?_
            refine nz.wr h (by rintro ⟨a_, -⟩; exact absurd a_ (by decide)) (fun X58 hX58 => ?_)
            exact nz.ret hX58
          · refine nz.ite ?_ ?_
            · refine nz.lt (fun x60 => ?_)
              refine nz.lt (fun x61 => ?_)
              refine nz.lt (fun x62 => ?_)
              refine nz.lt (fun x63 => ?_)
              refine nz.ck ?_
              refine nz.lt (fun x64 => ?_)
              refine nz.lt (fun x65 => ?_)
              refine nz.ck ?_
              refine nz.wr h (by rintro ⟨a_, -⟩; exact absurd a_ (by decide)) (fun X66 hX66 => ?_)
              exact nz.ret hX66
            · refine nz.ite ?_ ?_
              · refine nz.bd (z_sums h) (fun _ X68 hX68 => ?_)
                exact nz.ret hX68
              · refine nz.ite ?_ ?_
                · refine nz.lt (fun x70 => ?_)
                  refine nz.lt (fun x71 => ?_)
                  refine nz.wr h (by decide) (fun X72 hX72 => ?_)
                  refine nz.ck ?_
                  refine nz.lt (fun x73 => ?_)
                  refine nz.ite ?_ ?_
                  · refine nz.lt (fun x80 => ?_)
                    refine nz.ck ?_
                    refine nz.lt (fun x81 => ?_)
                    refine nz.lt (fun x82 => ?_)
                    refine nz.lt (fun x83 => ?_)
                    refine nz.ck ?_
                    refine nz.lt (fun x84 => ?_)
                    refine nz.ite ?_ ?_
                    · exact z_works_420 hX72
                    · exact z_works_420 hX72
                  · refine nz.lt (fun x74 => ?_)
                    refine nz.ck ?_
                    refine nz.lt (fun x75 => ?_)
                    refine nz.lt (fun x76 => ?_)
                    refine nz.lt (fun x77 => ?_)
                    refine nz.ck ?_
                    refine nz.lt (fun x78 => ?_)
                    refine nz.ite ?_ ?_
                    · exact z_works_420 hX72
                    · exact z_works_420 hX72
                · refine nz.ite ?_ ?_
                  · refine nz.bd (z_readsPlace h) (fun _ X86 hX86 => ?_)
                    exact nz.ret hX86
                  · refine nz.ite ?_ ?_
                    · refine nz.bd (z_writes h) (fun _ X88 hX88 => ?_)
                      exact nz.ret hX88
                    · exact nz.ret h
theorem z_does {p1 p2 : Int32} {X : St} (h : ¬ (X.1 0 43).toInt = 0) : nz (f_does p1 p2 X) := by
  unfold f_does
  refine nz.ck ?_
  refine nz.lt (fun x1 => ?_)
  refine nz.ite ?_ ?_
  · refine nz.lt (fun x3 => ?_)
    refine nz.lt (fun x4 => ?_)
    refine nz.ite ?_ ?_
    · refine nz.ck ?_
      refine nz.lt (fun x9 => ?_)
      refine nz.bd (z_ends (by decide) h) (fun _ X10 hX10 => ?_)
      refine nz.lt (fun x11 => ?_)
      exact nz.ret hX10
    · refine nz.lt (fun x5 => ?_)
      refine nz.lt (fun x6 => ?_)
      refine nz.wr h (by decide) (fun X7 hX7 => ?_)
      refine nz.lt (fun x8 => ?_)
      exact nz.ret hX7
  · refine nz.ite ?_ ?_
    · refine nz.ck ?_
      refine nz.lt (fun x13 => ?_)
      refine nz.bd (z_value h) (fun _ X14 hX14 => ?_)
      refine nz.lt (fun x15 => ?_)
      exact nz.ret hX14
    · refine nz.ite ?_ ?_
      · refine nz.ck ?_
        refine nz.lt (fun x17 => ?_)
        refine nz.bd (z_value h) (fun _ X18 hX18 => ?_)
        refine nz.lt (fun x19 => ?_)
        exact nz.ret hX18
      · refine nz.ite ?_ ?_
        · refine nz.lt (fun x21 => ?_)
          refine nz.ck ?_
          refine nz.lt (fun x22 => ?_)
          refine nz.lt (fun x23 => ?_)
          refine nz.ck ?_
          refine nz.lt (fun x24 => ?_)
          refine nz.lt (fun x25 => ?_)
          refine nz.ck ?_
          refine nz.lt (fun x26 => ?_)
          refine nz.lt (fun x27 => ?_)
          refine nz.ck ?_
          refine nz.lt (fun x28 => ?_)
          refine nz.bd (z_value h) (fun _ X29 hX29 => ?_)
          refine nz.lt (fun x30 => ?_)
          exact nz.ret hX29
        · refine nz.ite ?_ ?_
          · refine nz.ck ?_
            refine nz.lt (fun x32 => ?_)
            refine nz.bd (z_value h) (fun _ X33 hX33 => ?_)
            refine nz.lt (fun x34 => ?_)
            exact nz.ret hX33
          · refine nz.ite ?_ ?_
            · refine nz.ck ?_
              refine nz.lt (fun x36 => ?_)
              refine nz.bd (z_guarded h) (fun _ X37 hX37 => ?_)
              refine nz.lt (fun x38 => ?_)
              exact nz.ret hX37
            · refine nz.ite ?_ ?_
              · refine nz.ck ?_
                refine nz.lt (fun x40 => ?_)
                refine nz.bd (z_guarded h) (fun _ X41 hX41 => ?_)
                refine nz.lt (fun x42 => ?_)
                exact nz.ret hX41
              · refine nz.ite ?_ ?_
                · refine nz.ck ?_
                  refine nz.lt (fun x44 => ?_)
                  refine nz.bd (z_guarded h) (fun _ X45 hX45 => ?_)
                  refine nz.bd (z_isOn hX45) (fun x46 X47 hX47 => ?_)
                  refine nz.ite ?_ ?_
                  · refine nz.lt (fun x48 => ?_)
                    exact nz.ret hX47
                  · refine nz.lt (fun x49 => ?_)
                    refine nz.ite ?_ ?_
                    · refine nz.lt (fun x51 => ?_)
                      refine nz.lt (fun x52 => ?_)
                      refine nz.ck ?_
                      refine nz.lt (fun x53 => ?_)
                      refine nz.ck ?_
                      refine nz.lt (fun x54 => ?_)
                      refine nz.ck ?_
                      refine nz.lt (fun x55 => ?_)
                      refine nz.ite ?_ ?_
                      · refine nz.lt (fun x56 => ?_)
                        exact nz.ret hX47
                      · refine nz.ck ?_
                        refine nz.lt (fun x57 => ?_)
                        refine nz.bd (z_ends (by decide) hX47) (fun _ X58 hX58 => ?_)
                        refine nz.lt (fun x59 => ?_)
                        exact nz.ret hX58
                    · refine nz.lt (fun x50 => ?_)
                      exact nz.ret hX47
                · refine nz.ite ?_ ?_
                  · refine nz.ck ?_
                    refine nz.lt (fun x61 => ?_)
                    refine nz.bd (z_guarded h) (fun _ X62 hX62 => ?_)
                    refine nz.lt (fun x63 => ?_)
                    exact nz.ret hX62
                  · refine nz.ite ?_ ?_
                    · refine nz.ck ?_
                      refine nz.lt (fun x65 => ?_)
                      refine nz.bd (z_guarded h) (fun _ X66 hX66 => ?_)
                      refine nz.lt (fun x67 => ?_)
                      exact nz.ret hX66
                    · refine nz.ite ?_ ?_
                      · refine nz.bd (z_guarded h) (fun _ X69 hX69 => ?_)
                        refine nz.lt (fun x70 => ?_)
                        exact nz.ret hX69
                      · refine nz.ite ?_ ?_
                        · refine nz.bd (z_guarded h) (fun _ X72 hX72 => ?_)
                          refine nz.lt (fun x73 => ?_)
                          exact nz.ret hX72
                        · refine nz.ite ?_ ?_
                          · refine nz.bd (z_guarded h) (fun _ X75 hX75 => ?_)
                            refine nz.lt (fun x76 => ?_)
                            exact nz.ret hX75
                          · refine nz.ite ?_ ?_
                            · refine nz.lt (fun x78 => ?_)
                              refine nz.lt (fun x79 => ?_)
                              refine nz.wr h (by decide) (fun X80 hX80 => ?_)
                              refine nz.lt (fun x81 => ?_)
                              refine nz.ck ?_
                              refine nz.lt (fun x82 => ?_)
                              refine nz.lt (fun x83 => ?_)
                              refine nz.lt (fun x84 => ?_)
                              refine nz.ck ?_
                              refine nz.lt (fun x85 => ?_)
                              refine nz.ck ?_
                              refine nz.wr hX80 (by rintro ⟨a_, -⟩; exact absurd a_ (by decide)) (fun X86 hX86 => ?_)
                              refine nz.lt (fun x87 => ?_)
                              refine nz.ck ?_
                              refine nz.lt (fun x88 => ?_)
                              refine nz.lt (fun x89 => ?_)
                              refine nz.lt (fun x90 => ?_)
                              refine nz.ck ?_
                              refine nz.lt (fun x91 => ?_)
                              refine nz.ck ?_
                              refine nz.wr hX86 (by rintro ⟨a_, -⟩; exact absurd a_ (by decide)) (fun X92 hX92 => ?_)
                              refine nz.lt (fun x93 => ?_)
                              exact nz.ret hX92
                            · refine nz.ite ?_ ?_
                              · refine nz.bd (z_guarded h) (fun _ X95 hX95 => ?_)
                                refine nz.lt (fun x96 => ?_)
                                exact nz.ret hX95
                              · refine nz.ite ?_ ?_
                                · refine nz.lt (fun x98 => ?_)
                                  refine nz.lt (fun x99 => ?_)
                                  refine nz.wr h (by decide) (fun X100 hX100 => ?_)
                                  refine nz.lt (fun x101 => ?_)
                                  refine nz.ck ?_
                                  refine nz.lt (fun x102 => ?_)
                                  refine nz.ite ?_ ?_
                                  · refine nz.lt (fun x104 => ?_)
                                    exact nz.ret hX100
                                  · refine nz.ck ?_
                                    refine nz.lt (fun x103 => ?_)
                                    exact nz.ret hX100
                                · refine nz.ite ?_ ?_
                                  · refine nz.ck ?_
                                    refine nz.lt (fun x106 => ?_)
                                    exact nz.ret h
                                  · refine nz.ite ?_ ?_
                                    · refine nz.bd (z_call h) (fun x108 X109 hX109 => ?_)
                                      exact nz.ret hX109
                                    · refine nz.ite ?_ ?_
                                      · refine nz.lt (fun x111 => ?_)
                                        refine nz.lt (fun x112 => ?_)
                                        refine nz.wr h (by decide) (fun X113 hX113 => ?_)
                                        refine nz.lt (fun x114 => ?_)
                                        exact nz.ret hX113
                                      · refine nz.ite ?_ ?_
                                        · refine nz.bd (z_guarded h) (fun _ X116 hX116 => ?_)
                                          refine nz.lt (fun x117 => ?_)
                                          exact nz.ret hX116
                                        · refine nz.ite ?_ ?_
                                          · refine nz.bd (z_goesBack h) (fun x119 X120 hX120 => ?_)
                                            exact nz.ret hX120
                                          · refine nz.ck ?_
                                            refine nz.lt (fun x121 => ?_)
                                            refine nz.bd (z_works h) (fun _ X122 hX122 => ?_)
                                            refine nz.lt (fun x123 => ?_)
                                            exact nz.ret hX122
