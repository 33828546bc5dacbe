/-! what reads() leaves isn't judged -/
def nj {ρ : Type} (F : Option (ρ × St)) : Prop := ∀ r Y, F = some (r, Y) → (Y.1 0 4).toInt = 0
section NJ
variable {ρ ρ1 τ : Type} {A B : Option (ρ × St)}
theorem nj.none : nj (none : Option (ρ × St)) := fun r Y h => by cases h
theorem nj.ret {r : ρ} {X : St} (h : (X.1 0 4).toInt = 0) : nj (some (r, X)) := fun r1 Y e => by
  injection e with e
  injection e with _ e
  rw [← e]
  exact h
theorem nj.ite {c : Prop} [Decidable c] (h1 : nj A) (h2 : nj B) : nj (if c then A else B) := by
  by_cases h : c
  · rw [if_pos h]; exact h1
  · rw [if_neg h]; exact h2
theorem nj.ck {c : Prop} [Decidable c] (h : nj A) : nj (chk c A) := nj.ite h nj.none
theorem nj.lt {v : τ} {K : τ → Option (ρ × St)} (h : ∀ z, nj (K z)) : nj (letV v K) := h v
theorem nj.wr {X : St} {e k : Nat} {v : Int32} {K : St → Option (ρ × St)} (h0 : (X.1 0 4).toInt = 0) (hn : ¬ (0 = e ∧ 4 = k)) (h : ∀ X1 : St, (X1.1 0 4).toInt = 0 → nj (K X1)) : nj (letV (wI X e k v) K) := h _ (by rw [wI_ne _ e k v 0 4 hn]; exact h0)
theorem nj.w0 {X : St} {K : St → Option (ρ × St)} (h : ∀ X1 : St, (X1.1 0 4).toInt = 0 → nj (K X1)) : nj (letV (wI X 0 4 (0 : Int32)) K) := h _ (by rw [wI_at]; rfl)
theorem nj.wL {X : St} {e k : Nat} {v : Int64} {K : St → Option (ρ × St)} (h0 : (X.1 0 4).toInt = 0) (h : ∀ X1 : St, (X1.1 0 4).toInt = 0 → nj (K X1)) : nj (letV (wL X e k v) K) := h _ h0
theorem nj.bd {G : Option (ρ1 × St)} {K : ρ1 → St → Option (ρ × St)} (hG : nj G) (h : ∀ r X, (X.1 0 4).toInt = 0 → nj (K r X)) : nj (bnd G K) := by
  intro r Y e
  cases hg : G with
  | none =>
    rw [hg] at e
    cases e
  | some p =>
    obtain ⟨r1, X1⟩ := p
    rw [hg] at e
    exact h r1 X1 (hG r1 X1 hg) r Y e
end NJ
theorem ok.nj {ρ : Type} {A : Option (ρ × St)} {Q : ρ → St → Prop} (h : ok A Q) (g : nj A) : ok A (fun r Y => Q r Y ∧ (Y.1 0 4).toInt = 0) := by
  obtain ⟨r, Y, e, q⟩ := h
  exact ⟨r, Y, e, q, g r Y e⟩
theorem nj_in {p0 : Int32} {p1 : Int32} {p2 : Int32} {X : St} (h : (X.1 0 4).toInt = 0) : nj (f_in p0 p1 p2 X) := by
  unfold f_in
  refine nj.ite ?_ ?_
  · exact nj.ret h
  · refine nj.ite ?_ ?_
    · exact nj.ret h
    · exact nj.ret h
theorem nj_kindOf_315 {r212 : Int32 → Int32 → Int32 → Int32 → Int32 → Int32 → St → Option (Int32 × St)} (hr212 : ∀ (q0 : Int32) (q1 : Int32) (q2 : Int32) (q3 : Int32) (q4 : Int32) (q5 : Int32) (X : St), (X.1 0 4).toInt = 0 → nj (r212 q0 q1 q2 q3 q4 q5 X)) {a1 : Int32} {a2 : Int32} {a3 : Int32} {a4 : Int32} {a6 : Int32} {b0 : Int32} {X : St} (h : (X.1 0 4).toInt = 0) : nj (f_kindOf_315 r212 a1 a2 a3 a4 a6 b0 X) := by
  unfold f_kindOf_315
  refine nj.lt (fun x21 => ?_)
  exact hr212 _ _ _ _ _ _ _ h
theorem nj_kindOf_284 {r212 : Int32 → Int32 → Int32 → Int32 → Int32 → Int32 → St → Option (Int32 × St)} (hr212 : ∀ (q0 : Int32) (q1 : Int32) (q2 : Int32) (q3 : Int32) (q4 : Int32) (q5 : Int32) (X : St), (X.1 0 4).toInt = 0 → nj (r212 q0 q1 q2 q3 q4 q5 X)) {a1 : Int32} {a2 : Int32} {a3 : Int32} {a4 : Int32} {a5 : Int32} {a6 : Int32} {b0 : Int32} {b1 : Int32} {X : St} (h : (X.1 0 4).toInt = 0) : nj (f_kindOf_284 r212 a1 a2 a3 a4 a5 a6 b0 b1 X) := by
  unfold f_kindOf_284
  refine nj.ck ?_
  refine nj.wr h (by rintro ⟨a_, -⟩; exact absurd a_ (by decide)) (fun X20 hX20 => ?_)
  refine nj.ite ?_ ?_
  · refine nj.lt (fun x22 => ?_)
    refine nj.lt (fun x23 => ?_)
    refine nj.ck ?_
    refine nj.lt (fun x24 => ?_)
    refine nj.ck ?_
    refine nj.lt (fun x25 => ?_)
    refine nj.lt (fun x26 => ?_)
    exact nj_kindOf_315 hr212 hX20
  · exact nj_kindOf_315 hr212 hX20
theorem nj_kindOf_279 {r212 : Int32 → Int32 → Int32 → Int32 → Int32 → Int32 → St → Option (Int32 × St)} (hr212 : ∀ (q0 : Int32) (q1 : Int32) (q2 : Int32) (q3 : Int32) (q4 : Int32) (q5 : Int32) (X : St), (X.1 0 4).toInt = 0 → nj (r212 q0 q1 q2 q3 q4 q5 X)) {a1 : Int32} {a2 : Int32} {a3 : Int32} {a4 : Int32} {a5 : Int32} {a6 : Int32} {b0 : Int32} {X : St} (h : (X.1 0 4).toInt = 0) : nj (f_kindOf_279 r212 a1 a2 a3 a4 a5 a6 b0 X) := by
  unfold f_kindOf_279
  exact nj_kindOf_284 hr212 h
theorem nj_kindOf_212 (N : Nat) : ∀ (a1 : Int32) (a2 : Int32) (a3 : Int32) (a4 : Int32) (a5 : Int32) (a6 : Int32) (X : St), (X.1 0 4).toInt = 0 → nj (f_kindOf_212 N a1 a2 a3 a4 a5 a6 X) := by
  unfold f_kindOf_212
  refine lp_ind (P := fun (r : Int32 → Int32 → Int32 → Int32 → Int32 → Int32 → St → Option (Int32 × St)) => ∀ (a1 : Int32) (a2 : Int32) (a3 : Int32) (a4 : Int32) (a5 : Int32) (a6 : Int32) (X : St), (X.1 0 4).toInt = 0 → nj (r a1 a2 a3 a4 a5 a6 X)) (fun _ _ _ _ _ _ _ _ => nj.none) (fun r ih a1 a2 a3 a4 a5 a6 X h => ?_) N
  unfold f_kindOf_212_s
  refine nj.ite ?_ ?_
  · refine nj.ck ?_
    refine nj.wr h (by rintro ⟨a_, -⟩; exact absurd a_ (by decide)) (fun X11 hX11 => ?_)
    exact nj.ret hX11
  · refine nj.lt (fun x12 => ?_)
    refine nj.lt (fun x13 => ?_)
    refine nj.ck ?_
    refine nj.lt (fun x14 => ?_)
    refine nj.ck ?_
    refine nj.wr h (by rintro ⟨a_, -⟩; exact absurd a_ (by decide)) (fun X15 hX15 => ?_)
    refine nj.lt (fun x16 => ?_)
    refine nj.lt (fun x17 => ?_)
    refine nj.wr hX15 (by decide) (fun X18 hX18 => ?_)
    refine nj.ck ?_
    refine nj.lt (fun x19 => ?_)
    refine nj.ite ?_ ?_
    · refine nj.lt (fun x27 => ?_)
      refine nj.ck ?_
      refine nj.lt (fun x28 => ?_)
      refine nj.ck ?_
      refine nj.lt (fun x29 => ?_)
      refine nj.ite ?_ ?_
      · exact nj_kindOf_284 ih hX18
      · exact nj_kindOf_279 ih hX18
    · exact nj_kindOf_279 ih hX18
theorem nj_kindOf_207 {a1 : Int32} {a2 : Int32} {a3 : Int32} {a4 : Int32} {b0 : Int32} {X : St} (h : (X.1 0 4).toInt = 0) : nj (f_kindOf_207 a1 a2 a3 a4 b0 X) := by
  unfold f_kindOf_207
  exact nj_kindOf_212 _ _ _ _ _ _ _ _ h
theorem nj_kindOf_168 {a1 : Int32} {a2 : Int32} {a3 : Int32} {a4 : Int32} {b0 : Int32} {b1 : Int32} {X : St} (h : (X.1 0 4).toInt = 0) : nj (f_kindOf_168 a1 a2 a3 a4 b0 b1 X) := by
  unfold f_kindOf_168
  refine nj.ck ?_
  refine nj.wr h (by rintro ⟨a_, -⟩; exact absurd a_ (by decide)) (fun X10 hX10 => ?_)
  refine nj.ite ?_ ?_
  · refine nj.ck ?_
    refine nj.lt (fun x32 => ?_)
    refine nj.ck ?_
    refine nj.lt (fun x33 => ?_)
    refine nj.lt (fun x34 => ?_)
    refine nj.lt (fun x35 => ?_)
    exact nj_kindOf_207 hX10
  · refine nj.ite ?_ ?_
    · refine nj.lt (fun x30 => ?_)
      refine nj.lt (fun x31 => ?_)
      exact nj_kindOf_207 hX10
    · exact nj_kindOf_207 hX10
theorem nj_kindOf_95 {r3 : Int32 → Int32 → Int32 → Int32 → St → Option (Int32 × St)} (hr3 : ∀ (q0 : Int32) (q1 : Int32) (q2 : Int32) (q3 : Int32) (X : St), (X.1 0 4).toInt = 0 → nj (r3 q0 q1 q2 q3 X)) {a1 : Int32} {a2 : Int32} {a3 : Int32} {a4 : Int32} {a5 : Int32} {X : St} (h : (X.1 0 4).toInt = 0) : nj (f_kindOf_95 r3 a1 a2 a3 a4 a5 X) := by
  unfold f_kindOf_95
  refine nj.ite ?_ ?_
  · refine nj.lt (fun x37 => ?_)
    exact hr3 _ _ _ _ _ h
  · exact nj.ret h
theorem nj_kindOf_87 {r3 : Int32 → Int32 → Int32 → Int32 → St → Option (Int32 × St)} {r44 : Int32 → Int32 → Int32 → Int32 → Int32 → Int32 → St → Option (Int32 × St)} (hr3 : ∀ (q0 : Int32) (q1 : Int32) (q2 : Int32) (q3 : Int32) (X : St), (X.1 0 4).toInt = 0 → nj (r3 q0 q1 q2 q3 X)) (hr44 : ∀ (q0 : Int32) (q1 : Int32) (q2 : Int32) (q3 : Int32) (q4 : Int32) (q5 : Int32) (X : St), (X.1 0 4).toInt = 0 → nj (r44 q0 q1 q2 q3 q4 q5 X)) {a1 : Int32} {a2 : Int32} {a3 : Int32} {a4 : Int32} {a6 : Int32} {b0 : Int32} {X : St} (h : (X.1 0 4).toInt = 0) : nj (f_kindOf_87 r3 r44 a1 a2 a3 a4 a6 b0 X) := by
  unfold f_kindOf_87
  refine nj.lt (fun x43 => ?_)
  exact hr44 _ _ _ _ _ _ _ h
theorem nj_kindOf_44 {r3 : Int32 → Int32 → Int32 → Int32 → St → Option (Int32 × St)} (hr3 : ∀ (q0 : Int32) (q1 : Int32) (q2 : Int32) (q3 : Int32) (X : St), (X.1 0 4).toInt = 0 → nj (r3 q0 q1 q2 q3 X)) (N : Nat) : ∀ (a1 : Int32) (a2 : Int32) (a3 : Int32) (a4 : Int32) (a5 : Int32) (a6 : Int32) (X : St), (X.1 0 4).toInt = 0 → nj (f_kindOf_44 r3 N a1 a2 a3 a4 a5 a6 X) := by
  unfold f_kindOf_44
  refine lp_ind (P := fun (r : Int32 → Int32 → Int32 → Int32 → Int32 → Int32 → St → Option (Int32 × St)) => ∀ (a1 : Int32) (a2 : Int32) (a3 : Int32) (a4 : Int32) (a5 : Int32) (a6 : Int32) (X : St), (X.1 0 4).toInt = 0 → nj (r a1 a2 a3 a4 a5 a6 X)) (fun _ _ _ _ _ _ _ _ => nj.none) (fun r ih a1 a2 a3 a4 a5 a6 X h => ?_) N
  unfold f_kindOf_44_s
  refine nj.ite ?_ ?_
  · exact nj_kindOf_95 hr3 h
  · refine nj.ite ?_ ?_
    · exact nj_kindOf_95 hr3 h
    · refine nj.ck ?_
      refine nj.lt (fun x38 => ?_)
      refine nj.lt (fun x39 => ?_)
      refine nj.ck ?_
      refine nj.lt (fun x40 => ?_)
      refine nj.lt (fun x41 => ?_)
      refine nj.ck ?_
      refine nj.lt (fun x42 => ?_)
      refine nj.ite ?_ ?_
      · exact nj_kindOf_87 hr3 ih h
      · exact nj_kindOf_87 hr3 ih h
theorem nj_kindOf_39 {r3 : Int32 → Int32 → Int32 → Int32 → St → Option (Int32 × St)} (hr3 : ∀ (q0 : Int32) (q1 : Int32) (q2 : Int32) (q3 : Int32) (X : St), (X.1 0 4).toInt = 0 → nj (r3 q0 q1 q2 q3 X)) {a1 : Int32} {a2 : Int32} {a3 : Int32} {a4 : Int32} {b0 : Int32} {X : St} (h : (X.1 0 4).toInt = 0) : nj (f_kindOf_39 r3 a1 a2 a3 a4 b0 X) := by
  unfold f_kindOf_39
  exact nj_kindOf_44 hr3 _ _ _ _ _ _ _ _ h
theorem nj_kindOf_38 {r3 : Int32 → Int32 → Int32 → Int32 → St → Option (Int32 × St)} (hr3 : ∀ (q0 : Int32) (q1 : Int32) (q2 : Int32) (q3 : Int32) (X : St), (X.1 0 4).toInt = 0 → nj (r3 q0 q1 q2 q3 X)) {a1 : Int32} {a2 : Int32} {a3 : Int32} {a4 : Int32} {X : St} (h : (X.1 0 4).toInt = 0) : nj (f_kindOf_38 r3 a1 a2 a3 a4 X) := by
  unfold f_kindOf_38
  exact nj_kindOf_39 hr3 h
theorem nj_kindOf_3 (N : Nat) : ∀ (a1 : Int32) (a2 : Int32) (a3 : Int32) (a4 : Int32) (X : St), (X.1 0 4).toInt = 0 → nj (f_kindOf_3 N a1 a2 a3 a4 X) := by
  unfold f_kindOf_3
  refine lp_ind (P := fun (r : Int32 → Int32 → Int32 → Int32 → St → Option (Int32 × St)) => ∀ (a1 : Int32) (a2 : Int32) (a3 : Int32) (a4 : Int32) (X : St), (X.1 0 4).toInt = 0 → nj (r a1 a2 a3 a4 X)) (fun _ _ _ _ _ _ => nj.none) (fun r ih a1 a2 a3 a4 X h => ?_) N
  unfold f_kindOf_3_s
  refine nj.lt (fun x1 => ?_)
  refine nj.ite ?_ ?_
  · refine nj.lt (fun x2 => ?_)
    refine nj.lt (fun x3 => ?_)
    refine nj.lt (fun x4 => ?_)
    refine nj.wr h (by decide) (fun X5 hX5 => ?_)
    refine nj.ck ?_
    refine nj.wr hX5 (by rintro ⟨a_, -⟩; exact absurd a_ (by decide)) (fun X6 hX6 => ?_)
    refine nj.ck ?_
    refine nj.wr hX6 (by rintro ⟨a_, -⟩; exact absurd a_ (by decide)) (fun X7 hX7 => ?_)
    refine nj.lt (fun x8 => ?_)
    refine nj.ck ?_
    refine nj.wr hX7 (by rintro ⟨a_, -⟩; exact absurd a_ (by decide)) (fun X9 hX9 => ?_)
    refine nj.ite ?_ ?_
    · exact nj_kindOf_168 hX9
    · exact nj_kindOf_168 hX9
  · refine nj.ck ?_
    refine nj.lt (fun x36 => ?_)
    refine nj.ite ?_ ?_
    · refine nj.ck ?_
      refine nj.lt (fun x44 => ?_)
      refine nj.ite ?_ ?_
      · exact nj_kindOf_39 ih h
      · exact nj_kindOf_38 ih h
    · exact nj_kindOf_38 ih h
theorem nj_kindOf {p1 : Int32} {p2 : Int32} {p3 : Int32} {X : St} (h : (X.1 0 4).toInt = 0) : nj (f_kindOf p1 p2 p3 X) := by
  unfold f_kindOf
  exact nj_kindOf_3 _ _ _ _ _ _ h
theorem nj_kinds {p1 : Int32} {X : St} (h : (X.1 0 4).toInt = 0) : nj (f_kinds p1 X) := by
  unfold f_kinds
  refine nj.wr h (by decide) (fun X1 hX1 => ?_)
  refine nj.wr hX1 (by decide) (fun X2 hX2 => ?_)
  refine nj.bd (nj_kindOf hX2) (fun x3 X4 hX4 => ?_)
  refine nj.bd (nj_kindOf hX4) (fun x5 X6 hX6 => ?_)
  refine nj.bd (nj_kindOf hX6) (fun x7 X8 hX8 => ?_)
  exact nj.ret hX8
theorem nj_rowOf {p1 : Int32} {X : St} (h : (X.1 0 4).toInt = 0) : nj (f_rowOf p1 X) := by
  unfold f_rowOf
  refine nj.ck ?_
  refine nj.wr h (by rintro ⟨a_, -⟩; exact absurd a_ (by decide)) (fun X1 hX1 => ?_)
  refine nj.bd (nj_kindOf hX1) (fun x2 X3 hX3 => ?_)
  exact nj.ret hX3
theorem nj_isWell {X : St} (h : (X.1 0 4).toInt = 0) : nj (f_isWell X) := by
  unfold f_isWell
  refine nj.lt (fun x1 => ?_)
  refine nj.ite ?_ ?_
  · exact nj.ret h
  · exact nj.ret h
theorem nj_fails {p1 : Int32} {p2 : Int32} {X : St} (h : (X.1 0 4).toInt = 0) : nj (f_fails p1 p2 X) := by
  unfold f_fails
  refine nj.lt (fun x1 => ?_)
  refine nj.ite ?_ ?_
  · refine nj.wr h (by decide) (fun X2 hX2 => ?_)
    refine nj.wr hX2 (by decide) (fun X3 hX3 => ?_)
    exact nj.ret hX3
  · exact nj.ret h
theorem nj_stray {X : St} (h : (X.1 0 4).toInt = 0) : nj (f_stray X) := by
  unfold f_stray
  refine nj.lt (fun x1 => ?_)
  refine nj.bd (nj_fails h) (fun _ X2 hX2 => ?_)
  exact nj.ret hX2
theorem nj_letterOf {p0 : Int32} {X : St} (h : (X.1 0 4).toInt = 0) : nj (f_letterOf p0 X) := by
  unfold f_letterOf
  refine nj.bd (nj_in h) (fun x1 X2 hX2 => ?_)
  refine nj.ite ?_ ?_
  · refine nj.bd (nj_in hX2) (fun x3 X4 hX4 => ?_)
    refine nj.ite ?_ ?_
    · exact nj.ret hX4
    · refine nj.lt (fun x5 => ?_)
      exact nj.ret hX4
  · refine nj.lt (fun x6 => ?_)
    exact nj.ret hX2
theorem nj_wordOf {q0 : Int64} {X : St} (h : (X.1 0 4).toInt = 0) : nj (f_wordOf q0 X) := by
  unfold f_wordOf
  refine nj.lt (fun x1 => ?_)
  refine nj.ite ?_ ?_
  · refine nj.lt (fun x2 => ?_)
    refine nj.ite ?_ ?_
    · exact nj.ret h
    · refine nj.ite ?_ ?_
      · exact nj.ret h
      · refine nj.ite ?_ ?_
        · exact nj.ret h
        · refine nj.ite ?_ ?_
          · exact nj.ret h
          · refine nj.ite ?_ ?_
            · exact nj.ret h
            · refine nj.ite ?_ ?_
              · exact nj.ret h
              · refine nj.ite ?_ ?_
                · exact nj.ret h
                · refine nj.ite ?_ ?_
                  · exact nj.ret h
                  · refine nj.ite ?_ ?_
                    · exact nj.ret h
                    · refine nj.ite ?_ ?_
                      · exact nj.ret h
                      · refine nj.ite ?_ ?_
                        · exact nj.ret h
                        · refine nj.ite ?_ ?_
                          · exact nj.ret h
                          · refine nj.ite ?_ ?_
                            · exact nj.ret h
                            · refine nj.ite ?_ ?_
                              · exact nj.ret h
                              · refine nj.ite ?_ ?_
                                · exact nj.ret h
                                · exact nj.ret h
  · exact nj.ret h
theorem nj_name_156 {m0 : Int64} {X : St} (h : (X.1 0 4).toInt = 0) : nj (f_name_156 m0 X) := by
  unfold f_name_156
  refine nj.wL h (fun X11 hX11 => ?_)
  exact nj.ret hX11
theorem nj_name_139 {a1 : Int32} {b0 : Int32} {X : St} (h : (X.1 0 4).toInt = 0) : nj (f_name_139 a1 b0 X) := by
  unfold f_name_139
  refine nj.wr h (by decide) (fun X9 hX9 => ?_)
  refine nj.ite ?_ ?_
  · refine nj.lt (fun y10 => ?_)
    exact nj_name_156 hX9
  · refine nj.lt (fun y12 => ?_)
    exact nj_name_156 hX9
theorem nj_name_115 {b0 : Int32} {X : St} (h : (X.1 0 4).toInt = 0) : nj (f_name_115 b0 X) := by
  unfold f_name_115
  refine nj.ite ?_ ?_
  · refine nj.lt (fun x8 => ?_)
    refine nj.ite ?_ ?_
    · exact nj_name_139 h
    · exact nj_name_139 h
  · exact nj_name_139 h
theorem nj_name_96 {X : St} (h : (X.1 0 4).toInt = 0) : nj (f_name_96 X) := by
  unfold f_name_96
  refine nj.lt (fun x4 => ?_)
  refine nj.ite ?_ ?_
  · refine nj.lt (fun y5 => ?_)
    refine nj.bd (nj_wordOf h) (fun x6 X7 hX7 => ?_)
    exact nj_name_115 hX7
  · exact nj_name_115 h
theorem nj_name_70 {r5 : St → Option (Int32 × St)} (hr5 : ∀ (X : St), (X.1 0 4).toInt = 0 → nj (r5 X)) {m0 : Int64} {X : St} (h : (X.1 0 4).toInt = 0) : nj (f_name_70 r5 m0 X) := by
  unfold f_name_70
  refine nj.wL h (fun X19 hX19 => ?_)
  refine nj.lt (fun x20 => ?_)
  refine nj.lt (fun x21 => ?_)
  refine nj.wr hX19 (by decide) (fun X22 hX22 => ?_)
  refine nj.lt (fun x23 => ?_)
  refine nj.lt (fun x24 => ?_)
  refine nj.wr hX22 (by decide) (fun X25 hX25 => ?_)
  exact hr5 _ hX25
theorem nj_name_5 (N : Nat) : ∀ (X : St), (X.1 0 4).toInt = 0 → nj (f_name_5 N X) := by
  unfold f_name_5
  refine lp_ind (P := fun (r : St → Option (Int32 × St)) => ∀ (X : St), (X.1 0 4).toInt = 0 → nj (r X)) (fun _ _ => nj.none) (fun r ih X h => ?_) N
  unfold f_name_5_s
  refine nj.lt (fun x2 => ?_)
  refine nj.lt (fun x3 => ?_)
  refine nj.ite ?_ ?_
  · exact nj_name_96 h
  · refine nj.lt (fun x13 => ?_)
    refine nj.ck ?_
    refine nj.lt (fun x14 => ?_)
    refine nj.bd (nj_letterOf h) (fun x15 X16 hX16 => ?_)
    refine nj.ite ?_ ?_
    · exact nj_name_96 hX16
    · refine nj.lt (fun x17 => ?_)
      refine nj.ite ?_ ?_
      · refine nj.lt (fun y18 => ?_)
        exact nj_name_70 ih hX16
      · refine nj.lt (fun y26 => ?_)
        refine nj.lt (fun y27 => ?_)
        refine nj.lt (fun x28 => ?_)
        refine nj.ck ?_
        refine nj.lt (fun x29 => ?_)
        refine nj.bd (nj_letterOf hX16) (fun x30 X31 hX31 => ?_)
        refine nj.lt (fun y32 => ?_)
        refine nj.lt (fun y33 => ?_)
        exact nj_name_70 ih hX31
theorem nj_name {X : St} (h : (X.1 0 4).toInt = 0) : nj (f_name X) := by
  unfold f_name
  refine nj.wr h (by decide) (fun X1 hX1 => ?_)
  exact nj_name_5 _ _ hX1
theorem nj_sign_70 {a1 : Int32} {X : St} (h : (X.1 0 4).toInt = 0) : nj (f_sign_70 a1 X) := by
  unfold f_sign_70
  refine nj.ite ?_ ?_
  · exact nj.ret h
  · refine nj.ite ?_ ?_
    · exact nj.ret h
    · refine nj.ite ?_ ?_
      · exact nj.ret h
      · refine nj.ite ?_ ?_
        · exact nj.ret h
        · refine nj.ite ?_ ?_
          · exact nj.ret h
          · refine nj.ite ?_ ?_
            · exact nj.ret h
            · refine nj.ite ?_ ?_
              · exact nj.ret h
              · refine nj.ite ?_ ?_
                · exact nj.ret h
                · refine nj.ite ?_ ?_
                  · exact nj.ret h
                  · refine nj.ite ?_ ?_
                    · exact nj.ret h
                    · refine nj.ite ?_ ?_
                      · exact nj.ret h
                      · refine nj.ite ?_ ?_
                        · exact nj.ret h
                        · refine nj.ite ?_ ?_
                          · exact nj.ret h
                          · refine nj.ite ?_ ?_
                            · exact nj.ret h
                            · refine nj.ite ?_ ?_
                              · exact nj.ret h
                              · refine nj.ite ?_ ?_
                                · exact nj.ret h
                                · refine nj.ite ?_ ?_
                                  · exact nj.ret h
                                  · refine nj.wr h (by decide) (fun X24 hX24 => ?_)
                                    exact nj.ret hX24
theorem nj_sign {p1 : Int32} {X : St} (h : (X.1 0 4).toInt = 0) : nj (f_sign p1 X) := by
  unfold f_sign
  refine nj.wr h (by decide) (fun X1 hX1 => ?_)
  refine nj.lt (fun y2 => ?_)
  refine nj.wL hX1 (fun X3 hX3 => ?_)
  refine nj.lt (fun x4 => ?_)
  refine nj.lt (fun x5 => ?_)
  refine nj.wr hX3 (by decide) (fun X6 hX6 => ?_)
  refine nj.ite ?_ ?_
  · refine nj.lt (fun x25 => ?_)
    refine nj.lt (fun x26 => ?_)
    refine nj.ite ?_ ?_
    · exact nj_sign_70 hX6
    · refine nj.lt (fun x27 => ?_)
      refine nj.ck ?_
      refine nj.lt (fun x28 => ?_)
      refine nj.ite ?_ ?_
      · refine nj.wL hX6 (fun X29 hX29 => ?_)
        refine nj.lt (fun x30 => ?_)
        refine nj.lt (fun x31 => ?_)
        refine nj.wr hX29 (by decide) (fun X32 hX32 => ?_)
        exact nj.ret hX32
      · exact nj_sign_70 hX6
  · exact nj_sign_70 hX6
theorem nj_next_194 {r122 : St → Option (Int32 × St)} (hr122 : ∀ (X : St), (X.1 0 4).toInt = 0 → nj (r122 X)) {m0 : Int64} {X : St} (h : (X.1 0 4).toInt = 0) : nj (f_next_194 r122 m0 X) := by
  unfold f_next_194
  refine nj.wL h (fun X31 hX31 => ?_)
  refine nj.lt (fun x32 => ?_)
  refine nj.lt (fun x33 => ?_)
  refine nj.wr hX31 (by decide) (fun X34 hX34 => ?_)
  exact hr122 _ hX34
theorem nj_next_122 (N : Nat) : ∀ (X : St), (X.1 0 4).toInt = 0 → nj (f_next_122 N X) := by
  unfold f_next_122
  refine lp_ind (P := fun (r : St → Option (Int32 × St)) => ∀ (X : St), (X.1 0 4).toInt = 0 → nj (r X)) (fun _ _ => nj.none) (fun r ih X h => ?_) N
  unfold f_next_122_s
  refine nj.lt (fun x16 => ?_)
  refine nj.lt (fun x17 => ?_)
  refine nj.ite ?_ ?_
  · exact nj.ret h
  · refine nj.lt (fun x18 => ?_)
    refine nj.ck ?_
    refine nj.lt (fun x19 => ?_)
    refine nj.bd (nj_in h) (fun x20 X21 hX21 => ?_)
    refine nj.ite ?_ ?_
    · exact nj.ret hX21
    · refine nj.lt (fun y22 => ?_)
      refine nj.lt (fun x23 => ?_)
      refine nj.ite ?_ ?_
      · refine nj.lt (fun y24 => ?_)
        refine nj.lt (fun y25 => ?_)
        refine nj.lt (fun x26 => ?_)
        refine nj.ck ?_
        refine nj.lt (fun x27 => ?_)
        refine nj.lt (fun y28 => ?_)
        refine nj.lt (fun y29 => ?_)
        refine nj.lt (fun y30 => ?_)
        exact nj_next_194 ih hX21
      · refine nj.lt (fun y35 => ?_)
        exact nj_next_194 ih hX21
theorem nj_next_52 {X : St} (h : (X.1 0 4).toInt = 0) : nj (f_next_52 X) := by
  unfold f_next_52
  refine nj.lt (fun x3 => ?_)
  refine nj.wr h (by decide) (fun X4 hX4 => ?_)
  refine nj.wL hX4 (fun X5 hX5 => ?_)
  refine nj.lt (fun x6 => ?_)
  refine nj.lt (fun x7 => ?_)
  refine nj.ite ?_ ?_
  · refine nj.wr hX5 (by decide) (fun X37 hX37 => ?_)
    exact nj.ret hX37
  · refine nj.lt (fun x8 => ?_)
    refine nj.ck ?_
    refine nj.lt (fun x9 => ?_)
    refine nj.bd (nj_letterOf hX5) (fun x10 X11 hX11 => ?_)
    refine nj.ite ?_ ?_
    · refine nj.bd (nj_in hX11) (fun x12 X13 hX13 => ?_)
      refine nj.ite ?_ ?_
      · refine nj.bd (nj_sign hX13) (fun _ X14 hX14 => ?_)
        exact nj.ret hX14
      · refine nj.wr hX13 (by decide) (fun X15 hX15 => ?_)
        exact nj_next_122 _ _ hX15
    · refine nj.bd (nj_name hX11) (fun _ X36 hX36 => ?_)
      exact nj.ret hX36
theorem nj_next_39 {r0 : St → Option (Int32 × St)} (hr0 : ∀ (X : St), (X.1 0 4).toInt = 0 → nj (r0 X)) {X : St} (h : (X.1 0 4).toInt = 0) : nj (f_next_39 r0 X) := by
  unfold f_next_39
  refine nj.lt (fun x40 => ?_)
  refine nj.lt (fun x41 => ?_)
  refine nj.wr h (by decide) (fun X42 hX42 => ?_)
  exact hr0 _ hX42
theorem nj_next_0 (N : Nat) : ∀ (X : St), (X.1 0 4).toInt = 0 → nj (f_next_0 N X) := by
  unfold f_next_0
  refine lp_ind (P := fun (r : St → Option (Int32 × St)) => ∀ (X : St), (X.1 0 4).toInt = 0 → nj (r X)) (fun _ _ => nj.none) (fun r ih X h => ?_) N
  unfold f_next_0_s
  refine nj.lt (fun x1 => ?_)
  refine nj.lt (fun x2 => ?_)
  refine nj.ite ?_ ?_
  · exact nj_next_52 h
  · refine nj.lt (fun x38 => ?_)
    refine nj.ck ?_
    refine nj.lt (fun x39 => ?_)
    refine nj.ite ?_ ?_
    · exact nj_next_39 ih h
    · refine nj.lt (fun x43 => ?_)
      refine nj.ck ?_
      refine nj.lt (fun x44 => ?_)
      refine nj.ite ?_ ?_
      · exact nj_next_39 ih h
      · exact nj_next_52 h
theorem nj_next {X : St} (h : (X.1 0 4).toInt = 0) : nj (f_next X) := by
  unfold f_next
  exact nj_next_0 _ _ h
theorem nj_isSign {p1 : Int32} {X : St} (h : (X.1 0 4).toInt = 0) : nj (f_isSign p1 X) := by
  unfold f_isSign
  refine nj.bd (nj_isWell h) (fun x1 X2 hX2 => ?_)
  refine nj.ite ?_ ?_
  · exact nj.ret hX2
  · refine nj.lt (fun x3 => ?_)
    refine nj.ite ?_ ?_
    · refine nj.lt (fun y4 => ?_)
      refine nj.lt (fun y5 => ?_)
      refine nj.lt (fun x6 => ?_)
      refine nj.ite ?_ ?_
      · exact nj.ret hX2
      · exact nj.ret hX2
    · exact nj.ret hX2
theorem nj_isWord {p1 : Int32} {X : St} (h : (X.1 0 4).toInt = 0) : nj (f_isWord p1 X) := by
  unfold f_isWord
  refine nj.bd (nj_isWell h) (fun x1 X2 hX2 => ?_)
  refine nj.ite ?_ ?_
  · exact nj.ret hX2
  · refine nj.lt (fun x3 => ?_)
    refine nj.ite ?_ ?_
    · refine nj.lt (fun y4 => ?_)
      refine nj.lt (fun y5 => ?_)
      refine nj.lt (fun x6 => ?_)
      refine nj.ite ?_ ?_
      · exact nj.ret hX2
      · exact nj.ret hX2
    · exact nj.ret hX2
theorem nj_takes {p1 : Int32} {X : St} (h : (X.1 0 4).toInt = 0) : nj (f_takes p1 X) := by
  unfold f_takes
  refine nj.bd (nj_isSign h) (fun x1 X2 hX2 => ?_)
  refine nj.ite ?_ ?_
  · refine nj.bd (nj_stray hX2) (fun _ X3 hX3 => ?_)
    exact nj.ret hX3
  · refine nj.bd (nj_next hX2) (fun _ X4 hX4 => ?_)
    exact nj.ret hX4
theorem nj_nests_18 {X : St} (h : (X.1 0 4).toInt = 0) : nj (f_nests_18 X) := by
  unfold f_nests_18
  refine nj.lt (fun x2 => ?_)
  refine nj.lt (fun x3 => ?_)
  refine nj.wr h (by decide) (fun X4 hX4 => ?_)
  exact nj.ret hX4
theorem nj_nests {X : St} (h : (X.1 0 4).toInt = 0) : nj (f_nests X) := by
  unfold f_nests
  refine nj.lt (fun x1 => ?_)
  refine nj.ite ?_ ?_
  · refine nj.lt (fun x5 => ?_)
    refine nj.bd (nj_fails h) (fun _ X6 hX6 => ?_)
    exact nj_nests_18 hX6
  · exact nj_nests_18 h
theorem nj_opens {p1 : Int32} {X : St} (h : (X.1 0 4).toInt = 0) : nj (f_opens p1 X) := by
  unfold f_opens
  refine nj.bd (nj_isSign h) (fun x1 X2 hX2 => ?_)
  refine nj.ite ?_ ?_
  · refine nj.bd (nj_stray hX2) (fun _ X7 hX7 => ?_)
    exact nj.ret hX7
  · refine nj.bd (nj_nests hX2) (fun _ X3 hX3 => ?_)
    refine nj.bd (nj_isWell hX3) (fun x4 X5 hX5 => ?_)
    refine nj.ite ?_ ?_
    · exact nj.ret hX5
    · refine nj.bd (nj_next hX5) (fun _ X6 hX6 => ?_)
      exact nj.ret hX6
theorem nj_closes {p1 : Int32} {X : St} (h : (X.1 0 4).toInt = 0) : nj (f_closes p1 X) := by
  unfold f_closes
  refine nj.bd (nj_takes h) (fun _ X1 hX1 => ?_)
  refine nj.lt (fun x2 => ?_)
  refine nj.lt (fun x3 => ?_)
  refine nj.wr hX1 (by decide) (fun X4 hX4 => ?_)
  exact nj.ret hX4
theorem nj_plainKind_40 {b0 : Int32} {X : St} (h : (X.1 0 4).toInt = 0) : nj (f_plainKind_40 b0 X) := by
  unfold f_plainKind_40
  refine nj.ite ?_ ?_
  · refine nj.bd (nj_next h) (fun _ X7 hX7 => ?_)
    exact nj.ret hX7
  · refine nj.bd (nj_stray h) (fun _ X8 hX8 => ?_)
    exact nj.ret hX8
theorem nj_plainKind {X : St} (h : (X.1 0 4).toInt = 0) : nj (f_plainKind X) := by
  unfold f_plainKind
  refine nj.bd (nj_isWord h) (fun x1 X2 hX2 => ?_)
  refine nj.ite ?_ ?_
  · refine nj.bd (nj_isWord hX2) (fun x3 X4 hX4 => ?_)
    refine nj.ite ?_ ?_
    · refine nj.bd (nj_isWord hX4) (fun x5 X6 hX6 => ?_)
      refine nj.ite ?_ ?_
      · exact nj_plainKind_40 hX6
      · exact nj_plainKind_40 hX6
    · exact nj_plainKind_40 hX4
  · exact nj_plainKind_40 hX2
theorem nj_fifth_50 {a1 : Int32} {b0 : Int32} {X : St} (h : (X.1 0 4).toInt = 0) : nj (f_fifth_50 a1 b0 X) := by
  unfold f_fifth_50
  refine nj.ite ?_ ?_
  · refine nj.ite ?_ ?_
    · exact nj.ret h
    · refine nj.lt (fun x3 => ?_)
      refine nj.bd (nj_fails h) (fun _ X4 hX4 => ?_)
      exact nj.ret hX4
  · exact nj.ret h
theorem nj_fifth_45 {a1 : Int32} {X : St} (h : (X.1 0 4).toInt = 0) : nj (f_fifth_45 a1 X) := by
  unfold f_fifth_45
  exact nj_fifth_50 h
theorem nj_fifth {p1 : Int32} {X : St} (h : (X.1 0 4).toInt = 0) : nj (f_fifth p1 X) := by
  unfold f_fifth
  refine nj.bd (nj_isSign h) (fun x1 X2 hX2 => ?_)
  refine nj.ite ?_ ?_
  · refine nj.bd (nj_isWord hX2) (fun x5 X6 hX6 => ?_)
    refine nj.ite ?_ ?_
    · refine nj.bd (nj_isWord hX6) (fun x7 X8 hX8 => ?_)
      refine nj.ite ?_ ?_
      · refine nj.bd (nj_isWord hX8) (fun x9 X10 hX10 => ?_)
        refine nj.ite ?_ ?_
        · refine nj.bd (nj_isWord hX10) (fun x11 X12 hX12 => ?_)
          refine nj.ite ?_ ?_
          · exact nj_fifth_50 hX12
          · exact nj_fifth_45 hX12
        · exact nj_fifth_45 hX10
      · exact nj_fifth_45 hX8
    · exact nj_fifth_45 hX6
  · exact nj_fifth_45 hX2
theorem nj_kind_346 {a2 : Int32} {X : St} (h : (X.1 0 4).toInt = 0) : nj (f_kind_346 a2 X) := by
  unfold f_kind_346
  refine nj.ite ?_ ?_
  · exact nj.ret h
  · exact nj.ret h
theorem nj_kind_343 {r11 : Int32 → Int32 → Int32 → St → Option (Int32 × St)} (hr11 : ∀ (q0 : Int32) (q1 : Int32) (q2 : Int32) (X : St), (X.1 0 4).toInt = 0 → nj (r11 q0 q1 q2 X)) {a1 : Int32} {a2 : Int32} {a3 : Int32} {X : St} (h : (X.1 0 4).toInt = 0) : nj (f_kind_343 r11 a1 a2 a3 X) := by
  unfold f_kind_343
  exact hr11 _ _ _ _ h
theorem nj_kind_185 {r11 : Int32 → Int32 → Int32 → St → Option (Int32 × St)} (hr11 : ∀ (q0 : Int32) (q1 : Int32) (q2 : Int32) (X : St), (X.1 0 4).toInt = 0 → nj (r11 q0 q1 q2 X)) {a1 : Int32} {a3 : Int32} {b0 : Int32} {X : St} (h : (X.1 0 4).toInt = 0) : nj (f_kind_185 r11 a1 a3 b0 X) := by
  unfold f_kind_185
  refine nj.lt (fun x41 => ?_)
  exact nj_kind_343 hr11 h
theorem nj_kind_84 {r11 : Int32 → Int32 → Int32 → St → Option (Int32 × St)} (hr11 : ∀ (q0 : Int32) (q1 : Int32) (q2 : Int32) (X : St), (X.1 0 4).toInt = 0 → nj (r11 q0 q1 q2 X)) {a1 : Int32} {a2 : Int32} {a3 : Int32} {X : St} (h : (X.1 0 4).toInt = 0) : nj (f_kind_84 r11 a1 a2 a3 X) := by
  unfold f_kind_84
  refine nj.ck ?_
  refine nj.wr h (by rintro ⟨a_, -⟩; exact absurd a_ (by decide)) (fun X53 hX53 => ?_)
  refine nj.lt (fun x54 => ?_)
  refine nj.ck ?_
  refine nj.wr hX53 (by rintro ⟨a_, -⟩; exact absurd a_ (by decide)) (fun X55 hX55 => ?_)
  refine nj.lt (fun x56 => ?_)
  refine nj.bd (nj_isSign hX55) (fun x57 X58 hX58 => ?_)
  refine nj.ite ?_ ?_
  · exact hr11 _ _ _ _ hX58
  · refine nj.bd (nj_closes hX58) (fun _ X59 hX59 => ?_)
    refine nj.lt (fun x60 => ?_)
    refine nj.ck ?_
    refine nj.wr hX59 (by rintro ⟨a_, -⟩; exact absurd a_ (by decide)) (fun X61 hX61 => ?_)
    exact hr11 _ _ _ _ hX61
theorem nj_kind_11 (N : Nat) : ∀ (a1 : Int32) (a2 : Int32) (a3 : Int32) (X : St), (X.1 0 4).toInt = 0 → nj (f_kind_11 N a1 a2 a3 X) := by
  unfold f_kind_11
  refine lp_ind (P := fun (r : Int32 → Int32 → Int32 → St → Option (Int32 × St)) => ∀ (a1 : Int32) (a2 : Int32) (a3 : Int32) (X : St), (X.1 0 4).toInt = 0 → nj (r a1 a2 a3 X)) (fun _ _ _ _ _ => nj.none) (fun r ih a1 a2 a3 X h => ?_) N
  unfold f_kind_11_s
  refine nj.bd (nj_isWell h) (fun x2 X3 hX3 => ?_)
  refine nj.ite ?_ ?_
  · exact nj_kind_346 hX3
  · refine nj.ite ?_ ?_
    · refine nj.ite ?_ ?_
      · refine nj.ite ?_ ?_
        · exact ih _ _ _ _ hX3
        · refine nj.lt (fun x4 => ?_)
          refine nj.ck ?_
          refine nj.lt (fun x5 => ?_)
          refine nj.ite ?_ ?_
          · refine nj.bd (nj_closes hX3) (fun _ X38 hX38 => ?_)
            refine nj.bd (nj_isWell hX38) (fun x39 X40 hX40 => ?_)
            refine nj.ite ?_ ?_
            · exact nj_kind_185 ih hX40
            · refine nj.bd (nj_rowOf hX40) (fun x42 X43 hX43 => ?_)
              exact nj_kind_185 ih hX43
          · refine nj.ck ?_
            refine nj.lt (fun x6 => ?_)
            refine nj.ite ?_ ?_
            · refine nj.lt (fun x24 => ?_)
              refine nj.ck ?_
              refine nj.wr hX3 (by rintro ⟨a_, -⟩; exact absurd a_ (by decide)) (fun X25 hX25 => ?_)
              refine nj.lt (fun x26 => ?_)
              refine nj.lt (fun x27 => ?_)
              refine nj.wr hX25 (by decide) (fun X28 hX28 => ?_)
              refine nj.bd (nj_isSign hX28) (fun x29 X30 hX30 => ?_)
              refine nj.ite ?_ ?_
              · refine nj.bd (nj_closes hX30) (fun _ X31 hX31 => ?_)
                refine nj.ck ?_
                refine nj.wr hX31 (by rintro ⟨a_, -⟩; exact absurd a_ (by decide)) (fun X32 hX32 => ?_)
                exact nj_kind_343 ih hX32
              · refine nj.bd (nj_next hX30) (fun _ X33 hX33 => ?_)
                refine nj.lt (fun x34 => ?_)
                refine nj.ck ?_
                refine nj.lt (fun x35 => ?_)
                refine nj.lt (fun x36 => ?_)
                refine nj.bd (nj_fifth hX33) (fun _ X37 hX37 => ?_)
                exact nj_kind_343 ih hX37
            · refine nj.lt (fun x7 => ?_)
              refine nj.ck ?_
              refine nj.wr hX3 (by rintro ⟨a_, -⟩; exact absurd a_ (by decide)) (fun X8 hX8 => ?_)
              refine nj.lt (fun x9 => ?_)
              refine nj.lt (fun x10 => ?_)
              refine nj.wr hX8 (by decide) (fun X11 hX11 => ?_)
              refine nj.lt (fun x12 => ?_)
              refine nj.lt (fun x13 => ?_)
              refine nj.wr hX11 (by decide) (fun X14 hX14 => ?_)
              refine nj.ck ?_
              refine nj.lt (fun x15 => ?_)
              refine nj.lt (fun x16 => ?_)
              refine nj.ck ?_
              refine nj.lt (fun x17 => ?_)
              refine nj.lt (fun x18 => ?_)
              refine nj.bd (nj_kindOf hX14) (fun x19 X20 hX20 => ?_)
              refine nj.ck ?_
              refine nj.lt (fun x21 => ?_)
              refine nj.wr hX20 (by decide) (fun X22 hX22 => ?_)
              refine nj.lt (fun x23 => ?_)
              exact nj_kind_343 ih hX22
      · refine nj.bd (nj_isSign hX3) (fun x44 X45 hX45 => ?_)
        refine nj.ite ?_ ?_
        · refine nj.bd (nj_isWord hX45) (fun x46 X47 hX47 => ?_)
          refine nj.ite ?_ ?_
          · refine nj.bd (nj_plainKind hX47) (fun x48 X49 hX49 => ?_)
            exact ih _ _ _ _ hX49
          · refine nj.bd (nj_nests hX47) (fun _ X50 hX50 => ?_)
            refine nj.bd (nj_isWell hX50) (fun x51 X52 hX52 => ?_)
            refine nj.ite ?_ ?_
            · exact nj_kind_84 ih hX52
            · refine nj.bd (nj_next hX52) (fun _ X62 hX62 => ?_)
              refine nj.bd (nj_opens hX62) (fun _ X63 hX63 => ?_)
              exact nj_kind_84 ih hX63
        · refine nj.bd (nj_opens hX45) (fun _ X64 hX64 => ?_)
          refine nj.ck ?_
          refine nj.wr hX64 (by rintro ⟨a_, -⟩; exact absurd a_ (by decide)) (fun X65 hX65 => ?_)
          refine nj.lt (fun x66 => ?_)
          exact ih _ _ _ _ hX65
    · exact nj_kind_346 hX3
theorem nj_kind {X : St} (h : (X.1 0 4).toInt = 0) : nj (f_kind X) := by
  unfold f_kind
  refine nj.wr h (by decide) (fun X1 hX1 => ?_)
  exact nj_kind_11 _ _ _ _ _ hX1
theorem nj_make {p1 : Int32} {p2 : Int32} {X : St} (h : (X.1 0 4).toInt = 0) : nj (f_make p1 p2 X) := by
  unfold f_make
  refine nj.lt (fun x1 => ?_)
  refine nj.lt (fun x2 => ?_)
  refine nj.lt (fun x3 => ?_)
  refine nj.wr h (by decide) (fun X4 hX4 => ?_)
  refine nj.ck ?_
  refine nj.wr hX4 (by rintro ⟨a_, -⟩; exact absurd a_ (by decide)) (fun X5 hX5 => ?_)
  refine nj.ck ?_
  refine nj.wr hX5 (by rintro ⟨a_, -⟩; exact absurd a_ (by decide)) (fun X6 hX6 => ?_)
  refine nj.ck ?_
  refine nj.wr hX6 (by rintro ⟨a_, -⟩; exact absurd a_ (by decide)) (fun X7 hX7 => ?_)
  refine nj.ck ?_
  refine nj.wr hX7 (by rintro ⟨a_, -⟩; exact absurd a_ (by decide)) (fun X8 hX8 => ?_)
  refine nj.ck ?_
  refine nj.wr hX8 (by rintro ⟨a_, -⟩; exact absurd a_ (by decide)) (fun X9 hX9 => ?_)
  refine nj.ck ?_
  refine nj.wr hX9 (by rintro ⟨a_, -⟩; exact absurd a_ (by decide)) (fun X10 hX10 => ?_)
  refine nj.ck ?_
  refine nj.wr hX10 (by rintro ⟨a_, -⟩; exact absurd a_ (by decide)) (fun X11 hX11 => ?_)
  refine nj.ck ?_
  refine nj.wr hX11 (by rintro ⟨a_, -⟩; exact absurd a_ (by decide)) (fun X12 hX12 => ?_)
  refine nj.ck ?_
  refine nj.wr hX12 (by rintro ⟨a_, -⟩; exact absurd a_ (by decide)) (fun X13 hX13 => ?_)
  refine nj.ck ?_
  refine nj.wL hX13 (fun X14 hX14 => ?_)
  refine nj.ck ?_
  refine nj.wr hX14 (by rintro ⟨a_, -⟩; exact absurd a_ (by decide)) (fun X15 hX15 => ?_)
  exact nj.ret hX15
theorem nj_enter {p1 : Int32} {p2 : Int32} {X : St} (h : (X.1 0 4).toInt = 0) : nj (f_enter p1 p2 X) := by
  unfold f_enter
  refine nj.lt (fun x1 => ?_)
  refine nj.ck ?_
  refine nj.wr h (by rintro ⟨a_, -⟩; exact absurd a_ (by decide)) (fun X2 hX2 => ?_)
  refine nj.lt (fun x3 => ?_)
  refine nj.ck ?_
  refine nj.wr hX2 (by rintro ⟨a_, -⟩; exact absurd a_ (by decide)) (fun X4 hX4 => ?_)
  refine nj.lt (fun x5 => ?_)
  refine nj.ck ?_
  refine nj.wr hX4 (by rintro ⟨a_, -⟩; exact absurd a_ (by decide)) (fun X6 hX6 => ?_)
  refine nj.lt (fun x7 => ?_)
  refine nj.lt (fun x8 => ?_)
  refine nj.ck ?_
  refine nj.wr hX6 (by rintro ⟨a_, -⟩; exact absurd a_ (by decide)) (fun X9 hX9 => ?_)
  refine nj.lt (fun x10 => ?_)
  refine nj.lt (fun x11 => ?_)
  refine nj.wr hX9 (by decide) (fun X12 hX12 => ?_)
  exact nj.ret hX12
theorem nj_isBeginning {X : St} (h : (X.1 0 4).toInt = 0) : nj (f_isBeginning X) := by
  unfold f_isBeginning
  refine nj.lt (fun x1 => ?_)
  refine nj.ite ?_ ?_
  · exact nj.ret h
  · refine nj.lt (fun x2 => ?_)
    refine nj.ite ?_ ?_
    · exact nj.ret h
    · refine nj.lt (fun x3 => ?_)
      refine nj.ite ?_ ?_
      · refine nj.lt (fun y15 => ?_)
        refine nj.lt (fun x16 => ?_)
        refine nj.ite ?_ ?_
        · exact nj.ret h
        · refine nj.lt (fun y17 => ?_)
          refine nj.lt (fun x18 => ?_)
          refine nj.ite ?_ ?_
          · exact nj.ret h
          · refine nj.lt (fun y19 => ?_)
            refine nj.lt (fun x20 => ?_)
            refine nj.ite ?_ ?_
            · exact nj.ret h
            · refine nj.lt (fun y21 => ?_)
              refine nj.lt (fun x22 => ?_)
              refine nj.ite ?_ ?_
              · exact nj.ret h
              · refine nj.lt (fun y23 => ?_)
                refine nj.lt (fun x24 => ?_)
                refine nj.ite ?_ ?_
                · exact nj.ret h
                · refine nj.lt (fun y25 => ?_)
                  refine nj.lt (fun x26 => ?_)
                  refine nj.ite ?_ ?_
                  · exact nj.ret h
                  · refine nj.lt (fun y27 => ?_)
                    refine nj.lt (fun x28 => ?_)
                    refine nj.ite ?_ ?_
                    · exact nj.ret h
                    · exact nj.ret h
      · refine nj.lt (fun x4 => ?_)
        refine nj.ite ?_ ?_
        · refine nj.lt (fun y5 => ?_)
          refine nj.lt (fun x6 => ?_)
          refine nj.ite ?_ ?_
          · exact nj.ret h
          · refine nj.lt (fun y7 => ?_)
            refine nj.lt (fun x8 => ?_)
            refine nj.ite ?_ ?_
            · exact nj.ret h
            · refine nj.lt (fun y9 => ?_)
              refine nj.lt (fun x10 => ?_)
              refine nj.ite ?_ ?_
              · exact nj.ret h
              · refine nj.lt (fun y11 => ?_)
                refine nj.lt (fun x12 => ?_)
                refine nj.ite ?_ ?_
                · exact nj.ret h
                · refine nj.lt (fun y13 => ?_)
                  refine nj.lt (fun x14 => ?_)
                  refine nj.ite ?_ ?_
                  · exact nj.ret h
                  · exact nj.ret h
        · exact nj.ret h
theorem nj_beginsLet_91 {a1 : Int32} {X : St} (h : (X.1 0 4).toInt = 0) : nj (f_beginsLet_91 a1 X) := by
  unfold f_beginsLet_91
  refine nj.bd (nj_takes h) (fun _ X16 hX16 => ?_)
  refine nj.bd (nj_enter hX16) (fun _ X17 hX17 => ?_)
  exact nj.ret hX17
theorem nj_beginsLet {X : St} (h : (X.1 0 4).toInt = 0) : nj (f_beginsLet X) := by
  unfold f_beginsLet
  refine nj.lt (fun x1 => ?_)
  refine nj.bd (nj_make h) (fun x2 X3 hX3 => ?_)
  refine nj.bd (nj_nests hX3) (fun _ X4 hX4 => ?_)
  refine nj.bd (nj_isWell hX4) (fun x5 X6 hX6 => ?_)
  refine nj.ite ?_ ?_
  · exact nj.ret hX6
  · refine nj.bd (nj_next hX6) (fun _ X7 hX7 => ?_)
    refine nj.lt (fun x8 => ?_)
    refine nj.ite ?_ ?_
    · refine nj.lt (fun y9 => ?_)
      refine nj.ck ?_
      refine nj.wL hX7 (fun X10 hX10 => ?_)
      refine nj.bd (nj_next hX10) (fun _ X11 hX11 => ?_)
      refine nj.ck ?_
      refine nj.wr hX11 (by rintro ⟨a_, -⟩; exact absurd a_ (by decide)) (fun X12 hX12 => ?_)
      refine nj.ck ?_
      refine nj.wr hX12 (by rintro ⟨a_, -⟩; exact absurd a_ (by decide)) (fun X13 hX13 => ?_)
      refine nj.bd (nj_isSign hX13) (fun x14 X15 hX15 => ?_)
      refine nj.ite ?_ ?_
      · exact nj_beginsLet_91 hX15
      · refine nj.bd (nj_next hX15) (fun _ X18 hX18 => ?_)
        refine nj.bd (nj_kind hX18) (fun x19 X20 hX20 => ?_)
        refine nj.ck ?_
        refine nj.wr hX20 (by rintro ⟨a_, -⟩; exact absurd a_ (by decide)) (fun X21 hX21 => ?_)
        exact nj_beginsLet_91 hX21
    · refine nj.bd (nj_stray hX7) (fun _ X22 hX22 => ?_)
      exact nj.ret hX22
theorem nj_begins_65 {b0 : Int32} {X : St} (h : (X.1 0 4).toInt = 0) : nj (f_begins_65 b0 X) := by
  unfold f_begins_65
  refine nj.bd (nj_isBeginning h) (fun x5 X6 hX6 => ?_)
  refine nj.ite ?_ ?_
  · refine nj.bd (nj_stray hX6) (fun _ X21 hX21 => ?_)
    exact nj.ret hX21
  · refine nj.ite ?_ ?_
    · refine nj.bd (nj_isWord hX6) (fun x7 X8 hX8 => ?_)
      refine nj.ite ?_ ?_
      · refine nj.bd (nj_isWord hX8) (fun x9 X10 hX10 => ?_)
        refine nj.ite ?_ ?_
        · refine nj.wr hX10 (by decide) (fun X11 hX11 => ?_)
          exact nj.ret hX11
        · refine nj.lt (fun x12 => ?_)
          refine nj.bd (nj_make hX10) (fun x13 X14 hX14 => ?_)
          refine nj.bd (nj_nests hX14) (fun _ X15 hX15 => ?_)
          refine nj.bd (nj_next hX15) (fun _ X16 hX16 => ?_)
          refine nj.bd (nj_enter hX16) (fun _ X17 hX17 => ?_)
          exact nj.ret hX17
      · refine nj.bd (nj_beginsLet hX8) (fun _ X18 hX18 => ?_)
        exact nj.ret hX18
    · refine nj.lt (fun x19 => ?_)
      refine nj.bd (nj_fails hX6) (fun _ X20 hX20 => ?_)
      exact nj.ret hX20
theorem nj_begins_64 {X : St} (h : (X.1 0 4).toInt = 0) : nj (f_begins_64 X) := by
  unfold f_begins_64
  exact nj_begins_65 h
theorem nj_begins_60 {X : St} (h : (X.1 0 4).toInt = 0) : nj (f_begins_60 X) := by
  unfold f_begins_60
  exact nj_begins_65 h
theorem nj_begins_33 {a1 : Int32} {X : St} (h : (X.1 0 4).toInt = 0) : nj (f_begins_33 a1 X) := by
  unfold f_begins_33
  refine nj.ck ?_
  refine nj.lt (fun x4 => ?_)
  refine nj.ite ?_ ?_
  · refine nj.ck ?_
    refine nj.lt (fun x22 => ?_)
    refine nj.ck ?_
    refine nj.lt (fun x23 => ?_)
    refine nj.ite ?_ ?_
    · exact nj_begins_60 h
    · exact nj_begins_64 h
  · exact nj_begins_64 h
theorem nj_begins {X : St} (h : (X.1 0 4).toInt = 0) : nj (f_begins X) := by
  unfold f_begins
  refine nj.lt (fun x1 => ?_)
  refine nj.lt (fun x2 => ?_)
  refine nj.ck ?_
  refine nj.lt (fun x3 => ?_)
  refine nj.ite ?_ ?_
  · refine nj.ck ?_
    refine nj.lt (fun x24 => ?_)
    refine nj.ck ?_
    refine nj.lt (fun x25 => ?_)
    refine nj.ite ?_ ?_
    · exact nj_begins_60 h
    · exact nj_begins_33 h
  · exact nj_begins_33 h
theorem nj_done {p1 : Int32} {X : St} (h : (X.1 0 4).toInt = 0) : nj (f_done p1 X) := by
  unfold f_done
  refine nj.wr h (by decide) (fun X1 hX1 => ?_)
  refine nj.wr hX1 (by decide) (fun X2 hX2 => ?_)
  exact nj.ret hX2
theorem nj_number {p1 : Int32} {X : St} (h : (X.1 0 4).toInt = 0) : nj (f_number p1 X) := by
  unfold f_number
  refine nj.lt (fun y1 => ?_)
  refine nj.lt (fun x2 => ?_)
  refine nj.ite ?_ ?_
  · refine nj.bd (nj_make h) (fun x3 X4 hX4 => ?_)
    refine nj.lt (fun y5 => ?_)
    refine nj.lt (fun x6 => ?_)
    refine nj.ck ?_
    refine nj.wr hX4 (by rintro ⟨a_, -⟩; exact absurd a_ (by decide)) (fun X7 hX7 => ?_)
    refine nj.bd (nj_next hX7) (fun _ X8 hX8 => ?_)
    refine nj.bd (nj_done hX8) (fun _ X9 hX9 => ?_)
    exact nj.ret hX9
  · refine nj.bd (nj_fails h) (fun _ X10 hX10 => ?_)
    exact nj.ret hX10
theorem nj_named_48 {a1 : Int32} {a2 : Int32} {b0 : Int32} {X : St} (h : (X.1 0 4).toInt = 0) : nj (f_named_48 a1 a2 b0 X) := by
  unfold f_named_48
  refine nj.bd (nj_make h) (fun x2 X3 hX3 => ?_)
  refine nj.ck ?_
  refine nj.wr hX3 (by rintro ⟨a_, -⟩; exact absurd a_ (by decide)) (fun X4 hX4 => ?_)
  refine nj.lt (fun y5 => ?_)
  refine nj.ck ?_
  refine nj.wL hX4 (fun X6 hX6 => ?_)
  refine nj.bd (nj_next hX6) (fun _ X7 hX7 => ?_)
  refine nj.bd (nj_done hX7) (fun _ X8 hX8 => ?_)
  exact nj.ret hX8
theorem nj_named_31 {r4 : Int32 → Int32 → Int32 → St → Option (Int32 × St)} (hr4 : ∀ (q0 : Int32) (q1 : Int32) (q2 : Int32) (X : St), (X.1 0 4).toInt = 0 → nj (r4 q0 q1 q2 X)) {a1 : Int32} {a3 : Int32} {b0 : Int32} {X : St} (h : (X.1 0 4).toInt = 0) : nj (f_named_31 r4 a1 a3 b0 X) := by
  unfold f_named_31
  refine nj.lt (fun x12 => ?_)
  exact hr4 _ _ _ _ h
theorem nj_named_4 (N : Nat) : ∀ (a1 : Int32) (a2 : Int32) (a3 : Int32) (X : St), (X.1 0 4).toInt = 0 → nj (f_named_4 N a1 a2 a3 X) := by
  unfold f_named_4
  refine lp_ind (P := fun (r : Int32 → Int32 → Int32 → St → Option (Int32 × St)) => ∀ (a1 : Int32) (a2 : Int32) (a3 : Int32) (X : St), (X.1 0 4).toInt = 0 → nj (r a1 a2 a3 X)) (fun _ _ _ _ _ => nj.none) (fun r ih a1 a2 a3 X h => ?_) N
  unfold f_named_4_s
  refine nj.lt (fun x1 => ?_)
  refine nj.ite ?_ ?_
  · refine nj.ite ?_ ?_
    · exact nj_named_48 h
    · exact nj_named_48 h
  · refine nj.ck ?_
    refine nj.lt (fun y9 => ?_)
    refine nj.lt (fun y10 => ?_)
    refine nj.lt (fun x11 => ?_)
    refine nj.ite ?_ ?_
    · exact nj_named_31 ih h
    · exact nj_named_31 ih h
theorem nj_named {p1 : Int32} {X : St} (h : (X.1 0 4).toInt = 0) : nj (f_named p1 X) := by
  unfold f_named
  exact nj_named_4 _ _ _ _ _ h
theorem nj_opened {p1 : Int32} {p2 : Int32} {X : St} (h : (X.1 0 4).toInt = 0) : nj (f_opened p1 p2 X) := by
  unfold f_opened
  refine nj.bd (nj_isWell h) (fun x1 X2 hX2 => ?_)
  refine nj.ite ?_ ?_
  · exact nj.ret hX2
  · refine nj.bd (nj_enter hX2) (fun _ X3 hX3 => ?_)
    refine nj.wr hX3 (by decide) (fun X4 hX4 => ?_)
    exact nj.ret hX4
theorem nj_operand_42 {a1 : Int32} {b0 : Int32} {X : St} (h : (X.1 0 4).toInt = 0) : nj (f_operand_42 a1 b0 X) := by
  unfold f_operand_42
  refine nj.bd (nj_make h) (fun x6 X7 hX7 => ?_)
  refine nj.bd (nj_nests hX7) (fun _ X8 hX8 => ?_)
  refine nj.bd (nj_isWell hX8) (fun x9 X10 hX10 => ?_)
  refine nj.ite ?_ ?_
  · exact nj.ret hX10
  · refine nj.bd (nj_next hX10) (fun _ X11 hX11 => ?_)
    refine nj.bd (nj_enter hX11) (fun _ X12 hX12 => ?_)
    exact nj.ret hX12
theorem nj_operand_23 {a1 : Int32} {X : St} (h : (X.1 0 4).toInt = 0) : nj (f_operand_23 a1 X) := by
  unfold f_operand_23
  refine nj.lt (fun y4 => ?_)
  refine nj.lt (fun x5 => ?_)
  refine nj.ite ?_ ?_
  · exact nj_operand_42 h
  · exact nj_operand_42 h
theorem nj_operand_141 {a2 : Int32} {b0 : Int32} {b1 : Int32} {X : St} (h : (X.1 0 4).toInt = 0) : nj (f_operand_141 a2 b0 b1 X) := by
  unfold f_operand_141
  refine nj.ck ?_
  refine nj.wr h (by rintro ⟨a_, -⟩; exact absurd a_ (by decide)) (fun X23 hX23 => ?_)
  refine nj.bd (nj_next hX23) (fun _ X24 hX24 => ?_)
  refine nj.bd (nj_done hX24) (fun _ X25 hX25 => ?_)
  exact nj.ret hX25
theorem nj_operand_113 {a1 : Int32} {X : St} (h : (X.1 0 4).toInt = 0) : nj (f_operand_113 a1 X) := by
  unfold f_operand_113
  refine nj.bd (nj_make h) (fun x19 X20 hX20 => ?_)
  refine nj.lt (fun y21 => ?_)
  refine nj.lt (fun x22 => ?_)
  refine nj.ite ?_ ?_
  · exact nj_operand_141 hX20
  · exact nj_operand_141 hX20
theorem nj_operand_318 {a3 : Int32} {b0 : Int32} {X : St} (h : (X.1 0 4).toInt = 0) : nj (f_operand_318 a3 b0 X) := by
  unfold f_operand_318
  refine nj.bd (nj_opened h) (fun _ X40 hX40 => ?_)
  exact nj.ret hX40
theorem nj_operand_289 {a1 : Int32} {a2 : Int32} {b0 : Int32} {X : St} (h : (X.1 0 4).toInt = 0) : nj (f_operand_289 a1 a2 b0 X) := by
  unfold f_operand_289
  refine nj.bd (nj_make h) (fun x36 X37 hX37 => ?_)
  refine nj.bd (nj_next hX37) (fun _ X38 hX38 => ?_)
  refine nj.bd (nj_opens hX38) (fun _ X39 hX39 => ?_)
  refine nj.ite ?_ ?_
  · exact nj_operand_318 hX39
  · exact nj_operand_318 hX39
theorem nj_operand_259 {a1 : Int32} {X : St} (h : (X.1 0 4).toInt = 0) : nj (f_operand_259 a1 X) := by
  unfold f_operand_259
  refine nj.lt (fun y34 => ?_)
  refine nj.lt (fun x35 => ?_)
  refine nj.ite ?_ ?_
  · exact nj_operand_289 h
  · refine nj.ite ?_ ?_
    · exact nj_operand_289 h
    · exact nj_operand_289 h
theorem nj_operand_177 {a1 : Int32} {X : St} (h : (X.1 0 4).toInt = 0) : nj (f_operand_177 a1 X) := by
  unfold f_operand_177
  refine nj.bd (nj_isSign h) (fun x30 X31 hX31 => ?_)
  refine nj.ite ?_ ?_
  · refine nj.bd (nj_isWord hX31) (fun x32 X33 hX33 => ?_)
    refine nj.ite ?_ ?_
    · refine nj.bd (nj_isWord hX33) (fun x41 X42 hX42 => ?_)
      refine nj.ite ?_ ?_
      · refine nj.bd (nj_isWord hX42) (fun x43 X44 hX44 => ?_)
        refine nj.ite ?_ ?_
        · refine nj.bd (nj_isSign hX44) (fun x45 X46 hX46 => ?_)
          refine nj.ite ?_ ?_
          · refine nj.bd (nj_isSign hX46) (fun x47 X48 hX48 => ?_)
            refine nj.ite ?_ ?_
            · refine nj.bd (nj_stray hX48) (fun _ X49 hX49 => ?_)
              exact nj.ret hX49
            · refine nj.bd (nj_make hX48) (fun x50 X51 hX51 => ?_)
              refine nj.bd (nj_opens hX51) (fun _ X52 hX52 => ?_)
              refine nj.bd (nj_opened hX52) (fun _ X53 hX53 => ?_)
              exact nj.ret hX53
          · refine nj.bd (nj_make hX46) (fun x54 X55 hX55 => ?_)
            refine nj.bd (nj_opens hX55) (fun _ X56 hX56 => ?_)
            refine nj.bd (nj_opened hX56) (fun _ X57 hX57 => ?_)
            exact nj.ret hX57
        · exact nj_operand_259 hX44
      · exact nj_operand_259 hX42
    · exact nj_operand_259 hX33
  · refine nj.bd (nj_make hX31) (fun x58 X59 hX59 => ?_)
    refine nj.bd (nj_opens hX59) (fun _ X60 hX60 => ?_)
    refine nj.bd (nj_isSign hX60) (fun x61 X62 hX62 => ?_)
    refine nj.ite ?_ ?_
    · refine nj.bd (nj_opened hX62) (fun _ X63 hX63 => ?_)
      exact nj.ret hX63
    · refine nj.bd (nj_closes hX62) (fun _ X64 hX64 => ?_)
      refine nj.bd (nj_done hX64) (fun _ X65 hX65 => ?_)
      exact nj.ret hX65
theorem nj_operand_95 {a1 : Int32} {X : St} (h : (X.1 0 4).toInt = 0) : nj (f_operand_95 a1 X) := by
  unfold f_operand_95
  refine nj.bd (nj_isWord h) (fun x17 X18 hX18 => ?_)
  refine nj.ite ?_ ?_
  · refine nj.bd (nj_isWord hX18) (fun x26 X27 hX27 => ?_)
    refine nj.ite ?_ ?_
    · refine nj.bd (nj_isWell hX27) (fun x28 X29 hX29 => ?_)
      refine nj.ite ?_ ?_
      · exact nj_operand_177 hX29
      · refine nj.lt (fun x66 => ?_)
        refine nj.ite ?_ ?_
        · refine nj.bd (nj_named hX29) (fun _ X67 hX67 => ?_)
          exact nj.ret hX67
        · exact nj_operand_177 hX29
    · exact nj_operand_113 hX27
  · exact nj_operand_113 hX18
theorem nj_operand {X : St} (h : (X.1 0 4).toInt = 0) : nj (f_operand X) := by
  unfold f_operand
  refine nj.lt (fun x1 => ?_)
  refine nj.bd (nj_isSign h) (fun x2 X3 hX3 => ?_)
  refine nj.ite ?_ ?_
  · refine nj.bd (nj_isSign hX3) (fun x13 X14 hX14 => ?_)
    refine nj.ite ?_ ?_
    · refine nj.bd (nj_isWell hX14) (fun x15 X16 hX16 => ?_)
      refine nj.ite ?_ ?_
      · exact nj_operand_95 hX16
      · refine nj.lt (fun x68 => ?_)
        refine nj.ite ?_ ?_
        · refine nj.bd (nj_number hX16) (fun _ X69 hX69 => ?_)
          exact nj.ret hX69
        · exact nj_operand_95 hX16
    · exact nj_operand_23 hX14
  · exact nj_operand_23 hX3
theorem nj_behind_214 {a3 : Int32} {b0 : Int32} {X : St} (h : (X.1 0 4).toInt = 0) : nj (f_behind_214 a3 b0 X) := by
  unfold f_behind_214
  refine nj.bd (nj_opened h) (fun _ X17 hX17 => ?_)
  exact nj.ret hX17
theorem nj_behind_201 {a3 : Int32} {a4 : Int32} {X : St} (h : (X.1 0 4).toInt = 0) : nj (f_behind_201 a3 a4 X) := by
  unfold f_behind_201
  refine nj.ite ?_ ?_
  · exact nj_behind_214 h
  · exact nj_behind_214 h
theorem nj_behind_170 {a3 : Int32} {a4 : Int32} {b0 : Int32} {X : St} (h : (X.1 0 4).toInt = 0) : nj (f_behind_170 a3 a4 b0 X) := by
  unfold f_behind_170
  refine nj.bd (nj_opens h) (fun _ X16 hX16 => ?_)
  refine nj.ite ?_ ?_
  · exact nj_behind_201 hX16
  · refine nj.bd (nj_isSign hX16) (fun x18 X19 hX19 => ?_)
    refine nj.ite ?_ ?_
    · exact nj_behind_201 hX19
    · refine nj.bd (nj_closes hX19) (fun _ X20 hX20 => ?_)
      refine nj.bd (nj_done hX20) (fun _ X21 hX21 => ?_)
      exact nj.ret hX21
theorem nj_behind_155 {a3 : Int32} {b0 : Int32} {X : St} (h : (X.1 0 4).toInt = 0) : nj (f_behind_155 a3 b0 X) := by
  unfold f_behind_155
  refine nj.ite ?_ ?_
  · exact nj_behind_170 h
  · exact nj_behind_170 h
theorem nj_behind_139 {a3 : Int32} {X : St} (h : (X.1 0 4).toInt = 0) : nj (f_behind_139 a3 X) := by
  unfold f_behind_139
  refine nj.ck ?_
  refine nj.lt (fun x15 => ?_)
  refine nj.ite ?_ ?_
  · exact nj_behind_155 h
  · exact nj_behind_155 h
theorem nj_behind_118 {a3 : Int32} {b0 : Int32} {b1 : Int32} {X : St} (h : (X.1 0 4).toInt = 0) : nj (f_behind_118 a3 b0 b1 X) := by
  unfold f_behind_118
  refine nj.ck ?_
  refine nj.wr h (by rintro ⟨a_, -⟩; exact absurd a_ (by decide)) (fun X13 hX13 => ?_)
  refine nj.ck ?_
  refine nj.lt (fun x14 => ?_)
  refine nj.ite ?_ ?_
  · exact nj_behind_139 hX13
  · refine nj.lt (fun x22 => ?_)
    refine nj.bd (nj_fails hX13) (fun _ X23 hX23 => ?_)
    exact nj_behind_139 hX23
theorem nj_behind_70 {a1 : Int32} {a2 : Int32} {b0 : Int32} {X : St} (h : (X.1 0 4).toInt = 0) : nj (f_behind_70 a1 a2 b0 X) := by
  unfold f_behind_70
  refine nj.ck ?_
  refine nj.lt (fun x7 => ?_)
  refine nj.bd (nj_make h) (fun x8 X9 hX9 => ?_)
  refine nj.lt (fun x10 => ?_)
  refine nj.ck ?_
  refine nj.wr hX9 (by rintro ⟨a_, -⟩; exact absurd a_ (by decide)) (fun X11 hX11 => ?_)
  refine nj.ck ?_
  refine nj.wr hX11 (by rintro ⟨a_, -⟩; exact absurd a_ (by decide)) (fun X12 hX12 => ?_)
  refine nj.ite ?_ ?_
  · exact nj_behind_118 hX12
  · refine nj.ck ?_
    refine nj.lt (fun x24 => ?_)
    refine nj.lt (fun x25 => ?_)
    exact nj_behind_118 hX12
theorem nj_behind_51 {a1 : Int32} {a2 : Int32} {X : St} (h : (X.1 0 4).toInt = 0) : nj (f_behind_51 a1 a2 X) := by
  unfold f_behind_51
  refine nj.lt (fun y5 => ?_)
  refine nj.lt (fun x6 => ?_)
  refine nj.ite ?_ ?_
  · exact nj_behind_70 h
  · exact nj_behind_70 h
theorem nj_behind_288 {X : St} (h : (X.1 0 4).toInt = 0) : nj (f_behind_288 X) := by
  unfold f_behind_288
  refine nj.wr h (by decide) (fun X30 hX30 => ?_)
  exact nj.ret hX30
theorem nj_behind_32 {a1 : Int32} {b0 : Int32} {X : St} (h : (X.1 0 4).toInt = 0) : nj (f_behind_32 a1 b0 X) := by
  unfold f_behind_32
  refine nj.bd (nj_isSign h) (fun x3 X4 hX4 => ?_)
  refine nj.ite ?_ ?_
  · refine nj.bd (nj_isSign hX4) (fun x26 X27 hX27 => ?_)
    refine nj.ite ?_ ?_
    · refine nj.bd (nj_isWell hX27) (fun x28 X29 hX29 => ?_)
      refine nj.ite ?_ ?_
      · exact nj_behind_288 hX29
      · refine nj.lt (fun x31 => ?_)
        refine nj.ite ?_ ?_
        · refine nj.lt (fun y32 => ?_)
          refine nj.lt (fun x33 => ?_)
          refine nj.ite ?_ ?_
          · refine nj.ck ?_
            refine nj.lt (fun x34 => ?_)
            refine nj.ite ?_ ?_
            · refine nj.bd (nj_nests hX29) (fun _ X35 hX35 => ?_)
              refine nj.bd (nj_isWell hX35) (fun x36 X37 hX37 => ?_)
              refine nj.ite ?_ ?_
              · exact nj.ret hX37
              · refine nj.bd (nj_next hX37) (fun _ X38 hX38 => ?_)
                refine nj.bd (nj_enter hX38) (fun _ X39 hX39 => ?_)
                refine nj.wr hX39 (by decide) (fun X40 hX40 => ?_)
                exact nj.ret hX40
            · exact nj_behind_288 hX29
          · exact nj_behind_288 hX29
        · exact nj_behind_288 hX29
    · exact nj_behind_51 hX27
  · exact nj_behind_51 hX4
theorem nj_behind_27 {a1 : Int32} {X : St} (h : (X.1 0 4).toInt = 0) : nj (f_behind_27 a1 X) := by
  unfold f_behind_27
  exact nj_behind_32 h
theorem nj_behind {X : St} (h : (X.1 0 4).toInt = 0) : nj (f_behind X) := by
  unfold f_behind
  refine nj.lt (fun x1 => ?_)
  refine nj.ck ?_
  refine nj.lt (fun x2 => ?_)
  refine nj.ite ?_ ?_
  · exact nj_behind_27 h
  · refine nj.ck ?_
    refine nj.lt (fun x41 => ?_)
    refine nj.ite ?_ ?_
    · exact nj_behind_27 h
    · exact nj_behind_32 h
theorem nj_levelOf {q0 : Int64} {X : St} (h : (X.1 0 4).toInt = 0) : nj (f_levelOf q0 X) := by
  unfold f_levelOf
  refine nj.lt (fun x1 => ?_)
  refine nj.ite ?_ ?_
  · exact nj.ret h
  · refine nj.lt (fun x2 => ?_)
    refine nj.ite ?_ ?_
    · exact nj.ret h
    · refine nj.lt (fun x3 => ?_)
      refine nj.ite ?_ ?_
      · exact nj.ret h
      · refine nj.lt (fun x4 => ?_)
        refine nj.ite ?_ ?_
        · exact nj.ret h
        · refine nj.lt (fun x5 => ?_)
          refine nj.ite ?_ ?_
          · exact nj.ret h
          · refine nj.lt (fun x6 => ?_)
            refine nj.ite ?_ ?_
            · exact nj.ret h
            · refine nj.lt (fun x7 => ?_)
              refine nj.ite ?_ ?_
              · exact nj.ret h
              · exact nj.ret h
theorem nj_second_0 (N : Nat) : ∀ (a1 : Int32) (X : St), (X.1 0 4).toInt = 0 → nj (f_second_0 N a1 X) := by
  unfold f_second_0
  refine lp_ind (P := fun (r : Int32 → St → Option (Int32 × St)) => ∀ (a1 : Int32) (X : St), (X.1 0 4).toInt = 0 → nj (r a1 X)) (fun _ _ _ => nj.none) (fun r ih a1 X h => ?_) N
  unfold f_second_0_s
  refine nj.lt (fun x1 => ?_)
  refine nj.lt (fun x2 => ?_)
  refine nj.ck ?_
  refine nj.lt (fun x3 => ?_)
  refine nj.ite ?_ ?_
  · refine nj.lt (fun x4 => ?_)
    refine nj.lt (fun x5 => ?_)
    refine nj.ck ?_
    refine nj.lt (fun x6 => ?_)
    refine nj.ck ?_
    refine nj.lt (fun x7 => ?_)
    refine nj.lt (fun y8 => ?_)
    refine nj.bd (nj_levelOf h) (fun x9 X10 hX10 => ?_)
    refine nj.ite ?_ ?_
    · exact nj.ret hX10
    · refine nj.lt (fun x11 => ?_)
      refine nj.lt (fun x12 => ?_)
      refine nj.wr hX10 (by decide) (fun X13 hX13 => ?_)
      refine nj.lt (fun x14 => ?_)
      refine nj.ck ?_
      refine nj.lt (fun x15 => ?_)
      refine nj.lt (fun x16 => ?_)
      refine nj.ck ?_
      refine nj.wr hX13 (by rintro ⟨a_, -⟩; exact absurd a_ (by decide)) (fun X17 hX17 => ?_)
      refine nj.wr hX17 (by decide) (fun X18 hX18 => ?_)
      exact ih _ _ hX18
  · exact nj.ret h
theorem nj_second {p1 : Int32} {X : St} (h : (X.1 0 4).toInt = 0) : nj (f_second p1 X) := by
  unfold f_second
  exact nj_second_0 _ _ _ h
theorem nj_word {p1 : Int32} {X : St} (h : (X.1 0 4).toInt = 0) : nj (f_word p1 X) := by
  unfold f_word
  refine nj.bd (nj_isWord h) (fun x1 X2 hX2 => ?_)
  refine nj.ite ?_ ?_
  · refine nj.bd (nj_stray hX2) (fun _ X3 hX3 => ?_)
    exact nj.ret hX3
  · refine nj.bd (nj_next hX2) (fun _ X4 hX4 => ?_)
    exact nj.ret hX4
theorem nj_leaves {p1 : Int32} {X : St} (h : (X.1 0 4).toInt = 0) : nj (f_leaves p1 X) := by
  unfold f_leaves
  refine nj.lt (fun x1 => ?_)
  refine nj.lt (fun x2 => ?_)
  refine nj.wr h (by decide) (fun X3 hX3 => ?_)
  refine nj.lt (fun x4 => ?_)
  refine nj.lt (fun x5 => ?_)
  refine nj.wr hX3 (by decide) (fun X6 hX6 => ?_)
  refine nj.wr hX6 (by decide) (fun X7 hX7 => ?_)
  refine nj.wr hX7 (by decide) (fun X8 hX8 => ?_)
  exact nj.ret hX8
theorem nj_shuts {p1 : Int32} {p2 : Int32} {X : St} (h : (X.1 0 4).toInt = 0) : nj (f_shuts p1 p2 X) := by
  unfold f_shuts
  refine nj.bd (nj_closes h) (fun _ X1 hX1 => ?_)
  refine nj.lt (fun x2 => ?_)
  refine nj.lt (fun x3 => ?_)
  refine nj.wr hX1 (by decide) (fun X4 hX4 => ?_)
  refine nj.bd (nj_done hX4) (fun _ X5 hX5 => ?_)
  exact nj.ret hX5
theorem nj_add_45 {a1 : Int32} {a2 : Int32} {X : St} (h : (X.1 0 4).toInt = 0) : nj (f_add_45 a1 a2 X) := by
  unfold f_add_45
  refine nj.lt (fun x6 => ?_)
  refine nj.ck ?_
  refine nj.wr h (by rintro ⟨a_, -⟩; exact absurd a_ (by decide)) (fun X7 hX7 => ?_)
  refine nj.ck ?_
  refine nj.lt (fun x8 => ?_)
  refine nj.lt (fun x9 => ?_)
  refine nj.ck ?_
  refine nj.wr hX7 (by rintro ⟨a_, -⟩; exact absurd a_ (by decide)) (fun X10 hX10 => ?_)
  exact nj.ret hX10
theorem nj_add {p1 : Int32} {X : St} (h : (X.1 0 4).toInt = 0) : nj (f_add p1 X) := by
  unfold f_add
  refine nj.ck ?_
  refine nj.lt (fun x1 => ?_)
  refine nj.ck ?_
  refine nj.lt (fun x2 => ?_)
  refine nj.ite ?_ ?_
  · refine nj.lt (fun x11 => ?_)
    refine nj.ck ?_
    refine nj.wr h (by rintro ⟨a_, -⟩; exact absurd a_ (by decide)) (fun X12 hX12 => ?_)
    exact nj_add_45 hX12
  · refine nj.ck ?_
    refine nj.lt (fun x3 => ?_)
    refine nj.lt (fun x4 => ?_)
    refine nj.ck ?_
    refine nj.wr h (by rintro ⟨a_, -⟩; exact absurd a_ (by decide)) (fun X5 hX5 => ?_)
    exact nj_add_45 hX5
theorem nj_endsWithin_291 {a2 : Int32} {b0 : Int32} {X : St} (h : (X.1 0 4).toInt = 0) : nj (f_endsWithin_291 a2 b0 X) := by
  unfold f_endsWithin_291
  refine nj.bd (nj_shuts h) (fun _ X40 hX40 => ?_)
  exact nj.ret hX40
theorem nj_endsWithin_245 {a1 : Int32} {a2 : Int32} {a3 : Int32} {b0 : Int32} {X : St} (h : (X.1 0 4).toInt = 0) : nj (f_endsWithin_245 a1 a2 a3 b0 X) := by
  unfold f_endsWithin_245
  refine nj.bd (nj_isSign h) (fun x37 X38 hX38 => ?_)
  refine nj.ite ?_ ?_
  · refine nj.ite ?_ ?_
    · refine nj.ck ?_
      refine nj.lt (fun x39 => ?_)
      refine nj.ite ?_ ?_
      · exact nj_endsWithin_291 hX38
      · exact nj_endsWithin_291 hX38
    · exact nj_endsWithin_291 hX38
  · refine nj.bd (nj_next hX38) (fun _ X41 hX41 => ?_)
    refine nj.wr hX41 (by decide) (fun X42 hX42 => ?_)
    exact nj.ret hX42
theorem nj_endsWithin_232 {a1 : Int32} {a2 : Int32} {b0 : Int32} {X : St} (h : (X.1 0 4).toInt = 0) : nj (f_endsWithin_232 a1 a2 b0 X) := by
  unfold f_endsWithin_232
  refine nj.ite ?_ ?_
  · exact nj_endsWithin_245 h
  · exact nj_endsWithin_245 h
theorem nj_endsWithin {p1 : Int32} {p2 : Int32} {X : St} (h : (X.1 0 4).toInt = 0) : nj (f_endsWithin p1 p2 X) := by
  unfold f_endsWithin
  refine nj.ck ?_
  refine nj.lt (fun x1 => ?_)
  refine nj.ite ?_ ?_
  · refine nj.lt (fun x3 => ?_)
    refine nj.ck ?_
    refine nj.wr h (by rintro ⟨a_, -⟩; exact absurd a_ (by decide)) (fun X4 hX4 => ?_)
    refine nj.bd (nj_shuts hX4) (fun _ X5 hX5 => ?_)
    exact nj.ret hX5
  · refine nj.ite ?_ ?_
    · refine nj.lt (fun x7 => ?_)
      refine nj.ck ?_
      refine nj.wr h (by rintro ⟨a_, -⟩; exact absurd a_ (by decide)) (fun X8 hX8 => ?_)
      refine nj.bd (nj_takes hX8) (fun _ X9 hX9 => ?_)
      refine nj.ck ?_
      refine nj.wr hX9 (by rintro ⟨a_, -⟩; exact absurd a_ (by decide)) (fun X10 hX10 => ?_)
      refine nj.wr hX10 (by decide) (fun X11 hX11 => ?_)
      exact nj.ret hX11
    · refine nj.ite ?_ ?_
      · refine nj.lt (fun x13 => ?_)
        refine nj.ck ?_
        refine nj.wr h (by rintro ⟨a_, -⟩; exact absurd a_ (by decide)) (fun X14 hX14 => ?_)
        refine nj.bd (nj_shuts hX14) (fun _ X15 hX15 => ?_)
        exact nj.ret hX15
      · refine nj.ite ?_ ?_
        · refine nj.lt (fun x17 => ?_)
          refine nj.ck ?_
          refine nj.wr h (by rintro ⟨a_, -⟩; exact absurd a_ (by decide)) (fun X18 hX18 => ?_)
          refine nj.bd (nj_shuts hX18) (fun _ X19 hX19 => ?_)
          exact nj.ret hX19
        · refine nj.ite ?_ ?_
          · refine nj.lt (fun x21 => ?_)
            refine nj.ck ?_
            refine nj.wr h (by rintro ⟨a_, -⟩; exact absurd a_ (by decide)) (fun X22 hX22 => ?_)
            refine nj.bd (nj_shuts hX22) (fun _ X23 hX23 => ?_)
            exact nj.ret hX23
          · refine nj.ite ?_ ?_
            · refine nj.lt (fun x25 => ?_)
              refine nj.ck ?_
              refine nj.wr h (by rintro ⟨a_, -⟩; exact absurd a_ (by decide)) (fun X26 hX26 => ?_)
              refine nj.lt (fun x27 => ?_)
              refine nj.lt (fun x28 => ?_)
              refine nj.wr hX26 (by decide) (fun X29 hX29 => ?_)
              refine nj.lt (fun x30 => ?_)
              refine nj.lt (fun x31 => ?_)
              refine nj.wr hX29 (by decide) (fun X32 hX32 => ?_)
              refine nj.wr hX32 (by decide) (fun X33 hX33 => ?_)
              refine nj.wr hX33 (by decide) (fun X34 hX34 => ?_)
              exact nj.ret hX34
            · refine nj.bd (nj_add h) (fun _ X35 hX35 => ?_)
              refine nj.ck ?_
              refine nj.lt (fun x36 => ?_)
              refine nj.ite ?_ ?_
              · exact nj_endsWithin_232 hX35
              · exact nj_endsWithin_232 hX35
theorem nj_endsOne {X : St} (h : (X.1 0 4).toInt = 0) : nj (f_endsOne X) := by
  unfold f_endsOne
  refine nj.lt (fun x1 => ?_)
  refine nj.lt (fun x2 => ?_)
  refine nj.ck ?_
  refine nj.lt (fun x3 => ?_)
  refine nj.ck ?_
  refine nj.lt (fun x4 => ?_)
  refine nj.ite ?_ ?_
  · refine nj.lt (fun x6 => ?_)
    refine nj.lt (fun x7 => ?_)
    refine nj.wr h (by decide) (fun X8 hX8 => ?_)
    exact nj.ret hX8
  · refine nj.ite ?_ ?_
    · refine nj.lt (fun x10 => ?_)
      refine nj.ck ?_
      refine nj.wr h (by rintro ⟨a_, -⟩; exact absurd a_ (by decide)) (fun X11 hX11 => ?_)
      refine nj.bd (nj_word hX11) (fun _ X12 hX12 => ?_)
      refine nj.lt (fun x13 => ?_)
      refine nj.ck ?_
      refine nj.lt (fun y14 => ?_)
      refine nj.ck ?_
      refine nj.wL hX12 (fun X15 hX15 => ?_)
      refine nj.lt (fun x16 => ?_)
      refine nj.ck ?_
      refine nj.wr hX15 (by rintro ⟨a_, -⟩; exact absurd a_ (by decide)) (fun X17 hX17 => ?_)
      refine nj.lt (fun x18 => ?_)
      refine nj.lt (fun x19 => ?_)
      refine nj.wr hX17 (by decide) (fun X20 hX20 => ?_)
      refine nj.ck ?_
      refine nj.wr hX20 (by rintro ⟨a_, -⟩; exact absurd a_ (by decide)) (fun X21 hX21 => ?_)
      refine nj.wr hX21 (by decide) (fun X22 hX22 => ?_)
      exact nj.ret hX22
    · refine nj.ite ?_ ?_
      · refine nj.lt (fun x24 => ?_)
        refine nj.ck ?_
        refine nj.wr h (by rintro ⟨a_, -⟩; exact absurd a_ (by decide)) (fun X25 hX25 => ?_)
        refine nj.lt (fun x26 => ?_)
        refine nj.lt (fun x27 => ?_)
        refine nj.wr hX25 (by decide) (fun X28 hX28 => ?_)
        refine nj.bd (nj_leaves hX28) (fun _ X29 hX29 => ?_)
        exact nj.ret hX29
      · refine nj.ite ?_ ?_
        · refine nj.lt (fun x31 => ?_)
          refine nj.ck ?_
          refine nj.wr h (by rintro ⟨a_, -⟩; exact absurd a_ (by decide)) (fun X32 hX32 => ?_)
          refine nj.bd (nj_word hX32) (fun _ X33 hX33 => ?_)
          refine nj.ck ?_
          refine nj.wr hX33 (by rintro ⟨a_, -⟩; exact absurd a_ (by decide)) (fun X34 hX34 => ?_)
          refine nj.wr hX34 (by decide) (fun X35 hX35 => ?_)
          exact nj.ret hX35
        · refine nj.ite ?_ ?_
          · refine nj.lt (fun x37 => ?_)
            refine nj.ck ?_
            refine nj.wr h (by rintro ⟨a_, -⟩; exact absurd a_ (by decide)) (fun X38 hX38 => ?_)
            refine nj.bd (nj_word hX38) (fun _ X39 hX39 => ?_)
            refine nj.ck ?_
            refine nj.wr hX39 (by rintro ⟨a_, -⟩; exact absurd a_ (by decide)) (fun X40 hX40 => ?_)
            refine nj.wr hX40 (by decide) (fun X41 hX41 => ?_)
            exact nj.ret hX41
          · refine nj.ite ?_ ?_
            · refine nj.lt (fun x43 => ?_)
              refine nj.ck ?_
              refine nj.wr h (by rintro ⟨a_, -⟩; exact absurd a_ (by decide)) (fun X44 hX44 => ?_)
              refine nj.bd (nj_leaves hX44) (fun _ X45 hX45 => ?_)
              exact nj.ret hX45
            · refine nj.bd (nj_endsWithin h) (fun _ X46 hX46 => ?_)
              exact nj.ret hX46
theorem nj_signs_144 {X : St} (h : (X.1 0 4).toInt = 0) : nj (f_signs_144 X) := by
  unfold f_signs_144
  refine nj.bd (nj_second h) (fun _ X6 hX6 => ?_)
  refine nj.bd (nj_endsOne hX6) (fun _ X7 hX7 => ?_)
  exact nj.ret hX7
theorem nj_signs_284 {a4 : Int32} {X : St} (h : (X.1 0 4).toInt = 0) : nj (f_signs_284 a4 X) := by
  unfold f_signs_284
  refine nj.bd (nj_enter h) (fun _ X20 hX20 => ?_)
  refine nj.bd (nj_next hX20) (fun _ X21 hX21 => ?_)
  refine nj.wr hX21 (by decide) (fun X22 hX22 => ?_)
  exact nj.ret hX22
theorem nj_signs_262 {a4 : Int32} {b0 : Int32} {b1 : Int32} {X : St} (h : (X.1 0 4).toInt = 0) : nj (f_signs_262 a4 b0 b1 X) := by
  unfold f_signs_262
  refine nj.ck ?_
  refine nj.wr h (by rintro ⟨a_, -⟩; exact absurd a_ (by decide)) (fun X18 hX18 => ?_)
  refine nj.ck ?_
  refine nj.lt (fun x19 => ?_)
  refine nj.ite ?_ ?_
  · exact nj_signs_284 hX18
  · refine nj.lt (fun x23 => ?_)
    refine nj.bd (nj_fails hX18) (fun _ X24 hX24 => ?_)
    exact nj_signs_284 hX24
theorem nj_signs_261 {a4 : Int32} {b0 : Int32} {X : St} (h : (X.1 0 4).toInt = 0) : nj (f_signs_261 a4 b0 X) := by
  unfold f_signs_261
  exact nj_signs_262 h
theorem nj_signs_172 {a1 : Int32} {a3 : Int32} {b0 : Int32} {X : St} (h : (X.1 0 4).toInt = 0) : nj (f_signs_172 a1 a3 b0 X) := by
  unfold f_signs_172
  refine nj.ck ?_
  refine nj.lt (fun x9 => ?_)
  refine nj.bd (nj_make h) (fun x10 X11 hX11 => ?_)
  refine nj.lt (fun x12 => ?_)
  refine nj.ck ?_
  refine nj.wr hX11 (by rintro ⟨a_, -⟩; exact absurd a_ (by decide)) (fun X13 hX13 => ?_)
  refine nj.lt (fun y14 => ?_)
  refine nj.lt (fun x15 => ?_)
  refine nj.ck ?_
  refine nj.wr hX13 (by rintro ⟨a_, -⟩; exact absurd a_ (by decide)) (fun X16 hX16 => ?_)
  refine nj.ck ?_
  refine nj.wr hX16 (by rintro ⟨a_, -⟩; exact absurd a_ (by decide)) (fun X17 hX17 => ?_)
  refine nj.ite ?_ ?_
  · exact nj_signs_261 hX17
  · refine nj.ck ?_
    refine nj.lt (fun x25 => ?_)
    refine nj.ite ?_ ?_
    · refine nj.ck ?_
      refine nj.lt (fun x26 => ?_)
      refine nj.lt (fun y27 => ?_)
      refine nj.bd (nj_levelOf hX17) (fun x28 X29 hX29 => ?_)
      refine nj.ite ?_ ?_
      · refine nj.ck ?_
        refine nj.lt (fun x30 => ?_)
        refine nj.lt (fun x31 => ?_)
        exact nj_signs_262 hX29
      · exact nj_signs_261 hX29
    · exact nj_signs_261 hX17
theorem nj_signs_135 {a1 : Int32} {b0 : Int32} {X : St} (h : (X.1 0 4).toInt = 0) : nj (f_signs_135 a1 b0 X) := by
  unfold f_signs_135
  refine nj.ite ?_ ?_
  · exact nj_signs_144 h
  · refine nj.ite ?_ ?_
    · refine nj.lt (fun x8 => ?_)
      refine nj.ite ?_ ?_
      · exact nj_signs_172 h
      · exact nj_signs_172 h
    · exact nj_signs_144 h
theorem nj_signs_134 {a1 : Int32} {X : St} (h : (X.1 0 4).toInt = 0) : nj (f_signs_134 a1 X) := by
  unfold f_signs_134
  exact nj_signs_135 h
theorem nj_signs_109 {a1 : Int32} {X : St} (h : (X.1 0 4).toInt = 0) : nj (f_signs_109 a1 X) := by
  unfold f_signs_109
  refine nj.ite ?_ ?_
  · refine nj.lt (fun x32 => ?_)
    refine nj.lt (fun x33 => ?_)
    refine nj.ck ?_
    refine nj.lt (fun x34 => ?_)
    refine nj.ite ?_ ?_
    · exact nj_signs_135 h
    · exact nj_signs_134 h
  · exact nj_signs_134 h
theorem nj_signs_106 {a1 : Int32} {b0 : Int32} {X : St} (h : (X.1 0 4).toInt = 0) : nj (f_signs_106 a1 b0 X) := by
  unfold f_signs_106
  refine nj.bd (nj_second h) (fun _ X35 hX35 => ?_)
  exact nj_signs_109 hX35
theorem nj_signs_90 {b0 : Int32} {X : St} (h : (X.1 0 4).toInt = 0) : nj (f_signs_90 b0 X) := by
  unfold f_signs_90
  refine nj.ite ?_ ?_
  · exact nj_signs_109 h
  · refine nj.ite ?_ ?_
    · exact nj_signs_106 h
    · exact nj_signs_106 h
theorem nj_signs_89 {X : St} (h : (X.1 0 4).toInt = 0) : nj (f_signs_89 X) := by
  unfold f_signs_89
  exact nj_signs_90 h
theorem nj_signs_0 (N : Nat) : ∀ (X : St), (X.1 0 4).toInt = 0 → nj (f_signs_0 N X) := by
  unfold f_signs_0
  refine lp_ind (P := fun (r : St → Option (Int32 × St)) => ∀ (X : St), (X.1 0 4).toInt = 0 → nj (r X)) (fun _ _ => nj.none) (fun r ih X h => ?_) N
  unfold f_signs_0_s
  refine nj.lt (fun x1 => ?_)
  refine nj.lt (fun x2 => ?_)
  refine nj.ck ?_
  refine nj.lt (fun x3 => ?_)
  refine nj.ite ?_ ?_
  · refine nj.lt (fun x40 => ?_)
    refine nj.lt (fun x41 => ?_)
    refine nj.wr h (by decide) (fun X42 hX42 => ?_)
    refine nj.lt (fun x43 => ?_)
    refine nj.lt (fun x44 => ?_)
    refine nj.wr hX42 (by decide) (fun X45 hX45 => ?_)
    refine nj.lt (fun x46 => ?_)
    refine nj.ck ?_
    refine nj.lt (fun x47 => ?_)
    refine nj.lt (fun x48 => ?_)
    refine nj.ck ?_
    refine nj.wr hX45 (by rintro ⟨a_, -⟩; exact absurd a_ (by decide)) (fun X49 hX49 => ?_)
    refine nj.wr hX49 (by decide) (fun X50 hX50 => ?_)
    exact ih _ hX50
  · refine nj.bd (nj_isWell h) (fun x4 X5 hX5 => ?_)
    refine nj.ite ?_ ?_
    · exact nj_signs_89 hX5
    · refine nj.lt (fun x36 => ?_)
      refine nj.ite ?_ ?_
      · refine nj.lt (fun y37 => ?_)
        refine nj.bd (nj_levelOf hX5) (fun x38 X39 hX39 => ?_)
        exact nj_signs_90 hX39
      · exact nj_signs_89 hX5
theorem nj_signs {X : St} (h : (X.1 0 4).toInt = 0) : nj (f_signs X) := by
  unfold f_signs
  exact nj_signs_0 _ _ h
theorem nj_expression_21 (N : Nat) : ∀ (X : St), (X.1 0 4).toInt = 0 → nj (f_expression_21 N X) := by
  unfold f_expression_21
  refine lp_ind (P := fun (r : St → Option (Int32 × St)) => ∀ (X : St), (X.1 0 4).toInt = 0 → nj (r X)) (fun _ _ => nj.none) (fun r ih X h => ?_) N
  unfold f_expression_21_s
  refine nj.bd (nj_isWell h) (fun x5 X6 hX6 => ?_)
  refine nj.ite ?_ ?_
  · refine nj.lt (fun x7 => ?_)
    exact nj.ret hX6
  · refine nj.lt (fun x8 => ?_)
    refine nj.ite ?_ ?_
    · refine nj.lt (fun x9 => ?_)
      exact nj.ret hX6
    · refine nj.lt (fun x10 => ?_)
      refine nj.ite ?_ ?_
      · refine nj.bd (nj_begins hX6) (fun _ X12 hX12 => ?_)
        exact ih _ hX12
      · refine nj.ite ?_ ?_
        · refine nj.bd (nj_operand hX6) (fun _ X14 hX14 => ?_)
          exact ih _ hX14
        · refine nj.ite ?_ ?_
          · refine nj.bd (nj_behind hX6) (fun _ X16 hX16 => ?_)
            exact ih _ hX16
          · refine nj.ite ?_ ?_
            · refine nj.bd (nj_signs hX6) (fun _ X18 hX18 => ?_)
              exact ih _ hX18
            · refine nj.bd (nj_endsOne hX6) (fun _ X19 hX19 => ?_)
              exact ih _ hX19
theorem nj_expression {X : St} (h : (X.1 0 4).toInt = 0) : nj (f_expression X) := by
  unfold f_expression
  refine nj.wr h (by decide) (fun X1 hX1 => ?_)
  refine nj.bd (nj_enter hX1) (fun _ X2 hX2 => ?_)
  refine nj.wr hX2 (by decide) (fun X3 hX3 => ?_)
  refine nj.wr hX3 (by decide) (fun X4 hX4 => ?_)
  exact nj_expression_21 _ _ hX4
theorem nj_param_15 {X : St} (h : (X.1 0 4).toInt = 0) : nj (f_param_15 X) := by
  unfold f_param_15
  refine nj.bd (nj_stray h) (fun _ X3 hX3 => ?_)
  exact nj.ret hX3
theorem nj_param_76 {a1 : Int32} {X : St} (h : (X.1 0 4).toInt = 0) : nj (f_param_76 a1 X) := by
  unfold f_param_76
  refine nj.bd (nj_isWell h) (fun x7 X8 hX8 => ?_)
  refine nj.ite ?_ ?_
  · exact nj.ret hX8
  · refine nj.lt (fun x9 => ?_)
    refine nj.lt (fun y10 => ?_)
    refine nj.ck ?_
    refine nj.wL hX8 (fun X11 hX11 => ?_)
    refine nj.lt (fun x12 => ?_)
    refine nj.lt (fun x13 => ?_)
    refine nj.wr hX11 (by decide) (fun X14 hX14 => ?_)
    refine nj.lt (fun x15 => ?_)
    refine nj.ck ?_
    refine nj.wr hX14 (by rintro ⟨a_, -⟩; exact absurd a_ (by decide)) (fun X16 hX16 => ?_)
    refine nj.lt (fun x17 => ?_)
    refine nj.lt (fun x18 => ?_)
    refine nj.lt (fun x19 => ?_)
    refine nj.lt (fun x20 => ?_)
    refine nj.ck ?_
    refine nj.wr hX16 (by rintro ⟨a_, -⟩; exact absurd a_ (by decide)) (fun X21 hX21 => ?_)
    refine nj.bd (nj_next hX21) (fun _ X22 hX22 => ?_)
    refine nj.bd (nj_isSign hX22) (fun x23 X24 hX24 => ?_)
    refine nj.ite ?_ ?_
    · exact nj.ret hX24
    · refine nj.bd (nj_next hX24) (fun _ X25 hX25 => ?_)
      refine nj.lt (fun x26 => ?_)
      refine nj.lt (fun x27 => ?_)
      refine nj.lt (fun x28 => ?_)
      refine nj.lt (fun x29 => ?_)
      refine nj.bd (nj_kind hX25) (fun x30 X31 hX31 => ?_)
      refine nj.ck ?_
      refine nj.wr hX31 (by rintro ⟨a_, -⟩; exact absurd a_ (by decide)) (fun X32 hX32 => ?_)
      exact nj.ret hX32
theorem nj_param_53 {r22 : Int32 → Int32 → St → Option (Int32 × St)} (hr22 : ∀ (q0 : Int32) (q1 : Int32) (X : St), (X.1 0 4).toInt = 0 → nj (r22 q0 q1 X)) {a1 : Int32} {a2 : Int32} {X : St} (h : (X.1 0 4).toInt = 0) : nj (f_param_53 r22 a1 a2 X) := by
  unfold f_param_53
  refine nj.lt (fun x38 => ?_)
  exact hr22 _ _ _ h
theorem nj_param_22 (N : Nat) : ∀ (a1 : Int32) (a2 : Int32) (X : St), (X.1 0 4).toInt = 0 → nj (f_param_22 N a1 a2 X) := by
  unfold f_param_22
  refine lp_ind (P := fun (r : Int32 → Int32 → St → Option (Int32 × St)) => ∀ (a1 : Int32) (a2 : Int32) (X : St), (X.1 0 4).toInt = 0 → nj (r a1 a2 X)) (fun _ _ _ _ => nj.none) (fun r ih a1 a2 X h => ?_) N
  unfold f_param_22_s
  refine nj.lt (fun x5 => ?_)
  refine nj.ite ?_ ?_
  · refine nj.lt (fun x6 => ?_)
    refine nj.ite ?_ ?_
    · refine nj.lt (fun x33 => ?_)
      refine nj.bd (nj_fails h) (fun _ X34 hX34 => ?_)
      exact nj_param_76 hX34
    · exact nj_param_76 h
  · refine nj.ck ?_
    refine nj.lt (fun y35 => ?_)
    refine nj.lt (fun y36 => ?_)
    refine nj.lt (fun x37 => ?_)
    refine nj.ite ?_ ?_
    · refine nj.lt (fun x39 => ?_)
      refine nj.bd (nj_fails h) (fun _ X40 hX40 => ?_)
      exact nj_param_53 ih hX40
    · exact nj_param_53 ih h
theorem nj_param {p1 : Int32} {X : St} (h : (X.1 0 4).toInt = 0) : nj (f_param p1 X) := by
  unfold f_param
  refine nj.bd (nj_isWell h) (fun x1 X2 hX2 => ?_)
  refine nj.ite ?_ ?_
  · exact nj_param_15 hX2
  · refine nj.lt (fun x4 => ?_)
    refine nj.ite ?_ ?_
    · exact nj_param_22 _ _ _ _ hX2
    · exact nj_param_15 hX2
theorem nj_part__V_19 {X : St} (h : (X.1 0 4).toInt = 0) : nj (f_part__V_19 X) := by
  unfold f_part__V_19
  refine nj.bd (nj_stray h) (fun _ X4 hX4 => ?_)
  exact nj.ret hX4
theorem nj_part__V_166 {a1 : Int32} {X : St} (h : (X.1 0 4).toInt = 0) : nj (f_part__V_166 a1 X) := by
  unfold f_part__V_166
  refine nj.bd (nj_takes h) (fun _ X27 hX27 => ?_)
  refine nj.bd (nj_isWell hX27) (fun x28 X29 hX29 => ?_)
  refine nj.ite ?_ ?_
  · exact nj.ret hX29
  · refine nj.bd (nj_expression hX29) (fun x30 X31 hX31 => ?_)
    refine nj.ck ?_
    refine nj.wr hX31 (by rintro ⟨a_, -⟩; exact absurd a_ (by decide)) (fun X32 hX32 => ?_)
    refine nj.bd (nj_takes hX32) (fun _ X33 hX33 => ?_)
    refine nj.lt (fun x34 => ?_)
    refine nj.lt (fun x35 => ?_)
    refine nj.wr hX33 (by decide) (fun X36 hX36 => ?_)
    exact nj.ret hX36
theorem nj_part__V_143 {a1 : Int32} {X : St} (h : (X.1 0 4).toInt = 0) : nj (f_part__V_143 a1 X) := by
  unfold f_part__V_143
  refine nj.bd (nj_isSign h) (fun x25 X26 hX26 => ?_)
  refine nj.ite ?_ ?_
  · exact nj_part__V_166 hX26
  · refine nj.bd (nj_next hX26) (fun _ X37 hX37 => ?_)
    refine nj.bd (nj_kind hX37) (fun x38 X39 hX39 => ?_)
    refine nj.ck ?_
    refine nj.wr hX39 (by rintro ⟨a_, -⟩; exact absurd a_ (by decide)) (fun X40 hX40 => ?_)
    exact nj_part__V_166 hX40
theorem nj_part__V_116 (N : Nat) : ∀ (a1 : Int32) (X : St), (X.1 0 4).toInt = 0 → nj (f_part__V_116 N a1 X) := by
  unfold f_part__V_116
  refine lp_ind (P := fun (r : Int32 → St → Option (Int32 × St)) => ∀ (a1 : Int32) (X : St), (X.1 0 4).toInt = 0 → nj (r a1 X)) (fun _ _ _ => nj.none) (fun r ih a1 X h => ?_) N
  unfold f_part__V_116_s
  refine nj.bd (nj_isSign h) (fun x22 X23 hX23 => ?_)
  refine nj.ite ?_ ?_
  · refine nj.bd (nj_closes hX23) (fun _ X24 hX24 => ?_)
    exact nj_part__V_143 hX24
  · refine nj.bd (nj_next hX23) (fun _ X41 hX41 => ?_)
    refine nj.bd (nj_param hX41) (fun _ X42 hX42 => ?_)
    exact ih _ _ hX42
theorem nj_part__V {X : St} (h : (X.1 0 4).toInt = 0) : nj (f_part__V X) := by
  unfold f_part__V
  refine nj.bd (nj_next h) (fun _ X1 hX1 => ?_)
  refine nj.bd (nj_isWell hX1) (fun x2 X3 hX3 => ?_)
  refine nj.ite ?_ ?_
  · exact nj_part__V_19 hX3
  · refine nj.lt (fun x5 => ?_)
    refine nj.ite ?_ ?_
    · refine nj.lt (fun x6 => ?_)
      refine nj.lt (fun y7 => ?_)
      refine nj.ck ?_
      refine nj.wL hX3 (fun X8 hX8 => ?_)
      refine nj.lt (fun x9 => ?_)
      refine nj.ck ?_
      refine nj.wr hX8 (by rintro ⟨a_, -⟩; exact absurd a_ (by decide)) (fun X10 hX10 => ?_)
      refine nj.lt (fun x11 => ?_)
      refine nj.ck ?_
      refine nj.wr hX10 (by rintro ⟨a_, -⟩; exact absurd a_ (by decide)) (fun X12 hX12 => ?_)
      refine nj.ck ?_
      refine nj.wr hX12 (by rintro ⟨a_, -⟩; exact absurd a_ (by decide)) (fun X13 hX13 => ?_)
      refine nj.ck ?_
      refine nj.wr hX13 (by rintro ⟨a_, -⟩; exact absurd a_ (by decide)) (fun X14 hX14 => ?_)
      refine nj.wr hX14 (by decide) (fun X15 hX15 => ?_)
      refine nj.wr hX15 (by decide) (fun X16 hX16 => ?_)
      refine nj.bd (nj_next hX16) (fun _ X17 hX17 => ?_)
      refine nj.bd (nj_opens hX17) (fun _ X18 hX18 => ?_)
      refine nj.bd (nj_isSign hX18) (fun x19 X20 hX20 => ?_)
      refine nj.ite ?_ ?_
      · refine nj.bd (nj_param hX20) (fun _ X21 hX21 => ?_)
        exact nj_part__V_116 _ _ _ hX21
      · refine nj.bd (nj_closes hX20) (fun _ X43 hX43 => ?_)
        exact nj_part__V_143 hX43
    · exact nj_part__V_19 hX3
theorem nj_partOf_33 {r10 : Int64 → Int32 → Int32 → St → Option (Int32 × St)} (hr10 : ∀ (q0 : Int64) (q1 : Int32) (q2 : Int32) (X : St), (X.1 0 4).toInt = 0 → nj (r10 q0 q1 q2 X)) {l1 : Int64} {a4 : Int32} {b0 : Int32} {X : St} (h : (X.1 0 4).toInt = 0) : nj (f_partOf_33 r10 l1 a4 b0 X) := by
  unfold f_partOf_33
  refine nj.lt (fun x5 => ?_)
  exact hr10 _ _ _ _ h
theorem nj_partOf_10 (N : Nat) : ∀ (l1 : Int64) (a3 : Int32) (a4 : Int32) (X : St), (X.1 0 4).toInt = 0 → nj (f_partOf_10 N l1 a3 a4 X) := by
  unfold f_partOf_10
  refine lp_ind (P := fun (r : Int64 → Int32 → Int32 → St → Option (Int32 × St)) => ∀ (l1 : Int64) (a3 : Int32) (a4 : Int32) (X : St), (X.1 0 4).toInt = 0 → nj (r l1 a3 a4 X)) (fun _ _ _ _ _ => nj.none) (fun r ih l1 a3 a4 X h => ?_) N
  unfold f_partOf_10_s
  refine nj.ite ?_ ?_
  · exact nj.ret h
  · refine nj.ck ?_
    refine nj.lt (fun y3 => ?_)
    refine nj.lt (fun x4 => ?_)
    refine nj.ite ?_ ?_
    · exact nj_partOf_33 ih h
    · exact nj_partOf_33 ih h
theorem nj_partOf {q1 : Int64} {X : St} (h : (X.1 0 4).toInt = 0) : nj (f_partOf q1 X) := by
  unfold f_partOf
  refine nj.lt (fun x1 => ?_)
  refine nj.lt (fun x2 => ?_)
  exact nj_partOf_10 _ _ _ _ _ h
theorem nj_knows_126 {r60 : Int32 → Int32 → Int32 → St → Option (Int32 × St)} (hr60 : ∀ (q0 : Int32) (q1 : Int32) (q2 : Int32) (X : St), (X.1 0 4).toInt = 0 → nj (r60 q0 q1 q2 X)) {a1 : Int32} {a2 : Int32} {a3 : Int32} {X : St} (h : (X.1 0 4).toInt = 0) : nj (f_knows_126 r60 a1 a2 a3 X) := by
  unfold f_knows_126
  refine nj.lt (fun x12 => ?_)
  exact hr60 _ _ _ _ h
theorem nj_knows_60 (N : Nat) : ∀ (a1 : Int32) (a2 : Int32) (a3 : Int32) (X : St), (X.1 0 4).toInt = 0 → nj (f_knows_60 N a1 a2 a3 X) := by
  unfold f_knows_60
  refine lp_ind (P := fun (r : Int32 → Int32 → Int32 → St → Option (Int32 × St)) => ∀ (a1 : Int32) (a2 : Int32) (a3 : Int32) (X : St), (X.1 0 4).toInt = 0 → nj (r a1 a2 a3 X)) (fun _ _ _ _ _ => nj.none) (fun r ih a1 a2 a3 X h => ?_) N
  unfold f_knows_60_s
  refine nj.lt (fun x4 => ?_)
  refine nj.ite ?_ ?_
  · refine nj.ite ?_ ?_
    · exact nj.ret h
    · refine nj.bd (nj_fails h) (fun _ X5 hX5 => ?_)
      exact nj.ret hX5
  · refine nj.ck ?_
    refine nj.lt (fun x6 => ?_)
    refine nj.ite ?_ ?_
    · refine nj.ck ?_
      refine nj.lt (fun y7 => ?_)
      refine nj.bd (nj_partOf h) (fun x8 X9 hX9 => ?_)
      refine nj.ck ?_
      refine nj.wr hX9 (by rintro ⟨a_, -⟩; exact absurd a_ (by decide)) (fun X10 hX10 => ?_)
      refine nj.ck ?_
      refine nj.lt (fun x11 => ?_)
      refine nj.ite ?_ ?_
      · exact nj_knows_126 ih hX10
      · refine nj.ck ?_
        refine nj.lt (fun x13 => ?_)
        refine nj.ite ?_ ?_
        · exact nj_knows_126 ih hX10
        · refine nj.ck ?_
          refine nj.lt (fun x14 => ?_)
          exact nj_knows_126 ih hX10
    · exact nj_knows_126 ih h
theorem nj_knows_52 {r11 : Int32 → Int32 → Int32 → St → Option (Int32 × St)} (hr11 : ∀ (q0 : Int32) (q1 : Int32) (q2 : Int32) (X : St), (X.1 0 4).toInt = 0 → nj (r11 q0 q1 q2 X)) {a1 : Int32} {a2 : Int32} {a3 : Int32} {X : St} (h : (X.1 0 4).toInt = 0) : nj (f_knows_52 r11 a1 a2 a3 X) := by
  unfold f_knows_52
  refine nj.lt (fun x18 => ?_)
  exact hr11 _ _ _ _ h
theorem nj_knows_11 (N : Nat) : ∀ (a1 : Int32) (a2 : Int32) (a3 : Int32) (X : St), (X.1 0 4).toInt = 0 → nj (f_knows_11 N a1 a2 a3 X) := by
  unfold f_knows_11
  refine lp_ind (P := fun (r : Int32 → Int32 → Int32 → St → Option (Int32 × St)) => ∀ (a1 : Int32) (a2 : Int32) (a3 : Int32) (X : St), (X.1 0 4).toInt = 0 → nj (r a1 a2 a3 X)) (fun _ _ _ _ _ => nj.none) (fun r ih a1 a2 a3 X h => ?_) N
  unfold f_knows_11_s
  refine nj.lt (fun x3 => ?_)
  refine nj.ite ?_ ?_
  · exact nj_knows_60 _ _ _ _ _ h
  · refine nj.ck ?_
    refine nj.lt (fun y15 => ?_)
    refine nj.bd (nj_partOf h) (fun x16 X17 hX17 => ?_)
    refine nj.ite ?_ ?_
    · exact nj_knows_52 ih hX17
    · refine nj.ck ?_
      refine nj.lt (fun x19 => ?_)
      refine nj.ite ?_ ?_
      · exact nj_knows_52 ih hX17
      · refine nj.ck ?_
        refine nj.lt (fun x20 => ?_)
        exact nj_knows_52 ih hX17
theorem nj_knows {X : St} (h : (X.1 0 4).toInt = 0) : nj (f_knows X) := by
  unfold f_knows
  refine nj.lt (fun x1 => ?_)
  refine nj.lt (fun x2 => ?_)
  exact nj_knows_11 _ _ _ _ _ h
theorem nj_reads_167 {X : St} (h : (X.1 0 4).toInt = 0) : nj (f_reads_167 X) := by
  unfold f_reads_167
  refine nj.lt (fun x18 => ?_)
  refine nj.wr h (by decide) (fun X19 hX19 => ?_)
  refine nj.lt (fun x20 => ?_)
  refine nj.wr hX19 (by decide) (fun X21 hX21 => ?_)
  exact nj.ret hX21
theorem nj_reads_157 {X : St} (h : (X.1 0 4).toInt = 0) : nj (f_reads_157 X) := by
  unfold f_reads_157
  refine nj.lt (fun x23 => ?_)
  refine nj.bd (nj_fails h) (fun _ X24 hX24 => ?_)
  exact nj_reads_167 hX24
theorem nj_reads_120 {X : St} (h : (X.1 0 4).toInt = 0) : nj (f_reads_120 X) := by
  unfold f_reads_120
  refine nj.bd (nj_partOf h) (fun x13 X14 hX14 => ?_)
  refine nj.wr hX14 (by decide) (fun X15 hX15 => ?_)
  refine nj.bd (nj_isWell hX15) (fun x16 X17 hX17 => ?_)
  refine nj.ite ?_ ?_
  · exact nj_reads_167 hX17
  · refine nj.lt (fun x22 => ?_)
    refine nj.ite ?_ ?_
    · exact nj_reads_157 hX17
    · refine nj.lt (fun x25 => ?_)
      refine nj.ck ?_
      refine nj.lt (fun x26 => ?_)
      refine nj.ite ?_ ?_
      · exact nj_reads_167 hX17
      · exact nj_reads_157 hX17
theorem nj_reads_109 {X : St} (h : (X.1 0 4).toInt = 0) : nj (f_reads_109 X) := by
  unfold f_reads_109
  refine nj.bd (nj_isWell h) (fun x11 X12 hX12 => ?_)
  refine nj.ite ?_ ?_
  · exact nj_reads_120 hX12
  · refine nj.bd (nj_knows hX12) (fun _ X27 hX27 => ?_)
    exact nj_reads_120 hX27
theorem nj_reads_39 (N : Nat) : ∀ (X : St), (X.1 0 4).toInt = 0 → nj (f_reads_39 N X) := by
  unfold f_reads_39
  refine lp_ind (P := fun (r : St → Option (Int32 × St)) => ∀ (X : St), (X.1 0 4).toInt = 0 → nj (r X)) (fun _ _ => nj.none) (fun r ih X h => ?_) N
  unfold f_reads_39_s
  refine nj.bd (nj_isWell h) (fun x9 X10 hX10 => ?_)
  refine nj.ite ?_ ?_
  · exact nj_reads_109 hX10
  · refine nj.lt (fun x28 => ?_)
    refine nj.ite ?_ ?_
    · exact nj_reads_109 hX10
    · refine nj.bd (nj_isWord hX10) (fun x29 X30 hX30 => ?_)
      refine nj.ite ?_ ?_
      · refine nj.bd (nj_stray hX30) (fun _ X38 hX38 => ?_)
        exact ih _ hX38
      · refine nj.lt (fun x31 => ?_)
        refine nj.ite ?_ ?_
        · refine nj.lt (fun x36 => ?_)
          refine nj.bd (nj_fails hX30) (fun _ X37 hX37 => ?_)
          exact ih _ hX37
        · refine nj.lt (fun x32 => ?_)
          refine nj.lt (fun x33 => ?_)
          refine nj.ck ?_
          refine nj.wr hX30 (by rintro ⟨a_, -⟩; exact absurd a_ (by decide)) (fun X34 hX34 => ?_)
          refine nj.bd (nj_part__V hX34) (fun _ X35 hX35 => ?_)
          exact ih _ hX35
theorem nj_reads {X : St} : nj (f_reads X) := by
  unfold f_reads
  refine nj.lt (fun X1 => ?_)
  refine nj.lt (fun X2 => ?_)
  refine nj.lt (fun X3 => ?_)
  refine nj.lt (fun X4 => ?_)
  refine nj.lt (fun X5 => ?_)
  refine nj.w0 (fun X6 hX6 => ?_)
  refine nj.bd (nj_kinds hX6) (fun _ X7 hX7 => ?_)
  refine nj.bd (nj_next hX7) (fun _ X8 hX8 => ?_)
  exact nj_reads_39 _ _ hX8
