/-! a run keeps the table of kinds sound -/
/-- a kind with fewer than no parts -/
def BDn (X : St) : Prop := ∃ k : Nat, (k : Int) < (X.1 0 13).toInt ∧ (X.1 5 k).toInt < 0
def W10 (X0 X : St) : Prop := KVa True X ∧ KXq X0 X ∧ (KIq X0 → KU X0 → (KIq X ∧ KU X) ∨ BDn X) ∧ ∀ e k, (11 ≤ e ∧ e < 60) ∨ (e = 0 ∧ (k = 4 ∨ k = 18 ∨ k = 26 ∨ k = 28)) → X.1 e k = X0.1 e k
section WKEEP10
variable {X0 : St}
theorem BDn.kx {X Y : St} (h : BDn X) (g : KXq X Y) : BDn Y := by
  obtain ⟨k, a, b⟩ := h
  exact ⟨k, by have := g.1; omega, by rw [(g.2.2.1 k a).2.1]; exact b⟩
theorem W10_w {X : St} {e k : Nat} {v : Int32} (h : W10 X0 X) (hk : ¬ (4 ≤ e ∧ e ≤ 9) ∧ ¬ (11 ≤ e ∧ e < 60) ∧ ¬ (e = 0 ∧ (k = 4 ∨ k = 18 ∨ k = 26 ∨ k = 28 ∨ (13 ≤ k ∧ k ≤ 16)))) : W10 X0 (_root_.Jvm.Pilot.CBlameCourtLaw_law_r8381_f30dd1.wI X e k v) := by
  have r : ∀ e1 k1, ¬ (e1 = e ∧ k1 = k) → (_root_.Jvm.Pilot.CBlameCourtLaw_law_r8381_f30dd1.wI X e k v).1 e1 k1 = X.1 e1 k1 := fun e1 k1 z => wI_ne _ _ _ _ _ _ z
  obtain ⟨a, b, c, d⟩ := h
  have kx : KXq X (_root_.Jvm.Pilot.CBlameCourtLaw_law_r8381_f30dd1.wI X e k v) := KXq.of (fun e1 k1 q => r e1 k1 (by omega))
  refine ⟨KVa_w a (by omega), b.tr kx, fun z1 z2 => ?_, fun e1 k1 q => (r e1 k1 (by omega)).trans (d e1 k1 q)⟩
  rcases c z1 z2 with ⟨y1, y2⟩ | y
  · exact Or.inl ⟨y1.cg (fun e1 k1 q => r e1 k1 (by omega)), (KGq.of (fun e1 k1 q => r e1 k1 (by omega))).2 y2⟩
  · exact Or.inr (y.kx kx)
theorem fr18 {e k : Nat} (h : (11 ≤ e ∧ e < 60) ∨ (e = 0 ∧ (k = 4 ∨ k = 18 ∨ k = 26 ∨ k = 28))) : cq e k ∉ Lw18 := by
  unfold cq Lw18
  by_cases h0 : e = 0
  · rw [if_pos h0]
    intro m
    simp only [List.mem_cons, List.not_mem_nil, or_false] at m
    omega
  · rw [if_neg h0]
    intro m
    simp only [List.mem_cons, List.not_mem_nil, or_false] at m
    omega
theorem kofneg {X : St} {s f n : Int32} (hn : n.toInt < 0) (h13 : 0 ≤ (X.1 0 13).toInt) : pw (f_kindOf s f n X) (fun _ Y => BDn Y) := by
  have l1 : (1 : Int32).toInt = 1 := by decide
  have l0 : (0 : Int32).toInt = 0 := by decide
  have BB : BIG = Nat.succ (BIG - 1) := by decide
  have main : ∀ (M : Nat) (a4 : Int32), 0 ≤ a4.toInt → pw (f_kindOf_3 M s f n a4 X) (fun _ Y => BDn Y) := by
    intro M
    induction M with
    | zero => exact fun _ _ => pw_none
    | succ M ih =>
      intro a4 ha
      have e : f_kindOf_3 (M + 1) = f_kindOf_3_s (f_kindOf_3 M) := by
        unfold f_kindOf_3
        exact lp_succ _ _ _
      rw [e]
      unfold f_kindOf_3_s
      refine pw_let (pw_ite (fun c => ?_) (fun c => ?_))
      · refine pw_let (pw_let (pw_eq (fun x4 e4 => pw_eq (fun X5 e5 => ?_))))
        refine pw_ck (fun hc => pw_eq (fun X6 e6 => pw_ck (fun _ => pw_eq (fun X7 e7 => pw_let (pw_ck (fun _ => pw_eq (fun X9 e9 => ?_)))))))
        have hb := hc.2
        have v4 : x4.toInt = (X.1 0 13).toInt + 1 := by rw [e4, ti_add (by rw [l1]; omega) (by rw [l1]; omega), l1]
        have g13 : (X9.1 0 13).toInt = (X.1 0 13).toInt + 1 := by rw [e9, wI_ne _ _ _ _ _ _ (by omega), e7, wI_ne _ _ _ _ _ _ (by omega), e6, wI_ne _ _ _ _ _ _ (by omega), e5, wI_at]; exact v4
        have g5 : X9.1 5 (ix (X.1 0 13)) = n := by rw [e9, wI_ne _ _ _ _ _ _ (by omega), e7, wI_at]
        have hl : ∀ (x : Int32) (Z : St), (Z.1 0 13).toInt = (X.1 0 13).toInt + 1 → Z.1 5 (ix (X.1 0 13)) = n → pw (f_kindOf_207 s f n (X.1 0 13) x Z) (fun _ Y => BDn Y) := fun x Z z1 z2 => by
          unfold f_kindOf_207
          have e : f_kindOf_212 BIG = f_kindOf_212_s (f_kindOf_212 (BIG - 1)) := by
            rw [BB]
            unfold f_kindOf_212
            exact lp_succ _ _ _
          rw [e]
          unfold f_kindOf_212_s
          refine pw_pos (by rw [l0]; omega) (pw_ck (fun _ => pw_eq (fun X11 e11 => pw_ret ⟨ix (X.1 0 13), ?_, ?_⟩)))
          · rw [e11, wI_ne _ _ _ _ _ _ (by omega), z1, ixc h13]
            omega
          · rw [e11, wI_ne _ _ _ _ _ _ (by omega), z2]
            exact hn
        have hh : ∀ b0 : Int32, pw (f_kindOf_168 s f n (X.1 0 13) b0 (X.1 0 13) X9) (fun _ Y => BDn Y) := fun b0 => by
          unfold f_kindOf_168
          refine pw_ck (fun _ => pw_eq (fun Z eZ => ?_))
          have z1 : (Z.1 0 13).toInt = (X.1 0 13).toInt + 1 := by rw [eZ, wI_ne _ _ _ _ _ _ (by omega)]; exact g13
          have z2 : Z.1 5 (ix (X.1 0 13)) = n := by rw [eZ, wI_ne _ _ _ _ _ _ (by omega)]; exact g5
          refine pw_ite (fun _ => pw_ck (fun _ => pw_let (pw_ck (fun _ => pw_let (pw_let (pw_let (hl _ Z z1 z2))))))) (fun _ => pw_ite (fun _ => pw_let (pw_let (hl _ Z z1 z2))) (fun _ => hl _ Z z1 z2))
        exact pw_ite (fun _ => hh 1) (fun _ => hh 0)
      · have step : ∀ a5 : Int32, (¬ a5.toInt = 0 → (X.1 5 (ix a4)).toInt = n.toInt) → pw (f_kindOf_39 (f_kindOf_3 M) s f n a4 a5 X) (fun _ Y => BDn Y) := fun a5 h5 => by
          unfold f_kindOf_39
          have e : f_kindOf_44 (f_kindOf_3 M) BIG = f_kindOf_44_s (f_kindOf_3 M) (f_kindOf_44 (f_kindOf_3 M) (BIG - 1)) := by
            rw [BB]
            unfold f_kindOf_44
            exact lp_succ _ _ _
          rw [e]
          unfold f_kindOf_44_s
          refine pw_pos (by rw [l0]; omega) ?_
          unfold f_kindOf_95
          refine pw_ite (fun _ => pw_let (ih _ ?_)) (fun q => pw_ret ⟨ix a4, ?_, ?_⟩)
          · have lo1 : (Int32.ofInt 1).toInt = 1 := by decide
            have b1 := (X.1 0 13).toInt_lt
            rw [ti_add (by rw [lo1]; omega) (by rw [lo1]; omega), lo1]
            omega
          · rw [ixc ha]
            omega
          · rw [h5 q]
            exact hn
        have off : pw (f_kindOf_38 (f_kindOf_3 M) s f n a4 X) (fun _ Y => BDn Y) := by
          unfold f_kindOf_38
          exact step 0 (fun q => absurd l0 q)
        exact pw_ck (fun _ => pw_let (pw_ite (fun _ => pw_ck (fun _ => pw_let (pw_ite (fun q => step 1 (fun _ => q)) (fun _ => off)))) (fun _ => off)))
  unfold f_kindOf
  exact main BIG 0 (by rw [l0]; exact Int.le_refl _)
theorem wk_kof {X : St} {s f n : Int32} (h : W10 X0 X) (h13 : 0 ≤ (X.1 0 13).toInt) (hf : 0 ≤ f.toInt) (hfn : 0 ≤ n.toInt → f.toInt + n.toInt ≤ 10000) : pw (f_kindOf s f n X) (fun _ Y => W10 X0 Y ∧ 0 ≤ (Y.1 0 13).toInt) := by
  obtain ⟨a, b, c, d⟩ := h
  have base : pw (f_kindOf s f n X) (fun _ Y => (KIq X0 → KU X0 → (KIq Y ∧ KU Y) ∨ BDn Y) ∨ ∀ (_ : KXq X Y), KIq X0 → KU X0 → (KIq Y ∧ KU Y) ∨ BDn Y) := by
    by_cases hn : 0 ≤ n.toInt
    · by_cases hi : KIq X
      · refine pw_mono (x_kof hi hf hn (hfn hn)) (fun _ Y g => Or.inr (fun kx z1 z2 => ?_))
        rcases c z1 z2 with ⟨y1, y2⟩ | y
        · exact Or.inl ⟨g.2.2.1, g.2.2.2.2 y2⟩
        · exact Or.inr (y.kx kx)
      · intro r Y hr
        refine Or.inr (fun kx z1 z2 => ?_)
        rcases c z1 z2 with ⟨y1, y2⟩ | y
        · exact absurd y1 hi
        · exact Or.inr (y.kx kx)
    · exact pw_mono (kofneg (by omega) h13) (fun _ Y g => Or.inl (fun _ _ => Or.inr g))
  refine pw_mono (pw_and (pw_and (v_kof2 a) fw_kindOf) base) (fun _ Y g => ?_)
  obtain ⟨⟨⟨v, kx⟩, fr⟩, bb⟩ := g
  refine ⟨⟨v, b.tr kx, fun z1 z2 => ?_, fun e k q => (fr.1 e k (fr18 q)).trans (d e k q)⟩, Int.le_trans h13 kx.1⟩
  rcases bb with bb | bb
  · exact bb z1 z2
  · exact bb kx z1 z2
/-- how many kinds there are is no negative number -/
def W11 (X0 X : St) : Prop := W10 X0 X ∧ 0 ≤ (X.1 0 13).toInt
theorem W11_w {X : St} {e k : Nat} {v : Int32} (h : W11 X0 X) (hk : ¬ (4 ≤ e ∧ e ≤ 9) ∧ ¬ (11 ≤ e ∧ e < 60) ∧ ¬ (e = 0 ∧ (k = 4 ∨ k = 18 ∨ k = 26 ∨ k = 28 ∨ (13 ≤ k ∧ k ≤ 16)))) : W11 X0 (_root_.Jvm.Pilot.CBlameCourtLaw_law_r8381_f30dd1.wI X e k v) := ⟨W10_w h.1 hk, by rw [wI_ne _ _ _ _ _ _ (by omega)]; exact h.2⟩
theorem W11.cg {X Y : St} (h : W11 X0 X) (g : Y.1 = X.1) : W11 X0 Y := by
  obtain ⟨⟨a, b, c, d⟩, p⟩ := h
  have kx : KXq X Y := KXq.of (fun _ _ _ => by rw [g])
  refine ⟨⟨a.cg (fun _ _ _ => by rw [g]), b.tr kx, fun z1 z2 => ?_, fun e k q => by rw [g]; exact d e k q⟩, by rw [g]; exact p⟩
  rcases c z1 z2 with ⟨y1, y2⟩ | y
  · exact Or.inl ⟨y1.cg (fun _ _ _ => by rw [g]), (KGq.of (fun _ _ _ => by rw [g])).2 y2⟩
  · exact Or.inr (y.kx kx)
theorem wk_rowOf {p1 : Int32} {X : St} (h : W11 X0 X) : pw (f_rowOf p1 X) (fun _ Y => W11 X0 Y) := by
  unfold f_rowOf
  refine pw_ck (fun _ => pw_eq (fun X1 e1 => ?_))
  have h1 : W11 X0 X1 := by rw [e1]; exact W11_w h (by omega)
  exact pw_bd (wk_kof h1.1 h1.2 (by decide) (fun _ => by decide)) (fun _ _ g => pw_ret g)
theorem wk_anyFunction {p1 : Int32} {X : St} (h : W11 X0 X) : pw (f_anyFunction p1 X) (fun _ Y => W11 X0 Y) := by
  have l1 : (1 : Int32).toInt = 1 := by decide
  have lo1 : (Int32.ofInt 1).toInt = 1 := by decide
  have l3 : (3000 : Int32).toInt = 3000 := by decide
  have l31 : (3100 : Int32).toInt = 3100 := by decide
  have loop : ∀ (M : Nat) (i : Nat) (a2 : Int32) (Z : St), a2.toInt = (i : Int) → i ≤ 100 → (1 ≤ i → (i : Int) - 1 ≤ p1.toInt) → W11 X0 Z → pw (f_anyFunction_2 M p1 a2 Z) (fun _ Y => W11 X0 Y) := by
    intro M
    induction M with
    | zero => exact fun _ _ _ _ _ _ _ => pw_none
    | succ M ih =>
      intro i a2 Z h2 hi hp hZ
      have e : f_anyFunction_2 (M + 1) = f_anyFunction_2_s (f_anyFunction_2 M) := by
        unfold f_anyFunction_2
        exact lp_succ _ _ _
      rw [e]
      unfold f_anyFunction_2_s
      have b1 := p1.le_toInt
      refine pw_ite (fun c => ?_) (fun c => ?_)
      · refine pw_eq (fun x1 e1 => ?_)
        have v1 : x1.toInt = p1.toInt + 1 := by rw [e1, ti_add (by rw [l1]; omega) (by rw [l1]; omega), l1]
        exact pw_bd (wk_kof hZ.1 hZ.2 (by decide) (fun _ => by rw [l3, v1]; omega)) (fun _ _ g => pw_ret g)
      · refine pw_eq (fun x4 e4 => ?_)
        have v4 : x4.toInt = 3000 + (i : Int) := by rw [e4, ti_add (by rw [l3, h2]; omega) (by rw [l3, h2]; omega), l3, h2]
        refine pw_ck (fun hc => pw_eq (fun X5 e5 => pw_eq (fun x6 e6 => ?_)))
        have hb : x4.toInt < 3100 := by have := hc.2; omega
        refine ih (i + 1) x6 X5 (by rw [e6, ti_add (by rw [lo1, h2]; omega) (by rw [lo1, h2]; omega), lo1, h2]; omega) (by omega) (fun _ => by omega) (by rw [e5]; exact W11_w hZ (by omega))
  unfold f_anyFunction
  exact loop BIG 0 0 X (by decide) (by omega) (fun q => absurd q (by omega)) h
theorem wk_ends {p1 : Int32} {p2 : Int32} {X : St} (h : W11 X0 X) : pw (f_ends p1 p2 X) (fun _ Y => W11 X0 Y) := by
  unfold f_ends
  refine pw_eq (fun x1 _ => ?_)
  refine pw_ite (fun _ => ?_) (fun _ => ?_)
  · exact pw_ret h
  · refine pw_eq (fun X2 eX2 => ?_)
    have dX2 : W11 X0 X2 := by rw [eX2]; exact W11_w h (by omega)
    refine pw_eq (fun X3 eX3 => ?_)
    have dX3 : W11 X0 X3 := by rw [eX3]; exact W11_w dX2 (by omega)
    exact pw_ret dX3
theorem wk_calls_92 (N : Nat) : ∀ (a4 : Int32) (X : St), W11 X0 X → pw (f_calls_92 N a4 X) (fun _ Y => W11 X0 Y) := by
  unfold f_calls_92
  refine lp_ind (P := fun (r : Int32 → St → Option (Int32 × St)) => ∀ (a4 : Int32) (X : St), W11 X0 X → pw (r a4 X) (fun _ Y => W11 X0 Y)) (fun _ _ _ => pw_none) (fun r ih a4 X h => ?_) N
  unfold f_calls_92_s
  refine pw_ite (fun _ => ?_) (fun _ => ?_)
  · exact pw_ret h
  · refine pw_eq (fun x21 _ => ?_)
    refine pw_eq (fun x22 _ => ?_)
    refine pw_eq (fun X23 eX23 => ?_)
    have dX23 : W11 X0 X23 := by rw [eX23]; exact W11_w h (by omega)
    refine pw_eq (fun x24 _ => ?_)
    refine pw_eq (fun x25 _ => ?_)
    refine pw_eq (fun x26 _ => ?_)
    refine pw_ck (fun _ => ?_)
    refine pw_eq (fun x27 _ => ?_)
    refine pw_ck (fun _ => ?_)
    refine pw_eq (fun X28 eX28 => ?_)
    have dX28 : W11 X0 X28 := by rw [eX28]; exact W11_w dX23 (by omega)
    refine pw_eq (fun x29 _ => ?_)
    refine pw_eq (fun x30 _ => ?_)
    refine pw_eq (fun x31 _ => ?_)
    refine pw_ck (fun _ => ?_)
    refine pw_eq (fun x32 _ => ?_)
    refine pw_ck (fun _ => ?_)
    refine pw_eq (fun X33 eX33 => ?_)
    have dX33 : W11 X0 X33 := by rw [eX33]; exact W11_w dX28 (by omega)
    refine pw_eq (fun x34 _ => ?_)
    exact ih _ _ dX33
theorem wk_calls {p1 : Int32} {p2 : Int32} {p3 : Int32} {X : St} (h : W11 X0 X) : pw (f_calls p1 p2 p3 X) (fun _ Y => W11 X0 Y) := by
  unfold f_calls
  refine pw_eq (fun x1 _ => ?_)
  refine pw_ite (fun _ => ?_) (fun _ => ?_)
  · refine pw_bd (wk_ends h) (fun _ X35 dX35 => ?_)
    exact pw_ret dX35
  · refine pw_eq (fun x2 _ => ?_)
    refine pw_eq (fun x3 _ => ?_)
    refine pw_eq (fun X4 eX4 => ?_)
    have dX4 : W11 X0 X4 := by rw [eX4]; exact W11_w h (by omega)
    refine pw_eq (fun x5 _ => ?_)
    refine pw_ck (fun _ => ?_)
    refine pw_eq (fun X6 eX6 => ?_)
    have dX6 : W11 X0 X6 := by rw [eX6]; exact W11_w dX4 (by omega)
    refine pw_eq (fun x7 _ => ?_)
    refine pw_ck (fun _ => ?_)
    refine pw_eq (fun X8 eX8 => ?_)
    have dX8 : W11 X0 X8 := by rw [eX8]; exact W11_w dX6 (by omega)
    refine pw_eq (fun x9 _ => ?_)
    refine pw_eq (fun x10 _ => ?_)
    refine pw_ck (fun _ => ?_)
    refine pw_eq (fun X11 eX11 => ?_)
    have dX11 : W11 X0 X11 := by rw [eX11]; exact W11_w dX8 (by omega)
    refine pw_eq (fun x12 _ => ?_)
    refine pw_eq (fun x13 _ => ?_)
    refine pw_eq (fun X14 eX14 => ?_)
    have dX14 : W11 X0 X14 := by rw [eX14]; exact W11_w dX11 (by omega)
    refine pw_eq (fun x15 _ => ?_)
    refine pw_eq (fun x16 _ => ?_)
    refine pw_eq (fun x17 _ => ?_)
    refine pw_eq (fun X18 eX18 => ?_)
    have dX18 : W11 X0 X18 := by rw [eX18]; exact W11_w dX14 (by omega)
    refine pw_ck (fun _ => ?_)
    refine pw_eq (fun x19 _ => ?_)
    refine pw_eq (fun x20 _ => ?_)
    exact wk_calls_92 _ _ _ dX18
theorem wk_isOn {X : St} (h : W11 X0 X) : pw (f_isOn X) (fun _ Y => W11 X0 Y) := by
  unfold f_isOn
  refine pw_eq (fun x1 _ => ?_)
  refine pw_ite (fun _ => ?_) (fun _ => ?_)
  · exact pw_ret h
  · exact pw_ret h
theorem wk_starts_132 {X : St} (h : W11 X0 X) : pw (f_starts_132 X) (fun _ Y => W11 X0 Y) := by
  unfold f_starts_132
  refine pw_bd (wk_isOn h) (fun x19 X20 dX20 => ?_)
  refine pw_ite (fun _ => ?_) (fun _ => ?_)
  · refine pw_eq (fun x21 _ => ?_)
    exact pw_ret dX20
  · refine pw_eq (fun X22 eX22 => ?_)
    have dX22 : W11 X0 X22 := by rw [eX22]; exact W11_w dX20 (by omega)
    refine pw_eq (fun x23 _ => ?_)
    exact pw_ret dX22
theorem wk_value {p1 : Int32} {p2 : Int32} {X : St} (h : W11 X0 X) : pw (f_value p1 p2 X) (fun _ Y => W11 X0 Y) := by
  unfold f_value
  refine pw_eq (fun x1 _ => ?_)
  refine pw_ck (fun _ => ?_)
  refine pw_eq (fun X2 eX2 => ?_)
  have dX2 : W11 X0 X2 := by rw [eX2]; exact W11_w h (by omega)
  refine pw_eq (fun x3 _ => ?_)
  refine pw_ck (fun _ => ?_)
  refine pw_eq (fun X4 eX4 => ?_)
  have dX4 : W11 X0 X4 := by rw [eX4]; exact W11_w dX2 (by omega)
  refine pw_eq (fun x5 _ => ?_)
  refine pw_eq (fun x6 _ => ?_)
  refine pw_eq (fun X7 eX7 => ?_)
  have dX7 : W11 X0 X7 := by rw [eX7]; exact W11_w dX4 (by omega)
  exact pw_ret dX7
theorem wk_asks_110 {r9 : Int32 → Int32 → Int32 → Int32 → Int32 → Int32 → Int32 → St → Option (Int32 × St)} (hr9 : ∀ (q0 : Int32) (q1 : Int32) (q2 : Int32) (q3 : Int32) (q4 : Int32) (q5 : Int32) (q6 : Int32) (X : St), W11 X0 X → pw (r9 q0 q1 q2 q3 q4 q5 q6 X) (fun _ Y => W11 X0 Y)) {a1 : Int32} {a4 : Int32} {a5 : Int32} {a6 : Int32} {a7 : Int32} {a9 : Int32} {b0 : Int32} {X : St} (h : W11 X0 X) : pw (f_asks_110 r9 a1 a4 a5 a6 a7 a9 b0 X) (fun _ Y => W11 X0 Y) := by
  unfold f_asks_110
  exact hr9 _ _ _ _ _ _ _ _ h
theorem wk_asks_60 {r9 : Int32 → Int32 → Int32 → Int32 → Int32 → Int32 → Int32 → St → Option (Int32 × St)} (hr9 : ∀ (q0 : Int32) (q1 : Int32) (q2 : Int32) (q3 : Int32) (q4 : Int32) (q5 : Int32) (q6 : Int32) (X : St), W11 X0 X → pw (r9 q0 q1 q2 q3 q4 q5 q6 X) (fun _ Y => W11 X0 Y)) {a1 : Int32} {a4 : Int32} {a5 : Int32} {a6 : Int32} {a7 : Int32} {a8 : Int32} {b0 : Int32} {X : St} (h : W11 X0 X) : pw (f_asks_60 r9 a1 a4 a5 a6 a7 a8 b0 X) (fun _ Y => W11 X0 Y) := by
  unfold f_asks_60
  refine pw_ck (fun _ => ?_)
  refine pw_eq (fun x23 _ => ?_)
  refine pw_ite (fun _ => ?_) (fun _ => ?_)
  · refine pw_bd (wk_rowOf h) (fun x29 X30 dX30 => ?_)
    exact wk_asks_110 hr9 dX30
  · refine pw_ck (fun _ => ?_)
    refine pw_eq (fun x24 _ => ?_)
    refine pw_ite (fun _ => ?_) (fun _ => ?_)
    · refine pw_ck (fun _ => ?_)
      refine pw_eq (fun x25 _ => ?_)
      refine pw_eq (fun x26 _ => ?_)
      refine pw_bd (wk_anyFunction h) (fun x27 X28 dX28 => ?_)
      exact wk_asks_110 hr9 dX28
    · exact wk_asks_110 hr9 h
theorem wk_within_44 {r2 : Int32 → Int32 → St → Option (Int32 × St)} (hr2 : ∀ (q0 : Int32) (q1 : Int32) (X : St), W11 X0 X → pw (r2 q0 q1 X) (fun _ Y => W11 X0 Y)) {a1 : Int32} {b0 : Int32} {X : St} (h : W11 X0 X) : pw (f_within_44 r2 a1 b0 X) (fun _ Y => W11 X0 Y) := by
  unfold f_within_44
  refine pw_ck (fun _ => ?_)
  refine pw_eq (fun x2 _ => ?_)
  exact hr2 _ _ _ h
theorem wk_within_27 {r2 : Int32 → Int32 → St → Option (Int32 × St)} (hr2 : ∀ (q0 : Int32) (q1 : Int32) (X : St), W11 X0 X → pw (r2 q0 q1 X) (fun _ Y => W11 X0 Y)) {a1 : Int32} {a3 : Int32} {X : St} (h : W11 X0 X) : pw (f_within_27 r2 a1 a3 X) (fun _ Y => W11 X0 Y) := by
  unfold f_within_27
  refine pw_ite (fun _ => ?_) (fun _ => ?_)
  · exact wk_within_44 hr2 h
  · refine pw_eq (fun x1 _ => ?_)
    exact wk_within_44 hr2 h
theorem wk_within_16 {r2 : Int32 → Int32 → St → Option (Int32 × St)} (hr2 : ∀ (q0 : Int32) (q1 : Int32) (X : St), W11 X0 X → pw (r2 q0 q1 X) (fun _ Y => W11 X0 Y)) {a1 : Int32} {a3 : Int32} {X : St} (h : W11 X0 X) : pw (f_within_16 r2 a1 a3 X) (fun _ Y => W11 X0 Y) := by
  unfold f_within_16
  refine pw_ite (fun _ => ?_) (fun _ => ?_)
  · refine pw_ite (fun _ => ?_) (fun _ => ?_)
    · exact pw_ret h
    · exact wk_within_27 hr2 h
  · exact pw_ret h
theorem wk_within_2 (N : Nat) : ∀ (a1 : Int32) (a3 : Int32) (X : St), W11 X0 X → pw (f_within_2 N a1 a3 X) (fun _ Y => W11 X0 Y) := by
  unfold f_within_2
  refine lp_ind (P := fun (r : Int32 → Int32 → St → Option (Int32 × St)) => ∀ (a1 : Int32) (a3 : Int32) (X : St), W11 X0 X → pw (r a1 a3 X) (fun _ Y => W11 X0 Y)) (fun _ _ _ _ => pw_none) (fun r ih a1 a3 X h => ?_) N
  unfold f_within_2_s
  refine pw_ite (fun _ => ?_) (fun _ => ?_)
  · refine pw_ck (fun _ => ?_)
    refine pw_eq (fun x3 _ => ?_)
    refine pw_ite (fun _ => ?_) (fun _ => ?_)
    · exact wk_within_16 ih h
    · exact wk_within_27 ih h
  · exact wk_within_16 ih h
theorem wk_within {p1 : Int32} {p2 : Int32} {X : St} (h : W11 X0 X) : pw (f_within p1 p2 X) (fun _ Y => W11 X0 Y) := by
  unfold f_within
  exact wk_within_2 _ _ _ _ h
theorem wk_isOfSort {p1 : Int32} {p2 : Int32} {X : St} (h : W11 X0 X) : pw (f_isOfSort p1 p2 X) (fun _ Y => W11 X0 Y) := by
  unfold f_isOfSort
  refine pw_ck (fun _ => ?_)
  refine pw_eq (fun x1 _ => ?_)
  refine pw_ck (fun _ => ?_)
  refine pw_eq (fun x2 _ => ?_)
  refine pw_ite (fun _ => ?_) (fun _ => ?_)
  · refine pw_ite (fun _ => ?_) (fun _ => ?_)
    · exact pw_ret h
    · exact pw_ret h
  · refine pw_ite (fun _ => ?_) (fun _ => ?_)
    · refine pw_ite (fun _ => ?_) (fun _ => ?_)
      · exact pw_ret h
      · exact pw_ret h
    · refine pw_ite (fun _ => ?_) (fun _ => ?_)
      · refine pw_ite (fun _ => ?_) (fun _ => ?_)
        · exact pw_ret h
        · exact pw_ret h
      · refine pw_ite (fun _ => ?_) (fun _ => ?_)
        · refine pw_ck (fun _ => ?_)
          refine pw_eq (fun x6 _ => ?_)
          refine pw_bd (wk_within h) (fun x7 X8 dX8 => ?_)
          refine pw_ck (fun _ => ?_)
          refine pw_eq (fun x9 _ => ?_)
          refine pw_ck (fun _ => ?_)
          refine pw_eq (fun x10 _ => ?_)
          refine pw_eq (fun x11 _ => ?_)
          refine pw_ite (fun _ => ?_) (fun _ => ?_)
          · exact pw_ret dX8
          · exact pw_ret dX8
        · exact pw_ret h
theorem wk_asks_217 {r9 : Int32 → Int32 → Int32 → Int32 → Int32 → Int32 → Int32 → St → Option (Int32 × St)} (hr9 : ∀ (q0 : Int32) (q1 : Int32) (q2 : Int32) (q3 : Int32) (q4 : Int32) (q5 : Int32) (q6 : Int32) (X : St), W11 X0 X → pw (r9 q0 q1 q2 q3 q4 q5 q6 X) (fun _ Y => W11 X0 Y)) {a1 : Int32} {a4 : Int32} {a5 : Int32} {a6 : Int32} {a8 : Int32} {a9 : Int32} {b0 : Int32} {X : St} (h : W11 X0 X) : pw (f_asks_217 r9 a1 a4 a5 a6 a8 a9 b0 X) (fun _ Y => W11 X0 Y) := by
  unfold f_asks_217
  exact hr9 _ _ _ _ _ _ _ _ h
theorem wk_asks_167 {r9 : Int32 → Int32 → Int32 → Int32 → Int32 → Int32 → Int32 → St → Option (Int32 × St)} (hr9 : ∀ (q0 : Int32) (q1 : Int32) (q2 : Int32) (q3 : Int32) (q4 : Int32) (q5 : Int32) (q6 : Int32) (X : St), W11 X0 X → pw (r9 q0 q1 q2 q3 q4 q5 q6 X) (fun _ Y => W11 X0 Y)) {a1 : Int32} {a4 : Int32} {a5 : Int32} {a6 : Int32} {a7 : Int32} {a8 : Int32} {b0 : Int32} {X : St} (h : W11 X0 X) : pw (f_asks_167 r9 a1 a4 a5 a6 a7 a8 b0 X) (fun _ Y => W11 X0 Y) := by
  unfold f_asks_167
  refine pw_ck (fun _ => ?_)
  refine pw_eq (fun x10 _ => ?_)
  refine pw_ite (fun _ => ?_) (fun _ => ?_)
  · refine pw_bd (wk_rowOf h) (fun x16 X17 dX17 => ?_)
    exact wk_asks_217 hr9 dX17
  · refine pw_ck (fun _ => ?_)
    refine pw_eq (fun x11 _ => ?_)
    refine pw_ite (fun _ => ?_) (fun _ => ?_)
    · refine pw_ck (fun _ => ?_)
      refine pw_eq (fun x12 _ => ?_)
      refine pw_eq (fun x13 _ => ?_)
      refine pw_bd (wk_anyFunction h) (fun x14 X15 dX15 => ?_)
      exact wk_asks_217 hr9 dX15
    · exact wk_asks_217 hr9 h
theorem wk_asks_166 {r9 : Int32 → Int32 → Int32 → Int32 → Int32 → Int32 → Int32 → St → Option (Int32 × St)} (hr9 : ∀ (q0 : Int32) (q1 : Int32) (q2 : Int32) (q3 : Int32) (q4 : Int32) (q5 : Int32) (q6 : Int32) (X : St), W11 X0 X → pw (r9 q0 q1 q2 q3 q4 q5 q6 X) (fun _ Y => W11 X0 Y)) {a1 : Int32} {a4 : Int32} {a5 : Int32} {a6 : Int32} {a7 : Int32} {a8 : Int32} {X : St} (h : W11 X0 X) : pw (f_asks_166 r9 a1 a4 a5 a6 a7 a8 X) (fun _ Y => W11 X0 Y) := by
  unfold f_asks_166
  exact wk_asks_167 hr9 h
theorem wk_asks_144 {r9 : Int32 → Int32 → Int32 → Int32 → Int32 → Int32 → Int32 → St → Option (Int32 × St)} (hr9 : ∀ (q0 : Int32) (q1 : Int32) (q2 : Int32) (q3 : Int32) (q4 : Int32) (q5 : Int32) (q6 : Int32) (X : St), W11 X0 X → pw (r9 q0 q1 q2 q3 q4 q5 q6 X) (fun _ Y => W11 X0 Y)) {a1 : Int32} {a4 : Int32} {a5 : Int32} {a6 : Int32} {a7 : Int32} {a8 : Int32} {X : St} (h : W11 X0 X) : pw (f_asks_144 r9 a1 a4 a5 a6 a7 a8 X) (fun _ Y => W11 X0 Y) := by
  unfold f_asks_144
  refine pw_ck (fun _ => ?_)
  refine pw_eq (fun x9 _ => ?_)
  refine pw_ite (fun _ => ?_) (fun _ => ?_)
  · exact wk_asks_166 hr9 h
  · refine pw_bd (wk_isOn h) (fun x18 X19 dX19 => ?_)
    refine pw_ite (fun _ => ?_) (fun _ => ?_)
    · exact wk_asks_166 hr9 dX19
    · exact wk_asks_167 hr9 dX19
theorem wk_deep {p1 : Int32} {p2 : Int32} {X : St} (h : W11 X0 X) : pw (f_deep p1 p2 X) (fun _ Y => W11 X0 Y) := by
  unfold f_deep
  refine pw_ite (fun _ => ?_) (fun _ => ?_)
  · refine pw_ck (fun _ => ?_)
    refine pw_eq (fun x3 _ => ?_)
    refine pw_ite (fun _ => ?_) (fun _ => ?_)
    · exact pw_ret h
    · refine pw_ck (fun _ => ?_)
      refine pw_eq (fun x4 _ => ?_)
      exact pw_ret h
  · refine pw_ite (fun _ => ?_) (fun _ => ?_)
    · refine pw_ite (fun _ => ?_) (fun _ => ?_)
      · exact pw_ret h
      · refine pw_eq (fun x1 _ => ?_)
        refine pw_ck (fun _ => ?_)
        refine pw_eq (fun x2 _ => ?_)
        exact pw_ret h
    · exact pw_ret h
theorem wk_wraps_39 {a6 : Int32} {X : St} (h : W11 X0 X) : pw (f_wraps_39 a6 X) (fun _ Y => W11 X0 Y) := by
  unfold f_wraps_39
  refine pw_bd (wk_ends h) (fun _ X6 dX6 => ?_)
  exact pw_ret dX6
theorem wk_wraps_164 {b0 : Int32} {b1 : Int32} {X : St} (h : W11 X0 X) : pw (f_wraps_164 b0 b1 X) (fun _ Y => W11 X0 Y) := by
  unfold f_wraps_164
  refine pw_ck (fun _ => ?_)
  refine pw_eq (fun X27 eX27 => ?_)
  have dX27 : W11 X0 X27 := by rw [eX27]; exact W11_w h (by omega)
  refine pw_eq (fun x28 _ => ?_)
  refine pw_eq (fun x29 _ => ?_)
  refine pw_eq (fun X30 eX30 => ?_)
  have dX30 : W11 X0 X30 := by rw [eX30]; exact W11_w dX27 (by omega)
  refine pw_eq (fun x31 _ => ?_)
  refine pw_eq (fun x32 _ => ?_)
  refine pw_eq (fun X33 eX33 => ?_)
  have dX33 : W11 X0 X33 := by rw [eX33]; exact W11_w dX30 (by omega)
  exact pw_ret dX33
theorem wk_wraps {p1 : Int32} {p2 : Int32} {p3 : Int32} {p4 : Int32} {p5 : Int32} {p6 : Int32} {X : St} (h : W11 X0 X) : pw (f_wraps p1 p2 p3 p4 p5 p6 X) (fun _ Y => W11 X0 Y) := by
  unfold f_wraps
  refine pw_ck (fun _ => ?_)
  refine pw_eq (fun x1 _ => ?_)
  refine pw_ck (fun _ => ?_)
  refine pw_eq (fun x2 _ => ?_)
  refine pw_bd (wk_deep h) (fun x3 X4 dX4 => ?_)
  refine pw_eq (fun x5 _ => ?_)
  refine pw_ite (fun _ => ?_) (fun _ => ?_)
  · exact wk_wraps_39 dX4
  · refine pw_ite (fun _ => ?_) (fun _ => ?_)
    · exact wk_wraps_39 dX4
    · refine pw_eq (fun x7 _ => ?_)
      refine pw_ck (fun _ => ?_)
      refine pw_eq (fun X8 eX8 => ?_)
      have dX8 : W11 X0 X8 := by rw [eX8]; exact W11_w dX4 (by omega)
      refine pw_eq (fun x9 _ => ?_)
      refine pw_ck (fun _ => ?_)
      refine pw_eq (fun x10 _ => ?_)
      refine pw_ck (fun _ => ?_)
      refine pw_eq (fun X11 eX11 => ?_)
      have dX11 : W11 X0 X11 := by rw [eX11]; exact W11_w dX8 (by omega)
      refine pw_eq (fun x12 _ => ?_)
      refine pw_ck (fun _ => ?_)
      refine pw_eq (fun X13 eX13 => ?_)
      have dX13 : W11 X0 X13 := by rw [eX13]; exact W11_w dX11 (by omega)
      refine pw_eq (fun x14 _ => ?_)
      refine pw_ck (fun _ => ?_)
      refine pw_eq (fun X15 eX15 => ?_)
      have dX15 : W11 X0 X15 := by rw [eX15]; exact W11_w dX13 (by omega)
      refine pw_eq (fun x16 _ => ?_)
      refine pw_ck (fun _ => ?_)
      refine pw_eq (fun X17 eX17 => ?_)
      have dX17 : W11 X0 X17 := by rw [eX17]; exact W11_w dX15 (by omega)
      refine pw_eq (fun x18 _ => ?_)
      refine pw_ck (fun _ => ?_)
      refine pw_eq (fun X19 eX19 => ?_)
      have dX19 : W11 X0 X19 := by rw [eX19]; exact W11_w dX17 (by omega)
      refine pw_eq (fun x20 _ => ?_)
      refine pw_ck (fun _ => ?_)
      refine pw_eq (fun X21 eX21 => ?_)
      have dX21 : W11 X0 X21 := by rw [eX21]; exact W11_w dX19 (by omega)
      refine pw_eq (fun x22 _ => ?_)
      refine pw_eq (fun x23 _ => ?_)
      refine pw_ck (fun _ => ?_)
      refine pw_eq (fun X24 eX24 => ?_)
      have dX24 : W11 X0 X24 := by rw [eX24]; exact W11_w dX21 (by omega)
      refine pw_ite (fun _ => ?_) (fun _ => ?_)
      · refine pw_eq (fun x34 _ => ?_)
        exact wk_wraps_164 dX24
      · refine pw_eq (fun x25 _ => ?_)
        refine pw_eq (fun x26 _ => ?_)
        exact wk_wraps_164 dX24
theorem wk_asks_9 (N : Nat) : ∀ (a1 : Int32) (a4 : Int32) (a5 : Int32) (a6 : Int32) (a7 : Int32) (a8 : Int32) (a9 : Int32) (X : St), W11 X0 X → pw (f_asks_9 N a1 a4 a5 a6 a7 a8 a9 X) (fun _ Y => W11 X0 Y) := by
  unfold f_asks_9
  refine lp_ind (P := fun (r : Int32 → Int32 → Int32 → Int32 → Int32 → Int32 → Int32 → St → Option (Int32 × St)) => ∀ (a1 : Int32) (a4 : Int32) (a5 : Int32) (a6 : Int32) (a7 : Int32) (a8 : Int32) (a9 : Int32) (X : St), W11 X0 X → pw (r a1 a4 a5 a6 a7 a8 a9 X) (fun _ Y => W11 X0 Y)) (fun _ _ _ _ _ _ _ _ _ => pw_none) (fun r ih a1 a4 a5 a6 a7 a8 a9 X h => ?_) N
  unfold f_asks_9_s
  refine pw_ite (fun _ => ?_) (fun _ => ?_)
  · exact pw_ret h
  · refine pw_ite (fun _ => ?_) (fun _ => ?_)
    · exact pw_ret h
    · refine pw_eq (fun x1 _ => ?_)
      refine pw_eq (fun x2 _ => ?_)
      refine pw_ck (fun _ => ?_)
      refine pw_eq (fun x3 _ => ?_)
      refine pw_eq (fun x4 _ => ?_)
      refine pw_ck (fun _ => ?_)
      refine pw_eq (fun X5 eX5 => ?_)
      have dX5 : W11 X0 X5 := by rw [eX5]; exact W11_w h (by omega)
      refine pw_ite (fun _ => ?_) (fun _ => ?_)
      · refine pw_ck (fun _ => ?_)
        refine pw_eq (fun x22 _ => ?_)
        refine pw_ite (fun _ => ?_) (fun _ => ?_)
        · exact wk_asks_60 ih dX5
        · exact wk_asks_60 ih dX5
      · refine pw_ite (fun _ => ?_) (fun _ => ?_)
        · refine pw_bd (wk_isOfSort dX5) (fun x7 X8 dX8 => ?_)
          refine pw_ite (fun _ => ?_) (fun _ => ?_)
          · refine pw_eq (fun X20 eX20 => ?_)
            have dX20 : W11 X0 X20 := by rw [eX20]; exact W11_w dX8 (by omega)
            refine pw_bd (wk_ends dX20) (fun _ X21 dX21 => ?_)
            exact wk_asks_144 ih dX21
          · exact wk_asks_144 ih dX8
        · refine pw_bd (wk_wraps dX5) (fun _ X6 dX6 => ?_)
          exact ih _ _ _ _ _ _ _ _ dX6
theorem wk_asks {p1 : Int32} {p2 : Int32} {p3 : Int32} {p4 : Int32} {p5 : Int32} {p6 : Int32} {X : St} (h : W11 X0 X) : pw (f_asks p1 p2 p3 p4 p5 p6 X) (fun _ Y => W11 X0 Y) := by
  unfold f_asks
  exact wk_asks_9 _ _ _ _ _ _ _ _ _ h
theorem wk_guarded {p1 : Int32} {p2 : Int32} {p3 : Int32} {X : St} (h : W11 X0 X) : pw (f_guarded p1 p2 p3 X) (fun _ Y => W11 X0 Y) := by
  unfold f_guarded
  refine pw_eq (fun x1 _ => ?_)
  refine pw_ite (fun _ => ?_) (fun _ => ?_)
  · refine pw_ite (fun _ => ?_) (fun _ => ?_)
    · exact pw_ret h
    · refine pw_eq (fun x2 _ => ?_)
      refine pw_eq (fun x3 _ => ?_)
      refine pw_ck (fun _ => ?_)
      refine pw_eq (fun x4 _ => ?_)
      refine pw_ite (fun _ => ?_) (fun _ => ?_)
      · exact pw_ret h
      · refine pw_bd (wk_ends h) (fun _ X5 dX5 => ?_)
        exact pw_ret dX5
  · refine pw_ck (fun _ => ?_)
    refine pw_eq (fun x6 _ => ?_)
    refine pw_ite (fun _ => ?_) (fun _ => ?_)
    · exact pw_ret h
    · refine pw_eq (fun x7 _ => ?_)
      refine pw_eq (fun x8 _ => ?_)
      refine pw_ck (fun _ => ?_)
      refine pw_eq (fun x9 _ => ?_)
      refine pw_ck (fun _ => ?_)
      refine pw_eq (fun x10 _ => ?_)
      refine pw_ck (fun _ => ?_)
      refine pw_eq (fun x11 _ => ?_)
      refine pw_ck (fun _ => ?_)
      refine pw_eq (fun x12 _ => ?_)
      refine pw_ck (fun _ => ?_)
      refine pw_eq (fun x13 _ => ?_)
      refine pw_bd (wk_asks h) (fun _ X14 dX14 => ?_)
      exact pw_ret dX14
theorem wk_call_220 {a5 : Int32} {b0 : Int32} {X : St} (h : W11 X0 X) : pw (f_call_220 a5 b0 X) (fun _ Y => W11 X0 Y) := by
  unfold f_call_220
  refine pw_eq (fun X16 eX16 => ?_)
  have dX16 : W11 X0 X16 := by rw [eX16]; exact W11_w h (by omega)
  refine pw_ck (fun _ => ?_)
  refine pw_eq (fun x17 _ => ?_)
  exact pw_ret dX16
theorem wk_call_166 {a1 : Int32} {a2 : Int32} {a4 : Int32} {X : St} (h : W11 X0 X) : pw (f_call_166 a1 a2 a4 X) (fun _ Y => W11 X0 Y) := by
  unfold f_call_166
  refine pw_bd (wk_isOn h) (fun x7 X8 dX8 => ?_)
  refine pw_ite (fun _ => ?_) (fun _ => ?_)
  · exact pw_ret dX8
  · refine pw_ck (fun _ => ?_)
    refine pw_eq (fun x9 _ => ?_)
    refine pw_eq (fun x10 _ => ?_)
    refine pw_ck (fun _ => ?_)
    refine pw_eq (fun x11 _ => ?_)
    refine pw_bd (wk_calls dX8) (fun _ X12 dX12 => ?_)
    refine pw_bd (wk_isOn dX12) (fun x13 X14 dX14 => ?_)
    refine pw_ite (fun _ => ?_) (fun _ => ?_)
    · refine pw_eq (fun x15 _ => ?_)
      exact wk_call_220 dX14
    · refine pw_eq (fun x18 _ => ?_)
      refine pw_eq (fun x19 _ => ?_)
      exact wk_call_220 dX14
theorem wk_call_128 {r17 : Int32 → Int32 → Int32 → Int32 → St → Option (Int32 × St)} (hr17 : ∀ (q0 : Int32) (q1 : Int32) (q2 : Int32) (q3 : Int32) (X : St), W11 X0 X → pw (r17 q0 q1 q2 q3 X) (fun _ Y => W11 X0 Y)) {a1 : Int32} {a2 : Int32} {a3 : Int32} {a4 : Int32} {a5 : Int32} {X : St} (h : W11 X0 X) : pw (f_call_128 r17 a1 a2 a3 a4 a5 X) (fun _ Y => W11 X0 Y) := by
  unfold f_call_128
  refine pw_eq (fun x23 _ => ?_)
  refine pw_ck (fun _ => ?_)
  refine pw_eq (fun X24 eX24 => ?_)
  have dX24 : W11 X0 X24 := by rw [eX24]; exact W11_w h (by omega)
  refine pw_eq (fun x25 _ => ?_)
  refine pw_eq (fun x26 _ => ?_)
  refine pw_eq (fun X27 eX27 => ?_)
  have dX27 : W11 X0 X27 := by rw [eX27]; exact W11_w dX24 (by omega)
  refine pw_ck (fun _ => ?_)
  refine pw_eq (fun x28 _ => ?_)
  refine pw_ck (fun _ => ?_)
  refine pw_eq (fun X29 eX29 => ?_)
  have dX29 : W11 X0 X29 := by rw [eX29]; exact W11_w dX27 (by omega)
  exact hr17 _ _ _ _ _ dX29
theorem wk_paramOf {p1 : Int32} {p2 : Int32} {X : St} (h : W11 X0 X) : pw (f_paramOf p1 p2 X) (fun _ Y => W11 X0 Y) := by
  unfold f_paramOf
  refine pw_ck (fun _ => ?_)
  refine pw_eq (fun x1 _ => ?_)
  refine pw_eq (fun x2 _ => ?_)
  refine pw_ck (fun _ => ?_)
  refine pw_eq (fun x3 _ => ?_)
  exact pw_ret h
theorem wk_call_51 {r17 : Int32 → Int32 → Int32 → Int32 → St → Option (Int32 × St)} (hr17 : ∀ (q0 : Int32) (q1 : Int32) (q2 : Int32) (q3 : Int32) (X : St), W11 X0 X → pw (r17 q0 q1 q2 q3 X) (fun _ Y => W11 X0 Y)) (N : Nat) : ∀ (a1 : Int32) (a2 : Int32) (a3 : Int32) (a4 : Int32) (a5 : Int32) (a6 : Int32) (X : St), W11 X0 X → pw (f_call_51 r17 N a1 a2 a3 a4 a5 a6 X) (fun _ Y => W11 X0 Y) := by
  unfold f_call_51
  refine lp_ind (P := fun (r : Int32 → Int32 → Int32 → Int32 → Int32 → Int32 → St → Option (Int32 × St)) => ∀ (a1 : Int32) (a2 : Int32) (a3 : Int32) (a4 : Int32) (a5 : Int32) (a6 : Int32) (X : St), W11 X0 X → pw (r a1 a2 a3 a4 a5 a6 X) (fun _ Y => W11 X0 Y)) (fun _ _ _ _ _ _ _ _ => pw_none) (fun r ih a1 a2 a3 a4 a5 a6 X h => ?_) N
  unfold f_call_51_s
  refine pw_ite (fun _ => ?_) (fun _ => ?_)
  · exact wk_call_128 hr17 h
  · refine pw_bd (wk_isOn h) (fun x30 X31 dX31 => ?_)
    refine pw_ite (fun _ => ?_) (fun _ => ?_)
    · exact wk_call_128 hr17 dX31
    · refine pw_eq (fun x32 _ => ?_)
      refine pw_eq (fun x33 _ => ?_)
      refine pw_ck (fun _ => ?_)
      refine pw_eq (fun x34 _ => ?_)
      refine pw_bd (wk_paramOf dX31) (fun x35 X36 dX36 => ?_)
      refine pw_ck (fun _ => ?_)
      refine pw_eq (fun x37 _ => ?_)
      refine pw_bd (wk_paramOf dX36) (fun x38 X39 dX39 => ?_)
      refine pw_ck (fun _ => ?_)
      refine pw_eq (fun x40 _ => ?_)
      refine pw_ck (fun _ => ?_)
      refine pw_eq (fun x41 _ => ?_)
      refine pw_ck (fun _ => ?_)
      refine pw_eq (fun x42 _ => ?_)
      refine pw_bd (wk_asks dX39) (fun _ X43 dX43 => ?_)
      refine pw_eq (fun x44 _ => ?_)
      exact ih _ _ _ _ _ _ _ dX43
theorem wk_call_17 (N : Nat) : ∀ (a1 : Int32) (a2 : Int32) (a3 : Int32) (a4 : Int32) (X : St), W11 X0 X → pw (f_call_17 N a1 a2 a3 a4 X) (fun _ Y => W11 X0 Y) := by
  unfold f_call_17
  refine lp_ind (P := fun (r : Int32 → Int32 → Int32 → Int32 → St → Option (Int32 × St)) => ∀ (a1 : Int32) (a2 : Int32) (a3 : Int32) (a4 : Int32) (X : St), W11 X0 X → pw (r a1 a2 a3 a4 X) (fun _ Y => W11 X0 Y)) (fun _ _ _ _ _ _ => pw_none) (fun r ih a1 a2 a3 a4 X h => ?_) N
  unfold f_call_17_s
  refine pw_bd (wk_isOn h) (fun x5 X6 dX6 => ?_)
  refine pw_ite (fun _ => ?_) (fun _ => ?_)
  · exact wk_call_166 dX6
  · refine pw_ck (fun _ => ?_)
    refine pw_eq (fun x20 _ => ?_)
    refine pw_ite (fun _ => ?_) (fun _ => ?_)
    · exact wk_call_166 dX6
    · refine pw_ck (fun _ => ?_)
      refine pw_eq (fun x21 _ => ?_)
      refine pw_eq (fun x22 _ => ?_)
      exact wk_call_51 ih _ _ _ _ _ _ _ _ dX6
theorem wk_call {p1 : Int32} {p2 : Int32} {X : St} (h : W11 X0 X) : pw (f_call p1 p2 X) (fun _ Y => W11 X0 Y) := by
  unfold f_call
  refine pw_ck (fun _ => ?_)
  refine pw_eq (fun x1 _ => ?_)
  refine pw_eq (fun x2 _ => ?_)
  refine pw_eq (fun x3 _ => ?_)
  refine pw_eq (fun x4 _ => ?_)
  exact wk_call_17 _ _ _ _ _ _ h
theorem wk_resultOf {p1 : Int32} {X : St} (h : W11 X0 X) : pw (f_resultOf p1 X) (fun _ Y => W11 X0 Y) := by
  unfold f_resultOf
  refine pw_ck (fun _ => ?_)
  refine pw_eq (fun x1 _ => ?_)
  refine pw_ck (fun _ => ?_)
  refine pw_eq (fun x2 _ => ?_)
  refine pw_eq (fun x3 _ => ?_)
  refine pw_eq (fun x4 _ => ?_)
  refine pw_ck (fun _ => ?_)
  refine pw_eq (fun x5 _ => ?_)
  exact pw_ret h
theorem wk_goesBack_43 (N : Nat) : ∀ (a1 : Int32) (X : St), W11 X0 X → pw (f_goesBack_43 N a1 X) (fun _ Y => W11 X0 Y) := by
  unfold f_goesBack_43
  refine lp_ind (P := fun (r : Int32 → St → Option (Int32 × St)) => ∀ (a1 : Int32) (X : St), W11 X0 X → pw (r a1 X) (fun _ Y => W11 X0 Y)) (fun _ _ _ => pw_none) (fun r ih a1 X h => ?_) N
  unfold f_goesBack_43_s
  refine pw_bd (wk_isOn h) (fun x12 X13 dX13 => ?_)
  refine pw_ite (fun _ => ?_) (fun _ => ?_)
  · exact pw_ret dX13
  · refine pw_eq (fun x14 _ => ?_)
    refine pw_ite (fun _ => ?_) (fun _ => ?_)
    · exact pw_ret dX13
    · refine pw_eq (fun x15 _ => ?_)
      refine pw_eq (fun x16 _ => ?_)
      refine pw_ck (fun _ => ?_)
      refine pw_eq (fun x17 _ => ?_)
      refine pw_ite (fun _ => ?_) (fun _ => ?_)
      · exact pw_ret dX13
      · refine pw_eq (fun x18 _ => ?_)
        refine pw_eq (fun x19 _ => ?_)
        refine pw_eq (fun X20 eX20 => ?_)
        have dX20 : W11 X0 X20 := by rw [eX20]; exact W11_w dX13 (by omega)
        refine pw_eq (fun x21 _ => ?_)
        refine pw_ck (fun _ => ?_)
        refine pw_eq (fun x22 _ => ?_)
        refine pw_eq (fun x23 _ => ?_)
        refine pw_eq (fun x24 _ => ?_)
        refine pw_ck (fun _ => ?_)
        refine pw_eq (fun x25 _ => ?_)
        refine pw_bd (wk_resultOf dX20) (fun x26 X27 dX27 => ?_)
        refine pw_ck (fun _ => ?_)
        refine pw_eq (fun x28 _ => ?_)
        refine pw_bd (wk_resultOf dX27) (fun x29 X30 dX30 => ?_)
        refine pw_ck (fun _ => ?_)
        refine pw_eq (fun x31 _ => ?_)
        refine pw_ck (fun _ => ?_)
        refine pw_eq (fun x32 _ => ?_)
        refine pw_ck (fun _ => ?_)
        refine pw_eq (fun x33 _ => ?_)
        refine pw_bd (wk_asks dX30) (fun _ X34 dX34 => ?_)
        exact ih _ _ dX34
theorem wk_goesBack {X : St} (h : W11 X0 X) : pw (f_goesBack X) (fun _ Y => W11 X0 Y) := by
  unfold f_goesBack
  refine pw_eq (fun x1 _ => ?_)
  refine pw_eq (fun x2 _ => ?_)
  refine pw_eq (fun X3 eX3 => ?_)
  have dX3 : W11 X0 X3 := by rw [eX3]; exact W11_w h (by omega)
  refine pw_eq (fun x4 _ => ?_)
  refine pw_ck (fun _ => ?_)
  refine pw_eq (fun x5 _ => ?_)
  refine pw_eq (fun x6 _ => ?_)
  refine pw_ck (fun _ => ?_)
  refine pw_eq (fun x7 _ => ?_)
  refine pw_eq (fun X8 eX8 => ?_)
  have dX8 : W11 X0 X8 := by rw [eX8]; exact W11_w dX3 (by omega)
  refine pw_eq (fun x9 _ => ?_)
  refine pw_eq (fun x10 _ => ?_)
  refine pw_eq (fun X11 eX11 => ?_)
  have dX11 : W11 X0 X11 := by rw [eX11]; exact W11_w dX8 (by omega)
  exact wk_goesBack_43 _ _ _ dX11
theorem wk_row_22 {a2 : Int32} {X : St} (h : W11 X0 X) : pw (f_row_22 a2 X) (fun _ Y => W11 X0 Y) := by
  unfold f_row_22
  refine pw_bd (wk_ends h) (fun _ X3 dX3 => ?_)
  exact pw_ret dX3
theorem wk_row {p1 : Int32} {p2 : Int32} {X : St} (h : W11 X0 X) : pw (f_row p1 p2 X) (fun _ Y => W11 X0 Y) := by
  unfold f_row
  refine pw_eq (fun x1 _ => ?_)
  refine pw_eq (fun x2 _ => ?_)
  refine pw_ite (fun _ => ?_) (fun _ => ?_)
  · exact wk_row_22 h
  · refine pw_eq (fun x4 _ => ?_)
    refine pw_ite (fun _ => ?_) (fun _ => ?_)
    · exact wk_row_22 h
    · refine pw_eq (fun x5 _ => ?_)
      refine pw_ck (fun _ => ?_)
      refine pw_eq (fun X6 eX6 => ?_)
      have dX6 : W11 X0 X6 := by rw [eX6]; exact W11_w h (by omega)
      refine pw_eq (fun x7 _ => ?_)
      refine pw_eq (fun x8 _ => ?_)
      refine pw_ck (fun _ => ?_)
      refine pw_eq (fun X9 eX9 => ?_)
      have dX9 : W11 X0 X9 := by rw [eX9]; exact W11_w dX6 (by omega)
      refine pw_eq (fun x10 _ => ?_)
      refine pw_ck (fun _ => ?_)
      refine pw_eq (fun X11 eX11 => ?_)
      have dX11 : W11 X0 X11 := by rw [eX11]; exact W11_w dX9 (by omega)
      refine pw_eq (fun x12 _ => ?_)
      refine pw_eq (fun x13 _ => ?_)
      refine pw_eq (fun X14 eX14 => ?_)
      have dX14 : W11 X0 X14 := by rw [eX14]; exact W11_w dX11 (by omega)
      refine pw_eq (fun x15 _ => ?_)
      refine pw_eq (fun x16 _ => ?_)
      refine pw_eq (fun X17 eX17 => ?_)
      have dX17 : W11 X0 X17 := by rw [eX17]; exact W11_w dX14 (by omega)
      refine pw_eq (fun x18 _ => ?_)
      refine pw_eq (fun x19 _ => ?_)
      refine pw_eq (fun X20 eX20 => ?_)
      have dX20 : W11 X0 X20 := by rw [eX20]; exact W11_w dX17 (by omega)
      refine pw_eq (fun x21 _ => ?_)
      refine pw_eq (fun x22 _ => ?_)
      exact pw_ret dX20
theorem wk_works_98 (N : Nat) : ∀ (a2 : Int32) (a3 : Int32) (a4 : Int32) (X : St), W11 X0 X → pw (f_works_98 N a2 a3 a4 X) (fun _ Y => W11 X0 Y) := by
  unfold f_works_98
  refine lp_ind (P := fun (r : Int32 → Int32 → Int32 → St → Option (Int32 × St)) => ∀ (a2 : Int32) (a3 : Int32) (a4 : Int32) (X : St), W11 X0 X → pw (r a2 a3 a4 X) (fun _ Y => W11 X0 Y)) (fun _ _ _ _ _ => pw_none) (fun r ih a2 a3 a4 X h => ?_) N
  unfold f_works_98_s
  refine pw_ck (fun _ => ?_)
  refine pw_eq (fun x12 _ => ?_)
  refine pw_ite (fun _ => ?_) (fun _ => ?_)
  · refine pw_bd (wk_value h) (fun _ X13 dX13 => ?_)
    exact pw_ret dX13
  · refine pw_ck (fun _ => ?_)
    refine pw_eq (fun x14 _ => ?_)
    refine pw_eq (fun x15 _ => ?_)
    refine pw_eq (fun x16 _ => ?_)
    refine pw_eq (fun x17 _ => ?_)
    refine pw_ck (fun _ => ?_)
    refine pw_eq (fun x18 _ => ?_)
    refine pw_ck (fun _ => ?_)
    refine pw_eq (fun X19 eX19 => ?_)
    have dX19 : W11 X0 X19 := by rw [eX19]; exact W11_w h (by omega)
    refine pw_ck (fun _ => ?_)
    refine pw_eq (fun x20 _ => ?_)
    refine pw_eq (fun x21 _ => ?_)
    refine pw_eq (fun x22 _ => ?_)
    refine pw_eq (fun x23 _ => ?_)
    refine pw_ck (fun _ => ?_)
    refine pw_eq (fun x24 _ => ?_)
    refine pw_ck (fun _ => ?_)
    refine pw_eq (fun X25 eX25 => ?_)
    have dX25 : W11 X0 X25 := by rw [eX25]; exact W11_w dX19 (by omega)
    refine pw_eq (fun x26 _ => ?_)
    exact ih _ _ _ _ dX25
theorem wk_in {p0 : Int32} {p1 : Int32} {p2 : Int32} {X : St} (h : W11 X0 X) : pw (f_in p0 p1 p2 X) (fun _ Y => W11 X0 Y) := by
  unfold f_in
  refine pw_ite (fun _ => ?_) (fun _ => ?_)
  · exact pw_ret h
  · refine pw_ite (fun _ => ?_) (fun _ => ?_)
    · exact pw_ret h
    · exact pw_ret h
theorem wk_makes_58 (N : Nat) : ∀ (a2 : Int32) (a3 : Int32) (a4 : Int32) (X : St), W11 X0 X → pw (f_makes_58 N a2 a3 a4 X) (fun _ Y => W11 X0 Y) := by
  unfold f_makes_58
  refine lp_ind (P := fun (r : Int32 → Int32 → Int32 → St → Option (Int32 × St)) => ∀ (a2 : Int32) (a3 : Int32) (a4 : Int32) (X : St), W11 X0 X → pw (r a2 a3 a4 X) (fun _ Y => W11 X0 Y)) (fun _ _ _ _ _ => pw_none) (fun r ih a2 a3 a4 X h => ?_) N
  unfold f_makes_58_s
  refine pw_ite (fun _ => ?_) (fun _ => ?_)
  · refine pw_eq (fun x11 _ => ?_)
    refine pw_eq (fun x12 _ => ?_)
    refine pw_eq (fun X13 eX13 => ?_)
    have dX13 : W11 X0 X13 := by rw [eX13]; exact W11_w h (by omega)
    refine pw_bd (wk_value dX13) (fun _ X14 dX14 => ?_)
    exact pw_ret dX14
  · refine pw_ck (fun _ => ?_)
    refine pw_eq (fun x15 _ => ?_)
    refine pw_eq (fun x16 _ => ?_)
    refine pw_eq (fun x17 _ => ?_)
    refine pw_eq (fun x18 _ => ?_)
    refine pw_ck (fun _ => ?_)
    refine pw_eq (fun x19 _ => ?_)
    refine pw_ck (fun _ => ?_)
    refine pw_eq (fun X20 eX20 => ?_)
    have dX20 : W11 X0 X20 := by rw [eX20]; exact W11_w h (by omega)
    refine pw_ck (fun _ => ?_)
    refine pw_eq (fun x21 _ => ?_)
    refine pw_eq (fun x22 _ => ?_)
    refine pw_eq (fun x23 _ => ?_)
    refine pw_eq (fun x24 _ => ?_)
    refine pw_ck (fun _ => ?_)
    refine pw_eq (fun x25 _ => ?_)
    refine pw_ck (fun _ => ?_)
    refine pw_eq (fun X26 eX26 => ?_)
    have dX26 : W11 X0 X26 := by rw [eX26]; exact W11_w dX20 (by omega)
    refine pw_eq (fun x27 _ => ?_)
    exact ih _ _ _ _ dX26
theorem wk_makes {p1 : Int32} {X : St} (h : W11 X0 X) : pw (f_makes p1 X) (fun _ Y => W11 X0 Y) := by
  unfold f_makes
  refine pw_eq (fun x1 _ => ?_)
  refine pw_eq (fun x2 _ => ?_)
  refine pw_ck (fun _ => ?_)
  refine pw_eq (fun x3 _ => ?_)
  refine pw_bd (wk_in h) (fun x4 X5 dX5 => ?_)
  refine pw_ite (fun _ => ?_) (fun _ => ?_)
  · refine pw_ck (fun _ => ?_)
    refine pw_eq (fun x28 _ => ?_)
    refine pw_bd (wk_ends dX5) (fun _ X29 dX29 => ?_)
    exact pw_ret dX29
  · refine pw_ck (fun _ => ?_)
    refine pw_eq (fun x6 _ => ?_)
    refine pw_bd (wk_row dX5) (fun x7 X8 dX8 => ?_)
    refine pw_bd (wk_isOn dX8) (fun x9 X10 dX10 => ?_)
    refine pw_ite (fun _ => ?_) (fun _ => ?_)
    · exact pw_ret dX10
    · exact wk_makes_58 _ _ _ _ _ dX10
theorem wk_sums_70 {a1 : Int32} {a2 : Int32} {a3 : Int32} {X : St} (h : W11 X0 X) : pw (f_sums_70 a1 a2 a3 X) (fun _ Y => W11 X0 Y) := by
  unfold f_sums_70
  refine pw_ck (fun _ => ?_)
  refine pw_eq (fun x10 _ => ?_)
  refine pw_ite (fun _ => ?_) (fun _ => ?_)
  · refine pw_eq (fun x12 _ => ?_)
    refine pw_bd (wk_value h) (fun _ X13 dX13 => ?_)
    exact pw_ret dX13
  · refine pw_ite (fun _ => ?_) (fun _ => ?_)
    · refine pw_eq (fun x15 _ => ?_)
      refine pw_bd (wk_value h) (fun _ X16 dX16 => ?_)
      exact pw_ret dX16
    · refine pw_ite (fun _ => ?_) (fun _ => ?_)
      · refine pw_eq (fun x18 _ => ?_)
        refine pw_bd (wk_value h) (fun _ X19 dX19 => ?_)
        exact pw_ret dX19
      · refine pw_ite (fun _ => ?_) (fun _ => ?_)
        · refine pw_ck (fun _ => ?_)
          refine pw_eq (fun x21 _ => ?_)
          refine pw_bd (wk_value h) (fun _ X23 dX23 => ?_)
          exact pw_ret dX23
        · refine pw_ck (fun _ => ?_)
          refine pw_eq (fun x24 _ => ?_)
          refine pw_bd (wk_value h) (fun _ X26 dX26 => ?_)
          exact pw_ret dX26
theorem wk_sums_54 {a1 : Int32} {a2 : Int32} {a3 : Int32} {X : St} (h : W11 X0 X) : pw (f_sums_54 a1 a2 a3 X) (fun _ Y => W11 X0 Y) := by
  unfold f_sums_54
  refine pw_ite (fun _ => ?_) (fun _ => ?_)
  · refine pw_ck (fun _ => ?_)
    refine pw_eq (fun x27 _ => ?_)
    refine pw_bd (wk_ends h) (fun _ X28 dX28 => ?_)
    exact pw_ret dX28
  · exact wk_sums_70 h
theorem wk_sums {p1 : Int32} {X : St} (h : W11 X0 X) : pw (f_sums p1 X) (fun _ Y => W11 X0 Y) := by
  unfold f_sums
  refine pw_eq (fun x1 _ => ?_)
  refine pw_eq (fun x2 _ => ?_)
  refine pw_eq (fun X3 eX3 => ?_)
  have dX3 : W11 X0 X3 := by rw [eX3]; exact W11_w h (by omega)
  refine pw_eq (fun x4 _ => ?_)
  refine pw_ck (fun _ => ?_)
  refine pw_eq (fun x5 _ => ?_)
  refine pw_eq (fun x6 _ => ?_)
  refine pw_eq (fun x7 _ => ?_)
  refine pw_ck (fun _ => ?_)
  refine pw_eq (fun x8 _ => ?_)
  refine pw_ck (fun _ => ?_)
  refine pw_eq (fun x9 _ => ?_)
  refine pw_ite (fun _ => ?_) (fun _ => ?_)
  · exact wk_sums_54 dX3
  · refine pw_ck (fun _ => ?_)
    refine pw_eq (fun x29 _ => ?_)
    refine pw_ite (fun _ => ?_) (fun _ => ?_)
    · exact wk_sums_54 dX3
    · exact wk_sums_70 dX3
theorem wk_works_432 {b0 : Int32} {b1 : Int32} {X : St} (h : W11 X0 X) : pw (f_works_432 b0 b1 X) (fun _ Y => W11 X0 Y) := by
  unfold f_works_432
  refine pw_bd (wk_value h) (fun _ X79 dX79 => ?_)
  exact pw_ret dX79
theorem wk_works_420 {b0 : Int32} {X : St} (h : W11 X0 X) : pw (f_works_420 b0 X) (fun _ Y => W11 X0 Y) := by
  unfold f_works_420
  refine pw_ite (fun _ => ?_) (fun _ => ?_)
  · exact wk_works_432 h
  · exact wk_works_432 h
theorem wk_aroundOf_4 (N : Nat) : ∀ (a2 : Int32) (a3 : Int32) (X : St), W11 X0 X → pw (f_aroundOf_4 N a2 a3 X) (fun _ Y => W11 X0 Y) := by
  unfold f_aroundOf_4
  refine lp_ind (P := fun (r : Int32 → Int32 → St → Option (Int32 × St)) => ∀ (a2 : Int32) (a3 : Int32) (X : St), W11 X0 X → pw (r a2 a3 X) (fun _ Y => W11 X0 Y)) (fun _ _ _ _ => pw_none) (fun r ih a2 a3 X h => ?_) N
  unfold f_aroundOf_4_s
  refine pw_ck (fun _ => ?_)
  refine pw_eq (fun x1 _ => ?_)
  refine pw_ite (fun _ => ?_) (fun _ => ?_)
  · exact pw_ret h
  · refine pw_ck (fun _ => ?_)
    refine pw_eq (fun X2 eX2 => ?_)
    have dX2 : W11 X0 X2 := by rw [eX2]; exact W11_w h (by omega)
    refine pw_eq (fun x3 _ => ?_)
    refine pw_ck (fun _ => ?_)
    refine pw_eq (fun x4 _ => ?_)
    exact ih _ _ _ dX2
theorem wk_aroundOf {p1 : Int32} {X : St} (h : W11 X0 X) : pw (f_aroundOf p1 X) (fun _ Y => W11 X0 Y) := by
  unfold f_aroundOf
  exact wk_aroundOf_4 _ _ _ _ h
theorem wk_elementOf {p1 : Int32} {X : St} (h : W11 X0 X) : pw (f_elementOf p1 X) (fun _ Y => W11 X0 Y) := by
  unfold f_elementOf
  refine pw_ck (fun _ => ?_)
  refine pw_eq (fun x1 _ => ?_)
  refine pw_ck (fun _ => ?_)
  refine pw_eq (fun x2 _ => ?_)
  exact pw_ret h
theorem wk_readsPlace_126 (N : Nat) : ∀ (a2 : Int32) (a6 : Int32) (X : St), W11 X0 X → pw (f_readsPlace_126 N a2 a6 X) (fun _ Y => W11 X0 Y) := by
  unfold f_readsPlace_126
  refine lp_ind (P := fun (r : Int32 → Int32 → St → Option (Int32 × St)) => ∀ (a2 : Int32) (a6 : Int32) (X : St), W11 X0 X → pw (r a2 a6 X) (fun _ Y => W11 X0 Y)) (fun _ _ _ _ => pw_none) (fun r ih a2 a6 X h => ?_) N
  unfold f_readsPlace_126_s
  refine pw_ite (fun _ => ?_) (fun _ => ?_)
  · exact pw_ret h
  · refine pw_bd (wk_isOn h) (fun x27 X28 dX28 => ?_)
    refine pw_ite (fun _ => ?_) (fun _ => ?_)
    · exact pw_ret dX28
    · refine pw_ck (fun _ => ?_)
      refine pw_eq (fun x29 _ => ?_)
      refine pw_ck (fun _ => ?_)
      refine pw_eq (fun x30 _ => ?_)
      refine pw_bd (wk_elementOf dX28) (fun x31 X32 dX32 => ?_)
      refine pw_ck (fun _ => ?_)
      refine pw_eq (fun x33 _ => ?_)
      refine pw_bd (wk_elementOf dX32) (fun x34 X35 dX35 => ?_)
      refine pw_ck (fun _ => ?_)
      refine pw_eq (fun x36 _ => ?_)
      refine pw_ck (fun _ => ?_)
      refine pw_eq (fun x37 _ => ?_)
      refine pw_ck (fun _ => ?_)
      refine pw_eq (fun x38 _ => ?_)
      refine pw_bd (wk_asks dX35) (fun _ X39 dX39 => ?_)
      refine pw_eq (fun x40 _ => ?_)
      exact ih _ _ _ dX39
theorem wk_readsPlace {p1 : Int32} {X : St} (h : W11 X0 X) : pw (f_readsPlace p1 X) (fun _ Y => W11 X0 Y) := by
  unfold f_readsPlace
  refine pw_eq (fun x1 _ => ?_)
  refine pw_eq (fun x2 _ => ?_)
  refine pw_ck (fun _ => ?_)
  refine pw_eq (fun x3 _ => ?_)
  refine pw_bd (wk_within h) (fun x4 X5 dX5 => ?_)
  refine pw_eq (fun x6 _ => ?_)
  refine pw_eq (fun x7 _ => ?_)
  refine pw_ck (fun _ => ?_)
  refine pw_eq (fun x8 _ => ?_)
  refine pw_ck (fun _ => ?_)
  refine pw_eq (fun x9 _ => ?_)
  refine pw_eq (fun x10 _ => ?_)
  refine pw_bd (wk_in dX5) (fun x11 X12 dX12 => ?_)
  refine pw_ite (fun _ => ?_) (fun _ => ?_)
  · refine pw_ck (fun _ => ?_)
    refine pw_eq (fun x41 _ => ?_)
    refine pw_bd (wk_ends dX12) (fun _ X42 dX42 => ?_)
    exact pw_ret dX42
  · refine pw_eq (fun x13 _ => ?_)
    refine pw_eq (fun x14 _ => ?_)
    refine pw_eq (fun X15 eX15 => ?_)
    have dX15 : W11 X0 X15 := by rw [eX15]; exact W11_w dX12 (by omega)
    refine pw_ck (fun _ => ?_)
    refine pw_eq (fun x16 _ => ?_)
    refine pw_eq (fun x17 _ => ?_)
    refine pw_ck (fun _ => ?_)
    refine pw_eq (fun x18 _ => ?_)
    refine pw_ck (fun _ => ?_)
    refine pw_eq (fun X19 eX19 => ?_)
    have dX19 : W11 X0 X19 := by rw [eX19]; exact W11_w dX15 (by omega)
    refine pw_ck (fun _ => ?_)
    refine pw_eq (fun x20 _ => ?_)
    refine pw_eq (fun x21 _ => ?_)
    refine pw_ck (fun _ => ?_)
    refine pw_eq (fun x22 _ => ?_)
    refine pw_ck (fun _ => ?_)
    refine pw_eq (fun X23 eX23 => ?_)
    have dX23 : W11 X0 X23 := by rw [eX23]; exact W11_w dX19 (by omega)
    refine pw_bd (wk_aroundOf dX23) (fun x24 X25 dX25 => ?_)
    refine pw_eq (fun x26 _ => ?_)
    exact wk_readsPlace_126 _ _ _ _ dX25
theorem wk_writes_242 {a2 : Int32} {a6 : Int32} {a7 : Int32} {X : St} (h : W11 X0 X) : pw (f_writes_242 a2 a6 a7 X) (fun _ Y => W11 X0 Y) := by
  unfold f_writes_242
  refine pw_eq (fun X23 eX23 => ?_)
  have dX23 : W11 X0 X23 := by rw [eX23]; exact W11_w h (by omega)
  refine pw_bd (wk_value dX23) (fun _ X24 dX24 => ?_)
  exact pw_ret dX24
theorem wk_writes_183 {a2 : Int32} {a4 : Int32} {a5 : Int32} {a6 : Int32} {a7 : Int32} {X : St} (h : W11 X0 X) : pw (f_writes_183 a2 a4 a5 a6 a7 X) (fun _ Y => W11 X0 Y) := by
  unfold f_writes_183
  refine pw_bd (wk_isOn h) (fun x21 X22 dX22 => ?_)
  refine pw_ite (fun _ => ?_) (fun _ => ?_)
  · exact wk_writes_242 dX22
  · refine pw_ck (fun _ => ?_)
    refine pw_eq (fun x25 _ => ?_)
    refine pw_eq (fun x26 _ => ?_)
    refine pw_eq (fun x27 _ => ?_)
    refine pw_eq (fun x28 _ => ?_)
    refine pw_ck (fun _ => ?_)
    refine pw_eq (fun x29 _ => ?_)
    refine pw_ck (fun _ => ?_)
    refine pw_eq (fun X30 eX30 => ?_)
    have dX30 : W11 X0 X30 := by rw [eX30]; exact W11_w dX22 (by omega)
    refine pw_ck (fun _ => ?_)
    refine pw_eq (fun x31 _ => ?_)
    refine pw_eq (fun x32 _ => ?_)
    refine pw_eq (fun x33 _ => ?_)
    refine pw_eq (fun x34 _ => ?_)
    refine pw_ck (fun _ => ?_)
    refine pw_eq (fun x35 _ => ?_)
    refine pw_ck (fun _ => ?_)
    refine pw_eq (fun X36 eX36 => ?_)
    have dX36 : W11 X0 X36 := by rw [eX36]; exact W11_w dX30 (by omega)
    exact wk_writes_242 dX36
theorem wk_writes_101 (N : Nat) : ∀ (a2 : Int32) (a4 : Int32) (a5 : Int32) (a6 : Int32) (a7 : Int32) (a8 : Int32) (a9 : Int32) (X : St), W11 X0 X → pw (f_writes_101 N a2 a4 a5 a6 a7 a8 a9 X) (fun _ Y => W11 X0 Y) := by
  unfold f_writes_101
  refine lp_ind (P := fun (r : Int32 → Int32 → Int32 → Int32 → Int32 → Int32 → Int32 → St → Option (Int32 × St)) => ∀ (a2 : Int32) (a4 : Int32) (a5 : Int32) (a6 : Int32) (a7 : Int32) (a8 : Int32) (a9 : Int32) (X : St), W11 X0 X → pw (r a2 a4 a5 a6 a7 a8 a9 X) (fun _ Y => W11 X0 Y)) (fun _ _ _ _ _ _ _ _ _ => pw_none) (fun r ih a2 a4 a5 a6 a7 a8 a9 X h => ?_) N
  unfold f_writes_101_s
  refine pw_ite (fun _ => ?_) (fun _ => ?_)
  · exact wk_writes_183 h
  · refine pw_bd (wk_isOn h) (fun x37 X38 dX38 => ?_)
    refine pw_ite (fun _ => ?_) (fun _ => ?_)
    · exact wk_writes_183 dX38
    · refine pw_ck (fun _ => ?_)
      refine pw_eq (fun x39 _ => ?_)
      refine pw_eq (fun x40 _ => ?_)
      refine pw_eq (fun x41 _ => ?_)
      refine pw_ck (fun _ => ?_)
      refine pw_eq (fun x42 _ => ?_)
      refine pw_bd (wk_elementOf dX38) (fun x43 X44 dX44 => ?_)
      refine pw_ck (fun _ => ?_)
      refine pw_eq (fun x45 _ => ?_)
      refine pw_bd (wk_elementOf dX44) (fun x46 X47 dX47 => ?_)
      refine pw_ck (fun _ => ?_)
      refine pw_eq (fun x48 _ => ?_)
      refine pw_ck (fun _ => ?_)
      refine pw_eq (fun x49 _ => ?_)
      refine pw_ck (fun _ => ?_)
      refine pw_eq (fun x50 _ => ?_)
      refine pw_bd (wk_asks dX47) (fun _ X51 dX51 => ?_)
      refine pw_eq (fun x52 _ => ?_)
      exact ih _ _ _ _ _ _ _ _ dX51
theorem wk_writes {p1 : Int32} {X : St} (h : W11 X0 X) : pw (f_writes p1 X) (fun _ Y => W11 X0 Y) := by
  unfold f_writes
  refine pw_eq (fun x1 _ => ?_)
  refine pw_eq (fun x2 _ => ?_)
  refine pw_ck (fun _ => ?_)
  refine pw_eq (fun x3 _ => ?_)
  refine pw_bd (wk_within h) (fun x4 X5 dX5 => ?_)
  refine pw_eq (fun x6 _ => ?_)
  refine pw_eq (fun x7 _ => ?_)
  refine pw_ck (fun _ => ?_)
  refine pw_eq (fun x8 _ => ?_)
  refine pw_ck (fun _ => ?_)
  refine pw_eq (fun x9 _ => ?_)
  refine pw_eq (fun x10 _ => ?_)
  refine pw_bd (wk_in dX5) (fun x11 X12 dX12 => ?_)
  refine pw_ite (fun _ => ?_) (fun _ => ?_)
  · refine pw_ck (fun _ => ?_)
    refine pw_eq (fun x53 _ => ?_)
    refine pw_bd (wk_ends dX12) (fun _ X54 dX54 => ?_)
    exact pw_ret dX54
  · refine pw_eq (fun x13 _ => ?_)
    refine pw_eq (fun x14 _ => ?_)
    refine pw_ck (fun _ => ?_)
    refine pw_eq (fun x15 _ => ?_)
    refine pw_eq (fun x16 _ => ?_)
    refine pw_eq (fun x17 _ => ?_)
    refine pw_ck (fun _ => ?_)
    refine pw_eq (fun x18 _ => ?_)
    refine pw_bd (wk_aroundOf dX12) (fun x19 X20 dX20 => ?_)
    exact wk_writes_101 _ _ _ _ _ _ _ _ _ dX20
theorem wk_works {p1 : Int32} {p2 : Int32} {X : St} (h : W11 X0 X) : pw (f_works p1 p2 X) (fun _ Y => W11 X0 Y) := by
  unfold f_works
  refine pw_ite (fun _ => ?_) (fun _ => ?_)
  · refine pw_ck (fun _ => ?_)
    refine pw_eq (fun x2 _ => ?_)
    refine pw_ck (fun _ => ?_)
    refine pw_eq (fun x3 _ => ?_)
    refine pw_bd (wk_row h) (fun x4 X5 dX5 => ?_)
    refine pw_bd (wk_isOn dX5) (fun x6 X7 dX7 => ?_)
    refine pw_ite (fun _ => ?_) (fun _ => ?_)
    · exact pw_ret dX7
    · refine pw_eq (fun x8 _ => ?_)
      refine pw_ck (fun _ => ?_)
      refine pw_eq (fun x9 _ => ?_)
      refine pw_eq (fun x10 _ => ?_)
      refine pw_eq (fun X11 eX11 => ?_)
      have dX11 : W11 X0 X11 := by rw [eX11]; exact W11_w dX7 (by omega)
      exact wk_works_98 _ _ _ _ _ dX11
  · refine pw_ite (fun _ => ?_) (fun _ => ?_)
    · refine pw_bd (wk_makes h) (fun _ X28 dX28 => ?_)
      exact pw_ret dX28
    · refine pw_ite (fun _ => ?_) (fun _ => ?_)
      · refine pw_eq (fun x30 _ => ?_)
        refine pw_eq (fun x31 _ => ?_)
        refine pw_eq (fun X32 eX32 => ?_)
        have dX32 : W11 X0 X32 := by rw [eX32]; exact W11_w h (by omega)
        refine pw_eq (fun x33 _ => ?_)
        refine pw_ck (fun _ => ?_)
        refine pw_eq (fun x34 _ => ?_)
        refine pw_bd (wk_within dX32) (fun x35 X36 dX36 => ?_)
        refine pw_ck (fun _ => ?_)
        refine pw_eq (fun x37 _ => ?_)
        refine pw_bd (wk_value dX36) (fun _ X38 dX38 => ?_)
        exact pw_ret dX38
      · refine pw_ite (fun _ => ?_) (fun _ => ?_)
        · refine pw_eq (fun x40 _ => ?_)
          refine pw_ite (fun _ => ?_) (fun _ => ?_)
          · refine pw_ck (fun _ => ?_)
            refine pw_eq (fun x49 _ => ?_)
            refine pw_bd (wk_ends h) (fun _ X50 dX50 => ?_)
            exact pw_ret dX50
          · refine pw_eq (fun x41 _ => ?_)
            refine pw_eq (fun x42 _ => ?_)
            refine pw_eq (fun x43 _ => ?_)
            refine pw_ck (fun _ => ?_)
            refine pw_eq (fun x44 _ => ?_)
            refine pw_ck (fun _ => ?_)
            refine pw_eq (fun X45 eX45 => ?_)
            have dX45 : W11 X0 X45 := by rw [eX45]; exact W11_w h (by omega)
            refine pw_eq (fun x46 _ => ?_)
            refine pw_eq (fun x47 _ => ?_)
            refine pw_eq (fun X48 eX48 => ?_)
            have dX48 : W11 X0 X48 := by rw [eX48]; exact W11_w dX45 (by omega)
            exact pw_ret dX48
        · refine pw_ite (fun _ => ?_) (fun _ => ?_)
          · refine pw_eq (fun x52 _ => ?_)
            refine pw_eq (fun x53 _ => ?_)
            refine pw_eq (fun x54 _ => ?_)
            refine pw_eq (fun x55 _ => ?_)
            refine pw_ck (fun _ => ?_)
            refine pw_eq (fun x56 _ => ?_)
            refine pw_eq (fun x57 _ => ?_)
            refine pw_ck (fun _ => ?_)
            refine pw_eq (fun X58 eX58 => ?_)
            have dX58 : W11 X0 X58 := by rw [eX58]; exact W11_w h (by omega)
            exact pw_ret dX58
          · refine pw_ite (fun _ => ?_) (fun _ => ?_)
            · refine pw_eq (fun x60 _ => ?_)
              refine pw_eq (fun x61 _ => ?_)
              refine pw_eq (fun x62 _ => ?_)
              refine pw_eq (fun x63 _ => ?_)
              refine pw_ck (fun _ => ?_)
              refine pw_eq (fun x64 _ => ?_)
              refine pw_eq (fun x65 _ => ?_)
              refine pw_ck (fun _ => ?_)
              refine pw_eq (fun X66 eX66 => ?_)
              have dX66 : W11 X0 X66 := by rw [eX66]; exact W11_w h (by omega)
              exact pw_ret dX66
            · refine pw_ite (fun _ => ?_) (fun _ => ?_)
              · refine pw_bd (wk_sums h) (fun _ X68 dX68 => ?_)
                exact pw_ret dX68
              · refine pw_ite (fun _ => ?_) (fun _ => ?_)
                · refine pw_eq (fun x70 _ => ?_)
                  refine pw_eq (fun x71 _ => ?_)
                  refine pw_eq (fun X72 eX72 => ?_)
                  have dX72 : W11 X0 X72 := by rw [eX72]; exact W11_w h (by omega)
                  refine pw_ck (fun _ => ?_)
                  refine pw_eq (fun x73 _ => ?_)
                  refine pw_ite (fun _ => ?_) (fun _ => ?_)
                  · refine pw_eq (fun x80 _ => ?_)
                    refine pw_ck (fun _ => ?_)
                    refine pw_eq (fun x81 _ => ?_)
                    refine pw_eq (fun x82 _ => ?_)
                    refine pw_eq (fun x83 _ => ?_)
                    refine pw_ck (fun _ => ?_)
                    refine pw_eq (fun x84 _ => ?_)
                    refine pw_ite (fun _ => ?_) (fun _ => ?_)
                    · exact wk_works_420 dX72
                    · exact wk_works_420 dX72
                  · refine pw_eq (fun x74 _ => ?_)
                    refine pw_ck (fun _ => ?_)
                    refine pw_eq (fun x75 _ => ?_)
                    refine pw_eq (fun x76 _ => ?_)
                    refine pw_eq (fun x77 _ => ?_)
                    refine pw_ck (fun _ => ?_)
                    refine pw_eq (fun x78 _ => ?_)
                    refine pw_ite (fun _ => ?_) (fun _ => ?_)
                    · exact wk_works_420 dX72
                    · exact wk_works_420 dX72
                · refine pw_ite (fun _ => ?_) (fun _ => ?_)
                  · refine pw_bd (wk_readsPlace h) (fun _ X86 dX86 => ?_)
                    exact pw_ret dX86
                  · refine pw_ite (fun _ => ?_) (fun _ => ?_)
                    · refine pw_bd (wk_writes h) (fun _ X88 dX88 => ?_)
                      exact pw_ret dX88
                    · exact pw_ret h
theorem wk_does {p1 : Int32} {p2 : Int32} {X : St} (h : W11 X0 X) : pw (f_does p1 p2 X) (fun _ Y => W11 X0 Y) := by
  unfold f_does
  refine pw_ck (fun _ => ?_)
  refine pw_eq (fun x1 _ => ?_)
  refine pw_ite (fun _ => ?_) (fun _ => ?_)
  · refine pw_eq (fun x3 _ => ?_)
    refine pw_eq (fun x4 _ => ?_)
    refine pw_ite (fun _ => ?_) (fun _ => ?_)
    · refine pw_ck (fun _ => ?_)
      refine pw_eq (fun x9 _ => ?_)
      refine pw_bd (wk_ends h) (fun _ X10 dX10 => ?_)
      refine pw_eq (fun x11 _ => ?_)
      exact pw_ret dX10
    · refine pw_eq (fun x5 _ => ?_)
      refine pw_eq (fun x6 _ => ?_)
      refine pw_eq (fun X7 eX7 => ?_)
      have dX7 : W11 X0 X7 := by rw [eX7]; exact W11_w h (by omega)
      refine pw_eq (fun x8 _ => ?_)
      exact pw_ret dX7
  · refine pw_ite (fun _ => ?_) (fun _ => ?_)
    · refine pw_ck (fun _ => ?_)
      refine pw_eq (fun x13 _ => ?_)
      refine pw_bd (wk_value h) (fun _ X14 dX14 => ?_)
      refine pw_eq (fun x15 _ => ?_)
      exact pw_ret dX14
    · refine pw_ite (fun _ => ?_) (fun _ => ?_)
      · refine pw_ck (fun _ => ?_)
        refine pw_eq (fun x17 _ => ?_)
        refine pw_bd (wk_value h) (fun _ X18 dX18 => ?_)
        refine pw_eq (fun x19 _ => ?_)
        exact pw_ret dX18
      · refine pw_ite (fun _ => ?_) (fun _ => ?_)
        · refine pw_eq (fun x21 _ => ?_)
          refine pw_ck (fun _ => ?_)
          refine pw_eq (fun x22 _ => ?_)
          refine pw_eq (fun x23 _ => ?_)
          refine pw_ck (fun _ => ?_)
          refine pw_eq (fun x24 _ => ?_)
          refine pw_eq (fun x25 _ => ?_)
          refine pw_ck (fun _ => ?_)
          refine pw_eq (fun x26 _ => ?_)
          refine pw_eq (fun x27 _ => ?_)
          refine pw_ck (fun _ => ?_)
          refine pw_eq (fun x28 _ => ?_)
          refine pw_bd (wk_value h) (fun _ X29 dX29 => ?_)
          refine pw_eq (fun x30 _ => ?_)
          exact pw_ret dX29
        · refine pw_ite (fun _ => ?_) (fun _ => ?_)
          · refine pw_ck (fun _ => ?_)
            refine pw_eq (fun x32 _ => ?_)
            refine pw_bd (wk_value h) (fun _ X33 dX33 => ?_)
            refine pw_eq (fun x34 _ => ?_)
            exact pw_ret dX33
          · refine pw_ite (fun _ => ?_) (fun _ => ?_)
            · refine pw_ck (fun _ => ?_)
              refine pw_eq (fun x36 _ => ?_)
              refine pw_bd (wk_guarded h) (fun _ X37 dX37 => ?_)
              refine pw_eq (fun x38 _ => ?_)
              exact pw_ret dX37
            · refine pw_ite (fun _ => ?_) (fun _ => ?_)
              · refine pw_ck (fun _ => ?_)
                refine pw_eq (fun x40 _ => ?_)
                refine pw_bd (wk_guarded h) (fun _ X41 dX41 => ?_)
                refine pw_eq (fun x42 _ => ?_)
                exact pw_ret dX41
              · refine pw_ite (fun _ => ?_) (fun _ => ?_)
                · refine pw_ck (fun _ => ?_)
                  refine pw_eq (fun x44 _ => ?_)
                  refine pw_bd (wk_guarded h) (fun _ X45 dX45 => ?_)
                  refine pw_bd (wk_isOn dX45) (fun x46 X47 dX47 => ?_)
                  refine pw_ite (fun _ => ?_) (fun _ => ?_)
                  · refine pw_eq (fun x48 _ => ?_)
                    exact pw_ret dX47
                  · refine pw_eq (fun x49 _ => ?_)
                    refine pw_ite (fun _ => ?_) (fun _ => ?_)
                    · refine pw_eq (fun x51 _ => ?_)
                      refine pw_eq (fun x52 _ => ?_)
                      refine pw_ck (fun _ => ?_)
                      refine pw_eq (fun x53 _ => ?_)
                      refine pw_ck (fun _ => ?_)
                      refine pw_eq (fun x54 _ => ?_)
                      refine pw_ck (fun _ => ?_)
                      refine pw_eq (fun x55 _ => ?_)
                      refine pw_ite (fun _ => ?_) (fun _ => ?_)
                      · refine pw_eq (fun x56 _ => ?_)
                        exact pw_ret dX47
                      · refine pw_ck (fun _ => ?_)
                        refine pw_eq (fun x57 _ => ?_)
                        refine pw_bd (wk_ends dX47) (fun _ X58 dX58 => ?_)
                        refine pw_eq (fun x59 _ => ?_)
                        exact pw_ret dX58
                    · refine pw_eq (fun x50 _ => ?_)
                      exact pw_ret dX47
                · refine pw_ite (fun _ => ?_) (fun _ => ?_)
                  · refine pw_ck (fun _ => ?_)
                    refine pw_eq (fun x61 _ => ?_)
                    refine pw_bd (wk_guarded h) (fun _ X62 dX62 => ?_)
                    refine pw_eq (fun x63 _ => ?_)
                    exact pw_ret dX62
                  · refine pw_ite (fun _ => ?_) (fun _ => ?_)
                    · refine pw_ck (fun _ => ?_)
                      refine pw_eq (fun x65 _ => ?_)
                      refine pw_bd (wk_guarded h) (fun _ X66 dX66 => ?_)
                      refine pw_eq (fun x67 _ => ?_)
                      exact pw_ret dX66
                    · refine pw_ite (fun _ => ?_) (fun _ => ?_)
                      · refine pw_bd (wk_guarded h) (fun _ X69 dX69 => ?_)
                        refine pw_eq (fun x70 _ => ?_)
                        exact pw_ret dX69
                      · refine pw_ite (fun _ => ?_) (fun _ => ?_)
                        · refine pw_bd (wk_guarded h) (fun _ X72 dX72 => ?_)
                          refine pw_eq (fun x73 _ => ?_)
                          exact pw_ret dX72
                        · refine pw_ite (fun _ => ?_) (fun _ => ?_)
                          · refine pw_bd (wk_guarded h) (fun _ X75 dX75 => ?_)
                            refine pw_eq (fun x76 _ => ?_)
                            exact pw_ret dX75
                          · refine pw_ite (fun _ => ?_) (fun _ => ?_)
                            · refine pw_eq (fun x78 _ => ?_)
                              refine pw_eq (fun x79 _ => ?_)
                              refine pw_eq (fun X80 eX80 => ?_)
                              have dX80 : W11 X0 X80 := by rw [eX80]; exact W11_w h (by omega)
                              refine pw_eq (fun x81 _ => ?_)
                              refine pw_ck (fun _ => ?_)
                              refine pw_eq (fun x82 _ => ?_)
                              refine pw_eq (fun x83 _ => ?_)
                              refine pw_eq (fun x84 _ => ?_)
                              refine pw_ck (fun _ => ?_)
                              refine pw_eq (fun x85 _ => ?_)
                              refine pw_ck (fun _ => ?_)
                              refine pw_eq (fun X86 eX86 => ?_)
                              have dX86 : W11 X0 X86 := by rw [eX86]; exact W11_w dX80 (by omega)
                              refine pw_eq (fun x87 _ => ?_)
                              refine pw_ck (fun _ => ?_)
                              refine pw_eq (fun x88 _ => ?_)
                              refine pw_eq (fun x89 _ => ?_)
                              refine pw_eq (fun x90 _ => ?_)
                              refine pw_ck (fun _ => ?_)
                              refine pw_eq (fun x91 _ => ?_)
                              refine pw_ck (fun _ => ?_)
                              refine pw_eq (fun X92 eX92 => ?_)
                              have dX92 : W11 X0 X92 := by rw [eX92]; exact W11_w dX86 (by omega)
                              refine pw_eq (fun x93 _ => ?_)
                              exact pw_ret dX92
                            · refine pw_ite (fun _ => ?_) (fun _ => ?_)
                              · refine pw_bd (wk_guarded h) (fun _ X95 dX95 => ?_)
                                refine pw_eq (fun x96 _ => ?_)
                                exact pw_ret dX95
                              · refine pw_ite (fun _ => ?_) (fun _ => ?_)
                                · refine pw_eq (fun x98 _ => ?_)
                                  refine pw_eq (fun x99 _ => ?_)
                                  refine pw_eq (fun X100 eX100 => ?_)
                                  have dX100 : W11 X0 X100 := by rw [eX100]; exact W11_w h (by omega)
                                  refine pw_eq (fun x101 _ => ?_)
                                  refine pw_ck (fun _ => ?_)
                                  refine pw_eq (fun x102 _ => ?_)
                                  refine pw_ite (fun _ => ?_) (fun _ => ?_)
                                  · refine pw_eq (fun x104 _ => ?_)
                                    exact pw_ret dX100
                                  · refine pw_ck (fun _ => ?_)
                                    refine pw_eq (fun x103 _ => ?_)
                                    exact pw_ret dX100
                                · refine pw_ite (fun _ => ?_) (fun _ => ?_)
                                  · refine pw_ck (fun _ => ?_)
                                    refine pw_eq (fun x106 _ => ?_)
                                    exact pw_ret h
                                  · refine pw_ite (fun _ => ?_) (fun _ => ?_)
                                    · refine pw_bd (wk_call h) (fun x108 X109 dX109 => ?_)
                                      exact pw_ret dX109
                                    · refine pw_ite (fun _ => ?_) (fun _ => ?_)
                                      · refine pw_eq (fun x111 _ => ?_)
                                        refine pw_eq (fun x112 _ => ?_)
                                        refine pw_eq (fun X113 eX113 => ?_)
                                        have dX113 : W11 X0 X113 := by rw [eX113]; exact W11_w h (by omega)
                                        refine pw_eq (fun x114 _ => ?_)
                                        exact pw_ret dX113
                                      · refine pw_ite (fun _ => ?_) (fun _ => ?_)
                                        · refine pw_bd (wk_guarded h) (fun _ X116 dX116 => ?_)
                                          refine pw_eq (fun x117 _ => ?_)
                                          exact pw_ret dX116
                                        · refine pw_ite (fun _ => ?_) (fun _ => ?_)
                                          · refine pw_bd (wk_goesBack h) (fun x119 X120 dX120 => ?_)
                                            exact pw_ret dX120
                                          · refine pw_ck (fun _ => ?_)
                                            refine pw_eq (fun x121 _ => ?_)
                                            refine pw_bd (wk_works h) (fun _ X122 dX122 => ?_)
                                            refine pw_eq (fun x123 _ => ?_)
                                            exact pw_ret dX122
theorem wk_starts_106 (N : Nat) : ∀ (a2 : Int32) (X : St), W11 X0 X → pw (f_starts_106 N a2 X) (fun _ Y => W11 X0 Y) := by
  unfold f_starts_106
  refine lp_ind (P := fun (r : Int32 → St → Option (Int32 × St)) => ∀ (a2 : Int32) (X : St), W11 X0 X → pw (r a2 X) (fun _ Y => W11 X0 Y)) (fun _ _ _ => pw_none) (fun r ih a2 X h => ?_) N
  unfold f_starts_106_s
  refine pw_bd (wk_isOn h) (fun x17 X18 dX18 => ?_)
  refine pw_ite (fun _ => ?_) (fun _ => ?_)
  · exact wk_starts_132 dX18
  · refine pw_ite (fun _ => ?_) (fun _ => ?_)
    · exact wk_starts_132 dX18
    · refine pw_ck (fun _ => ?_)
      refine pw_eq (fun x24 _ => ?_)
      refine pw_bd (wk_does dX18) (fun x25 X26 dX26 => ?_)
      exact ih _ _ dX26
theorem wk_starts_72 (N : Nat) : ∀ (a1 : Int32) (a2 : Int32) (X : St), W11 X0 X → pw (f_starts_72 N a1 a2 X) (fun _ Y => W11 X0 Y) := by
  unfold f_starts_72
  refine lp_ind (P := fun (r : Int32 → Int32 → St → Option (Int32 × St)) => ∀ (a1 : Int32) (a2 : Int32) (X : St), W11 X0 X → pw (r a1 a2 X) (fun _ Y => W11 X0 Y)) (fun _ _ _ _ => pw_none) (fun r ih a1 a2 X h => ?_) N
  unfold f_starts_72_s
  refine pw_ite (fun _ => ?_) (fun _ => ?_)
  · refine pw_bd (wk_calls h) (fun _ X15 dX15 => ?_)
    refine pw_ck (fun _ => ?_)
    refine pw_eq (fun x16 _ => ?_)
    exact wk_starts_106 _ _ _ dX15
  · refine pw_ck (fun _ => ?_)
    refine pw_eq (fun X27 eX27 => ?_)
    have dX27 : W11 X0 X27 := by rw [eX27]; exact W11_w h (by omega)
    refine pw_eq (fun x28 _ => ?_)
    exact ih _ _ _ dX27
theorem wk_starts {p1 : Int32} {X : St} (h : W11 X0 X) : pw (f_starts p1 X) (fun _ Y => W11 X0 Y) := by
  unfold f_starts
  refine pw_eq (fun X1 eX1 => ?_)
  have dX1 : W11 X0 X1 := by rw [eX1]; exact W11_w h (by omega)
  refine pw_eq (fun X2 eX2 => ?_)
  have dX2 : W11 X0 X2 := by rw [eX2]; exact W11_w dX1 (by omega)
  refine pw_eq (fun X3 eX3 => ?_)
  have dX3 : W11 X0 X3 := by rw [eX3]; exact W11_w dX2 (by omega)
  refine pw_eq (fun X4 eX4 => ?_)
  have dX4 : W11 X0 X4 := by rw [eX4]; exact W11_w dX3 (by omega)
  refine pw_eq (fun X5 eX5 => ?_)
  have dX5 : W11 X0 X5 := by rw [eX5]; exact W11_w dX4 (by omega)
  refine pw_eq (fun X6 eX6 => ?_)
  have dX6 : W11 X0 X6 := by rw [eX6]; exact W11_w dX5 (by omega)
  refine pw_eq (fun X7 eX7 => ?_)
  have dX7 : W11 X0 X7 := by rw [eX7]; exact W11_w dX6 (by omega)
  refine pw_eq (fun X8 eX8 => ?_)
  have dX8 : W11 X0 X8 := by rw [eX8]; exact W11_w dX7 (by omega)
  refine pw_eq (fun X9 eX9 => ?_)
  have dX9 : W11 X0 X9 := by rw [eX9]; exact W11_w dX8 (by omega)
  refine pw_eq (fun X10 eX10 => ?_)
  have dX10 : W11 X0 X10 := by rw [eX10]; exact W11_w dX9 (by omega)
  refine pw_eq (fun X11 eX11 => ?_)
  have dX11 : W11 X0 X11 := by rw [eX11]; exact W11_w dX10 (by omega)
  refine pw_eq (fun X12 eX12 => ?_)
  have dX12 : W11 X0 X12 := by rw [eX12]; exact W11_w dX11 (by omega)
  refine pw_eq (fun X13 eX13 => ?_)
  have dX13 : W11 X0 X13 := by rw [eX13]; exact W11_w dX12 (by omega)
  refine pw_eq (fun X14 eX14 => ?_)
  have dX14 : W11 X0 X14 := by rw [eX14]; exact W11_w dX13 (by omega)
  exact wk_starts_72 _ _ _ _ dX14
end WKEEP10
