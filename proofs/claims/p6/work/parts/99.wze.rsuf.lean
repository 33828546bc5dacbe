/-! the reference reads all that stands behind an operand -/
section RSUF
variable {ch : Tx} {n q : Nat} {X Y Z X0 : St} {o : Int} {sc : List Nm} {j N s N0 : Nat} {Q : Int32 → St → Prop} {c c1 : List Ins}
def CUq (ch : Tx) (n : Nat) (X : St) (o : Int) (sc : List Nm) (j N : Nat) (Q : Int32 → St → Prop) (a : Out) : Prop := ∀ Y, ER ch n X o sc (j + 1) N a Y → ¬ (Y.1 20 (ix (Y.1 0 24))).toInt = 14 → prS Y Q
theorem sU1_st {E : EF} {named : Bool} {f : Nat} (k : Nat) (q : Nat) (c : List Ins) : sU1 ch E o sc named f k true q c = some (q, c) := by
  cases k with
  | zero => rw [sU1]
  | succ k => rw [sU1, if_neg (fun z => absurd z.1 (by decide))]
/-- nothing more stands behind -/
theorem b_288 {t d N1 : Nat} (h : SFq ch n X Y q o sc j N N1 t d c) (C : CUq ch n X o sc j N Q (q, c)) : pw (f_behind_288 Y) (fun _ Z => pr Z Q) := by
  obtain ⟨gY, mY, nY, kY, hY, ht, k14, kd⟩ := h
  unfold f_behind_288
  refine pw_eq (fun X30 e30 => ?_)
  refine pw_ret ?_
  have g30 : XS ch n X30 q o sc (j + 1) N1 := by rw [e30]; exact gY.wI (by omega)
  have h24 : X30.1 0 24 = Y.1 0 24 := by rw [e30, wI_ne _ _ _ _ _ _ (by omega)]
  refine pr_3 g30 (by rw [e30, wI_at]; decide) (C X30 ⟨N1, t, g30, by rw [e30]; exact nY.wI (by omega), by rw [e30]; exact kY.wI (by unfold KPs; omega), by rw [h24]; exact hY, ht⟩ ?_)
  rw [h24, ixn hY, e30, wI_ne _ _ _ _ _ _ (by omega)]
  exact k14
/-- := e -/
theorem b_store {E : EF} (hE : SEq ch n (o + 1) E) {t d N1 : Nat} (h : SFq ch n X Y q o sc j N N1 t d c) (ho : 0 ≤ o ∧ o ≤ 40) (hty : ty ch q = 256) (h10 : (Y.1 20 t).toInt = 10) {c2 : List Ins} (hc2 : ∀ p, NPl c2 p ↔ NPl c p) {g : Out → Out} (hg : ∀ a, (g a).1 = a.1 ∧ ∀ p, NPl (g a).2 p ↔ NPl a.2 p) (H : HH (DQ Q) (CUq ch n X o sc j N Q) ((sEnter ch 256 o q).bind fun q3 => (E (o + 1) sc q3 c2).bind fun s => some (g s))) : pr Y Q := by
  obtain ⟨gY, mY, nY, kY, hY, ht, k14, kd⟩ := h
  have l1 : (1 : Int32).toInt = 1 := by decide
  have hi : ix (Y.1 0 24) = t := ixn hY
  refine pr_2 gY mY ?_
  unfold f_behind
  refine pw_let ?_
  rw [hi]
  refine pw_ck (fun _ => pw_let (pw_neg (by omega) (pw_ck (fun _ => pw_let (pw_pos h10 ?_)))))
  unfold f_behind_27 f_behind_32
  have l40 : (40 : Int32).toInt = 40 := by decide
  have l91 : (91 : Int32).toInt = 91 := by decide
  refine pw_bd (q_isSign gY.1 (by decide)) ?_
  rintro x3 X4 ⟨rfl, h3⟩
  rw [l40] at h3
  refine pw_pos (h3.mpr (by omega)) ?_
  refine pw_bd (q_isSign gY.1 (by decide)) ?_
  rintro x26 X27 ⟨rfl, h26⟩
  rw [l91] at h26
  refine pw_pos (h26.mpr (by omega)) ?_
  refine pw_bd (q_well gY.w0) ?_
  rintro x28 X29 ⟨rfl, h28⟩
  refine pw_neg h28 (pw_let ?_)
  have tk : (X29.1 0 7).toInt = 4 ∧ (X29.2.1 0 47).toInt = 1000 := by
    obtain ⟨_, _, t⟩ := gY.tk
    omega
  refine pw_pos tk.1 (pw_let (pw_let ?_))
  have l1000 : (1000 : Int64).toInt = 1000 := by decide
  refine pw_pos (by rw [cmp0, ← Int64.toInt_inj, l1000]; exact tk.2) ?_
  rw [hi]
  refine pw_ck (fun _ => pw_let (pw_pos h10 ?_))
  refine pw_bd (x_nests gY ho) ?_
  rintro _ X35 (⟨ho1, g35, t35⟩ | ⟨ho1, hd⟩)
  · have H := H.b.en ⟨hty, ho1⟩
    refine pw_bd (q_well g35.w0) ?_
    rintro x36 X37 ⟨rfl, h36⟩
    refine pw_neg h36 ?_
    refine pw_bd (x_next g35) ?_
    rintro _ X38 ⟨g38, t38⟩
    refine pw_bd (x_enter g38 14 _) ?_
    rintro _ X39 ⟨g39, n39⟩
    refine pw_eq (fun X40 e40 => ?_)
    refine pw_ret ?_
    have tt := t35.tr t38
    have g40 : XS ch n X40 (nx ch q) (o + 1) sc (j + 1 + 1) N1 := by rw [e40]; exact g39.wI (by omega)
    have m40 : NMr ch X40 N1 c2 := by rw [e40]; exact (((nY.tn tt).en n39).wI (by omega)).cd hc2
    have k40 : KP X X40 (j + 1) N sc.length := by rw [e40]; exact ((kY.tn tt).en n39 (Nat.le_refl _)).wI (by unfold KPs; omega)
    have f35 : X40.1 35 (j + 1) = 14 := by rw [e40, wI_ne _ _ _ _ _ _ (by omega)]; exact n39.2.2.1
    have f36 : X40.1 36 (j + 1) = X29.1 0 24 := by rw [e40, wI_ne _ _ _ _ _ _ (by omega)]; exact n39.2.2.2.1
    have f20 : X40.1 20 t = X29.1 20 t := by rw [e40, wI_ne _ _ _ _ _ _ (by omega), n39.1 20 t (by omega) (by omega), tt.r 20 t (by decide)]
    have l14 : (14 : Int32).toInt = 14 := by decide
    refine hE sc (nx ch q) c2 (j + 1) N1 X40 Q g40 (by rw [e40, wI_at]; rfl) ⟨⟨by rw [f35]; decide, by rw [f35]; decide⟩, fun e => by rw [f35] at e; exact absurd e (by decide), fun e => by rw [f35] at e; exact absurd e (by decide)⟩ m40 (by omega) (by omega) (H.b.m (fun a H => ?_))
    rintro W ⟨N3, t3, gW, mW, kW, hW, h1, h2⟩
    have H := H.s
    have kq := kW.1
    have w35 : (W.1 35 (j + 1)).toInt = 14 := by rw [kq 35 (j + 1) (by unfold KPs; omega), f35, l14]
    have w36 : W.1 36 (j + 1) = X29.1 0 24 := by rw [kq 36 (j + 1) (by unfold KPs; omega), f36]
    have w20 : W.1 20 t = X29.1 20 t := by rw [kq 20 t (by unfold KPs; omega), f20]
    have kk := k40.tr (kW.mono (by omega) (by omega) (Nat.le_refl _))
    refine prE_w gW w35 (by omega) (fun x2 v2 i2 => ?_)
    unfold f_endsWithin
    rw [i2, w36, hi]
    refine pw_ck (fun _ => pw_let ?_)
    refine pw_neg (by omega) (pw_neg (by omega) (pw_neg (by omega) (pw_neg (by omega) (pw_neg (by omega) (pw_pos w35 ?_)))))
    refine pw_let (pw_ck (fun _ => ?_))
    refine pw_eq (fun X26 e26 => ?_)
    have g26 : XS ch n X26 a.1 (o + 1) sc (j + 1 + 1) N3 := by rw [e26]; exact gW.wI (by omega)
    refine pw_let ?_
    refine pw_eq (fun x28 e28 => ?_)
    have v28 : x28.toInt = o := by rw [e28, ti_sub (by rw [g26.2.1, l1]; omega) (by rw [g26.2.1, l1]; omega), g26.2.1, l1]; omega
    refine pw_eq (fun Y29 e29 => ?_)
    have g29 : XS ch n Y29 a.1 o sc (j + 1 + 1) N3 := by rw [e29]; exact g26.w21 v28
    have h22 := (g29.fe (by omega))
    refine pw_let ?_
    refine pw_eq (fun x31 e31 => ?_)
    have v31 : x31.toInt = ((j + 1 : Nat) : Int) := by
      rw [e31, ti_sub (by rw [h22, l1]; omega) (by rw [h22, l1]; have := Int32.toInt_lt (Y29.1 0 22); omega), h22, l1]
      omega
    refine pw_eq (fun Y32 e32 => ?_)
    have g32 : XS ch n Y32 a.1 o sc (j + 1) N3 := by rw [e32]; exact g29.w22 v31
    refine pw_eq (fun Y33 e33 => ?_)
    refine pw_eq (fun Y34 e34 => ?_)
    refine pw_ret ?_
    have g34 : XS ch n Y34 a.1 o sc (j + 1) N3 := by rw [e34, e33]; exact (g32.wI (by omega)).wI (by omega)
    have c24 : Y34.1 0 24 = X29.1 0 24 := by rw [e34, wI_ne _ _ _ _ _ _ (by omega), e33, wI_at]
    have c20 : Y34.1 20 t = X29.1 20 t := by rw [e34, wI_ne _ _ _ _ _ _ (by omega), e33, wI_ne _ _ _ _ _ _ (by omega), e32, wI_ne _ _ _ _ _ _ (by omega), e29, wI_ne _ _ _ _ _ _ (by omega), e26, wI_ne _ _ _ _ _ _ (by omega), w20]
    refine pr_3 g34 (by rw [e34, wI_at]; decide) (H Y34 ⟨N3, t, by rw [(hg a).1]; exact g34, ?_, ?_, by rw [c24]; exact hY, ht.1, by omega⟩ (by rw [c24, hi, c20]; exact k14))
    · rw [e34, e33, e32, e29, e26]
      exact (((((mW.wI (by omega)).wI (by omega)).wI (by omega)).wI (by omega)).wI (by omega)).cd (hg a).2
    · rw [e34, e33, e32, e29, e26]
      exact ((((kk.wI (by unfold KPs; omega)).wI (by unfold KPs; omega)).wI (by unfold KPs; omega)).wI (by unfold KPs; omega)).wI (by unfold KPs; omega)
  · have hQ := H.b.en0 (fun z => ho1 z.2)
    refine pw_bd (q_isWell X35) ?_
    rintro x36 X37 ⟨rfl, h36⟩
    exact pw_pos (h36.mpr hd) (pw_ret (pr_dd hd hQ))
end RSUF
