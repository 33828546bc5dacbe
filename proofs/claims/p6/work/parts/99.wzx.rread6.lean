/-! the reference's read: what it leaves -/
/-- the former text is a program with so many parts -/
def PGX (X : St) : Prop := ∃ (ch : Tx) (n : Nat) (ps : List Pt) (c : List Ins), TXT ch n ∧ (X.1 0 2).toInt = (n : Int) ∧ (∀ i, i < n → BY (vp_nar .byte (X.1 3 i)) (ch i)) ∧ sParts ch 41 [] 0 [] = some (ps, c) ∧ sNames ch ps c ∧ (X.1 0 18).toInt = (ps.length : Int)
theorem PGX.kp {X Y : St} (h : PGX X) (g : R6 X Y) : PGX Y := by
  obtain ⟨ch, n, ps, c, a, b, d, e, f, i⟩ := h
  exact ⟨ch, n, ps, c, a, by rw [g.2.1]; exact b, fun k hk => by rw [g.1]; exact d k hk, e, f, by rw [g.2.2.2]; exact i⟩
section RREAD6
variable {ch : Tx} {n : Nat} {X Y Z A : St} {ps : List Pt} {c : List Ins}
theorem nar2 (x : Int32) : vp_nar .byte (vp_nar .byte x) = vp_nar .byte x := by
  show x.toInt8.toInt32.toInt8.toInt32 = x.toInt8.toInt32
  rw [Int8.toInt8_toInt32]
theorem x_reads6 (hT : TXR ch n X) (hs : sParts ch 41 [] 0 [] = some (ps, c)) (hn : sNames ch ps c) : pw (f_reads X) (fun _ Y => (Y.1 0 18).toInt = (ps.length : Int)) := by
  refine x_reads hT ⟨fun en => ?_, fun a ea => ?_⟩
  · rw [hs] at en
    exact absurd en (Option.some_ne_none _)
  · rw [hs] at ea
    have e := Option.some.inj ea
    rw [← e]
    exact ⟨fun _ Y z _ h => h, fun s => absurd hn s⟩
theorem rd_116b : ∀ (M : Nat) (a : Int32) (Z : St), R6 A Z → pw (f_read_116 M a Z) (fun r Y => r = A.1 0 18 ∧ R6 A Y) := by
  intro M
  induction M with
  | zero => exact fun _ _ _ => pw_none
  | succ M ih =>
    intro a Z h
    have e : f_read_116 (M + 1) = f_read_116_s (f_read_116 M) := by
      unfold f_read_116
      exact lp_succ _ _ _
    rw [e]
    unfold f_read_116_s
    refine pw_let (pw_ite (fun c => ?_) (fun c => ?_))
    · refine pw_eq (fun X27 e27 => pw_let (pw_ret ?_))
      have h27 : R6 A X27 := by rw [e27]; exact R6_w h (by omega)
      exact ⟨h27.2.2.2, h27⟩
    · refine pw_ck (fun _ => pw_eq (fun X29 e29 => pw_let (ih _ X29 ?_)))
      rw [e29]
      exact R6_w h (by omega)
theorem rd_88b (h1 : (A.1 0 1).toInt = (n : Int)) (hn : n ≤ 3000) : ∀ (M i : Nat) (a : Int32) (Z : St), a.toInt = (i : Int) → i ≤ n → (∀ e k, ¬ e = 3 → Z.1 e k = A.1 e k) → (∀ k, k < i → Z.1 3 k = vp_nar .byte (A.1 2 k)) → pw (f_read_88 M a Z) (fun r Y => r = A.1 0 18 ∧ (Y.1 0 2 = A.1 0 2 ∧ Y.1 0 3 = A.1 0 3 ∧ Y.1 0 18 = A.1 0 18) ∧ ∀ k, k < n → Y.1 3 k = vp_nar .byte (A.1 2 k)) := by
  have l1 : (Int32.ofInt 1).toInt = 1 := by decide
  intro M
  induction M with
  | zero => exact fun _ _ _ _ _ _ _ => pw_none
  | succ M ih =>
    intro i a Z ha hi hz hB
    have e : f_read_88 (M + 1) = f_read_88_s (f_read_88 M) := by
      unfold f_read_88
      exact lp_succ _ _ _
    rw [e]
    unfold f_read_88_s
    rw [hz 0 1 (by omega)]
    refine pw_let (pw_ite (fun c => ?_) (fun c => ?_))
    · have ei : i = n := by omega
      refine pw_mono (rd_116b (A := Z) BIG 0 Z R6.rf) ?_
      rintro r Y ⟨er, g⟩
      refine ⟨by rw [er]; exact hz 0 18 (by omega), ⟨by rw [g.2.1]; exact hz 0 2 (by omega), by rw [g.2.2.1]; exact hz 0 3 (by omega), by rw [g.2.2.2]; exact hz 0 18 (by omega)⟩, fun k hk => ?_⟩
      rw [g.1]
      exact hB k (by omega)
    · refine pw_ck (fun _ => pw_let ?_)
      rw [ixn ha]
      refine pw_ck (fun _ => pw_eq (fun X32 e32 => pw_let ?_))
      have stepv : (a + Int32.ofInt 1).toInt = ((i + 1 : Nat) : Int) := by rw [ti_add (by rw [ha, l1]; omega) (by rw [ha, l1]; omega), ha, l1]; omega
      refine ih (i + 1) _ X32 stepv (by omega) (fun e k he => by rw [e32, wI_ne _ _ _ _ _ _ (by omega)]; exact hz e k he) (fun k hk => ?_)
      by_cases ek : k = i
      · rw [ek, e32, wI_at, hz 2 i (by omega)]
      · rw [e32, wI_ne _ _ _ _ _ _ (by omega)]
        exact hB k (by omega)
theorem fq56 {e k : Nat} (h : (e = 0 ∧ (k = 1 ∨ k = 2 ∨ k = 3)) ∨ e = 2 ∨ e = 3) : cq e k ∉ Lw56 := by
  unfold cq Lw56
  rcases h with ⟨h0, h⟩ | h
  · rw [if_pos h0]
    intro m
    simp only [List.mem_cons, List.not_mem_nil, or_false] at m
    omega
  · rw [if_neg (by omega)]
    intro m
    simp only [List.mem_cons, List.not_mem_nil, or_false] at m
    omega
theorem rd_169b (hT : TXT ch n) (hb : ∀ i, i < n → BY (vp_nar .byte (A.1 3 i)) (ch i)) (hs : sParts ch 41 [] 0 [] = some (ps, c)) (hsn : sNames ch ps c) : ∀ (M i : Nat) (a b : Int32) (Z : St), b.toInt = (i : Int) → i ≤ n → (Z.1 0 1).toInt = (n : Int) → (Z.1 3 = A.1 3 ∧ Z.1 0 2 = A.1 0 2 ∧ Z.1 0 3 = A.1 0 3) → (∀ k, k < i → Z.1 2 k = vp_nar .byte (A.1 3 k)) → pw (f_read_169 M a b Z) (fun r Y => r = (-1 : Int32) ∧ (Y.1 3 = A.1 3 ∧ Y.1 0 2 = A.1 0 2 ∧ Y.1 0 3 = A.1 0 3) ∧ (Y.1 0 18).toInt = (ps.length : Int)) := by
  have l1 : (Int32.ofInt 1).toInt = 1 := by decide
  have hn := hT.1
  intro M
  induction M with
  | zero => exact fun _ _ _ _ _ _ _ _ _ => pw_none
  | succ M ih =>
    intro i a b Z hbi hi h1 hz hB
    have e : f_read_169 (M + 1) = f_read_169_s (f_read_169 M) := by
      unfold f_read_169
      exact lp_succ _ _ _
    rw [e]
    unfold f_read_169_s
    refine pw_let (pw_ite (fun c => ?_) (fun c => ?_))
    · have T : TXR ch n Z := ⟨hT, h1, fun k hk => by rw [hB k (by omega)]; exact hb k hk⟩
      refine pw_bd (pw_and (x_reads6 T hs hsn) fw_reads) ?_
      rintro _ X17 ⟨h18, f17⟩
      have k17 : X17.1 3 = A.1 3 ∧ X17.1 0 2 = A.1 0 2 ∧ X17.1 0 3 = A.1 0 3 := ⟨(funext (fun k => f17.1 3 k (fq56 (by omega)))).trans hz.1, (f17.1 0 2 (fq56 (by omega))).trans hz.2.1, (f17.1 0 3 (fq56 (by omega))).trans hz.2.2⟩
      refine pw_ite (fun _ => pw_ret ⟨rfl, k17, h18⟩) (fun _ => ?_)
      refine pw_bd (rb_judges (X0 := X17) R6.rf) ?_
      intro _ X18 g
      exact pw_ret ⟨rfl, ⟨g.1.trans k17.1, g.2.1.trans k17.2.1, g.2.2.1.trans k17.2.2⟩, by rw [g.2.2.2]; exact h18⟩
    · refine pw_ck (fun _ => pw_let ?_)
      rw [ixn hbi]
      refine pw_ck (fun _ => pw_eq (fun X20 e20 => pw_let ?_))
      have stepv : (b + Int32.ofInt 1).toInt = ((i + 1 : Nat) : Int) := by rw [ti_add (by rw [hbi, l1]; omega) (by rw [hbi, l1]; omega), hbi, l1]; omega
      have r20 : ∀ e k, ¬ e = 2 → X20.1 e k = Z.1 e k := fun e k he => by rw [e20, wI_ne _ _ _ _ _ _ (by omega)]
      refine ih (i + 1) a _ X20 stepv (by omega) (by rw [r20 0 1 (by omega)]; exact h1) ⟨(funext (fun k => r20 3 k (by omega))).trans hz.1, (r20 0 2 (by omega)).trans hz.2.1, (r20 0 3 (by omega)).trans hz.2.2⟩ (fun k hk => ?_)
      by_cases ek : k = i
      · rw [ek, e20, wI_at, hz.1]
      · rw [e20, wI_ne _ _ _ _ _ _ (by omega)]
        exact hB k (by omega)
/-- what read leaves -/
def RBq (ch : Tx) (X : St) (r : Int32) (Y : St) : Prop := (∃ ps c, sParts ch 41 [] 0 [] = some (ps, c) ∧ sNames ch ps c ∧ r.toInt = (ps.length : Int) ∧ ¬ (Y.1 0 3).toInt = 0 ∧ PGX Y ∧ (Y.1 0 18).toInt = (ps.length : Int)) ∨ ((∀ ps c, sParts ch 41 [] 0 [] = some (ps, c) → ¬ sNames ch ps c) ∧ r.toInt = -1 ∧ Y.1 0 3 = X.1 0 3 ∧ (¬ (X.1 0 3).toInt = 0 → PGX Y ∧ (Y.1 0 18).toInt = (X.1 0 18).toInt))
theorem x_read6 (hT : TXT ch n) (h0 : (X.1 0 0).toInt = (n : Int)) (hb : ∀ i, i < n → BY (vp_nar .byte (X.1 1 i)) (ch i)) (hP : ¬ (X.1 0 3).toInt = 0 → PGX X) : pw (f_read X) (fun r Y => RBq ch X r Y) := by
  have l1 : (Int32.ofInt 1).toInt = 1 := by decide
  have hn := hT.1
  have loop : ∀ (M i : Nat) (a : Int32) (Z : St), a.toInt = (i : Int) → i ≤ n → (∀ k, Z.1 0 k = X.1 0 k ∨ k = 1) → (Z.1 0 1).toInt = (n : Int) → (∀ e k, e = 1 ∨ e = 3 → Z.1 e k = X.1 e k) → (∀ k, k < i → Z.1 2 k = vp_nar .byte (X.1 1 k)) → pw (f_read_10 M a Z) (fun r Y => RBq ch X r Y) := by
    intro M
    induction M with
    | zero => exact fun _ _ _ _ _ _ _ _ _ => pw_none
    | succ M ih =>
      intro i a Z ha hi hz h1 hr hB
      have e : f_read_10 (M + 1) = f_read_10_s (f_read_10 M) := by
        unfold f_read_10
        exact lp_succ _ _ _
      rw [e]
      unfold f_read_10_s
      have hz0 : Z.1 0 0 = X.1 0 0 := (hz 0).resolve_right (by omega)
      refine pw_let (pw_ite (fun c => ?_) (fun c => ?_))
      · rw [hz0] at c
        have ei : i = n := by omega
        refine pw_eq (fun X4 e4 => pw_let ?_)
        have r4 : ∀ e k, ¬ (e = 0 ∧ k = 0) → X4.1 e k = Z.1 e k := fun e k he => by rw [e4, wI_ne _ _ _ _ _ _ (by omega)]
        have T4 : TXR ch n X4 := ⟨hT, by rw [r4 0 1 (by omega)]; exact h1, fun k hk => by rw [r4 2 k (by omega), hB k (by omega)]; exact hb k hk⟩
        have rd : pw (f_reads X4) (fun _ Y => (∃ ps c, sParts ch 41 [] 0 [] = some (ps, c) ∧ sNames ch ps c ∧ (Y.1 0 9).toInt = 0 ∧ (Y.1 0 18).toInt = (ps.length : Int)) ∨ ((∀ ps c, sParts ch 41 [] 0 [] = some (ps, c) → ¬ sNames ch ps c) ∧ wrX Y)) := by
          refine x_reads T4 ⟨fun en _ Y hd => Or.inr ⟨fun ps c g => ?_, hd⟩, fun a ea => ⟨fun s Y z h9 h18 => Or.inl ⟨a.1, a.2, ea, s, h9, h18⟩, fun s _ Y hd => Or.inr ⟨fun ps c g => ?_, hd⟩⟩⟩
          · rw [en] at g
            exact absurd g.symm (Option.some_ne_none _)
          · rw [ea] at g
            have e1 := Option.some.inj g
            rw [show ps = a.1 from (congrArg Prod.fst e1).symm, show c = a.2 from (congrArg Prod.snd e1).symm]
            exact s
        refine pw_bd (pw_and rd fw_reads) ?_
        rintro _ X6 ⟨h6, f6⟩
        have q2 : X6.1 0 2 = X.1 0 2 := (f6.1 0 2 (fq56 (by omega))).trans ((r4 0 2 (by omega)).trans ((hz 2).resolve_right (by omega)))
        have q3 : X6.1 0 3 = X.1 0 3 := (f6.1 0 3 (fq56 (by omega))).trans ((r4 0 3 (by omega)).trans ((hz 3).resolve_right (by omega)))
        have q1 : (X6.1 0 1).toInt = (n : Int) := by rw [f6.1 0 1 (fq56 (by omega)), r4 0 1 (by omega)]; exact h1
        have w2 : ∀ k, X6.1 2 k = Z.1 2 k := fun k => (f6.1 2 k (fq56 (by omega))).trans (r4 2 k (by omega))
        have w3 : ∀ k, X6.1 3 k = X.1 3 k := fun k => (f6.1 3 k (fq56 (by omega))).trans ((r4 3 k (by omega)).trans (hr 3 k (by omega)))
        refine pw_let (pw_eq (fun X8 e8 => pw_let (pw_eq (fun X10 e10 => pw_let ?_))))
        have r10 : ∀ e k, ¬ (e = 0 ∧ (k = 11 ∨ k = 12)) → X10.1 e k = X6.1 e k := fun e k he => by rw [e10, wI_ne _ _ _ _ _ _ (by omega), e8, wI_ne _ _ _ _ _ _ (by omega)]
        rw [r10 0 9 (by omega)]
        rcases h6 with ⟨ps, cc, g1, g2, g3, g4⟩ | ⟨g1, hd⟩
        · refine pw_pos g3 (pw_eq (fun X22 e22 => pw_let (pw_eq (fun X24 e24 => ?_))))
          have r24 : ∀ e k, ¬ (e = 0 ∧ (k = 2 ∨ k = 3)) → X24.1 e k = X10.1 e k := fun e k he => by rw [e24, wI_ne _ _ _ _ _ _ (by omega), e22, wI_ne _ _ _ _ _ _ (by omega)]
          have a3 : (X24.1 0 3).toInt = 1 := by rw [e24, wI_ne _ _ _ _ _ _ (by omega), e22, wI_at]; decide
          have a2 : (X24.1 0 2).toInt = (n : Int) := by rw [e24, wI_at, e22, wI_ne _ _ _ _ _ _ (by omega), r10 0 1 (by omega)]; exact q1
          have a1 : (X24.1 0 1).toInt = (n : Int) := by rw [r24 0 1 (by omega), r10 0 1 (by omega)]; exact q1
          have a18 : (X24.1 0 18).toInt = (ps.length : Int) := by rw [r24 0 18 (by omega), r10 0 18 (by omega)]; exact g4
          refine pw_mono (rd_88b (A := X24) a1 hn BIG 0 0 X24 (by decide) (Nat.zero_le _) (fun _ _ _ => rfl) (fun k hk => absurd hk (Nat.not_lt_zero _))) ?_
          rintro r Y ⟨er, ⟨y2, y3, y18⟩, yB⟩
          refine Or.inl ⟨ps, cc, g1, g2, by rw [er]; exact a18, by rw [y3]; omega, ⟨ch, n, ps, cc, hT, by rw [y2]; exact a2, fun k hk => ?_, g1, g2, by rw [y18]; exact a18⟩, by rw [y18]; exact a18⟩
          rw [yB k hk, r24 2 k (by omega), r10 2 k (by omega), w2 k, hB k (by omega), nar2, nar2]
          exact hb k hk
        · refine pw_neg hd (pw_eq (fun X12 e12 => pw_let ?_))
          have r12 : ∀ e k, ¬ (e = 0 ∧ (k = 11 ∨ k = 12 ∨ k = 18)) → X12.1 e k = X6.1 e k := fun e k he => by rw [e12, wI_ne _ _ _ _ _ _ (by omega)]; exact r10 e k (by omega)
          have b3 : X12.1 0 3 = X.1 0 3 := (r12 0 3 (by omega)).trans q3
          refine pw_ite (fun c3 => pw_ret (Or.inr ⟨g1, by decide, b3, fun z => absurd (by rw [← b3]; exact c3) z⟩)) (fun c3 => ?_)
          rw [b3] at c3
          obtain ⟨ch1, n1, ps1, c1, t1, t2, t3, t4, t5, t6⟩ := hP c3
          refine pw_let (pw_eq (fun X15 e15 => ?_))
          have r15 : ∀ e k, ¬ (e = 0 ∧ (k = 1 ∨ k = 11 ∨ k = 12 ∨ k = 18)) → X15.1 e k = X6.1 e k := fun e k he => by rw [e15, wI_ne _ _ _ _ _ _ (by omega)]; exact r12 e k (by omega)
          have d1 : (X15.1 0 1).toInt = (n1 : Int) := by rw [e15, wI_at, r12 0 2 (by omega), q2]; exact t2
          have d3 : X15.1 3 = X.1 3 := funext (fun k => (r15 3 k (by omega)).trans (w3 k))
          refine pw_mono (rd_169b (A := X15) t1 (fun i hi => by rw [d3]; exact t3 i hi) t4 t5 BIG 0 _ 0 X15 (by decide) (Nat.zero_le _) d1 ⟨rfl, rfl, rfl⟩ (fun k hk => absurd hk (Nat.not_lt_zero _))) ?_
          rintro r Y ⟨er, ⟨y3, y2, yh⟩, y18⟩
          refine Or.inr ⟨g1, by rw [er]; decide, by rw [yh, r15 0 3 (by omega)]; exact q3, fun _ => ⟨⟨ch1, n1, ps1, c1, t1, by rw [y2, r15 0 2 (by omega), q2]; exact t2, fun i hi => by rw [y3, d3]; exact t3 i hi, t4, t5, y18⟩, by rw [y18, t6]⟩⟩
      · rw [hz0] at c
        refine pw_ck (fun _ => pw_let ?_)
        rw [ixn ha]
        refine pw_ck (fun _ => pw_eq (fun X35 e35 => pw_let ?_))
        have stepv : (a + Int32.ofInt 1).toInt = ((i + 1 : Nat) : Int) := by rw [ti_add (by rw [ha, l1]; omega) (by rw [ha, l1]; omega), ha, l1]; omega
        refine ih (i + 1) _ X35 stepv (by omega) (fun k => by rw [e35, wI_ne _ _ _ _ _ _ (by omega)]; exact hz k) (by rw [e35, wI_ne _ _ _ _ _ _ (by omega)]; exact h1) (fun e k he => by rw [e35, wI_ne _ _ _ _ _ _ (by omega)]; exact hr e k he) (fun k hk => ?_)
        by_cases ek : k = i
        · rw [ek, e35, wI_at, hr 1 i (by omega)]
        · rw [e35, wI_ne _ _ _ _ _ _ (by omega)]
          exact hB k (by omega)
  unfold f_read
  refine pw_let (pw_eq (fun X2 e2 => ?_))
  refine loop BIG 0 0 X2 (by decide) (Nat.zero_le _) (fun k => ?_) (by rw [e2, wI_at]; exact h0) (fun e k he => by rw [e2, wI_ne _ _ _ _ _ _ (by omega)]) (fun k hk => absurd hk (Nat.not_lt_zero _))
  by_cases ek : k = 1
  · exact Or.inr ek
  · exact Or.inl (by rw [e2, wI_ne _ _ _ _ _ _ (by omega)])
end RREAD6
