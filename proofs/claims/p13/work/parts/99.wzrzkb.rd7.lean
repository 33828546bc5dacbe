/-! the reference's read: what it leaves of a program -/
def TXk (X : St) : St := wI (wI X 0 13 (X.1 0 14)) 0 15 (X.1 0 16)
/-- a program as the reference holds it -/
def PG7 (ch : Tx) (n : Nat) (ps : List Pt) (c : List Ins) (told : Nat → Bool) (X : St) : Prop := TXT ch n ∧ (X.1 0 2).toInt = (n : Int) ∧ (∀ i, i < n → BY (vp_nar .byte (X.1 3 i)) (ch i)) ∧ (sParts ch 41 [] 0 [] = some (ps, c) ∧ sNames ch ps c) ∧ (∃ N, RDs ch n ps c N (TXk X)) ∧ ∀ k, k < ps.length → ((X.1 19 k).toInt = 0 ↔ ¬ told k = true)
/-- what read leaves -/
def RDx (ch : Tx) (n : Nat) (X : St) (r : Int32) (Y : St) : Prop := (∃ ps c, sParts ch 41 [] 0 [] = some (ps, c) ∧ sNames ch ps c ∧ r.toInt = (ps.length : Int) ∧ ¬ (Y.1 0 3).toInt = 0 ∧ PG7 ch n ps c (fun _ => true) Y) ∨ ((∀ ps c, sParts ch 41 [] 0 [] = some (ps, c) → ¬ sNames ch ps c) ∧ r.toInt = -1 ∧ Y.1 0 3 = X.1 0 3 ∧ ∀ (ch1 : Tx) (n1 : Nat) (ps1 : List Pt) (c1 : List Ins) (told1 : Nat → Bool), ¬ (X.1 0 3).toInt = 0 → PG7 ch1 n1 ps1 c1 told1 X → PG7 ch1 n1 ps1 c1 told1 Y)
section RD7S
variable {ch : Tx} {n N : Nat} {X Y Z A : St} {ps : List Pt} {c : List Ins} {told : Nat → Bool}
theorem tx7_ne {e k : Nat} (h : ¬ (e = 0 ∧ (k = 13 ∨ k = 15))) : (TXk X).1 e k = X.1 e k := by
  unfold TXk
  rw [wI_ne _ _ _ _ _ _ (by omega), wI_ne _ _ _ _ _ _ (by omega)]
theorem tx7_13 : (TXk X).1 0 13 = X.1 0 14 := by
  unfold TXk
  rw [wI_ne _ _ _ _ _ _ (by omega), wI_at]
theorem tx7_15 : (TXk X).1 0 15 = X.1 0 16 := by
  unfold TXk
  rw [wI_at]
theorem R7.tx7 (h : R7 X Y) : RDk (TXk X) (TXk Y) := by
  obtain ⟨a, b, c, d⟩ := h
  refine ⟨fun e k q => ?_, fun k => b k, fun k q => ?_, fun k q => ?_⟩
  · by_cases z : e = 0 ∧ k = 13
    · rw [z.1, z.2, tx7_13, tx7_13]
      exact a 0 14 (by omega)
    · by_cases z2 : e = 0 ∧ k = 15
      · rw [z2.1, z2.2, tx7_15, tx7_15]
        exact a 0 16 (by omega)
      · rw [tx7_ne (by omega), tx7_ne (by omega)]
        exact a e k (by omega)
  · rw [tx7_13] at q
    obtain ⟨x, y, z⟩ := c k q
    rw [tx7_ne (by omega), tx7_ne (by omega), tx7_ne (by omega), tx7_ne (by omega), tx7_ne (by omega), tx7_ne (by omega)]
    exact ⟨x, y, z⟩
  · rw [tx7_15] at q
    rw [tx7_ne (by omega), tx7_ne (by omega)]
    exact d k q
theorem PG7.kp (h : PG7 ch n ps c told X) (g : R7k X Y) : PG7 ch n ps c told Y := by
  obtain ⟨a, b, d, e, ⟨N, f⟩, i⟩ := h
  refine ⟨a, by rw [g.1.1 0 2 (by omega)]; exact b, fun k hk => by rw [g.1.1 3 k (by omega)]; exact d k hk, e, ⟨N, f.fr g.1.tx7⟩, fun k hk => by rw [g.2]; exact i k hk⟩
/-- from the state just read -/
theorem RDs.tx7 (h : RDs ch n ps c N X) (r : ∀ e k, (e = 0 ∧ (k = 1 ∨ k = 14 ∨ k = 16 ∨ k = 18 ∨ k = 25)) ∨ e = 2 ∨ (4 ≤ e ∧ e ≤ 9) ∨ (11 ≤ e ∧ e ≤ 18) ∨ (20 ≤ e ∧ e ≤ 28) → Y.1 e k = X.1 e k) (r2 : Y.2.1 = X.2.1) : RDs ch n ps c N (TXk Y) := by
  obtain ⟨q14, q16⟩ := h.2.2.2.2.2.2.2.1
  refine h.fr ⟨fun e k q => ?_, fun k => ?_, fun k _ => ?_, fun k _ => ?_⟩
  · by_cases z : e = 0 ∧ k = 13
    · rw [z.1, z.2, tx7_13, r 0 14 (by omega), q14]
    · by_cases z2 : e = 0 ∧ k = 15
      · rw [z2.1, z2.2, tx7_15, r 0 16 (by omega), q16]
      · rw [tx7_ne (by omega)]
        exact r e k (by omega)
  · show Y.2.1 11 k = X.2.1 11 k ∧ Y.2.1 29 k = X.2.1 29 k
    rw [r2]
    exact ⟨rfl, rfl⟩
  · rw [tx7_ne (by omega), tx7_ne (by omega), tx7_ne (by omega)]
    exact ⟨r 4 k (by omega), r 5 k (by omega), r 6 k (by omega)⟩
  · rw [tx7_ne (by omega)]
    exact r 9 k (by omega)
theorem x_reads7 (hT : TXR ch n X) : pw (f_reads X) (fun _ Y => (∃ ps c, sParts ch 41 [] 0 [] = some (ps, c) ∧ sNames ch ps c ∧ (Y.1 0 9).toInt = 0 ∧ ∃ N, RDs ch n ps c N Y) ∨ ((∀ ps c, sParts ch 41 [] 0 [] = some (ps, c) → ¬ sNames ch ps c) ∧ wrX Y)) := by
  refine x_reads hT ⟨fun en _ Y hd => Or.inr ⟨fun ps c g => ?_, hd⟩, fun a ea => ⟨fun s Y z h9 h18 hN => Or.inl ⟨a.1, a.2, ea, s, h9, hN⟩, fun s _ Y hd => Or.inr ⟨fun ps c g => ?_, hd⟩⟩⟩
  · rw [en] at g
    exact absurd g.symm (Option.some_ne_none _)
  · rw [ea] at g
    have e1 := Option.some.inj g
    rw [show ps = a.1 from (congrArg Prod.fst e1).symm, show c = a.2 from (congrArg Prod.snd e1).symm]
    exact s
theorem rd_116c {m : Nat} (h18 : (A.1 0 18).toInt = (m : Int)) : ∀ (M i : Nat) (a : Int32) (Z : St), a.toInt = (i : Int) → i ≤ m → (∀ e k, ¬ e = 19 → ¬ (e = 0 ∧ k = 41) → Z.1 e k = A.1 e k) → Z.2 = A.2 → (∀ k, k < i → ¬ (Z.1 19 k).toInt = 0) → pw (f_read_116 M a Z) (fun r Y => r = A.1 0 18 ∧ (∀ e k, ¬ e = 19 → ¬ (e = 0 ∧ k = 41) → Y.1 e k = A.1 e k) ∧ Y.2 = A.2 ∧ ∀ k, k < m → ¬ (Y.1 19 k).toInt = 0) := by
  have l1 : (Int32.ofInt 1).toInt = 1 := by decide
  intro M
  induction M with
  | zero => exact fun _ _ _ _ _ _ _ _ => pw_none
  | succ M ih =>
    intro i a Z ha hi hz h2 h19
    have e : f_read_116 (M + 1) = f_read_116_s (f_read_116 M) := by
      unfold f_read_116
      exact lp_succ _ _ _
    rw [e]
    unfold f_read_116_s
    refine pw_eq (fun x26 e26 => pw_ite (fun c => ?_) (fun c => ?_))
    · rw [e26, hz 0 18 (by omega) (by omega)] at c
      have ei : i = m := by omega
      refine pw_eq (fun X27 e27 => pw_eq (fun x28 e28 => pw_ret ⟨?_, fun e k q1 q2 => ?_, by rw [e27]; exact h2, fun k hk => ?_⟩))
      · rw [e28, e27, wI_ne _ _ _ _ _ _ (by omega)]
        exact hz 0 18 (by omega) (by omega)
      · rw [e27, wI_ne _ _ _ _ _ _ (by omega)]
        exact hz e k q1 q2
      · rw [e27, wI_ne _ _ _ _ _ _ (by omega)]
        exact h19 k (by omega)
    · rw [e26, hz 0 18 (by omega) (by omega)] at c
      refine pw_ck (fun hin => pw_eq (fun X29 e29 => pw_let (ih (i + 1) _ X29 ?_ (by omega) (fun e k q1 q2 => by rw [e29, wI_ne _ _ _ _ _ _ (by omega)]; exact hz e k q1 q2) (by rw [e29]; exact h2) (fun k hk => ?_))))
      · have := a.toInt_lt
        have := hin.2
        rw [ti_add (by rw [ha, l1]; omega) (by rw [ha, l1]; omega), ha, l1]
        omega
      · by_cases z : k = i
        · rw [z, e29, ixn ha, wI_at]
          decide
        · rw [e29, ixn ha, wI_ne _ _ _ _ _ _ (by omega)]
          exact h19 k (by omega)
theorem rd_88c {m : Nat} (h18 : (A.1 0 18).toInt = (m : Int)) (h1 : (A.1 0 1).toInt = (n : Int)) (hn : n ≤ 3000) : ∀ (M i : Nat) (a : Int32) (Z : St), a.toInt = (i : Int) → i ≤ n → (∀ e k, ¬ e = 3 → Z.1 e k = A.1 e k) → Z.2 = A.2 → (∀ k, k < i → Z.1 3 k = vp_nar .byte (A.1 2 k)) → pw (f_read_88 M a Z) (fun r Y => r = A.1 0 18 ∧ (∀ e k, ¬ e = 3 → ¬ e = 19 → ¬ (e = 0 ∧ k = 41) → Y.1 e k = A.1 e k) ∧ Y.2 = A.2 ∧ (∀ k, k < n → Y.1 3 k = vp_nar .byte (A.1 2 k)) ∧ ∀ k, k < m → ¬ (Y.1 19 k).toInt = 0) := by
  have l1 : (Int32.ofInt 1).toInt = 1 := by decide
  intro M
  induction M with
  | zero => exact fun _ _ _ _ _ _ _ _ => pw_none
  | succ M ih =>
    intro i a Z ha hi hz h2 hB
    have e : f_read_88 (M + 1) = f_read_88_s (f_read_88 M) := by
      unfold f_read_88
      exact lp_succ _ _ _
    rw [e]
    unfold f_read_88_s
    rw [hz 0 1 (by omega)]
    refine pw_let (pw_ite (fun c => ?_) (fun c => ?_))
    · have ei : i = n := by omega
      refine pw_mono (rd_116c (A := Z) (m := m) (by rw [hz 0 18 (by omega)]; exact h18) BIG 0 0 Z (by decide) (Nat.zero_le _) (fun _ _ _ _ => rfl) rfl (fun k hk => absurd hk (Nat.not_lt_zero _))) ?_
      rintro r Y ⟨er, g, g2, g19⟩
      refine ⟨by rw [er]; exact hz 0 18 (by omega), fun e k q1 q2 q3 => (g e k q2 q3).trans (hz e k q1), g2.trans h2, fun k hk => ?_, g19⟩
      rw [g 3 k (by omega) (by omega)]
      exact hB k (by omega)
    · refine pw_ck (fun _ => pw_let ?_)
      rw [ixn ha]
      refine pw_ck (fun _ => pw_eq (fun X32 e32 => pw_let ?_))
      have stepv : (a + Int32.ofInt 1).toInt = ((i + 1 : Nat) : Int) := by rw [ti_add (by rw [ha, l1]; omega) (by rw [ha, l1]; omega), ha, l1]; omega
      refine ih (i + 1) _ X32 stepv (by omega) (fun e k he => by rw [e32, wI_ne _ _ _ _ _ _ (by omega)]; exact hz e k he) (by rw [e32]; exact h2) (fun k hk => ?_)
      by_cases ek : k = i
      · rw [ek, e32, wI_at, hz 2 i (by omega)]
      · rw [e32, wI_ne _ _ _ _ _ _ (by omega)]
        exact hB k (by omega)
theorem fr56 {e k : Nat} (h : (e = 0 ∧ (k = 1 ∨ k = 2 ∨ k = 3)) ∨ e = 1 ∨ e = 2 ∨ e = 3 ∨ e = 19) : cq e k ∉ Lw56 := by
  unfold cq Lw56
  by_cases h0 : e = 0
  · rw [if_pos h0]
    intro m
    simp only [List.mem_cons, List.not_mem_nil, or_false] at m
    omega
  · rw [if_neg h0]
    intro m
    simp only [List.mem_cons, List.not_mem_nil, or_false] at m
    omega
/-- judging again leaves what has been read -/
def HJ7 : Prop := ∀ (V W : St) (r : Int32), 0 ≤ (V.1 0 1).toInt ∧ (V.1 0 1).toInt ≤ 3000 → f_reads V = some (r, W) → (W.1 0 9).toInt = 0 → pw (f_judges W) (fun _ Y => R7k W Y)
theorem rd_169c (hj : HJ7) (hT : TXT ch n) (hb : ∀ i, i < n → BY (vp_nar .byte (A.1 3 i)) (ch i)) (hs : sParts ch 41 [] 0 [] = some (ps, c)) (hsn : sNames ch ps c) : ∀ (M i : Nat) (a b : Int32) (Z : St), b.toInt = (i : Int) → i ≤ n → (Z.1 0 1).toInt = (n : Int) → (Z.1 3 = A.1 3 ∧ Z.1 0 2 = A.1 0 2 ∧ Z.1 0 3 = A.1 0 3 ∧ Z.1 19 = A.1 19) → (∀ k, k < i → Z.1 2 k = vp_nar .byte (A.1 3 k)) → pw (f_read_169 M a b Z) (fun r Y => r = (-1 : Int32) ∧ (Y.1 3 = A.1 3 ∧ Y.1 0 2 = A.1 0 2 ∧ Y.1 0 3 = A.1 0 3 ∧ Y.1 19 = A.1 19) ∧ ∃ N, RDs ch n ps c N (TXk Y)) := by
  have l1 : (Int32.ofInt 1).toInt = 1 := by decide
  have hn := hT.1
  intro M
  induction M with
  | zero => exact fun _ _ _ _ _ _ _ _ _ => pw_none
  | succ M ih =>
    intro i a b Z hbi hi h1 hz hB
    have e : f_read_169 (M + 1) = f_read_169_s (f_read_169 M) := by
      unfold f_read_169
      exact lp_succ _ _ _
    rw [e]
    unfold f_read_169_s
    refine pw_let (pw_ite (fun cz => ?_) (fun cz => ?_))
    · have T : TXR ch n Z := ⟨hT, h1, fun k hk => by rw [hB k (by omega)]; exact hb k hk⟩
      refine pw_bd (pw_and (pw_and (x_reads7 T) fw_reads) (fun r V z => z : pw (f_reads Z) (fun r V => f_reads Z = some (r, V)))) ?_
      rintro r17 X17 ⟨⟨h17, f17⟩, eq17⟩
      have k17 : X17.1 3 = A.1 3 ∧ X17.1 0 2 = A.1 0 2 ∧ X17.1 0 3 = A.1 0 3 ∧ X17.1 19 = A.1 19 := ⟨(funext (fun k => f17.1 3 k (fr56 (by omega)))).trans hz.1, (f17.1 0 2 (fr56 (by omega))).trans hz.2.1, (f17.1 0 3 (fr56 (by omega))).trans hz.2.2.1, (funext (fun k => f17.1 19 k (fr56 (by omega)))).trans hz.2.2.2⟩
      have w17 : (X17.1 0 9).toInt = 0 ∧ ∃ N, RDs ch n ps c N X17 := by
        rcases h17 with ⟨ps1, c1, g1, g2, g3, g4⟩ | ⟨g1, _⟩
        · rw [hs] at g1
          have e1 := Option.some.inj g1
          have p1 : ps = ps1 := congrArg Prod.fst e1
          have p2 : c = c1 := congrArg Prod.snd e1
          rw [← p1, ← p2] at g4
          exact ⟨g3, g4⟩
        · exact absurd hsn (g1 ps c hs)
      obtain ⟨h9, N, hR⟩ := w17
      refine pw_ite (fun _ => pw_ret ⟨rfl, k17, N, hR.tx7 (fun _ _ _ => rfl) rfl⟩) (fun _ => ?_)
      refine pw_bd (hj Z X17 r17 ⟨by omega, by omega⟩ eq17 h9) ?_
      intro _ X18 g
      exact pw_ret ⟨rfl, ⟨(funext (fun k => g.1.1 3 k (by omega))).trans k17.1, (g.1.1 0 2 (by omega)).trans k17.2.1, (g.1.1 0 3 (by omega)).trans k17.2.2.1, (funext (fun k => g.2 k)).trans k17.2.2.2⟩, N, (hR.tx7 (fun _ _ _ => rfl) rfl).fr g.1.tx7⟩
    · refine pw_ck (fun _ => pw_let ?_)
      rw [ixn hbi]
      refine pw_ck (fun _ => pw_eq (fun X20 e20 => pw_let ?_))
      have stepv : (b + Int32.ofInt 1).toInt = ((i + 1 : Nat) : Int) := by rw [ti_add (by rw [hbi, l1]; omega) (by rw [hbi, l1]; omega), hbi, l1]; omega
      have r20 : ∀ e k, ¬ e = 2 → X20.1 e k = Z.1 e k := fun e k he => by rw [e20, wI_ne _ _ _ _ _ _ (by omega)]
      refine ih (i + 1) a _ X20 stepv (by omega) (by rw [r20 0 1 (by omega)]; exact h1) ⟨(funext (fun k => r20 3 k (by omega))).trans hz.1, (r20 0 2 (by omega)).trans hz.2.1, (r20 0 3 (by omega)).trans hz.2.2.1, (funext (fun k => r20 19 k (by omega))).trans hz.2.2.2⟩ (fun k hk => ?_)
      by_cases ek : k = i
      · rw [ek, e20, wI_at, hz.1]
      · rw [e20, wI_ne _ _ _ _ _ _ (by omega)]
        exact hB k (by omega)
theorem nar2b (x : Int32) : vp_nar .byte (vp_nar .byte x) = vp_nar .byte x := by
  show x.toInt8.toInt32.toInt8.toInt32 = x.toInt8.toInt32
  rw [Int8.toInt8_toInt32]
theorem x_read7 (hj : HJ7) (hT : TXT ch n) (h0 : (X.1 0 0).toInt = (n : Int)) (hb : ∀ i, i < n → BY (vp_nar .byte (X.1 1 i)) (ch i)) (hX : ¬ (X.1 0 3).toInt = 0 → ∃ ch1 n1 ps1 c1 told1, PG7 ch1 n1 ps1 c1 told1 X) : pw (f_read X) (fun r Y => RDx ch n X r Y) := by
  have l1 : (Int32.ofInt 1).toInt = 1 := by decide
  have hn := hT.1
  have loop : ∀ (M i : Nat) (a : Int32) (Z : St), a.toInt = (i : Int) → i ≤ n → (∀ k, Z.1 0 k = X.1 0 k ∨ k = 1) → (Z.1 0 1).toInt = (n : Int) → (∀ e k, e = 1 ∨ e = 3 ∨ e = 19 → Z.1 e k = X.1 e k) → (∀ k, k < i → Z.1 2 k = vp_nar .byte (X.1 1 k)) → pw (f_read_10 M a Z) (fun r Y => RDx ch n X r Y) := by
    intro M
    induction M with
    | zero => exact fun _ _ _ _ _ _ _ _ _ => pw_none
    | succ M ih =>
      intro i a Z ha hi hz h1 hr hB
      have e : f_read_10 (M + 1) = f_read_10_s (f_read_10 M) := by
        unfold f_read_10
        exact lp_succ _ _ _
      rw [e]
      unfold f_read_10_s
      have hz0 : Z.1 0 0 = X.1 0 0 := (hz 0).resolve_right (by omega)
      refine pw_let (pw_ite (fun c => ?_) (fun c => ?_))
      · rw [hz0] at c
        have ei : i = n := by omega
        refine pw_eq (fun X4 e4 => pw_let ?_)
        have r4 : ∀ e k, ¬ (e = 0 ∧ k = 0) → X4.1 e k = Z.1 e k := fun e k he => by rw [e4, wI_ne _ _ _ _ _ _ (by omega)]
        have T4 : TXR ch n X4 := ⟨hT, by rw [r4 0 1 (by omega)]; exact h1, fun k hk => by rw [r4 2 k (by omega), hB k (by omega)]; exact hb k hk⟩
        refine pw_bd (pw_and (x_reads7 T4) fw_reads) ?_
        rintro _ X6 ⟨h6, f6⟩
        have q2 : X6.1 0 2 = X.1 0 2 := (f6.1 0 2 (fr56 (by omega))).trans ((r4 0 2 (by omega)).trans ((hz 2).resolve_right (by omega)))
        have q3 : X6.1 0 3 = X.1 0 3 := (f6.1 0 3 (fr56 (by omega))).trans ((r4 0 3 (by omega)).trans ((hz 3).resolve_right (by omega)))
        have q1 : (X6.1 0 1).toInt = (n : Int) := by rw [f6.1 0 1 (fr56 (by omega)), r4 0 1 (by omega)]; exact h1
        have w2 : ∀ k, X6.1 2 k = Z.1 2 k := fun k => (f6.1 2 k (fr56 (by omega))).trans (r4 2 k (by omega))
        have w3 : ∀ k, X6.1 3 k = X.1 3 k := fun k => (f6.1 3 k (fr56 (by omega))).trans ((r4 3 k (by omega)).trans (hr 3 k (by omega)))
        have w19 : ∀ k, X6.1 19 k = X.1 19 k := fun k => (f6.1 19 k (fr56 (by omega))).trans ((r4 19 k (by omega)).trans (hr 19 k (by omega)))
        refine pw_let (pw_eq (fun X8 e8 => pw_let (pw_eq (fun X10 e10 => pw_let ?_))))
        have r10 : ∀ e k, ¬ (e = 0 ∧ (k = 11 ∨ k = 12)) → X10.1 e k = X6.1 e k := fun e k he => by rw [e10, wI_ne _ _ _ _ _ _ (by omega), e8, wI_ne _ _ _ _ _ _ (by omega)]
        have t10 : X10.2 = X6.2 := by rw [e10, e8]; rfl
        rw [r10 0 9 (by omega)]
        rcases h6 with ⟨ps, cc, g1, g2, g3, N, g4⟩ | ⟨g1, hd⟩
        · refine pw_pos g3 (pw_eq (fun X22 e22 => pw_let (pw_eq (fun X24 e24 => ?_))))
          have r24 : ∀ e k, ¬ (e = 0 ∧ (k = 2 ∨ k = 3)) → X24.1 e k = X10.1 e k := fun e k he => by rw [e24, wI_ne _ _ _ _ _ _ (by omega), e22, wI_ne _ _ _ _ _ _ (by omega)]
          have t24 : X24.2 = X6.2 := by rw [e24, e22]; exact t10
          have a3 : (X24.1 0 3).toInt = 1 := by rw [e24, wI_ne _ _ _ _ _ _ (by omega), e22, wI_at]; decide
          have a2 : (X24.1 0 2).toInt = (n : Int) := by rw [e24, wI_at, e22, wI_ne _ _ _ _ _ _ (by omega), r10 0 1 (by omega)]; exact q1
          have a1 : (X24.1 0 1).toInt = (n : Int) := by rw [r24 0 1 (by omega), r10 0 1 (by omega)]; exact q1
          have a18 : (X24.1 0 18).toInt = (ps.length : Int) := by rw [r24 0 18 (by omega), r10 0 18 (by omega)]; exact g4.2.1.1
          refine pw_mono (rd_88c (A := X24) (m := ps.length) a18 a1 hn BIG 0 0 X24 (by decide) (Nat.zero_le _) (fun _ _ _ => rfl) rfl (fun k hk => absurd hk (Nat.not_lt_zero _))) ?_
          rintro r Y ⟨er, yr, y2, yB, y19⟩
          have rY : ∀ e k, ¬ e = 3 → ¬ e = 19 → ¬ (e = 0 ∧ (k = 2 ∨ k = 3 ∨ k = 11 ∨ k = 12 ∨ k = 41)) → Y.1 e k = X6.1 e k := fun e k z1 z2 z3 => by rw [yr e k z1 z2 (by omega), r24 e k (by omega), r10 e k (by omega)]
          refine Or.inl ⟨ps, cc, g1, g2, by rw [er]; exact a18, by rw [yr 0 3 (by omega) (by omega) (by omega)]; omega, hT, by rw [yr 0 2 (by omega) (by omega) (by omega)]; exact a2, fun k hk => ?_, ⟨g1, g2⟩, ⟨N, g4.tx7 (fun e k q => rY e k (by omega) (by omega) (by omega)) (by rw [y2, t24])⟩, fun k hk => ⟨fun z => absurd z (y19 k hk), fun z => absurd rfl z⟩⟩
          rw [yB k hk, r24 2 k (by omega), r10 2 k (by omega), w2 k, hB k (by omega), nar2b, nar2b]
          exact hb k hk
        · refine pw_neg hd (pw_eq (fun X12 e12 => pw_let ?_))
          have r12 : ∀ e k, ¬ (e = 0 ∧ (k = 11 ∨ k = 12 ∨ k = 18)) → X12.1 e k = X6.1 e k := fun e k he => by rw [e12, wI_ne _ _ _ _ _ _ (by omega)]; exact r10 e k (by omega)
          have b3 : X12.1 0 3 = X.1 0 3 := (r12 0 3 (by omega)).trans q3
          refine pw_ite (fun c3 => pw_ret (Or.inr ⟨g1, by decide, b3, fun _ _ _ _ _ z => absurd (by rw [← b3]; exact c3) z⟩)) (fun c3 => ?_)
          rw [b3] at c3
          refine pw_let (pw_eq (fun X15 e15 => ?_))
          have r15 : ∀ e k, ¬ (e = 0 ∧ (k = 1 ∨ k = 11 ∨ k = 12 ∨ k = 18)) → X15.1 e k = X6.1 e k := fun e k he => by rw [e15, wI_ne _ _ _ _ _ _ (by omega)]; exact r12 e k (by omega)
          have d3 : X15.1 3 = X.1 3 := funext (fun k => (r15 3 k (by omega)).trans (w3 k))
          have d19 : X15.1 19 = X.1 19 := funext (fun k => (r15 19 k (by omega)).trans (w19 k))
          -- for each program that stands there
          have one : ∀ (ch1 : Tx) (n1 : Nat) (ps1 : List Pt) (c1 : List Ins) (told1 : Nat → Bool), PG7 ch1 n1 ps1 c1 told1 X → pw (f_read_169 BIG (X4.1 0 4) 0 X15) (fun r Y => r = (-1 : Int32) ∧ (Y.1 3 = X15.1 3 ∧ Y.1 0 2 = X15.1 0 2 ∧ Y.1 0 3 = X15.1 0 3 ∧ Y.1 19 = X15.1 19) ∧ PG7 ch1 n1 ps1 c1 told1 Y) := by
            intro ch1 n1 ps1 c1 told1 ⟨t1, t2, t3, ⟨t4, t5⟩, _, t7⟩
            have d1 : (X15.1 0 1).toInt = (n1 : Int) := by rw [e15, wI_at, r12 0 2 (by omega), q2]; exact t2
            refine pw_mono (rd_169c (A := X15) hj t1 (fun i hi => by rw [d3]; exact t3 i hi) t4 t5 BIG 0 _ 0 X15 (by decide) (Nat.zero_le _) d1 ⟨rfl, rfl, rfl, rfl⟩ (fun k hk => absurd hk (Nat.not_lt_zero _))) ?_
            rintro r Y ⟨er, ⟨y3, y2, yh, y19⟩, yR⟩
            exact ⟨er, ⟨y3, y2, yh, y19⟩, t1, by rw [y2, r15 0 2 (by omega), q2]; exact t2, fun i hi => by rw [y3, d3]; exact t3 i hi, ⟨t4, t5⟩, yR, fun k hk => by rw [y19, d19]; exact t7 k hk⟩
          obtain ⟨ch1, n1, ps1, c1, told1, hP1⟩ := hX c3
          intro r Y eY
          have hA := one ch1 n1 ps1 c1 told1 hP1 r Y eY
          refine Or.inr ⟨g1, by rw [hA.1]; decide, by rw [hA.2.1.2.2.1, r15 0 3 (by omega)]; exact q3, fun ch2 n2 ps2 c2 told2 _ hP2 => (one ch2 n2 ps2 c2 told2 hP2 r Y eY).2.2⟩
      · rw [hz0] at c
        refine pw_ck (fun _ => pw_let ?_)
        rw [ixn ha]
        refine pw_ck (fun _ => pw_eq (fun X35 e35 => pw_let ?_))
        have stepv : (a + Int32.ofInt 1).toInt = ((i + 1 : Nat) : Int) := by rw [ti_add (by rw [ha, l1]; omega) (by rw [ha, l1]; omega), ha, l1]; omega
        refine ih (i + 1) _ X35 stepv (by omega) (fun k => by rw [e35, wI_ne _ _ _ _ _ _ (by omega)]; exact hz k) (by rw [e35, wI_ne _ _ _ _ _ _ (by omega)]; exact h1) (fun e k he => by rw [e35, wI_ne _ _ _ _ _ _ (by omega)]; exact hr e k he) (fun k hk => ?_)
        by_cases ek : k = i
        · rw [ek, e35, wI_at, hr 1 i (by omega)]
        · rw [e35, wI_ne _ _ _ _ _ _ (by omega)]
          exact hB k (by omega)
  unfold f_read
  refine pw_let (pw_eq (fun X2 e2 => ?_))
  refine loop BIG 0 0 X2 (by decide) (Nat.zero_le _) (fun k => ?_) (by rw [e2, wI_at]; exact h0) (fun e k he => by rw [e2, wI_ne _ _ _ _ _ _ (by omega)]) (fun k hk => absurd hk (Nat.not_lt_zero _))
  by_cases ek : k = 1
  · exact Or.inr ek
  · exact Or.inl (by rw [e2, wI_ne _ _ _ _ _ _ (by omega)])
end RD7S
