/-! the table of kinds stays sound, judged or not: for a run that tells nothing -/
def K11 (X : St) : Prop := ¬ (X.1 0 3).toInt = 0 → KJq X ∧ KU X
def PJo11 (XC XR : St) : Prop := PJo10 XC XR ∧ K11 XR
/-- what other calls keep of the reference -/
def RK11 (X Y : St) : Prop := RK10 X Y ∧ (KJq X → KU X → KJq Y ∧ KU Y)
/-- what reading leaves of the last run -/
def RDL (X : St) (r : Int32) (Y : St) : Prop := (¬ r.toInt = -1 ∧ (Y.1 0 41).toInt = 0) ∨ (r.toInt = -1 ∧ RLq X Y)
theorem cod_RL : ∀ e, 60 ≤ e → e ≤ 80 → ∀ k, cod YR e k = e * 200 := by
  have h : ∀ e : Fin 81, 60 ≤ e.val → ¬ (eY YR e.val).1 = 0 := by decide
  intro e h1 h2 k
  exact if_neg (h ⟨e, by omega⟩ h1)
theorem cod_R0 (k : Nat) : cod YR 0 k = k := by
  show (if (eY YR 0).1 = 0 then 0 * 200 + k else 0 * 200) = k
  rw [if_pos (show (eY YR 0).1 = 0 from by decide)]
  omega
theorem RLq.of {L : List Nat} {X Y : St} (hF : Fr YR L X Y) (hl : ∀ x ∈ L, x < 31 ∨ (46 < x ∧ x < 12000)) : RLq X Y := by
  refine ⟨fun k a b => hF.1 0 k (fun z => ?_), fun e k a b => hF.1 e k (fun z => ?_)⟩
  · rw [cod_R0] at z
    have := hl _ z
    omega
  · rw [cod_RL e a b] at z
    have := hl _ z
    omega
theorem r116_L : ∀ (M : Nat) (a : Int32) (Z : St), pw (f_read_116 M a Z) (fun _ Y => (Y.1 0 41).toInt = 0) := by
  intro M
  induction M with
  | zero => exact fun _ _ => pw_none
  | succ M ih =>
    intro a Z
    have e : f_read_116 (M + 1) = f_read_116_s (f_read_116 M) := by
      unfold f_read_116
      exact lp_succ _ _ _
    rw [e]
    unfold f_read_116_s
    refine pw_let (pw_ite (fun _ => ?_) (fun _ => ?_))
    · refine pw_eq (fun X27 e27 => pw_let (pw_ret ?_))
      rw [e27, wI_at]
      rfl
    · exact pw_ck (fun _ => pw_let (pw_let (ih _ _)))
theorem r88_L : ∀ (M : Nat) (a : Int32) (Z : St), pw (f_read_88 M a Z) (fun _ Y => (Y.1 0 41).toInt = 0) := by
  intro M
  induction M with
  | zero => exact fun _ _ => pw_none
  | succ M ih =>
    intro a Z
    have e : f_read_88 (M + 1) = f_read_88_s (f_read_88 M) := by
      unfold f_read_88
      exact lp_succ _ _ _
    rw [e]
    unfold f_read_88_s
    exact pw_let (pw_ite (fun _ => r116_L BIG _ Z) (fun _ => pw_ck (fun _ => pw_let (pw_ck (fun _ => pw_let (pw_let (ih _ _)))))))
section K11S
variable {e f n N m : Nat} {ch : Tx} {ps : List Pt} {told : Nat → Bool} {c : List Ins} {X Y Z A X1 XC XR : St} {po : Nat → Nat} {L : List Nat} {rr : Sum (List JG × List Bool) (Int × Int)} {P : Prop} {p1 p2 : Int32}
theorem RJfA.kk {X8 : St} (h : RJfA N c X8 Y rr) : KJq Y ∧ KU Y := by
  cases rr with
  | inl G =>
    have h : (RG X8 Y G.1 ∧ LR N c G.1 Y) ∧ (Y.1 0 4).toInt = 1 := h
    exact ⟨h.1.1.1.2.1, h.1.1.1.2.2.1⟩
  | inr f =>
    have h : RJB X8 Y ∧ (Y.1 0 9).toInt = f.1 ∧ (Y.1 0 10).toInt = f.2 ∧ ¬ f.1 = 0 ∧ (Y.1 0 4).toInt = 0 := h
    exact ⟨h.1.2.1, h.1.2.2.1⟩
/-- the former text is read and judged again -/
theorem rd_169k (hT : TXT ch n) (hb : ∀ i, i < n → BY (vp_nar .byte (A.1 3 i)) (ch i)) (hs : sParts ch 41 [] 0 [] = some (ps, c)) (hsn : sNames ch ps c) (hW : PWd ps) (h34 : ∀ a ∈ c, a.1 = 34 → WKd 40 a.2.2.2) (hl : ps.length ≤ 40) (ht : ∀ k, k < ps.length → ((A.1 19 k).toInt = 0 ↔ ¬ told k = true)) : ∀ (M i : Nat) (a b : Int32) (Z : St), b.toInt = (i : Int) → i ≤ n → (Z.1 0 1).toInt = (n : Int) → (Z.1 3 = A.1 3 ∧ Z.1 19 = A.1 19) → (∀ k, k < i → Z.1 2 k = vp_nar .byte (A.1 3 k)) → pw (f_read_169 M a b Z) (fun r Y => (r = (-1 : Int32) ∧ RLq Z Y) ∧ KJq Y ∧ KU Y) := by
  have l1 : (Int32.ofInt 1).toInt = 1 := by decide
  have hn := hT.1
  intro M
  induction M with
  | zero => exact fun _ _ _ _ _ _ _ _ _ => pw_none
  | succ M ih =>
    intro i a b Z hbi hi h1 hz hB
    have e : f_read_169 (M + 1) = f_read_169_s (f_read_169 M) := by
      unfold f_read_169
      exact lp_succ _ _ _
    rw [e]
    unfold f_read_169_s
    refine pw_let (pw_ite (fun cz => ?_) (fun cz => ?_))
    · have T : TXR ch n Z := ⟨hT, h1, fun k hk => by rw [hB k (by omega)]; exact hb k hk⟩
      refine pw_bd (pw_and (pw_and (pw_and (x_reads7 T) fw_reads) v_reads) (pw_ok (m_reads ⟨by omega, by omega⟩))) ?_
      rintro r17 X17 ⟨⟨⟨h17, f17⟩, v17⟩, ⟨_, g17, m17, z17⟩⟩
      have rl17 : RLq Z X17 := RLq.of g17 (by decide)
      have k19 : X17.1 19 = A.1 19 := (funext (fun k => f17.1 19 k (fr56 (by omega)))).trans hz.2
      have w17 : (X17.1 0 9).toInt = 0 ∧ ∃ N, RDs ch n ps c N X17 := by
        rcases h17 with ⟨ps1, c1, g1, g2, g3, g4⟩ | ⟨g1, _⟩
        · rw [hs] at g1
          have e1 := Option.some.inj g1
          have p1 : ps = ps1 := congrArg Prod.fst e1
          have p2 : c = c1 := congrArg Prod.snd e1
          rw [← p1, ← p2] at g4
          exact ⟨g3, g4⟩
        · exact absurd hsn (g1 ps c hs)
      obtain ⟨h9, N, hR⟩ := w17
      refine pw_ite (fun c0 => pw_ret ⟨⟨rfl, rl17⟩, hR.2.2.2.2.2.1, hR.2.2.2.2.1⟩) (fun c0 => ?_)
      have hR2 : RDs ch n ps c N (TX X17) := hR.tx7 (fun _ _ _ => rfl) rfl
      refine pw_bd (pw_and (x_judges10 (told := told) (m17.pgm h9) hR2 hsn hW h34 hl (fun k hk => by rw [k19]; exact ht k hk)) (pw_ok (m_judges (m17.pgm h9)))) ?_
      rintro _ X18 ⟨⟨X8, po, rr, q1, q2, q3⟩, g18, _⟩
      exact pw_ret ⟨⟨rfl, rl17.tr (RLq.of g18 (by decide))⟩, q2.kk⟩
    · refine pw_ck (fun _ => pw_let ?_)
      rw [ixn hbi]
      refine pw_ck (fun _ => pw_eq (fun X20 e20 => pw_let ?_))
      have stepv : (b + Int32.ofInt 1).toInt = ((i + 1 : Nat) : Int) := by rw [ti_add (by rw [hbi, l1]; omega) (by rw [hbi, l1]; omega), hbi, l1]; omega
      have r20 : ∀ e k, ¬ e = 2 → X20.1 e k = Z.1 e k := fun e k he => by rw [e20, wI_ne _ _ _ _ _ _ (by omega)]
      refine pw_mono (ih (i + 1) a _ X20 stepv (by omega) (by rw [r20 0 1 (by omega)]; exact h1) ⟨(funext (fun k => r20 3 k (by omega))).trans hz.1, (funext (fun k => r20 19 k (by omega))).trans hz.2⟩ (fun k hk => ?_)) (fun r Y g => ⟨⟨g.1.1, RLq.tr ⟨fun k _ _ => r20 0 k (by omega), fun e k _ _ => r20 e k (by omega)⟩ g.1.2⟩, g.2⟩)
      by_cases ek : k = i
      · rw [ek, e20, wI_at, hz.1]
      · rw [e20, wI_ne _ _ _ _ _ _ (by omega)]
        exact hB k (by omega)
theorem k_read11 (hT : TXT ch n) (h0 : (X.1 0 0).toInt = (n : Int)) (hb : ∀ i, i < n → BY (vp_nar .byte (X.1 1 i)) (ch i)) (hX : ¬ (X.1 0 3).toInt = 0 → ∃ ch1 n1 ps1 c1 told1, PG7 ch1 n1 ps1 c1 told1 X ∧ (PWd ps1 ∧ ∀ a ∈ c1, a.1 = 34 → WKd 40 a.2.2.2) ∧ ps1.length ≤ 40) : pw (f_read X) (fun r Y => RDL X r Y ∧ K11 Y) := by
  have l1 : (Int32.ofInt 1).toInt = 1 := by decide
  have hn := hT.1
  have loop : ∀ (M i : Nat) (a : Int32) (Z : St), a.toInt = (i : Int) → i ≤ n → (∀ k, Z.1 0 k = X.1 0 k ∨ k = 1) → (Z.1 0 1).toInt = (n : Int) → (∀ e k, e = 1 ∨ e = 3 ∨ e = 19 → Z.1 e k = X.1 e k) → (∀ e k, 60 ≤ e → e ≤ 80 → Z.1 e k = X.1 e k) → (∀ k, k < i → Z.1 2 k = vp_nar .byte (X.1 1 k)) → pw (f_read_10 M a Z) (fun r Y => RDL X r Y ∧ K11 Y) := by
    intro M
    induction M with
    | zero => exact fun _ _ _ _ _ _ _ _ _ _ => pw_none
    | succ M ih =>
      intro i a Z ha hi hz h1 hr hy hB
      have e : f_read_10 (M + 1) = f_read_10_s (f_read_10 M) := by
        unfold f_read_10
        exact lp_succ _ _ _
      rw [e]
      unfold f_read_10_s
      have hz0 : Z.1 0 0 = X.1 0 0 := (hz 0).resolve_right (by omega)
      refine pw_let (pw_ite (fun c => ?_) (fun c => ?_))
      · rw [hz0] at c
        have ei : i = n := by omega
        refine pw_eq (fun X4 e4 => pw_let ?_)
        have r4 : ∀ e k, ¬ (e = 0 ∧ k = 0) → X4.1 e k = Z.1 e k := fun e k he => by rw [e4, wI_ne _ _ _ _ _ _ (by omega)]
        have T4 : TXR ch n X4 := ⟨hT, by rw [r4 0 1 (by omega)]; exact h1, fun k hk => by rw [r4 2 k (by omega), hB k (by omega)]; exact hb k hk⟩
        refine pw_bd (pw_and (pw_and (x_reads7 T4) fw_reads) (pw_ok (m_reads (X := X4) (by rw [r4 0 1 (by omega), h1]; omega)))) ?_
        rintro _ X6 ⟨⟨h6, f6⟩, ⟨_, g6, _⟩⟩
        have rl6 : RLq X X6 := RLq.tr ⟨fun k a b => (r4 0 k (by omega)).trans ((hz k).resolve_right (by omega)), fun e k a b => (r4 e k (by omega)).trans (hy e k a b)⟩ (RLq.of g6 (by decide))
        have q2 : X6.1 0 2 = X.1 0 2 := (f6.1 0 2 (fr56 (by omega))).trans ((r4 0 2 (by omega)).trans ((hz 2).resolve_right (by omega)))
        have q3 : X6.1 0 3 = X.1 0 3 := (f6.1 0 3 (fr56 (by omega))).trans ((r4 0 3 (by omega)).trans ((hz 3).resolve_right (by omega)))
        have q1 : (X6.1 0 1).toInt = (n : Int) := by rw [f6.1 0 1 (fr56 (by omega)), r4 0 1 (by omega)]; exact h1
        have w2 : ∀ k, X6.1 2 k = Z.1 2 k := fun k => (f6.1 2 k (fr56 (by omega))).trans (r4 2 k (by omega))
        have w3 : ∀ k, X6.1 3 k = X.1 3 k := fun k => (f6.1 3 k (fr56 (by omega))).trans ((r4 3 k (by omega)).trans (hr 3 k (by omega)))
        have w19 : ∀ k, X6.1 19 k = X.1 19 k := fun k => (f6.1 19 k (fr56 (by omega))).trans ((r4 19 k (by omega)).trans (hr 19 k (by omega)))
        refine pw_let (pw_eq (fun X8 e8 => pw_let (pw_eq (fun X10 e10 => pw_let ?_))))
        have r10 : ∀ e k, ¬ (e = 0 ∧ (k = 11 ∨ k = 12)) → X10.1 e k = X6.1 e k := fun e k he => by rw [e10, wI_ne _ _ _ _ _ _ (by omega), e8, wI_ne _ _ _ _ _ _ (by omega)]
        have t10 : X10.2 = X6.2 := by rw [e10, e8]; rfl
        rw [r10 0 9 (by omega)]
        rcases h6 with ⟨ps, cc, g1, g2, g3, N, g4⟩ | ⟨g1, hd⟩
        · refine pw_pos g3 (pw_eq (fun X22 e22 => pw_let (pw_eq (fun X24 e24 => ?_))))
          have r24 : ∀ e k, ¬ (e = 0 ∧ (k = 2 ∨ k = 3)) → X24.1 e k = X10.1 e k := fun e k he => by rw [e24, wI_ne _ _ _ _ _ _ (by omega), e22, wI_ne _ _ _ _ _ _ (by omega)]
          have t24 : X24.2 = X6.2 := by rw [e24, e22]; exact t10
          have a3 : (X24.1 0 3).toInt = 1 := by rw [e24, wI_ne _ _ _ _ _ _ (by omega), e22, wI_at]; decide
          have a2 : (X24.1 0 2).toInt = (n : Int) := by rw [e24, wI_at, e22, wI_ne _ _ _ _ _ _ (by omega), r10 0 1 (by omega)]; exact q1
          have a1 : (X24.1 0 1).toInt = (n : Int) := by rw [r24 0 1 (by omega), r10 0 1 (by omega)]; exact q1
          have a18 : (X24.1 0 18).toInt = (ps.length : Int) := by rw [r24 0 18 (by omega), r10 0 18 (by omega)]; exact g4.2.1.1
          refine pw_mono (pw_and (rd_88c (A := X24) (m := ps.length) a18 a1 hn BIG 0 0 X24 (by decide) (Nat.zero_le _) (fun _ _ _ => rfl) rfl (fun k hk => absurd hk (Nat.not_lt_zero _))) (r88_L BIG 0 X24)) ?_
          rintro r Y ⟨⟨er, yr, y2, yB, y19⟩, y41⟩
          have rY : ∀ e k, ¬ e = 3 → ¬ e = 19 → ¬ (e = 0 ∧ (k = 2 ∨ k = 3 ∨ k = 11 ∨ k = 12 ∨ k = 41)) → Y.1 e k = X6.1 e k := fun e k z1 z2 z3 => by rw [yr e k z1 z2 (by omega), r24 e k (by omega), r10 e k (by omega)]
          refine ⟨Or.inl ⟨by rw [er, a18]; omega, y41⟩, ?_⟩
          exact fun _ => ⟨g4.2.2.2.2.2.1.cg (fun e k q => rY e k (by omega) (by omega) (by omega)), (KGq.of (fun e k q => rY e k (by omega) (by omega) (by omega))).2 g4.2.2.2.2.1⟩
        · refine pw_neg hd (pw_eq (fun X12 e12 => pw_let ?_))
          have r12 : ∀ e k, ¬ (e = 0 ∧ (k = 11 ∨ k = 12 ∨ k = 18)) → X12.1 e k = X6.1 e k := fun e k he => by rw [e12, wI_ne _ _ _ _ _ _ (by omega)]; exact r10 e k (by omega)
          have b3 : X12.1 0 3 = X.1 0 3 := (r12 0 3 (by omega)).trans q3
          refine pw_ite (fun c3 => pw_ret ⟨Or.inr ⟨by decide, rl6.tr ⟨fun k a b => r12 0 k (by omega), fun e k a b => r12 e k (by omega)⟩⟩, fun z => absurd c3 z⟩) (fun c3 => ?_)
          rw [b3] at c3
          refine pw_let (pw_eq (fun X15 e15 => ?_))
          have r15 : ∀ e k, ¬ (e = 0 ∧ (k = 1 ∨ k = 11 ∨ k = 12 ∨ k = 18)) → X15.1 e k = X6.1 e k := fun e k he => by rw [e15, wI_ne _ _ _ _ _ _ (by omega)]; exact r12 e k (by omega)
          have d3 : X15.1 3 = X.1 3 := funext (fun k => (r15 3 k (by omega)).trans (w3 k))
          have d19 : X15.1 19 = X.1 19 := funext (fun k => (r15 19 k (by omega)).trans (w19 k))
          obtain ⟨ch1, n1, ps1, c1, told1, ⟨t1, t2, t3, ⟨t4, t5⟩, _, t7⟩, ⟨t8, t9⟩, t10⟩ := hX c3
          have d1 : (X15.1 0 1).toInt = (n1 : Int) := by rw [e15, wI_at, r12 0 2 (by omega), q2]; exact t2
          exact pw_mono (rd_169k (A := X15) (told := told1) t1 (fun i hi => by rw [d3]; exact t3 i hi) t4 t5 t8 t9 t10 (fun k hk => by rw [d19]; exact t7 k hk) BIG 0 _ 0 X15 (by decide) (Nat.zero_le _) d1 ⟨rfl, rfl⟩ (fun k hk => absurd hk (Nat.not_lt_zero _))) (fun r Y g => ⟨Or.inr ⟨by rw [g.1.1]; decide, (rl6.tr ⟨fun k a b => r15 0 k (by omega), fun e k a b => r15 e k (by omega)⟩).tr g.1.2⟩, fun _ => g.2⟩)
      · rw [hz0] at c
        refine pw_ck (fun _ => pw_let ?_)
        rw [ixn ha]
        refine pw_ck (fun _ => pw_eq (fun X35 e35 => pw_let ?_))
        have stepv : (a + Int32.ofInt 1).toInt = ((i + 1 : Nat) : Int) := by rw [ti_add (by rw [ha, l1]; omega) (by rw [ha, l1]; omega), ha, l1]; omega
        refine ih (i + 1) _ X35 stepv (by omega) (fun k => by rw [e35, wI_ne _ _ _ _ _ _ (by omega)]; exact hz k) (by rw [e35, wI_ne _ _ _ _ _ _ (by omega)]; exact h1) (fun e k he => by rw [e35, wI_ne _ _ _ _ _ _ (by omega)]; exact hr e k he) (fun e k a b => by rw [e35, wI_ne _ _ _ _ _ _ (by omega)]; exact hy e k a b) (fun k hk => ?_)
        by_cases ek : k = i
        · rw [ek, e35, wI_at, hr 1 i (by omega)]
        · rw [e35, wI_ne _ _ _ _ _ _ (by omega)]
          exact hB k (by omega)
  unfold f_read
  refine pw_let (pw_eq (fun X2 e2 => ?_))
  refine loop BIG 0 0 X2 (by decide) (Nat.zero_le _) (fun k => ?_) (by rw [e2, wI_at]; exact h0) (fun e k he => by rw [e2, wI_ne _ _ _ _ _ _ (by omega)]) (fun e k a b => by rw [e2, wI_ne _ _ _ _ _ _ (by omega)]) (fun k hk => absurd hk (Nat.not_lt_zero _))
  by_cases ek : k = 1
  · exact Or.inr ek
  · exact Or.inl (by rw [e2, wI_ne _ _ _ _ _ _ (by omega)])
/-- judging -/
theorem k_judge11 (hJ : JM X) (h3 : ¬ (X.1 0 3).toInt = 0) (hR : RDs ch n ps c N (TX X)) (hn : sNames ch ps c) (hW : PWd ps) (h34 : ∀ a ∈ c, a.1 = 34 → WKd 40 a.2.2.2) (hl : ps.length ≤ 40) (ht : ∀ k, k < ps.length → ((X.1 19 k).toInt = 0 ↔ ¬ told k = true)) : pw (f_judge X) (fun _ Y => K11 Y) := by
  unfold f_judge
  refine pw_let (pw_neg h3 (pw_bd (x_judges10 (hJ.2.1 h3).1 hR hn hW h34 hl ht) ?_))
  rintro _ X2 ⟨X8, po, rr, q1, q2, q3⟩
  refine pw_eq (fun x3 e3 => pw_eq (fun X4 e4 => pw_eq (fun x5 e5 => pw_eq (fun X6 e6 => ?_))))
  have r6 : ∀ i k, ¬ (i = 0 ∧ (k = 11 ∨ k = 12)) → X6.1 i k = X2.1 i k := fun i k z => by rw [e6, wI_ne _ _ _ _ _ _ (by omega), e4, wI_ne _ _ _ _ _ _ (by omega)]
  have fin : K11 X6 := fun _ => ⟨q2.kk.1.cg (fun e k q => r6 e k (by omega)), (KGq.of (fun e k q => r6 e k (by omega))).2 q2.kk.2⟩
  exact pw_let (pw_ite (fun _ => pw_ret fin) (fun _ => pw_let (pw_ret fin)))
/-- runs -/
theorem k_run11 (hV : KVa True X) (h13 : 0 ≤ (X.1 0 13).toInt) : pw (f_run p1 X) (fun _ Y => KT Y → KJq X → KU X → KJq Y ∧ KU Y) := pw_mono (k_run10 hV h13) (fun _ _ g t a b => ⟨(g t).2.2.2.2.2.1 a b, (g t).2.2.2.2.2.2.1 a b⟩)
theorem k_runUntold11 (hM : JM X) (hV : KVa True X) (h13 : 0 ≤ (X.1 0 13).toInt) : pw (f_runUntold p1 X) (fun _ Y => KT Y → KJq X → KU X → KJq Y ∧ KU Y) := by
  unfold f_runUntold
  refine pw_let (pw_ite (fun _ => pw_ret (fun _ a b => ⟨a, b⟩)) (fun c => pw_bd (pw_ok (s_f_in _ _ _ _)) ?_))
  rintro r0 X' ⟨hF0, _⟩
  obtain rfl : X = X' := (Fr.nil hF0).symm
  have go : ∀ Z : St, KVa True Z → (∀ e k, (e = 0 ∧ (k = 13 ∨ k = 15)) ∨ e = 4 ∨ e = 5 ∨ e = 6 ∨ e = 9 → Z.1 e k = X.1 e k) → pw (f_runUntold_31 p1 Z) (fun _ Y => KT Y → KJq X → KU X → KJq Y ∧ KU Y) := by
    intro Z hZ kq
    unfold f_runUntold_31
    refine pw_let (pw_let (pw_let (pw_bd (wk_starts (W11_w (W11_w (W11.rf hZ (by rw [kq 0 13 (by omega)]; exact h13)) (by omega)) (by omega))) (fun _ Y g => pw_ret (fun t a b => ?_)))))
    have q := g.r10 t
    have a1 : KJq Z := a.cg (fun e k q => kq e k (by omega))
    have b1 : KU Z := (KGq.of kq).2 b
    exact ⟨q.2.2.2.2.2.1 a1 b1, q.2.2.2.2.2.2.1 a1 b1⟩
  refine pw_ite (fun _ => pw_ret (fun _ a b => ⟨a, b⟩)) (fun c2 => pw_let (pw_ite (fun c4 => ?_) (fun c4 => go X hV (fun _ _ _ => rfl))))
  obtain ⟨hA, h18, h19⟩ := hM.allp c
  refine pw_bd (pw_and (vkr_compiles hV) (pw_ok (t_f_compiles hA h18 h19))) ?_
  rintro _ Z ⟨v, hZ, _⟩
  have hF : Fr YR [26, 27, 8000, 8200, 8400, 8600, 8800, 9000, 9200, 9400, 9600, 9800, 10000, 10200] X Z := hZ.mono (by decide)
  refine go Z v (fun e k q => ?_)
  rcases q with ⟨rfl, rfl | rfl⟩ | rfl | rfl | rfl | rfl
  · exact hF.1 0 13 (by decide)
  · exact hF.1 0 15 (by decide)
  · exact hF.1 4 k (show (800 : Nat) ∉ [26, 27, 8000, 8200, 8400, 8600, 8800, 9000, 9200, 9400, 9600, 9800, 10000, 10200] from by decide)
  · exact hF.1 5 k (show (1000 : Nat) ∉ [26, 27, 8000, 8200, 8400, 8600, 8800, 9000, 9200, 9400, 9600, 9800, 10000, 10200] from by decide)
  · exact hF.1 6 k (show (1200 : Nat) ∉ [26, 27, 8000, 8200, 8400, 8600, 8800, 9000, 9200, 9400, 9600, 9800, 10000, 10200] from by decide)
  · exact hF.1 9 k (show (1800 : Nat) ∉ [26, 27, 8000, 8200, 8400, 8600, 8800, 9000, 9200, 9400, 9600, 9800, 10000, 10200] from by decide)
/-- between calls -/
theorem R10.rk11 (h : R10 X Y) : RK11 X Y := ⟨h.rk, fun a b => ⟨h.2.2.2.2.2.1 a b, h.2.2.2.2.2.2.1 a b⟩⟩
theorem K11.kp (h : K11 XR) (r : R7k XR X1) (g : KJq XR → KU XR → KJq X1 ∧ KU X1) : K11 X1 := fun z => by
  rw [r.1.1 0 3 (by omega)] at z
  exact g (h z).1 (h z).2
theorem PJo11.kp (h : PJo11 XC XR) (g : C7 XC X ∧ C8 XC X) (r : R7k XR X1 ∧ RK11 XR X1) (v : KVa True XR → KVa True X1) : PJo11 X X1 := ⟨h.1.kp g ⟨r.1, r.2.1⟩ v, h.2.kp r.1 r.2.2⟩
theorem K11.tell (h : K11 XR) (b : (¬ iR p1 XR ∧ X1 = XR) ∨ (iR p1 XR ∧ X1 = _root_.Jvm.Pilot.CBlameCourtLaw_law_r8381_f30dd1.wI (_root_.Jvm.Pilot.CBlameCourtLaw_law_r8381_f30dd1.wI XR 19 (ix p1) (vp_nar .boolean p2)) 0 4 0)) : K11 X1 := by
  rcases b with ⟨_, b⟩ | ⟨_, b⟩
  · rw [b]; exact h
  · have r : ∀ e k, ¬ e = 19 → ¬ (e = 0 ∧ k = 4) → X1.1 e k = XR.1 e k := fun e k q1 q2 => by rw [b, wI_ne _ _ _ _ _ _ (by omega), wI_ne _ _ _ _ _ _ (by omega)]
    intro z
    rw [r 0 3 (by omega) (by omega)] at z
    exact ⟨(h z).1.cg (fun e k q => r e k (by omega) (by omega)), (KGq.of (fun e k q => r e k (by omega) (by omega))).2 (h z).2⟩
/-- what stands between the calls gives a run its premises -/
theorem PJo11.rk (h : PJo11 XC XR) (hM : JM XR) (p : JM X1) (r7 : R7k XR X1) (r8 : R8k XR X1) (g : KVa True XR → 0 ≤ (XR.1 0 13).toInt → ¬ (XR.1 0 4).toInt = 0 → KT X1 → R10 XR X1) (g1 : KVa True XR → 0 ≤ (XR.1 0 13).toInt → KT X1 → KJq XR → KU XR → KJq X1 ∧ KU X1) (h3 : ¬ (XR.1 0 3).toInt = 0) : RK11 XR X1 := by
  refine ⟨h.1.rk hM p r7 r8 g, ?_⟩
  obtain ⟨e, f, he, ⟨_, _, d⟩⟩ := h.1
  rcases d with ⟨_, d2, _⟩ | ⟨d1, d2, ch, n, ps, c, told, d3, d4, d5, d6, d7, _⟩
  · exact absurd d2 h3
  · exact g1 d7 (hM.2.1 d2).1.2.2.2.1.1 (p.2.1 (by rw [r7.1.1 0 3 (by omega)]; exact d2)).1.2.2.2.1
theorem PJo11.go (h : PJo11 XC XR) (hM : JM XR) (p : JM X1) (hc : C7 XC X ∧ C8 XC X) (r7 : R7k XR X1) (r8 : R8k XR X1) (g : KVa True XR → 0 ≤ (XR.1 0 13).toInt → ¬ (XR.1 0 4).toInt = 0 → KT X1 → R10 XR X1) (g1 : KVa True XR → 0 ≤ (XR.1 0 13).toInt → KT X1 → KJq XR → KU XR → KJq X1 ∧ KU X1) (v : KVa True XR → KVa True X1) : PJo11 X X1 := by
  refine ⟨h.1.kp hc ⟨r7, h.1.rk hM p r7 r8 g⟩ v, fun z => ?_⟩
  have z3 : ¬ (XR.1 0 3).toInt = 0 := by rw [← r7.1.1 0 3 (by omega)]; exact z
  exact (h.rk hM p r7 r8 g g1 z3).2 (h.2 z3).1 (h.2 z3).2
/-- both answer a run that tells nothing the same -/
theorem PJo11.runU (h : PJo11 XC XR) (hM : JM XR) : pw (f_runUntold p1 XR) (fun z Z1 => pw (g_Court_runUntold p1 XC) (fun z1 V1 => z1 = z ∧ RNQ XR XC z Z1 V1)) := by
  obtain ⟨⟨e, f, he, hG⟩, hk⟩ := h
  have he1 : e = 2 ∨ e = 24 := he.elim (fun z => Or.inl z.1) (fun z => Or.inr z.1)
  obtain ⟨⟨a1, a2⟩, ⟨b1, _⟩, d⟩ := hG
  rcases d with ⟨d1, d2, _⟩ | ⟨d1, d2, ch, n, ps, c, told, d3, d4, d5, d6, d7, d9, d8⟩
  · unfold f_runUntold
    refine pw_let (pw_pos d2 (pw_ret ?_))
    unfold g_Court_runUntold
    exact pw_let (pw_pos d1 (pw_ret ⟨rfl, Or.inl ⟨rfl, rfl, rfl⟩⟩))
  · obtain ⟨⟨y1, ⟨k, y2, y3⟩, y4⟩, y5⟩ := d9
    refine n_runU he1 hM d2 (hk d2) d3 d5 (fun z => ?_) d1 d4 b1 a1 y1 ?_ y5 d6 (by omega)
    · rcases d8 with ⟨_, z2⟩ | ⟨_, _, G, _, _, z5⟩
      · exact absurd z2 z
      · exact ⟨G, z5⟩
    · obtain ⟨N, hR⟩ := d3.2.2.2.2.1
      obtain ⟨k1, k2, k3⟩ := hR.2.2.2.2.2.2.1
      rw [tx7_ne (by omega)] at k3
      rw [y2] at k2
      refine Int32.toInt_inj.mp ?_
      rw [y3, k3, Option.some.inj k2]
theorem one_runU {a b : Int32} {Y Y1 : St} {Q : Int32 → St → St → Prop} (hN : pw (f_runUntold p1 XR) (fun z Z1 => pw (g_Court_runUntold p1 XC) (fun z1 V1 => z1 = z ∧ Q z Z1 V1))) (ha : g_Court_runUntold p1 XC = some (a, Y)) (hb : f_runUntold p1 XR = some (b, Y1)) : a = b ∧ Q b Y1 Y := hN b Y1 hb a Y ha
end K11S
