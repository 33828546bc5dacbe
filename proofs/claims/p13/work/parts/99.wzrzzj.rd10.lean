/-! reading, with what a run needs -/
def RD10 (ch : Tx) (ps : List Pt) (c : List Ins) (told : Nat → Bool) (X : St) (r : Int32) (Y : St) : Prop := (¬ r.toInt = -1 ∧ KVa True Y ∧ (Y.1 0 4).toInt = 0) ∨ (r.toInt = -1 ∧ ((X.1 0 3).toInt = 0 → (Y.1 0 18).toInt = 0) ∧ (¬ (X.1 0 3).toInt = 0 → KVa True Y ∧ ((X.1 0 4).toInt = 0 → (Y.1 0 4).toInt = 0) ∧ (¬ (X.1 0 4).toInt = 0 → ∃ rr, JALL ch ps told c ps.length 0 ([], []) rr ∧ J10R ch ps c Y rr)))
/-- a program's text, in the class -/
def SC10 (e : Nat) (ps : List Pt) (c : List Ins) (Y : St) : Prop := (Y.1 e 6).toInt = (c.length : Int) ∧ (∃ k : Nat, partOf (nmsOf ps) MAINr = some k ∧ (Y.1 e 2).toInt = (k : Int)) ∧ c.length ≤ 9080
def RC10 (ch : Tx) (e f : Nat) (X : St) (r : Int32) (Y : St) : Prop := ((∃ ps c, sParts ch 41 [] 0 [] = some (ps, c) ∧ sNames ch ps c ∧ r.toInt = (ps.length : Int) ∧ ¬ (Y.1 0 3).toInt = 0 ∧ (Y.2.2 0 9 = e + 1 ∧ Y.2.2 0 2 = f + 1) ∧ CRS e ch ps c Y ∧ SC10 e ps c Y) ∨ ((∀ ps c, sParts ch 41 [] 0 [] = some (ps, c) → ¬ sNames ch ps c) ∧ r.toInt = -1 ∧ Y.1 0 3 = X.1 0 3 ∧ (Y.2.2 0 9 = f + 1 ∧ Y.2.2 0 2 = e + 1))) ∧ TOK (e + 1) Y ∧ PGS f X Y
section RD10S
variable {e f w n N m : Nat} {ch : Tx} {ps : List Pt} {told : Nat → Bool} {c : List Ins} {X Y Z W A : St} {po : Nat → Nat} {L : List Nat} {rr : Sum (List JG × List Bool) (Int × Int)} {P : Prop}
/-- the former text is read and judged again -/
theorem rd_169j (hT : TXT ch n) (hb : ∀ i, i < n → BY (vp_nar .byte (A.1 3 i)) (ch i)) (hs : sParts ch 41 [] 0 [] = some (ps, c)) (hsn : sNames ch ps c) (hW : PWd ps) (h34 : ∀ a ∈ c, a.1 = 34 → WKd 40 a.2.2.2) (hl : ps.length ≤ 40) (ht : ∀ k, k < ps.length → ((A.1 19 k).toInt = 0 ↔ ¬ told k = true)) : ∀ (M i : Nat) (a b : Int32) (Z : St), b.toInt = (i : Int) → i ≤ n → (Z.1 0 1).toInt = (n : Int) → (Z.1 3 = A.1 3 ∧ Z.1 19 = A.1 19) → (∀ k, k < i → Z.1 2 k = vp_nar .byte (A.1 3 k)) → pw (f_read_169 M a b Z) (fun r Y => r = (-1 : Int32) ∧ KVa True Y ∧ (a.toInt = 0 → (Y.1 0 4).toInt = 0) ∧ (¬ a.toInt = 0 → ∃ rr, JALL ch ps told c ps.length 0 ([], []) rr ∧ J10R ch ps c Y rr)) := by
  have l1 : (Int32.ofInt 1).toInt = 1 := by decide
  have hn := hT.1
  intro M
  induction M with
  | zero => exact fun _ _ _ _ _ _ _ _ _ => pw_none
  | succ M ih =>
    intro i a b Z hbi hi h1 hz hB
    have e : f_read_169 (M + 1) = f_read_169_s (f_read_169 M) := by
      unfold f_read_169
      exact lp_succ _ _ _
    rw [e]
    unfold f_read_169_s
    refine pw_let (pw_ite (fun cz => ?_) (fun cz => ?_))
    · have T : TXR ch n Z := ⟨hT, h1, fun k hk => by rw [hB k (by omega)]; exact hb k hk⟩
      refine pw_bd (pw_and (pw_and (pw_and (x_reads7 T) fw_reads) v_reads) (pw_ok (m_reads ⟨by omega, by omega⟩))) ?_
      rintro r17 X17 ⟨⟨⟨h17, f17⟩, v17⟩, ⟨_, _, m17, z17⟩⟩
      have k19 : X17.1 19 = A.1 19 := (funext (fun k => f17.1 19 k (fr56 (by omega)))).trans hz.2
      have w17 : (X17.1 0 9).toInt = 0 ∧ ∃ N, RDs ch n ps c N X17 := by
        rcases h17 with ⟨ps1, c1, g1, g2, g3, g4⟩ | ⟨g1, _⟩
        · rw [hs] at g1
          have e1 := Option.some.inj g1
          have p1 : ps = ps1 := congrArg Prod.fst e1
          have p2 : c = c1 := congrArg Prod.snd e1
          rw [← p1, ← p2] at g4
          exact ⟨g3, g4⟩
        · exact absurd hsn (g1 ps c hs)
      obtain ⟨h9, N, hR⟩ := w17
      refine pw_ite (fun c0 => pw_ret ⟨rfl, v17, fun _ => z17, fun z => absurd c0 z⟩) (fun c0 => ?_)
      have hR2 : RDs ch n ps c N (TX X17) := hR.tx7 (fun _ _ _ => rfl) rfl
      refine pw_bd (pw_and (x_judges10 (told := told) (m17.pgm h9) hR2 hsn hW h34 hl (fun k hk => by rw [k19]; exact ht k hk)) (v_judges v17)) ?_
      rintro _ X18 ⟨⟨X8, po, rr, q1, q2, q3⟩, v18⟩
      exact pw_ret ⟨rfl, v18, fun z => absurd z c0, fun _ => ⟨rr, q1, J10R.of q2 q3⟩⟩
    · refine pw_ck (fun _ => pw_let ?_)
      rw [ixn hbi]
      refine pw_ck (fun _ => pw_eq (fun X20 e20 => pw_let ?_))
      have stepv : (b + Int32.ofInt 1).toInt = ((i + 1 : Nat) : Int) := by rw [ti_add (by rw [hbi, l1]; omega) (by rw [hbi, l1]; omega), hbi, l1]; omega
      have r20 : ∀ e k, ¬ e = 2 → X20.1 e k = Z.1 e k := fun e k he => by rw [e20, wI_ne _ _ _ _ _ _ (by omega)]
      refine ih (i + 1) a _ X20 stepv (by omega) (by rw [r20 0 1 (by omega)]; exact h1) ⟨(funext (fun k => r20 3 k (by omega))).trans hz.1, (funext (fun k => r20 19 k (by omega))).trans hz.2⟩ (fun k hk => ?_)
      by_cases ek : k = i
      · rw [ek, e20, wI_at, hz.1]
      · rw [e20, wI_ne _ _ _ _ _ _ (by omega)]
        exact hB k (by omega)
theorem x_read10 (h0 : 0 ≤ (X.1 0 0).toInt ∧ (X.1 0 0).toInt ≤ 3000) (hX : ¬ (X.1 0 3).toInt = 0 → (∃ n, PG7 ch n ps c told X) ∧ (PWd ps ∧ ∀ a ∈ c, a.1 = 34 → WKd 40 a.2.2.2) ∧ ps.length ≤ 40) : pw (f_read X) (fun r Y => RD10 ch ps c told X r Y) := by
  have l1 : (Int32.ofInt 1).toInt = 1 := by decide
  have lm : (-1 : Int32).toInt = -1 := by decide
  have loop : ∀ (M : Nat) (a : Int32) (Z : St), (∀ k, Z.1 0 k = X.1 0 k ∨ k = 1) → Z.1 0 1 = X.1 0 0 → (∀ e k, e = 3 ∨ e = 19 → Z.1 e k = X.1 e k) → pw (f_read_10 M a Z) (fun r Y => RD10 ch ps c told X r Y) := by
    intro M
    induction M with
    | zero => exact fun _ _ _ _ _ => pw_none
    | succ M ih =>
      intro a Z hz h1 hr
      have e : f_read_10 (M + 1) = f_read_10_s (f_read_10 M) := by
        unfold f_read_10
        exact lp_succ _ _ _
      rw [e]
      unfold f_read_10_s
      refine pw_let (pw_ite (fun c => ?_) (fun c => ?_))
      · refine pw_eq (fun X4 e4 => pw_let ?_)
        have r4 : ∀ e k, ¬ (e = 0 ∧ k = 0) → X4.1 e k = Z.1 e k := fun e k he => by rw [e4, wI_ne _ _ _ _ _ _ (by omega)]
        have q4 : X4.1 0 4 = X.1 0 4 := (r4 0 4 (by omega)).trans ((hz 4).resolve_right (by omega))
        refine pw_bd (pw_and (pw_and v_reads fw_reads) (pw_ok (m_reads (X := X4) (by rw [r4 0 1 (by omega), h1]; exact h0)))) ?_
        rintro _ X6 ⟨⟨v6, f6⟩, ⟨_, _, m6, z6⟩⟩
        have q2 : X6.1 0 2 = X.1 0 2 := (f6.1 0 2 (fr56 (by omega))).trans ((r4 0 2 (by omega)).trans ((hz 2).resolve_right (by omega)))
        have q3 : X6.1 0 3 = X.1 0 3 := (f6.1 0 3 (fr56 (by omega))).trans ((r4 0 3 (by omega)).trans ((hz 3).resolve_right (by omega)))
        have w3 : ∀ k, X6.1 3 k = X.1 3 k := fun k => (f6.1 3 k (fr56 (by omega))).trans ((r4 3 k (by omega)).trans (hr 3 k (by omega)))
        have w19 : ∀ k, X6.1 19 k = X.1 19 k := fun k => (f6.1 19 k (fr56 (by omega))).trans ((r4 19 k (by omega)).trans (hr 19 k (by omega)))
        refine pw_let (pw_eq (fun X8 e8 => pw_let (pw_eq (fun X10 e10 => pw_let ?_))))
        have r10 : ∀ e k, ¬ (e = 0 ∧ (k = 11 ∨ k = 12)) → X10.1 e k = X6.1 e k := fun e k he => by rw [e10, wI_ne _ _ _ _ _ _ (by omega), e8, wI_ne _ _ _ _ _ _ (by omega)]
        have v10 : KVa True X10 := by
          rw [e10, e8]
          exact KVa_w (KVa_w v6 (by omega)) (by omega)
        refine pw_ite (fun c9 => pw_eq (fun X22 e22 => pw_let (pw_eq (fun X24 e24 => ?_)))) (fun c9 => ?_)
        · have r24 : ∀ e k, ¬ (e = 0 ∧ (k = 2 ∨ k = 3 ∨ k = 11 ∨ k = 12)) → X24.1 e k = X6.1 e k := fun e k he => by rw [e24, wI_ne _ _ _ _ _ _ (by omega), e22, wI_ne _ _ _ _ _ _ (by omega), r10 e k (by omega)]
          have v24 : KVa True X24 := by
            rw [e24, e22]
            exact KVa_w (KVa_w v10 (by omega)) (by omega)
          refine pw_mono (pw_and (r88_8 BIG (0 : Int32) X24) (vkr_read_88 BIG (0 : Int32) X24 v24)) ?_
          rintro r Y ⟨⟨er, y4⟩, vY⟩
          refine Or.inl ⟨?_, vY, by rw [y4, r24 0 4 (by omega)]; exact z6⟩
          rw [er, r24 0 18 (by omega)]
          have := m6.2.2.1.1
          omega
        · refine pw_eq (fun X12 e12 => pw_let ?_)
          have r12 : ∀ e k, ¬ (e = 0 ∧ (k = 11 ∨ k = 12 ∨ k = 18)) → X12.1 e k = X6.1 e k := fun e k he => by rw [e12, wI_ne _ _ _ _ _ _ (by omega)]; exact r10 e k (by omega)
          have b3 : X12.1 0 3 = X.1 0 3 := (r12 0 3 (by omega)).trans q3
          refine pw_ite (fun c3 => pw_ret (Or.inr ⟨lm, fun _ => by rw [e12, wI_at]; decide, fun z => absurd (by rw [← b3]; exact c3) z⟩)) (fun c3 => ?_)
          rw [b3] at c3
          obtain ⟨⟨n, t1, t2, t3, ⟨t4, t5⟩, _, t7⟩, ⟨t8, t9⟩, t10⟩ := hX c3
          refine pw_let (pw_eq (fun X15 e15 => ?_))
          have r15 : ∀ e k, ¬ (e = 0 ∧ (k = 1 ∨ k = 11 ∨ k = 12 ∨ k = 18)) → X15.1 e k = X6.1 e k := fun e k he => by rw [e15, wI_ne _ _ _ _ _ _ (by omega)]; exact r12 e k (by omega)
          have d1 : (X15.1 0 1).toInt = (n : Int) := by rw [e15, wI_at, r12 0 2 (by omega), q2]; exact t2
          refine pw_mono (rd_169j (A := X15) (told := told) t1 (fun i hi => by rw [r15 3 i (by omega), w3]; exact t3 i hi) t4 t5 t8 t9 t10 (fun k hk => by rw [r15 19 k (by omega), w19]; exact t7 k hk) BIG 0 _ 0 X15 (by decide) (Nat.zero_le _) d1 ⟨rfl, rfl⟩ (fun k hk => absurd hk (Nat.not_lt_zero _))) ?_
          rintro r Y ⟨er, vY, y0, y1⟩
          rw [q4] at y0 y1
          exact Or.inr ⟨by rw [er]; exact lm, fun z => absurd z c3, fun _ => ⟨vY, y0, y1⟩⟩
      · refine pw_ck (fun _ => pw_let (pw_ck (fun _ => pw_eq (fun X35 e35 => pw_let ?_))))
        exact ih _ X35 (fun k => by rw [e35, wI_ne _ _ _ _ _ _ (by omega)]; exact hz k) (by rw [e35, wI_ne _ _ _ _ _ _ (by omega)]; exact h1) (fun e k he => by rw [e35, wI_ne _ _ _ _ _ _ (by omega)]; exact hr e k he)
  unfold f_read
  refine pw_let (pw_eq (fun X2 e2 => ?_))
  refine loop BIG 0 X2 (fun k => ?_) (by rw [e2, wI_at]) (fun e k he => by rw [e2, wI_ne _ _ _ _ _ _ (by omega)])
  by_cases ek : k = 1
  · exact Or.inr ek
  · exact Or.inl (by rw [e2, wI_ne _ _ _ _ _ _ (by omega)])
theorem l_read10 (he : e = 2 ∨ e = 24) (hf : f = 2 ∨ f = 24) (hT : TXT ch n) (h1 : (X.1 0 1).toInt = (n : Int)) (hb : ∀ i, i < n → (X.1 1 i &&& 255).toInt = ch i) (hK : TOK (e + 1) X) (r2 : X.2.2 0 2 = e + 1) (r9 : X.2.2 0 9 = f + 1) (hF : pw (g_Reader_readInto e 1 (X.1 0 1) X) (fun _ Y => (Y.2.2 0 2 = X.2.2 0 2 ∧ Y.2.2 0 9 = X.2.2 0 9) ∧ Y.1 0 3 = X.1 0 3 ∧ PGS f X Y)) : pw (g_Court_read X) (fun r Y => RC10 ch e f X r Y) := by
  unfold g_Court_read
  refine pw_ck (fun _ => pw_to (w := e) (by rw [r2]; rfl) (pw_let ?_))
  refine pw_bd (pw_and (pw_and (l_readInto he hT h1 hb hK) (l_readT he hK)) hF) ?_
  rintro _ X3 ⟨⟨hfin, hK3⟩, ⟨q2, q9⟩, q3, qf⟩
  refine pw_eq (fun X4 e4 => pw_eq (fun x5 e5 => pw_eq (fun X6 e6 => pw_let (pw_eq (fun X8 e8 => pw_eq (fun x9 e9 => ?_))))))
  have k9 : x9 = X3.1 46 3 := by rw [e9, e8, wI_ne _ _ _ _ _ _ (by omega), e6, wI_at, e5, e4, wI_ne _ _ _ _ _ _ (by omega)]
  have s8 : X8.2 = X3.2 := by rw [e8, e6, e4]; rfl
  have r8 : ∀ i k, ¬ (i = 0 ∧ (k = 1 ∨ k = 7 ∨ k = 8)) → X8.1 i k = X3.1 i k := fun i k hi => by rw [e8, wI_ne _ _ _ _ _ _ (by omega), e6, wI_ne _ _ _ _ _ _ (by omega), e4, wI_ne _ _ _ _ _ _ (by omega)]
  have tok : ∀ Y : St, (∀ i k, ¬ i = 0 → Y.1 i k = X3.1 i k) → TOK (e + 1) Y := fun Y hY => by
    obtain ⟨ks, t1, t2⟩ := hK3
    exact ⟨ks, t1.cg (fun j k a b _ => hY j k (by omega)), t2⟩
  have pgs : ∀ Y : St, (∀ i k, ¬ i = 0 → Y.1 i k = X3.1 i k) → Y.2.1 = X3.2.1 → PGS f X Y := fun Y hY h2 => ⟨fun j k q qz => (hY j k (by omega)).trans (qf.1 j k q qz), fun k => by rw [h2]; exact qf.2 k⟩
  rw [k9]
  have bad : (∀ ps c, sParts ch 41 [] 0 [] = some (ps, c) → ¬ sNames ch ps c) → pw (some ((-1 : Int32), X8)) (fun r Y => RC10 ch e f X r Y) := fun h => by
    refine pw_ret ⟨Or.inr ⟨h, by decide, by rw [r8 0 3 (by omega)]; exact q3, by rw [s8, q9, r9], by rw [s8, q2, r2]⟩, tok X8 (fun i k z => r8 i k (by omega)), pgs X8 (fun i k z => r8 i k (by omega)) (by rw [s8])⟩
  unfold FINq at hfin
  cases hs : sParts ch 41 [] 0 [] with
  | none =>
    rw [hs] at hfin
    have hd : fd X3 := hfin
    refine pw_neg hd (bad (fun ps c g => ?_))
    rw [hs] at g
    exact absurd g.symm (Option.some_ne_none _)
  | some a =>
    rw [hs] at hfin
    obtain ⟨hR, _, h9080⟩ := hfin
    rcases hR with ⟨s, hRS, km, km1, km2⟩ | ⟨s, hd⟩
    · have h0 : (X3.1 46 3).toInt = 0 := hRS.2.1
      refine pw_pos h0 ?_
      have z2 : X8.2.2 0 2 = e + 1 := by rw [s8, q2, r2]
      have z9 : X8.2.2 0 9 = f + 1 := by rw [s8, q9, r9]
      refine pw_ck (fun _ => pw_to (w := f) (by rw [z9]; rfl) (pw_ck (fun _ => pw_to (w := e) (by rw [z2]; rfl) ?_)))
      refine pw_eq (fun X12 e12 => pw_eq (fun X13 e13 => pw_eq (fun X14 e14 => pw_eq (fun X15 e15 => pw_eq (fun X16 e16 => ?_)))))
      have z16 : X16.2.2 0 9 = e + 1 := by
        rw [e16, e15, e14]
        show X13.2.2 0 9 = e + 1
        rw [e13, wR_se, if_neg (by omega), e12, wR_se, if_pos rfl]
      have y16 : X16.2.2 0 2 = f + 1 := by
        rw [e16, e15, e14]
        show X13.2.2 0 2 = f + 1
        rw [e13, wR_se, if_pos rfl]
      have r16 : ∀ i k, ¬ i = 0 → X16.1 i k = X3.1 i k := fun i k z => by
        rw [e16, wI_ne _ _ _ _ _ _ (by omega), e15, wI_ne _ _ _ _ _ _ (by omega), e14, wI_ne _ _ _ _ _ _ (by omega), e13, e12]
        exact r8 i k (by omega)
      have s16 : X16.2.1 = X3.2.1 := by
        rw [e16, e15, e14, e13, e12]
        show X8.2.1 = _
        rw [s8]
      have k3 : (X16.1 0 3).toInt = 1 := by
        rw [e16, wI_ne _ _ _ _ _ _ (by omega), e15, wI_ne _ _ _ _ _ _ (by omega), e14, wI_at]
        decide
      refine pw_ck (fun _ => pw_to (w := e) (by rw [z16]; rfl) (pw_let (pw_ret ⟨Or.inl ⟨a.1, a.2, hs, s, ?_, by omega, ⟨z16, y16⟩, hRS.crs.fr (fun j k q => r16 j k (by omega)) (fun k => by rw [s16]), by rw [r16 e 6 (by omega)]; exact hRS.2.2.1.2.2.2.2, ⟨km, km1, by rw [r16 e 2 (by omega)]; exact km2⟩, h9080⟩, tok X16 r16, pgs X16 r16 s16⟩)))
      rw [r16 e 1 (by omega)]
      exact hRS.2.2.1.1
    · refine pw_neg hd (bad (fun ps c g => ?_))
      rw [hs] at g
      have e1 := Option.some.inj g
      rw [show ps = a.1 from (congrArg Prod.fst e1).symm, show c = a.2 from (congrArg Prod.snd e1).symm]
      exact s
end RD10S
