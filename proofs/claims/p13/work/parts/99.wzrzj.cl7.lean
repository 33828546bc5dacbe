/-! the class: what reading leaves of a program, and what judge() answers -/
/-- judge()'s answer -/
def JAq (ch : Tx) (ps : List Pt) (told : Nat → Bool) (c : List Ins) (r : Int32) : Prop := ∃ rr, JALL ch ps told c ps.length 0 ([], []) rr ∧ ((∃ G, rr = Sum.inl G ∧ r.toInt = (G.1.length : Int)) ∨ ∃ f, rr = Sum.inr f ∧ r.toInt = -1)
theorem JAq.one {ch : Tx} {ps : List Pt} {told : Nat → Bool} {c : List Ins} {r r1 : Int32} (h : JAq ch ps told c r) (g : JAq ch ps told c r1) : r = r1 := by
  obtain ⟨a, a1, a2⟩ := h
  obtain ⟨b, b1, b2⟩ := g
  have e := JALL.det _ _ _ _ _ a1 b1
  subst e
  refine Int32.toInt_inj.mp ?_
  rcases a2 with ⟨G, z, x⟩ | ⟨f, z, x⟩
  · rcases b2 with ⟨G1, z1, x1⟩ | ⟨f1, z1, x1⟩
    · rw [z] at z1
      rw [x, x1, Sum.inl.inj z1]
    · rw [z] at z1
      exact absurd z1 (by simp)
  · rcases b2 with ⟨G1, z1, x1⟩ | ⟨f1, z1, x1⟩
    · rw [z] at z1
      exact absurd z1 (by simp)
    · rw [x, x1]
/-- the class's program as it stands in its rows -/
def CP7 (e : Nat) (ch : Tx) (ps : List Pt) (told : Nat → Bool) (c : List Ins) (X : St) : Prop := ∃ (m : Nat) (kt ksP : List (List Int)), CPRr e ch X ps told c kt ∧ CPP e X ps c kt ∧ (TKS (e + 1) X ksP ∧ kt <+: ksP ∧ kt.length = m ∧ (X.1 e 5).toInt = (m : Int) ∧ 9 ≤ m) ∧ (K9 <+: kt ∧ ∀ d ∈ kt, WKd 40 d) ∧ m + ps.length + rns c ≤ 1549
/-- just read -/
def CRS (e : Nat) (ch : Tx) (ps : List Pt) (c : List Ins) (Y : St) : Prop := ((Y.1 e 1).toInt = (ps.length : Int) ∧ ps.length ≤ 40 ∧ PTS e Y ps ∧ (Y.1 (e + 17) ps.length).toInt = (c.length : Int)) ∧ (∀ (i : Nat) (a : Ins), c[i]? = some a → (Y.1 (e + 18) i).toInt = a.1 ∧ (Y.1 (e + 21) i).toInt = a.2.2.1) ∧ (∀ (i : Nat) (a : Ins), c[i]? = some a → ¬ a.1 = 34 → (a.1 = 4 → ∃ k : Nat, partOf (nmsOf ps) (nm ch a.2.2.1.toNat) = some k ∧ (Y.1 (e + 19) i).toInt = (k : Int)) ∧ (¬ a.1 = 4 → Y.1 (e + 19) i = Int32.ofInt a.2.1)) ∧ KSq e Y ps c
/-- a table is sound -/
def TOK (o : Nat) (X : St) : Prop := ∃ ks, TKS o X ks ∧ K9 <+: ks
/-- rows of a program stay -/
def PGS (f : Nat) (X Y : St) : Prop := (∀ j k, f ≤ j ∧ j ≤ f + 21 → (j ≤ f + 1 → k ≤ 20) → Y.1 j k = X.1 j k) ∧ ∀ k, Y.2.1 (f + 10) k = X.2.1 (f + 10) k
section CL7S
variable {e f n m N : Nat} {ch : Tx} {ps : List Pt} {told : Nat → Bool} {c : List Ins} {X0 X Y Z W : St} {po : Nat → Nat} {p3 : Int32} {ks : List (List Int)}
theorem RS.crs (h : RS ch n e Y ps c c.length) : CRS e ch ps c Y := by
  obtain ⟨⟨_, _, _, hks⟩, _, h2, h3, h4⟩ := h
  refine ⟨⟨h2.1, h2.2.1, h2.2.2.1, h2.2.2.2.1⟩, fun i a ha => ⟨(h3 i a ha).1, (h3 i a ha).2.1⟩, fun i a ha h34 => ?_, hks⟩
  have hl := (List.getElem?_eq_some_iff.mp ha).1
  obtain ⟨b1, b2⟩ := h4 i a ha h34
  exact ⟨fun z => b1 z hl, fun z => b2 (fun y => z y.1)⟩
theorem CRS.fr (h : CRS e ch ps c X) (r : ∀ j k, e ≤ j ∧ j ≤ e + 21 → Y.1 j k = X.1 j k) (r2 : ∀ k, Y.2.1 (e + 10) k = X.2.1 (e + 10) k) : CRS e ch ps c Y := by
  obtain ⟨⟨a, b, d, g⟩, h3, h4, h5⟩ := h
  refine ⟨⟨by rw [r _ _ (by omega)]; exact a, b, d.fr (fun j k hj _ => r j k (by omega)) (fun k _ => r2 k), by rw [r _ _ (by omega)]; exact g⟩, fun i x hx => by rw [r _ _ (by omega), r _ _ (by omega)]; exact h3 i x hx, fun i x hx => by rw [r _ _ (by omega)]; exact h4 i x hx, h5.cg (fun j k q => r j k (by omega)) (fun i x _ _ => r _ _ (by omega))⟩
theorem kcs_rns : ∀ c : List Ins, krs c = kcs c + rns c
  | [] => rfl
  | a :: c => by
    have := kcs_rns c
    unfold krs kcs rns at this ⊢
    rw [List.map_cons, List.map_cons, List.map_cons, List.sum_cons, List.sum_cons, List.sum_cons, this]
    unfold kr
    omega
theorem CRS.cp (h : CRS e ch ps c X) (hc : 2 * (kps ps + krs c) ≤ 3000) : CP7 e ch ps (fun _ => true) c X ∧ PWd ps ∧ ∀ a ∈ c, a.1 = 34 → WKd 40 a.2.2.2 := by
  obtain ⟨⟨h1, hl, hp, he⟩, h3, h4, h5, h16, h6⟩ := h
  have hk := kcs_rns c
  obtain ⟨ks, ⟨t1, ⟨t2, t3⟩, t4, t5⟩, t6, t7⟩ := h6 (by omega)
  have n9 : 9 ≤ ks.length := by
    have := t2.length_le
    exact this
  refine ⟨⟨ks.length, ks, ks, ⟨fun i a ha => ⟨(h3 i a ha).1, (h3 i a ha).2, fun z => ?_, fun z z34 => (h4 i a ha z34).2 z, fun z => t6 i a ha z⟩, fun k hk => ?_, t1.1.2.1⟩, ⟨fun k p hkp => ?_, he, h1, t7⟩, ⟨t1, List.prefix_rfl, rfl, t5, n9⟩, ⟨t2, t3⟩, by omega⟩, h5, fun a ha h34 => ?_⟩
  · obtain ⟨k, k1, k2⟩ := (h4 i a ha (by omega)).1 z
    rw [k2]
    unfold nrp
    rw [k1]
    rfl
  · rw [h16 k (by omega)]
    exact ⟨fun z => absurd z (by decide), fun z => absurd rfl z⟩
  · obtain ⟨_, _, _, q1, q2⟩ := hp k p hkp
    exact ⟨q1, q2⟩
  · obtain ⟨i, hi⟩ := List.getElem?_of_mem ha
    obtain ⟨z, _, z2⟩ := t6 i a hi h34
    exact t3 _ (List.mem_of_getElem? z2)
/-- whatever is read, the table is sound -/
theorem l_readT (he : e = 2 ∨ e = 24) (hK : TOK (e + 1) X) : pw (g_Reader_readInto e 1 p3 X) (fun _ Y => TOK (e + 1) Y) := by
  unfold g_Reader_readInto
  refine pw_eq (fun X1 e1 => ?_)
  have hr1 : X1.2.2 46 1 = e + 1 := by
    rw [e1]
    show uA X.2.2 46 (fun j => if j = 1 then e + 1 else X.2.2 46 j) 46 1 = e + 1
    rw [uA_at]
    rfl
  refine pw_ck (fun _ => ?_)
  refine pw_to (w := e) (by rw [hr1]; rfl) ?_
  refine pw_bd (l_clear he X1 (by
    obtain ⟨ks, h1, h2⟩ := hK
    exact ⟨ks, h1.cg (fun j k q1 q2 _ => by rw [e1]; rfl), h2⟩)) ?_
  rintro _ X3 ⟨c1, c2, c3, c4, c9, c5⟩
  refine pw_eq (fun X4 e4 => pw_eq (fun X5 e5 => pw_eq (fun X6 e6 => pw_eq (fun X7 e7 => pw_eq (fun X8 e8 => ?_)))))
  have k8 : ∀ j k, ¬ j = 46 → X8.1 j k = X3.1 j k := fun j k a => by
    rw [e8, wI_ne _ _ _ _ _ _ (fun g => a g.1), e7, wI_ne _ _ _ _ _ _ (fun g => a g.1), e6, wI_ne _ _ _ _ _ _ (fun g => a g.1), e5, wI_ne _ _ _ _ _ _ (fun g => a g.1), e4, wI_ne _ _ _ _ _ _ (fun g => a g.1)]
  have s8 : X8.2 = X3.2 := by rw [e8, e7, e6, e5, e4]; rfl
  have f6 : (X8.1 46 6).toInt = 0 := by rw [e8, wI_at]; decide
  have t8 : TKS (e + 1) X8 K9 := c9.cg (fun j k q1 q2 _ => k8 j k (by omega))
  have I8 : IKt (e + 1) 0 0 X8 := by
    refine ⟨⟨by rw [s8, c1]; exact hr1, by omega⟩, ⟨?_, by rw [f6]; exact Int.le_refl _, by rw [f6]; decide⟩, ⟨K9, t8, List.prefix_rfl⟩, fun i hi => by rw [f6] at hi; omega⟩
    rw [t8.1.1]
    exact Int.natCast_nonneg _
  refine pw_bd (R := fun _ Z => IKt (e + 1) 0 0 Z) ?_ ?_
  · unfold g_Tokens_begin
    refine pw_eq (fun Y1 d1 => pw_let (pw_let (pw_eq (fun Y4 d4 => ?_))))
    have I1 : IKt (e + 1) 0 0 Y1 := by rw [d1]; exact I8.wr (by decide)
    have I4 : IKt (e + 1) 0 0 Y4 := by rw [d4]; exact I1.w (Or.inl (rw_lit (by omega) (by decide)))
    exact pw_bd (iv_Tokens_goTo I4) (fun _ X5 h5 => pw_ret h5)
  · intro _ X9 h9
    exact pw_mono (iv_Reader_readInto_58 BIG p3 0 X9 h9) (fun _ Y h => h.2.2.1)
/-- what the class's read leaves -/
def RC7 (ch : Tx) (e f : Nat) (X : St) (r : Int32) (Y : St) : Prop := ((∃ ps c, sParts ch 41 [] 0 [] = some (ps, c) ∧ sNames ch ps c ∧ r.toInt = (ps.length : Int) ∧ ¬ (Y.1 0 3).toInt = 0 ∧ (Y.2.2 0 9 = e + 1 ∧ Y.2.2 0 2 = f + 1) ∧ CRS e ch ps c Y) ∨ ((∀ ps c, sParts ch 41 [] 0 [] = some (ps, c) → ¬ sNames ch ps c) ∧ r.toInt = -1 ∧ Y.1 0 3 = X.1 0 3 ∧ (Y.2.2 0 9 = f + 1 ∧ Y.2.2 0 2 = e + 1))) ∧ TOK (e + 1) Y ∧ PGS f X Y
theorem l_read7 (he : e = 2 ∨ e = 24) (hf : f = 2 ∨ f = 24) (hT : TXT ch n) (h1 : (X.1 0 1).toInt = (n : Int)) (hb : ∀ i, i < n → (X.1 1 i &&& 255).toInt = ch i) (hK : TOK (e + 1) X) (r2 : X.2.2 0 2 = e + 1) (r9 : X.2.2 0 9 = f + 1) (hF : pw (g_Reader_readInto e 1 (X.1 0 1) X) (fun _ Y => (Y.2.2 0 2 = X.2.2 0 2 ∧ Y.2.2 0 9 = X.2.2 0 9) ∧ Y.1 0 3 = X.1 0 3 ∧ PGS f X Y)) : pw (g_Court_read X) (fun r Y => RC7 ch e f X r Y) := by
  unfold g_Court_read
  refine pw_ck (fun _ => pw_to (w := e) (by rw [r2]; rfl) (pw_let ?_))
  refine pw_bd (pw_and (pw_and (l_readInto he hT h1 hb hK) (l_readT he hK)) hF) ?_
  rintro _ X3 ⟨⟨hfin, hK3⟩, ⟨q2, q9⟩, q3, qf⟩
  refine pw_eq (fun X4 e4 => pw_eq (fun x5 e5 => pw_eq (fun X6 e6 => pw_let (pw_eq (fun X8 e8 => pw_eq (fun x9 e9 => ?_))))))
  have k9 : x9 = X3.1 46 3 := by rw [e9, e8, wI_ne _ _ _ _ _ _ (by omega), e6, wI_at, e5, e4, wI_ne _ _ _ _ _ _ (by omega)]
  have s8 : X8.2 = X3.2 := by rw [e8, e6, e4]; rfl
  have r8 : ∀ i k, ¬ (i = 0 ∧ (k = 1 ∨ k = 7 ∨ k = 8)) → X8.1 i k = X3.1 i k := fun i k hi => by rw [e8, wI_ne _ _ _ _ _ _ (by omega), e6, wI_ne _ _ _ _ _ _ (by omega), e4, wI_ne _ _ _ _ _ _ (by omega)]
  have tok : ∀ Y : St, (∀ i k, ¬ i = 0 → Y.1 i k = X3.1 i k) → TOK (e + 1) Y := fun Y hY => by
    obtain ⟨ks, t1, t2⟩ := hK3
    exact ⟨ks, t1.cg (fun j k a b _ => hY j k (by omega)), t2⟩
  have pgs : ∀ Y : St, (∀ i k, ¬ i = 0 → Y.1 i k = X3.1 i k) → Y.2.1 = X3.2.1 → PGS f X Y := fun Y hY h2 => ⟨fun j k q qz => (hY j k (by omega)).trans (qf.1 j k q qz), fun k => by rw [h2]; exact qf.2 k⟩
  rw [k9]
  have bad : (∀ ps c, sParts ch 41 [] 0 [] = some (ps, c) → ¬ sNames ch ps c) → pw (some ((-1 : Int32), X8)) (fun r Y => RC7 ch e f X r Y) := fun h => by
    refine pw_ret ⟨Or.inr ⟨h, by decide, by rw [r8 0 3 (by omega)]; exact q3, by rw [s8, q9, r9], by rw [s8, q2, r2]⟩, tok X8 (fun i k z => r8 i k (by omega)), pgs X8 (fun i k z => r8 i k (by omega)) (by rw [s8])⟩
  unfold FINq at hfin
  cases hs : sParts ch 41 [] 0 [] with
  | none =>
    rw [hs] at hfin
    have hd : fd X3 := hfin
    refine pw_neg hd (bad (fun ps c g => ?_))
    rw [hs] at g
    exact absurd g.symm (Option.some_ne_none _)
  | some a =>
    rw [hs] at hfin
    obtain ⟨hR, _, _⟩ := hfin
    rcases hR with ⟨s, hRS, _⟩ | ⟨s, hd⟩
    · have h0 : (X3.1 46 3).toInt = 0 := hRS.2.1
      refine pw_pos h0 ?_
      have z2 : X8.2.2 0 2 = e + 1 := by rw [s8, q2, r2]
      have z9 : X8.2.2 0 9 = f + 1 := by rw [s8, q9, r9]
      refine pw_ck (fun _ => pw_to (w := f) (by rw [z9]; rfl) (pw_ck (fun _ => pw_to (w := e) (by rw [z2]; rfl) ?_)))
      refine pw_eq (fun X12 e12 => pw_eq (fun X13 e13 => pw_eq (fun X14 e14 => pw_eq (fun X15 e15 => pw_eq (fun X16 e16 => ?_)))))
      have z16 : X16.2.2 0 9 = e + 1 := by
        rw [e16, e15, e14]
        show X13.2.2 0 9 = e + 1
        rw [e13, wR_se, if_neg (by omega), e12, wR_se, if_pos rfl]
      have y16 : X16.2.2 0 2 = f + 1 := by
        rw [e16, e15, e14]
        show X13.2.2 0 2 = f + 1
        rw [e13, wR_se, if_pos rfl]
      have r16 : ∀ i k, ¬ i = 0 → X16.1 i k = X3.1 i k := fun i k z => by
        rw [e16, wI_ne _ _ _ _ _ _ (by omega), e15, wI_ne _ _ _ _ _ _ (by omega), e14, wI_ne _ _ _ _ _ _ (by omega), e13, e12]
        exact r8 i k (by omega)
      have s16 : X16.2.1 = X3.2.1 := by
        rw [e16, e15, e14, e13, e12]
        show X8.2.1 = _
        rw [s8]
      have k3 : (X16.1 0 3).toInt = 1 := by
        rw [e16, wI_ne _ _ _ _ _ _ (by omega), e15, wI_ne _ _ _ _ _ _ (by omega), e14, wI_at]
        decide
      refine pw_ck (fun _ => pw_to (w := e) (by rw [z16]; rfl) (pw_let (pw_ret ⟨Or.inl ⟨a.1, a.2, hs, s, ?_, by omega, ⟨z16, y16⟩, hRS.crs.fr (fun j k q => r16 j k (by omega)) (fun k => by rw [s16])⟩, tok X16 r16, pgs X16 r16 s16⟩)))
      rw [r16 e 1 (by omega)]
      exact hRS.2.2.1.1
    · refine pw_neg hd (bad (fun ps c g => ?_))
      rw [hs] at g
      have e1 := Option.some.inj g
      rw [show ps = a.1 from (congrArg Prod.fst e1).symm, show c = a.2 from (congrArg Prod.snd e1).symm]
      exact s
/-- a call that leaves the program -/
theorem CP7.fr (h : CP7 e ch ps told c X) (r0 : ∀ j k, e ≤ j ∧ j ≤ e + 21 → (j ≤ e + 1 → k ≤ 20) → Y.1 j k = X.1 j k) : CP7 e ch ps told c Y := by
  have r : ∀ j k, e ≤ j ∧ j ≤ e + 21 ∧ (j ≤ e + 1 → k ≤ 20) → Y.1 j k = X.1 j k := fun j k z => r0 j k ⟨z.1, z.2.1⟩ z.2.2
  obtain ⟨m, kt, ksP, ⟨a1, a2, a3⟩, ⟨b1, b2, b3, b4⟩, ⟨c1, c2, c3, c4, c5⟩, d, g⟩ := h
  refine ⟨m, kt, ksP, ⟨fun i a ha => ?_, fun k hk => by rw [r _ _ (by omega)]; exact a2 k hk, a3⟩, ⟨fun k p hk => ?_, by rw [r _ _ (by omega)]; exact b2, by rw [r _ _ (by omega)]; exact b3, fun k p hk => ?_⟩, ⟨c1.cg (fun j k q1 q2 _ => r j k (by omega)), c2, c3, by rw [r _ _ (by omega)]; exact c4, c5⟩, d, g⟩
  · rw [r (e + 18) _ (by omega), r (e + 21) _ (by omega), r (e + 19) _ (by omega)]
    exact a1 i a ha
  · rw [r (e + 13) _ (by omega), r (e + 17) _ (by omega)]
    exact b1 k p hk
  · obtain ⟨q1, q2⟩ := b4 k p hk
    exact ⟨fun i hi => by rw [r (e + 14) _ (by omega)]; exact q1 i hi, by rw [r (e + 15) _ (by omega)]; exact q2⟩
theorem CP7.tok (h : CP7 e ch ps told c X) : TOK (e + 1) X := by
  obtain ⟨m, kt, ksP, _, _, ⟨c1, c2, _⟩, ⟨d1, _⟩, _⟩ := h
  exact ⟨ksP, c1, d1.trans c2⟩
/-- a part is told or not -/
theorem CP7.tell {p : Nat} {v : Int32} {b : Bool} (h : CP7 e ch ps told c X) (hv : v.toInt = 0 ↔ ¬ b = true) : CP7 e ch ps (fun k => if k = p then b else told k) c (wI X (e + 16) p v) := by
  obtain ⟨m, kt, ksP, ⟨a1, a2, a3⟩, ⟨b1, b2, b3, b4⟩, ⟨c1, c2, c3, c4, c5⟩, d, g⟩ := h
  have r : ∀ j k, ¬ j = e + 16 → (wI X (e + 16) p v).1 j k = X.1 j k := fun j k z => wI_ne _ _ _ _ _ _ (by omega)
  refine ⟨m, kt, ksP, ⟨fun i a ha => ?_, fun k hk => ?_, a3⟩, ⟨fun k p hk => ?_, by rw [r _ _ (by omega)]; exact b2, by rw [r _ _ (by omega)]; exact b3, fun k p hk => ?_⟩, ⟨c1.cg (fun j k q1 q2 _ => r j k (by omega)), c2, c3, by rw [r _ _ (by omega)]; exact c4, c5⟩, d, g⟩
  · rw [r (e + 18) _ (by omega), r (e + 21) _ (by omega), r (e + 19) _ (by omega)]
    exact a1 i a ha
  · show ((wI X (e + 16) p v).1 (e + 16) k).toInt = 0 ↔ ¬ (if k = p then b else told k) = true
    by_cases z : k = p
    · rw [if_pos z, z, wI_at]
      exact hv
    · rw [if_neg z, wI_ne _ _ _ _ _ _ (by omega)]
      exact a2 k hk
  · rw [r (e + 13) _ (by omega), r (e + 17) _ (by omega)]
    exact b1 k p hk
  · obtain ⟨q1, q2⟩ := b4 k p hk
    exact ⟨fun i hi => by rw [r (e + 14) _ (by omega)]; exact q1 i hi, by rw [r (e + 15) _ (by omega)]; exact q2⟩
theorem l_judge7 (he : (e = 2 ∧ f = 24) ∨ (e = 24 ∧ f = 2)) (r9 : X.2.2 0 9 = e + 1) (h3 : ¬ (X.1 0 3).toInt = 0) (hP : CP7 e ch ps told c X) (hC : CPC ch W ps c po) (hb0 : wks 0 c ≤ 3000) (hb1 : wks 1 c ≤ 3000) : pw (g_Court_judge X) (fun r Y => JAq ch ps told c r ∧ CP7 e ch ps told c Y ∧ PGS f X Y) := by
  have he2 : e = 2 ∨ e = 24 := by omega
  obtain ⟨m, kt, ksP, a1, a2, ⟨c1, c2, c3, c4, c5⟩, ⟨d1, d2⟩, g⟩ := hP
  have hml : m ≤ ksP.length := by rw [← c3]; exact c2.length_le
  have hkt : kt = ksP.take m := by
    obtain ⟨l, hl⟩ := c2
    rw [← hl, ← c3, List.take_left]
  unfold g_Court_judge
  refine pw_eq (fun X1 e1 => pw_eq (fun X2 e2 => pw_eq (fun X3 e3 => pw_eq (fun x4 e4 => ?_))))
  have r3 : ∀ i k, ¬ i = 0 → X3.1 i k = X.1 i k := fun i k z => by rw [e3, wI_ne _ _ _ _ _ _ (by omega), e2, wI_ne _ _ _ _ _ _ (by omega), e1, wI_ne _ _ _ _ _ _ (by omega)]
  have s3 : X3.2 = X.2 := by rw [e3, e2, e1]; rfl
  have k3 : X3.1 0 3 = X.1 0 3 := by rw [e3, wI_ne _ _ _ _ _ _ (by omega), e2, wI_ne _ _ _ _ _ _ (by omega), e1, wI_ne _ _ _ _ _ _ (by omega)]
  have a13 : CPRr e ch X3 ps told c kt := by
    obtain ⟨y1, y2, y3⟩ := a1
    exact ⟨fun i a ha => by rw [r3 (e + 18) _ (by omega), r3 (e + 21) _ (by omega), r3 (e + 19) _ (by omega)]; exact y1 i a ha, fun k hk => by rw [r3 _ _ (by omega)]; exact y2 k hk, y3⟩
  have a23 : CPP e X3 ps c kt := by
    obtain ⟨b1, b2, b3, b4⟩ := a2
    refine ⟨fun k p hk => ?_, by rw [r3 _ _ (by omega)]; exact b2, by rw [r3 _ _ (by omega)]; exact b3, fun k p hk => ?_⟩
    · rw [r3 (e + 13) _ (by omega), r3 (e + 17) _ (by omega)]
      exact b1 k p hk
    · obtain ⟨q1, q2⟩ := b4 k p hk
      exact ⟨fun i hi => by rw [r3 (e + 14) _ (by omega)]; exact q1 i hi, by rw [r3 (e + 15) _ (by omega)]; exact q2⟩
  refine pw_neg (by rw [e4, k3]; exact h3) (pw_ck (fun _ => pw_to (w := e) (by rw [s3, r9]; rfl) (pw_bd (l_judgeAll (W := W) (m := m) (ksP := ksP) he2 a13 a23 hC (c1.cg (fun j k q1 q2 _ => r3 j k (by omega))) hkt (by rw [r3 e 5 (by omega)]; exact c4) c5 hml d1 d2 hb0 hb1 g) ?_)))
  rintro _ X6 ⟨X4, q1, q2, q3, rr, ks1, y1, y2, y3⟩
  rw [Nat.sub_zero] at y1
  -- what stands after it
  have T6 : CJT e X4 X6 ks1 := by
    cases rr with
    | inl G => exact y3.1.1
    | inr ff => exact y3.1
  have rest : ∀ Y : St, (∀ i k, ¬ i = 0 → Y.1 i k = X6.1 i k) → Y.2.1 = X6.2.1 → CP7 e ch ps told c Y ∧ PGS f X Y := by
    intro Y hY h2
    have rX : ∀ i k, ¬ i = 0 → ¬ (e + 1 ≤ i ∧ i ≤ e + 8) → ¬ i = e + 20 → ¬ (55 ≤ i ∧ i ≤ 69) → Y.1 i k = X.1 i k := fun i k z0 z1 z2 z3 => by
      rw [hY i k z0, T6.1.2 i k z1 z2 z3, q1]
      exact r3 i k z0
    refine ⟨⟨m, kt, ks1, ?_, ?_, ⟨T6.2.1.cg (fun j k b1 b2 _ => hY j k (by omega)), y2, c3, by rw [rX e 5 (by omega) (by omega) (by omega) (by omega)]; exact c4, c5⟩, ⟨d1, d2⟩, g⟩, fun j k q _ => rX j k (by omega) (by omega) (by omega) (by omega), fun k => ?_⟩
    · obtain ⟨y1, y2, y3⟩ := a1
      exact ⟨fun i a ha => by rw [rX (e + 18) _ (by omega) (by omega) (by omega) (by omega), rX (e + 21) _ (by omega) (by omega) (by omega) (by omega), rX (e + 19) _ (by omega) (by omega) (by omega) (by omega)]; exact y1 i a ha, fun k hk => by rw [rX _ _ (by omega) (by omega) (by omega) (by omega)]; exact y2 k hk, y3⟩
    · obtain ⟨b1, b2, b3, b4⟩ := a2
      refine ⟨fun k p hk => ?_, by rw [rX _ _ (by omega) (by omega) (by omega) (by omega)]; exact b2, by rw [rX _ _ (by omega) (by omega) (by omega) (by omega)]; exact b3, fun k p hk => ?_⟩
      · rw [rX (e + 13) _ (by omega) (by omega) (by omega) (by omega), rX (e + 17) _ (by omega) (by omega) (by omega) (by omega)]
        exact b1 k p hk
      · obtain ⟨q1, q2⟩ := b4 k p hk
        exact ⟨fun i hi => by rw [rX (e + 14) _ (by omega) (by omega) (by omega) (by omega)]; exact q1 i hi, by rw [rX (e + 15) _ (by omega) (by omega) (by omega) (by omega)]; exact q2⟩
    · rw [h2, T6.1.1, q2, s3]
  refine pw_eq (fun x7 e7 => pw_eq (fun X8 e8 => pw_eq (fun x9 e9 => pw_eq (fun X10 e10 => pw_eq (fun x11 e11 => ?_)))))
  have v11 : x11 = X6.1 61 4 := by rw [e11, e10, wI_ne _ _ _ _ _ _ (by omega), e8, wI_at, e7]
  have r10 : ∀ i k, ¬ i = 0 → X10.1 i k = X6.1 i k := fun i k z => by rw [e10, wI_ne _ _ _ _ _ _ (by omega), e8, wI_ne _ _ _ _ _ _ (by omega)]
  have s10 : X10.2.1 = X6.2.1 := by rw [e10, e8]; rfl
  have fin : ∀ b0 : Int32, (b0.toInt = 0 → ∃ ff, rr = Sum.inr ff) → (¬ b0.toInt = 0 → ∃ G, rr = Sum.inl G) → pw (g_Court_judge_74 b0 X10) (fun r Y => JAq ch ps told c r ∧ CP7 e ch ps told c Y ∧ PGS f X Y) := fun b0 z0 z1 => by
    unfold g_Court_judge_74
    refine pw_ck (fun _ => pw_eq (fun X12 e12 => pw_eq (fun x13 e13 => ?_)))
    have v13 : x13 = b0 := by rw [e13, e12, wI_at]
    have r12 : ∀ i k, ¬ i = 0 → X12.1 i k = X6.1 i k := fun i k z => by rw [e12, wI_ne _ _ _ _ _ _ (by omega)]; exact r10 i k z
    have s12 : X12.2.1 = X6.2.1 := by rw [e12]; exact s10
    refine pw_ite (fun c13 => ?_) (fun c13 => ?_)
    · rw [v13] at c13
      obtain ⟨ff, hf⟩ := z0 c13
      exact pw_ret ⟨⟨rr, y1, Or.inr ⟨ff, hf, by decide⟩⟩, rest X12 r12 s12⟩
    · rw [v13] at c13
      obtain ⟨G, hG⟩ := z1 c13
      rw [hG] at y3
      have y3 : CG e ps told X4 X6 ks1 G.1 := y3
      refine pw_eq (fun x14 e14 => pw_ret ⟨⟨rr, y1, Or.inl ⟨G, hG, ?_⟩⟩, rest X12 r12 s12⟩)
      rw [e14, r12 55 5 (by omega)]
      exact y3.2.2.1
  rw [v11]
  cases rr with
  | inl G =>
    have y3 : CG e ps told X4 X6 ks1 G.1 := y3
    exact pw_pos y3.2.1 (fin 1 (fun z => absurd z (by decide)) (fun _ => ⟨G, rfl⟩))
  | inr ff =>
    have y3 : CJT e X4 X6 ks1 ∧ (X6.1 61 4).toInt = ff.1 ∧ (X6.1 61 5).toInt = ff.2 ∧ ¬ ff.1 = 0 := y3
    exact pw_neg (by rw [y3.2.1]; exact y3.2.2.2) (fin 0 (fun _ => ⟨ff, rfl⟩) (fun z => absurd (by decide) z))
end CL7S
