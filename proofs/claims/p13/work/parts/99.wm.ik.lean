/-! whatever the class reads, its table of kinds is sound -/
def IKt (o c d : Nat) (X : St) : Prop := (X.2.2 46 1 = o ∧ (o = 3 ∨ o = 25)) ∧ ((c : Int) ≤ (X.1 o 0).toInt ∧ (d : Int) ≤ (X.1 46 6).toInt ∧ (X.1 46 6).toInt ≤ 164) ∧ (∃ ks, TKS o X ks ∧ K9 <+: ks) ∧ ∀ i : Nat, (i : Int) < (X.1 46 6).toInt → 0 ≤ (X.1 54 i).toInt ∧ (X.1 54 i).toInt < (X.1 o 0).toInt
/-- a row that is no row of the kinds -/
def RWo (o r : Nat) : Prop := ¬ (o ≤ r ∧ r ≤ o + 7) ∧ ¬ r = 54 ∧ ¬ r = 46
def PEo (o e : Nat) : Prop := e + 1 = o ∧ (o = 3 ∨ o = 25)
theorem PEo.rw {o e : Nat} (h : PEo o e) : RWo o e := ⟨by have := h.1; omega, by have := h; unfold PEo at this; omega, by have := h; unfold PEo at this; omega⟩
theorem PEo.ky {o e : Nat} (h : PEo o e) {k : Nat} (hk : k ∈ [3, 4, 7, 8, 9, 10, 11, 12, 13, 14, 15, 16]) : RWo o (kY YC e k - 3) := by
  obtain ⟨h1, h2⟩ := h
  have all : ∀ e ∈ [2, 24], ∀ k ∈ [3, 4, 7, 8, 9, 10, 11, 12, 13, 14, 15, 16], ¬ (e + 1 ≤ kY YC e k - 3 ∧ kY YC e k - 3 ≤ e + 8) ∧ ¬ kY YC e k - 3 = 54 ∧ ¬ kY YC e k - 3 = 46 := by decide +kernel
  have := all e (by
    rcases h2 with g | g
    · rw [show e = 2 by omega]; decide
    · rw [show e = 24 by omega]; decide) k hk
  unfold RWo
  omega
theorem PEo.kd {o e : Nat} (h : PEo o e) : kY YC e 0 - 3 = o := by
  obtain ⟨h1, h2⟩ := h
  rcases h2 with g | g
  · rw [g, show e = 2 by omega]; decide +kernel
  · rw [g, show e = 24 by omega]; decide +kernel
theorem rw_lit {o r : Nat} (h : o = 3 ∨ o = 25) (g : r ∈ [47, 49, 50, 51, 52, 53]) : RWo o r := by
  simp only [List.mem_cons, List.not_mem_nil, or_false] at g
  unfold RWo
  omega
section IKS
variable {o c d : Nat} {X Y : St}
theorem IKt.pe (h : IKt o c d X) : PEo o (X.2.2 46 1 - 1) := ⟨by have := h.1; omega, h.1.2⟩
theorem IKt.cg (h : IKt o c d X) (h2 : Y.2.2 46 1 = X.2.2 46 1) (hk : ∀ e k, (o ≤ e ∧ e ≤ o + 7) ∨ e = 54 ∨ (e = 46 ∧ k = 6) → Y.1 e k = X.1 e k) : IKt o c d Y := by
  obtain ⟨a, b, ⟨ks, c1, c2⟩, f⟩ := h
  refine ⟨by rw [h2]; exact a, by rw [hk o 0 (by omega), hk 46 6 (by omega)]; exact b, ⟨ks, c1.cg (fun e k q1 q2 _ => hk e k (by omega)), c2⟩, ?_⟩
  rw [hk 46 6 (by omega), hk o 0 (by omega)]
  intro i hi
  rw [hk 54 i (by omega)]
  exact f i hi
theorem IKt.w (h : IKt o c d X) {e k : Nat} {v : Int32} (g : RWo o e ∨ (e = 46 ∧ ¬ k = 6)) : IKt o c d (wI X e k v) := h.cg rfl (fun e1 k1 q => wI_ne _ _ _ _ _ _ (by
  have := h.1.2
  unfold RWo at g
  omega))
theorem IKt.wl (h : IKt o c d X) {e k : Nat} {v : Int64} : IKt o c d (wL X e k v) := h.cg rfl (fun _ _ _ => rfl)
theorem IKt.wr (h : IKt o c d X) {e k r : Nat} (g : ¬ (e = 46 ∧ k = 1)) : IKt o c d (wR X e k r) := h.cg (by
  show uA X.2.2 e (fun j => if j = k then r else X.2.2 e j) 46 1 = X.2.2 46 1
  by_cases q : 46 = e
  · rw [← q, uA_at, if_neg (by omega)]
  · rw [uA_ne _ _ _ q]) (fun _ _ _ => rfl)
theorem IKt.up {c1 d1 : Nat} (h : IKt o c d X) (hc : (c1 : Int) ≤ (X.1 o 0).toInt) (hd : (d1 : Int) ≤ (X.1 46 6).toInt) : IKt o c1 d1 X := ⟨h.1, ⟨hc, hd, h.2.1.2.2⟩, h.2.2⟩
/-- a kind's number that is right -/
def VKo (o : Nat) (r : Int32) (Y : St) : Prop := 0 ≤ r.toInt ∧ r.toInt < (Y.1 o 0).toInt
theorem IKt.nine (h : IKt o c d X) : 9 ≤ (X.1 o 0).toInt := by
  obtain ⟨_, _, ⟨ks, h1, l, rfl⟩, _⟩ := h
  have := h1.1.1
  rw [List.length_append] at this
  have e : K9.length = 9 := rfl
  omega
/-- after a kind has been made -/
theorem IKt.mk {ks : List (List Int)} {x : List Int} {r : Int32} (h : IKt o c d X) (hT : TKS o X ks) (h9 : K9 <+: ks) (g : kkQ o X ks x r Y ∨ (1549 ≤ ks.length ∧ r = 2 ∧ Y = X)) : IKt o c d Y ∧ VKo o r Y := by
  have n9 := h.nine
  have hn := h.1.2
  rcases g with ⟨ks1, t1, t2, ⟨j, t3, t4⟩, t5, t6⟩ | ⟨_, h1, h2⟩
  · have px : ks <+: ks1 := by
      rcases t2 with t2 | ⟨_, t2⟩
      · rw [t2]; exact List.prefix_rfl
      · rw [t2]; exact List.prefix_append _ _
    have hl : ks.length ≤ ks1.length := px.length_le
    have a1 := hT.1.1
    have a2 := t1.1.1
    have hj := (List.getElem?_eq_some_iff.mp t4).1
    obtain ⟨b1, b2, b3, b4⟩ := h
    have k6 : Y.1 46 6 = X.1 46 6 := t6 46 6 (by omega)
    refine ⟨⟨by rw [t5]; exact b1, ⟨by omega, by rw [k6]; exact b2.2.1, by rw [k6]; exact b2.2.2⟩, ⟨ks1, t1, h9.trans px⟩, fun i hi => ?_⟩, by omega, by omega⟩
    rw [k6] at hi
    have := b4 i hi
    rw [t6 54 i (by omega)]
    omega
  · rw [h2, h1]
    exact ⟨h, by show (0 : Int) ≤ 2; omega, by show (2 : Int) < _; omega⟩
theorem ivk_rowOf {e : Nat} (he : e = o) (h : IKt o c d X) {p : Int32} (hp : VKo o p X) : pw (g_Kinds_rowOf e p X) (fun r Y => IKt o c d Y ∧ VKo o r Y) := by
  subst he
  obtain ⟨ks, h1, h2⟩ := h.2.2.1
  have hl : ix p < ks.length := by
    have := h1.1.1
    have := ixc hp.1
    have := hp.2
    omega
  exact pw_mono (kk_rowOfF h.1.2 h1 (ixc hp.1).symm (List.getElem?_eq_getElem hl)) (fun r Y g => h.mk h1 h2 g)
theorem ivk_functionOf {e : Nat} (he : e = o) (h : IKt o c d X) {p2 p3 p4 : Int32} {f : Nat} (h2 : p2.toInt = (f : Int)) (hf : (f : Int) ≤ (X.1 46 6).toInt) (h3 : p3.toInt = (X.1 46 6).toInt - f) (hp : VKo o p4 X) : pw (g_Kinds_functionOf e 54 p2 p3 p4 X) (fun r Y => IKt o c d Y ∧ VKo o r Y) := by
  subst he
  have n9 := h.nine
  have two : VKo e (2 : Int32) X := ⟨by decide, by show (2 : Int) < _; omega⟩
  have l6 := h.2.1.2.2
  by_cases h4 : p3.toInt ≤ 4
  · obtain ⟨ks, g1, g2⟩ := h.2.2.1
    have hl := g1.1.1
    have lt : ∀ v : Int32, VKo e v X → ks[ix v]? = some (ks.getD (ix v) []) := fun v hv => by
      have : ix v < ks.length := by
        have := ixc hv.1
        have := hv.2
        omega
      rw [List.getD_eq_getElem?_getD, List.getElem?_eq_getElem this]
      rfl
    have hz : zY YC 54 = 164 := by decide +kernel
    have hlen : ((List.range p3.toInt.toNat).map (fun i => ks.getD (ix (X.1 54 (f + i))) [])).length = p3.toInt.toNat := by rw [List.length_map, List.length_range]
    refine pw_mono (kk_functionOfF h.1.2 (ds := (List.range p3.toInt.toNat).map (fun i => ks.getD (ix (X.1 54 (f + i))) [])) g1 h2 (by omega) (by rw [hlen]; omega) (by rw [hlen]; omega) (by rw [hlen, hz]; omega) (by have := h.1.2; omega) (ixc hp.1).symm (lt p4 hp) (fun i x hx => ?_)) (fun r Y g => h.mk g1 g2 g)
    rw [List.getElem?_map] at hx
    have hi : i < p3.toInt.toNat := by
      refine Classical.byContradiction (fun z => ?_)
      rw [List.getElem?_eq_none (by rw [List.length_range]; omega)] at hx
      exact Option.some_ne_none _ hx.symm
    rw [List.getElem?_range hi] at hx
    have hx : some (ks.getD (ix (X.1 54 (f + i))) []) = some x := hx
    rw [← Option.some.inj hx]
    have v := h.2.2.2 (f + i) (by omega)
    exact ⟨ix (X.1 54 (f + i)), (ixc v.1).symm, lt _ v⟩
  · unfold g_Kinds_functionOf
    exact pw_neg (by omega) (pw_pos (by omega) (pw_ret ⟨h, two⟩))
end IKS
section IKR
variable {o : Nat}
theorem iv_Program_partOfName_2 {c d : Nat} (N : Nat) : ∀ (e_0 : Nat) (l_1 : Int64) (a_3 : Int32) (X : St), PEo o e_0 → IKt o c d X → pw (g_Program_partOfName_2 N e_0 l_1 a_3 X) (fun _ Y => IKt o c d Y) := by
  unfold g_Program_partOfName_2
  refine lp_ind (P := fun (r : Nat → Int64 → Int32 → St → Option (Int32 × St)) => ∀ (e_0 : Nat) (l_1 : Int64) (a_3 : Int32) (X : St), PEo o e_0 → IKt o c d X → pw (r e_0 l_1 a_3 X) (fun _ Y => IKt o c d Y)) (fun _ _ _ _ _ _ => pw_none) (fun r ih e_0 l_1 a_3 X p_e_0 h => ?_) N
  unfold g_Program_partOfName_2_s
  refine pw_eq (fun x1 _ => ?_)
  refine pw_ite (fun _ => ?_) (fun _ => ?_)
  · exact pw_ret h
  · refine pw_eq (fun e2 ee2 => ?_)
    have rw_e2 : RWo o e2 := by rw [ee2]; exact p_e_0.ky (by decide)
    refine pw_ck (fun _ => ?_)
    refine pw_eq (fun y3 _ => ?_)
    refine pw_eq (fun x4 _ => ?_)
    refine pw_ite (fun _ => ?_) (fun _ => ?_)
    · exact pw_ret h
    · refine pw_eq (fun x5 _ => ?_)
      exact ih _ _ _ _ p_e_0 h
theorem iv_Program_partOfName {c d : Nat} {o0 : Nat} {q1 : Int64} (p_o0 : PEo o o0) {X : St} (h : IKt o c d X) : pw (g_Program_partOfName o0 q1 X) (fun _ Y => IKt o c d Y) := by
  unfold g_Program_partOfName
  exact iv_Program_partOfName_2 _ _ _ _ _ p_o0 h
theorem iv_Program_paramsOf {c d : Nat} {o0 : Nat} {p1 : Int32} (p_o0 : PEo o o0) {X : St} (h : IKt o c d X) : pw (g_Program_paramsOf o0 p1 X) (fun _ Y => IKt o c d Y) := by
  unfold g_Program_paramsOf
  refine pw_ite (fun _ => ?_) (fun _ => ?_)
  · exact pw_ret h
  · refine pw_eq (fun x1 _ => ?_)
    refine pw_ite (fun _ => ?_) (fun _ => ?_)
    · exact pw_ret h
    · refine pw_eq (fun e2 ee2 => ?_)
      have rw_e2 : RWo o e2 := by rw [ee2]; exact p_o0.ky (by decide)
      refine pw_ck (fun _ => ?_)
      refine pw_eq (fun x3 _ => ?_)
      exact pw_ret h
theorem iv_Program_emit {c d : Nat} {o0 : Nat} {p1 : Int32} {p2 : Int32} {p3 : Int32} (p_o0 : PEo o o0) {X : St} (h : IKt o c d X) : pw (g_Program_emit o0 p1 p2 p3 X) (fun _ Y => IKt o c d Y) := by
  unfold g_Program_emit
  refine pw_eq (fun x1 _ => ?_)
  refine pw_ite (fun _ => ?_) (fun _ => ?_)
  · refine pw_eq (fun e2 ee2 => ?_)
    have rw_e2 : RWo o e2 := by rw [ee2]; exact p_o0.ky (by decide)
    refine pw_eq (fun x3 _ => ?_)
    refine pw_ck (fun _ => ?_)
    refine pw_eq (fun X4 eX4 => ?_)
    have dX4 : IKt o c d X4 := by rw [eX4]; exact h.w (Or.inl rw_e2)
    refine pw_eq (fun e5 ee5 => ?_)
    have rw_e5 : RWo o e5 := by rw [ee5]; exact p_o0.ky (by decide)
    refine pw_eq (fun x6 _ => ?_)
    refine pw_ck (fun _ => ?_)
    refine pw_eq (fun X7 eX7 => ?_)
    have dX7 : IKt o c d X7 := by rw [eX7]; exact dX4.w (Or.inl rw_e5)
    refine pw_eq (fun e8 ee8 => ?_)
    have rw_e8 : RWo o e8 := by rw [ee8]; exact p_o0.ky (by decide)
    refine pw_eq (fun x9 _ => ?_)
    refine pw_ck (fun _ => ?_)
    refine pw_eq (fun X10 eX10 => ?_)
    have dX10 : IKt o c d X10 := by rw [eX10]; exact dX7.w (Or.inl rw_e8)
    refine pw_eq (fun e11 ee11 => ?_)
    have rw_e11 : RWo o e11 := by rw [ee11]; exact p_o0.ky (by decide)
    refine pw_eq (fun x12 _ => ?_)
    refine pw_ck (fun _ => ?_)
    refine pw_eq (fun X13 eX13 => ?_)
    have dX13 : IKt o c d X13 := by rw [eX13]; exact dX10.w (Or.inl rw_e11)
    refine pw_eq (fun x14 _ => ?_)
    refine pw_eq (fun x15 _ => ?_)
    refine pw_eq (fun X16 eX16 => ?_)
    have dX16 : IKt o c d X16 := by rw [eX16]; exact dX13.w (Or.inl p_o0.rw)
    refine pw_eq (fun x17 _ => ?_)
    refine pw_eq (fun x18 _ => ?_)
    exact pw_ret dX16
  · exact pw_ret h
theorem iv_Tokens_byteAt {c d : Nat} {p1 : Int32} {X : St} (h : IKt o c d X) : pw (g_Tokens_byteAt p1 X) (fun _ Y => IKt o c d Y) := by
  unfold g_Tokens_byteAt
  refine pw_ite (fun _ => ?_) (fun _ => ?_)
  · exact pw_ret h
  · refine pw_eq (fun x1 _ => ?_)
    refine pw_ite (fun _ => ?_) (fun _ => ?_)
    · exact pw_ret h
    · refine pw_ck (fun _ => ?_)
      refine pw_eq (fun e2 _ => ?_)
      refine pw_ck (fun _ => ?_)
      refine pw_eq (fun x3 _ => ?_)
      refine pw_eq (fun x4 _ => ?_)
      exact pw_ret h
theorem iv_Tokens_isLetter_12 {c d : Nat} {a_0 : Int32} {X : St} (h : IKt o c d X) : pw (g_Tokens_isLetter_12 a_0 X) (fun _ Y => IKt o c d Y) := by
  unfold g_Tokens_isLetter_12
  refine pw_ite (fun _ => ?_) (fun _ => ?_)
  · exact pw_ret h
  · refine pw_ite (fun _ => ?_) (fun _ => ?_)
    · exact pw_ret h
    · exact pw_ret h
theorem iv_Tokens_isLetter {c d : Nat} {p0 : Int32} {X : St} (h : IKt o c d X) : pw (g_Tokens_isLetter p0 X) (fun _ Y => IKt o c d Y) := by
  unfold g_Tokens_isLetter
  refine pw_ite (fun _ => ?_) (fun _ => ?_)
  · exact iv_Tokens_isLetter_12 h
  · refine pw_ite (fun _ => ?_) (fun _ => ?_)
    · exact pw_ret h
    · exact iv_Tokens_isLetter_12 h
theorem iv_Tokens_wordType_2 {c d : Nat} (N : Nat) : ∀ (a_1 : Int32) (X : St), IKt o c d X → pw (g_Tokens_wordType_2 N a_1 X) (fun _ Y => IKt o c d Y) := by
  unfold g_Tokens_wordType_2
  refine lp_ind (P := fun (r : Int32 → St → Option (Int32 × St)) => ∀ (a_1 : Int32) (X : St), IKt o c d X → pw (r a_1 X) (fun _ Y => IKt o c d Y)) (fun _ _ _ => pw_none) (fun r ih a_1 X h => ?_) N
  unfold g_Tokens_wordType_2_s
  refine pw_ite (fun _ => ?_) (fun _ => ?_)
  · exact pw_ret h
  · refine pw_ck (fun _ => ?_)
    refine pw_eq (fun y1 _ => ?_)
    refine pw_eq (fun y2 _ => ?_)
    refine pw_eq (fun x3 _ => ?_)
    refine pw_ite (fun _ => ?_) (fun _ => ?_)
    · refine pw_eq (fun x5 _ => ?_)
      exact pw_ret h
    · refine pw_eq (fun x4 _ => ?_)
      exact ih _ _ h
theorem iv_Tokens_wordType {c d : Nat} {X : St} (h : IKt o c d X) : pw (g_Tokens_wordType X) (fun _ Y => IKt o c d Y) := by
  unfold g_Tokens_wordType
  exact iv_Tokens_wordType_2 _ _ _ h
theorem iv_Tokens_takeWord_88 {c d : Nat} {b_0 : Int32} {X : St} (h : IKt o c d X) : pw (g_Tokens_takeWord_88 b_0 X) (fun _ Y => IKt o c d Y) := by
  unfold g_Tokens_takeWord_88
  refine pw_eq (fun X11 eX11 => ?_)
  have dX11 : IKt o c d X11 := by rw [eX11]; exact h.w (Or.inl (rw_lit h.1.2 (by decide)))
  exact pw_ret dX11
theorem iv_Tokens_takeWord_53 {c d : Nat} {a_1 : Int32} {X : St} (h : IKt o c d X) : pw (g_Tokens_takeWord_53 a_1 X) (fun _ Y => IKt o c d Y) := by
  unfold g_Tokens_takeWord_53
  refine pw_eq (fun X4 eX4 => ?_)
  have dX4 : IKt o c d X4 := by rw [eX4]; exact h.w (Or.inl (rw_lit h.1.2 (by decide)))
  refine pw_eq (fun x5 _ => ?_)
  refine pw_eq (fun x6 _ => ?_)
  refine pw_eq (fun X7 eX7 => ?_)
  have dX7 : IKt o c d X7 := by rw [eX7]; exact dX4.w (Or.inl (rw_lit dX4.1.2 (by decide)))
  refine pw_eq (fun x8 _ => ?_)
  refine pw_ite (fun _ => ?_) (fun _ => ?_)
  · refine pw_bd (iv_Tokens_wordType dX7) (fun x9 X10 dX10 => ?_)
    exact iv_Tokens_takeWord_88 dX10
  · exact iv_Tokens_takeWord_88 dX7
theorem iv_Tokens_takeWord_10 {c d : Nat} (N : Nat) : ∀ (a_1 : Int32) (X : St), IKt o c d X → pw (g_Tokens_takeWord_10 N a_1 X) (fun _ Y => IKt o c d Y) := by
  unfold g_Tokens_takeWord_10
  refine lp_ind (P := fun (r : Int32 → St → Option (Int32 × St)) => ∀ (a_1 : Int32) (X : St), IKt o c d X → pw (r a_1 X) (fun _ Y => IKt o c d Y)) (fun _ _ _ => pw_none) (fun r ih a_1 X h => ?_) N
  unfold g_Tokens_takeWord_10_s
  refine pw_eq (fun x3 _ => ?_)
  refine pw_ite (fun _ => ?_) (fun _ => ?_)
  · exact iv_Tokens_takeWord_53 h
  · refine pw_bd (iv_Tokens_byteAt h) (fun x12 X13 dX13 => ?_)
    refine pw_bd (iv_Tokens_isLetter dX13) (fun x14 X15 dX15 => ?_)
    refine pw_ite (fun _ => ?_) (fun _ => ?_)
    · exact iv_Tokens_takeWord_53 dX15
    · refine pw_eq (fun y16 _ => ?_)
      refine pw_eq (fun y17 _ => ?_)
      refine pw_bd (iv_Tokens_byteAt dX15) (fun x18 X19 dX19 => ?_)
      refine pw_eq (fun y20 _ => ?_)
      refine pw_eq (fun y21 _ => ?_)
      refine pw_eq (fun X22 eX22 => ?_)
      have dX22 : IKt o c d X22 := by rw [eX22]; exact dX19.wl
      refine pw_eq (fun x23 _ => ?_)
      exact ih _ _ dX22
theorem iv_Tokens_takeWord {c d : Nat} {X : St} (h : IKt o c d X) : pw (g_Tokens_takeWord X) (fun _ Y => IKt o c d Y) := by
  unfold g_Tokens_takeWord
  refine pw_eq (fun X1 eX1 => ?_)
  have dX1 : IKt o c d X1 := by rw [eX1]; exact h.wl
  refine pw_eq (fun x2 _ => ?_)
  exact iv_Tokens_takeWord_10 _ _ _ dX1
theorem iv_Tokens_isDigit {c d : Nat} {p0 : Int32} {X : St} (h : IKt o c d X) : pw (g_Tokens_isDigit p0 X) (fun _ Y => IKt o c d Y) := by
  unfold g_Tokens_isDigit
  refine pw_ite (fun _ => ?_) (fun _ => ?_)
  · exact pw_ret h
  · refine pw_ite (fun _ => ?_) (fun _ => ?_)
    · exact pw_ret h
    · exact pw_ret h
theorem iv_Tokens_takeNumber_83 {c d : Nat} {a_1 : Int32} {X : St} (h : IKt o c d X) : pw (g_Tokens_takeNumber_83 a_1 X) (fun _ Y => IKt o c d Y) := by
  unfold g_Tokens_takeNumber_83
  refine pw_eq (fun X4 eX4 => ?_)
  have dX4 : IKt o c d X4 := by rw [eX4]; exact h.w (Or.inl (rw_lit h.1.2 (by decide)))
  refine pw_eq (fun X5 eX5 => ?_)
  have dX5 : IKt o c d X5 := by rw [eX5]; exact dX4.w (Or.inl (rw_lit dX4.1.2 (by decide)))
  exact pw_ret dX5
theorem iv_Tokens_takeNumber_74 {c d : Nat} {r10 : Int32 → St → Option (Int32 × St)} (hr10 : ∀ (q0 : Int32) (X : St), IKt o c d X → pw (r10 q0 X) (fun _ Y => IKt o c d Y)) {a_1 : Int32} {m_0 : Int64} {X : St} (h : IKt o c d X) : pw (g_Tokens_takeNumber_74 r10 a_1 m_0 X) (fun _ Y => IKt o c d Y) := by
  unfold g_Tokens_takeNumber_74
  refine pw_eq (fun X21 eX21 => ?_)
  have dX21 : IKt o c d X21 := by rw [eX21]; exact h.wl
  refine pw_eq (fun x22 _ => ?_)
  exact hr10 _ _ dX21
theorem iv_Tokens_takeNumber_10 {c d : Nat} (N : Nat) : ∀ (a_1 : Int32) (X : St), IKt o c d X → pw (g_Tokens_takeNumber_10 N a_1 X) (fun _ Y => IKt o c d Y) := by
  unfold g_Tokens_takeNumber_10
  refine lp_ind (P := fun (r : Int32 → St → Option (Int32 × St)) => ∀ (a_1 : Int32) (X : St), IKt o c d X → pw (r a_1 X) (fun _ Y => IKt o c d Y)) (fun _ _ _ => pw_none) (fun r ih a_1 X h => ?_) N
  unfold g_Tokens_takeNumber_10_s
  refine pw_eq (fun x3 _ => ?_)
  refine pw_ite (fun _ => ?_) (fun _ => ?_)
  · exact iv_Tokens_takeNumber_83 h
  · refine pw_bd (iv_Tokens_byteAt h) (fun x6 X7 dX7 => ?_)
    refine pw_bd (iv_Tokens_isDigit dX7) (fun x8 X9 dX9 => ?_)
    refine pw_ite (fun _ => ?_) (fun _ => ?_)
    · exact iv_Tokens_takeNumber_83 dX9
    · refine pw_eq (fun y10 _ => ?_)
      refine pw_eq (fun y11 _ => ?_)
      refine pw_bd (iv_Tokens_byteAt dX9) (fun x12 X13 dX13 => ?_)
      refine pw_eq (fun y14 _ => ?_)
      refine pw_eq (fun y15 _ => ?_)
      refine pw_eq (fun y16 _ => ?_)
      refine pw_eq (fun X17 eX17 => ?_)
      have dX17 : IKt o c d X17 := by rw [eX17]; exact dX13.wl
      refine pw_eq (fun y18 _ => ?_)
      refine pw_eq (fun x19 _ => ?_)
      refine pw_ite (fun _ => ?_) (fun _ => ?_)
      · refine pw_eq (fun y20 _ => ?_)
        exact iv_Tokens_takeNumber_74 ih dX17
      · exact iv_Tokens_takeNumber_74 ih dX17
theorem iv_Tokens_takeNumber {c d : Nat} {X : St} (h : IKt o c d X) : pw (g_Tokens_takeNumber X) (fun _ Y => IKt o c d Y) := by
  unfold g_Tokens_takeNumber
  refine pw_eq (fun X1 eX1 => ?_)
  have dX1 : IKt o c d X1 := by rw [eX1]; exact h.wl
  refine pw_eq (fun x2 _ => ?_)
  exact iv_Tokens_takeNumber_10 _ _ _ dX1
theorem iv_Tokens_isSign {c d : Nat} {p0 : Int32} {X : St} (h : IKt o c d X) : pw (g_Tokens_isSign p0 X) (fun _ Y => IKt o c d Y) := by
  unfold g_Tokens_isSign
  refine pw_ite (fun _ => ?_) (fun _ => ?_)
  · exact pw_ret h
  · refine pw_ite (fun _ => ?_) (fun _ => ?_)
    · exact pw_ret h
    · refine pw_ite (fun _ => ?_) (fun _ => ?_)
      · exact pw_ret h
      · refine pw_ite (fun _ => ?_) (fun _ => ?_)
        · exact pw_ret h
        · refine pw_ite (fun _ => ?_) (fun _ => ?_)
          · exact pw_ret h
          · refine pw_ite (fun _ => ?_) (fun _ => ?_)
            · exact pw_ret h
            · refine pw_ite (fun _ => ?_) (fun _ => ?_)
              · exact pw_ret h
              · refine pw_ite (fun _ => ?_) (fun _ => ?_)
                · exact pw_ret h
                · refine pw_ite (fun _ => ?_) (fun _ => ?_)
                  · exact pw_ret h
                  · refine pw_ite (fun _ => ?_) (fun _ => ?_)
                    · exact pw_ret h
                    · refine pw_ite (fun _ => ?_) (fun _ => ?_)
                      · exact pw_ret h
                      · refine pw_ite (fun _ => ?_) (fun _ => ?_)
                        · exact pw_ret h
                        · refine pw_ite (fun _ => ?_) (fun _ => ?_)
                          · exact pw_ret h
                          · refine pw_ite (fun _ => ?_) (fun _ => ?_)
                            · exact pw_ret h
                            · refine pw_ite (fun _ => ?_) (fun _ => ?_)
                              · exact pw_ret h
                              · refine pw_ite (fun _ => ?_) (fun _ => ?_)
                                · exact pw_ret h
                                · refine pw_ite (fun _ => ?_) (fun _ => ?_)
                                  · exact pw_ret h
                                  · exact pw_ret h
theorem iv_Tokens_takeSign_54 {c d : Nat} {b_0 : Int32} {X : St} (h : IKt o c d X) : pw (g_Tokens_takeSign_54 b_0 X) (fun _ Y => IKt o c d Y) := by
  unfold g_Tokens_takeSign_54
  refine pw_eq (fun X3 eX3 => ?_)
  have dX3 : IKt o c d X3 := by rw [eX3]; exact h.w (Or.inl (rw_lit h.1.2 (by decide)))
  exact pw_ret dX3
theorem iv_Tokens_takeSign_39 {c d : Nat} {a_1 : Int32} {X : St} (h : IKt o c d X) : pw (g_Tokens_takeSign_39 a_1 X) (fun _ Y => IKt o c d Y) := by
  unfold g_Tokens_takeSign_39
  refine pw_bd (iv_Tokens_isSign h) (fun x1 X2 dX2 => ?_)
  refine pw_ite (fun _ => ?_) (fun _ => ?_)
  · exact iv_Tokens_takeSign_54 dX2
  · exact iv_Tokens_takeSign_54 dX2
theorem iv_Tokens_takeSign {c d : Nat} {p1 : Int32} {X : St} (h : IKt o c d X) : pw (g_Tokens_takeSign p1 X) (fun _ Y => IKt o c d Y) := by
  unfold g_Tokens_takeSign
  refine pw_ite (fun _ => ?_) (fun _ => ?_)
  · refine pw_eq (fun x4 _ => ?_)
    refine pw_eq (fun x5 _ => ?_)
    refine pw_bd (iv_Tokens_byteAt h) (fun x6 X7 dX7 => ?_)
    refine pw_ite (fun _ => ?_) (fun _ => ?_)
    · refine pw_eq (fun X8 eX8 => ?_)
      have dX8 : IKt o c d X8 := by rw [eX8]; exact dX7.w (Or.inl (rw_lit dX7.1.2 (by decide)))
      refine pw_eq (fun x9 _ => ?_)
      refine pw_eq (fun x10 _ => ?_)
      refine pw_eq (fun X11 eX11 => ?_)
      have dX11 : IKt o c d X11 := by rw [eX11]; exact dX8.w (Or.inl (rw_lit dX8.1.2 (by decide)))
      exact pw_ret dX11
    · exact iv_Tokens_takeSign_39 dX7
  · exact iv_Tokens_takeSign_39 h
theorem iv_Tokens_advance_50 {c d : Nat} {a_1 : Int32} {X : St} (h : IKt o c d X) : pw (g_Tokens_advance_50 a_1 X) (fun _ Y => IKt o c d Y) := by
  unfold g_Tokens_advance_50
  refine pw_eq (fun X4 eX4 => ?_)
  have dX4 : IKt o c d X4 := by rw [eX4]; exact h.w (Or.inl (rw_lit h.1.2 (by decide)))
  refine pw_eq (fun x5 _ => ?_)
  refine pw_eq (fun X6 eX6 => ?_)
  have dX6 : IKt o c d X6 := by rw [eX6]; exact dX4.w (Or.inl (rw_lit dX4.1.2 (by decide)))
  refine pw_bd (iv_Tokens_byteAt dX6) (fun x7 X8 dX8 => ?_)
  refine pw_ite (fun _ => ?_) (fun _ => ?_)
  · refine pw_eq (fun X16 eX16 => ?_)
    have dX16 : IKt o c d X16 := by rw [eX16]; exact dX8.w (Or.inl (rw_lit dX8.1.2 (by decide)))
    refine pw_eq (fun x17 _ => ?_)
    refine pw_eq (fun X18 eX18 => ?_)
    have dX18 : IKt o c d X18 := by rw [eX18]; exact dX16.w (Or.inl (rw_lit dX16.1.2 (by decide)))
    exact pw_ret dX18
  · refine pw_bd (iv_Tokens_isLetter dX8) (fun x9 X10 dX10 => ?_)
    refine pw_ite (fun _ => ?_) (fun _ => ?_)
    · refine pw_bd (iv_Tokens_isDigit dX10) (fun x11 X12 dX12 => ?_)
      refine pw_ite (fun _ => ?_) (fun _ => ?_)
      · refine pw_bd (iv_Tokens_takeSign dX12) (fun _ X13 dX13 => ?_)
        exact pw_ret dX13
      · refine pw_bd (iv_Tokens_takeNumber dX12) (fun _ X14 dX14 => ?_)
        exact pw_ret dX14
    · refine pw_bd (iv_Tokens_takeWord dX10) (fun _ X15 dX15 => ?_)
      exact pw_ret dX15
theorem iv_Tokens_advance_44 {c d : Nat} {r16 : Int32 → St → Option (Int32 × St)} (hr16 : ∀ (q0 : Int32) (X : St), IKt o c d X → pw (r16 q0 X) (fun _ Y => IKt o c d Y)) {a_1 : Int32} {X : St} (h : IKt o c d X) : pw (g_Tokens_advance_44 r16 a_1 X) (fun _ Y => IKt o c d Y) := by
  unfold g_Tokens_advance_44
  refine pw_eq (fun x21 _ => ?_)
  exact hr16 _ _ h
theorem iv_Tokens_advance_16 {c d : Nat} (N : Nat) : ∀ (a_1 : Int32) (X : St), IKt o c d X → pw (g_Tokens_advance_16 N a_1 X) (fun _ Y => IKt o c d Y) := by
  unfold g_Tokens_advance_16
  refine lp_ind (P := fun (r : Int32 → St → Option (Int32 × St)) => ∀ (a_1 : Int32) (X : St), IKt o c d X → pw (r a_1 X) (fun _ Y => IKt o c d Y)) (fun _ _ _ => pw_none) (fun r ih a_1 X h => ?_) N
  unfold g_Tokens_advance_16_s
  refine pw_eq (fun x3 _ => ?_)
  refine pw_ite (fun _ => ?_) (fun _ => ?_)
  · exact iv_Tokens_advance_50 h
  · refine pw_bd (iv_Tokens_byteAt h) (fun x19 X20 dX20 => ?_)
    refine pw_ite (fun _ => ?_) (fun _ => ?_)
    · exact iv_Tokens_advance_44 ih dX20
    · refine pw_bd (iv_Tokens_byteAt dX20) (fun x22 X23 dX23 => ?_)
      refine pw_ite (fun _ => ?_) (fun _ => ?_)
      · exact iv_Tokens_advance_44 ih dX23
      · exact iv_Tokens_advance_50 dX23
theorem iv_Tokens_advance {c d : Nat} {X : St} (h : IKt o c d X) : pw (g_Tokens_advance X) (fun _ Y => IKt o c d Y) := by
  unfold g_Tokens_advance
  refine pw_eq (fun x1 _ => ?_)
  refine pw_ite (fun _ => ?_) (fun _ => ?_)
  · exact pw_ret h
  · refine pw_eq (fun x2 _ => ?_)
    exact iv_Tokens_advance_16 _ _ _ h
theorem iv_Tokens_goTo {c d : Nat} {p1 : Int32} {X : St} (h : IKt o c d X) : pw (g_Tokens_goTo p1 X) (fun _ Y => IKt o c d Y) := by
  unfold g_Tokens_goTo
  refine pw_eq (fun X1 eX1 => ?_)
  have dX1 : IKt o c d X1 := by rw [eX1]; exact h.w (Or.inl (rw_lit h.1.2 (by decide)))
  refine pw_eq (fun X2 eX2 => ?_)
  have dX2 : IKt o c d X2 := by rw [eX2]; exact dX1.w (Or.inl (rw_lit dX1.1.2 (by decide)))
  refine pw_bd (iv_Tokens_advance dX2) (fun _ X3 dX3 => ?_)
  exact pw_ret dX3
theorem iv_Reader_refuseAt {c d : Nat} {p1 : Int32} {p2 : Int32} {X : St} (h : IKt o c d X) : pw (g_Reader_refuseAt p1 p2 X) (fun _ Y => IKt o c d Y) := by
  unfold g_Reader_refuseAt
  refine pw_eq (fun x1 _ => ?_)
  refine pw_ite (fun _ => ?_) (fun _ => ?_)
  · refine pw_eq (fun X2 eX2 => ?_)
    have dX2 : IKt o c d X2 := by rw [eX2]; exact h.w (Or.inr ⟨rfl, by decide⟩)
    refine pw_eq (fun X3 eX3 => ?_)
    have dX3 : IKt o c d X3 := by rw [eX3]; exact dX2.w (Or.inr ⟨rfl, by decide⟩)
    exact pw_ret dX3
  · exact pw_ret h
theorem iv_Tokens_stop {c d : Nat} {X : St} (h : IKt o c d X) : pw (g_Tokens_stop X) (fun _ Y => IKt o c d Y) := by
  unfold g_Tokens_stop
  refine pw_eq (fun X1 eX1 => ?_)
  have dX1 : IKt o c d X1 := by rw [eX1]; exact h.w (Or.inl (rw_lit h.1.2 (by decide)))
  refine pw_eq (fun x2 _ => ?_)
  refine pw_eq (fun X3 eX3 => ?_)
  have dX3 : IKt o c d X3 := by rw [eX3]; exact dX1.w (Or.inl (rw_lit dX1.1.2 (by decide)))
  exact pw_ret dX3
theorem iv_Reader_refuse {c d : Nat} {p1 : Int32} {X : St} (h : IKt o c d X) : pw (g_Reader_refuse p1 X) (fun _ Y => IKt o c d Y) := by
  unfold g_Reader_refuse
  refine pw_eq (fun x1 _ => ?_)
  refine pw_bd (iv_Reader_refuseAt h) (fun _ X2 dX2 => ?_)
  refine pw_bd (iv_Tokens_stop dX2) (fun _ X3 dX3 => ?_)
  exact pw_ret dX3
theorem iv_Reader_want {c d : Nat} {p1 : Int32} {X : St} (h : IKt o c d X) : pw (g_Reader_want p1 X) (fun _ Y => IKt o c d Y) := by
  unfold g_Reader_want
  refine pw_eq (fun x1 _ => ?_)
  refine pw_ite (fun _ => ?_) (fun _ => ?_)
  · refine pw_bd (iv_Tokens_advance h) (fun _ X3 dX3 => ?_)
    exact pw_ret dX3
  · refine pw_bd (iv_Reader_refuse h) (fun _ X2 dX2 => ?_)
    exact pw_ret dX2
theorem iv_Reader_takePartName {c d : Nat} {p1 : Int32} {X : St} (h : IKt o c d X) : pw (g_Reader_takePartName p1 X) (fun _ Y => IKt o c d Y) := by
  unfold g_Reader_takePartName
  refine pw_ck (fun _ => ?_)
  refine pw_eq (fun e1 ee1 => ?_)
  have pke1 : PEo o e1 := by rw [ee1]; exact h.pe
  refine pw_eq (fun e2 ee2 => ?_)
  have rw_e2 : RWo o e2 := by rw [ee2]; exact pke1.ky (by decide)
  refine pw_eq (fun x3 _ => ?_)
  refine pw_ck (fun _ => ?_)
  refine pw_eq (fun X4 eX4 => ?_)
  have dX4 : IKt o c d X4 := by rw [eX4]; exact h.w (Or.inl rw_e2)
  refine pw_bd (iv_Tokens_advance dX4) (fun _ X5 dX5 => ?_)
  refine pw_eq (fun x6 _ => ?_)
  refine pw_ck (fun _ => ?_)
  refine pw_eq (fun X7 eX7 => ?_)
  have dX7 : IKt o c d X7 := by rw [eX7]; exact dX5.w (Or.inl (rw_lit dX5.1.2 (by decide)))
  refine pw_ck (fun _ => ?_)
  refine pw_eq (fun e8 ee8 => ?_)
  have pke8 : PEo o e8 := by rw [ee8]; exact dX7.pe
  refine pw_eq (fun e9 ee9 => ?_)
  have rw_e9 : RWo o e9 := by rw [ee9]; exact pke8.ky (by decide)
  refine pw_eq (fun y10 _ => ?_)
  refine pw_ck (fun _ => ?_)
  refine pw_eq (fun X11 eX11 => ?_)
  have dX11 : IKt o c d X11 := by rw [eX11]; exact dX7.wl
  refine pw_ck (fun _ => ?_)
  refine pw_eq (fun e12 ee12 => ?_)
  have pke12 : PEo o e12 := by rw [ee12]; exact dX11.pe
  refine pw_eq (fun e13 ee13 => ?_)
  have rw_e13 : RWo o e13 := by rw [ee13]; exact pke12.ky (by decide)
  refine pw_eq (fun x14 _ => ?_)
  refine pw_ck (fun _ => ?_)
  refine pw_eq (fun X15 eX15 => ?_)
  have dX15 : IKt o c d X15 := by rw [eX15]; exact dX11.w (Or.inl rw_e13)
  refine pw_bd (iv_Reader_want dX15) (fun _ X16 dX16 => ?_)
  exact pw_ret dX16
theorem iv_Reader_enter_43 {c d : Nat} {X : St} (h : IKt o c d X) : pw (g_Reader_enter_43 X) (fun _ Y => IKt o c d Y) := by
  unfold g_Reader_enter_43
  refine pw_eq (fun x4 _ => ?_)
  refine pw_eq (fun x5 _ => ?_)
  refine pw_eq (fun X6 eX6 => ?_)
  have dX6 : IKt o c d X6 := by rw [eX6]; exact h.w (Or.inr ⟨rfl, by decide⟩)
  exact pw_ret dX6
theorem iv_Reader_enter {c d : Nat} {p1 : Int32} {X : St} (h : IKt o c d X) : pw (g_Reader_enter p1 X) (fun _ Y => IKt o c d Y) := by
  unfold g_Reader_enter
  refine pw_eq (fun x1 _ => ?_)
  refine pw_ite (fun _ => ?_) (fun _ => ?_)
  · refine pw_eq (fun x2 _ => ?_)
    refine pw_ite (fun _ => ?_) (fun _ => ?_)
    · refine pw_bd (iv_Tokens_advance h) (fun _ X3 dX3 => ?_)
      exact iv_Reader_enter_43 dX3
    · refine pw_bd (iv_Reader_refuse h) (fun _ X7 dX7 => ?_)
      exact iv_Reader_enter_43 dX7
  · refine pw_bd (iv_Reader_refuse h) (fun _ X8 dX8 => ?_)
    exact iv_Reader_enter_43 dX8
theorem iv_Reader_slotOf_7 {c d : Nat} (N : Nat) : ∀ (l_1 : Int64) (a_3 : Int32) (X : St), IKt o c d X → pw (g_Reader_slotOf_7 N l_1 a_3 X) (fun _ Y => IKt o c d Y) := by
  unfold g_Reader_slotOf_7
  refine lp_ind (P := fun (r : Int64 → Int32 → St → Option (Int32 × St)) => ∀ (l_1 : Int64) (a_3 : Int32) (X : St), IKt o c d X → pw (r l_1 a_3 X) (fun _ Y => IKt o c d Y)) (fun _ _ _ _ => pw_none) (fun r ih l_1 a_3 X h => ?_) N
  unfold g_Reader_slotOf_7_s
  refine pw_ite (fun _ => ?_) (fun _ => ?_)
  · exact pw_ret h
  · refine pw_ck (fun _ => ?_)
    refine pw_eq (fun y3 _ => ?_)
    refine pw_eq (fun x4 _ => ?_)
    refine pw_ite (fun _ => ?_) (fun _ => ?_)
    · exact pw_ret h
    · refine pw_eq (fun x5 _ => ?_)
      exact ih _ _ _ h
theorem iv_Reader_slotOf {c d : Nat} {q1 : Int64} {X : St} (h : IKt o c d X) : pw (g_Reader_slotOf q1 X) (fun _ Y => IKt o c d Y) := by
  unfold g_Reader_slotOf
  refine pw_eq (fun x1 _ => ?_)
  refine pw_eq (fun x2 _ => ?_)
  exact iv_Reader_slotOf_7 _ _ _ _ h
theorem iv_Reader_pushLocal {c d : Nat} {q1 : Int64} {X : St} (h : IKt o c d X) : pw (g_Reader_pushLocal q1 X) (fun _ Y => IKt o c d Y) := by
  unfold g_Reader_pushLocal
  refine pw_eq (fun x1 _ => ?_)
  refine pw_ite (fun _ => ?_) (fun _ => ?_)
  · exact pw_ret h
  · refine pw_eq (fun x2 _ => ?_)
    refine pw_ck (fun _ => ?_)
    refine pw_eq (fun X3 eX3 => ?_)
    have dX3 : IKt o c d X3 := by rw [eX3]; exact h.wl
    refine pw_eq (fun x4 _ => ?_)
    refine pw_eq (fun x5 _ => ?_)
    refine pw_eq (fun X6 eX6 => ?_)
    have dX6 : IKt o c d X6 := by rw [eX6]; exact dX3.w (Or.inr ⟨rfl, by decide⟩)
    exact pw_ret dX6
theorem iv_Reader_tookColon {c d : Nat} {X : St} (h : IKt o c d X) : pw (g_Reader_tookColon X) (fun _ Y => IKt o c d Y) := by
  unfold g_Reader_tookColon
  refine pw_eq (fun x1 _ => ?_)
  refine pw_ite (fun _ => ?_) (fun _ => ?_)
  · refine pw_bd (iv_Tokens_advance h) (fun _ X2 dX2 => ?_)
    exact pw_ret dX2
  · exact pw_ret h
theorem iv_Reader_beginsKind {c d : Nat} {X : St} (h : IKt o c d X) : pw (g_Reader_beginsKind X) (fun _ Y => IKt o c d Y) := by
  unfold g_Reader_beginsKind
  refine pw_eq (fun x1 _ => ?_)
  refine pw_ite (fun _ => ?_) (fun _ => ?_)
  · exact pw_ret h
  · refine pw_eq (fun x2 _ => ?_)
    refine pw_ite (fun _ => ?_) (fun _ => ?_)
    · exact pw_ret h
    · refine pw_eq (fun x3 _ => ?_)
      refine pw_ite (fun _ => ?_) (fun _ => ?_)
      · exact pw_ret h
      · exact pw_ret h
/-- a kind's reader -/
def KVK (o : Nat) (v : St → Option (Int32 × St)) : Prop := ∀ (c d : Nat) (X : St), IKt o c d X → pw (v X) (fun r Y => IKt o c d Y ∧ VKo o r Y)
theorem iv_kindList {v : St → Option (Int32 × St)} (hv : KVK o v) (N : Nat) : ∀ (a_1 : Int32) (c d : Nat) (X : St), IKt o c d X → pw (g_Reader_takeKindList_2 v N a_1 X) (fun _ Y => IKt o c d Y) := by
  unfold g_Reader_takeKindList_2
  refine lp_ind (P := fun (r : Int32 → St → Option (Int32 × St)) => ∀ (a_1 : Int32) (c d : Nat) (X : St), IKt o c d X → pw (r a_1 X) (fun _ Y => IKt o c d Y)) (fun _ _ _ _ _ => pw_none) (fun r ih a_1 c d X h => ?_) N
  have l1 : (1 : Int32).toInt = 1 := by decide
  have go : ∀ X, IKt o c d X → pw (g_Reader_takeKindList_24 v r a_1 X) (fun _ Y => IKt o c d Y) := by
    intro X h
    unfold g_Reader_takeKindList_24
    refine pw_bd (hv c d X h) ?_
    rintro x1 X2 ⟨h2, v2⟩
    refine pw_let (pw_ite (fun _ => ?_) (fun _ => pw_ret h2))
    refine pw_let (pw_ite (fun c4 => ?_) (fun _ => pw_ret h2))
    obtain ⟨b1, b2, b3, b4⟩ := h2
    have x6 := ixc (z := X2.1 46 6) (by omega)
    refine pw_let (pw_ck (fun _ => pw_eq (fun X6 e6 => pw_let (pw_eq (fun x8 e8 => pw_eq (fun X9 e9 => ?_))))))
    have hn := b1.2
    have k6 : X6.1 46 6 = X2.1 46 6 := by rw [e6, wI_ne _ _ _ _ _ _ (by omega)]
    have v8 : x8.toInt = (X2.1 46 6).toInt + 1 := by rw [e8, k6, ti_add (by rw [l1]; omega) (by rw [l1]; omega), l1]
    have r9 : ∀ e k, ¬ (e = 54 ∧ k = ix (X2.1 46 6)) → ¬ (e = 46 ∧ k = 6) → X9.1 e k = X2.1 e k := fun e k q1 q2 => by rw [e9, wI_ne _ _ _ _ _ _ (by omega), e6, wI_ne _ _ _ _ _ _ (by omega)]
    have a6 : (X9.1 46 6).toInt = (X2.1 46 6).toInt + 1 := by rw [e9, wI_at]; exact v8
    have h9 : IKt o c d X9 := by
      obtain ⟨ks, t1, t2⟩ := b3
      refine ⟨by rw [e9, e6]; exact b1, ⟨by rw [r9 o 0 (by omega) (by omega)]; exact b2.1, by omega, by omega⟩, ⟨ks, t1.cg (fun e k q1 q2 _ => r9 e k (by omega) (by omega)), t2⟩, fun i hi => ?_⟩
      rw [r9 o 0 (by omega) (by omega)]
      by_cases ei : i = ix (X2.1 46 6)
      · rw [ei, e9, wI_ne _ _ _ _ _ _ (by omega), e6, wI_at]
        exact v2
      · rw [r9 54 i (by omega) (by omega)]
        exact b4 i (by omega)
    refine pw_let (pw_ite (fun _ => ?_) (fun _ => pw_ret h9))
    exact pw_bd (iv_Tokens_advance h9) (fun _ X11 h11 => pw_let (ih _ c d X11 h11))
  unfold g_Reader_takeKindList_2_s
  refine pw_ite (fun _ => pw_ret h) (fun _ => pw_ite (fun _ => go X h) (fun _ => ?_))
  refine pw_bd (iv_Reader_beginsKind h) (fun x13 X14 h14 => pw_ite (fun _ => go X14 h14) (fun _ => ?_))
  exact pw_bd (iv_Reader_refuse h14) (fun _ X15 h15 => go X15 h15)
theorem iv_kindTail {v : St → Option (Int32 × St)} (hv : KVK o v) {c d f : Nat} {a_1 : Int32} {X : St} (hdf : d ≤ f) (ha : a_1.toInt = (f : Int)) (h : IKt o c f X) : pw (g_Reader_takeFunctionKind_34 v a_1 X) (fun r Y => IKt o c d Y ∧ VKo o r Y) := by
  unfold g_Reader_takeFunctionKind_34
  refine pw_bd (iv_Reader_want h) (fun _ X5 h5 => pw_let (pw_let (pw_eq (fun X8 e8 => ?_))))
  have h8 : IKt o c f X8 := by rw [e8]; exact h5.w (Or.inr ⟨rfl, by decide⟩)
  refine pw_bd (hv c f X8 h8) ?_
  rintro x9 X10 ⟨h10, v10⟩
  refine pw_ck (fun _ => pw_to (w := o - 1) (by rw [h10.1.1]) ?_)
  refine pw_to (w := o) (PEo.kd ⟨by have := h10.1.2; omega, h10.1.2⟩) ?_
  have b := h10.2.1
  refine pw_let (pw_eq (fun x14 e14 => ?_))
  have v14 : x14.toInt = (X10.1 46 6).toInt - f := by rw [e14, ti_sub (by rw [ha]; omega) (by rw [ha]; omega), ha]
  refine pw_bd (ivk_functionOf (d := f) rfl h10 ha b.2.1 v14 v10) ?_
  rintro x15 X16 ⟨h16, v16⟩
  refine pw_eq (fun X17 e17 => pw_let (pw_let (pw_eq (fun X20 e20 => pw_ret ?_))))
  have hn := h16.1.2
  have l16 := h16.2.1
  have r20 : ∀ e k, ¬ e = 46 → X20.1 e k = X16.1 e k := fun e k q => by rw [e20, wI_ne _ _ _ _ _ _ (by omega), e17, wI_ne _ _ _ _ _ _ (by omega)]
  have a6 : (X20.1 46 6).toInt = (f : Int) := by rw [e20, wI_ne _ _ _ _ _ _ (by decide), e17, wI_at]; exact ha
  obtain ⟨b1, b2, ⟨ks, t1, t2⟩, b4⟩ := h16
  refine ⟨⟨by rw [e20, e17]; exact b1, ⟨by rw [r20 o 0 (by omega)]; exact b2.1, by omega, by omega⟩, ⟨ks, t1.cg (fun e k q1 q2 _ => r20 e k (by omega)), t2⟩, fun i hi => ?_⟩, by unfold VKo; rw [r20 o 0 (by omega)]; exact v16⟩
  rw [r20 54 i (by omega), r20 o 0 (by omega)]
  exact b4 i (by omega)
theorem iv_kindB {v : St → Option (Int32 × St)} (hv : KVK o v) : KVK o (g_Reader_takeKind_b v) := by
  intro c d X h
  have two : ∀ Y, IKt o c d Y → VKo o (2 : Int32) Y := fun Y g => ⟨by decide, by have := g.nine; show (2 : Int) < _; omega⟩
  unfold g_Reader_takeKind_b
  have hb : pw (g_Reader_beginsKind X) (fun r Y => Y = X ∧ (¬ r.toInt = 0 → (X.1 47 3).toInt = 91 ∨ (272 ≤ (X.1 47 3).toInt ∧ (X.1 47 3).toInt ≤ 275))) := by
    unfold g_Reader_beginsKind
    refine pw_let (pw_ite (fun c1 => pw_ret ⟨rfl, fun _ => Or.inl c1⟩) (fun _ => ?_))
    refine pw_let (pw_ite (fun _ => pw_ret ⟨rfl, fun z => absurd (by decide) z⟩) (fun c2 => ?_))
    exact pw_let (pw_ite (fun _ => pw_ret ⟨rfl, fun z => absurd (by decide) z⟩) (fun c3 => pw_ret ⟨rfl, fun _ => Or.inr ⟨by omega, by omega⟩⟩))
  refine pw_bd hb ?_
  rintro x1 X2 ⟨rfl, hty⟩
  refine pw_ite (fun _ => ?_) (fun c1 => ?_)
  · exact pw_bd (iv_Reader_refuse h) (fun _ X22 h22 => pw_ret ⟨h22, two _ h22⟩)
  have hty := hty c1
  refine pw_let (pw_ite (fun _ => ?_) (fun c2 => ?_))
  · refine pw_bd (R := fun r Y => IKt o c d Y ∧ VKo o r Y) ?_ (fun x20 X21 g => pw_ret g)
    unfold g_Reader_takeFunctionKind
    refine pw_eq (fun x e1 => ?_)
    have b := h.2.1
    have hx : x.toInt = ((ix x : Nat) : Int) := (ixc (by rw [e1]; omega)).symm
    have h' : IKt o c (ix x) X2 := h.up b.1 (by rw [← hx, e1]; exact Int.le_refl _)
    have hdx : d ≤ ix x := by
      have := b.2.1
      rw [← e1, hx] at this
      omega
    refine pw_bd (iv_Reader_enter h') (fun _ X3 h3 => pw_bd (iv_Reader_enter h3) (fun _ X4 h4 => pw_let (pw_ite (fun _ => iv_kindTail hv hdx hx h4) (fun _ => ?_))))
    unfold g_Reader_takeKindList
    exact pw_bd (iv_kindList hv _ _ c _ X4 h4) (fun _ X21 h21 => iv_kindTail hv hdx hx h21)
  · refine pw_let (pw_ite (fun _ => ?_) (fun c3 => ?_))
    · refine pw_bd (iv_Reader_enter h) (fun _ X9 h9 => pw_bd (hv c d X9 h9) ?_)
      rintro x10 X11 ⟨h11, v11⟩
      have hx : x10.toInt = ((ix x10 : Nat) : Int) := (ixc v11.1).symm
      have h11b : IKt o (ix x10 + 1) d X11 := h11.up (by have := v11.2; omega) h11.2.1.2.1
      refine pw_bd (pw_and (iv_Reader_want h11) (iv_Reader_want h11b)) ?_
      rintro _ X12 ⟨h12, h12b⟩
      refine pw_let (pw_let (pw_eq (fun X15 e15 => ?_)))
      have h15 : IKt o c d X15 := by rw [e15]; exact h12.w (Or.inr ⟨rfl, by decide⟩)
      have v15 : VKo o x10 X15 := by
        have hn := h12.1.2
        refine ⟨v11.1, ?_⟩
        rw [e15, wI_ne _ _ _ _ _ _ (by omega)]
        have := h12b.2.1.1
        omega
      refine pw_ck (fun _ => pw_to (w := o - 1) (by rw [h15.1.1]) ?_)
      refine pw_to (w := o) (PEo.kd ⟨by have := h15.1.2; omega, h15.1.2⟩) ?_
      exact pw_bd (ivk_rowOf rfl h15 v15) (fun x18 X19 g => pw_ret g)
    · refine pw_let (pw_eq (fun x6 e6 => pw_eq (fun x7 e7 => ?_)))
      have l0 : (0 : Int32).toInt = 0 := by decide
      have l2 : (272 : Int32).toInt = 272 := by decide
      have v6 : x6.toInt = (X2.1 47 3).toInt := by rw [e6, ti_add (by rw [l0]; omega) (by rw [l0]; omega), l0]; omega
      have v7 : x7.toInt = (X2.1 47 3).toInt - 272 := by rw [e7, ti_sub (by rw [v6, l2]; omega) (by rw [v6, l2]; omega), v6, l2]
      refine pw_bd (iv_Tokens_advance h) (fun _ X8 h8 => pw_ret ⟨h8, by omega, ?_⟩)
      have := h8.nine
      omega
theorem ivk_takeKind : KVK o g_Reader_takeKind := by
  have h : ∀ N, KVK o (rec_kind N) := by
    intro N
    unfold rec_kind
    exact lp_ind (γ := St → Option (Int32 × St)) (P := fun r => KVK o r) (fun _ _ _ _ => pw_none) (fun r ih => iv_kindB ih) N
  exact h 64
theorem iv_Reader_takeKind {c d : Nat} {X : St} (h : IKt o c d X) : pw (g_Reader_takeKind X) (fun _ Y => IKt o c d Y) := pw_mono (ivk_takeKind c d X h) (fun _ _ g => g.1)

theorem iv_Reader_takeParams_173 {c d : Nat} {a_1 : Int32} {X : St} (h : IKt o c d X) : pw (g_Reader_takeParams_173 a_1 X) (fun _ Y => IKt o c d Y) := by
  unfold g_Reader_takeParams_173
  refine pw_ck (fun _ => ?_)
  refine pw_eq (fun e3 ee3 => ?_)
  have pke3 : PEo o e3 := by rw [ee3]; exact h.pe
  refine pw_eq (fun e4 ee4 => ?_)
  have rw_e4 : RWo o e4 := by rw [ee4]; exact pke3.ky (by decide)
  refine pw_eq (fun x5 _ => ?_)
  refine pw_ck (fun _ => ?_)
  refine pw_eq (fun X6 eX6 => ?_)
  have dX6 : IKt o c d X6 := by rw [eX6]; exact h.w (Or.inl rw_e4)
  refine pw_bd (iv_Reader_want dX6) (fun _ X7 dX7 => ?_)
  refine pw_eq (fun x8 _ => ?_)
  refine pw_eq (fun x9 _ => ?_)
  refine pw_eq (fun X10 eX10 => ?_)
  have dX10 : IKt o c d X10 := by rw [eX10]; exact dX7.w (Or.inr ⟨rfl, by decide⟩)
  exact pw_ret dX10
theorem iv_Reader_takeParams_144 {c d : Nat} {r13 : Int32 → Int32 → St → Option (Int32 × St)} (hr13 : ∀ (q0 : Int32) (q1 : Int32) (X : St), IKt o c d X → pw (r13 q0 q1 X) (fun _ Y => IKt o c d Y)) {a_1 : Int32} {a_2 : Int32} {b_0 : Int32} {b_1 : Int32} {g_2 : Nat} (rw_g_2 : RWo o g_2) {X : St} (h : IKt o c d X) : pw (g_Reader_takeParams_144 r13 a_1 a_2 b_0 b_1 g_2 X) (fun _ Y => IKt o c d Y) := by
  unfold g_Reader_takeParams_144
  refine pw_ck (fun _ => ?_)
  refine pw_eq (fun X23 eX23 => ?_)
  have dX23 : IKt o c d X23 := by rw [eX23]; exact h.w (Or.inl rw_g_2)
  refine pw_eq (fun x24 _ => ?_)
  refine pw_ite (fun _ => ?_) (fun _ => ?_)
  · refine pw_bd (iv_Tokens_advance dX23) (fun _ X25 dX25 => ?_)
    refine pw_eq (fun x26 _ => ?_)
    exact hr13 _ _ _ dX25
  · exact iv_Reader_takeParams_173 dX23
theorem iv_Reader_takeParams_95 {c d : Nat} {r13 : Int32 → Int32 → St → Option (Int32 × St)} (hr13 : ∀ (q0 : Int32) (q1 : Int32) (X : St), IKt o c d X → pw (r13 q0 q1 X) (fun _ Y => IKt o c d Y)) {a_1 : Int32} {a_2 : Int32} {l_3 : Int64} {X : St} (h : IKt o c d X) : pw (g_Reader_takeParams_95 r13 a_1 a_2 l_3 X) (fun _ Y => IKt o c d Y) := by
  unfold g_Reader_takeParams_95
  refine pw_bd (iv_Reader_want h) (fun _ X14 dX14 => ?_)
  refine pw_eq (fun x15 _ => ?_)
  refine pw_ite (fun _ => ?_) (fun _ => ?_)
  · refine pw_bd (iv_Reader_pushLocal dX14) (fun _ X16 dX16 => ?_)
    refine pw_ck (fun _ => ?_)
    refine pw_eq (fun e17 ee17 => ?_)
    have pke17 : PEo o e17 := by rw [ee17]; exact dX16.pe
    refine pw_eq (fun e18 ee18 => ?_)
    have rw_e18 : RWo o e18 := by rw [ee18]; exact pke17.ky (by decide)
    refine pw_eq (fun x19 _ => ?_)
    refine pw_eq (fun x20 _ => ?_)
    refine pw_bd (iv_Reader_tookColon dX16) (fun x21 X22 dX22 => ?_)
    refine pw_ite (fun _ => ?_) (fun _ => ?_)
    · exact iv_Reader_takeParams_144 hr13 rw_e18 dX22
    · refine pw_bd (iv_Reader_takeKind dX22) (fun x27 X28 dX28 => ?_)
      exact iv_Reader_takeParams_144 hr13 rw_e18 dX28
  · exact iv_Reader_takeParams_173 dX14
theorem iv_Reader_takeParams_72 {c d : Nat} {r13 : Int32 → Int32 → St → Option (Int32 × St)} (hr13 : ∀ (q0 : Int32) (q1 : Int32) (X : St), IKt o c d X → pw (r13 q0 q1 X) (fun _ Y => IKt o c d Y)) {a_1 : Int32} {a_2 : Int32} {l_3 : Int64} {X : St} (h : IKt o c d X) : pw (g_Reader_takeParams_72 r13 a_1 a_2 l_3 X) (fun _ Y => IKt o c d Y) := by
  unfold g_Reader_takeParams_72
  refine pw_eq (fun x13 _ => ?_)
  refine pw_ite (fun _ => ?_) (fun _ => ?_)
  · refine pw_ite (fun _ => ?_) (fun _ => ?_)
    · exact iv_Reader_takeParams_95 hr13 h
    · refine pw_bd (iv_Reader_refuse h) (fun _ X29 dX29 => ?_)
      exact iv_Reader_takeParams_95 hr13 dX29
  · exact iv_Reader_takeParams_95 hr13 h
theorem iv_Reader_takeParams_34 {c d : Nat} {r13 : Int32 → Int32 → St → Option (Int32 × St)} (hr13 : ∀ (q0 : Int32) (q1 : Int32) (X : St), IKt o c d X → pw (r13 q0 q1 X) (fun _ Y => IKt o c d Y)) {a_1 : Int32} {a_2 : Int32} {X : St} (h : IKt o c d X) : pw (g_Reader_takeParams_34 r13 a_1 a_2 X) (fun _ Y => IKt o c d Y) := by
  unfold g_Reader_takeParams_34
  refine pw_eq (fun y11 _ => ?_)
  refine pw_eq (fun x12 _ => ?_)
  refine pw_ite (fun _ => ?_) (fun _ => ?_)
  · refine pw_bd (iv_Reader_slotOf h) (fun x30 X31 dX31 => ?_)
    refine pw_ite (fun _ => ?_) (fun _ => ?_)
    · exact iv_Reader_takeParams_72 hr13 dX31
    · refine pw_bd (iv_Reader_refuse dX31) (fun _ X32 dX32 => ?_)
      exact iv_Reader_takeParams_95 hr13 dX32
  · exact iv_Reader_takeParams_72 hr13 h
theorem iv_Reader_takeParams_13 {c d : Nat} (N : Nat) : ∀ (a_1 : Int32) (a_2 : Int32) (X : St), IKt o c d X → pw (g_Reader_takeParams_13 N a_1 a_2 X) (fun _ Y => IKt o c d Y) := by
  unfold g_Reader_takeParams_13
  refine lp_ind (P := fun (r : Int32 → Int32 → St → Option (Int32 × St)) => ∀ (a_1 : Int32) (a_2 : Int32) (X : St), IKt o c d X → pw (r a_1 a_2 X) (fun _ Y => IKt o c d Y)) (fun _ _ _ _ => pw_none) (fun r ih a_1 a_2 X h => ?_) N
  unfold g_Reader_takeParams_13_s
  refine pw_ite (fun _ => ?_) (fun _ => ?_)
  · exact iv_Reader_takeParams_173 h
  · refine pw_ite (fun _ => ?_) (fun _ => ?_)
    · exact iv_Reader_takeParams_34 ih h
    · refine pw_eq (fun x33 _ => ?_)
      refine pw_ite (fun _ => ?_) (fun _ => ?_)
      · exact iv_Reader_takeParams_173 h
      · exact iv_Reader_takeParams_34 ih h
theorem iv_Reader_takeParams {c d : Nat} {p1 : Int32} {X : St} (h : IKt o c d X) : pw (g_Reader_takeParams p1 X) (fun _ Y => IKt o c d Y) := by
  unfold g_Reader_takeParams
  refine pw_eq (fun X1 eX1 => ?_)
  have dX1 : IKt o c d X1 := by rw [eX1]; exact h.w (Or.inr ⟨rfl, by decide⟩)
  refine pw_bd (iv_Reader_enter dX1) (fun _ X2 dX2 => ?_)
  exact iv_Reader_takeParams_13 _ _ _ _ dX2
theorem iv_Reader_takeOwnKind_23 {c d : Nat} {a_1 : Int32} {b_0 : Int32} {b_1 : Int32} {g_2 : Nat} (rw_g_2 : RWo o g_2) {X : St} (h : IKt o c d X) : pw (g_Reader_takeOwnKind_23 a_1 b_0 b_1 g_2 X) (fun _ Y => IKt o c d Y) := by
  unfold g_Reader_takeOwnKind_23
  refine pw_ck (fun _ => ?_)
  refine pw_eq (fun X5 eX5 => ?_)
  have dX5 : IKt o c d X5 := by rw [eX5]; exact h.w (Or.inl rw_g_2)
  refine pw_bd (iv_Reader_want dX5) (fun _ X6 dX6 => ?_)
  refine pw_ck (fun _ => ?_)
  refine pw_eq (fun e7 ee7 => ?_)
  have pke7 : PEo o e7 := by rw [ee7]; exact dX6.pe
  refine pw_eq (fun e8 ee8 => ?_)
  have rw_e8 : RWo o e8 := by rw [ee8]; exact pke7.ky (by decide)
  refine pw_ck (fun _ => ?_)
  refine pw_eq (fun e9 ee9 => ?_)
  have pke9 : PEo o e9 := by rw [ee9]; exact dX6.pe
  refine pw_eq (fun x10 _ => ?_)
  refine pw_ck (fun _ => ?_)
  refine pw_eq (fun X11 eX11 => ?_)
  have dX11 : IKt o c d X11 := by rw [eX11]; exact dX6.w (Or.inl rw_e8)
  exact pw_ret dX11
theorem iv_Reader_takeOwnKind {c d : Nat} {p1 : Int32} {X : St} (h : IKt o c d X) : pw (g_Reader_takeOwnKind p1 X) (fun _ Y => IKt o c d Y) := by
  unfold g_Reader_takeOwnKind
  refine pw_ck (fun _ => ?_)
  refine pw_eq (fun e1 ee1 => ?_)
  have pke1 : PEo o e1 := by rw [ee1]; exact h.pe
  refine pw_eq (fun e2 ee2 => ?_)
  have rw_e2 : RWo o e2 := by rw [ee2]; exact pke1.ky (by decide)
  refine pw_bd (iv_Reader_tookColon h) (fun x3 X4 dX4 => ?_)
  refine pw_ite (fun _ => ?_) (fun _ => ?_)
  · exact iv_Reader_takeOwnKind_23 rw_e2 dX4
  · refine pw_bd (iv_Reader_takeKind dX4) (fun x12 X13 dX13 => ?_)
    exact iv_Reader_takeOwnKind_23 rw_e2 dX13
theorem iv_Reader_emitStep {c d : Nat} {X : St} (h : IKt o c d X) : pw (g_Reader_emitStep X) (fun _ Y => IKt o c d Y) := by
  unfold g_Reader_emitStep
  refine pw_ck (fun _ => ?_)
  refine pw_eq (fun e1 ee1 => ?_)
  have pke1 : PEo o e1 := by rw [ee1]; exact h.pe
  refine pw_eq (fun x2 _ => ?_)
  refine pw_bd (iv_Program_emit pke1 h) (fun x3 X4 dX4 => ?_)
  exact pw_ret dX4
theorem iv_Reader_placeOf {c d : Nat} {p1 : Int32} {X : St} (h : IKt o c d X) : pw (g_Reader_placeOf p1 X) (fun _ Y => IKt o c d Y) := by
  unfold g_Reader_placeOf
  refine pw_ck (fun _ => ?_)
  refine pw_eq (fun e1 ee1 => ?_)
  have pke1 : PEo o e1 := by rw [ee1]; exact h.pe
  refine pw_eq (fun e2 ee2 => ?_)
  have rw_e2 : RWo o e2 := by rw [ee2]; exact pke1.ky (by decide)
  refine pw_ck (fun _ => ?_)
  refine pw_eq (fun x3 _ => ?_)
  exact pw_ret h
theorem iv_Reader_takeDigits {c d : Nat} {X : St} (h : IKt o c d X) : pw (g_Reader_takeDigits X) (fun _ Y => IKt o c d Y) := by
  unfold g_Reader_takeDigits
  refine pw_eq (fun y1 _ => ?_)
  refine pw_eq (fun x2 _ => ?_)
  refine pw_ite (fun _ => ?_) (fun _ => ?_)
  · refine pw_ck (fun _ => ?_)
    refine pw_eq (fun e3 ee3 => ?_)
    have pke3 : PEo o e3 := by rw [ee3]; exact h.pe
    refine pw_eq (fun y4 _ => ?_)
    refine pw_eq (fun x5 _ => ?_)
    refine pw_eq (fun x6 _ => ?_)
    refine pw_bd (iv_Program_emit pke3 h) (fun x7 X8 dX8 => ?_)
    refine pw_bd (iv_Tokens_advance dX8) (fun _ X9 dX9 => ?_)
    exact pw_ret dX9
  · refine pw_bd (iv_Reader_refuse h) (fun _ X10 dX10 => ?_)
    exact pw_ret dX10
theorem iv_Reader_takeName_26 {c d : Nat} {a_1 : Int32} {b_0 : Int32} {g_1 : Nat} (p_g_1 : PEo o g_1) {X : St} (h : IKt o c d X) : pw (g_Reader_takeName_26 a_1 b_0 g_1 X) (fun _ Y => IKt o c d Y) := by
  unfold g_Reader_takeName_26
  refine pw_eq (fun x5 _ => ?_)
  refine pw_bd (iv_Program_emit p_g_1 h) (fun x6 X7 dX7 => ?_)
  refine pw_bd (iv_Tokens_advance dX7) (fun _ X8 dX8 => ?_)
  exact pw_ret dX8
theorem iv_Reader_takeName {c d : Nat} {X : St} (h : IKt o c d X) : pw (g_Reader_takeName X) (fun _ Y => IKt o c d Y) := by
  unfold g_Reader_takeName
  refine pw_eq (fun y1 _ => ?_)
  refine pw_bd (iv_Reader_slotOf h) (fun x2 X3 dX3 => ?_)
  refine pw_ck (fun _ => ?_)
  refine pw_eq (fun e4 ee4 => ?_)
  have pke4 : PEo o e4 := by rw [ee4]; exact dX3.pe
  refine pw_ite (fun _ => ?_) (fun _ => ?_)
  · exact iv_Reader_takeName_26 pke4 dX3
  · exact iv_Reader_takeName_26 pke4 dX3
theorem iv_Reader_beginsE {c d : Nat} {X : St} (h : IKt o c d X) : pw (g_Reader_beginsE X) (fun _ Y => IKt o c d Y) := by
  unfold g_Reader_beginsE
  refine pw_eq (fun x1 _ => ?_)
  refine pw_ite (fun _ => ?_) (fun _ => ?_)
  · exact pw_ret h
  · refine pw_ite (fun _ => ?_) (fun _ => ?_)
    · exact pw_ret h
    · refine pw_ite (fun _ => ?_) (fun _ => ?_)
      · exact pw_ret h
      · refine pw_ite (fun _ => ?_) (fun _ => ?_)
        · exact pw_ret h
        · refine pw_ite (fun _ => ?_) (fun _ => ?_)
          · exact pw_ret h
          · refine pw_ite (fun _ => ?_) (fun _ => ?_)
            · exact pw_ret h
            · refine pw_ite (fun _ => ?_) (fun _ => ?_)
              · exact pw_ret h
              · refine pw_ite (fun _ => ?_) (fun _ => ?_)
                · exact pw_ret h
                · refine pw_ite (fun _ => ?_) (fun _ => ?_)
                  · exact pw_ret h
                  · refine pw_ite (fun _ => ?_) (fun _ => ?_)
                    · exact pw_ret h
                    · refine pw_ite (fun _ => ?_) (fun _ => ?_)
                      · exact pw_ret h
                      · refine pw_ite (fun _ => ?_) (fun _ => ?_)
                        · exact pw_ret h
                        · refine pw_ite (fun _ => ?_) (fun _ => ?_)
                          · exact pw_ret h
                          · refine pw_ite (fun _ => ?_) (fun _ => ?_)
                            · exact pw_ret h
                            · exact pw_ret h
theorem iv_Reader_addStep {c d : Nat} {p1 : Int32} {X : St} (h : IKt o c d X) : pw (g_Reader_addStep p1 X) (fun _ Y => IKt o c d Y) := by
  unfold g_Reader_addStep
  refine pw_ck (fun _ => ?_)
  refine pw_eq (fun e1 ee1 => ?_)
  have pke1 : PEo o e1 := by rw [ee1]; exact h.pe
  refine pw_eq (fun e2 ee2 => ?_)
  have rw_e2 : RWo o e2 := by rw [ee2]; exact pke1.ky (by decide)
  refine pw_ck (fun _ => ?_)
  refine pw_eq (fun x3 _ => ?_)
  refine pw_eq (fun x4 _ => ?_)
  refine pw_ck (fun _ => ?_)
  refine pw_eq (fun X5 eX5 => ?_)
  have dX5 : IKt o c d X5 := by rw [eX5]; exact h.w (Or.inl rw_e2)
  exact pw_ret dX5
theorem iv_Reader_levelOf {c d : Nat} {p0 : Int32} {X : St} (h : IKt o c d X) : pw (g_Reader_levelOf p0 X) (fun _ Y => IKt o c d Y) := by
  unfold g_Reader_levelOf
  refine pw_ite (fun _ => ?_) (fun _ => ?_)
  · exact pw_ret h
  · refine pw_ite (fun _ => ?_) (fun _ => ?_)
    · exact pw_ret h
    · refine pw_ite (fun _ => ?_) (fun _ => ?_)
      · exact pw_ret h
      · refine pw_ite (fun _ => ?_) (fun _ => ?_)
        · exact pw_ret h
        · refine pw_ite (fun _ => ?_) (fun _ => ?_)
          · exact pw_ret h
          · refine pw_ite (fun _ => ?_) (fun _ => ?_)
            · exact pw_ret h
            · refine pw_ite (fun _ => ?_) (fun _ => ?_)
              · exact pw_ret h
              · exact pw_ret h
theorem iv_Reader_opOf {c d : Nat} {p0 : Int32} {X : St} (h : IKt o c d X) : pw (g_Reader_opOf p0 X) (fun _ Y => IKt o c d Y) := by
  unfold g_Reader_opOf
  refine pw_ite (fun _ => ?_) (fun _ => ?_)
  · exact pw_ret h
  · refine pw_ite (fun _ => ?_) (fun _ => ?_)
    · exact pw_ret h
    · refine pw_ite (fun _ => ?_) (fun _ => ?_)
      · exact pw_ret h
      · refine pw_ite (fun _ => ?_) (fun _ => ?_)
        · exact pw_ret h
        · refine pw_ite (fun _ => ?_) (fun _ => ?_)
          · exact pw_ret h
          · refine pw_ite (fun _ => ?_) (fun _ => ?_)
            · exact pw_ret h
            · exact pw_ret h
theorem iv_Reader_applyWaiting_11 {c d : Nat} (N : Nat) : ∀ (a_1 : Int32) (a_2 : Int32) (a_4 : Int32) (a_5 : Int32) (X : St), IKt o c d X → pw (g_Reader_applyWaiting_11 N a_1 a_2 a_4 a_5 X) (fun _ Y => IKt o c d Y) := by
  unfold g_Reader_applyWaiting_11
  refine lp_ind (P := fun (r : Int32 → Int32 → Int32 → Int32 → St → Option (Int32 × St)) => ∀ (a_1 : Int32) (a_2 : Int32) (a_4 : Int32) (a_5 : Int32) (X : St), IKt o c d X → pw (r a_1 a_2 a_4 a_5 X) (fun _ Y => IKt o c d Y)) (fun _ _ _ _ _ _ => pw_none) (fun r ih a_1 a_2 a_4 a_5 X h => ?_) N
  unfold g_Reader_applyWaiting_11_s
  refine pw_ite (fun _ => ?_) (fun _ => ?_)
  · exact pw_ret h
  · refine pw_ck (fun _ => ?_)
    refine pw_eq (fun x3 _ => ?_)
    refine pw_bd (iv_Reader_levelOf h) (fun x4 X5 dX5 => ?_)
    refine pw_ite (fun _ => ?_) (fun _ => ?_)
    · exact pw_ret dX5
    · refine pw_ck (fun _ => ?_)
      refine pw_eq (fun e6 ee6 => ?_)
      have pke6 : PEo o e6 := by rw [ee6]; exact dX5.pe
      refine pw_bd (iv_Reader_placeOf dX5) (fun x7 X8 dX8 => ?_)
      refine pw_bd (iv_Program_emit pke6 dX8) (fun x9 X10 dX10 => ?_)
      refine pw_ck (fun _ => ?_)
      refine pw_eq (fun e11 ee11 => ?_)
      have pke11 : PEo o e11 := by rw [ee11]; exact dX10.pe
      refine pw_ck (fun _ => ?_)
      refine pw_eq (fun x12 _ => ?_)
      refine pw_bd (iv_Reader_opOf dX10) (fun x13 X14 dX14 => ?_)
      refine pw_ck (fun _ => ?_)
      refine pw_eq (fun x15 _ => ?_)
      refine pw_bd (iv_Program_emit pke11 dX14) (fun x16 X17 dX17 => ?_)
      refine pw_ck (fun _ => ?_)
      refine pw_eq (fun x18 _ => ?_)
      refine pw_bd (iv_Reader_addStep dX17) (fun _ X19 dX19 => ?_)
      refine pw_eq (fun X20 eX20 => ?_)
      have dX20 : IKt o c d X20 := by rw [eX20]; exact dX19.w (Or.inr ⟨rfl, by decide⟩)
      refine pw_eq (fun x21 _ => ?_)
      exact ih _ _ _ _ _ dX20
theorem iv_Reader_applyWaiting {c d : Nat} {p1 : Int32} {p2 : Int32} {p3 : Int32} {X : St} (h : IKt o c d X) : pw (g_Reader_applyWaiting p1 p2 p3 X) (fun _ Y => IKt o c d Y) := by
  unfold g_Reader_applyWaiting
  refine pw_eq (fun x1 _ => ?_)
  refine pw_eq (fun x2 _ => ?_)
  exact iv_Reader_applyWaiting_11 _ _ _ _ _ _ h
theorem iv_Reader_pushWaiting {c d : Nat} {p1 : Int32} {X : St} (h : IKt o c d X) : pw (g_Reader_pushWaiting p1 X) (fun _ Y => IKt o c d Y) := by
  unfold g_Reader_pushWaiting
  refine pw_ck (fun _ => ?_)
  refine pw_eq (fun e1 ee1 => ?_)
  have pke1 : PEo o e1 := by rw [ee1]; exact h.pe
  refine pw_bd (iv_Reader_placeOf h) (fun x2 X3 dX3 => ?_)
  refine pw_bd (iv_Program_emit pke1 dX3) (fun x4 X5 dX5 => ?_)
  refine pw_eq (fun x6 _ => ?_)
  refine pw_ite (fun _ => ?_) (fun _ => ?_)
  · exact pw_ret dX5
  · refine pw_eq (fun x7 _ => ?_)
    refine pw_eq (fun x8 _ => ?_)
    refine pw_ck (fun _ => ?_)
    refine pw_eq (fun X9 eX9 => ?_)
    have dX9 : IKt o c d X9 := by rw [eX9]; exact dX5.w (Or.inl (rw_lit dX5.1.2 (by decide)))
    refine pw_eq (fun x10 _ => ?_)
    refine pw_eq (fun x11 _ => ?_)
    refine pw_ck (fun _ => ?_)
    refine pw_eq (fun X12 eX12 => ?_)
    have dX12 : IKt o c d X12 := by rw [eX12]; exact dX9.w (Or.inl (rw_lit dX9.1.2 (by decide)))
    refine pw_eq (fun x13 _ => ?_)
    refine pw_ck (fun _ => ?_)
    refine pw_eq (fun X14 eX14 => ?_)
    have dX14 : IKt o c d X14 := by rw [eX14]; exact dX12.w (Or.inl (rw_lit dX12.1.2 (by decide)))
    refine pw_eq (fun x15 _ => ?_)
    refine pw_eq (fun x16 _ => ?_)
    refine pw_eq (fun X17 eX17 => ?_)
    have dX17 : IKt o c d X17 := by rw [eX17]; exact dX14.w (Or.inr ⟨rfl, by decide⟩)
    exact pw_ret dX17
theorem iv_Reader_takePlace {c d : Nat} {v_takePrefix : Int32 → Int32 → St → Option (Int32 × St)} {v_takeE : St → Option (Int32 × St)} (hv_takePrefix : ∀ (q0 : Int32) (q1 : Int32) (X : St), IKt o c d X → pw (v_takePrefix q0 q1 X) (fun _ Y => IKt o c d Y)) (hv_takeE : ∀ (X : St), IKt o c d X → pw (v_takeE X) (fun _ Y => IKt o c d Y)) {X : St} (h : IKt o c d X) : pw (g_Reader_takePlace v_takePrefix v_takeE X) (fun _ Y => IKt o c d Y) := by
  unfold g_Reader_takePlace
  refine pw_eq (fun x1 _ => ?_)
  refine pw_ck (fun _ => ?_)
  refine pw_eq (fun e2 ee2 => ?_)
  have pke2 : PEo o e2 := by rw [ee2]; exact h.pe
  refine pw_bd (iv_Program_emit pke2 h) (fun x3 X4 dX4 => ?_)
  refine pw_bd (iv_Reader_enter dX4) (fun _ X5 dX5 => ?_)
  refine pw_bd (hv_takeE _ dX5) (fun x6 X7 dX7 => ?_)
  refine pw_ck (fun _ => ?_)
  refine pw_eq (fun e8 ee8 => ?_)
  have pke8 : PEo o e8 := by rw [ee8]; exact dX7.pe
  refine pw_bd (iv_Reader_placeOf dX7) (fun x9 X10 dX10 => ?_)
  refine pw_bd (iv_Program_emit pke8 dX10) (fun x11 X12 dX12 => ?_)
  refine pw_bd (iv_Reader_want dX12) (fun _ X13 dX13 => ?_)
  refine pw_eq (fun x14 _ => ?_)
  refine pw_eq (fun x15 _ => ?_)
  refine pw_eq (fun X16 eX16 => ?_)
  have dX16 : IKt o c d X16 := by rw [eX16]; exact dX13.w (Or.inr ⟨rfl, by decide⟩)
  refine pw_eq (fun x17 _ => ?_)
  refine pw_ite (fun _ => ?_) (fun _ => ?_)
  · refine pw_bd (iv_Reader_enter dX16) (fun _ X18 dX18 => ?_)
    refine pw_bd (hv_takeE _ dX18) (fun x19 X20 dX20 => ?_)
    refine pw_ck (fun _ => ?_)
    refine pw_eq (fun e21 ee21 => ?_)
    have pke21 : PEo o e21 := by rw [ee21]; exact dX20.pe
    refine pw_bd (iv_Reader_placeOf dX20) (fun x22 X23 dX23 => ?_)
    refine pw_bd (iv_Program_emit pke21 dX23) (fun x24 X25 dX25 => ?_)
    refine pw_ck (fun _ => ?_)
    refine pw_eq (fun e26 ee26 => ?_)
    have pke26 : PEo o e26 := by rw [ee26]; exact dX25.pe
    refine pw_bd (iv_Program_emit pke26 dX25) (fun x27 X28 dX28 => ?_)
    refine pw_eq (fun x29 _ => ?_)
    refine pw_eq (fun x30 _ => ?_)
    refine pw_eq (fun X31 eX31 => ?_)
    have dX31 : IKt o c d X31 := by rw [eX31]; exact dX28.w (Or.inr ⟨rfl, by decide⟩)
    exact pw_ret dX31
  · refine pw_ck (fun _ => ?_)
    refine pw_eq (fun e32 ee32 => ?_)
    have pke32 : PEo o e32 := by rw [ee32]; exact dX16.pe
    refine pw_bd (iv_Program_emit pke32 dX16) (fun x33 X34 dX34 => ?_)
    exact pw_ret dX34
theorem iv_Reader_takeBlock_68 {c d : Nat} {v_takePrefix : Int32 → Int32 → St → Option (Int32 × St)} {v_takeE : St → Option (Int32 × St)} (hv_takePrefix : ∀ (q0 : Int32) (q1 : Int32) (X : St), IKt o c d X → pw (v_takePrefix q0 q1 X) (fun _ Y => IKt o c d Y)) (hv_takeE : ∀ (X : St), IKt o c d X → pw (v_takeE X) (fun _ Y => IKt o c d Y)) {X : St} (h : IKt o c d X) : pw (g_Reader_takeBlock_68 v_takePrefix v_takeE X) (fun _ Y => IKt o c d Y) := by
  unfold g_Reader_takeBlock_68
  refine pw_bd (iv_Reader_want h) (fun _ X4 dX4 => ?_)
  refine pw_eq (fun x5 _ => ?_)
  refine pw_eq (fun x6 _ => ?_)
  refine pw_eq (fun X7 eX7 => ?_)
  have dX7 : IKt o c d X7 := by rw [eX7]; exact dX4.w (Or.inr ⟨rfl, by decide⟩)
  exact pw_ret dX7
theorem iv_Reader_takeBlock_13 {c d : Nat} {v_takePrefix : Int32 → Int32 → St → Option (Int32 × St)} {v_takeE : St → Option (Int32 × St)} (hv_takePrefix : ∀ (q0 : Int32) (q1 : Int32) (X : St), IKt o c d X → pw (v_takePrefix q0 q1 X) (fun _ Y => IKt o c d Y)) (hv_takeE : ∀ (X : St), IKt o c d X → pw (v_takeE X) (fun _ Y => IKt o c d Y)) (N : Nat) : ∀ (a_1 : Int32) (X : St), IKt o c d X → pw (g_Reader_takeBlock_13 v_takePrefix v_takeE N a_1 X) (fun _ Y => IKt o c d Y) := by
  unfold g_Reader_takeBlock_13
  refine lp_ind (P := fun (r : Int32 → St → Option (Int32 × St)) => ∀ (a_1 : Int32) (X : St), IKt o c d X → pw (r a_1 X) (fun _ Y => IKt o c d Y)) (fun _ _ _ => pw_none) (fun r ih a_1 X h => ?_) N
  unfold g_Reader_takeBlock_13_s
  refine pw_ite (fun _ => ?_) (fun _ => ?_)
  · exact iv_Reader_takeBlock_68 hv_takePrefix hv_takeE h
  · refine pw_eq (fun x8 _ => ?_)
    refine pw_ite (fun _ => ?_) (fun _ => ?_)
    · refine pw_ck (fun _ => ?_)
      refine pw_eq (fun e9 ee9 => ?_)
      have pke9 : PEo o e9 := by rw [ee9]; exact h.pe
      refine pw_eq (fun x10 _ => ?_)
      refine pw_bd (iv_Program_emit pke9 h) (fun x11 X12 dX12 => ?_)
      refine pw_bd (iv_Tokens_advance dX12) (fun _ X13 dX13 => ?_)
      refine pw_bd (hv_takeE _ dX13) (fun x14 X15 dX15 => ?_)
      refine pw_eq (fun x16 _ => ?_)
      exact ih _ _ dX15
    · exact iv_Reader_takeBlock_68 hv_takePrefix hv_takeE h
theorem iv_Reader_takeBlock {c d : Nat} {v_takePrefix : Int32 → Int32 → St → Option (Int32 × St)} {v_takeE : St → Option (Int32 × St)} (hv_takePrefix : ∀ (q0 : Int32) (q1 : Int32) (X : St), IKt o c d X → pw (v_takePrefix q0 q1 X) (fun _ Y => IKt o c d Y)) (hv_takeE : ∀ (X : St), IKt o c d X → pw (v_takeE X) (fun _ Y => IKt o c d Y)) {X : St} (h : IKt o c d X) : pw (g_Reader_takeBlock v_takePrefix v_takeE X) (fun _ Y => IKt o c d Y) := by
  unfold g_Reader_takeBlock
  refine pw_bd (iv_Reader_enter h) (fun _ X1 dX1 => ?_)
  refine pw_bd (hv_takeE _ dX1) (fun x2 X3 dX3 => ?_)
  exact iv_Reader_takeBlock_13 hv_takePrefix hv_takeE _ _ _ dX3
theorem iv_Reader_takeList_111 {c d : Nat} {v_takePrefix : Int32 → Int32 → St → Option (Int32 × St)} {v_takeE : St → Option (Int32 × St)} (hv_takePrefix : ∀ (q0 : Int32) (q1 : Int32) (X : St), IKt o c d X → pw (v_takePrefix q0 q1 X) (fun _ Y => IKt o c d Y)) (hv_takeE : ∀ (X : St), IKt o c d X → pw (v_takeE X) (fun _ Y => IKt o c d Y)) {a_1 : Int32} {a_4 : Int32} {X : St} (h : IKt o c d X) : pw (g_Reader_takeList_111 v_takePrefix v_takeE a_1 a_4 X) (fun _ Y => IKt o c d Y) := by
  unfold g_Reader_takeList_111
  refine pw_bd (iv_Reader_want h) (fun _ X3 dX3 => ?_)
  refine pw_eq (fun x4 _ => ?_)
  refine pw_eq (fun x5 _ => ?_)
  refine pw_eq (fun X6 eX6 => ?_)
  have dX6 : IKt o c d X6 := by rw [eX6]; exact dX3.w (Or.inr ⟨rfl, by decide⟩)
  exact pw_ret dX6
theorem iv_Reader_takeList_57 {c d : Nat} {v_takePrefix : Int32 → Int32 → St → Option (Int32 × St)} {v_takeE : St → Option (Int32 × St)} {r17 : Int32 → Int32 → Int32 → Int32 → Int32 → St → Option (Int32 × St)} (hv_takePrefix : ∀ (q0 : Int32) (q1 : Int32) (X : St), IKt o c d X → pw (v_takePrefix q0 q1 X) (fun _ Y => IKt o c d Y)) (hv_takeE : ∀ (X : St), IKt o c d X → pw (v_takeE X) (fun _ Y => IKt o c d Y)) (hr17 : ∀ (q0 : Int32) (q1 : Int32) (q2 : Int32) (q3 : Int32) (q4 : Int32) (X : St), IKt o c d X → pw (r17 q0 q1 q2 q3 q4 X) (fun _ Y => IKt o c d Y)) {a_1 : Int32} {a_2 : Int32} {a_3 : Int32} {a_4 : Int32} {a_5 : Int32} {X : St} (h : IKt o c d X) : pw (g_Reader_takeList_57 v_takePrefix v_takeE r17 a_1 a_2 a_3 a_4 a_5 X) (fun _ Y => IKt o c d Y) := by
  unfold g_Reader_takeList_57
  refine pw_bd (hv_takeE _ h) (fun x7 X8 dX8 => ?_)
  refine pw_ck (fun _ => ?_)
  refine pw_eq (fun e9 ee9 => ?_)
  have pke9 : PEo o e9 := by rw [ee9]; exact dX8.pe
  refine pw_bd (iv_Reader_placeOf dX8) (fun x10 X11 dX11 => ?_)
  refine pw_bd (iv_Program_emit pke9 dX11) (fun x12 X13 dX13 => ?_)
  refine pw_eq (fun x14 _ => ?_)
  refine pw_eq (fun x15 _ => ?_)
  refine pw_ite (fun _ => ?_) (fun _ => ?_)
  · refine pw_bd (iv_Tokens_advance dX13) (fun _ X16 dX16 => ?_)
    refine pw_eq (fun x17 _ => ?_)
    exact hr17 _ _ _ _ _ _ dX16
  · exact iv_Reader_takeList_111 hv_takePrefix hv_takeE dX13
theorem iv_Reader_takeList_39 {c d : Nat} {v_takePrefix : Int32 → Int32 → St → Option (Int32 × St)} {v_takeE : St → Option (Int32 × St)} {r17 : Int32 → Int32 → Int32 → Int32 → Int32 → St → Option (Int32 × St)} (hv_takePrefix : ∀ (q0 : Int32) (q1 : Int32) (X : St), IKt o c d X → pw (v_takePrefix q0 q1 X) (fun _ Y => IKt o c d Y)) (hv_takeE : ∀ (X : St), IKt o c d X → pw (v_takeE X) (fun _ Y => IKt o c d Y)) (hr17 : ∀ (q0 : Int32) (q1 : Int32) (q2 : Int32) (q3 : Int32) (q4 : Int32) (X : St), IKt o c d X → pw (r17 q0 q1 q2 q3 q4 X) (fun _ Y => IKt o c d Y)) {a_1 : Int32} {a_2 : Int32} {a_3 : Int32} {a_4 : Int32} {a_5 : Int32} {X : St} (h : IKt o c d X) : pw (g_Reader_takeList_39 v_takePrefix v_takeE r17 a_1 a_2 a_3 a_4 a_5 X) (fun _ Y => IKt o c d Y) := by
  unfold g_Reader_takeList_39
  refine pw_ite (fun _ => ?_) (fun _ => ?_)
  · exact iv_Reader_takeList_57 hv_takePrefix hv_takeE hr17 h
  · refine pw_bd (iv_Reader_beginsE h) (fun x18 X19 dX19 => ?_)
    refine pw_ite (fun _ => ?_) (fun _ => ?_)
    · exact iv_Reader_takeList_57 hv_takePrefix hv_takeE hr17 dX19
    · refine pw_bd (iv_Reader_refuse dX19) (fun _ X20 dX20 => ?_)
      exact iv_Reader_takeList_57 hv_takePrefix hv_takeE hr17 dX20
theorem iv_Reader_takeList_17 {c d : Nat} {v_takePrefix : Int32 → Int32 → St → Option (Int32 × St)} {v_takeE : St → Option (Int32 × St)} (hv_takePrefix : ∀ (q0 : Int32) (q1 : Int32) (X : St), IKt o c d X → pw (v_takePrefix q0 q1 X) (fun _ Y => IKt o c d Y)) (hv_takeE : ∀ (X : St), IKt o c d X → pw (v_takeE X) (fun _ Y => IKt o c d Y)) (N : Nat) : ∀ (a_1 : Int32) (a_2 : Int32) (a_3 : Int32) (a_4 : Int32) (a_5 : Int32) (X : St), IKt o c d X → pw (g_Reader_takeList_17 v_takePrefix v_takeE N a_1 a_2 a_3 a_4 a_5 X) (fun _ Y => IKt o c d Y) := by
  unfold g_Reader_takeList_17
  refine lp_ind (P := fun (r : Int32 → Int32 → Int32 → Int32 → Int32 → St → Option (Int32 × St)) => ∀ (a_1 : Int32) (a_2 : Int32) (a_3 : Int32) (a_4 : Int32) (a_5 : Int32) (X : St), IKt o c d X → pw (r a_1 a_2 a_3 a_4 a_5 X) (fun _ Y => IKt o c d Y)) (fun _ _ _ _ _ _ _ => pw_none) (fun r ih a_1 a_2 a_3 a_4 a_5 X h => ?_) N
  unfold g_Reader_takeList_17_s
  refine pw_ite (fun _ => ?_) (fun _ => ?_)
  · exact iv_Reader_takeList_111 hv_takePrefix hv_takeE h
  · refine pw_ite (fun _ => ?_) (fun _ => ?_)
    · exact iv_Reader_takeList_39 hv_takePrefix hv_takeE ih h
    · refine pw_eq (fun x21 _ => ?_)
      refine pw_ite (fun _ => ?_) (fun _ => ?_)
      · exact iv_Reader_takeList_111 hv_takePrefix hv_takeE h
      · exact iv_Reader_takeList_39 hv_takePrefix hv_takeE ih h
theorem iv_Reader_takeList {c d : Nat} {v_takePrefix : Int32 → Int32 → St → Option (Int32 × St)} {v_takeE : St → Option (Int32 × St)} (hv_takePrefix : ∀ (q0 : Int32) (q1 : Int32) (X : St), IKt o c d X → pw (v_takePrefix q0 q1 X) (fun _ Y => IKt o c d Y)) (hv_takeE : ∀ (X : St), IKt o c d X → pw (v_takeE X) (fun _ Y => IKt o c d Y)) {p1 : Int32} {p2 : Int32} {p3 : Int32} {X : St} (h : IKt o c d X) : pw (g_Reader_takeList v_takePrefix v_takeE p1 p2 p3 X) (fun _ Y => IKt o c d Y) := by
  unfold g_Reader_takeList
  refine pw_eq (fun x1 _ => ?_)
  refine pw_bd (iv_Reader_enter h) (fun _ X2 dX2 => ?_)
  exact iv_Reader_takeList_17 hv_takePrefix hv_takeE _ _ _ _ _ _ _ dX2
theorem iv_Reader_takeCall {c d : Nat} {v_takePrefix : Int32 → Int32 → St → Option (Int32 × St)} {v_takeE : St → Option (Int32 × St)} (hv_takePrefix : ∀ (q0 : Int32) (q1 : Int32) (X : St), IKt o c d X → pw (v_takePrefix q0 q1 X) (fun _ Y => IKt o c d Y)) (hv_takeE : ∀ (X : St), IKt o c d X → pw (v_takeE X) (fun _ Y => IKt o c d Y)) {p1 : Int32} {X : St} (h : IKt o c d X) : pw (g_Reader_takeCall v_takePrefix v_takeE p1 X) (fun _ Y => IKt o c d Y) := by
  unfold g_Reader_takeCall
  refine pw_eq (fun x1 _ => ?_)
  refine pw_ck (fun _ => ?_)
  refine pw_eq (fun e2 ee2 => ?_)
  have pke2 : PEo o e2 := by rw [ee2]; exact h.pe
  refine pw_bd (iv_Program_emit pke2 h) (fun x3 X4 dX4 => ?_)
  refine pw_bd (iv_Reader_takeList hv_takePrefix hv_takeE dX4) (fun x5 X6 dX6 => ?_)
  refine pw_ck (fun _ => ?_)
  refine pw_eq (fun e7 ee7 => ?_)
  have pke7 : PEo o e7 := by rw [ee7]; exact dX6.pe
  refine pw_eq (fun e8 ee8 => ?_)
  have rw_e8 : RWo o e8 := by rw [ee8]; exact pke7.ky (by decide)
  refine pw_ck (fun _ => ?_)
  refine pw_eq (fun X9 eX9 => ?_)
  have dX9 : IKt o c d X9 := by rw [eX9]; exact dX6.w (Or.inl rw_e8)
  refine pw_ck (fun _ => ?_)
  refine pw_eq (fun e10 ee10 => ?_)
  have pke10 : PEo o e10 := by rw [ee10]; exact dX9.pe
  refine pw_bd (iv_Program_emit pke10 dX9) (fun x11 X12 dX12 => ?_)
  exact pw_ret dX12
theorem iv_Reader_takeWork {c d : Nat} {v_takePrefix : Int32 → Int32 → St → Option (Int32 × St)} {v_takeE : St → Option (Int32 × St)} (hv_takePrefix : ∀ (q0 : Int32) (q1 : Int32) (X : St), IKt o c d X → pw (v_takePrefix q0 q1 X) (fun _ Y => IKt o c d Y)) (hv_takeE : ∀ (X : St), IKt o c d X → pw (v_takeE X) (fun _ Y => IKt o c d Y)) {p1 : Int32} {p2 : Int32} {X : St} (h : IKt o c d X) : pw (g_Reader_takeWork v_takePrefix v_takeE p1 p2 X) (fun _ Y => IKt o c d Y) := by
  unfold g_Reader_takeWork
  refine pw_eq (fun x1 _ => ?_)
  refine pw_bd (iv_Tokens_advance h) (fun _ X2 dX2 => ?_)
  refine pw_bd (iv_Reader_enter dX2) (fun _ X3 dX3 => ?_)
  refine pw_bd (hv_takeE _ dX3) (fun x4 X5 dX5 => ?_)
  refine pw_ck (fun _ => ?_)
  refine pw_eq (fun e6 ee6 => ?_)
  have pke6 : PEo o e6 := by rw [ee6]; exact dX5.pe
  refine pw_bd (iv_Reader_placeOf dX5) (fun x7 X8 dX8 => ?_)
  refine pw_bd (iv_Program_emit pke6 dX8) (fun x9 X10 dX10 => ?_)
  refine pw_bd (iv_Reader_want dX10) (fun _ X11 dX11 => ?_)
  refine pw_eq (fun x12 _ => ?_)
  refine pw_eq (fun x13 _ => ?_)
  refine pw_eq (fun X14 eX14 => ?_)
  have dX14 : IKt o c d X14 := by rw [eX14]; exact dX11.w (Or.inr ⟨rfl, by decide⟩)
  refine pw_ck (fun _ => ?_)
  refine pw_eq (fun e15 ee15 => ?_)
  have pke15 : PEo o e15 := by rw [ee15]; exact dX14.pe
  refine pw_bd (iv_Program_emit pke15 dX14) (fun x16 X17 dX17 => ?_)
  exact pw_ret dX17
theorem iv_Reader_takeNew {c d : Nat} {v_takePrefix : Int32 → Int32 → St → Option (Int32 × St)} {v_takeE : St → Option (Int32 × St)} (hv_takePrefix : ∀ (q0 : Int32) (q1 : Int32) (X : St), IKt o c d X → pw (v_takePrefix q0 q1 X) (fun _ Y => IKt o c d Y)) (hv_takeE : ∀ (X : St), IKt o c d X → pw (v_takeE X) (fun _ Y => IKt o c d Y)) {X : St} (h : IKt o c d X) : pw (g_Reader_takeNew v_takePrefix v_takeE X) (fun _ Y => IKt o c d Y) := by
  unfold g_Reader_takeNew
  refine pw_eq (fun x1 _ => ?_)
  refine pw_bd (iv_Tokens_advance h) (fun _ X2 dX2 => ?_)
  refine pw_bd (iv_Reader_enter dX2) (fun _ X3 dX3 => ?_)
  refine pw_bd (hv_takeE _ dX3) (fun x4 X5 dX5 => ?_)
  refine pw_ck (fun _ => ?_)
  refine pw_eq (fun e6 ee6 => ?_)
  have pke6 : PEo o e6 := by rw [ee6]; exact dX5.pe
  refine pw_bd (iv_Reader_placeOf dX5) (fun x7 X8 dX8 => ?_)
  refine pw_bd (iv_Program_emit pke6 dX8) (fun x9 X10 dX10 => ?_)
  refine pw_bd (iv_Reader_want dX10) (fun _ X11 dX11 => ?_)
  refine pw_bd (hv_takeE _ dX11) (fun x12 X13 dX13 => ?_)
  refine pw_bd (iv_Reader_want dX13) (fun _ X14 dX14 => ?_)
  refine pw_eq (fun x15 _ => ?_)
  refine pw_eq (fun x16 _ => ?_)
  refine pw_eq (fun X17 eX17 => ?_)
  have dX17 : IKt o c d X17 := by rw [eX17]; exact dX14.w (Or.inr ⟨rfl, by decide⟩)
  refine pw_ck (fun _ => ?_)
  refine pw_eq (fun e18 ee18 => ?_)
  have pke18 : PEo o e18 := by rw [ee18]; exact dX17.pe
  refine pw_bd (iv_Program_emit pke18 dX17) (fun x19 X20 dX20 => ?_)
  exact pw_ret dX20
theorem iv_Reader_takeB_134 {c d : Nat} {v_takePrefix : Int32 → Int32 → St → Option (Int32 × St)} {v_takeE : St → Option (Int32 × St)} (hv_takePrefix : ∀ (q0 : Int32) (q1 : Int32) (X : St), IKt o c d X → pw (v_takePrefix q0 q1 X) (fun _ Y => IKt o c d Y)) (hv_takeE : ∀ (X : St), IKt o c d X → pw (v_takeE X) (fun _ Y => IKt o c d Y)) {a_1 : Int32} {b_0 : Int32} {b_1 : Int32} {g_2 : Nat} (p_g_2 : PEo o g_2) {X : St} (h : IKt o c d X) : pw (g_Reader_takeB_134 v_takePrefix v_takeE a_1 b_0 b_1 g_2 X) (fun _ Y => IKt o c d Y) := by
  unfold g_Reader_takeB_134
  refine pw_eq (fun x29 _ => ?_)
  refine pw_bd (iv_Program_emit p_g_2 h) (fun x30 X31 dX31 => ?_)
  refine pw_bd (iv_Tokens_advance dX31) (fun _ X32 dX32 => ?_)
  exact pw_ret dX32
theorem iv_Reader_takeB {c d : Nat} {v_takePrefix : Int32 → Int32 → St → Option (Int32 × St)} {v_takeE : St → Option (Int32 × St)} (hv_takePrefix : ∀ (q0 : Int32) (q1 : Int32) (X : St), IKt o c d X → pw (v_takePrefix q0 q1 X) (fun _ Y => IKt o c d Y)) (hv_takeE : ∀ (X : St), IKt o c d X → pw (v_takeE X) (fun _ Y => IKt o c d Y)) {X : St} (h : IKt o c d X) : pw (g_Reader_takeB v_takePrefix v_takeE X) (fun _ Y => IKt o c d Y) := by
  unfold g_Reader_takeB
  refine pw_bd (iv_Reader_emitStep h) (fun x1 X2 dX2 => ?_)
  refine pw_eq (fun x3 _ => ?_)
  refine pw_ite (fun _ => ?_) (fun _ => ?_)
  · refine pw_bd (iv_Reader_enter dX2) (fun _ X5 dX5 => ?_)
    refine pw_bd (hv_takeE _ dX5) (fun x6 X7 dX7 => ?_)
    refine pw_bd (iv_Reader_want dX7) (fun _ X8 dX8 => ?_)
    refine pw_eq (fun x9 _ => ?_)
    refine pw_eq (fun x10 _ => ?_)
    refine pw_eq (fun X11 eX11 => ?_)
    have dX11 : IKt o c d X11 := by rw [eX11]; exact dX8.w (Or.inr ⟨rfl, by decide⟩)
    exact pw_ret dX11
  · refine pw_ite (fun _ => ?_) (fun _ => ?_)
    · refine pw_ck (fun _ => ?_)
      refine pw_eq (fun e13 ee13 => ?_)
      have pke13 : PEo o e13 := by rw [ee13]; exact dX2.pe
      refine pw_bd (iv_Reader_takeList hv_takePrefix hv_takeE dX2) (fun x14 X15 dX15 => ?_)
      refine pw_bd (iv_Reader_placeOf dX15) (fun x16 X17 dX17 => ?_)
      refine pw_bd (iv_Program_emit pke13 dX17) (fun x18 X19 dX19 => ?_)
      exact pw_ret dX19
    · refine pw_ite (fun _ => ?_) (fun _ => ?_)
      · refine pw_bd (iv_Reader_takeBlock hv_takePrefix hv_takeE dX2) (fun _ X21 dX21 => ?_)
        exact pw_ret dX21
      · refine pw_ite (fun _ => ?_) (fun _ => ?_)
        · refine pw_bd (iv_Reader_takeName dX2) (fun _ X23 dX23 => ?_)
          exact pw_ret dX23
        · refine pw_ite (fun _ => ?_) (fun _ => ?_)
          · refine pw_bd (iv_Reader_takeDigits dX2) (fun _ X25 dX25 => ?_)
            exact pw_ret dX25
          · refine pw_ite (fun _ => ?_) (fun _ => ?_)
            · refine pw_ck (fun _ => ?_)
              refine pw_eq (fun e27 ee27 => ?_)
              have pke27 : PEo o e27 := by rw [ee27]; exact dX2.pe
              refine pw_eq (fun x28 _ => ?_)
              refine pw_ite (fun _ => ?_) (fun _ => ?_)
              · exact iv_Reader_takeB_134 hv_takePrefix hv_takeE pke27 dX2
              · exact iv_Reader_takeB_134 hv_takePrefix hv_takeE pke27 dX2
            · refine pw_ite (fun _ => ?_) (fun _ => ?_)
              · refine pw_ck (fun _ => ?_)
                refine pw_eq (fun e34 ee34 => ?_)
                have pke34 : PEo o e34 := by rw [ee34]; exact dX2.pe
                refine pw_eq (fun x35 _ => ?_)
                refine pw_ite (fun _ => ?_) (fun _ => ?_)
                · exact iv_Reader_takeB_134 hv_takePrefix hv_takeE pke34 dX2
                · exact iv_Reader_takeB_134 hv_takePrefix hv_takeE pke34 dX2
              · refine pw_ite (fun _ => ?_) (fun _ => ?_)
                · refine pw_bd (iv_Reader_takeNew hv_takePrefix hv_takeE dX2) (fun _ X37 dX37 => ?_)
                  exact pw_ret dX37
                · refine pw_ite (fun _ => ?_) (fun _ => ?_)
                  · refine pw_bd (iv_Reader_takeWork hv_takePrefix hv_takeE dX2) (fun _ X39 dX39 => ?_)
                    exact pw_ret dX39
                  · refine pw_ite (fun _ => ?_) (fun _ => ?_)
                    · refine pw_bd (iv_Reader_takeWork hv_takePrefix hv_takeE dX2) (fun _ X41 dX41 => ?_)
                      exact pw_ret dX41
                    · refine pw_bd (iv_Reader_refuse dX2) (fun _ X42 dX42 => ?_)
                      exact pw_ret dX42
theorem iv_Reader_takeU_181 {c d : Nat} {v_takePrefix : Int32 → Int32 → St → Option (Int32 × St)} {v_takeE : St → Option (Int32 × St)} {r86 : Int32 → Int32 → Int32 → Int32 → St → Option (Int32 × St)} (hv_takePrefix : ∀ (q0 : Int32) (q1 : Int32) (X : St), IKt o c d X → pw (v_takePrefix q0 q1 X) (fun _ Y => IKt o c d Y)) (hv_takeE : ∀ (X : St), IKt o c d X → pw (v_takeE X) (fun _ Y => IKt o c d Y)) (hr86 : ∀ (q0 : Int32) (q1 : Int32) (q2 : Int32) (q3 : Int32) (X : St), IKt o c d X → pw (r86 q0 q1 q2 q3 X) (fun _ Y => IKt o c d Y)) {a_1 : Int32} {a_2 : Int32} {a_3 : Int32} {a_4 : Int32} {X : St} (h : IKt o c d X) : pw (g_Reader_takeU_181 v_takePrefix v_takeE r86 a_1 a_2 a_3 a_4 X) (fun _ Y => IKt o c d Y) := by
  unfold g_Reader_takeU_181
  refine pw_eq (fun x11 _ => ?_)
  exact hr86 _ _ _ _ _ h
theorem iv_Reader_takeU_170 {c d : Nat} {v_takePrefix : Int32 → Int32 → St → Option (Int32 × St)} {v_takeE : St → Option (Int32 × St)} {r86 : Int32 → Int32 → Int32 → Int32 → St → Option (Int32 × St)} (hv_takePrefix : ∀ (q0 : Int32) (q1 : Int32) (X : St), IKt o c d X → pw (v_takePrefix q0 q1 X) (fun _ Y => IKt o c d Y)) (hv_takeE : ∀ (X : St), IKt o c d X → pw (v_takeE X) (fun _ Y => IKt o c d Y)) (hr86 : ∀ (q0 : Int32) (q1 : Int32) (q2 : Int32) (q3 : Int32) (X : St), IKt o c d X → pw (r86 q0 q1 q2 q3 X) (fun _ Y => IKt o c d Y)) {a_1 : Int32} {a_2 : Int32} {a_3 : Int32} {a_4 : Int32} {b_0 : Int32} {X : St} (h : IKt o c d X) : pw (g_Reader_takeU_170 v_takePrefix v_takeE r86 a_1 a_2 a_3 a_4 b_0 X) (fun _ Y => IKt o c d Y) := by
  unfold g_Reader_takeU_170
  refine pw_bd (iv_Reader_takeCall hv_takePrefix hv_takeE h) (fun _ X12 dX12 => ?_)
  exact iv_Reader_takeU_181 hv_takePrefix hv_takeE hr86 dX12
theorem iv_Reader_takeU_168 {c d : Nat} {v_takePrefix : Int32 → Int32 → St → Option (Int32 × St)} {v_takeE : St → Option (Int32 × St)} {r86 : Int32 → Int32 → Int32 → Int32 → St → Option (Int32 × St)} (hv_takePrefix : ∀ (q0 : Int32) (q1 : Int32) (X : St), IKt o c d X → pw (v_takePrefix q0 q1 X) (fun _ Y => IKt o c d Y)) (hv_takeE : ∀ (X : St), IKt o c d X → pw (v_takeE X) (fun _ Y => IKt o c d Y)) (hr86 : ∀ (q0 : Int32) (q1 : Int32) (q2 : Int32) (q3 : Int32) (X : St), IKt o c d X → pw (r86 q0 q1 q2 q3 X) (fun _ Y => IKt o c d Y)) {a_1 : Int32} {a_2 : Int32} {a_3 : Int32} {a_4 : Int32} {X : St} (h : IKt o c d X) : pw (g_Reader_takeU_168 v_takePrefix v_takeE r86 a_1 a_2 a_3 a_4 X) (fun _ Y => IKt o c d Y) := by
  unfold g_Reader_takeU_168
  exact iv_Reader_takeU_170 hv_takePrefix hv_takeE hr86 h
theorem iv_Reader_takeU_121 {c d : Nat} {v_takePrefix : Int32 → Int32 → St → Option (Int32 × St)} {v_takeE : St → Option (Int32 × St)} {r86 : Int32 → Int32 → Int32 → Int32 → St → Option (Int32 × St)} (hv_takePrefix : ∀ (q0 : Int32) (q1 : Int32) (X : St), IKt o c d X → pw (v_takePrefix q0 q1 X) (fun _ Y => IKt o c d Y)) (hv_takeE : ∀ (X : St), IKt o c d X → pw (v_takeE X) (fun _ Y => IKt o c d Y)) (hr86 : ∀ (q0 : Int32) (q1 : Int32) (q2 : Int32) (q3 : Int32) (X : St), IKt o c d X → pw (r86 q0 q1 q2 q3 X) (fun _ Y => IKt o c d Y)) {a_1 : Int32} {a_2 : Int32} {a_3 : Int32} {a_4 : Int32} {X : St} (h : IKt o c d X) : pw (g_Reader_takeU_121 v_takePrefix v_takeE r86 a_1 a_2 a_3 a_4 X) (fun _ Y => IKt o c d Y) := by
  unfold g_Reader_takeU_121
  refine pw_bd (iv_Reader_addStep h) (fun _ X7 dX7 => ?_)
  refine pw_ite (fun _ => ?_) (fun _ => ?_)
  · refine pw_eq (fun x8 _ => ?_)
    refine pw_ite (fun _ => ?_) (fun _ => ?_)
    · refine pw_ite (fun _ => ?_) (fun _ => ?_)
      · exact iv_Reader_takeU_168 hv_takePrefix hv_takeE hr86 dX7
      · refine pw_ite (fun _ => ?_) (fun _ => ?_)
        · exact iv_Reader_takeU_170 hv_takePrefix hv_takeE hr86 dX7
        · exact iv_Reader_takeU_168 hv_takePrefix hv_takeE hr86 dX7
    · refine pw_bd (iv_Reader_takePlace hv_takePrefix hv_takeE dX7) (fun x9 X10 dX10 => ?_)
      exact iv_Reader_takeU_181 hv_takePrefix hv_takeE hr86 dX10
  · refine pw_bd (iv_Reader_refuse dX7) (fun _ X13 dX13 => ?_)
    exact iv_Reader_takeU_181 hv_takePrefix hv_takeE hr86 dX13
theorem iv_Reader_takeU_86 {c d : Nat} {v_takePrefix : Int32 → Int32 → St → Option (Int32 × St)} {v_takeE : St → Option (Int32 × St)} (hv_takePrefix : ∀ (q0 : Int32) (q1 : Int32) (X : St), IKt o c d X → pw (v_takePrefix q0 q1 X) (fun _ Y => IKt o c d Y)) (hv_takeE : ∀ (X : St), IKt o c d X → pw (v_takeE X) (fun _ Y => IKt o c d Y)) (N : Nat) : ∀ (a_1 : Int32) (a_2 : Int32) (a_3 : Int32) (a_4 : Int32) (X : St), IKt o c d X → pw (g_Reader_takeU_86 v_takePrefix v_takeE N a_1 a_2 a_3 a_4 X) (fun _ Y => IKt o c d Y) := by
  unfold g_Reader_takeU_86
  refine lp_ind (P := fun (r : Int32 → Int32 → Int32 → Int32 → St → Option (Int32 × St)) => ∀ (a_1 : Int32) (a_2 : Int32) (a_3 : Int32) (a_4 : Int32) (X : St), IKt o c d X → pw (r a_1 a_2 a_3 a_4 X) (fun _ Y => IKt o c d Y)) (fun _ _ _ _ _ _ => pw_none) (fun r ih a_1 a_2 a_3 a_4 X h => ?_) N
  unfold g_Reader_takeU_86_s
  refine pw_ite (fun _ => ?_) (fun _ => ?_)
  · exact pw_ret h
  · refine pw_ite (fun _ => ?_) (fun _ => ?_)
    · refine pw_eq (fun x6 _ => ?_)
      refine pw_ite (fun _ => ?_) (fun _ => ?_)
      · exact iv_Reader_takeU_121 hv_takePrefix hv_takeE ih h
      · refine pw_eq (fun x14 _ => ?_)
        refine pw_ite (fun _ => ?_) (fun _ => ?_)
        · exact iv_Reader_takeU_121 hv_takePrefix hv_takeE ih h
        · exact pw_ret h
    · exact pw_ret h
theorem iv_Reader_takeU_75 {c d : Nat} {v_takePrefix : Int32 → Int32 → St → Option (Int32 × St)} {v_takeE : St → Option (Int32 × St)} (hv_takePrefix : ∀ (q0 : Int32) (q1 : Int32) (X : St), IKt o c d X → pw (v_takePrefix q0 q1 X) (fun _ Y => IKt o c d Y)) (hv_takeE : ∀ (X : St), IKt o c d X → pw (v_takeE X) (fun _ Y => IKt o c d Y)) {b_0 : Int32} {X : St} (h : IKt o c d X) : pw (g_Reader_takeU_75 v_takePrefix v_takeE b_0 X) (fun _ Y => IKt o c d Y) := by
  unfold g_Reader_takeU_75
  refine pw_bd (iv_Reader_takeB hv_takePrefix hv_takeE h) (fun x4 X5 dX5 => ?_)
  exact iv_Reader_takeU_86 hv_takePrefix hv_takeE _ _ _ _ _ _ dX5
theorem iv_Reader_takeU_74 {c d : Nat} {v_takePrefix : Int32 → Int32 → St → Option (Int32 × St)} {v_takeE : St → Option (Int32 × St)} (hv_takePrefix : ∀ (q0 : Int32) (q1 : Int32) (X : St), IKt o c d X → pw (v_takePrefix q0 q1 X) (fun _ Y => IKt o c d Y)) (hv_takeE : ∀ (X : St), IKt o c d X → pw (v_takeE X) (fun _ Y => IKt o c d Y)) {X : St} (h : IKt o c d X) : pw (g_Reader_takeU_74 v_takePrefix v_takeE X) (fun _ Y => IKt o c d Y) := by
  unfold g_Reader_takeU_74
  exact iv_Reader_takeU_75 hv_takePrefix hv_takeE h
theorem iv_Reader_takeU {c d : Nat} {v_takePrefix : Int32 → Int32 → St → Option (Int32 × St)} {v_takeE : St → Option (Int32 × St)} (hv_takePrefix : ∀ (q0 : Int32) (q1 : Int32) (X : St), IKt o c d X → pw (v_takePrefix q0 q1 X) (fun _ Y => IKt o c d Y)) (hv_takeE : ∀ (X : St), IKt o c d X → pw (v_takeE X) (fun _ Y => IKt o c d Y)) {X : St} (h : IKt o c d X) : pw (g_Reader_takeU v_takePrefix v_takeE X) (fun _ Y => IKt o c d Y) := by
  unfold g_Reader_takeU
  refine pw_eq (fun x1 _ => ?_)
  refine pw_ite (fun _ => ?_) (fun _ => ?_)
  · refine pw_bd (hv_takePrefix _ _ _ h) (fun x20 X21 dX21 => ?_)
    exact pw_ret dX21
  · refine pw_eq (fun x2 _ => ?_)
    refine pw_ite (fun _ => ?_) (fun _ => ?_)
    · refine pw_bd (hv_takePrefix _ _ _ h) (fun x18 X19 dX19 => ?_)
      exact pw_ret dX19
    · refine pw_eq (fun x3 _ => ?_)
      refine pw_ite (fun _ => ?_) (fun _ => ?_)
      · refine pw_eq (fun y15 _ => ?_)
        refine pw_bd (iv_Reader_slotOf h) (fun x16 X17 dX17 => ?_)
        refine pw_ite (fun _ => ?_) (fun _ => ?_)
        · exact iv_Reader_takeU_75 hv_takePrefix hv_takeE dX17
        · exact iv_Reader_takeU_74 hv_takePrefix hv_takeE dX17
      · exact iv_Reader_takeU_74 hv_takePrefix hv_takeE h
theorem iv_Reader_takeC_169 {c d : Nat} {v_takePrefix : Int32 → Int32 → St → Option (Int32 × St)} {v_takeE : St → Option (Int32 × St)} (hv_takePrefix : ∀ (q0 : Int32) (q1 : Int32) (X : St), IKt o c d X → pw (v_takePrefix q0 q1 X) (fun _ Y => IKt o c d Y)) (hv_takeE : ∀ (X : St), IKt o c d X → pw (v_takeE X) (fun _ Y => IKt o c d Y)) {a_1 : Int32} {a_5 : Int32} {X : St} (h : IKt o c d X) : pw (g_Reader_takeC_169 v_takePrefix v_takeE a_1 a_5 X) (fun _ Y => IKt o c d Y) := by
  unfold g_Reader_takeC_169
  refine pw_bd (iv_Reader_applyWaiting h) (fun x4 X5 dX5 => ?_)
  exact pw_ret dX5
theorem iv_Reader_takeC_144 {c d : Nat} {v_takePrefix : Int32 → Int32 → St → Option (Int32 × St)} {v_takeE : St → Option (Int32 × St)} {r21 : Int32 → Int32 → Int32 → Int32 → Int32 → Int32 → St → Option (Int32 × St)} (hv_takePrefix : ∀ (q0 : Int32) (q1 : Int32) (X : St), IKt o c d X → pw (v_takePrefix q0 q1 X) (fun _ Y => IKt o c d Y)) (hv_takeE : ∀ (X : St), IKt o c d X → pw (v_takeE X) (fun _ Y => IKt o c d Y)) (hr21 : ∀ (q0 : Int32) (q1 : Int32) (q2 : Int32) (q3 : Int32) (q4 : Int32) (q5 : Int32) (X : St), IKt o c d X → pw (r21 q0 q1 q2 q3 q4 q5 X) (fun _ Y => IKt o c d Y)) {a_1 : Int32} {a_2 : Int32} {a_3 : Int32} {a_4 : Int32} {a_5 : Int32} {a_6 : Int32} {X : St} (h : IKt o c d X) : pw (g_Reader_takeC_144 v_takePrefix v_takeE r21 a_1 a_2 a_3 a_4 a_5 a_6 X) (fun _ Y => IKt o c d Y) := by
  unfold g_Reader_takeC_144
  refine pw_bd (iv_Reader_pushWaiting h) (fun _ X12 dX12 => ?_)
  refine pw_bd (iv_Tokens_advance dX12) (fun _ X13 dX13 => ?_)
  refine pw_bd (iv_Reader_takeU hv_takePrefix hv_takeE dX13) (fun x14 X15 dX15 => ?_)
  refine pw_eq (fun x16 _ => ?_)
  exact hr21 _ _ _ _ _ _ _ dX15
theorem iv_Reader_takeC_139 {c d : Nat} {v_takePrefix : Int32 → Int32 → St → Option (Int32 × St)} {v_takeE : St → Option (Int32 × St)} {r21 : Int32 → Int32 → Int32 → Int32 → Int32 → Int32 → St → Option (Int32 × St)} (hv_takePrefix : ∀ (q0 : Int32) (q1 : Int32) (X : St), IKt o c d X → pw (v_takePrefix q0 q1 X) (fun _ Y => IKt o c d Y)) (hv_takeE : ∀ (X : St), IKt o c d X → pw (v_takeE X) (fun _ Y => IKt o c d Y)) (hr21 : ∀ (q0 : Int32) (q1 : Int32) (q2 : Int32) (q3 : Int32) (q4 : Int32) (q5 : Int32) (X : St), IKt o c d X → pw (r21 q0 q1 q2 q3 q4 q5 X) (fun _ Y => IKt o c d Y)) {a_1 : Int32} {a_2 : Int32} {a_3 : Int32} {a_4 : Int32} {a_5 : Int32} {a_6 : Int32} {X : St} (h : IKt o c d X) : pw (g_Reader_takeC_139 v_takePrefix v_takeE r21 a_1 a_2 a_3 a_4 a_5 a_6 X) (fun _ Y => IKt o c d Y) := by
  unfold g_Reader_takeC_139
  refine pw_bd (iv_Reader_refuse h) (fun _ X11 dX11 => ?_)
  exact iv_Reader_takeC_144 hv_takePrefix hv_takeE hr21 dX11
theorem iv_Reader_takeC_126 {c d : Nat} {v_takePrefix : Int32 → Int32 → St → Option (Int32 × St)} {v_takeE : St → Option (Int32 × St)} {r21 : Int32 → Int32 → Int32 → Int32 → Int32 → Int32 → St → Option (Int32 × St)} (hv_takePrefix : ∀ (q0 : Int32) (q1 : Int32) (X : St), IKt o c d X → pw (v_takePrefix q0 q1 X) (fun _ Y => IKt o c d Y)) (hv_takeE : ∀ (X : St), IKt o c d X → pw (v_takeE X) (fun _ Y => IKt o c d Y)) (hr21 : ∀ (q0 : Int32) (q1 : Int32) (q2 : Int32) (q3 : Int32) (q4 : Int32) (q5 : Int32) (X : St), IKt o c d X → pw (r21 q0 q1 q2 q3 q4 q5 X) (fun _ Y => IKt o c d Y)) {a_1 : Int32} {a_3 : Int32} {a_4 : Int32} {a_5 : Int32} {a_6 : Int32} {b_0 : Int32} {X : St} (h : IKt o c d X) : pw (g_Reader_takeC_126 v_takePrefix v_takeE r21 a_1 a_3 a_4 a_5 a_6 b_0 X) (fun _ Y => IKt o c d Y) := by
  unfold g_Reader_takeC_126
  refine pw_ite (fun _ => ?_) (fun _ => ?_)
  · exact iv_Reader_takeC_139 hv_takePrefix hv_takeE hr21 h
  · refine pw_ite (fun _ => ?_) (fun _ => ?_)
    · exact iv_Reader_takeC_144 hv_takePrefix hv_takeE hr21 h
    · exact iv_Reader_takeC_139 hv_takePrefix hv_takeE hr21 h
theorem iv_Reader_takeC_102 {c d : Nat} {v_takePrefix : Int32 → Int32 → St → Option (Int32 × St)} {v_takeE : St → Option (Int32 × St)} {r21 : Int32 → Int32 → Int32 → Int32 → Int32 → Int32 → St → Option (Int32 × St)} (hv_takePrefix : ∀ (q0 : Int32) (q1 : Int32) (X : St), IKt o c d X → pw (v_takePrefix q0 q1 X) (fun _ Y => IKt o c d Y)) (hv_takeE : ∀ (X : St), IKt o c d X → pw (v_takeE X) (fun _ Y => IKt o c d Y)) (hr21 : ∀ (q0 : Int32) (q1 : Int32) (q2 : Int32) (q3 : Int32) (q4 : Int32) (q5 : Int32) (X : St), IKt o c d X → pw (r21 q0 q1 q2 q3 q4 q5 X) (fun _ Y => IKt o c d Y)) {a_1 : Int32} {a_2 : Int32} {a_4 : Int32} {a_5 : Int32} {a_6 : Int32} {a_7 : Int32} {b_0 : Int32} {X : St} (h : IKt o c d X) : pw (g_Reader_takeC_102 v_takePrefix v_takeE r21 a_1 a_2 a_4 a_5 a_6 a_7 b_0 X) (fun _ Y => IKt o c d Y) := by
  unfold g_Reader_takeC_102
  refine pw_ite (fun _ => ?_) (fun _ => ?_)
  · refine pw_eq (fun x17 _ => ?_)
    exact iv_Reader_takeC_126 hv_takePrefix hv_takeE hr21 h
  · refine pw_ite (fun _ => ?_) (fun _ => ?_)
    · exact iv_Reader_takeC_126 hv_takePrefix hv_takeE hr21 h
    · exact iv_Reader_takeC_126 hv_takePrefix hv_takeE hr21 h
theorem iv_Reader_takeC_87 {c d : Nat} {v_takePrefix : Int32 → Int32 → St → Option (Int32 × St)} {v_takeE : St → Option (Int32 × St)} {r21 : Int32 → Int32 → Int32 → Int32 → Int32 → Int32 → St → Option (Int32 × St)} (hv_takePrefix : ∀ (q0 : Int32) (q1 : Int32) (X : St), IKt o c d X → pw (v_takePrefix q0 q1 X) (fun _ Y => IKt o c d Y)) (hv_takeE : ∀ (X : St), IKt o c d X → pw (v_takeE X) (fun _ Y => IKt o c d Y)) (hr21 : ∀ (q0 : Int32) (q1 : Int32) (q2 : Int32) (q3 : Int32) (q4 : Int32) (q5 : Int32) (X : St), IKt o c d X → pw (r21 q0 q1 q2 q3 q4 q5 X) (fun _ Y => IKt o c d Y)) {a_1 : Int32} {a_2 : Int32} {a_3 : Int32} {a_5 : Int32} {a_6 : Int32} {a_7 : Int32} {b_0 : Int32} {X : St} (h : IKt o c d X) : pw (g_Reader_takeC_87 v_takePrefix v_takeE r21 a_1 a_2 a_3 a_5 a_6 a_7 b_0 X) (fun _ Y => IKt o c d Y) := by
  unfold g_Reader_takeC_87
  refine pw_ite (fun _ => ?_) (fun _ => ?_)
  · refine pw_eq (fun x18 _ => ?_)
    exact iv_Reader_takeC_102 hv_takePrefix hv_takeE hr21 h
  · exact iv_Reader_takeC_102 hv_takePrefix hv_takeE hr21 h
theorem iv_Reader_takeC_82 {c d : Nat} {v_takePrefix : Int32 → Int32 → St → Option (Int32 × St)} {v_takeE : St → Option (Int32 × St)} {r21 : Int32 → Int32 → Int32 → Int32 → Int32 → Int32 → St → Option (Int32 × St)} (hv_takePrefix : ∀ (q0 : Int32) (q1 : Int32) (X : St), IKt o c d X → pw (v_takePrefix q0 q1 X) (fun _ Y => IKt o c d Y)) (hv_takeE : ∀ (X : St), IKt o c d X → pw (v_takeE X) (fun _ Y => IKt o c d Y)) (hr21 : ∀ (q0 : Int32) (q1 : Int32) (q2 : Int32) (q3 : Int32) (q4 : Int32) (q5 : Int32) (X : St), IKt o c d X → pw (r21 q0 q1 q2 q3 q4 q5 X) (fun _ Y => IKt o c d Y)) {a_1 : Int32} {a_2 : Int32} {a_3 : Int32} {a_5 : Int32} {a_6 : Int32} {a_7 : Int32} {X : St} (h : IKt o c d X) : pw (g_Reader_takeC_82 v_takePrefix v_takeE r21 a_1 a_2 a_3 a_5 a_6 a_7 X) (fun _ Y => IKt o c d Y) := by
  unfold g_Reader_takeC_82
  exact iv_Reader_takeC_87 hv_takePrefix hv_takeE hr21 h
theorem iv_Reader_takeC_60 {c d : Nat} {v_takePrefix : Int32 → Int32 → St → Option (Int32 × St)} {v_takeE : St → Option (Int32 × St)} {r21 : Int32 → Int32 → Int32 → Int32 → Int32 → Int32 → St → Option (Int32 × St)} (hv_takePrefix : ∀ (q0 : Int32) (q1 : Int32) (X : St), IKt o c d X → pw (v_takePrefix q0 q1 X) (fun _ Y => IKt o c d Y)) (hv_takeE : ∀ (X : St), IKt o c d X → pw (v_takeE X) (fun _ Y => IKt o c d Y)) (hr21 : ∀ (q0 : Int32) (q1 : Int32) (q2 : Int32) (q3 : Int32) (q4 : Int32) (q5 : Int32) (X : St), IKt o c d X → pw (r21 q0 q1 q2 q3 q4 q5 X) (fun _ Y => IKt o c d Y)) {a_1 : Int32} {a_2 : Int32} {a_3 : Int32} {a_4 : Int32} {a_5 : Int32} {a_6 : Int32} {a_7 : Int32} {X : St} (h : IKt o c d X) : pw (g_Reader_takeC_60 v_takePrefix v_takeE r21 a_1 a_2 a_3 a_4 a_5 a_6 a_7 X) (fun _ Y => IKt o c d Y) := by
  unfold g_Reader_takeC_60
  refine pw_bd (iv_Reader_applyWaiting h) (fun x9 X10 dX10 => ?_)
  refine pw_ite (fun _ => ?_) (fun _ => ?_)
  · refine pw_ite (fun _ => ?_) (fun _ => ?_)
    · exact iv_Reader_takeC_82 hv_takePrefix hv_takeE hr21 dX10
    · exact iv_Reader_takeC_87 hv_takePrefix hv_takeE hr21 dX10
  · exact iv_Reader_takeC_82 hv_takePrefix hv_takeE hr21 dX10
theorem iv_Reader_takeC_21 {c d : Nat} {v_takePrefix : Int32 → Int32 → St → Option (Int32 × St)} {v_takeE : St → Option (Int32 × St)} (hv_takePrefix : ∀ (q0 : Int32) (q1 : Int32) (X : St), IKt o c d X → pw (v_takePrefix q0 q1 X) (fun _ Y => IKt o c d Y)) (hv_takeE : ∀ (X : St), IKt o c d X → pw (v_takeE X) (fun _ Y => IKt o c d Y)) (N : Nat) : ∀ (a_1 : Int32) (a_2 : Int32) (a_3 : Int32) (a_4 : Int32) (a_5 : Int32) (a_6 : Int32) (X : St), IKt o c d X → pw (g_Reader_takeC_21 v_takePrefix v_takeE N a_1 a_2 a_3 a_4 a_5 a_6 X) (fun _ Y => IKt o c d Y) := by
  unfold g_Reader_takeC_21
  refine lp_ind (P := fun (r : Int32 → Int32 → Int32 → Int32 → Int32 → Int32 → St → Option (Int32 × St)) => ∀ (a_1 : Int32) (a_2 : Int32) (a_3 : Int32) (a_4 : Int32) (a_5 : Int32) (a_6 : Int32) (X : St), IKt o c d X → pw (r a_1 a_2 a_3 a_4 a_5 a_6 X) (fun _ Y => IKt o c d Y)) (fun _ _ _ _ _ _ _ _ => pw_none) (fun r ih a_1 a_2 a_3 a_4 a_5 a_6 X h => ?_) N
  unfold g_Reader_takeC_21_s
  refine pw_ite (fun _ => ?_) (fun _ => ?_)
  · exact iv_Reader_takeC_169 hv_takePrefix hv_takeE h
  · refine pw_eq (fun x6 _ => ?_)
    refine pw_bd (iv_Reader_levelOf h) (fun x7 X8 dX8 => ?_)
    refine pw_ite (fun _ => ?_) (fun _ => ?_)
    · exact iv_Reader_takeC_169 hv_takePrefix hv_takeE dX8
    · refine pw_ite (fun _ => ?_) (fun _ => ?_)
      · refine pw_ite (fun _ => ?_) (fun _ => ?_)
        · exact iv_Reader_takeC_60 hv_takePrefix hv_takeE ih dX8
        · exact iv_Reader_takeC_169 hv_takePrefix hv_takeE dX8
      · exact iv_Reader_takeC_60 hv_takePrefix hv_takeE ih dX8
theorem iv_Reader_takeC {c d : Nat} {v_takePrefix : Int32 → Int32 → St → Option (Int32 × St)} {v_takeE : St → Option (Int32 × St)} (hv_takePrefix : ∀ (q0 : Int32) (q1 : Int32) (X : St), IKt o c d X → pw (v_takePrefix q0 q1 X) (fun _ Y => IKt o c d Y)) (hv_takeE : ∀ (X : St), IKt o c d X → pw (v_takeE X) (fun _ Y => IKt o c d Y)) {X : St} (h : IKt o c d X) : pw (g_Reader_takeC v_takePrefix v_takeE X) (fun _ Y => IKt o c d Y) := by
  unfold g_Reader_takeC
  refine pw_eq (fun x1 _ => ?_)
  refine pw_bd (iv_Reader_takeU hv_takePrefix hv_takeE h) (fun x2 X3 dX3 => ?_)
  exact iv_Reader_takeC_21 hv_takePrefix hv_takeE _ _ _ _ _ _ _ _ dX3
theorem iv_Reader_takeIf {c d : Nat} {v_takePrefix : Int32 → Int32 → St → Option (Int32 × St)} {v_takeE : St → Option (Int32 × St)} (hv_takePrefix : ∀ (q0 : Int32) (q1 : Int32) (X : St), IKt o c d X → pw (v_takePrefix q0 q1 X) (fun _ Y => IKt o c d Y)) (hv_takeE : ∀ (X : St), IKt o c d X → pw (v_takeE X) (fun _ Y => IKt o c d Y)) {X : St} (h : IKt o c d X) : pw (g_Reader_takeIf v_takePrefix v_takeE X) (fun _ Y => IKt o c d Y) := by
  unfold g_Reader_takeIf
  refine pw_bd (iv_Reader_emitStep h) (fun x1 X2 dX2 => ?_)
  refine pw_bd (iv_Reader_enter dX2) (fun _ X3 dX3 => ?_)
  refine pw_bd (hv_takeE _ dX3) (fun x4 X5 dX5 => ?_)
  refine pw_ck (fun _ => ?_)
  refine pw_eq (fun e6 ee6 => ?_)
  have pke6 : PEo o e6 := by rw [ee6]; exact dX5.pe
  refine pw_bd (iv_Reader_placeOf dX5) (fun x7 X8 dX8 => ?_)
  refine pw_bd (iv_Program_emit pke6 dX8) (fun x9 X10 dX10 => ?_)
  refine pw_ck (fun _ => ?_)
  refine pw_eq (fun e11 ee11 => ?_)
  have pke11 : PEo o e11 := by rw [ee11]; exact dX10.pe
  refine pw_bd (iv_Reader_placeOf dX10) (fun x12 X13 dX13 => ?_)
  refine pw_bd (iv_Program_emit pke11 dX13) (fun x14 X15 dX15 => ?_)
  refine pw_bd (iv_Reader_want dX15) (fun _ X16 dX16 => ?_)
  refine pw_bd (hv_takeE _ dX16) (fun x17 X18 dX18 => ?_)
  refine pw_ck (fun _ => ?_)
  refine pw_eq (fun e19 ee19 => ?_)
  have pke19 : PEo o e19 := by rw [ee19]; exact dX18.pe
  refine pw_bd (iv_Reader_placeOf dX18) (fun x20 X21 dX21 => ?_)
  refine pw_bd (iv_Program_emit pke19 dX21) (fun x22 X23 dX23 => ?_)
  refine pw_ck (fun _ => ?_)
  refine pw_eq (fun e24 ee24 => ?_)
  have pke24 : PEo o e24 := by rw [ee24]; exact dX23.pe
  refine pw_bd (iv_Reader_placeOf dX23) (fun x25 X26 dX26 => ?_)
  refine pw_bd (iv_Program_emit pke24 dX26) (fun x27 X28 dX28 => ?_)
  refine pw_bd (iv_Reader_want dX28) (fun _ X29 dX29 => ?_)
  refine pw_ck (fun _ => ?_)
  refine pw_eq (fun e30 ee30 => ?_)
  have pke30 : PEo o e30 := by rw [ee30]; exact dX29.pe
  refine pw_eq (fun e31 ee31 => ?_)
  have rw_e31 : RWo o e31 := by rw [ee31]; exact pke30.ky (by decide)
  refine pw_ck (fun _ => ?_)
  refine pw_eq (fun e32 ee32 => ?_)
  have pke32 : PEo o e32 := by rw [ee32]; exact dX29.pe
  refine pw_eq (fun x33 _ => ?_)
  refine pw_ck (fun _ => ?_)
  refine pw_eq (fun X34 eX34 => ?_)
  have dX34 : IKt o c d X34 := by rw [eX34]; exact dX29.w (Or.inl rw_e31)
  refine pw_bd (hv_takeE _ dX34) (fun x35 X36 dX36 => ?_)
  refine pw_ck (fun _ => ?_)
  refine pw_eq (fun e37 ee37 => ?_)
  have pke37 : PEo o e37 := by rw [ee37]; exact dX36.pe
  refine pw_bd (iv_Reader_placeOf dX36) (fun x38 X39 dX39 => ?_)
  refine pw_bd (iv_Program_emit pke37 dX39) (fun x40 X41 dX41 => ?_)
  refine pw_ck (fun _ => ?_)
  refine pw_eq (fun e42 ee42 => ?_)
  have pke42 : PEo o e42 := by rw [ee42]; exact dX41.pe
  refine pw_eq (fun e43 ee43 => ?_)
  have rw_e43 : RWo o e43 := by rw [ee43]; exact pke42.ky (by decide)
  refine pw_ck (fun _ => ?_)
  refine pw_eq (fun e44 ee44 => ?_)
  have pke44 : PEo o e44 := by rw [ee44]; exact dX41.pe
  refine pw_bd (iv_Reader_placeOf dX41) (fun x45 X46 dX46 => ?_)
  refine pw_bd (iv_Program_emit pke44 dX46) (fun x47 X48 dX48 => ?_)
  refine pw_ck (fun _ => ?_)
  refine pw_eq (fun X49 eX49 => ?_)
  have dX49 : IKt o c d X49 := by rw [eX49]; exact dX48.w (Or.inl rw_e43)
  refine pw_eq (fun x50 _ => ?_)
  refine pw_eq (fun x51 _ => ?_)
  refine pw_eq (fun X52 eX52 => ?_)
  have dX52 : IKt o c d X52 := by rw [eX52]; exact dX49.w (Or.inr ⟨rfl, by decide⟩)
  exact pw_ret dX52
theorem iv_Reader_takeLet_80 {c d : Nat} {v_takePrefix : Int32 → Int32 → St → Option (Int32 × St)} {v_takeE : St → Option (Int32 × St)} (hv_takePrefix : ∀ (q0 : Int32) (q1 : Int32) (X : St), IKt o c d X → pw (v_takePrefix q0 q1 X) (fun _ Y => IKt o c d Y)) (hv_takeE : ∀ (X : St), IKt o c d X → pw (v_takeE X) (fun _ Y => IKt o c d Y)) {a_1 : Int32} {l_2 : Int64} {a_5 : Int32} {X : St} (h : IKt o c d X) : pw (g_Reader_takeLet_80 v_takePrefix v_takeE a_1 l_2 a_5 X) (fun _ Y => IKt o c d Y) := by
  unfold g_Reader_takeLet_80
  refine pw_bd (iv_Reader_want h) (fun _ X11 dX11 => ?_)
  refine pw_eq (fun x12 _ => ?_)
  refine pw_ck (fun _ => ?_)
  refine pw_eq (fun e13 ee13 => ?_)
  have pke13 : PEo o e13 := by rw [ee13]; exact dX11.pe
  refine pw_bd (iv_Reader_placeOf dX11) (fun x14 X15 dX15 => ?_)
  refine pw_bd (iv_Program_emit pke13 dX15) (fun x16 X17 dX17 => ?_)
  refine pw_bd (iv_Reader_pushLocal dX17) (fun _ X18 dX18 => ?_)
  refine pw_bd (hv_takeE _ dX18) (fun x19 X20 dX20 => ?_)
  refine pw_eq (fun X21 eX21 => ?_)
  have dX21 : IKt o c d X21 := by rw [eX21]; exact dX20.w (Or.inr ⟨rfl, by decide⟩)
  refine pw_eq (fun x22 _ => ?_)
  refine pw_eq (fun x23 _ => ?_)
  refine pw_eq (fun X24 eX24 => ?_)
  have dX24 : IKt o c d X24 := by rw [eX24]; exact dX21.w (Or.inr ⟨rfl, by decide⟩)
  exact pw_ret dX24
theorem iv_Reader_takeLet_42 {c d : Nat} {v_takePrefix : Int32 → Int32 → St → Option (Int32 × St)} {v_takeE : St → Option (Int32 × St)} (hv_takePrefix : ∀ (q0 : Int32) (q1 : Int32) (X : St), IKt o c d X → pw (v_takePrefix q0 q1 X) (fun _ Y => IKt o c d Y)) (hv_takeE : ∀ (X : St), IKt o c d X → pw (v_takeE X) (fun _ Y => IKt o c d Y)) {a_1 : Int32} {l_2 : Int64} {b_0 : Int32} {X : St} (h : IKt o c d X) : pw (g_Reader_takeLet_42 v_takePrefix v_takeE a_1 l_2 b_0 X) (fun _ Y => IKt o c d Y) := by
  unfold g_Reader_takeLet_42
  refine pw_bd (iv_Reader_want h) (fun _ X8 dX8 => ?_)
  refine pw_bd (hv_takeE _ dX8) (fun x9 X10 dX10 => ?_)
  refine pw_ite (fun _ => ?_) (fun _ => ?_)
  · exact iv_Reader_takeLet_80 hv_takePrefix hv_takeE dX10
  · refine pw_ck (fun _ => ?_)
    refine pw_eq (fun e25 ee25 => ?_)
    have pke25 : PEo o e25 := by rw [ee25]; exact dX10.pe
    refine pw_bd (iv_Reader_placeOf dX10) (fun x26 X27 dX27 => ?_)
    refine pw_bd (iv_Program_emit pke25 dX27) (fun x28 X29 dX29 => ?_)
    exact iv_Reader_takeLet_80 hv_takePrefix hv_takeE dX29
theorem iv_Reader_takeLet {c d : Nat} {v_takePrefix : Int32 → Int32 → St → Option (Int32 × St)} {v_takeE : St → Option (Int32 × St)} (hv_takePrefix : ∀ (q0 : Int32) (q1 : Int32) (X : St), IKt o c d X → pw (v_takePrefix q0 q1 X) (fun _ Y => IKt o c d Y)) (hv_takeE : ∀ (X : St), IKt o c d X → pw (v_takeE X) (fun _ Y => IKt o c d Y)) {X : St} (h : IKt o c d X) : pw (g_Reader_takeLet v_takePrefix v_takeE X) (fun _ Y => IKt o c d Y) := by
  unfold g_Reader_takeLet
  refine pw_bd (iv_Reader_emitStep h) (fun x1 X2 dX2 => ?_)
  refine pw_bd (iv_Reader_enter dX2) (fun _ X3 dX3 => ?_)
  refine pw_eq (fun y4 _ => ?_)
  refine pw_bd (iv_Reader_want dX3) (fun _ X5 dX5 => ?_)
  refine pw_bd (iv_Reader_tookColon dX5) (fun x6 X7 dX7 => ?_)
  refine pw_ite (fun _ => ?_) (fun _ => ?_)
  · exact iv_Reader_takeLet_42 hv_takePrefix hv_takeE dX7
  · refine pw_bd (iv_Reader_takeKind dX7) (fun x30 X31 dX31 => ?_)
    exact iv_Reader_takeLet_42 hv_takePrefix hv_takeE dX31
theorem iv_Reader_takePrefix_b {c d : Nat} {v_takePrefix : Int32 → Int32 → St → Option (Int32 × St)} {v_takeE : St → Option (Int32 × St)} (hv_takePrefix : ∀ (q0 : Int32) (q1 : Int32) (X : St), IKt o c d X → pw (v_takePrefix q0 q1 X) (fun _ Y => IKt o c d Y)) (hv_takeE : ∀ (X : St), IKt o c d X → pw (v_takeE X) (fun _ Y => IKt o c d Y)) {p1 : Int32} {p2 : Int32} {X : St} (h : IKt o c d X) : pw (g_Reader_takePrefix_b v_takePrefix v_takeE p1 p2 X) (fun _ Y => IKt o c d Y) := by
  unfold g_Reader_takePrefix_b
  refine pw_bd (iv_Reader_emitStep h) (fun x1 X2 dX2 => ?_)
  refine pw_eq (fun x3 _ => ?_)
  refine pw_bd (iv_Reader_enter dX2) (fun _ X4 dX4 => ?_)
  refine pw_bd (iv_Reader_takeU hv_takePrefix hv_takeE dX4) (fun x5 X6 dX6 => ?_)
  refine pw_ck (fun _ => ?_)
  refine pw_eq (fun e7 ee7 => ?_)
  have pke7 : PEo o e7 := by rw [ee7]; exact dX6.pe
  refine pw_bd (iv_Reader_placeOf dX6) (fun x8 X9 dX9 => ?_)
  refine pw_bd (iv_Program_emit pke7 dX9) (fun x10 X11 dX11 => ?_)
  refine pw_ck (fun _ => ?_)
  refine pw_eq (fun e12 ee12 => ?_)
  have pke12 : PEo o e12 := by rw [ee12]; exact dX11.pe
  refine pw_bd (iv_Reader_placeOf dX11) (fun x13 X14 dX14 => ?_)
  refine pw_bd (iv_Program_emit pke12 dX14) (fun x15 X16 dX16 => ?_)
  refine pw_eq (fun x17 _ => ?_)
  refine pw_eq (fun x18 _ => ?_)
  refine pw_eq (fun X19 eX19 => ?_)
  have dX19 : IKt o c d X19 := by rw [eX19]; exact dX16.w (Or.inr ⟨rfl, by decide⟩)
  exact pw_ret dX19
theorem iv_Reader_takeE_b {c d : Nat} {v_takePrefix : Int32 → Int32 → St → Option (Int32 × St)} {v_takeE : St → Option (Int32 × St)} (hv_takePrefix : ∀ (q0 : Int32) (q1 : Int32) (X : St), IKt o c d X → pw (v_takePrefix q0 q1 X) (fun _ Y => IKt o c d Y)) (hv_takeE : ∀ (X : St), IKt o c d X → pw (v_takeE X) (fun _ Y => IKt o c d Y)) {X : St} (h : IKt o c d X) : pw (g_Reader_takeE_b v_takePrefix v_takeE X) (fun _ Y => IKt o c d Y) := by
  unfold g_Reader_takeE_b
  refine pw_eq (fun x1 _ => ?_)
  refine pw_ite (fun _ => ?_) (fun _ => ?_)
  · refine pw_bd (iv_Reader_takeLet hv_takePrefix hv_takeE h) (fun x7 X8 dX8 => ?_)
    exact pw_ret dX8
  · refine pw_eq (fun x2 _ => ?_)
    refine pw_ite (fun _ => ?_) (fun _ => ?_)
    · refine pw_bd (iv_Reader_takeIf hv_takePrefix hv_takeE h) (fun x5 X6 dX6 => ?_)
      exact pw_ret dX6
    · refine pw_bd (iv_Reader_takeC hv_takePrefix hv_takeE h) (fun x3 X4 dX4 => ?_)
      exact pw_ret dX4
theorem iv_rec_e {c d : Nat} : ∀ (N : Nat), (∀ (p1 p2 : Int32) (X : St), IKt o c d X → pw ((rec_e N).1 p1 p2 X) (fun _ Y => IKt o c d Y)) ∧ (∀ (X : St), IKt o c d X → pw ((rec_e N).2 X) (fun _ Y => IKt o c d Y)) := by
  intro N
  unfold rec_e
  refine lp_ind (γ := (Int32 → Int32 → St → Option (Int32 × St)) × (St → Option (Int32 × St))) (P := fun r => (∀ (p1 p2 : Int32) (X : St), IKt o c d X → pw (r.1 p1 p2 X) (fun _ Y => IKt o c d Y)) ∧ (∀ (X : St), IKt o c d X → pw (r.2 X) (fun _ Y => IKt o c d Y))) ⟨fun _ _ _ _ => pw_none, fun _ _ => pw_none⟩ (fun r ih => ⟨fun p1 p2 X h => iv_Reader_takePrefix_b ih.1 ih.2 h, fun X h => iv_Reader_takeE_b ih.1 ih.2 h⟩) N
theorem iv_Reader_takeE {c d : Nat} {X : St} (h : IKt o c d X) : pw (g_Reader_takeE X) (fun _ Y => IKt o c d Y) := (iv_rec_e 64).2 X h
theorem iv_Reader_takePrefix {c d : Nat} {p1 p2 : Int32} {X : St} (h : IKt o c d X) : pw (g_Reader_takePrefix p1 p2 X) (fun _ Y => IKt o c d Y) := (iv_rec_e 64).1 p1 p2 X h

theorem iv_Reader_endPart {c d : Nat} {p1 : Int32} {p2 : Int32} {X : St} (h : IKt o c d X) : pw (g_Reader_endPart p1 p2 X) (fun _ Y => IKt o c d Y) := by
  unfold g_Reader_endPart
  refine pw_ck (fun _ => ?_)
  refine pw_eq (fun e1 ee1 => ?_)
  have pke1 : PEo o e1 := by rw [ee1]; exact h.pe
  refine pw_bd (iv_Reader_placeOf h) (fun x2 X3 dX3 => ?_)
  refine pw_bd (iv_Program_emit pke1 dX3) (fun x4 X5 dX5 => ?_)
  refine pw_ck (fun _ => ?_)
  refine pw_eq (fun e6 ee6 => ?_)
  have pke6 : PEo o e6 := by rw [ee6]; exact dX5.pe
  refine pw_bd (iv_Reader_placeOf dX5) (fun x7 X8 dX8 => ?_)
  refine pw_bd (iv_Program_emit pke6 dX8) (fun x9 X10 dX10 => ?_)
  refine pw_bd (iv_Reader_want dX10) (fun _ X11 dX11 => ?_)
  refine pw_ck (fun _ => ?_)
  refine pw_eq (fun e12 ee12 => ?_)
  have pke12 : PEo o e12 := by rw [ee12]; exact dX11.pe
  refine pw_eq (fun x13 _ => ?_)
  refine pw_eq (fun X14 eX14 => ?_)
  have dX14 : IKt o c d X14 := by rw [eX14]; exact dX11.w (Or.inl pke12.rw)
  exact pw_ret dX14
theorem iv_Reader_resolveAt_65 {c d : Nat} {a_1 : Int32} {a_2 : Int32} {X : St} (h : IKt o c d X) : pw (g_Reader_resolveAt_65 a_1 a_2 X) (fun _ Y => IKt o c d Y) := by
  unfold g_Reader_resolveAt_65
  refine pw_ck (fun _ => ?_)
  refine pw_eq (fun e12 ee12 => ?_)
  have pke12 : PEo o e12 := by rw [ee12]; exact h.pe
  refine pw_eq (fun e13 ee13 => ?_)
  have rw_e13 : RWo o e13 := by rw [ee13]; exact pke12.ky (by decide)
  refine pw_ck (fun _ => ?_)
  refine pw_eq (fun X14 eX14 => ?_)
  have dX14 : IKt o c d X14 := by rw [eX14]; exact h.w (Or.inl rw_e13)
  exact pw_ret dX14
theorem iv_Reader_resolveAt {c d : Nat} {p1 : Int32} {X : St} (h : IKt o c d X) : pw (g_Reader_resolveAt p1 X) (fun _ Y => IKt o c d Y) := by
  unfold g_Reader_resolveAt
  refine pw_ck (fun _ => ?_)
  refine pw_eq (fun e1 ee1 => ?_)
  have pke1 : PEo o e1 := by rw [ee1]; exact h.pe
  refine pw_eq (fun e2 ee2 => ?_)
  have rw_e2 : RWo o e2 := by rw [ee2]; exact pke1.ky (by decide)
  refine pw_ck (fun _ => ?_)
  refine pw_eq (fun x3 _ => ?_)
  refine pw_ite (fun _ => ?_) (fun _ => ?_)
  · refine pw_ck (fun _ => ?_)
    refine pw_eq (fun e4 ee4 => ?_)
    have pke4 : PEo o e4 := by rw [ee4]; exact h.pe
    refine pw_eq (fun e5 ee5 => ?_)
    have rw_e5 : RWo o e5 := by rw [ee5]; exact pke4.ky (by decide)
    refine pw_ck (fun _ => ?_)
    refine pw_eq (fun x6 _ => ?_)
    refine pw_bd (iv_Tokens_goTo h) (fun _ X7 dX7 => ?_)
    refine pw_ck (fun _ => ?_)
    refine pw_eq (fun e8 ee8 => ?_)
    have pke8 : PEo o e8 := by rw [ee8]; exact dX7.pe
    refine pw_eq (fun y9 _ => ?_)
    refine pw_bd (iv_Program_partOfName pke8 dX7) (fun x10 X11 dX11 => ?_)
    refine pw_ite (fun _ => ?_) (fun _ => ?_)
    · refine pw_ck (fun _ => ?_)
      refine pw_eq (fun e15 ee15 => ?_)
      have pke15 : PEo o e15 := by rw [ee15]; exact dX11.pe
      refine pw_eq (fun e16 ee16 => ?_)
      have rw_e16 : RWo o e16 := by rw [ee16]; exact pke15.ky (by decide)
      refine pw_ck (fun _ => ?_)
      refine pw_eq (fun x17 _ => ?_)
      refine pw_bd (iv_Reader_refuseAt dX11) (fun _ X18 dX18 => ?_)
      exact iv_Reader_resolveAt_65 dX18
    · exact iv_Reader_resolveAt_65 dX11
  · exact pw_ret h
theorem iv_Reader_resolve_93 {c d : Nat} {a_1 : Int32} {X : St} (h : IKt o c d X) : pw (g_Reader_resolve_93 a_1 X) (fun _ Y => IKt o c d Y) := by
  unfold g_Reader_resolve_93
  refine pw_ck (fun _ => ?_)
  refine pw_eq (fun e3 ee3 => ?_)
  have pke3 : PEo o e3 := by rw [ee3]; exact h.pe
  refine pw_ck (fun _ => ?_)
  refine pw_eq (fun e4 ee4 => ?_)
  have pke4 : PEo o e4 := by rw [ee4]; exact h.pe
  refine pw_bd (iv_Program_partOfName pke4 h) (fun x5 X6 dX6 => ?_)
  refine pw_eq (fun X7 eX7 => ?_)
  have dX7 : IKt o c d X7 := by rw [eX7]; exact dX6.w (Or.inl pke3.rw)
  refine pw_ck (fun _ => ?_)
  refine pw_eq (fun e8 ee8 => ?_)
  have pke8 : PEo o e8 := by rw [ee8]; exact dX7.pe
  refine pw_ck (fun _ => ?_)
  refine pw_eq (fun e9 ee9 => ?_)
  have pke9 : PEo o e9 := by rw [ee9]; exact dX7.pe
  refine pw_eq (fun x10 _ => ?_)
  refine pw_bd (iv_Program_paramsOf pke8 dX7) (fun x11 X12 dX12 => ?_)
  refine pw_ite (fun _ => ?_) (fun _ => ?_)
  · exact pw_ret dX12
  · refine pw_bd (iv_Reader_refuseAt dX12) (fun _ X13 dX13 => ?_)
    exact pw_ret dX13
theorem iv_Reader_resolve_61 {c d : Nat} {r2 : Int32 → Int32 → St → Option (Int32 × St)} (hr2 : ∀ (q0 : Int32) (q1 : Int32) (X : St), IKt o c d X → pw (r2 q0 q1 X) (fun _ Y => IKt o c d Y)) (N : Nat) : ∀ (a_1 : Int32) (a_2 : Int32) (a_3 : Int32) (X : St), IKt o c d X → pw (g_Reader_resolve_61 r2 N a_1 a_2 a_3 X) (fun _ Y => IKt o c d Y) := by
  unfold g_Reader_resolve_61
  refine lp_ind (P := fun (r : Int32 → Int32 → Int32 → St → Option (Int32 × St)) => ∀ (a_1 : Int32) (a_2 : Int32) (a_3 : Int32) (X : St), IKt o c d X → pw (r a_1 a_2 a_3 X) (fun _ Y => IKt o c d Y)) (fun _ _ _ _ _ => pw_none) (fun r ih a_1 a_2 a_3 X h => ?_) N
  unfold g_Reader_resolve_61_s
  refine pw_ck (fun _ => ?_)
  refine pw_eq (fun e24 ee24 => ?_)
  have pke24 : PEo o e24 := by rw [ee24]; exact h.pe
  refine pw_eq (fun e25 ee25 => ?_)
  have rw_e25 : RWo o e25 := by rw [ee25]; exact pke24.ky (by decide)
  refine pw_eq (fun x26 _ => ?_)
  refine pw_ck (fun _ => ?_)
  refine pw_eq (fun x27 _ => ?_)
  refine pw_ite (fun _ => ?_) (fun _ => ?_)
  · refine pw_eq (fun x28 _ => ?_)
    exact hr2 _ _ _ h
  · refine pw_bd (iv_Reader_resolveAt h) (fun _ X29 dX29 => ?_)
    refine pw_eq (fun x30 _ => ?_)
    exact ih _ _ _ _ dX29
theorem iv_Reader_resolve_51 {c d : Nat} {r2 : Int32 → Int32 → St → Option (Int32 × St)} (hr2 : ∀ (q0 : Int32) (q1 : Int32) (X : St), IKt o c d X → pw (r2 q0 q1 X) (fun _ Y => IKt o c d Y)) {a_1 : Int32} {a_2 : Int32} {X : St} (h : IKt o c d X) : pw (g_Reader_resolve_51 r2 a_1 a_2 X) (fun _ Y => IKt o c d Y) := by
  unfold g_Reader_resolve_51
  refine pw_ck (fun _ => ?_)
  refine pw_eq (fun e21 ee21 => ?_)
  have pke21 : PEo o e21 := by rw [ee21]; exact h.pe
  refine pw_eq (fun e22 ee22 => ?_)
  have rw_e22 : RWo o e22 := by rw [ee22]; exact pke21.ky (by decide)
  refine pw_ck (fun _ => ?_)
  refine pw_eq (fun x23 _ => ?_)
  exact iv_Reader_resolve_61 hr2 _ _ _ _ _ h
theorem iv_Reader_resolve_2 {c d : Nat} (N : Nat) : ∀ (a_1 : Int32) (a_2 : Int32) (X : St), IKt o c d X → pw (g_Reader_resolve_2 N a_1 a_2 X) (fun _ Y => IKt o c d Y) := by
  unfold g_Reader_resolve_2
  refine lp_ind (P := fun (r : Int32 → Int32 → St → Option (Int32 × St)) => ∀ (a_1 : Int32) (a_2 : Int32) (X : St), IKt o c d X → pw (r a_1 a_2 X) (fun _ Y => IKt o c d Y)) (fun _ _ _ _ => pw_none) (fun r ih a_1 a_2 X h => ?_) N
  unfold g_Reader_resolve_2_s
  refine pw_ck (fun _ => ?_)
  refine pw_eq (fun e1 ee1 => ?_)
  have pke1 : PEo o e1 := by rw [ee1]; exact h.pe
  refine pw_eq (fun x2 _ => ?_)
  refine pw_ite (fun _ => ?_) (fun _ => ?_)
  · exact iv_Reader_resolve_93 h
  · refine pw_eq (fun x14 _ => ?_)
    refine pw_ite (fun _ => ?_) (fun _ => ?_)
    · refine pw_ck (fun _ => ?_)
      refine pw_eq (fun e15 ee15 => ?_)
      have pke15 : PEo o e15 := by rw [ee15]; exact h.pe
      refine pw_ck (fun _ => ?_)
      refine pw_eq (fun e16 ee16 => ?_)
      have pke16 : PEo o e16 := by rw [ee16]; exact h.pe
      refine pw_eq (fun e17 ee17 => ?_)
      have rw_e17 : RWo o e17 := by rw [ee17]; exact pke16.ky (by decide)
      refine pw_ck (fun _ => ?_)
      refine pw_eq (fun y18 _ => ?_)
      refine pw_bd (iv_Program_partOfName pke15 h) (fun x19 X20 dX20 => ?_)
      refine pw_ite (fun _ => ?_) (fun _ => ?_)
      · exact iv_Reader_resolve_51 ih dX20
      · refine pw_ck (fun _ => ?_)
        refine pw_eq (fun x31 _ => ?_)
        refine pw_bd (iv_Reader_refuseAt dX20) (fun _ X32 dX32 => ?_)
        exact iv_Reader_resolve_51 ih dX32
    · exact iv_Reader_resolve_93 h
theorem iv_Reader_resolve {c d : Nat} {p1 : Int32} {X : St} (h : IKt o c d X) : pw (g_Reader_resolve p1 X) (fun _ Y => IKt o c d Y) := by
  unfold g_Reader_resolve
  exact iv_Reader_resolve_2 _ _ _ _ h
theorem iv_Reader_readInto_145 {c d : Nat} {a_3 : Int32} {X : St} (h : IKt o c d X) : pw (g_Reader_readInto_145 a_3 X) (fun _ Y => IKt o c d Y) := by
  unfold g_Reader_readInto_145
  refine pw_ck (fun _ => ?_)
  refine pw_eq (fun e11 ee11 => ?_)
  have pke11 : PEo o e11 := by rw [ee11]; exact h.pe
  refine pw_eq (fun e12 ee12 => ?_)
  have rw_e12 : RWo o e12 := by rw [ee12]; exact pke11.ky (by decide)
  refine pw_ck (fun _ => ?_)
  refine pw_eq (fun e13 ee13 => ?_)
  have pke13 : PEo o e13 := by rw [ee13]; exact h.pe
  refine pw_eq (fun x14 _ => ?_)
  refine pw_ck (fun _ => ?_)
  refine pw_eq (fun e15 ee15 => ?_)
  have pke15 : PEo o e15 := by rw [ee15]; exact h.pe
  refine pw_eq (fun x16 _ => ?_)
  refine pw_ck (fun _ => ?_)
  refine pw_eq (fun X17 eX17 => ?_)
  have dX17 : IKt o c d X17 := by rw [eX17]; exact h.w (Or.inl rw_e12)
  refine pw_ck (fun _ => ?_)
  refine pw_eq (fun e18 ee18 => ?_)
  have pke18 : PEo o e18 := by rw [ee18]; exact dX17.pe
  refine pw_ck (fun _ => ?_)
  refine pw_eq (fun e19 ee19 => ?_)
  have pke19 : PEo o e19 := by rw [ee19]; exact dX17.pe
  refine pw_eq (fun e20 ee20 => ?_)
  refine pw_eq (fun x21 _ => ?_)
  refine pw_eq (fun X22 eX22 => ?_)
  have dX22 : IKt o c d X22 := by rw [eX22]; exact dX17.w (Or.inl pke18.rw)
  refine pw_eq (fun x23 _ => ?_)
  refine pw_ite (fun _ => ?_) (fun _ => ?_)
  · refine pw_bd (iv_Reader_resolve dX22) (fun _ X24 dX24 => ?_)
    exact pw_ret dX24
  · exact pw_ret dX22
theorem iv_Reader_readInto_127 {c d : Nat} {a_3 : Int32} {X : St} (h : IKt o c d X) : pw (g_Reader_readInto_127 a_3 X) (fun _ Y => IKt o c d Y) := by
  unfold g_Reader_readInto_127
  refine pw_eq (fun x10 _ => ?_)
  refine pw_ite (fun _ => ?_) (fun _ => ?_)
  · exact iv_Reader_readInto_145 h
  · refine pw_bd (iv_Reader_refuse h) (fun _ X25 dX25 => ?_)
    exact iv_Reader_readInto_145 dX25
theorem iv_Reader_readInto_121 {c d : Nat} {r58 : Int32 → Int32 → St → Option (Int32 × St)} (hr58 : ∀ (q0 : Int32) (q1 : Int32) (X : St), IKt o c d X → pw (r58 q0 q1 X) (fun _ Y => IKt o c d Y)) {a_3 : Int32} {a_4 : Int32} {X : St} (h : IKt o c d X) : pw (g_Reader_readInto_121 r58 a_3 a_4 X) (fun _ Y => IKt o c d Y) := by
  unfold g_Reader_readInto_121
  refine pw_eq (fun x33 _ => ?_)
  exact hr58 _ _ _ h
theorem iv_Reader_readInto_58 {c d : Nat} (N : Nat) : ∀ (a_3 : Int32) (a_4 : Int32) (X : St), IKt o c d X → pw (g_Reader_readInto_58 N a_3 a_4 X) (fun _ Y => IKt o c d Y) := by
  unfold g_Reader_readInto_58
  refine lp_ind (P := fun (r : Int32 → Int32 → St → Option (Int32 × St)) => ∀ (a_3 : Int32) (a_4 : Int32) (X : St), IKt o c d X → pw (r a_3 a_4 X) (fun _ Y => IKt o c d Y)) (fun _ _ _ _ => pw_none) (fun r ih a_3 a_4 X h => ?_) N
  unfold g_Reader_readInto_58_s
  refine pw_ite (fun _ => ?_) (fun _ => ?_)
  · exact iv_Reader_readInto_127 h
  · refine pw_eq (fun x26 _ => ?_)
    refine pw_ite (fun _ => ?_) (fun _ => ?_)
    · refine pw_ite (fun _ => ?_) (fun _ => ?_)
      · refine pw_bd (iv_Reader_takePartName h) (fun _ X27 dX27 => ?_)
        refine pw_bd (iv_Reader_takeParams dX27) (fun _ X28 dX28 => ?_)
        refine pw_bd (iv_Reader_takeOwnKind dX28) (fun _ X29 dX29 => ?_)
        refine pw_bd (iv_Reader_takeE dX29) (fun x30 X31 dX31 => ?_)
        refine pw_bd (iv_Reader_endPart dX31) (fun _ X32 dX32 => ?_)
        exact iv_Reader_readInto_121 ih dX32
      · refine pw_bd (iv_Reader_refuse h) (fun _ X34 dX34 => ?_)
        exact iv_Reader_readInto_121 ih dX34
    · exact iv_Reader_readInto_127 h
end IKR
