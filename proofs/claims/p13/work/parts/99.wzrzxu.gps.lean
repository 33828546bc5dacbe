/-! the parties of guards are parts -/
def GPs (ps : List Pt) (G : List JG) : Prop := ∀ x ∈ G, x.2.2.1 < ps.length ∧ 0 ≤ x.2.2.2.1 ∧ x.2.2.2.1 < (ps.length : Int)
section GPSS
variable {ch : Tx} {ps : List Pt} {told : Nat → Bool} {c d : List Ins} {g j m : Nat} {S : List SE} {a : Ins} {J J1 : JS} {p t s : Int} {w k : List Int}
theorem nrp_in (h : 0 < ps.length) : 0 ≤ nrp ch ps p ∧ nrp ch ps p < (ps.length : Int) := by
  unfold nrp
  refine ⟨Int.natCast_nonneg _, ?_⟩
  rcases partOf_sp (nmsOf ps) (nm ch p.toNat) with ⟨e, _⟩ | ⟨k, e, e2, _⟩
  · rw [e]
    show ((0 : Nat) : Int) < _
    omega
  · rw [e]
    show (k : Int) < _
    rw [nms_at] at e2
    cases h : ps[k]? with
    | none => rw [h] at e2; exact absurd e2.symm (Option.some_ne_none _)
    | some q =>
      have := (List.getElem?_eq_some_iff.mp h).1
      omega
theorem tkr_lt (hg : g < ps.length) (o : Option Nat) : 0 ≤ tkr ch ps c g o ∧ tkr ch ps c g o < (ps.length : Int) := by
  cases o with
  | none =>
    show 0 ≤ (g : Int) ∧ (g : Int) < _
    omega
  | some t => exact nrp_in (by omega)
theorem GPs.add {G G1 : List JG} (h : GPs ps G) (h1 : GPs ps G1) : GPs ps (G ++ G1) := fun x hx => (List.mem_append.mp hx).elim (h x) (h1 x)
theorem GPs.one {x : JG} (h : x.2.2.1 < ps.length ∧ 0 ≤ x.2.2.2.1 ∧ x.2.2.2.1 < (ps.length : Int)) : GPs ps [x] := fun z hz => by
  rw [List.mem_singleton.mp hz]
  exact h
theorem jmeet_gp (hg : g < ps.length) (ht : 0 ≤ t ∧ t < (ps.length : Int)) (h : jmeet g j p t w J (Sum.inl J1)) (hJ : GPs ps J.2.2.2) : GPs ps J1.2.2.2 := by
  rcases h with ⟨_, e⟩ | ⟨_, _, e⟩ | ⟨_, _, e⟩
  · cases e
  · rw [Sum.inl.inj e]
    exact hJ
  · rw [Sum.inl.inj e]
    exact hJ.add (GPs.one ⟨hg, ht⟩)
theorem jmg_gp (hg : g < ps.length) : ∀ l : List (List Int × SE), GPs ps (jmg c g l) := by
  intro l
  induction l with
  | nil => exact fun x hx => absurd hx List.not_mem_nil
  | cons z l ih =>
    obtain ⟨k, w⟩ := z
    show GPs ps (jmg c g l ++ (if k = [3] then [] else [(w.1.getD 0, plc c (w.1.getD 0), g, (g : Int), k, [3])]))
    refine ih.add ?_
    by_cases h : k = [3]
    · rw [if_pos h]
      exact fun x hx => absurd hx List.not_mem_nil
    · rw [if_neg h]
      exact GPs.one ⟨hg, by show 0 ≤ (g : Int) ∧ (g : Int) < _; omega⟩
theorem jmix_gp (hg : g < ps.length) (h : jmix c g m S J k J1) (hJ : GPs ps J.2.2.2) : GPs ps J1.2.2.2 := by
  rcases h with ⟨_, _, e⟩ | ⟨_, _, e⟩
  · rw [e]
    exact hJ
  · rw [e]
    exact hJ.add (jmg_gp hg _)
theorem JST.gp (hg : g < ps.length) (h : JST ch ps told c g j S a J (Sum.inl J1)) (hJ : GPs ps J.2.2.2) : GPs ps J1.2.2.2 := by
  have hgI : 0 ≤ (g : Int) ∧ (g : Int) < (ps.length : Int) := by omega
  have ee : ∀ J2 : JS, (Sum.inl J1 : Sum JS (Int × Int)) = Sum.inl J2 → J2.2.2.2 = J.2.2.2 → GPs ps J1.2.2.2 := fun J2 e q => by
    rw [Sum.inl.inj e, q]
    exact hJ
  have jc : ∀ n : Nat, jcall g j a.2.2.1 n J (Sum.inl J1) → GPs ps J1.2.2.2 := by
    intro n h
    rcases h with ⟨_, e⟩ | ⟨_, ⟨_, ⟨_, e⟩ | ⟨_, e⟩⟩ | ⟨_, e⟩⟩
    · rw [Sum.inl.inj e]
      exact hJ.add (GPs.one ⟨hg, hgI⟩)
    · exact ee _ e rfl
    · cases e
    · cases e
  rcases h with ⟨_, h⟩ | ⟨_, h⟩ | ⟨_, h⟩ | ⟨_, d, _, h⟩ | ⟨_, h⟩ | ⟨_, h⟩ | ⟨_, h⟩ | ⟨_, h⟩ | ⟨_, k, J2, h2, h⟩ | ⟨_, h⟩ | ⟨_, k, J2, h2, h⟩ | ⟨_, h⟩ | ⟨_, h⟩ | ⟨_, h⟩ | ⟨_, h⟩ | ⟨_, h⟩ | ⟨_, h⟩ | ⟨_, h⟩ | ⟨_, h⟩ | ⟨_, h⟩ | ⟨_, h⟩ | ⟨_, h⟩ | ⟨_, h⟩ | ⟨_, h⟩ | ⟨_, h⟩ | ⟨_, h⟩ | ⟨_, w, _, h⟩ | ⟨_, h⟩ | ⟨_, h⟩ | ⟨_, h⟩ | ⟨_, h⟩
  · exact ee _ h rfl
  · exact ee _ h rfl
  · exact ee _ h rfl
  · exact ee _ h rfl
  · exact ee _ h rfl
  · exact ee _ h rfl
  · exact ee _ h rfl
  · exact ee _ h rfl
  · rw [Sum.inl.inj h]
    have q := jmix_gp hg h2 hJ
    exact q
  · exact ee _ h rfl
  · rw [Sum.inl.inj h]
    have q := jmix_gp hg h2 hJ
    exact q
  · exact ee _ h rfl
  · exact ee _ h rfl
  · exact ee _ h rfl
  · exact ee _ h rfl
  · exact ee _ h rfl
  · exact ee _ h rfl
  · exact ee _ h rfl
  · exact ee _ h rfl
  · exact ee _ h rfl
  · exact ee _ h rfl
  · exact jmeet_gp hg hgI h hJ
  · exact jmeet_gp hg hgI h hJ
  · rcases h with ⟨_, e⟩ | ⟨_, _, e⟩ | ⟨_, _, e⟩
    · rw [Sum.inl.inj e]
      exact hJ.add (GPs.one ⟨hg, hgI⟩)
    · exact ee _ e rfl
    · cases e
  · exact jc _ h
  · exact jc _ h
  · exact jmeet_gp hg (tkr_lt hg _) h hJ
  · exact jmeet_gp hg hgI h hJ
  · exact jmeet_gp (J := jany (askd told g a.2.2.2) J) hg hgI h hJ
  · exact jmeet_gp hg hgI h hJ
  · exact ee _ h rfl
theorem JRN.gp (hg : g < ps.length) : ∀ (d : List Ins) (j : Nat) (S : List SE) (J J1 : JS), JRN ch ps told c g j S J d (Sum.inl J1) → GPs ps J.2.2.2 → GPs ps J1.2.2.2 := by
  intro d
  induction d with
  | nil =>
    intro j S J J1 h hJ
    have h : (Sum.inl J1 : Sum JS (Int × Int)) = Sum.inl J := h
    rw [Sum.inl.inj h]
    exact hJ
  | cons a d ih =>
    intro j S J J1 h hJ
    rcases h with ⟨J2, h1, h2⟩ | ⟨f, _, h2⟩
    · exact ih _ _ _ _ h2 (h1.gp hg hJ)
    · cases h2
/-- of all guards -/
theorem JALL.gp : ∀ (m k : Nat) (G G1 : List JG × List Bool), k + m = ps.length → JALL ch ps told c m k G (Sum.inl G1) → GPs ps G.1 → GPs ps G1.1 := by
  intro m
  induction m with
  | zero =>
    intro k G G1 _ h hG
    have h : (Sum.inl G1 : Sum (List JG × List Bool) (Int × Int)) = Sum.inl G := h
    rw [Sum.inl.inj h]
    exact hG
  | succ m ih =>
    intro k G G1 hk h hG
    rcases h with ⟨J, h1, h2⟩ | ⟨f, _, h2⟩
    · exact ih (k + 1) _ G1 (by omega) h2 (JRN.gp (by omega) _ _ _ _ _ h1 hG)
    · cases h2
end GPSS
