/-! the reference looks names up -/
theorem pof_sp : ∀ (ns : List Nm) (l : Nm) (k : Nat), (pof ns l k = none ∧ ∀ m : Nat, ¬ ns[m]? = some l) ∨ ∃ m : Nat, pof ns l k = some (k + m) ∧ ns[m]? = some l ∧ ∀ i : Nat, i < m → ¬ ns[i]? = some l := by
  intro ns l
  induction ns with
  | nil => exact fun k => Or.inl ⟨rfl, fun m e => by rw [List.getElem?_nil] at e; exact Option.some_ne_none _ e.symm⟩
  | cons x xs ih =>
    intro k
    rw [pof]
    by_cases e : x = l
    · rw [if_pos e]
      exact Or.inr ⟨0, rfl, by rw [e]; rfl, fun i hi => by omega⟩
    · rw [if_neg e]
      rcases ih (k + 1) with ⟨h1, h2⟩ | ⟨m, h1, h2, h3⟩
      · refine Or.inl ⟨h1, fun m => ?_⟩
        cases m with
        | zero => exact fun z => e (Option.some.inj z)
        | succ m => exact h2 m
      · refine Or.inr ⟨m + 1, by rw [h1, show k + 1 + m = k + (m + 1) by omega], h2, fun i hi => ?_⟩
        cases i with
        | zero => exact fun z => e (Option.some.inj z)
        | succ i => exact h3 i (by omega)
theorem partOf_sp (ns : List Nm) (l : Nm) : (partOf ns l = none ∧ ∀ m : Nat, ¬ ns[m]? = some l) ∨ ∃ m : Nat, partOf ns l = some m ∧ ns[m]? = some l ∧ ∀ i : Nat, i < m → ¬ ns[i]? = some l := by
  rcases pof_sp ns l 0 with h | ⟨m, h1, h2⟩
  · exact Or.inl h
  · exact Or.inr ⟨m, by rw [partOf, h1, Nat.zero_add], h2⟩
/-- the first one from i on -/
def FMq (ns : List Nm) (l : Nm) (i : Nat) (r : Int) : Prop := (r = -1 ∧ ∀ k : Nat, i ≤ k → ¬ ns[k]? = some l) ∨ ∃ m : Nat, r = (m : Int) ∧ i ≤ m ∧ ns[m]? = some l ∧ ∀ k : Nat, i ≤ k → k < m → ¬ ns[k]? = some l
theorem FMq.dn {ns : List Nm} {l : Nm} {i : Nat} {r : Int} (h : FMq ns l (i + 1) r) (no : ¬ ns[i]? = some l) : FMq ns l i r := by
  rcases h with ⟨f1, f2⟩ | ⟨m, f1, f2, f3, f4⟩
  · refine Or.inl ⟨f1, fun k hk => ?_⟩
    by_cases ek : k = i
    · rw [ek]; exact no
    · exact f2 k (by omega)
  · refine Or.inr ⟨m, f1, by omega, f3, fun k hk1 hk2 => ?_⟩
    by_cases ek : k = i
    · rw [ek]; exact no
    · exact f4 k (by omega) hk2
section RKNOWS
variable {ch : Tx} {n q : Nat} {X Y Z X0 : St} {o : Int} {sc : List Nm} {j N N1 s N0 m : Nat} {Q : Int32 → St → Prop} {c c1 : List Ins} {ps : List Pt} {l : Nm}
theorem nms_at {k : Nat} : (nmsOf ps)[k]? = ps[k]?.map (fun p => p.2.2.1) := by
  unfold nmsOf
  exact List.getElem?_map ..
theorem x_partOf (hP : PAq ch X ps) (hk : ps.length ≤ 41) (hl : LT l ∧ l.length ≤ 8) {v : Int64} (hv : v = lN (p6 l)) : pw (f_partOf v X) (fun r Y => Y = X ∧ ((partOf (nmsOf ps) l = none ∧ r.toInt = -1) ∨ ∃ m : Nat, partOf (nmsOf ps) l = some m ∧ r.toInt = (m : Int) ∧ m < ps.length)) := by
  have l1 : (1 : Int32).toInt = 1 := by decide
  have lm : (Int32.ofInt (-1)).toInt = -1 := by decide
  have h18 := hP.1
  have loop : ∀ M (a3 a4 : Int32) (i : Nat), a4.toInt = (i : Int) - 1 → i ≤ ps.length → FMq (nmsOf ps) l i a3.toInt → pw (f_partOf_10 M v a3 a4 X) (fun r Y => Y = X ∧ FMq (nmsOf ps) l 0 r.toInt) := by
    intro M
    induction M with
    | zero => exact fun _ _ _ _ _ _ => pw_none
    | succ M ih =>
      intro a3 a4 i h4 hi hF
      have e : f_partOf_10 (M + 1) = f_partOf_10_s (f_partOf_10 M) := by
        unfold f_partOf_10
        exact lp_succ _ _ _
      rw [e]
      unfold f_partOf_10_s
      refine pw_ite (fun cn => ?_) (fun cn => ?_)
      · have e0 : i = 0 := by omega
        rw [e0] at hF
        exact pw_ret ⟨rfl, hF⟩
      · obtain ⟨i, rfl⟩ : ∃ k, i = k + 1 := ⟨i - 1, by omega⟩
        have v4 : a4.toInt = (i : Int) := by omega
        have hin : i < ps.length := by omega
        obtain ⟨pi, hat⟩ : ∃ p, ps[i]? = some p := ⟨_, List.getElem?_eq_getElem hin⟩
        obtain ⟨⟨hx, hxl, hx8⟩, _, _⟩ := hP.2 i _ hat
        have hnm : (nmsOf ps)[i]? = some pi.2.2.1 := by rw [nms_at, hat]; rfl
        refine pw_ck (fun hc => ?_)
        refine pw_let (pw_let ?_)
        rw [ixn v4, hx, hv]
        have hcmp : (lg_cmp (lN (p6 pi.2.2.1)) (lN (p6 l))).toInt = 0 ↔ pi.2.2.1 = l := by
          rw [cmp0, pk_lEQ (by have := p6_lt hxl hx8; omega) (by have := p6_lt hl.1 hl.2; omega)]
          exact ⟨fun g => p6_inj hxl hl.1 g, fun g => by rw [g]⟩
        have hle : i ≤ ps.length := Nat.le_of_lt hin
        have stepv : (a4 + Int32.ofInt (-1)).toInt = (i : Int) - 1 := by rw [ti_add (by rw [v4, lm]; omega) (by rw [v4, lm]; omega), v4, lm]; omega
        unfold f_partOf_33
        refine pw_ite (fun c1 => ?_) (fun c1 => ?_)
        · rw [← hv]
          exact pw_let (ih _ _ i stepv hle (Or.inr ⟨i, v4, Nat.le_refl _, by rw [hnm, hcmp.mp c1], fun k h1 h2 => absurd h2 (Nat.not_lt.mpr h1)⟩))
        · rw [← hv]
          have no : ¬ (nmsOf ps)[i]? = some l := by
            rw [hnm]
            exact fun z => c1 (hcmp.mpr (Option.some.inj z))
          exact pw_let (ih _ _ i stepv hle (hF.dn no))
  unfold f_partOf
  refine pw_let (pw_eq (fun x2 e2 => ?_))
  have v2 : x2.toInt = (ps.length : Int) - 1 := by rw [e2, ti_sub (by rw [h18, l1]; omega) (by rw [h18, l1]; omega), h18, l1]
  have top : ∀ k, ps.length ≤ k → ¬ (nmsOf ps)[k]? = some l := by
    intro k hk z
    rw [nms_at, List.getElem?_eq_none hk] at z
    exact Option.some_ne_none _ z.symm
  refine pw_mono (loop BIG _ x2 ps.length v2 (Nat.le_refl _) (Or.inl ⟨by decide, top⟩)) ?_
  rintro r Y ⟨e, hF⟩
  refine ⟨e, ?_⟩
  rcases hF with ⟨f1, f2⟩ | ⟨m, f1, f2, f3, f4⟩
  · rcases partOf_sp (nmsOf ps) l with ⟨h1, _⟩ | ⟨m, _, h2, _⟩
    · exact Or.inl ⟨h1, f1⟩
    · exact absurd h2 (f2 m (by omega))
  · rcases partOf_sp (nmsOf ps) l with ⟨_, h2⟩ | ⟨m2, h1, h2, h3⟩
    · exact absurd f3 (h2 m)
    · have em : m2 = m := by
        rcases Nat.lt_trichotomy m2 m with g | g | g
        · exact absurd h2 (f4 m2 (by omega) g)
        · exact g
        · exact absurd f3 (h3 m g)
      refine Or.inr ⟨m, by rw [h1, em], f1, ?_⟩
      exact Classical.byContradiction (fun z => top m (by omega) f3)
end RKNOWS
