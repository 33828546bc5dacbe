/-! names are bound before they are used -/
/-- all slots below D are bound: so they stay, each name is bound -/
def DLk : Nat → List Ins → Prop
  | _, [] => True
  | D, a :: d => (a.1 = 3 → 0 ≤ a.2.1 ∧ a.2.1 < (D : Int)) ∧ (a.1 = 5 → 0 ≤ a.2.1 ∧ a.2.1 ≤ (D : Int)) ∧ DLk (if a.1 = 5 then max D (a.2.1.toNat + 1) else D) d
def DLA (sc : Int) (d : List Ins) : Prop := ∀ (D : Nat) (l : List Ins), sc ≤ (D : Int) → (∀ D1 : Nat, D ≤ D1 → DLk D1 l) → DLk D (d ++ l)
section DLAS
variable {ch : Tx} {X : St} {R : Nat → Nat → Nat → Nat → List Ins → Prop} {c d d1 d2 l : List Ins} {sc : Int} {a : Ins}
theorem DLA.nil : DLA sc [] := fun D l _ h => h D (Nat.le_refl _)
theorem DLA.app (h : DLA sc d1) (g : DLA sc d2) : DLA sc (d1 ++ d2) := fun D l hD hl => by
  rw [List.append_assoc]
  exact h D _ hD (fun D1 h1 => g D1 l (by omega) (fun D2 h2 => hl D2 (by omega)))
theorem DLA.cons (h3 : ¬ a.1 = 3) (h5 : ¬ a.1 = 5) (h : DLA sc d) : DLA sc (a :: d) := fun D l hD hl => by
  refine ⟨fun z => absurd z h3, fun z => absurd z h5, ?_⟩
  rw [if_neg h5]
  exact h D l hD hl
theorem DLA.loc {p x : Int} {kd : List Int} (h0 : 0 ≤ x) (hx : x < sc) (h : DLA sc d) : DLA sc ((3, x, p, kd) :: d) := fun D l hD hl => ⟨fun _ => ⟨h0, by show x < _; omega⟩, fun z => absurd z (by show ¬ (3 : Int) = 5; decide), h D l hD hl⟩
theorem DLA.bind {p : Int} {kd : List Int} (h0 : 0 ≤ sc) (h : DLA (sc + 1) d) : DLA sc ((5, sc, p, kd) :: d) := fun D l hD hl => ⟨fun z => absurd z (by show ¬ (5 : Int) = 3; decide), fun _ => ⟨h0, by show sc ≤ _; omega⟩, by
  show DLk (if (5 : Int) = 5 then max D (sc.toNat + 1) else D) _
  rw [if_pos rfl]
  exact h _ l (by omega) (fun D1 h1 => hl D1 (by omega))⟩
/-- code that begins with a step -/
def HD0 (d : List Ins) : Prop := ∃ a l, d = a :: l ∧ a.1 = 0
theorem HD0.stp (h : HD0 d) : HD0 (stp d) := by
  obtain ⟨a, l, rfl, h0⟩ := h
  exact ⟨(a.1, a.2.1 + 1, a.2.2), l, rfl, h0⟩
theorem HD0.app (h : HD0 d) (l : List Ins) : HD0 (d ++ l) := by
  obtain ⟨a, l1, rfl, h0⟩ := h
  exact ⟨a, l1 ++ l, rfl, h0⟩
theorem DLA.stp (hh : HD0 d) (h : DLA sc d) : DLA sc (stp d) := by
  obtain ⟨a, l1, rfl, h0⟩ := hh
  intro D l hD hl
  have := h D l hD hl
  show DLk D ((a.1, a.2.1 + 1, a.2.2) :: (l1 ++ l))
  have := this.2.2
  rw [if_neg (by omega)] at this
  refine ⟨fun z => absurd z (by show ¬ a.1 = 3; omega), fun z => absurd z (by show ¬ a.1 = 5; omega), ?_⟩
  show DLk (if a.1 = 5 then _ else D) _
  rw [if_neg (by omega)]
  exact this
/-- of a tree -/
def TRD (X : St) (t : Nat) (d : List Ins) : Prop := HD0 d ∧ ∀ (lo hi s e : Nat) (sc : Int), CX X t lo hi sc s e → DLA sc d
theorem ls_dla {n l r s0 t0 md : Nat} {it cu ps : Nat → Nat} {sep : Nat → List Ins → List Ins → Prop} (hD : LSD (CX X) X n l r sc md s0 t0 it cu ps) (hs : ∀ k e s, sep k e s → DLA sc s) (ih : ∀ lo hi u i e, R lo hi u i e → TRD X u e) : ∀ (es : Els) (kk lo : Nat) (v : Int) (i : Nat), OMc X R sep lo v i kk es → kk + es.length = ix (X.1 27 n) → (kk < ix (X.1 27 n) → v = (it kk : Int)) → DLA sc (cds es) := by
  intro es
  induction es with
  | nil => exact fun _ _ _ _ _ _ _ => DLA.nil
  | cons a es ih2 =>
    obtain ⟨u, h, e, s'⟩ := a
    intro kk lo v i hc hl hv1
    obtain ⟨c1, c2, c3, c4⟩ := hc
    rw [List.length_cons] at hl
    have hlt : kk < ix (X.1 27 n) := by omega
    obtain ⟨⟨p, g1, g2⟩, g3, g4⟩ := hD.2.2.2.2.2.2.2 kk hlt
    have eu : it kk = u := by have := hv1 hlt; omega
    rw [eu] at g1 g3
    exact (((ih _ _ _ _ _ c2).2 _ _ _ _ _ g1).app (hs _ _ _ c3)).app (ih2 (kk + 1) h _ _ c4 (by omega) (fun z => by
      obtain ⟨y1, y2⟩ := g3 z
      have := ixc y1
      omega))
theorem OMf.dla : ∀ (m lo hi t i : Nat) (d : List Ins), OMf ch X m lo hi t i d → TRD X t d := by
  intro m
  induction m with
  | zero => exact fun _ _ _ _ _ h => h.elim
  | succ m ih =>
    intro lo hi t i d h
    rw [OMf] at h
    obtain ⟨h1, h2, h3, h⟩ := h
    have st : ∀ {sc : Int} {d p : _}, DLA sc d → DLA sc (((0, 1, p, []) : Ins) :: d) := fun h => DLA.cons (by show ¬ (0 : Int) = 3; decide) (by show ¬ (0 : Int) = 5; decide) h
    have cn : ∀ {sc : Int} {o x p : Int} {kd : List Int} {d : List Ins}, ¬ o = 3 → ¬ o = 5 → DLA sc d → DLA sc (((o, x, p, kd) : Ins) :: d) := fun h h5 g => DLA.cons h h5 g
    rcases h with h | h | h | h | h | h
    · rcases h with ⟨k0, rfl⟩ | ⟨k0, rfl⟩ | ⟨k0, rfl⟩ | ⟨k0, rfl, _⟩
      · exact ⟨⟨_, _, rfl, rfl⟩, fun lo hi s e sc hC => st (cn (by decide) (by decide) DLA.nil)⟩
      · exact ⟨⟨_, _, rfl, rfl⟩, fun lo hi s e sc hC => st (cn (by decide) (by decide) DLA.nil)⟩
      · refine ⟨⟨_, _, rfl, rfl⟩, fun lo hi s e sc hC => ?_⟩
        obtain ⟨_, _, w, g1, _, g2⟩ := hC.leaf (Or.inr (Or.inr (Or.inl k0)))
        have g2 := g2 (by omega)
        exact st (DLA.loc g2.1 g2.2 DLA.nil)
      · exact ⟨⟨_, _, rfl, rfl⟩, fun lo hi s e sc hC => st (cn (by decide) (by decide) DLA.nil)⟩
    · obtain ⟨u, e, h23, hR, h⟩ := h
      have T := ih _ _ _ _ _ hR
      have c23 : ix (X.1 23 t) = u := ixn h23
      rcases h with ⟨k0, rfl⟩ | ⟨k0, rfl⟩ | ⟨k0, rfl⟩ | ⟨k0, rfl⟩ | ⟨k0, rfl⟩
      · refine ⟨⟨_, _, rfl, rfl⟩, fun lo hi s e1 sc hC => ?_⟩
        obtain ⟨_, l, r, o2⟩ := hC.k8 k0
        rw [c23] at o2
        exact st (T.2 _ _ _ _ _ o2)
      · refine ⟨⟨_, _, rfl, rfl⟩, fun lo hi s e1 sc hC => ?_⟩
        obtain ⟨_, p, ⟨l, r, o2⟩, _⟩ := hC.k6 k0
        rw [c23] at o2
        exact st ((T.2 _ _ _ _ _ o2).app (cn (by decide) (by decide) (cn (by decide) (by decide) DLA.nil)))
      · refine ⟨⟨_, _, rfl, rfl⟩, fun lo hi s e1 sc hC => ?_⟩
        obtain ⟨_, p, ⟨l, r, o2⟩, _⟩ := hC.k7 k0
        rw [c23] at o2
        exact st ((T.2 _ _ _ _ _ o2).app (cn (by decide) (by decide) (cn (by decide) (by decide) DLA.nil)))
      · refine ⟨⟨_, _, rfl, rfl⟩, fun lo hi s e1 sc hC => ?_⟩
        obtain ⟨_, p, ⟨l, r, o2⟩, _⟩ := hC.k12 k0
        rw [c23] at o2
        exact st ((T.2 _ _ _ _ _ o2).app (cn (by decide) (by decide) (cn (by decide) (by decide) DLA.nil)))
      · refine ⟨⟨_, _, rfl, rfl⟩, fun lo hi s e1 sc hC => ?_⟩
        obtain ⟨_, p, ⟨l, r, o2⟩, _⟩ := hC.k13 k0
        rw [c23] at o2
        exact st ((T.2 _ _ _ _ _ o2).app (cn (by decide) (by decide) (cn (by decide) (by decide) DLA.nil)))
    · rcases h with ⟨k0, es, hc, h27, hle, rfl⟩ | ⟨k0, es, hc, h27, hle, rfl⟩
      · have c27 : ix (X.1 27 t) = es.length := ixn h27
        refine ⟨⟨_, _, rfl, rfl⟩, fun lo hi s e1 sc hC => ?_⟩
        obtain ⟨_, q, l, r, ⟨it, cu, ps, hD⟩, _⟩ := hC.k4 k0
        refine st ((ls_dla hD (fun k e s z => ?_) ih es 0 _ _ _ hc (by omega) (fun z => ?_)).app (cn (by decide) (by decide) DLA.nil))
        · unfold sepL at z
          rw [z]
          exact cn (by decide) (by decide) DLA.nil
        · obtain ⟨y1, y2⟩ := hD.2.2.2.2.2.2.1 (by
            have h27 : (X.1 27 t).toInt = _ := h27
            omega)
          have := ixc y1
          unfold iv
          omega
      · have c27 : ix (X.1 27 t) = es.length := ixn h27
        refine ⟨⟨_, _, rfl, rfl⟩, fun lo hi s e1 sc hC => ?_⟩
        obtain ⟨_, _, l, r, ⟨it, cu, ps, hD⟩⟩ := hC.k9 k0
        refine st (ls_dla hD (fun k e s z => ?_) ih es 0 _ _ _ hc (by omega) (fun z => ?_))
        · rcases z with ⟨_, p, z⟩ | ⟨_, z⟩
          · rw [z]
            exact cn (by decide) (by decide) DLA.nil
          · rw [z]
            exact DLA.nil
        · obtain ⟨y1, y2⟩ := hD.2.2.2.2.2.2.1 (by
            have h27 : (X.1 27 t).toInt = _ := h27
            omega)
          have := ixc y1
          unfold iv
          omega
    · rcases h with ⟨k0, u, w, u2, e, e2, h23, h24, r1, r2, _, _, rfl⟩ | ⟨k0, lv, u, u2, e, e2, h23, h24, r1, r2, rfl⟩
      · have c23 : ix (X.1 23 t) = u := ixn h23
        have c24 : ix (X.1 24 t) = u2 := ixn h24
        refine ⟨⟨_, _, rfl, rfl⟩, fun lo hi s e1 sc hC => ?_⟩
        obtain ⟨_, p, q, ⟨_, _, o2⟩, _, ⟨_, _, o4⟩, _⟩ := hC.k5 k0
        rw [c23] at o2
        rw [c24] at o4
        exact st (((ih _ _ _ _ _ r1).2 _ _ _ _ _ o2).app (cn (by decide) (by decide) (((ih _ _ _ _ _ r2).2 _ _ _ _ _ o4).app (cn (by decide) (by decide) DLA.nil))))
      · have c23 : ix (X.1 23 t) = u := ixn h23
        have c24 : ix (X.1 24 t) = u2 := ixn h24
        refine ⟨(ih _ _ _ _ _ r1).1.stp.app _, fun lo hi s e1 sc hC => ?_⟩
        obtain ⟨_, p, q, ⟨_, _, o2⟩, _, ⟨_, _, o4⟩, _⟩ := hC.k14 (by
          by_cases z : lvl (iv X 26 t) = 1
          · rw [if_pos z] at k0; exact Or.inr k0
          · rw [if_neg z] at k0; exact Or.inl k0)
        rw [c23] at o2
        rw [c24] at o4
        have ol := (opc_lv (iv X 26 t)).1
        exact (((ih _ _ _ _ _ r1).2 _ _ _ _ _ o2).stp (ih _ _ _ _ _ r1).1).app (cn (by decide) (by decide) (((ih _ _ _ _ _ r2).2 _ _ _ _ _ o4).app (cn (by decide) (by decide) (cn (by omega) (by omega) DLA.nil))))
    · rcases h with ⟨k0, u, w, u2, e, e2, h23, h24, r1, r2, _, _, h⟩ | ⟨k0, u, e, es, h23, r1, hc, h27, hle, rfl⟩
      · have c23 : ix (X.1 23 t) = u := ixn h23
        have c24 : ix (X.1 24 t) = u2 := ixn h24
        rcases h with ⟨h25, rfl⟩ | ⟨u3, e3, h25, r3, rfl⟩
        · refine ⟨(ih _ _ _ _ _ r1).1.stp.app _, fun lo hi s e1 sc hC => ?_⟩
          obtain ⟨_, p, q, ⟨_, _, o2⟩, _, ⟨_, _, o4⟩, _⟩ := hC.k10r k0 h25
          rw [c23] at o2
          rw [c24] at o4
          exact (((ih _ _ _ _ _ r1).2 _ _ _ _ _ o2).stp (ih _ _ _ _ _ r1).1).app (cn (by decide) (by decide) (((ih _ _ _ _ _ r2).2 _ _ _ _ _ o4).app (cn (by decide) (by decide) (cn (by decide) (by decide) DLA.nil))))
        · have c25 : ix (X.1 25 t) = u3 := ixn h25
          refine ⟨(ih _ _ _ _ _ r1).1.stp.app _, fun lo hi s e1 sc hC => ?_⟩
          obtain ⟨_, p, q, v, ⟨_, _, o2⟩, _, ⟨_, _, o4⟩, _, ⟨_, _, o6⟩, _⟩ := hC.k10w k0 (by omega)
          rw [c23] at o2
          rw [c24] at o4
          rw [c25] at o6
          exact (((ih _ _ _ _ _ r1).2 _ _ _ _ _ o2).stp (ih _ _ _ _ _ r1).1).app (cn (by decide) (by decide) (((ih _ _ _ _ _ r2).2 _ _ _ _ _ o4).app (cn (by decide) (by decide) (((ih _ _ _ _ _ r3).2 _ _ _ _ _ o6).app (cn (by decide) (by decide) (cn (by decide) (by decide) DLA.nil))))))
      · have c23 : ix (X.1 23 t) = u := ixn h23
        have c27 : ix (X.1 27 t) = es.length := ixn h27
        refine ⟨(ih _ _ _ _ _ r1).1.stp.app _, fun lo hi s e1 sc hC => ?_⟩
        obtain ⟨_, p, q, ⟨_, _, o2⟩, _, ⟨l, r, ⟨it, cu, ps, hD⟩⟩, _⟩ := hC.k11 k0
        rw [c23] at o2
        refine (((ih _ _ _ _ _ r1).2 _ _ _ _ _ o2).stp (ih _ _ _ _ _ r1).1).app (cn (by split <;> decide) (by split <;> decide) ((ls_dla hD (fun k e s z => ?_) ih es 0 _ _ _ hc (by omega) (fun z => ?_)).app (cn (by decide) (by decide) DLA.nil)))
        · unfold sepA at z
          rw [z]
          exact cn (by decide) (by decide) DLA.nil
        · obtain ⟨y1, y2⟩ := hD.2.2.2.2.2.2.1 (by
            have h27 : (X.1 27 t).toInt = _ := h27
            omega)
          have := ixc y1
          unfold iv
          omega
    · rcases h with ⟨k0, u, w, u2, w2, u3, e, e2, e3, h23, h24, h25, r1, r2, r3, w1, w3, w4, rfl⟩ | ⟨k0, u, w, u2, e, e2, h23, h24, w1, w2, r1, h⟩
      · have c23 : ix (X.1 23 t) = u := ixn h23
        have c24 : ix (X.1 24 t) = u2 := ixn h24
        have c25 : ix (X.1 25 t) = u3 := ixn h25
        refine ⟨⟨_, _, rfl, rfl⟩, fun lo hi s e1 sc hC => ?_⟩
        obtain ⟨_, p, q, v, ⟨_, _, o2⟩, _, _, ⟨_, _, o5⟩, _, _, _, _, ⟨_, _, o10⟩, _⟩ := hC.k16 k0
        rw [c23] at o2
        rw [c24] at o5
        rw [c25] at o10
        exact st (((ih _ _ _ _ _ r1).2 _ _ _ _ _ o2).app (cn (by decide) (by decide) (cn (by decide) (by decide) (((ih _ _ _ _ _ r2).2 _ _ _ _ _ o5).app (cn (by decide) (by decide) (cn (by decide) (by decide) (((ih _ _ _ _ _ r3).2 _ _ _ _ _ o10).app (cn (by decide) (by decide) (cn (by decide) (by decide) DLA.nil)))))))))
      · have c23 : ix (X.1 23 t) = u := ixn h23
        have c24 : ix (X.1 24 t) = u2 := ixn h24
        rcases h with ⟨h25, r2, rfl⟩ | ⟨kn, kd, h25, hK, r2, rfl⟩
        · refine ⟨⟨_, _, rfl, rfl⟩, fun lo hi s e1 sc hC => ?_⟩
          obtain ⟨_, p, ⟨_, _, o2⟩, _, _, ⟨_, _, o5⟩, hs, h0⟩ := hC.k17 k0
          rw [c23] at o2
          rw [c24] at o5
          rw [hs]
          exact st (((ih _ _ _ _ _ r1).2 _ _ _ _ _ o2).app (DLA.bind h0 ((ih _ _ _ _ _ r2).2 _ _ _ _ _ o5)))
        · refine ⟨⟨_, _, rfl, rfl⟩, fun lo hi s e1 sc hC => ?_⟩
          obtain ⟨_, p, ⟨_, _, o2⟩, _, _, ⟨_, _, o5⟩, hs, h0⟩ := hC.k17 k0
          rw [c23] at o2
          rw [c24] at o5
          rw [hs]
          exact st (((ih _ _ _ _ _ r1).2 _ _ _ _ _ o2).app (cn (by decide) (by decide) (DLA.bind h0 ((ih _ _ _ _ _ r2).2 _ _ _ _ _ o5))))
end DLAS
