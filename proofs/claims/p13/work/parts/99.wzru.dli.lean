/-! what every instruction of a tree's code is -/
def NIq (a : Ins) : Prop := (a.1 = 30 ∨ a.1 = 31 → 0 ≤ a.2.1 ∧ a.2.1 ≤ 4) ∧ ¬ a.1 = 35 ∧ (a.1 = 34 → a.2.1 = 0) ∧ (a.1 = 5 → 0 ≤ a.2.1 ∧ a.2.1 ≤ 43)
def DLI (d : List Ins) : Prop := ∀ a ∈ d, NIq a
section DLIS
variable {ch : Tx} {X : St} {R : Nat → Nat → Nat → Nat → List Ins → Prop} {c d d1 d2 l : List Ins} {sc : Int} {a : Ins} {n lo hi s e : Nat}
theorem DLI.nil : DLI [] := fun a h => absurd h List.not_mem_nil
theorem DLI.app (h : DLI d1) (g : DLI d2) : DLI (d1 ++ d2) := fun a ha => (List.mem_append.mp ha).elim (h a) (g a)
theorem DLI.cons (h : NIq a) (g : DLI d) : DLI (a :: d) := fun b hb => (List.mem_cons.mp hb).elim (fun z => by rw [z]; exact h) (g b)
theorem DLI.stp (hh : HD0 d) (h : DLI d) : DLI (stp d) := by
  obtain ⟨a, l1, rfl, h0⟩ := hh
  have hl : DLI l1 := fun b hb => h b (List.mem_cons_of_mem _ hb)
  exact DLI.cons ⟨fun z => absurd z (by show ¬ (a.1 = 30 ∨ a.1 = 31); omega), (by show ¬ a.1 = 35; omega), fun z => absurd z (by show ¬ a.1 = 34; omega), fun z => absurd z (by show ¬ a.1 = 5; omega)⟩ hl
theorem CX.le11 (h : CX X n lo hi sc s e) (k0 : iv X 20 n = 11) : iv X 27 n ≤ 4 := by
  unfold iv at *
  obtain ⟨h1, h2, h3, h4, h⟩ := h.inv
  unfold UV at h
  rcases h with ⟨a, b, c, d⟩ | ⟨a, b, c⟩ | ⟨a, u, v, p, b, c, d, f, g⟩ | ⟨p, q, a, b, c, d, f, g⟩ | ⟨a, b, m, p, q, c, d, f, g, i⟩ | ⟨a, b, p, q, c, d, f, g, i, j⟩ | ⟨a, m, p, q, u, b, c, d, f, g, i, j, k⟩ | ⟨a, b, m1, m2, p, q, u, c, d, f, g, i, j, k, l, o, w, x, y, z, t⟩ | ⟨a, b, c, d, f, m, p, g, i, j, k⟩ | ⟨a, b, c, q, d, f, g⟩ | ⟨a, b, c, d⟩ | ⟨a, b, p, q, c, d, f, g, i⟩
  · exfalso; omega
  · exfalso; omega
  · exfalso; omega
  · exfalso; omega
  · exfalso; omega
  · exfalso; omega
  · exfalso; omega
  · exfalso; omega
  · exfalso; omega
  · exfalso; omega
  · exfalso; omega
  · exact b
theorem CX.le17 (h : CX X n lo hi sc s e) (k0 : iv X 20 n = 17) : sc ≤ 43 := by
  unfold iv at *
  obtain ⟨h1, h2, h3, h4, h⟩ := h.inv
  unfold UV at h
  rcases h with ⟨a, b, c, d⟩ | ⟨a, b, c⟩ | ⟨a, u, v, p, b, c, d, f, g⟩ | ⟨p, q, a, b, c, d, f, g⟩ | ⟨a, b, m, p, q, c, d, f, g, i⟩ | ⟨a, b, p, q, c, d, f, g, i, j⟩ | ⟨a, m, p, q, u, b, c, d, f, g, i, j, k⟩ | ⟨a, b, m1, m2, p, q, u, c, d, f, g, i, j, k, l, o, w, x, y, z, t⟩ | ⟨a, b, c, d, f, m, p, g, i, j, k⟩ | ⟨a, b, c, q, d, f, g⟩ | ⟨a, b, c, d⟩ | ⟨a, b, p, q, c, d, f, g, i⟩
  · exfalso; omega
  · exfalso; omega
  · exfalso; omega
  · exfalso; omega
  · exfalso; omega
  · exfalso; omega
  · exfalso; omega
  · exfalso; omega
  · exact f
  · exfalso; omega
  · exfalso; omega
  · exfalso; omega
/-- of a tree -/
def TRI (X : St) (t : Nat) (d : List Ins) : Prop := HD0 d ∧ ∀ (lo hi s e : Nat) (sc : Int), CX X t lo hi sc s e → DLI d
theorem ls_dli {n l r s0 t0 md : Nat} {it cu ps : Nat → Nat} {sep : Nat → List Ins → List Ins → Prop} (hD : LSD (CX X) X n l r sc md s0 t0 it cu ps) (hs : ∀ k e s, sep k e s → DLI s) (ih : ∀ lo hi u i e, R lo hi u i e → TRI X u e) : ∀ (es : Els) (kk lo : Nat) (v : Int) (i : Nat), OMc X R sep lo v i kk es → kk + es.length = ix (X.1 27 n) → (kk < ix (X.1 27 n) → v = (it kk : Int)) → DLI (cds es) := by
  intro es
  induction es with
  | nil => exact fun _ _ _ _ _ _ _ => DLI.nil
  | cons a es ih2 =>
    obtain ⟨u, h, e, s'⟩ := a
    intro kk lo v i hc hl hv1
    obtain ⟨c1, c2, c3, c4⟩ := hc
    rw [List.length_cons] at hl
    have hlt : kk < ix (X.1 27 n) := by omega
    obtain ⟨⟨p, g1, g2⟩, g3, g4⟩ := hD.2.2.2.2.2.2.2 kk hlt
    have eu : it kk = u := by have := hv1 hlt; omega
    rw [eu] at g1 g3
    exact (((ih _ _ _ _ _ c2).2 _ _ _ _ _ g1).app (hs _ _ _ c3)).app (ih2 (kk + 1) h _ _ c4 (by omega) (fun z => by
      obtain ⟨y1, y2⟩ := g3 z
      have := ixc y1
      omega))
theorem OMf.dli : ∀ (m lo hi t i : Nat) (d : List Ins), OMf ch X m lo hi t i d → TRI X t d := by
  intro m
  induction m with
  | zero => exact fun _ _ _ _ _ h => h.elim
  | succ m ih =>
    intro lo hi t i d h
    rw [OMf] at h
    obtain ⟨h1, h2, h3, h⟩ := h
    have st : ∀ {d : List Ins} {p : Int}, DLI d → DLI (((0, 1, p, []) : Ins) :: d) := fun h => DLI.cons ⟨fun z => absurd z (by show ¬ ((0 : Int) = 30 ∨ (0 : Int) = 31); decide), (by show ¬ (0 : Int) = 35; decide), fun z => absurd z (by show ¬ (0 : Int) = 34; decide), fun z => absurd z (by show ¬ (0 : Int) = 5; decide)⟩ h
    have cn : ∀ {o x p : Int} {kd : List Int} {d : List Ins}, ¬ (o = 30 ∨ o = 31 ∨ o = 35 ∨ o = 34 ∨ o = 5) → DLI d → DLI (((o, x, p, kd) : Ins) :: d) := fun h g => DLI.cons ⟨fun z => absurd z (by show ¬ (_ = (30 : Int) ∨ _ = (31 : Int)); omega), (by show ¬ _ = (35 : Int); omega), fun z => absurd z (by show ¬ _ = (34 : Int); omega), fun z => absurd z (by show ¬ _ = (5 : Int); omega)⟩ g
    have c5 : ∀ {sc p : Int} {d : List Ins}, 0 ≤ sc → sc ≤ 43 → DLI d → DLI (((5, sc, p, []) : Ins) :: d) := fun h1 h2 g => DLI.cons ⟨fun z => absurd z (by show ¬ ((5 : Int) = 30 ∨ (5 : Int) = 31); decide), (by show ¬ (5 : Int) = 35; decide), fun z => absurd z (by show ¬ (5 : Int) = 34; decide), fun _ => ⟨h1, h2⟩⟩ g
    have c34 : ∀ {p : Int} {kd : List Int} {d : List Ins}, DLI d → DLI (((34, 0, p, kd) : Ins) :: d) := fun g => DLI.cons ⟨fun z => absurd z (by show ¬ ((34 : Int) = 30 ∨ (34 : Int) = 31); decide), (by show ¬ (34 : Int) = 35; decide), fun _ => rfl, fun z => absurd z (by show ¬ (34 : Int) = 5; decide)⟩ g
    rcases h with h | h | h | h | h | h
    · rcases h with ⟨k0, rfl⟩ | ⟨k0, rfl⟩ | ⟨k0, rfl⟩ | ⟨k0, rfl, _⟩
      · exact ⟨⟨_, _, rfl, rfl⟩, fun lo hi s e sc hC => st (cn (by decide) DLI.nil)⟩
      · exact ⟨⟨_, _, rfl, rfl⟩, fun lo hi s e sc hC => st (cn (by decide) DLI.nil)⟩
      · refine ⟨⟨_, _, rfl, rfl⟩, fun lo hi s e sc hC => ?_⟩
        obtain ⟨_, _, w, g1, _, g2⟩ := hC.leaf (Or.inr (Or.inr (Or.inl k0)))
        have g2 := g2 (by omega)
        exact st (cn (by decide) DLI.nil)
      · exact ⟨⟨_, _, rfl, rfl⟩, fun lo hi s e sc hC => st (cn (by decide) DLI.nil)⟩
    · obtain ⟨u, e, h23, hR, h⟩ := h
      have T := ih _ _ _ _ _ hR
      have c23 : ix (X.1 23 t) = u := ixn h23
      rcases h with ⟨k0, rfl⟩ | ⟨k0, rfl⟩ | ⟨k0, rfl⟩ | ⟨k0, rfl⟩ | ⟨k0, rfl⟩
      · refine ⟨⟨_, _, rfl, rfl⟩, fun lo hi s e1 sc hC => ?_⟩
        obtain ⟨_, l, r, o2⟩ := hC.k8 k0
        rw [c23] at o2
        exact st (T.2 _ _ _ _ _ o2)
      · refine ⟨⟨_, _, rfl, rfl⟩, fun lo hi s e1 sc hC => ?_⟩
        obtain ⟨_, p, ⟨l, r, o2⟩, _⟩ := hC.k6 k0
        rw [c23] at o2
        exact st ((T.2 _ _ _ _ _ o2).app (cn (by decide) (cn (by decide) DLI.nil)))
      · refine ⟨⟨_, _, rfl, rfl⟩, fun lo hi s e1 sc hC => ?_⟩
        obtain ⟨_, p, ⟨l, r, o2⟩, _⟩ := hC.k7 k0
        rw [c23] at o2
        exact st ((T.2 _ _ _ _ _ o2).app (cn (by decide) (cn (by decide) DLI.nil)))
      · refine ⟨⟨_, _, rfl, rfl⟩, fun lo hi s e1 sc hC => ?_⟩
        obtain ⟨_, p, ⟨l, r, o2⟩, _⟩ := hC.k12 k0
        rw [c23] at o2
        exact st ((T.2 _ _ _ _ _ o2).app (cn (by decide) (cn (by decide) DLI.nil)))
      · refine ⟨⟨_, _, rfl, rfl⟩, fun lo hi s e1 sc hC => ?_⟩
        obtain ⟨_, p, ⟨l, r, o2⟩, _⟩ := hC.k13 k0
        rw [c23] at o2
        exact st ((T.2 _ _ _ _ _ o2).app (cn (by decide) (cn (by decide) DLI.nil)))
    · rcases h with ⟨k0, es, hc, h27, hle, rfl⟩ | ⟨k0, es, hc, h27, hle, rfl⟩
      · have c27 : ix (X.1 27 t) = es.length := ixn h27
        refine ⟨⟨_, _, rfl, rfl⟩, fun lo hi s e1 sc hC => ?_⟩
        obtain ⟨_, q, l, r, ⟨it, cu, ps, hD⟩, _⟩ := hC.k4 k0
        refine st ((ls_dli hD (fun k e s z => ?_) ih es 0 _ _ _ hc (by omega) (fun z => ?_)).app (cn (by decide) DLI.nil))
        · unfold sepL at z
          rw [z]
          exact cn (by decide) DLI.nil
        · obtain ⟨y1, y2⟩ := hD.2.2.2.2.2.2.1 (by
            have h27 : (X.1 27 t).toInt = _ := h27
            omega)
          have := ixc y1
          unfold iv
          omega
      · have c27 : ix (X.1 27 t) = es.length := ixn h27
        refine ⟨⟨_, _, rfl, rfl⟩, fun lo hi s e1 sc hC => ?_⟩
        obtain ⟨_, _, l, r, ⟨it, cu, ps, hD⟩⟩ := hC.k9 k0
        refine st (ls_dli hD (fun k e s z => ?_) ih es 0 _ _ _ hc (by omega) (fun z => ?_))
        · rcases z with ⟨_, p, z⟩ | ⟨_, z⟩
          · rw [z]
            exact cn (by decide) DLI.nil
          · rw [z]
            exact DLI.nil
        · obtain ⟨y1, y2⟩ := hD.2.2.2.2.2.2.1 (by
            have h27 : (X.1 27 t).toInt = _ := h27
            omega)
          have := ixc y1
          unfold iv
          omega
    · rcases h with ⟨k0, u, w, u2, e, e2, h23, h24, r1, r2, _, _, rfl⟩ | ⟨k0, lv, u, u2, e, e2, h23, h24, r1, r2, rfl⟩
      · have c23 : ix (X.1 23 t) = u := ixn h23
        have c24 : ix (X.1 24 t) = u2 := ixn h24
        refine ⟨⟨_, _, rfl, rfl⟩, fun lo hi s e1 sc hC => ?_⟩
        obtain ⟨_, p, q, ⟨_, _, o2⟩, _, ⟨_, _, o4⟩, _⟩ := hC.k5 k0
        rw [c23] at o2
        rw [c24] at o4
        exact st (((ih _ _ _ _ _ r1).2 _ _ _ _ _ o2).app (cn (by decide) (((ih _ _ _ _ _ r2).2 _ _ _ _ _ o4).app (cn (by decide) DLI.nil))))
      · have c23 : ix (X.1 23 t) = u := ixn h23
        have c24 : ix (X.1 24 t) = u2 := ixn h24
        refine ⟨(ih _ _ _ _ _ r1).1.stp.app _, fun lo hi s e1 sc hC => ?_⟩
        obtain ⟨_, p, q, ⟨_, _, o2⟩, _, ⟨_, _, o4⟩, _⟩ := hC.k14 (by
          by_cases z : lvl (iv X 26 t) = 1
          · rw [if_pos z] at k0; exact Or.inr k0
          · rw [if_neg z] at k0; exact Or.inl k0)
        rw [c23] at o2
        rw [c24] at o4
        have ol := (opc_lv (iv X 26 t)).1
        exact (((ih _ _ _ _ _ r1).2 _ _ _ _ _ o2).stp (ih _ _ _ _ _ r1).1).app (cn (by decide) (((ih _ _ _ _ _ r2).2 _ _ _ _ _ o4).app (cn (by decide) (cn (by omega) DLI.nil))))
    · rcases h with ⟨k0, u, w, u2, e, e2, h23, h24, r1, r2, _, _, h⟩ | ⟨k0, u, e, es, h23, r1, hc, h27, hle, rfl⟩
      · have c23 : ix (X.1 23 t) = u := ixn h23
        have c24 : ix (X.1 24 t) = u2 := ixn h24
        rcases h with ⟨h25, rfl⟩ | ⟨u3, e3, h25, r3, rfl⟩
        · refine ⟨(ih _ _ _ _ _ r1).1.stp.app _, fun lo hi s e1 sc hC => ?_⟩
          obtain ⟨_, p, q, ⟨_, _, o2⟩, _, ⟨_, _, o4⟩, _⟩ := hC.k10r k0 h25
          rw [c23] at o2
          rw [c24] at o4
          exact (((ih _ _ _ _ _ r1).2 _ _ _ _ _ o2).stp (ih _ _ _ _ _ r1).1).app (cn (by decide) (((ih _ _ _ _ _ r2).2 _ _ _ _ _ o4).app (cn (by decide) (cn (by decide) DLI.nil))))
        · have c25 : ix (X.1 25 t) = u3 := ixn h25
          refine ⟨(ih _ _ _ _ _ r1).1.stp.app _, fun lo hi s e1 sc hC => ?_⟩
          obtain ⟨_, p, q, v, ⟨_, _, o2⟩, _, ⟨_, _, o4⟩, _, ⟨_, _, o6⟩, _⟩ := hC.k10w k0 (by omega)
          rw [c23] at o2
          rw [c24] at o4
          rw [c25] at o6
          exact (((ih _ _ _ _ _ r1).2 _ _ _ _ _ o2).stp (ih _ _ _ _ _ r1).1).app (cn (by decide) (((ih _ _ _ _ _ r2).2 _ _ _ _ _ o4).app (cn (by decide) (((ih _ _ _ _ _ r3).2 _ _ _ _ _ o6).app (cn (by decide) (cn (by decide) DLI.nil))))))
      · have c23 : ix (X.1 23 t) = u := ixn h23
        have c27 : ix (X.1 27 t) = es.length := ixn h27
        refine ⟨(ih _ _ _ _ _ r1).1.stp.app _, fun lo hi s e1 sc hC => ?_⟩
        obtain ⟨_, p, q, ⟨_, _, o2⟩, _, ⟨l, r, ⟨it, cu, ps, hD⟩⟩, _⟩ := hC.k11 k0
        have le4 : iv X 27 t ≤ 4 := hC.le11 k0
        rw [c23] at o2
        refine (((ih _ _ _ _ _ r1).2 _ _ _ _ _ o2).stp (ih _ _ _ _ _ r1).1).app (DLI.cons ⟨fun _ => ⟨Int.natCast_nonneg _, by show ((es.length : Nat) : Int) ≤ 4; omega⟩, (by show ¬ (if iv X 20 u = 3 then (31 : Int) else 30) = 35; split <;> decide), fun z => absurd z (by show ¬ (if iv X 20 u = 3 then (31 : Int) else 30) = 34; split <;> decide), fun z => absurd z (by show ¬ (if iv X 20 u = 3 then (31 : Int) else 30) = 5; split <;> decide)⟩ ((ls_dli hD (fun k e s z => ?_) ih es 0 _ _ _ hc (by omega) (fun z => ?_)).app (cn (by decide) DLI.nil)))
        · unfold sepA at z
          rw [z]
          exact cn (by decide) DLI.nil
        · obtain ⟨y1, y2⟩ := hD.2.2.2.2.2.2.1 (by
            have h27 : (X.1 27 t).toInt = _ := h27
            omega)
          have := ixc y1
          unfold iv
          omega
    · rcases h with ⟨k0, u, w, u2, w2, u3, e, e2, e3, h23, h24, h25, r1, r2, r3, w1, w3, w4, rfl⟩ | ⟨k0, u, w, u2, e, e2, h23, h24, w1, w2, r1, h⟩
      · have c23 : ix (X.1 23 t) = u := ixn h23
        have c24 : ix (X.1 24 t) = u2 := ixn h24
        have c25 : ix (X.1 25 t) = u3 := ixn h25
        refine ⟨⟨_, _, rfl, rfl⟩, fun lo hi s e1 sc hC => ?_⟩
        obtain ⟨_, p, q, v, ⟨_, _, o2⟩, _, _, ⟨_, _, o5⟩, _, _, _, _, ⟨_, _, o10⟩, _⟩ := hC.k16 k0
        rw [c23] at o2
        rw [c24] at o5
        rw [c25] at o10
        exact st (((ih _ _ _ _ _ r1).2 _ _ _ _ _ o2).app (cn (by decide) (cn (by decide) (((ih _ _ _ _ _ r2).2 _ _ _ _ _ o5).app (cn (by decide) (cn (by decide) (((ih _ _ _ _ _ r3).2 _ _ _ _ _ o10).app (cn (by decide) (cn (by decide) DLI.nil)))))))))
      · have c23 : ix (X.1 23 t) = u := ixn h23
        have c24 : ix (X.1 24 t) = u2 := ixn h24
        rcases h with ⟨h25, r2, rfl⟩ | ⟨kn, kd, h25, hK, r2, rfl⟩
        · refine ⟨⟨_, _, rfl, rfl⟩, fun lo hi s e1 sc hC => ?_⟩
          obtain ⟨_, p, ⟨_, _, o2⟩, _, _, ⟨_, _, o5⟩, hs, h0⟩ := hC.k17 k0
          rw [c23] at o2
          rw [c24] at o5
          rw [hs]
          exact st (((ih _ _ _ _ _ r1).2 _ _ _ _ _ o2).app (c5 h0 (hC.le17 k0) ((ih _ _ _ _ _ r2).2 _ _ _ _ _ o5)))
        · refine ⟨⟨_, _, rfl, rfl⟩, fun lo hi s e1 sc hC => ?_⟩
          obtain ⟨_, p, ⟨_, _, o2⟩, _, _, ⟨_, _, o5⟩, hs, h0⟩ := hC.k17 k0
          rw [c23] at o2
          rw [c24] at o5
          rw [hs]
          exact st (((ih _ _ _ _ _ r1).2 _ _ _ _ _ o2).app (c34 (c5 h0 (hC.le17 k0) ((ih _ _ _ _ _ r2).2 _ _ _ _ _ o5))))
/-- what every instruction of a part's code is -/
theorem prt_inf {nr : Int → Int} {ps : List Pt} {po : Nat → Nat} {N k : Nat} {p : Pt} (hC : CDq X po ps.length) (hB : PBq ch X ps c N) (hk : ps[k]? = some p) : ∃ d l1 l2, c = l1 ++ ((d ++ [(35, (k : Int), plh d, []), (17, 0, plh d, [])]) ++ l2) ∧ l1.length = p.2.2.2.2.2 ∧ p.2.2.2.2.2 + (d.length + 2) = pend ps c k ∧ DLI d := by
  have hlt : k < ps.length := (List.getElem?_eq_some_iff.mp hk).1
  obtain ⟨_, _, ⟨lo, hi, t, d, l1, l2, h1, ⟨m, h2⟩, h3, h4, h5, h6⟩, _, _⟩ := hB.2 k p hk
  obtain ⟨c1, c2, lo1, hi1, e, c3, c4, c5, c6⟩ := hC.2 k hlt
  have c18 : ix (X.1 18 k) = t := ixn h1
  rw [c18] at c3
  exact ⟨d, l1, l2, by rw [h5, List.append_assoc]; rfl, h4, h6, (OMf.dli m lo hi t _ d h2).2 _ _ _ _ _ c3⟩
end DLIS
