/-! the code of every part and its orders -/
section PRTS
variable {ch : Tx} {X : St} {nr : Int → Int} {c d : List Ins} {j s N : Nat} {b : Bool} {ps : List Pt} {po : Nat → Nat}
theorem ATc.mv {d0 l1 l2 : List Ins} (h : ATc c j b s d0) (e : c = l1 ++ (d ++ l2)) (hl : l1.length = j) : ATc c j b s d := by
  obtain ⟨m1, m2, h1, h2, h3, h4⟩ := h
  have e1 : m1 = l1 := (List.append_inj (h1.symm.trans e) (h2.trans hl.symm)).1
  rw [e1] at h3 h4
  exact ⟨l1, l2, e, hl, h3, h4⟩
/-- the number of the part whose name stands at a place -/
def nrp (ch : Tx) (ps : List Pt) (p : Int) : Int := (((partOf (nmsOf ps) (nm ch p.toNat)).getD 0 : Nat) : Int)
theorem NRq.of (hS : ∀ m, m < N → RSm ch ps X m) (hs : sNames ch ps c) (hP : PAq ch X ps) : NRq ch X (nrp ch ps) c N := by
  rintro n hn k3 h29 ⟨a, ha, a4, ap⟩
  have h := hs.2.1 a ha a4
  rw [ap] at h
  rcases partOf_sp (nmsOf ps) (nm ch (iv X 21 n).toNat) with ⟨g, _⟩ | ⟨m, g1, g2, _⟩
  · exact absurd g h
  · rw [nms_at] at g2
    cases e : ps[m]? with
    | none => rw [e] at g2; exact absurd g2.symm (Option.some_ne_none _)
    | some p =>
      rw [e] at g2
      have g2 : p.2.2.1 = nm ch (iv X 21 n).toNat := Option.some.inj g2
      have h8 := (hP.2 m p e).1.2.2
      rw [g2] at h8
      obtain ⟨k, k1, k2, _⟩ := hS n hn k3 (iv X 21 n) h8 h29
      unfold nrp
      rw [k1]
      exact k2
/-- the orders of all parts -/
def CDq (X : St) (po : Nat → Nat) (P : Nat) : Prop := po 0 = 0 ∧ ∀ p, p < P → (X.1 44 p).toInt = (po p : Int) ∧ 0 ≤ (X.1 18 p).toInt ∧ ∃ (lo hi e : Nat), CX X (ix (X.1 18 p)) lo hi (X.1 15 p).toInt (po p) e ∧ OA X e 30 p ∧ OA X (e + 1) 31 p ∧ po (p + 1) = e + 2
/-- the code of part k and its orders -/
def PRT (X : St) (nr : Int → Int) (c : List Ins) (po : Nat → Nat) (k i e : Nat) : Prop := ∃ dd, ATc c i false (po k) dd ∧ i + dd.length = e ∧ SGm X nr c i false (po k) [] dd false (po (k + 1)) [] ∧ DLA (X.1 15 k).toInt dd
theorem prt_all (hC : CDq X po ps.length) (hB : PBq ch X ps c N) (hN : NRq ch X nr c N) : ∀ k p, ps[k]? = some p → PRT X nr c po k p.2.2.2.2.2 (pend ps c k) := by
  have step : ∀ k p, ps[k]? = some p → (∀ d0 l1 l2, c = l1 ++ (d0 ++ l2) → l1.length = p.2.2.2.2.2 → ATc c p.2.2.2.2.2 false (po k) d0) → PRT X nr c po k p.2.2.2.2.2 (pend ps c k) := by
    intro k p hk hA
    have hlt : k < ps.length := (List.getElem?_eq_some_iff.mp hk).1
    obtain ⟨_, _, ⟨lo, hi, t, d, l1, l2, h1, ⟨m, h2⟩, h3, h4, h5, h6⟩, _, _⟩ := hB.2 k p hk
    obtain ⟨c1, c2, lo1, hi1, e, c3, c4, c5, c6⟩ := hC.2 k hlt
    have c18 : ix (X.1 18 k) = t := ixn h1
    rw [c18] at c3
    have T := OMf.tre (c := c) hN m lo hi t _ d h2 h3
    have A : ATc c p.2.2.2.2.2 false (po k) (d ++ [(35, (k : Int), plh d, []), (17, 0, plh d, [])]) := hA _ l1 l2 (by rw [h5, List.append_assoc]; rfl) h4
    have G := T.go (S := []) c3 A.app.1
    refine ⟨_, A, by rw [List.length_append]; exact h6, G.app ?_, ((OMf.dla m lo hi t _ d h2).2 _ _ _ _ _ c3).app (DLA.cons (by show ¬ (35 : Int) = 3; decide) (by show ¬ (35 : Int) = 5; decide) (DLA.cons (by show ¬ (17 : Int) = 3; decide) (by show ¬ (17 : Int) = 5; decide) DLA.nil))⟩
    refine SGm.i35 (n := k) ⟨c4, rfl, by rw [c18]; exact T.1.1.symm⟩ (SGm.i17 (n := k) c5 ?_)
    rw [c6]
    exact SGm.nil
  intro k
  induction k with
  | zero =>
    intro p hk
    refine step 0 p hk (fun d0 l1 l2 e hl => ?_)
    have z := (hB.2 0 p hk).2.2.2.2 rfl
    rw [z] at hl
    have e1 : l1 = [] := List.eq_nil_of_length_eq_zero hl
    rw [e1] at e
    rw [z, hC.1]
    exact ⟨[], l2, e, rfl, rfl, rfl⟩
  | succ k ih =>
    intro p hk
    have hlt : k + 1 < ps.length := (List.getElem?_eq_some_iff.mp hk).1
    obtain ⟨q, hq⟩ : ∃ q, ps[k]? = some q := ⟨_, List.getElem?_eq_getElem (by omega)⟩
    obtain ⟨dd, a1, a2, a3, _⟩ := ih q hq
    have en : pend ps c k = p.2.2.2.2.2 := by
      unfold pend
      rw [hk]
    rw [en] at a2
    refine step (k + 1) p hk (fun d0 l1 l2 e hl => ?_)
    have A : ATc c q.2.2.2.2.2 false (po k) (dd ++ []) := by rw [List.append_nil]; exact a1
    have A2 := A.sg a3
    rw [a2] at A2
    exact A2.mv e hl
end PRTS
