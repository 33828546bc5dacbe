/-! the code of a tree and its orders: lists -/
/-- the tree t with the code d at i: its orders stand for that code -/
def TRE (X : St) (nr : Int → Int) (c : List Ins) (t i : Nat) (d : List Ins) : Prop := (plh d = iv X 21 t ∧ ¬ d = []) ∧ ∀ (k s e lo hi : Nat) (sc : Int) (S : List SE), CX X t lo hi sc (s + k) e → ATc c i false s (addx d 0 (k : Int)) → (∀ m, m < k → ∃ n, OA X (s + m) 0 n ∧ iv X 21 n = plh d) → SGm X nr c i false s S (addx d 0 (k : Int)) false e ((none, none, 0) :: S)
section TRES
variable {ch : Tx} {X : St} {R : Nat → Nat → Nat → Nat → List Ins → Prop} {nr : Int → Int} {c d : List Ins} {t i N n : Nat}
theorem addx_0 (d : List Ins) : addx d 0 ((0 : Nat) : Int) = d := by
  cases d with
  | nil => rfl
  | cons a d =>
    show (a.1, a.2.1 + ((0 : Nat) : Int), a.2.2) :: d = a :: d
    rw [show a.2.1 + ((0 : Nat) : Int) = a.2.1 by omega]
theorem addx_stp {e : List Ins} (l : List Ins) (k : Nat) (h : ¬ e = []) : addx (stp e ++ l) 0 (k : Int) = addx e 0 ((k + 1 : Nat) : Int) ++ l := by
  cases e with
  | nil => exact absurd rfl h
  | cons a e =>
    show (a.1, a.2.1 + 1 + (k : Int), a.2.2) :: (e ++ l) = (a.1, a.2.1 + ((k + 1 : Nat) : Int), a.2.2) :: (e ++ l)
    rw [show a.2.1 + 1 + (k : Int) = a.2.1 + ((k + 1 : Nat) : Int) by omega]
theorem TRE.go {lo hi s e : Nat} {sc : Int} {S : List SE} (h : TRE X nr c t i d) (g : CX X t lo hi sc s e) (a : ATc c i false s d) : SGm X nr c i false s S d false e ((none, none, 0) :: S) := by
  have := h.2 0 s e lo hi sc S g (by rw [addx_0]; exact a) (fun m hm => by omega)
  rw [addx_0] at this
  exact this
/-- a row's elements -/
theorem ls_row {l r s0 t0 : Nat} {sc : Int} {it cu ps : Nat → Nat} (hD : LSD (CX X) X n l r sc 0 s0 t0 it cu ps) (ih : ∀ lo hi u i e, R lo hi u i e → hi ≤ N → TRE X nr c u i e) : ∀ (es : Els) (kk lo : Nat) (v : Int) (i : Nat) (S : List SE), OMc X R sepL lo v i kk es → (∀ a ∈ es, a.2.1 ≤ N) → kk + es.length = ix (X.1 27 n) → (kk = ix (X.1 27 n) → v < 0) → (kk < ix (X.1 27 n) → v = (it kk : Int)) → ATc c i false (ps kk) (cds es) → ∃ us : List (Nat × Nat), us.length = es.length ∧ ECH X c v us ∧ SGm X nr c i false (ps kk) S (cds es) false (ps (ix (X.1 27 n))) (us.reverse.map (fun w => ((some w.2, none, 0) : SE)) ++ S) := by
  intro es
  induction es with
  | nil =>
    intro kk lo v i S _ _ hl hv _ _
    have e : kk = ix (X.1 27 n) := hl
    rw [← e] at hv ⊢
    exact ⟨[], rfl, hv rfl, SGm.nil⟩
  | cons a es ih2 =>
    obtain ⟨u, h, e, s'⟩ := a
    intro kk lo v i S hc ha hl hv0 hv1 hA
    obtain ⟨c1, c2, c3, c4⟩ := hc
    unfold sepL at c3
    subst c3
    rw [List.length_cons] at hl
    have hlt : kk < ix (X.1 27 n) := by omega
    obtain ⟨⟨p, g1, g2⟩, g3, g4⟩ := hD.2.2.2.2.2.2.2 kk hlt
    have eu : it kk = u := by have := hv1 hlt; omega
    rw [eu] at g1 g2 g3 g4
    rcases g2 with ⟨_, g5, g6, g7⟩ | ⟨z, _⟩ | ⟨z, _⟩
    · have T := ih _ _ _ _ _ c2 (ha _ (List.mem_cons_self ..))
      have hA1 : ATc c i false (ps kk) ((e ++ [(36, (kk : Int), plh e, [])]) ++ cds es) := hA
      have G := T.go (S := S) g1 hA1.app.1.app.1
      have hA3 := hA1.app.1.sg G
      have GA : GAT X c u (i + e.length) := ⟨by rw [hA3.opl]; exact g6, by rw [hA3.pl]; exact T.1.1⟩
      have G36 : SGm X nr c (i + e.length) false p ((none, none, 0) :: S) [(36, (kk : Int), plh e, [])] false (ps (kk + 1)) ((some (i + e.length), none, 0) :: S) := by
        rw [g7]
        exact SGm.i36 ⟨g5, T.1.1.symm, GA⟩ SGm.nil
      have G1 := G.app G36
      have hA4 := hA1.sg G1
      obtain ⟨us, u1, u2, u3⟩ := ih2 (kk + 1) h (X.1 28 u).toInt _ ((some (i + e.length), none, 0) :: S) c4 (fun a h => ha a (List.mem_cons_of_mem _ h)) (by omega) (fun z => g4 (by omega)) (fun z => by
        obtain ⟨y1, y2⟩ := g3 z
        have := ixc y1
        omega) hA4
      refine ⟨(u, i + e.length) :: us, by rw [List.length_cons, List.length_cons, u1], ⟨c1, GA, u2⟩, ?_⟩
      have := G1.app u3
      rw [List.reverse_cons, List.map_append, List.append_assoc]
      exact this
    · exact absurd z (by decide)
    · exact absurd z (by decide)
/-- a block -/
theorem ls_blk {l r s0 t0 : Nat} {sc : Int} {it cu ps : Nat → Nat} (hD : LSD (CX X) X n l r sc 1 s0 t0 it cu ps) (ih : ∀ lo hi u i e, R lo hi u i e → hi ≤ N → TRE X nr c u i e) : ∀ (es : Els) (kk lo : Nat) (v : Int) (i : Nat) (S : List SE), OMc X R (sepB (ix (X.1 27 n))) lo v i kk es → (∀ a ∈ es, a.2.1 ≤ N) → kk + es.length = ix (X.1 27 n) → kk < ix (X.1 27 n) → v = (it kk : Int) → ATc c i false (ps kk) (cds es) → SGm X nr c i false (ps kk) S (cds es) false (ps (ix (X.1 27 n))) ((none, none, 0) :: S) := by
  intro es
  induction es with
  | nil =>
    intro kk lo v i S _ _ hl hlt _ _
    rw [List.length_nil] at hl
    exact absurd hlt (by omega)
  | cons a es ih2 =>
    obtain ⟨u, h, e, s'⟩ := a
    intro kk lo v i S hc ha hl hlt hv1 hA
    obtain ⟨c1, c2, c3, c4⟩ := hc
    rw [List.length_cons] at hl
    obtain ⟨⟨p, g1, g2⟩, g3, g4⟩ := hD.2.2.2.2.2.2.2 kk hlt
    have eu : it kk = u := by omega
    rw [eu] at g1 g2 g3 g4
    rcases g2 with ⟨z, _⟩ | ⟨_, g2⟩ | ⟨z, _⟩
    · exact absurd z (by decide)
    · have T := ih _ _ _ _ _ c2 (ha _ (List.mem_cons_self ..))
      have hA1 : ATc c i false (ps kk) ((e ++ s') ++ cds es) := hA
      have G := T.go (S := S) g1 hA1.app.1.app.1
      rcases c3 with ⟨hk, pp, rfl⟩ | ⟨hk, rfl⟩
      · rcases g2 with ⟨_, g5, g7⟩ | ⟨z, _⟩
        · have G9 : SGm X nr c (i + e.length) false p ((none, none, 0) :: S) [(9, 0, pp, [])] false (ps (kk + 1)) S := by
            rw [g7]
            exact SGm.i9 g5 SGm.nil
          have G1 := G.app G9
          have hA4 := hA1.sg G1
          have := ih2 (kk + 1) h (X.1 28 u).toInt _ S c4 (fun a h => ha a (List.mem_cons_of_mem _ h)) (by omega) (by omega) (by
            obtain ⟨y1, y2⟩ := g3 hk
            have := ixc y1
            omega) hA4
          exact G1.app this
        · omega
      · rcases g2 with ⟨z, _⟩ | ⟨_, g7⟩
        · omega
        · have en : es = [] := List.eq_nil_of_length_eq_zero (by omega)
          subst en
          show SGm X nr c i false (ps kk) S ((e ++ []) ++ []) false _ _
          rw [List.append_nil, List.append_nil, ← hk, g7]
          exact G
    · exact absurd z (by decide)
theorem rep_get (w : SE) (S : List SE) : ∀ m : Nat, (List.replicate m ((none, none, 0) : SE) ++ w :: S)[m]? = some w := by
  intro m
  rw [List.getElem?_append_right (by rw [List.length_replicate]; exact Nat.le_refl _), List.length_replicate, Nat.sub_self]
  rfl
/-- what a call gives -/
theorem ls_call {l r s0 t0 : Nat} {sc : Int} {it cu ps : Nat → Nat} {tk : Option Nat} {S1 : List SE} (hD : LSD (CX X) X n l r sc 2 s0 t0 it cu ps) (H : (iv X 20 (ix (X.1 23 n)) = 3 ∧ ∃ t1 a1, tk = some t1 ∧ iv X 26 (ix (X.1 23 n)) = nr (plc c t1) ∧ c[t1]? = some a1 ∧ a1.1 = 4) ∨ (¬ iv X 20 (ix (X.1 23 n)) = 3 ∧ tk = none)) (ih : ∀ lo hi u i e, R lo hi u i e → hi ≤ N → TRE X nr c u i e) : ∀ (es : Els) (kk lo : Nat) (v : Int) (i : Nat), OMc X R sepA lo v i kk es → (∀ a ∈ es, a.2.1 ≤ N) → kk + es.length = ix (X.1 27 n) → (kk < ix (X.1 27 n) → v = (it kk : Int)) → ATc c i false (ps kk) (cds es) → SGm X nr c i false (ps kk) (List.replicate kk (none, none, 0) ++ (none, tk, 2 + ix (X.1 27 n)) :: S1) (cds es) false (ps (ix (X.1 27 n))) (List.replicate (ix (X.1 27 n)) (none, none, 0) ++ (none, tk, 2 + ix (X.1 27 n)) :: S1) := by
  intro es
  induction es with
  | nil =>
    intro kk lo v i _ _ hl _ _
    have e : kk = ix (X.1 27 n) := hl
    rw [← e]
    exact SGm.nil
  | cons a es ih2 =>
    obtain ⟨u, h, e, s'⟩ := a
    intro kk lo v i hc ha hl hv1 hA
    obtain ⟨c1, c2, c3, c4⟩ := hc
    unfold sepA at c3
    subst c3
    rw [List.length_cons] at hl
    have hlt : kk < ix (X.1 27 n) := by omega
    obtain ⟨⟨p, g1, g2⟩, g3, g4⟩ := hD.2.2.2.2.2.2.2 kk hlt
    have eu : it kk = u := by have := hv1 hlt; omega
    rw [eu] at g1 g2 g3 g4
    rcases g2 with ⟨z, _⟩ | ⟨z, _⟩ | ⟨_, g5, g6, g8, g7⟩
    · exact absurd z (by decide)
    · exact absurd z (by decide)
    · have T := ih _ _ _ _ _ c2 (ha _ (List.mem_cons_self ..))
      have hA1 : ATc c i false (ps kk) ((e ++ [(32, (kk : Int), plh e, [])]) ++ cds es) := hA
      have G := T.go (S := List.replicate kk (none, none, 0) ++ (none, tk, 2 + ix (X.1 27 n)) :: S1) g1 hA1.app.1.app.1
      have G32 : SGm X nr c (i + e.length) false p ((none, none, 0) :: (List.replicate kk (none, none, 0) ++ (none, tk, 2 + ix (X.1 27 n)) :: S1)) [(32, (kk : Int), plh e, [])] false (ps (kk + 1)) (List.replicate (kk + 1) (none, none, 0) ++ (none, tk, 2 + ix (X.1 27 n)) :: S1) := by
        rw [g7]
        refine SGm.i32 ⟨g5, T.1.1.symm, g6, by omega, n, none, tk, ix (X.1 27 n), g8, ?_, by omega, H⟩ SGm.nil
        rw [show (kk : Int).toNat = kk by omega]
        exact rep_get _ _ kk
      have G1 := G.app G32
      have hA4 := hA1.sg G1
      have := ih2 (kk + 1) h (X.1 28 u).toInt _ c4 (fun a h => ha a (List.mem_cons_of_mem _ h)) (by omega) (fun z => by
        obtain ⟨y1, y2⟩ := g3 z
        have := ixc y1
        omega) hA4
      exact G1.app this
end TRES
