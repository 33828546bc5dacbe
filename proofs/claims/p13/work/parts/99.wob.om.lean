/-! the reference's tree and the code of a text -/
/-- one step more at an operand's beginning -/
def stp (d : List Ins) : List Ins := addx d 0 1
/-- where a piece of code begins -/
def plh (d : List Ins) : Int := plc d 0
/-- elements that follow each other: node, where the next one's nodes begin, code, what stands behind it -/
abbrev Els : Type := List (Nat × Nat × List Ins × List Ins)
def OMc (X : St) (R : Nat → Nat → Nat → Nat → List Ins → Prop) (sep : Nat → List Ins → List Ins → Prop) : Nat → Int → Nat → Nat → Els → Prop
  | _, _, _, _, [] => True
  | lo, v, i, k, (u, hi, e, s) :: es => v = (u : Int) ∧ R lo hi u i e ∧ sep k e s ∧ OMc X R sep hi (X.1 28 u).toInt (i + (e ++ s).length) (k + 1) es
def cds : Els → List Ins
  | [] => []
  | (_, _, e, s) :: es => (e ++ s) ++ cds es
/-- the last node; where it ends -/
def ela (d : Int) : Els → Int
  | [] => d
  | (u, _, _, _) :: es => ela (u : Int) es
def een (lo : Nat) : Els → Nat
  | [] => lo
  | (_, h, _, _) :: es => een h es
def sepL (k : Nat) (e s : List Ins) : Prop := s = [(36, (k : Int), plh e, [])]
def sepA (k : Nat) (e s : List Ins) : Prop := s = [(32, (k : Int), plh e, [])]
/-- of a block: each one but the last is dropped -/
def sepB (m k : Nat) (_ s : List Ins) : Prop := (k + 1 < m ∧ ∃ p : Int, s = [(9, 0, p, [])]) ∨ (k + 1 = m ∧ s = [])
section OMS
variable (ch : Tx) (X : St) (R : Nat → Nat → Nat → Nat → List Ins → Prop) (lo hi t i : Nat) (d : List Ins)
def iv (e k : Nat) : Int := (X.1 e k).toInt
/-- what stands alone -/
def OMl : Prop := (iv X 20 t = 0 ∧ d = [(0, 1, iv X 21 t, []), (1, iv X 26 t, iv X 21 t, [])]) ∨
  ((iv X 20 t = 1 ∧ (iv X 26 t = 0 ∨ iv X 26 t = 1)) ∧ d = [(0, 1, iv X 21 t, []), (2, iv X 26 t, iv X 21 t, [])]) ∨
  (iv X 20 t = 2 ∧ d = [(0, 1, iv X 21 t, []), (3, iv X 26 t, iv X 21 t, [])]) ∨
  (iv X 20 t = 3 ∧ d = [(0, 1, iv X 21 t, []), (4, -1, iv X 21 t, [])] ∧ X.2.1 29 t = lN (p6 (nm ch (iv X 21 t).toNat)))
/-- one in brackets, or behind a word or a sign -/
def OMu : Prop := ∃ (u : Nat) (e : List Ins), iv X 23 t = (u : Int) ∧ R (t + 1) hi u (i + 1) e ∧
  ((iv X 20 t = 8 ∧ d = (0, 1, iv X 21 t, []) :: e) ∨
   (iv X 20 t = 6 ∧ d = (0, 1, iv X 21 t, []) :: (e ++ [(29, 0, plh e, []), (12, 0, iv X 21 t, [])])) ∨
   (iv X 20 t = 7 ∧ d = (0, 1, iv X 21 t, []) :: (e ++ [(27, 0, plh e, []), (13, 0, iv X 21 t, [])])) ∨
   (iv X 20 t = 12 ∧ d = (0, 1, iv X 21 t, []) :: (e ++ [(27, 0, plh e, []), (18, 0, iv X 21 t, [])])) ∨
   (iv X 20 t = 13 ∧ d = (0, 1, iv X 21 t, []) :: (e ++ [(28, 0, plh e, []), (19, 0, iv X 21 t, [])])))
/-- a row told by its elements; a block -/
def OMe : Prop := (iv X 20 t = 4 ∧ ∃ es : Els, OMc X R sepL (t + 1) (iv X 24 t) (i + 1) 0 es ∧ iv X 27 t = (es.length : Int) ∧ (∀ a ∈ es, a.2.1 ≤ hi) ∧ d = (0, 1, iv X 21 t, []) :: (cds es ++ [(10, (es.length : Int), iv X 21 t, [])])) ∨
  (iv X 20 t = 9 ∧ ∃ es : Els, OMc X R (sepB es.length) (t + 1) (iv X 24 t) (i + 1) 0 es ∧ iv X 27 t = (es.length : Int) ∧ (∀ a ∈ es, a.2.1 ≤ hi) ∧ d = (0, 1, iv X 21 t, []) :: cds es)
/-- a new row; an operand and another behind a sign -/
def OM2 : Prop := (iv X 20 t = 5 ∧ ∃ (u h u2 : Nat) (e e2 : List Ins), iv X 23 t = (u : Int) ∧ iv X 24 t = (u2 : Int) ∧ R (t + 1) h u (i + 1) e ∧ R h hi u2 (i + 1 + e.length + 1) e2 ∧ t + 1 ≤ h ∧ h ≤ hi ∧ d = (0, 1, iv X 21 t, []) :: (e ++ (27, 0, plh e, []) :: (e2 ++ [(11, 0, iv X 21 t, [])]))) ∨
  ((iv X 20 t = if lvl (iv X 26 t) = 1 then 15 else 14) ∧ 1 ≤ lvl (iv X 26 t) ∧ ∃ (u u2 : Nat) (e e2 : List Ins), iv X 23 t = (u : Int) ∧ iv X 24 t = (u2 : Int) ∧ R lo t u i e ∧ R (t + 1) hi u2 (i + e.length + 1) e2 ∧ d = stp e ++ (27, 0, plh e, []) :: (e2 ++ [(27, 0, plh e2, []), (opc (iv X 26 t), 0, iv X 22 t, [])]))
/-- a place of a row, read or written; a call -/
def OMs : Prop := (iv X 20 t = 10 ∧ ∃ (u h u2 : Nat) (e e2 : List Ins), iv X 23 t = (u : Int) ∧ iv X 24 t = (u2 : Int) ∧ R lo t u i e ∧ R (t + 1) h u2 (i + e.length + 1) e2 ∧ t + 1 ≤ h ∧ h ≤ hi ∧
    ((iv X 25 t = -1 ∧ d = stp e ++ (29, 0, iv X 22 t, []) :: (e2 ++ [(27, 0, plh e2, []), (14, 0, iv X 22 t, [])])) ∨
     ∃ (u3 : Nat) (e3 : List Ins), iv X 25 t = (u3 : Int) ∧ R h hi u3 (i + e.length + 1 + e2.length + 1) e3 ∧ d = stp e ++ (29, 0, iv X 22 t, []) :: (e2 ++ (27, 0, plh e2, []) :: (e3 ++ [(33, 0, plh e3, []), (15, 0, iv X 22 t, [])])))) ∨
  (iv X 20 t = 11 ∧ ∃ (u : Nat) (e : List Ins) (es : Els), iv X 23 t = (u : Int) ∧ R lo t u i e ∧ OMc X R sepA (t + 1) (iv X 24 t) (i + e.length + 1) 0 es ∧ iv X 27 t = (es.length : Int) ∧ (∀ a ∈ es, a.2.1 ≤ hi) ∧ d = stp e ++ ((if iv X 20 u = 3 then 31 else 30), (es.length : Int), iv X 22 t, []) :: (cds es ++ [(16, (es.length : Int), iv X 22 t, [])]))
/-- if and let -/
def OMw : Prop := (iv X 20 t = 16 ∧ ∃ (u h u2 h2 u3 : Nat) (e e2 e3 : List Ins), iv X 23 t = (u : Int) ∧ iv X 24 t = (u2 : Int) ∧ iv X 25 t = (u3 : Int) ∧ R (t + 1) h u (i + 1) e ∧ R h h2 u2 (i + 1 + e.length + 2) e2 ∧ R h2 hi u3 (i + 1 + e.length + 2 + e2.length + 2) e3 ∧ t + 1 ≤ h ∧ h ≤ h2 ∧ h2 ≤ hi ∧
    d = (0, 1, iv X 21 t, []) :: (e ++ (28, 0, plh e, []) :: (6, ((i + 1 + e.length + 2 + e2.length + 2 : Nat) : Int), plh e, []) :: (e2 ++ (36, 0, plh e2, []) :: (7, ((i + 1 + e.length + 2 + e2.length + 2 + e3.length + 1 : Nat) : Int), plh e2, []) :: (e3 ++ [(36, 0, plh e3, []), (8, 0, iv X 21 t, [])])))) ∨
  (iv X 20 t = 17 ∧ ∃ (u h u2 : Nat) (e e2 : List Ins), iv X 23 t = (u : Int) ∧ iv X 24 t = (u2 : Int) ∧ t + 1 ≤ h ∧ h ≤ hi ∧ R (t + 1) h u (i + 1) e ∧
    ((iv X 25 t = -1 ∧ R h hi u2 (i + 1 + e.length + 1) e2 ∧ d = (0, 1, iv X 21 t, []) :: (e ++ (5, iv X 26 t, plh e, []) :: e2)) ∨
     ∃ (k : Nat) (kd : List Int), iv X 25 t = (k : Int) ∧ KD X k kd ∧ R h hi u2 (i + 1 + e.length + 2) e2 ∧ d = (0, 1, iv X 21 t, []) :: (e ++ (34, 0, plh e, kd) :: (5, iv X 26 t, plh e, []) :: e2)))
def OMB : Prop := lo ≤ t ∧ t < hi ∧ plh d = iv X 21 t ∧ (OMl ch X t d ∨ OMu X R hi t i d ∨ OMe X R hi t i d ∨ OM2 X R lo hi t i d ∨ OMs X R lo hi t i d ∨ OMw X R hi t i d)
end OMS
/-- the code d laid at i is that of the tree t, whose nodes are lo .. hi - 1 -/
def OMf (ch : Tx) (X : St) : Nat → Nat → Nat → Nat → Nat → List Ins → Prop
  | 0, _, _, _, _, _ => False
  | m + 1, lo, hi, t, i, d => OMB ch X (OMf ch X m) lo hi t i d
def OM (ch : Tx) (X : St) (lo hi t i : Nat) (d : List Ins) : Prop := ∃ m, OMf ch X m lo hi t i d
section OMT
variable {ch : Tx} {X Y : St} {R S : Nat → Nat → Nat → Nat → List Ins → Prop} {lo hi t i : Nat} {d : List Ins}
theorem OMc.mono {sep : Nat → List Ins → List Ins → Prop} : ∀ (es : Els) (lo : Nat) (v : Int) (i k : Nat), OMc X R sep lo v i k es → (∀ lo hi u i e, R lo hi u i e → S lo hi u i e) → OMc X S sep lo v i k es := by
  intro es
  induction es with
  | nil => exact fun _ _ _ _ h _ => h
  | cons a es ih =>
    obtain ⟨u, h1, e, s⟩ := a
    exact fun lo v i k h g => ⟨h.1, g _ _ _ _ _ h.2.1, h.2.2.1, ih _ _ _ _ h.2.2.2 g⟩
theorem OMc.sp {sep sep1 : Nat → List Ins → List Ins → Prop} : ∀ (es : Els) (lo : Nat) (v : Int) (i k : Nat), OMc X R sep lo v i k es → (∀ m e s, m < k + es.length → sep m e s → sep1 m e s) → OMc X R sep1 lo v i k es := by
  intro es
  induction es with
  | nil => exact fun _ _ _ _ h _ => h
  | cons a es ih =>
    obtain ⟨u, h1, e, s⟩ := a
    exact fun lo v i k h g => ⟨h.1, h.2.1, g _ _ _ (by rw [List.length_cons]; omega) h.2.2.1, ih _ _ _ _ h.2.2.2 (fun m e s hm => g m e s (by rw [List.length_cons]; omega))⟩
theorem OMB.mono (h : OMB ch X R lo hi t i d) (g : ∀ lo hi u i e, R lo hi u i e → S lo hi u i e) : OMB ch X S lo hi t i d := by
  obtain ⟨a, b, c, h⟩ := h
  refine ⟨a, b, c, ?_⟩
  rcases h with h | h | h | h | h | h
  · exact Or.inl h
  · obtain ⟨u, e, h1, h2, h3⟩ := h
    exact Or.inr (Or.inl ⟨u, e, h1, g _ _ _ _ _ h2, h3⟩)
  · refine Or.inr (Or.inr (Or.inl ?_))
    rcases h with ⟨k, es, h1, h2⟩ | ⟨k, es, h1, h2⟩
    · exact Or.inl ⟨k, es, h1.mono _ _ _ _ _ g, h2⟩
    · exact Or.inr ⟨k, es, h1.mono _ _ _ _ _ g, h2⟩
  · refine Or.inr (Or.inr (Or.inr (Or.inl ?_)))
    rcases h with ⟨k, u, w, u2, e, e2, h1, h2, h3, h4, h5⟩ | ⟨k, l, u, u2, e, e2, h1, h2, h3, h4, h5⟩
    · exact Or.inl ⟨k, u, w, u2, e, e2, h1, h2, g _ _ _ _ _ h3, g _ _ _ _ _ h4, h5⟩
    · exact Or.inr ⟨k, l, u, u2, e, e2, h1, h2, g _ _ _ _ _ h3, g _ _ _ _ _ h4, h5⟩
  · refine Or.inr (Or.inr (Or.inr (Or.inr (Or.inl ?_))))
    rcases h with ⟨k, u, w, u2, e, e2, h1, h2, h3, h4, h5, h6, h7⟩ | ⟨k, u, e, es, h1, h2, h3, h4⟩
    · refine Or.inl ⟨k, u, w, u2, e, e2, h1, h2, g _ _ _ _ _ h3, g _ _ _ _ _ h4, h5, h6, ?_⟩
      rcases h7 with h7 | ⟨u3, e3, h7, h8, h9⟩
      · exact Or.inl h7
      · exact Or.inr ⟨u3, e3, h7, g _ _ _ _ _ h8, h9⟩
    · exact Or.inr ⟨k, u, e, es, h1, g _ _ _ _ _ h2, h3.mono _ _ _ _ _ g, h4⟩
  · refine Or.inr (Or.inr (Or.inr (Or.inr (Or.inr ?_))))
    rcases h with ⟨k, u, w, u2, w2, u3, e, e2, e3, h1, h2, h3, h4, h5, h6, h7⟩ | ⟨k, u, w, u2, e, e2, h1, h2, h3, h4, h5, h6⟩
    · exact Or.inl ⟨k, u, w, u2, w2, u3, e, e2, e3, h1, h2, h3, g _ _ _ _ _ h4, g _ _ _ _ _ h5, g _ _ _ _ _ h6, h7⟩
    · refine Or.inr ⟨k, u, w, u2, e, e2, h1, h2, h3, h4, g _ _ _ _ _ h5, ?_⟩
      rcases h6 with ⟨a, b, c⟩ | ⟨kk, kd, a, b, c, f⟩
      · exact Or.inl ⟨a, g _ _ _ _ _ b, c⟩
      · exact Or.inr ⟨kk, kd, a, b, g _ _ _ _ _ c, f⟩
theorem OMf.up : ∀ (m : Nat) (lo hi t i : Nat) (d : List Ins), OMf ch X m lo hi t i d → OMf ch X (m + 1) lo hi t i d := by
  intro m
  induction m with
  | zero => exact fun _ _ _ _ _ h => h.elim
  | succ m ih =>
    intro lo hi t i d h
    rw [OMf] at h ⊢
    exact h.mono (fun lo hi u i e => ih lo hi u i e)
theorem OMf.le {m m1 : Nat} (h : OMf ch X m lo hi t i d) (g : m ≤ m1) : OMf ch X m1 lo hi t i d := by
  induction g with
  | refl => exact h
  | step _ ih => exact OMf.up _ _ _ _ _ _ ih
theorem OMf.bd {m : Nat} (h : OMf ch X m lo hi t i d) : lo ≤ t ∧ t < hi := by
  cases m with
  | zero => exact h.elim
  | succ m =>
    rw [OMf] at h
    exact ⟨h.1, h.2.1⟩
/-- rows of nodes alike, but the link of t itself -/
def AGR (X Y : St) (lo hi t : Nat) : Prop := (∀ e k, 20 ≤ e ∧ e ≤ 28 → lo ≤ k → k < hi → ¬ (e = 28 ∧ k = t) → Y.1 e k = X.1 e k) ∧ (∀ k, lo ≤ k → k < hi → Y.2.1 29 k = X.2.1 29 k) ∧ KDk X Y
theorem OMc.cg {sep : Nat → List Ins → List Ins → Prop} {b : Nat} (hR : ∀ lo hi u i e, R lo hi u i e → lo ≤ u ∧ u < hi) (hS : ∀ lo' hi' u i e, b ≤ lo' → hi' ≤ hi → R lo' hi' u i e → S lo' hi' u i e) (h28 : ∀ k, b ≤ k → k < hi → Y.1 28 k = X.1 28 k) : ∀ (es : Els) (lo : Nat) (v : Int) (i k : Nat), OMc X R sep lo v i k es → b ≤ lo → (∀ a ∈ es, a.2.1 ≤ hi) → OMc Y S sep lo v i k es := by
  intro es
  induction es with
  | nil => exact fun _ _ _ _ h _ _ => h
  | cons a es ih =>
    obtain ⟨u, h1, e, s⟩ := a
    intro lo v i k h hb ha
    have hu := hR _ _ _ _ _ h.2.1
    have hh : h1 ≤ hi := ha _ (List.mem_cons_self ..)
    refine ⟨h.1, hS _ _ _ _ _ hb hh h.2.1, h.2.2.1, ?_⟩
    rw [h28 u (by omega) (by omega)]
    exact ih _ _ _ _ h.2.2.2 (by omega) (fun a ha1 => ha a (List.mem_cons_of_mem _ ha1))
theorem OMc.la {sep : Nat → List Ins → List Ins → Prop} (hR : ∀ lo hi u i e, R lo hi u i e → lo ≤ u ∧ u < hi) : ∀ (es : Els) (lo : Nat) (v : Int) (i k : Nat) (d : Int), OMc X R sep lo v i k es → lo ≤ een lo es ∧ (es = [] ∨ ((lo : Int) ≤ ela d es ∧ ela d es < (een lo es : Int))) := by
  intro es
  induction es with
  | nil => exact fun _ _ _ _ _ _ => ⟨Nat.le_refl _, Or.inl rfl⟩
  | cons a es ih =>
    obtain ⟨u, h1, e, s⟩ := a
    intro lo v i k d h
    have hu := hR _ _ _ _ _ h.2.1
    obtain ⟨g1, g2⟩ := ih _ _ _ _ (u : Int) h.2.2.2
    refine ⟨show lo ≤ een h1 es by omega, Or.inr (show (lo : Int) ≤ ela (u : Int) es ∧ ela (u : Int) es < (een h1 es : Int) from ?_)⟩
    rcases g2 with g2 | g2
    · rw [g2]
      show (lo : Int) ≤ (u : Int) ∧ (u : Int) < (h1 : Int)
      omega
    · omega
/-- one more at the end -/
theorem OMc.ad {sep : Nat → List Ins → List Ins → Prop} {b u h : Nat} {e s : List Ins} (hR : ∀ lo hi u i e, R lo hi u i e → lo ≤ u ∧ u < hi) : ∀ (es : Els) (lo : Nat) (v v1 d : Int) (i k : Nat), OMc X R sep lo v i k es → (∀ (lo' hi' u i : Nat) (e : List Ins), b ≤ lo' → hi' ≤ hi → ((hi' : Int) ≤ ela d es ∨ (u : Int) = ela d es) → R lo' hi' u i e → S lo' hi' u i e) → b ≤ lo → (∀ a ∈ es, a.2.1 ≤ hi) → (∀ m : Nat, b ≤ m → m < hi → ¬ (m : Int) = ela d es → Y.1 28 m = X.1 28 m) → (es = [] → v1 = (u : Int)) → (¬ es = [] → v1 = v ∧ ∀ m : Nat, (m : Int) = ela d es → (Y.1 28 m).toInt = (u : Int)) → S (een lo es) h u (i + (cds es).length) e → sep (k + es.length) e s → OMc Y S sep lo v1 i k (es ++ [(u, h, e, s)]) := by
  intro es
  induction es with
  | nil =>
    intro lo v v1 d i k _ _ _ _ _ h1 _ h2 h3
    exact ⟨h1 rfl, h2, h3, trivial⟩
  | cons a es ih =>
    obtain ⟨u1, h1, e1, s1⟩ := a
    intro lo v v1 d i k g hS hb ha h28 _ hn h2 h3
    have hu := hR _ _ _ _ _ g.2.1
    have hh : h1 ≤ hi := ha _ (List.mem_cons_self ..)
    obtain ⟨ev, hl⟩ := hn (by exact List.cons_ne_nil _ _)
    have la := OMc.la hR es h1 _ _ _ (u1 : Int) g.2.2.2
    refine ⟨ev.trans g.1, hS _ _ _ _ _ hb hh ?_ g.2.1, g.2.2.1, ?_⟩
    · show (h1 : Int) ≤ ela (u1 : Int) es ∨ (u1 : Int) = ela (u1 : Int) es
      rcases la.2 with e | e
      · rw [e]
        exact Or.inr rfl
      · exact Or.inl e.1
    refine ih h1 (X.1 28 u1).toInt (Y.1 28 u1).toInt (u1 : Int) _ _ g.2.2.2 hS (by omega) (fun a ha1 => ha a (List.mem_cons_of_mem _ ha1)) h28 (fun en => hl u1 ?_) (fun en => ⟨?_, hl⟩) ?_ ?_
    · rw [en]
      rfl
    · rw [h28 u1 (by omega) (by omega) ?_]
      show ¬ (u1 : Int) = ela (u1 : Int) es
      rcases la.2 with e | e
      · exact absurd e en
      · omega
    · have e1 : (cds ((u1, h1, e1, s1) :: es)).length = (e1 ++ s1).length + (cds es).length := List.length_append
      rw [e1, ← Nat.add_assoc] at h2
      exact h2
    · rw [show k + 1 + es.length = k + (es.length + 1) by omega]
      exact h3
theorem cds.ad {u h : Nat} {e s : List Ins} : ∀ es : Els, cds (es ++ [(u, h, e, s)]) = cds es ++ (e ++ s) := by
  intro es
  induction es with
  | nil => exact List.append_nil _
  | cons a es ih =>
    obtain ⟨u1, h1, e1, s1⟩ := a
    show (e1 ++ s1) ++ cds (es ++ _) = ((e1 ++ s1) ++ cds es) ++ _
    rw [ih]
    simp only [List.append_assoc]
theorem ela.ad {u h : Nat} {e s : List Ins} : ∀ (es : Els) (d : Int), ela d (es ++ [(u, h, e, s)]) = (u : Int) := by
  intro es
  induction es with
  | nil => exact fun _ => rfl
  | cons a es ih =>
    obtain ⟨u1, h1, e1, s1⟩ := a
    exact fun d => ih (u1 : Int)
theorem een.ad {u h : Nat} {e s : List Ins} : ∀ (es : Els) (lo : Nat), een lo (es ++ [(u, h, e, s)]) = h := by
  intro es
  induction es with
  | nil => exact fun _ => rfl
  | cons a es ih =>
    obtain ⟨u1, h1, e1, s1⟩ := a
    exact fun d => ih h1
theorem OMB.cg {hi1 lo1 : Nat} (hR : ∀ lo hi u i e, R lo hi u i e → lo ≤ u ∧ u < hi) (hA : AGR X Y lo hi t) (h1 : hi ≤ hi1) (h0 : lo1 ≤ lo) (hS : ∀ lo' hi' u i e, lo ≤ lo' → hi' ≤ hi → (hi' ≤ t ∨ t < lo') → R lo' hi' u i e → S lo' hi' u i e) (hU : ∀ lo' hi' lo2 hi2 u i e, lo2 ≤ lo' → hi' ≤ hi2 → S lo' hi' u i e → S lo2 hi2 u i e) (h : OMB ch X R lo hi t i d) : OMB ch Y S lo1 hi1 t i d := by
  obtain ⟨a, b, c, h⟩ := h
  have g : ∀ e, 20 ≤ e → e ≤ 27 → iv Y e t = iv X e t := fun e e1 e2 => by
    unfold iv
    rw [hA.1 e t ⟨e1, by omega⟩ a b (by omega)]
  have g29 : Y.2.1 29 t = X.2.1 29 t := hA.2.1 t a b
  have gu : ∀ e u, 20 ≤ e → e ≤ 28 → lo ≤ u → u < hi → ¬ u = t → iv Y e u = iv X e u := fun e u e1 e2 u1 u2 u3 => by
    unfold iv
    rw [hA.1 e u ⟨e1, e2⟩ u1 u2 (by omega)]
  have up : ∀ lo' hi' u i e, lo ≤ lo' → hi' ≤ hi → (hi' ≤ t ∨ t < lo') → R lo' hi' u i e → ∀ lo2 hi2, lo2 ≤ lo' → hi' ≤ hi2 → S lo2 hi2 u i e := fun lo' hi' u i e x1 x2 x3 x4 lo2 hi2 x5 x6 => hU _ _ _ _ _ _ _ x5 x6 (hS _ _ _ _ _ x1 x2 x3 x4)
  have h28 : ∀ k, t + 1 ≤ k → k < hi → Y.1 28 k = X.1 28 k := fun k k1 k2 => hA.1 28 k ⟨by omega, by omega⟩ (by omega) k2 (by omega)
  refine ⟨by omega, by omega, by rw [g 21 (by omega) (by omega)]; exact c, ?_⟩
  rcases h with h | h | h | h | h | h
  · refine Or.inl ?_
    unfold OMl at h ⊢
    rw [g 20 (by omega) (by omega), g 21 (by omega) (by omega), g 26 (by omega) (by omega), g29]
    exact h
  · obtain ⟨u, e, h2, h3, h4⟩ := h
    refine Or.inr (Or.inl ⟨u, e, by rw [g 23 (by omega) (by omega)]; exact h2, up _ _ _ _ _ (by omega) (by omega) (Or.inr (by omega)) h3 _ _ (by omega) (by omega), ?_⟩)
    rw [g 20 (by omega) (by omega), g 21 (by omega) (by omega)]
    exact h4
  · refine Or.inr (Or.inr (Or.inl ?_))
    unfold OMe
    rw [g 20 (by omega) (by omega), g 21 (by omega) (by omega), g 24 (by omega) (by omega), g 27 (by omega) (by omega)]
    have lc : ∀ {sp : Nat → List Ins → List Ins → Prop} (es : Els), OMc X R sp (t + 1) (iv X 24 t) (i + 1) 0 es → (∀ a ∈ es, a.2.1 ≤ hi) → OMc Y S sp (t + 1) (iv X 24 t) (i + 1) 0 es := fun es h2 h4 => OMc.cg hR (fun lo' hi' u i e x1 x2 x3 => hS lo' hi' u i e (by omega) x2 (Or.inr (by omega)) x3) h28 es _ _ _ _ h2 (by omega) h4
    rcases h with ⟨k, es, h2, h3, h4, h5⟩ | ⟨k, es, h2, h3, h4, h5⟩
    · exact Or.inl ⟨k, es, lc es h2 h4, h3, fun a ha => by have := h4 a ha; omega, h5⟩
    · exact Or.inr ⟨k, es, lc es h2 h4, h3, fun a ha => by have := h4 a ha; omega, h5⟩
  · refine Or.inr (Or.inr (Or.inr (Or.inl ?_)))
    unfold OM2
    rw [g 20 (by omega) (by omega), g 21 (by omega) (by omega), g 22 (by omega) (by omega), g 23 (by omega) (by omega), g 24 (by omega) (by omega), g 26 (by omega) (by omega)]
    rcases h with ⟨k, u, w, u2, e, e2, h2, h3, h4, h5, h6, h7, h8⟩ | ⟨k, l, u, u2, e, e2, h2, h3, h4, h5, h6⟩
    · exact Or.inl ⟨k, u, w, u2, e, e2, h2, h3, up _ _ _ _ _ (by omega) (by omega) (Or.inr (by omega)) h4 _ _ (by omega) (by omega), up _ _ _ _ _ (by omega) (by omega) (Or.inr (by omega)) h5 _ _ (by omega) (by omega), h6, by omega, h8⟩
    · exact Or.inr ⟨k, l, u, u2, e, e2, h2, h3, up _ _ _ _ _ (by omega) (by omega) (Or.inl (by omega)) h4 _ _ (by omega) (by omega), up _ _ _ _ _ (by omega) (by omega) (Or.inr (by omega)) h5 _ _ (by omega) (by omega), h6⟩
  · refine Or.inr (Or.inr (Or.inr (Or.inr (Or.inl ?_))))
    unfold OMs
    rw [g 20 (by omega) (by omega), g 22 (by omega) (by omega), g 23 (by omega) (by omega), g 24 (by omega) (by omega), g 25 (by omega) (by omega), g 27 (by omega) (by omega)]
    rcases h with ⟨k, u, w, u2, e, e2, h2, h3, h4, h5, h6, h7, h8⟩ | ⟨k, u, e, es, h2, h3, h4, h5, h6, h7⟩
    · refine Or.inl ⟨k, u, w, u2, e, e2, h2, h3, up _ _ _ _ _ (by omega) (by omega) (Or.inl (by omega)) h4 _ _ (by omega) (by omega), up _ _ _ _ _ (by omega) (by omega) (Or.inr (by omega)) h5 _ _ (by omega) (by omega), h6, by omega, ?_⟩
      rcases h8 with h8 | ⟨u3, e3, h8, h9, h10⟩
      · exact Or.inl h8
      · exact Or.inr ⟨u3, e3, h8, up _ _ _ _ _ (by omega) (by omega) (Or.inr (by omega)) h9 _ _ (by omega) (by omega), h10⟩
    · have hb := hR _ _ _ _ _ h3
      refine Or.inr ⟨k, u, e, es, h2, up _ _ _ _ _ (by omega) (by omega) (Or.inl (by omega)) h3 _ _ (by omega) (by omega), OMc.cg hR (fun lo' hi' u i e x1 x2 x3 => hS lo' hi' u i e (by omega) x2 (Or.inr (by omega)) x3) h28 es _ _ _ _ h4 (by omega) h6, h5, fun a ha => by have := h6 a ha; omega, ?_⟩
      rw [gu 20 u (by omega) (by omega) (by omega) (by omega) (by omega)]
      exact h7
  · refine Or.inr (Or.inr (Or.inr (Or.inr (Or.inr ?_))))
    unfold OMw
    rw [g 20 (by omega) (by omega), g 21 (by omega) (by omega), g 23 (by omega) (by omega), g 24 (by omega) (by omega), g 25 (by omega) (by omega), g 26 (by omega) (by omega)]
    rcases h with ⟨k, u, w, u2, w2, u3, e, e2, e3, h2, h3, h4, h5, h6, h7, h8, h9, h10, h11⟩ | ⟨k, u, w, u2, e, e2, h2, h3, h4, h5, h6, h7⟩
    · exact Or.inl ⟨k, u, w, u2, w2, u3, e, e2, e3, h2, h3, h4, up _ _ _ _ _ (by omega) (by omega) (Or.inr (by omega)) h5 _ _ (by omega) (by omega), up _ _ _ _ _ (by omega) (by omega) (Or.inr (by omega)) h6 _ _ (by omega) (by omega), up _ _ _ _ _ (by omega) (by omega) (Or.inr (by omega)) h7 _ _ (by omega) (by omega), h8, h9, by omega, h11⟩
    · refine Or.inr ⟨k, u, w, u2, e, e2, h2, h3, h4, by omega, up _ _ _ _ _ (by omega) (by omega) (Or.inr (by omega)) h6 _ _ (by omega) (by omega), ?_⟩
      rcases h7 with ⟨x1, x2, x3⟩ | ⟨kk, kd, x1, x2, x3, x4⟩
      · exact Or.inl ⟨x1, up _ _ _ _ _ (by omega) (by omega) (Or.inr (by omega)) x2 _ _ (by omega) (by omega), x3⟩
      · exact Or.inr ⟨kk, kd, x1, hA.2.2 _ _ x2, up _ _ _ _ _ (by omega) (by omega) (Or.inr (by omega)) x3 _ _ (by omega) (by omega), x4⟩
theorem OMf.rg : ∀ (m : Nat) (lo hi lo1 hi1 t i : Nat) (d : List Ins), lo1 ≤ lo → hi ≤ hi1 → OMf ch X m lo hi t i d → OMf ch X m lo1 hi1 t i d := by
  intro m
  induction m with
  | zero => exact fun _ _ _ _ _ _ _ _ _ h => h.elim
  | succ m ih =>
    intro lo hi lo1 hi1 t i d h0 h1 h
    rw [OMf] at h ⊢
    exact h.cg (fun _ _ _ _ _ x => x.bd) ⟨fun _ _ _ _ _ _ => rfl, fun _ _ _ => rfl, fun _ _ x => x⟩ h1 h0 (fun _ _ _ _ _ _ _ _ x => x) (fun lo' hi' lo2 hi2 u i e x1 x2 x3 => ih lo' hi' lo2 hi2 u i e x1 x2 x3)
theorem OMf.cg : ∀ (m : Nat) (lo hi t i : Nat) (d : List Ins), AGR X Y lo hi t → OMf ch X m lo hi t i d → OMf ch Y m lo hi t i d := by
  intro m
  induction m with
  | zero => exact fun _ _ _ _ _ _ h => h.elim
  | succ m ih =>
    intro lo hi t i d hA h
    rw [OMf] at h ⊢
    refine h.cg (fun _ _ _ _ _ x => x.bd) hA (Nat.le_refl _) (Nat.le_refl _) (fun lo' hi' u i e x1 x2 x3 x4 => ih lo' hi' u i e ?_ x4) (fun lo' hi' lo2 hi2 u i e x1 x2 x3 => OMf.rg m lo' hi' lo2 hi2 u i e x1 x2 x3)
    exact ⟨fun e k he k1 k2 _ => hA.1 e k he (by omega) (by omega) (by omega), fun k k1 k2 => hA.2.1 k (by omega) (by omega), hA.2.2⟩
theorem OM.cg (h : OM ch X lo hi t i d) (hA : AGR X Y lo hi t) : OM ch Y lo hi t i d := by
  obtain ⟨m, h⟩ := h
  exact ⟨m, h.cg m lo hi t i d hA⟩
theorem OM.rg {lo1 hi1 : Nat} (h : OM ch X lo hi t i d) (h0 : lo1 ≤ lo) (h1 : hi ≤ hi1) : OM ch X lo1 hi1 t i d := by
  obtain ⟨m, h⟩ := h
  exact ⟨m, OMf.rg m lo hi lo1 hi1 t i d h0 h1 h⟩
theorem OM.bd (h : OM ch X lo hi t i d) : lo ≤ t ∧ t < hi ∧ plh d = (X.1 21 t).toInt := by
  obtain ⟨m, h⟩ := h
  cases m with
  | zero => exact h.elim
  | succ m =>
    rw [OMf] at h
    exact ⟨h.1, h.2.1, h.2.2.1⟩
theorem OMc.fu {sep : Nat → List Ins → List Ins → Prop} : ∀ (es : Els) (lo : Nat) (v : Int) (i k : Nat), OMc X (OM ch X) sep lo v i k es → ∃ m, OMc X (OMf ch X m) sep lo v i k es := by
  intro es
  induction es with
  | nil => exact fun _ _ _ _ h => ⟨0, h⟩
  | cons a es ih =>
    obtain ⟨u, h1, e, s⟩ := a
    intro lo v i k h
    obtain ⟨m1, g1⟩ := h.2.1
    obtain ⟨m2, g2⟩ := ih _ _ _ _ h.2.2.2
    exact ⟨max m1 m2, h.1, g1.le (Nat.le_max_left ..), h.2.2.1, g2.mono _ _ _ _ _ (fun _ _ _ _ _ x => x.le (Nat.le_max_right ..))⟩
theorem OM.in (h : OMB ch X (OM ch X) lo hi t i d) : OM ch X lo hi t i d := by
  have fin : ∀ m, OMB ch X (OMf ch X m) lo hi t i d → OM ch X lo hi t i d := fun m g => ⟨m + 1, g⟩
  obtain ⟨a, b, c, h⟩ := h
  rcases h with h | h | h | h | h | h
  · exact fin 0 ⟨a, b, c, Or.inl h⟩
  · obtain ⟨u, e, h2, ⟨m, h3⟩, h4⟩ := h
    exact fin m ⟨a, b, c, Or.inr (Or.inl ⟨u, e, h2, h3, h4⟩)⟩
  · rcases h with ⟨k, es, h2, h3⟩ | ⟨k, es, h2, h3⟩
    · obtain ⟨m, h2⟩ := OMc.fu es _ _ _ _ h2
      exact fin m ⟨a, b, c, Or.inr (Or.inr (Or.inl (Or.inl ⟨k, es, h2, h3⟩)))⟩
    · obtain ⟨m, h2⟩ := OMc.fu es _ _ _ _ h2
      exact fin m ⟨a, b, c, Or.inr (Or.inr (Or.inl (Or.inr ⟨k, es, h2, h3⟩)))⟩
  · rcases h with ⟨k, u, w, u2, e, e2, h2, h3, ⟨m1, h4⟩, ⟨m2, h5⟩, h6⟩ | ⟨k, l, u, u2, e, e2, h2, h3, ⟨m1, h4⟩, ⟨m2, h5⟩, h6⟩
    · exact fin (max m1 m2) ⟨a, b, c, Or.inr (Or.inr (Or.inr (Or.inl (Or.inl ⟨k, u, w, u2, e, e2, h2, h3, h4.le (Nat.le_max_left ..), h5.le (Nat.le_max_right ..), h6⟩))))⟩
    · exact fin (max m1 m2) ⟨a, b, c, Or.inr (Or.inr (Or.inr (Or.inl (Or.inr ⟨k, l, u, u2, e, e2, h2, h3, h4.le (Nat.le_max_left ..), h5.le (Nat.le_max_right ..), h6⟩))))⟩
  · rcases h with ⟨k, u, w, u2, e, e2, h2, h3, ⟨m1, h4⟩, ⟨m2, h5⟩, h6, h7, h8⟩ | ⟨k, u, e, es, h2, ⟨m1, h3⟩, h4, h5⟩
    · rcases h8 with h8 | ⟨u3, e3, h8, ⟨m3, h9⟩, h10⟩
      · exact fin (max m1 m2) ⟨a, b, c, Or.inr (Or.inr (Or.inr (Or.inr (Or.inl (Or.inl ⟨k, u, w, u2, e, e2, h2, h3, h4.le (Nat.le_max_left ..), h5.le (Nat.le_max_right ..), h6, h7, Or.inl h8⟩)))))⟩
      · exact fin (max (max m1 m2) m3) ⟨a, b, c, Or.inr (Or.inr (Or.inr (Or.inr (Or.inl (Or.inl ⟨k, u, w, u2, e, e2, h2, h3, h4.le (by omega), h5.le (by omega), h6, h7, Or.inr ⟨u3, e3, h8, h9.le (by omega), h10⟩⟩)))))⟩
    · obtain ⟨m2, h4⟩ := OMc.fu es _ _ _ _ h4
      exact fin (max m1 m2) ⟨a, b, c, Or.inr (Or.inr (Or.inr (Or.inr (Or.inl (Or.inr ⟨k, u, e, es, h2, h3.le (by omega), h4.mono _ _ _ _ _ (fun _ _ _ _ _ x => x.le (by omega)), h5⟩)))))⟩
  · rcases h with ⟨k, u, w, u2, w2, u3, e, e2, e3, h2, h3, h4, ⟨m1, h5⟩, ⟨m2, h6⟩, ⟨m3, h7⟩, h8⟩ | ⟨k, u, w, u2, e, e2, h2, h3, h4, h5, ⟨m1, h6⟩, h7⟩
    · exact fin (max (max m1 m2) m3) ⟨a, b, c, Or.inr (Or.inr (Or.inr (Or.inr (Or.inr (Or.inl ⟨k, u, w, u2, w2, u3, e, e2, e3, h2, h3, h4, h5.le (by omega), h6.le (by omega), h7.le (by omega), h8⟩)))))⟩
    · rcases h7 with ⟨x1, ⟨m2, x2⟩, x3⟩ | ⟨kk, kd, x1, x2, ⟨m2, x3⟩, x4⟩
      · exact fin (max m1 m2) ⟨a, b, c, Or.inr (Or.inr (Or.inr (Or.inr (Or.inr (Or.inr ⟨k, u, w, u2, e, e2, h2, h3, h4, h5, h6.le (by omega), Or.inl ⟨x1, x2.le (by omega), x3⟩⟩)))))⟩
      · exact fin (max m1 m2) ⟨a, b, c, Or.inr (Or.inr (Or.inr (Or.inr (Or.inr (Or.inr ⟨k, u, w, u2, e, e2, h2, h3, h4, h5, h6.le (by omega), Or.inr ⟨kk, kd, x1, x2, x3.le (by omega), x4⟩⟩)))))⟩
end OMT
