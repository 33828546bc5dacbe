/-! the rules of a run. u: untold -/
/-- an order that pushes a value where none was -/
def LFP (X : St) (p : Nat) : Prop := ((X.1 40 p).toInt = 1 ∨ (X.1 40 p).toInt = 2 ∨ (X.1 40 p).toInt = 3 ∨ (X.1 40 p).toInt = 4) ∨ ((X.1 40 p).toInt = 18 ∧ (X.1 27 (ix (X.1 41 p))).toInt = 0)
def NX (X : St) (e o p : Nat) : Prop := o < p ∧ (p = e ∨ (X.1 40 o).toInt = 0 ∨ ¬ LFP X p)
def TN (X : St) (PT : Nat → Ty) (s e o : Nat) (t : Ty) (p : Nat) : Prop := TO PT s e t p ∧ NX X e o p
def IK (u : Bool) (z : Int) (X : St) (k : Int32) : Prop := (u = true ∧ k = 2) ∨ (u = false ∧ VK X k ∧ so X k = z)
def PK (u : Bool) (z : Int) (X : St) (k : Int32) : Prop := (u = true ∧ k.toInt = z - 1) ∨ (u = false ∧ VK X k ∧ so X k = z)
def LF (u : Bool) (X : St) (op n : Nat) (t : Ty) (k : Int32) : Prop := ((op = 1 ∨ op = 2) ∧ IK u (op : Int) X k) ∨ (op = 3 ∧ ∃ v : Nat, (X.1 26 n).toInt = (v : Int) ∧ v < t.2.2.1 ∧ k = t.2.2.2 v) ∨ (op = 4 ∧ ∃ p : Nat, (X.1 26 n).toInt = (p : Int) ∧ (p : Int) < (X.1 0 18).toInt ∧ ((u = true ∧ k = 2) ∨ (u = false ∧ 0 ≤ (X.1 15 p).toInt ∧ FNK X k (X.1 15 p).toInt ∧ (∀ i, i < ix (X.1 15 p) → cmpK X k i = pkv X p i) ∧ cmpK X k (ix (X.1 15 p)) = okv X p)))
def GOP (op : Nat) : Prop := op = 5 ∨ op = 6 ∨ op = 7 ∨ op = 8 ∨ op = 9 ∨ op = 10 ∨ op = 11 ∨ op = 12 ∨ op = 14 ∨ op = 30
def GDR (u : Bool) (X : St) (o op n : Nat) (k k1 : Int32) : Prop := (u = false ∧ GRD X o k k1 ∧ VK X k ∧ VK X k1) ∨ (u = true ∧ (k1 = 2 ∨ ((op = 5 ∨ op = 6) ∧ k1.toInt = (op : Int) - 5) ∨ ((op = 8 ∨ op = 9) ∧ k1 = 3) ∨ (op = 7 ∧ k1.toInt = 10 + (X.1 27 n).toInt)))
def MK (u : Bool) (X : St) (r e : Int32) : Prop := (u = true ∧ r = 2 ∧ e = 2) ∨ (u = false ∧ ROWK X r e)
def TK (u : Bool) (X : St) (k e : Int32) : Prop := (u = true ∧ k = 3 ∧ e = 2) ∨ (u = false ∧ ROWK X k e)
def TF (u : Bool) (X : St) (k : Int32) (m : Nat) : Prop := (u = true ∧ k.toInt = 10 + (m : Int)) ∨ (u = false ∧ FNK X k (m : Int))
def ckd (u : Bool) (X : St) (k : Int32) (i : Nat) : Int32 := if u = true then 2 else cmpK X k i
def SR (u : Bool) (X : St) (PT : Nat → Ty) (s e o : Nat) : Prop := (PT o).2.2.1 ≤ 44 ∧ ∃ op n : Nat, OA X o op n ∧ n < 3100 ∧ (
  (op = 0 ∧ TN X PT s e o (PT o) (o + 1)) ∨
  (∃ k, LF u X op n (PT o) k ∧ TN X PT s e o (psh (PT o) k) (o + 1)) ∨
  (GOP op ∧ 1 ≤ (PT o).1 ∧ ∃ k, GDR u X o op n (tp (PT o) 0) k ∧ TN X PT s e o (psh (pps (PT o) 1) k) (o + 1)) ∨
  (op = 13 ∧ 1 ≤ (PT o).1 ∧ ∃ v : Nat, (X.1 26 n).toInt = (v : Int) ∧ v ≤ 43 ∧ v ≤ (PT o).2.2.1 ∧ TN X PT s e o ((PT o).1 - 1, (PT o).2.1, v + 1, tup (PT o).2.2.2 v (tp (PT o) 0)) (o + 1)) ∨
  (op = 15 ∧ (1 ≤ (PT o).1 ∧ PK u 2 X (tp (PT o) 0)) ∧ TN X PT s e o (pps (PT o) 1) (o + 1) ∧ ∃ p : Nat, (X.1 46 n).toInt = (p : Int) ∧ TN X PT s e o (pps (PT o) 1) p) ∨
  (op = 16 ∧ ∃ p : Nat, (X.1 47 n).toInt = (p : Int) ∧ TN X PT s e o (PT o) p) ∨
  (op = 17 ∧ TN X PT s e o (PT o) (o + 1)) ∨
  (op = 18 ∧ ∃ m : Nat, ∃ r e1, (X.1 27 n).toInt = (m : Int) ∧ m ≤ 20 ∧ m ≤ (PT o).1 ∧ (∀ j, j < m → tp (PT o) j = e1) ∧ MK u X r e1 ∧ TN X PT s e o (psh (pps (PT o) m) r) (o + 1)) ∨
  (op = 19 ∧ (2 ≤ (PT o).1 ∧ PK u 1 X (tp (PT o) 1)) ∧ ∃ r, MK u X r (tp (PT o) 0) ∧ TN X PT s e o (psh (pps (PT o) 2) r) (o + 1)) ∨
  (((op = 20 ∧ ∃ e1, TK u X (tp (PT o) 0) e1) ∨ op = 21 ∨ op = 22 ∨ op = 23) ∧ 1 ≤ (PT o).1 ∧ ∃ k, IK u (if op = 23 then 2 else 1) X k ∧ (op = 21 ∨ op = 22 ∨ op = 23 → PK u (if op = 23 then 2 else 1) X (tp (PT o) 0)) ∧ TN X PT s e o (psh (pps (PT o) 1) k) (o + 1)) ∨
  ((op = 24 ∨ op = 25) ∧ (2 ≤ (PT o).1 ∧ PK u 1 X (tp (PT o) 0) ∧ PK u 1 X (tp (PT o) 1)) ∧ ∃ k, IK u (if op = 25 then 2 else 1) X k ∧ (op = 24 → 2 ≤ (levF (X.1 26 n).toInt64).toInt) ∧ TN X PT s e o (psh (pps (PT o) 2) k) (o + 1)) ∨
  (op = 26 ∧ (2 ≤ (PT o).1 ∧ PK u 1 X (tp (PT o) 0)) ∧ ∃ e1, TK u X (tp (PT o) 1) e1 ∧ TN X PT s e o (psh (pps (PT o) 2) e1) (o + 1)) ∨
  (op = 27 ∧ (3 ≤ (PT o).1 ∧ PK u 1 X (tp (PT o) 1)) ∧ TK u X (tp (PT o) 2) (tp (PT o) 0) ∧ TN X PT s e o (psh (pps (PT o) 3) (tp (PT o) 0)) (o + 1)) ∨
  (op = 28 ∧ ∃ m : Nat, (X.1 27 n).toInt = (m : Int) ∧ m ≤ 4 ∧ m + 1 ≤ (PT o).1 ∧ TF u X (tp (PT o) m) m ∧ (∀ i, i < m → tp (PT o) (m - 1 - i) = ckd u X (tp (PT o) m) i) ∧ TN X PT s e o (psh (pps (PT o) (m + 1)) (ckd u X (tp (PT o) m) m)) (o + 1)) ∨
  (op = 29 ∧ 1 ≤ (PT o).1 ∧ TN X PT s e o (pps (PT o) 1) (o + 1)))
theorem TN.pt {X : St} {PT PT1 : Nat → Ty} {s e s1 e1 o : Nat} {t : Ty} {p : Nat} (h : TN X PT s e o t p) (heq : ∀ q, s ≤ q → q < e → PT1 q = PT q) (hend : TE (PT e) (PT1 e)) (hs : s1 ≤ s) (he : e ≤ e1) (hl : e = e1 ∨ ¬ LFP X e) : TN X PT1 s1 e1 o t p := by
  obtain ⟨a, b, c⟩ := h
  refine ⟨a.pt heq hend hs he, b, ?_⟩
  rcases c with c | c
  · rcases hl with hl | hl
    · exact Or.inl (by omega)
    · rw [c]
      exact Or.inr (Or.inr hl)
  · exact Or.inr c
theorem SR.pt {u : Bool} {X : St} {PT PT1 : Nat → Ty} {s e s1 e1 o : Nat} (h : SR u X PT s e o) (ho : s ≤ o ∧ o < e) (heq : ∀ q, s ≤ q → q < e → PT1 q = PT q) (hend : TE (PT e) (PT1 e)) (hs : s1 ≤ s) (he : e ≤ e1) (hl : e = e1 ∨ ¬ LFP X e) : SR u X PT1 s1 e1 o := by
  unfold SR
  rw [heq o ho.1 ho.2]
  obtain ⟨hv, op, n, hoa, hn, h⟩ := h
  refine ⟨hv, op, n, hoa, hn, ?_⟩
  have tt : ∀ {t : Ty} {q : Nat}, TN X PT s e o t q → TN X PT1 s1 e1 o t q := fun g => g.pt heq hend hs he hl
  rcases h with ⟨a, b⟩ | ⟨k, a, c⟩ | ⟨a, b, k, c, f⟩ | ⟨a, b, v, c, d, f, g⟩ | ⟨a, b, d, q, f, g⟩ | ⟨a, q, b, c⟩ | ⟨a, b⟩ | ⟨a, m, r, e1, b, c, d, f, g, i⟩ | ⟨a, b, r, d, f⟩ | ⟨a, b, k, c, d, f⟩ | ⟨a, b, k, c, c2, d⟩ | ⟨a, b, e1, d, g⟩ | ⟨a, b, d, f⟩ | ⟨a, m, b, c, d, f, g, i⟩ | ⟨a, b, c⟩
  · exact (Or.inl ⟨a, tt b⟩)
  · exact (Or.inr (Or.inl ⟨k, a, tt c⟩))
  · exact (Or.inr (Or.inr (Or.inl ⟨a, b, k, c, tt f⟩)))
  · exact (Or.inr (Or.inr (Or.inr (Or.inl ⟨a, b, v, c, d, f, tt g⟩))))
  · exact (Or.inr (Or.inr (Or.inr (Or.inr (Or.inl ⟨a, b, tt d, q, f, tt g⟩)))))
  · exact (Or.inr (Or.inr (Or.inr (Or.inr (Or.inr (Or.inl ⟨a, q, b, tt c⟩))))))
  · exact (Or.inr (Or.inr (Or.inr (Or.inr (Or.inr (Or.inr (Or.inl ⟨a, tt b⟩)))))))
  · exact (Or.inr (Or.inr (Or.inr (Or.inr (Or.inr (Or.inr (Or.inr (Or.inl ⟨a, m, r, e1, b, c, d, f, g, tt i⟩))))))))
  · exact (Or.inr (Or.inr (Or.inr (Or.inr (Or.inr (Or.inr (Or.inr (Or.inr (Or.inl ⟨a, b, r, d, tt f⟩)))))))))
  · exact (Or.inr (Or.inr (Or.inr (Or.inr (Or.inr (Or.inr (Or.inr (Or.inr (Or.inr (Or.inl ⟨a, b, k, c, d, tt f⟩))))))))))
  · exact (Or.inr (Or.inr (Or.inr (Or.inr (Or.inr (Or.inr (Or.inr (Or.inr (Or.inr (Or.inr (Or.inl ⟨a, b, k, c, c2, tt d⟩)))))))))))
  · exact (Or.inr (Or.inr (Or.inr (Or.inr (Or.inr (Or.inr (Or.inr (Or.inr (Or.inr (Or.inr (Or.inr (Or.inl ⟨a, b, e1, d, tt g⟩))))))))))))
  · exact (Or.inr (Or.inr (Or.inr (Or.inr (Or.inr (Or.inr (Or.inr (Or.inr (Or.inr (Or.inr (Or.inr (Or.inr (Or.inl ⟨a, b, d, tt f⟩)))))))))))))
  · exact (Or.inr (Or.inr (Or.inr (Or.inr (Or.inr (Or.inr (Or.inr (Or.inr (Or.inr (Or.inr (Or.inr (Or.inr (Or.inr (Or.inl ⟨a, m, b, c, d, f, g, tt i⟩))))))))))))))
  · exact (Or.inr (Or.inr (Or.inr (Or.inr (Or.inr (Or.inr (Or.inr (Or.inr (Or.inr (Or.inr (Or.inr (Or.inr (Or.inr (Or.inr (⟨a, b, tt c⟩)))))))))))))))
/-- where an order may lead -/
def SUC (X : St) (o p : Nat) : Prop := (p = o + 1 ∧ ¬ (X.1 40 o).toInt = 16) ∨ ((X.1 40 o).toInt = 15 ∧ (X.1 46 (ix (X.1 41 o))).toInt = (p : Int)) ∨ ((X.1 40 o).toInt = 16 ∧ (X.1 47 (ix (X.1 41 o))).toInt = (p : Int))
theorem ixn {z : Int32} {n : Nat} (h : z.toInt = (n : Int)) : ix z = n := by
  have := ixc (z := z) (by omega)
  omega
theorem GOP.bd {op : Nat} (h : GOP op) : (5 ≤ op ∧ op ≤ 14) ∨ op = 30 := by
  unfold GOP at h
  omega
theorem SR.nx {u : Bool} {X : St} {PT : Nat → Ty} {s e o p : Nat} (h : SR u X PT s e o) (hs : SUC X o p) : NX X e o p := by
  obtain ⟨hv, op, n, ⟨o1, o2⟩, hn, h⟩ := h
  have en := ixn o2
  unfold SUC at hs
  rw [en, o1] at hs
  rcases h with ⟨a, b⟩ | ⟨k, a, c⟩ | ⟨a, b, k, c, f⟩ | ⟨a, b, v, c, d, f, g⟩ | ⟨a, b, d, q, f, g⟩ | ⟨a, q, b, c⟩ | ⟨a, b⟩ | ⟨a, m, r, e1, b, c, d, f, g, i⟩ | ⟨a, b, r, d, f⟩ | ⟨a, b, k, c, d, f⟩ | ⟨a, b, k, c, c2, d⟩ | ⟨a, b, e1, d, g⟩ | ⟨a, b, d, f⟩ | ⟨a, m, b, c, d, f, g, i⟩ | ⟨a, b, c⟩
  · have hp : p = o + 1 := by
      have hop : ¬ op = 15 ∧ ¬ op = 16 := by
        clear hs
        omega
      rcases hs with ⟨x, -⟩ | ⟨x, -⟩ | ⟨x, -⟩
      · exact x
      · exact absurd (show op = 15 by omega) hop.1
      · exact absurd (show op = 16 by omega) hop.2
    subst hp
    exact b.2
  · have hp : p = o + 1 := by
      have hop : ¬ op = 15 ∧ ¬ op = 16 := by
        unfold LF at a
        omega
      rcases hs with ⟨x, -⟩ | ⟨x, -⟩ | ⟨x, -⟩
      · exact x
      · exact absurd (show op = 15 by omega) hop.1
      · exact absurd (show op = 16 by omega) hop.2
    subst hp
    exact c.2
  · have hp : p = o + 1 := by
      have hop : ¬ op = 15 ∧ ¬ op = 16 := by
        have := a.bd
        omega
      rcases hs with ⟨x, -⟩ | ⟨x, -⟩ | ⟨x, -⟩
      · exact x
      · exact absurd (show op = 15 by omega) hop.1
      · exact absurd (show op = 16 by omega) hop.2
    subst hp
    exact f.2
  · have hp : p = o + 1 := by
      have hop : ¬ op = 15 ∧ ¬ op = 16 := by
        clear hs
        omega
      rcases hs with ⟨x, -⟩ | ⟨x, -⟩ | ⟨x, -⟩
      · exact x
      · exact absurd (show op = 15 by omega) hop.1
      · exact absurd (show op = 16 by omega) hop.2
    subst hp
    exact g.2
  · rcases hs with ⟨rfl, -⟩ | ⟨-, hs⟩ | ⟨hs, -⟩
    · exact d.2
    · obtain rfl : p = q := by omega
      exact g.2
    · omega
  · rcases hs with ⟨-, hs⟩ | ⟨hs, -⟩ | ⟨-, hs⟩
    · omega
    · omega
    · obtain rfl : p = q := by omega
      exact c.2
  · have hp : p = o + 1 := by
      have hop : ¬ op = 15 ∧ ¬ op = 16 := by
        clear hs
        omega
      rcases hs with ⟨x, -⟩ | ⟨x, -⟩ | ⟨x, -⟩
      · exact x
      · exact absurd (show op = 15 by omega) hop.1
      · exact absurd (show op = 16 by omega) hop.2
    subst hp
    exact b.2
  · have hp : p = o + 1 := by
      have hop : ¬ op = 15 ∧ ¬ op = 16 := by
        clear hs
        omega
      rcases hs with ⟨x, -⟩ | ⟨x, -⟩ | ⟨x, -⟩
      · exact x
      · exact absurd (show op = 15 by omega) hop.1
      · exact absurd (show op = 16 by omega) hop.2
    subst hp
    exact i.2
  · have hp : p = o + 1 := by
      have hop : ¬ op = 15 ∧ ¬ op = 16 := by
        clear hs
        omega
      rcases hs with ⟨x, -⟩ | ⟨x, -⟩ | ⟨x, -⟩
      · exact x
      · exact absurd (show op = 15 by omega) hop.1
      · exact absurd (show op = 16 by omega) hop.2
    subst hp
    exact f.2
  · have hp : p = o + 1 := by
      have hop : ¬ op = 15 ∧ ¬ op = 16 := by
        clear hs
        omega
      rcases hs with ⟨x, -⟩ | ⟨x, -⟩ | ⟨x, -⟩
      · exact x
      · exact absurd (show op = 15 by omega) hop.1
      · exact absurd (show op = 16 by omega) hop.2
    subst hp
    exact f.2
  · have hp : p = o + 1 := by
      have hop : ¬ op = 15 ∧ ¬ op = 16 := by
        clear hs
        omega
      rcases hs with ⟨x, -⟩ | ⟨x, -⟩ | ⟨x, -⟩
      · exact x
      · exact absurd (show op = 15 by omega) hop.1
      · exact absurd (show op = 16 by omega) hop.2
    subst hp
    exact d.2
  · have hp : p = o + 1 := by
      have hop : ¬ op = 15 ∧ ¬ op = 16 := by
        clear hs
        omega
      rcases hs with ⟨x, -⟩ | ⟨x, -⟩ | ⟨x, -⟩
      · exact x
      · exact absurd (show op = 15 by omega) hop.1
      · exact absurd (show op = 16 by omega) hop.2
    subst hp
    exact g.2
  · have hp : p = o + 1 := by
      have hop : ¬ op = 15 ∧ ¬ op = 16 := by
        clear hs
        omega
      rcases hs with ⟨x, -⟩ | ⟨x, -⟩ | ⟨x, -⟩
      · exact x
      · exact absurd (show op = 15 by omega) hop.1
      · exact absurd (show op = 16 by omega) hop.2
    subst hp
    exact f.2
  · have hp : p = o + 1 := by
      have hop : ¬ op = 15 ∧ ¬ op = 16 := by
        clear hs
        omega
      rcases hs with ⟨x, -⟩ | ⟨x, -⟩ | ⟨x, -⟩
      · exact x
      · exact absurd (show op = 15 by omega) hop.1
      · exact absurd (show op = 16 by omega) hop.2
    subst hp
    exact i.2
  · have hp : p = o + 1 := by
      have hop : ¬ op = 15 ∧ ¬ op = 16 := by
        clear hs
        omega
      rcases hs with ⟨x, -⟩ | ⟨x, -⟩ | ⟨x, -⟩
      · exact x
      · exact absurd (show op = 15 by omega) hop.1
      · exact absurd (show op = 16 by omega) hop.2
    subst hp
    exact c.2
theorem SR.sg {u : Bool} {X : St} {PT : Nat → Ty} {s e o n : Nat} (h : SR u X PT s e o) (hn : OA X o 24 n) : 2 ≤ (levF (X.1 26 n).toInt64).toInt := by
  obtain ⟨hv, op, n2, ⟨o1, o2⟩, hn2, h⟩ := h
  have e1 : op = 24 := by
    have := hn.1
    omega
  have e2 : n2 = n := by
    have := hn.2
    omega
  subst e1
  subst e2
  rcases h with ⟨a, b⟩ | ⟨k, a, c⟩ | ⟨a, b, k, c, f⟩ | ⟨a, b, v, c, d, f, g⟩ | ⟨a, b, d, q, f, g⟩ | ⟨a, q, b, c⟩ | ⟨a, b⟩ | ⟨a, m, r, e1, b, c, d, f, g, i⟩ | ⟨a, b, r, d, f⟩ | ⟨a, b, k, c, d, f⟩ | ⟨a, b, k, c, c2, d⟩ | ⟨a, b, e1, d, g⟩ | ⟨a, b, d, f⟩ | ⟨a, m, b, c, d, f, g, i⟩ | ⟨a, b, c⟩
  · omega
  · unfold LF at a
    omega
  · have := a.bd
    omega
  · omega
  · omega
  · omega
  · omega
  · omega
  · omega
  · omega
  · exact c2 rfl
  · omega
  · omega
  · omega
  · omega
/-- a sum's sign -/
theorem lev_sum {z : Int32} (h : 2 ≤ (levF z.toInt64).toInt) : z.toInt = 42 ∨ z.toInt = 47 ∨ z.toInt = 37 ∨ z.toInt = 43 ∨ z.toInt = 45 := by
  refine Classical.byContradiction (fun hn => ?_)
  have g : ∀ k : Int32, ¬ z.toInt = k.toInt → ¬ (lg_cmp z.toInt64 k.toInt64).toInt = 0 := fun k hk q => hk (by
    have q1 := (lg_cmp_eq z.toInt64 k.toInt64).mp (Int32.toInt_inj.mp q)
    have q2 := congrArg Int64.toInt32 q1
    rw [Int32.toInt32_toInt64, Int32.toInt32_toInt64] at q2
    rw [q2])
  have c1 : ¬ (lg_cmp z.toInt64 42).toInt = 0 := g 42 (fun q => hn (Or.inl q))
  have c2 : ¬ (lg_cmp z.toInt64 47).toInt = 0 := g 47 (fun q => hn (Or.inr (Or.inl q)))
  have c3 : ¬ (lg_cmp z.toInt64 37).toInt = 0 := g 37 (fun q => hn (Or.inr (Or.inr (Or.inl q))))
  have c4 : ¬ (lg_cmp z.toInt64 43).toInt = 0 := g 43 (fun q => hn (Or.inr (Or.inr (Or.inr (Or.inl q)))))
  have c5 : ¬ (lg_cmp z.toInt64 45).toInt = 0 := g 45 (fun q => hn (Or.inr (Or.inr (Or.inr (Or.inr q)))))
  have e := levF_eq z.toInt64 ((fun _ _ => 0, fun _ _ => 0, fun _ _ => 0) : St)
  by_cases c6 : (lg_cmp z.toInt64 60).toInt = 0
  · simp only [f_levelOf, letV, c1, c2, c3, c4, c5, c6, if_false, if_true] at e
    injection e with e
    injection e with e _
    rw [← e] at h
    exact absurd h (by decide)
  · by_cases c7 : (lg_cmp z.toInt64 61).toInt = 0
    · simp only [f_levelOf, letV, c1, c2, c3, c4, c5, c6, c7, if_false, if_true] at e
      injection e with e
      injection e with e _
      rw [← e] at h
      exact absurd h (by decide)
    · simp only [f_levelOf, letV, c1, c2, c3, c4, c5, c6, c7, if_false, if_true] at e
      injection e with e
      injection e with e _
      rw [← e] at h
      exact absurd h (by decide)
theorem RULE.sr {X : St} {PT : Nat → Ty} {s e o : Nat} (h3 : K3 X) (h : RULE X PT s e o) (hx : ∀ p, SUC X o p → NX X e o p) (hsg : ∀ n, OA X o 24 n → 2 ≤ (levF (X.1 26 n).toInt64).toInt) : SR false X PT s e o := by
  obtain ⟨hv, op, n, ho, hn, h⟩ := h
  have en := ixn ho.2
  have k0 : IK false 1 X 0 := Or.inr ⟨rfl, ⟨by decide, by have := h3.1; have : (0 : Int32).toInt = 0 := rfl; omega⟩, (by unfold so; rw [show ix (0 : Int32) = 0 from by decide, h3.2.1]; rfl)⟩
  have k1 : IK false 2 X 1 := Or.inr ⟨rfl, ⟨by decide, by have := h3.1; have : (1 : Int32).toInt = 1 := rfl; omega⟩, (by unfold so; rw [show ix (1 : Int32) = 1 from by decide, h3.2.2.1]; rfl)⟩
  have kk0 : ∀ k : Int32, k.toInt = 0 → PK false 1 X k := by
    intro k hk
    obtain rfl : k = 0 := Int32.toInt_inj.mp hk
    rcases k0 with ⟨z, -⟩ | z
    · exact absurd z (by decide)
    · exact Or.inr z
  have kk1 : ∀ k : Int32, k.toInt = 1 → PK false 2 X k := by
    intro k hk
    obtain rfl : k = 1 := Int32.toInt_inj.mp hk
    rcases k1 with ⟨z, -⟩ | z
    · exact absurd z (by decide)
    · exact Or.inr z
  have k24 : op = 24 ∨ op = 25 → IK false (if op = 25 then 2 else 1) X (if op = 24 then 0 else 1) := by
    intro z
    rcases z with z | z
    · rw [if_neg (show ¬ op = 25 by omega), if_pos z]
      exact k0
    · rw [if_pos z, if_neg (show ¬ op = 24 by omega)]
      exact k1
  have nx : ∀ {t : Ty}, ¬ op = 16 → TO PT s e t (o + 1) → TN X PT s e o t (o + 1) := fun h16 g => ⟨g, hx _ (Or.inl ⟨rfl, by rw [ho.1]; omega⟩)⟩
  refine ⟨hv.2.2, op, n, ho, hn, ?_⟩
  rcases h with ⟨a, b⟩ | ⟨k, a, b, c⟩ | ⟨a, b, k, c, d, f⟩ | ⟨a, b, v, c, d, f, g⟩ | ⟨a, b, c, d, q, f, g⟩ | ⟨a, q, b, c⟩ | ⟨a, b⟩ | ⟨a, m, r, e1, b, c, d, f, g, i⟩ | ⟨a, b, c, r, d, f⟩ | ⟨a, b, c⟩ | ⟨a, b, c, d⟩ | ⟨a, b, c, d, f⟩ | ⟨a, b, c, e1, d, f, g⟩ | ⟨a, b, c, d, f⟩ | ⟨a, m, b, c, d, f, g, i⟩ | ⟨a, b, c⟩
  · exact (Or.inl ⟨a, nx (by omega) b⟩)
  · refine (Or.inr (Or.inl ⟨k, ?_, nx (by unfold LEAF at a; omega) c⟩))
    rcases a with ⟨a, rfl⟩ | ⟨a, rfl⟩ | a | ⟨a1, p, a2, a3, a4, a5, a6, a7⟩
    · exact Or.inl ⟨Or.inl a, by rw [a]; exact k0⟩
    · exact Or.inl ⟨Or.inr a, by rw [a]; exact k1⟩
    · exact Or.inr (Or.inl a)
    · exact Or.inr (Or.inr ⟨a1, p, a2, a3, Or.inr ⟨rfl, a4, a5, a6, a7⟩⟩)
  · exact (Or.inr (Or.inr (Or.inl ⟨a, b, k, Or.inl ⟨rfl, c, hv.1 _ (by omega), d⟩, nx (by omega) f⟩)))
  · exact (Or.inr (Or.inr (Or.inr (Or.inl ⟨a, b, v, c, d, f, nx (by omega) g⟩))))
  · exact (Or.inr (Or.inr (Or.inr (Or.inr (Or.inl ⟨a, ⟨b, kk1 _ c⟩, nx (by omega) d, q, f, g, hx _ (Or.inr (Or.inl ⟨by rw [ho.1]; omega, by rw [en]; exact f⟩))⟩)))))
  · exact (Or.inr (Or.inr (Or.inr (Or.inr (Or.inr (Or.inl ⟨a, q, b, c, hx _ (Or.inr (Or.inr ⟨by rw [ho.1]; omega, by rw [en]; exact b⟩))⟩))))))
  · exact (Or.inr (Or.inr (Or.inr (Or.inr (Or.inr (Or.inr (Or.inl ⟨a, nx (by omega) b⟩)))))))
  · exact (Or.inr (Or.inr (Or.inr (Or.inr (Or.inr (Or.inr (Or.inr (Or.inl ⟨a, m, r, e1, b, c, d, f, Or.inr ⟨rfl, g⟩, nx (by omega) i⟩))))))))
  · exact (Or.inr (Or.inr (Or.inr (Or.inr (Or.inr (Or.inr (Or.inr (Or.inr (Or.inl ⟨a, ⟨b, kk0 _ c⟩, r, Or.inr ⟨rfl, d⟩, nx (by omega) f⟩)))))))))
  · have n23 : ¬ op = 23 := by rcases a with ⟨a, -⟩ | ⟨a, -⟩ | ⟨a, -⟩ <;> omega
    refine (Or.inr (Or.inr (Or.inr (Or.inr (Or.inr (Or.inr (Or.inr (Or.inr (Or.inr (Or.inl ⟨?_, b, 0, by rw [if_neg n23]; exact k0, fun q => ?_, nx (by omega) c⟩))))))))))
    · rcases a with ⟨a, e1, a2⟩ | a | a
      · exact Or.inl ⟨a, e1, Or.inr ⟨rfl, a2⟩⟩
      · exact Or.inr (Or.inl a.1)
      · exact Or.inr (Or.inr (Or.inl a.1))
    · rw [if_neg n23]
      rcases a with ⟨a, -⟩ | a | a
      · omega
      · exact kk0 _ a.2
      · exact kk0 _ a.2
  · exact (Or.inr (Or.inr (Or.inr (Or.inr (Or.inr (Or.inr (Or.inr (Or.inr (Or.inr (Or.inl ⟨Or.inr (Or.inr (Or.inr a)), c, 1, by rw [if_pos a]; exact k1, fun _ => by rw [if_pos a]; exact kk1 _ b, nx (by omega) d⟩))))))))))
  · exact (Or.inr (Or.inr (Or.inr (Or.inr (Or.inr (Or.inr (Or.inr (Or.inr (Or.inr (Or.inr (Or.inl ⟨a, ⟨b, kk0 _ c, kk0 _ d⟩, _, k24 a, fun q => hsg n (by rw [← q]; exact ho), nx (by omega) f⟩)))))))))))
  · exact (Or.inr (Or.inr (Or.inr (Or.inr (Or.inr (Or.inr (Or.inr (Or.inr (Or.inr (Or.inr (Or.inr (Or.inl ⟨a, ⟨b, kk0 _ c⟩, e1, Or.inr ⟨rfl, d⟩, nx (by omega) g⟩))))))))))))
  · exact (Or.inr (Or.inr (Or.inr (Or.inr (Or.inr (Or.inr (Or.inr (Or.inr (Or.inr (Or.inr (Or.inr (Or.inr (Or.inl ⟨a, ⟨b, kk0 _ c⟩, Or.inr ⟨rfl, d⟩, nx (by omega) f⟩)))))))))))))
  · exact (Or.inr (Or.inr (Or.inr (Or.inr (Or.inr (Or.inr (Or.inr (Or.inr (Or.inr (Or.inr (Or.inr (Or.inr (Or.inr (Or.inl ⟨a, m, b, c, d, Or.inr ⟨rfl, f⟩, g, nx (by omega) i⟩))))))))))))))
  · exact (Or.inr (Or.inr (Or.inr (Or.inr (Or.inr (Or.inr (Or.inr (Or.inr (Or.inr (Or.inr (Or.inr (Or.inr (Or.inr (Or.inr (⟨a, b, nx (by omega) c⟩)))))))))))))))
