/-! trees as a type: made of what the nodes' rows hold -/
inductive Tr where
  | lf (k n : Nat) : Tr
  | un (k n : Nat) (a : Tr) : Tr
  | bi (k n : Nat) (a b : Tr) : Tr
  | te (k n : Nat) (a b c : Tr) : Tr
  | li (k n : Nat) (l : Tr) : Tr
  | ca (n : Nat) (a l : Tr) : Tr
  | nl : Tr
  | cn (i l : Tr) : Tr
def Tr.root : Tr → Nat
  | .lf _ n => n
  | .un _ n _ => n
  | .bi _ n _ _ => n
  | .te _ n _ _ _ => n
  | .li _ n _ => n
  | .ca n _ _ => n
  | .nl => 0
  | .cn _ _ => 0
def Tr.isE : Tr → Prop
  | .nl => False
  | .cn _ _ => False
  | _ => True
def Tr.count : Tr → Nat
  | .cn _ l => l.count + 1
  | _ => 0
/-- v points to the first of the list -/
def Tr.hd : Tr → Int32 → Prop
  | .nl, v => v.toInt < 0
  | .cn i _, v => v.toInt = (i.root : Int)
  | _, _ => False
def Tr.has : Tr → Nat → Prop
  | .lf _ n, i => i = n
  | .un _ n a, i => i = n ∨ a.has i
  | .bi _ n a b, i => i = n ∨ a.has i ∨ b.has i
  | .te _ n a b c, i => i = n ∨ a.has i ∨ b.has i ∨ c.has i
  | .li _ n l, i => i = n ∨ l.has i
  | .ca n a l, i => i = n ∨ a.has i ∨ l.has i
  | .nl, _ => False
  | .cn a l, i => a.has i ∨ l.has i
def Tr.sz : Tr → Nat
  | .lf _ _ => 1
  | .un _ _ a => a.sz + 1
  | .bi _ _ a b => a.sz + b.sz + 1
  | .te _ _ a b c => a.sz + b.sz + c.sz + 1
  | .li _ _ l => l.sz + 1
  | .ca _ a l => a.sz + l.sz + 1
  | .nl => 0
  | .cn i l => i.sz + l.sz
/-- no node twice -/
def Tr.dj : Tr → Prop
  | .lf _ _ => True
  | .un _ n a => ¬ a.has n ∧ a.dj
  | .bi _ n a b => (¬ a.has n ∧ ¬ b.has n ∧ ∀ i, a.has i → ¬ b.has i) ∧ a.dj ∧ b.dj
  | .te _ n a b c => (¬ a.has n ∧ ¬ b.has n ∧ ¬ c.has n ∧ (∀ i, a.has i → ¬ b.has i) ∧ (∀ i, a.has i → ¬ c.has i) ∧ ∀ i, b.has i → ¬ c.has i) ∧ a.dj ∧ b.dj ∧ c.dj
  | .li _ n l => ¬ l.has n ∧ l.dj
  | .ca n a l => (¬ a.has n ∧ ¬ l.has n ∧ ∀ i, a.has i → ¬ l.has i) ∧ a.dj ∧ l.dj
  | .nl => True
  | .cn i l => (∀ j, i.has j → ¬ l.has j) ∧ i.dj ∧ l.dj
/-- the node at a row's cell -/
def lnk (X : St) (e n : Nat) (a : Tr) : Prop := (X.1 e n).toInt = (a.root : Int) ∧ a.isE
def Tr.ok (X : St) : Tr → Int → Prop
  | .lf k n, s => (X.1 20 n).toInt = (k : Int) ∧ (k = 0 ∨ k = 1 ∨ (k = 2 ∧ 0 ≤ (X.1 26 n).toInt ∧ (X.1 26 n).toInt < s) ∨ k = 3)
  | .un k n a, s => (X.1 20 n).toInt = (k : Int) ∧ (k = 6 ∨ k = 7 ∨ k = 8 ∨ k = 12 ∨ k = 13) ∧ lnk X 23 n a ∧ a.ok X s
  | .bi k n a b, s => (X.1 20 n).toInt = (k : Int) ∧ lnk X 23 n a ∧ lnk X 24 n b ∧ a.ok X s ∧ (((k = 5 ∨ k = 14 ∨ k = 15 ∨ (k = 10 ∧ (X.1 25 n).toInt < 0)) ∧ b.ok X s) ∨ (k = 17 ∧ (X.1 26 n).toInt = s ∧ 0 ≤ s ∧ s ≤ 43 ∧ b.ok X (s + 1)))
  | .te k n a b c, s => (X.1 20 n).toInt = (k : Int) ∧ (k = 10 ∨ k = 16) ∧ lnk X 23 n a ∧ lnk X 24 n b ∧ lnk X 25 n c ∧ a.ok X s ∧ b.ok X s ∧ c.ok X s
  | .li k n l, s => (X.1 20 n).toInt = (k : Int) ∧ ((k = 4 ∧ l.count ≤ 20) ∨ (k = 9 ∧ 1 ≤ l.count)) ∧ (X.1 27 n).toInt = (l.count : Int) ∧ l.hd (X.1 24 n) ∧ l.ok X s
  | .ca n a l, s => (X.1 20 n).toInt = 11 ∧ l.count ≤ 4 ∧ (X.1 27 n).toInt = (l.count : Int) ∧ lnk X 23 n a ∧ a.ok X s ∧ l.hd (X.1 24 n) ∧ l.ok X s
  | .nl, _ => True
  | .cn i l, s => i.isE ∧ i.ok X s ∧ l.hd (X.1 28 i.root) ∧ l.ok X s
theorem Tr.has_root {t : Tr} (h : t.isE) : t.has t.root := by
  cases t
  · exact rfl
  · exact Or.inl rfl
  · exact Or.inl rfl
  · exact Or.inl rfl
  · exact Or.inl rfl
  · exact Or.inl rfl
  · exact h.elim
  · exact h.elim
theorem Tr.sz_pos {t : Tr} (h : t.isE) : 1 ≤ t.sz := by
  cases t
  · exact Nat.le_refl 1
  · exact Nat.succ_le_succ (Nat.zero_le _)
  · exact Nat.succ_le_succ (Nat.zero_le _)
  · exact Nat.succ_le_succ (Nat.zero_le _)
  · exact Nat.succ_le_succ (Nat.zero_le _)
  · exact Nat.succ_le_succ (Nat.zero_le _)
  · exact h.elim
  · exact h.elim
/-- a tree in a stretch of nodes -/
def Tr.At (X : St) (t : Tr) (n lo hi : Nat) (s : Int) : Prop := t.isE ∧ t.root = n ∧ t.ok X s ∧ t.dj ∧ (∀ i, t.has i → lo ≤ i ∧ i < hi) ∧ t.sz + lo ≤ hi
theorem CHR.tr {X : St} {e n l r : Nat} {s : Int} (h : CHR (fun n lo hi sc => WX X n lo hi sc ∧ ∃ t : Tr, t.At X n lo hi sc) X e n l r s) : ∃ a : Tr, lnk X e n a ∧ a.ok X s ∧ a.dj ∧ (∀ i, a.has i → l ≤ i ∧ i < r) ∧ a.sz + l ≤ r := by
  obtain ⟨h0, -, t, h1, h2, h3, h4, h5, h6⟩ := h
  have e1 := ixc h0
  exact ⟨t, ⟨by omega, h1⟩, h3, h4, h5, h6⟩
theorem LSB.tr {X : St} {n l r : Nat} {s : Int} {it cu : Nat → Nat} (h : LSB (fun n lo hi sc => WX X n lo hi sc ∧ ∃ t : Tr, t.At X n lo hi sc) X n l r s it cu) : ∃ a : Tr, a.count = ix (X.1 27 n) ∧ a.hd (X.1 24 n) ∧ a.ok X s ∧ a.dj ∧ (∀ i, a.has i → l ≤ i ∧ i < r) ∧ a.sz + l ≤ r := by
  obtain ⟨h0, h1, h2, h3, h4, h5⟩ := h
  have key : ∀ d j, j + d = ix (X.1 27 n) → ∃ a : Tr, a.count = d ∧ (d = 0 → a = .nl) ∧ (0 < d → ∃ i l, a = .cn i l ∧ i.root = it j) ∧ a.ok X s ∧ a.dj ∧ (∀ i, a.has i → cu j ≤ i ∧ i < r) ∧ a.sz + cu j ≤ r := by
    intro d
    induction d with
    | zero =>
      intro j hj
      have ej : j = ix (X.1 27 n) := by omega
      exact ⟨.nl, rfl, fun _ => rfl, fun q => absurd q (by decide), trivial, trivial, fun _ q => q.elim, by rw [ej, h1]; show 0 + r ≤ r; omega⟩
    | succ d ih =>
      intro j hj
      obtain ⟨a, a1, a2, a3, a4, a5, a6, a7⟩ := ih (j + 1) (by omega)
      obtain ⟨⟨hw, t, t1, t2, t3, t4, t5, t6⟩, g1, g2⟩ := h5 j (by omega)
      have hp := Tr.sz_pos t1
      refine ⟨.cn t a, by show a.count + 1 = d + 1; omega, fun q => absurd q (by omega), fun _ => ⟨t, a, rfl, t2⟩, ⟨t1, t3, ?_, a4⟩, ⟨fun i hi hj => ?_, t4, a5⟩, fun i hi => ?_, ?_⟩
      · rw [t2]
        by_cases q : d = 0
        · rw [a2 q]
          exact g2 (by omega)
        · obtain ⟨i, l', e1, e2⟩ := a3 (by omega)
          obtain ⟨g3, g4⟩ := g1 (by omega)
          have := ixc g3
          rw [e1]
          show (X.1 28 (it j)).toInt = (i.root : Int)
          omega
      · have := t5 i hi
        have := a6 i hj
        omega
      · rcases hi with hi | hi
        · have := t5 i hi
          omega
        · have := a6 i hi
          omega
      · show t.sz + a.sz + cu j ≤ r
        omega
  have e2 := ixc h2
  obtain ⟨a, a1, a2, a3, a4, a5, a6, a7⟩ := key (ix (X.1 27 n)) 0 (by omega)
  rw [h0] at a6 a7
  refine ⟨a, a1, ?_, a4, a5, a6, a7⟩
  by_cases q : ix (X.1 27 n) = 0
  · rw [a2 q]
    exact h3 (by omega)
  · obtain ⟨i, l', e3, e4⟩ := a3 (by omega)
    obtain ⟨g1, g2⟩ := h4 (by omega)
    have := ixc g1
    rw [e3]
    show (X.1 24 n).toInt = (i.root : Int)
    omega
set_option maxHeartbeats 4000000 in
theorem WX.tr {X : St} {n lo hi : Nat} {sc : Int} (h : WX X n lo hi sc) : ∃ t : Tr, t.At X n lo hi sc := by
  refine WX.ind (P := fun n lo hi sc => ∃ t : Tr, t.At X n lo hi sc) ?_ h
  rintro n lo hi sc ⟨hl, hh, h⟩
  rcases h with ⟨a, b, c⟩ | ⟨a, b, c⟩ | ⟨a, b, c⟩ | ⟨a, b, m, c, d⟩ | ⟨a, b, m, c, d⟩ | ⟨a, b, m1, m2, c, d, e⟩ | ⟨a, b, c1, c2, c3, m, c, d⟩ | ⟨a, b, c, it, cu, d⟩ | ⟨a, b, c, it, cu, d⟩ | ⟨a, b, c, it, cu, d⟩
  · have hs : (Tr.lf 0 n).sz + lo ≤ hi := by show 1 + lo ≤ hi; omega
    rcases c with c | c | c | c
    · exact ⟨.lf 0 n, trivial, rfl, ⟨by omega, by omega⟩, trivial, fun i q => by cases q; omega, hs⟩
    · exact ⟨.lf 1 n, trivial, rfl, ⟨by omega, by omega⟩, trivial, fun i q => by cases q; omega, hs⟩
    · exact ⟨.lf 2 n, trivial, rfl, ⟨by omega, by omega⟩, trivial, fun i q => by cases q; omega, hs⟩
    · exact ⟨.lf 3 n, trivial, rfl, ⟨by omega, by omega⟩, trivial, fun i q => by cases q; omega, hs⟩
  · obtain ⟨t, t1, t2, t3, t4, t5⟩ := c.tr
    have go : ∀ k : Nat, (X.1 20 n).toInt = (k : Int) → (k = 6 ∨ k = 7 ∨ k = 8 ∨ k = 12 ∨ k = 13) → ∃ t : Tr, t.At X n lo hi sc := fun k hk hk2 => ⟨.un k n t, trivial, rfl, ⟨hk, hk2, t1, t2⟩, ⟨fun q => by have := t4 n q; omega, t3⟩, fun i q => by
        rcases q with q | q
        · omega
        · have := t4 i q; omega, by show t.sz + 1 + lo ≤ hi; omega⟩
    rcases b with b | b | b | b | b
    · exact go 6 b (by omega)
    · exact go 7 b (by omega)
    · exact go 8 b (by omega)
    · exact go 12 b (by omega)
    · exact go 13 b (by omega)
  · obtain ⟨t, t1, t2, t3, t4, t5⟩ := b.tr
    obtain ⟨u, u1, u2, u3, u4, u5⟩ := c.tr
    have go : ∀ k : Nat, (X.1 20 n).toInt = (k : Int) → (k = 14 ∨ k = 15) → ∃ t : Tr, t.At X n lo hi sc := fun k hk hk2 => ⟨.bi k n t u, trivial, rfl, ⟨hk, t1, u1, t2, Or.inl ⟨by omega, u2⟩⟩, ⟨⟨fun q => by have := t4 n q; omega, fun q => by have := u4 n q; omega, fun i q q2 => by have := t4 i q; have := u4 i q2; omega⟩, t3, u3⟩, fun i q => by
        rcases q with q | q | q
        · omega
        · have := t4 i q; omega
        · have := u4 i q; omega, by show t.sz + u.sz + 1 + lo ≤ hi; omega⟩
    rcases a with a | a
    · exact go 14 a (Or.inl rfl)
    · exact go 15 a (Or.inr rfl)
  · obtain ⟨t, t1, t2, t3, t4, t5⟩ := c.tr
    obtain ⟨u, u1, u2, u3, u4, u5⟩ := d.tr
    exact ⟨.bi 5 n t u, trivial, rfl, ⟨a, t1, u1, t2, Or.inl ⟨Or.inl rfl, u2⟩⟩, ⟨⟨fun q => by have := t4 n q; omega, fun q => by have := u4 n q; omega, fun i q q2 => by have := t4 i q; have := u4 i q2; omega⟩, t3, u3⟩, fun i q => by
        rcases q with q | q | q
        · omega
        · have := t4 i q; omega
        · have := u4 i q; omega, by show t.sz + u.sz + 1 + lo ≤ hi; omega⟩
  · obtain ⟨t, t1, t2, t3, t4, t5⟩ := b.tr
    obtain ⟨u, u1, u2, u3, u4, u5⟩ := c.tr
    rcases d with ⟨d, d2⟩ | d
    · subst d2
      exact ⟨.bi 10 n t u, trivial, rfl, ⟨a, t1, u1, t2, Or.inl ⟨Or.inr (Or.inr (Or.inr ⟨rfl, d⟩)), u2⟩⟩, ⟨⟨fun q => by have := t4 n q; omega, fun q => by have := u4 n q; omega, fun i q q2 => by have := t4 i q; have := u4 i q2; omega⟩, t3, u3⟩, fun i q => by
        rcases q with q | q | q
        · omega
        · have := t4 i q; omega
        · have := u4 i q; omega, by show t.sz + u.sz + 1 + lo ≤ m; omega⟩
    · obtain ⟨w, w1, w2, w3, w4, w5⟩ := d.tr
      exact ⟨.te 10 n t u w, trivial, rfl, ⟨a, Or.inl rfl, t1, u1, w1, t2, u2, w2⟩, ⟨⟨fun q => by have := t4 n q; omega, fun q => by have := u4 n q; omega, fun q => by have := w4 n q; omega, fun i q q2 => by have := t4 i q; have := u4 i q2; omega, fun i q q2 => by have := t4 i q; have := w4 i q2; omega, fun i q q2 => by have := u4 i q; have := w4 i q2; omega⟩, t3, u3, w3⟩, fun i q => by
        rcases q with q | q | q | q
        · omega
        · have := t4 i q; omega
        · have := u4 i q; omega
        · have := w4 i q; omega, by show t.sz + u.sz + w.sz + 1 + lo ≤ hi; omega⟩
  · obtain ⟨t, t1, t2, t3, t4, t5⟩ := c.tr
    obtain ⟨u, u1, u2, u3, u4, u5⟩ := d.tr
    obtain ⟨w, w1, w2, w3, w4, w5⟩ := e.tr
    exact ⟨.te 16 n t u w, trivial, rfl, ⟨a, Or.inr rfl, t1, u1, w1, t2, u2, w2⟩, ⟨⟨fun q => by have := t4 n q; omega, fun q => by have := u4 n q; omega, fun q => by have := w4 n q; omega, fun i q q2 => by have := t4 i q; have := u4 i q2; omega, fun i q q2 => by have := t4 i q; have := w4 i q2; omega, fun i q q2 => by have := u4 i q; have := w4 i q2; omega⟩, t3, u3, w3⟩, fun i q => by
        rcases q with q | q | q | q
        · omega
        · have := t4 i q; omega
        · have := u4 i q; omega
        · have := w4 i q; omega, by show t.sz + u.sz + w.sz + 1 + lo ≤ hi; omega⟩
  · obtain ⟨t, t1, t2, t3, t4, t5⟩ := c.tr
    obtain ⟨u, u1, u2, u3, u4, u5⟩ := d.tr
    exact ⟨.bi 17 n t u, trivial, rfl, ⟨a, t1, u1, t2, Or.inr ⟨rfl, c1, c2, c3, u2⟩⟩, ⟨⟨fun q => by have := t4 n q; omega, fun q => by have := u4 n q; omega, fun i q q2 => by have := t4 i q; have := u4 i q2; omega⟩, t3, u3⟩, fun i q => by
        rcases q with q | q | q
        · omega
        · have := t4 i q; omega
        · have := u4 i q; omega, by show t.sz + u.sz + 1 + lo ≤ hi; omega⟩
  · obtain ⟨l, l1, l2, l3, l4, l5, l6⟩ := LSB.tr d
    have em := ixc d.2.2.1
    exact ⟨.li 4 n l, trivial, rfl, ⟨a, Or.inl ⟨rfl, by omega⟩, by omega, l2, l3⟩, ⟨fun q => by have := l5 n q; omega, l4⟩, fun i q => by
        rcases q with q | q
        · omega
        · have := l5 i q; omega, by show l.sz + 1 + lo ≤ hi; omega⟩
  · obtain ⟨l, l1, l2, l3, l4, l5, l6⟩ := LSB.tr d
    have em := ixc d.2.2.1
    exact ⟨.li 9 n l, trivial, rfl, ⟨a, Or.inr ⟨rfl, by omega⟩, by omega, l2, l3⟩, ⟨fun q => by have := l5 n q; omega, l4⟩, fun i q => by
        rcases q with q | q
        · omega
        · have := l5 i q; omega, by show l.sz + 1 + lo ≤ hi; omega⟩
  · obtain ⟨t, t1, t2, t3, t4, t5⟩ := c.tr
    obtain ⟨l, l1, l2, l3, l4, l5, l6⟩ := LSB.tr d
    have em := ixc d.2.2.1
    exact ⟨.ca n t l, trivial, rfl, ⟨a, by omega, by omega, t1, t2, l2, l3⟩, ⟨⟨fun q => by have := t4 n q; omega, fun q => by have := l5 n q; omega, fun i q q2 => by have := t4 i q; have := l5 i q2; omega⟩, t3, l4⟩, fun i q => by
        rcases q with q | q | q
        · omega
        · have := t4 i q; omega
        · have := l5 i q; omega, by show t.sz + l.sz + 1 + lo ≤ hi; omega⟩
