/-! types of the places in the code -/
abbrev Ty : Type := Nat × (Nat → Int32) × Nat × (Nat → Int32)
def tup (f : Nat → Int32) (i : Nat) (v : Int32) : Nat → Int32 := fun j => if j = i then v else f j
theorem tup_at (f : Nat → Int32) (i : Nat) (v : Int32) : tup f i v i = v := if_pos rfl
theorem tup_ne (f : Nat → Int32) {i j : Nat} (v : Int32) (h : j ≠ i) : tup f i v j = f j := if_neg h
/-- what is known at a may be taken for what is known at b -/
def TE (a b : Ty) : Prop := a.1 = b.1 ∧ (∀ j, j < a.1 → b.2.1 j = a.2.1 j) ∧ b.2.2.1 ≤ a.2.2.1 ∧ ∀ j, j < b.2.2.1 → b.2.2.2 j = a.2.2.2 j
theorem TE.rf {a : Ty} : TE a a := ⟨rfl, fun _ _ => rfl, Nat.le_refl _, fun _ _ => rfl⟩
theorem TE.tr {a b c : Ty} (h : TE a b) (g : TE b c) : TE a c := ⟨h.1.trans g.1, fun j hj => (g.2.1 j (by rw [← h.1]; exact hj)).trans (h.2.1 j hj), Nat.le_trans g.2.2.1 h.2.2.1, fun j hj => (g.2.2.2 j hj).trans (h.2.2.2 j (Nat.lt_of_lt_of_le hj g.2.2.1))⟩
def psh (t : Ty) (v : Int32) : Ty := (t.1 + 1, tup t.2.1 t.1 v, t.2.2.1, t.2.2.2)
def pps (t : Ty) (n : Nat) : Ty := (t.1 - n, t.2.1, t.2.2.1, t.2.2.2)
def tp (t : Ty) (i : Nat) : Int32 := t.2.1 (t.1 - 1 - i)
def VK (X : St) (k : Int32) : Prop := 0 ≤ k.toInt ∧ k.toInt < (X.1 0 13).toInt
def VAL (X : St) (t : Ty) : Prop := (∀ j, j < t.1 → VK X (t.2.1 j)) ∧ (∀ j, j < t.2.2.1 → VK X (t.2.2.2 j)) ∧ t.2.2.1 ≤ 44
def TO (PT : Nat → Ty) (s e : Nat) (t : Ty) (q : Nat) : Prop := s ≤ q ∧ q ≤ e ∧ TE t (PT q)
/-- a leaf pushes kind k -/
def LEAF (X : St) (op n : Nat) (t : Ty) (k : Int32) : Prop := (op = 1 ∧ k = 0) ∨ (op = 2 ∧ k = 1) ∨ (op = 3 ∧ ∃ v : Nat, (X.1 26 n).toInt = (v : Int) ∧ v < t.2.2.1 ∧ k = t.2.2.2 v) ∨ (op = 4 ∧ ∃ p : Nat, (X.1 26 n).toInt = (p : Int) ∧ (p : Int) < (X.1 0 18).toInt ∧ 0 ≤ (X.1 15 p).toInt ∧ FNK X k (X.1 15 p).toInt ∧ (∀ i, i < ix (X.1 15 p) → cmpK X k i = pkv X p i) ∧ cmpK X k (ix (X.1 15 p)) = okv X p)
/-- what stands at place o lets a run go on -/
def RULE (X : St) (PT : Nat → Ty) (s e o : Nat) : Prop := VAL X (PT o) ∧ ∃ op n : Nat, OA X o op n ∧ n < 3100 ∧ (
  (op = 0 ∧ TO PT s e (PT o) (o + 1)) ∨
  (∃ k, LEAF X op n (PT o) k ∧ VK X k ∧ TO PT s e (psh (PT o) k) (o + 1)) ∨
  ((op = 5 ∨ op = 6 ∨ op = 7 ∨ op = 8 ∨ op = 9 ∨ op = 10 ∨ op = 11 ∨ op = 12 ∨ op = 14 ∨ op = 30) ∧ 1 ≤ (PT o).1 ∧ ∃ k, GRD X o (tp (PT o) 0) k ∧ VK X k ∧ TO PT s e (psh (pps (PT o) 1) k) (o + 1)) ∨
  (op = 13 ∧ 1 ≤ (PT o).1 ∧ ∃ v : Nat, (X.1 26 n).toInt = (v : Int) ∧ v ≤ 43 ∧ v ≤ (PT o).2.2.1 ∧ TO PT s e ((PT o).1 - 1, (PT o).2.1, v + 1, tup (PT o).2.2.2 v (tp (PT o) 0)) (o + 1)) ∨
  (op = 15 ∧ 1 ≤ (PT o).1 ∧ (tp (PT o) 0).toInt = 1 ∧ TO PT s e (pps (PT o) 1) (o + 1) ∧ ∃ q : Nat, (X.1 46 n).toInt = (q : Int) ∧ TO PT s e (pps (PT o) 1) q) ∨
  (op = 16 ∧ ∃ q : Nat, (X.1 47 n).toInt = (q : Int) ∧ TO PT s e (PT o) q) ∨
  (op = 17 ∧ TO PT s e (PT o) (o + 1)) ∨
  (op = 18 ∧ ∃ m : Nat, ∃ r e1, (X.1 27 n).toInt = (m : Int) ∧ m ≤ 20 ∧ m ≤ (PT o).1 ∧ (∀ j, j < m → tp (PT o) j = e1) ∧ ROWK X r e1 ∧ TO PT s e (psh (pps (PT o) m) r) (o + 1)) ∨
  (op = 19 ∧ 2 ≤ (PT o).1 ∧ (tp (PT o) 1).toInt = 0 ∧ ∃ r, ROWK X r (tp (PT o) 0) ∧ TO PT s e (psh (pps (PT o) 2) r) (o + 1)) ∨
  (((op = 20 ∧ ∃ e1, ROWK X (tp (PT o) 0) e1) ∨ (op = 21 ∧ (tp (PT o) 0).toInt = 0) ∨ (op = 22 ∧ (tp (PT o) 0).toInt = 0)) ∧ 1 ≤ (PT o).1 ∧ TO PT s e (psh (pps (PT o) 1) 0) (o + 1)) ∨
  (op = 23 ∧ (tp (PT o) 0).toInt = 1 ∧ 1 ≤ (PT o).1 ∧ TO PT s e (psh (pps (PT o) 1) 1) (o + 1)) ∨
  ((op = 24 ∨ op = 25) ∧ 2 ≤ (PT o).1 ∧ (tp (PT o) 0).toInt = 0 ∧ (tp (PT o) 1).toInt = 0 ∧ TO PT s e (psh (pps (PT o) 2) (if op = 24 then 0 else 1)) (o + 1)) ∨
  (op = 26 ∧ 2 ≤ (PT o).1 ∧ (tp (PT o) 0).toInt = 0 ∧ ∃ e1, ROWK X (tp (PT o) 1) e1 ∧ VK X e1 ∧ TO PT s e (psh (pps (PT o) 2) e1) (o + 1)) ∨
  (op = 27 ∧ 3 ≤ (PT o).1 ∧ (tp (PT o) 1).toInt = 0 ∧ ROWK X (tp (PT o) 2) (tp (PT o) 0) ∧ TO PT s e (psh (pps (PT o) 3) (tp (PT o) 0)) (o + 1)) ∨
  (op = 28 ∧ ∃ m : Nat, (X.1 27 n).toInt = (m : Int) ∧ m ≤ 4 ∧ m + 1 ≤ (PT o).1 ∧ FNK X (tp (PT o) m) (m : Int) ∧ (∀ i, i < m → tp (PT o) (m - 1 - i) = cmpK X (tp (PT o) m) i) ∧ TO PT s e (psh (pps (PT o) (m + 1)) (cmpK X (tp (PT o) m) m)) (o + 1)) ∨
  (op = 29 ∧ 1 ≤ (PT o).1 ∧ TO PT s e (pps (PT o) 1) (o + 1)))
theorem TO.pt {PT PT1 : Nat → Ty} {s e s1 e1 : Nat} {t : Ty} {q : Nat} (h : TO PT s e t q) (heq : ∀ q, s ≤ q → q < e → PT1 q = PT q) (hend : TE (PT e) (PT1 e)) (hs : s1 ≤ s) (he : e ≤ e1) : TO PT1 s1 e1 t q := by
  obtain ⟨a, b, c⟩ := h
  refine ⟨by omega, by omega, ?_⟩
  by_cases g : q < e
  · rw [heq q a g]
    exact c
  · have : q = e := by omega
    subst this
    exact c.tr hend
theorem RULE.pt {X : St} {PT PT1 : Nat → Ty} {s e s1 e1 o : Nat} (h : RULE X PT s e o) (ho : s ≤ o ∧ o < e) (heq : ∀ q, s ≤ q → q < e → PT1 q = PT q) (hend : TE (PT e) (PT1 e)) (hs : s1 ≤ s) (he : e ≤ e1) : RULE X PT1 s1 e1 o := by
  unfold RULE
  rw [heq o ho.1 ho.2]
  obtain ⟨hv, op, n, hoa, hn, h⟩ := h
  refine ⟨hv, op, n, hoa, hn, ?_⟩
  have tt : ∀ {t : Ty} {q : Nat}, TO PT s e t q → TO PT1 s1 e1 t q := fun g => g.pt heq hend hs he
  rcases h with ⟨a, b⟩ | ⟨k, a, b, c⟩ | ⟨a, b, k, c, d, f⟩ | ⟨a, b, v, c, d, f, g⟩ | ⟨a, b, c, d, q, f, g⟩ | ⟨a, q, b, c⟩ | ⟨a, b⟩ | ⟨a, m, r, e1, b, c, d, f, g, i⟩ | ⟨a, b, c, r, d, f⟩ | ⟨a, b, c⟩ | ⟨a, b, c, d⟩ | ⟨a, b, c, d, f⟩ | ⟨a, b, c, e1, d, f, g⟩ | ⟨a, b, c, d, f⟩ | ⟨a, m, b, c, d, f, g, i⟩ | ⟨a, b, c⟩
  · exact (Or.inl ⟨a, tt b⟩)
  · exact (Or.inr (Or.inl ⟨k, a, b, tt c⟩))
  · exact (Or.inr (Or.inr (Or.inl ⟨a, b, k, c, d, tt f⟩)))
  · exact (Or.inr (Or.inr (Or.inr (Or.inl ⟨a, b, v, c, d, f, tt g⟩))))
  · exact (Or.inr (Or.inr (Or.inr (Or.inr (Or.inl ⟨a, b, c, tt d, q, f, tt g⟩)))))
  · exact (Or.inr (Or.inr (Or.inr (Or.inr (Or.inr (Or.inl ⟨a, q, b, tt c⟩))))))
  · exact (Or.inr (Or.inr (Or.inr (Or.inr (Or.inr (Or.inr (Or.inl ⟨a, tt b⟩)))))))
  · exact (Or.inr (Or.inr (Or.inr (Or.inr (Or.inr (Or.inr (Or.inr (Or.inl ⟨a, m, r, e1, b, c, d, f, g, tt i⟩))))))))
  · exact (Or.inr (Or.inr (Or.inr (Or.inr (Or.inr (Or.inr (Or.inr (Or.inr (Or.inl ⟨a, b, c, r, d, tt f⟩)))))))))
  · exact (Or.inr (Or.inr (Or.inr (Or.inr (Or.inr (Or.inr (Or.inr (Or.inr (Or.inr (Or.inl ⟨a, b, tt c⟩))))))))))
  · exact (Or.inr (Or.inr (Or.inr (Or.inr (Or.inr (Or.inr (Or.inr (Or.inr (Or.inr (Or.inr (Or.inl ⟨a, b, c, tt d⟩)))))))))))
  · exact (Or.inr (Or.inr (Or.inr (Or.inr (Or.inr (Or.inr (Or.inr (Or.inr (Or.inr (Or.inr (Or.inr (Or.inl ⟨a, b, c, d, tt f⟩))))))))))))
  · exact (Or.inr (Or.inr (Or.inr (Or.inr (Or.inr (Or.inr (Or.inr (Or.inr (Or.inr (Or.inr (Or.inr (Or.inr (Or.inl ⟨a, b, c, e1, d, f, tt g⟩)))))))))))))
  · exact (Or.inr (Or.inr (Or.inr (Or.inr (Or.inr (Or.inr (Or.inr (Or.inr (Or.inr (Or.inr (Or.inr (Or.inr (Or.inr (Or.inl ⟨a, b, c, d, tt f⟩))))))))))))))
  · exact (Or.inr (Or.inr (Or.inr (Or.inr (Or.inr (Or.inr (Or.inr (Or.inr (Or.inr (Or.inr (Or.inr (Or.inr (Or.inr (Or.inr (Or.inl ⟨a, m, b, c, d, f, g, tt i⟩)))))))))))))))
  · exact (Or.inr (Or.inr (Or.inr (Or.inr (Or.inr (Or.inr (Or.inr (Or.inr (Or.inr (Or.inr (Or.inr (Or.inr (Or.inr (Or.inr (Or.inr ⟨a, b, tt c⟩)))))))))))))))
theorem VK.kx {X Y : St} {k : Int32} (h : VK X k) (hK : KX X Y) : VK Y k := ⟨h.1, by have := h.2; have := hK.1; omega⟩
theorem RULE.jr {X Y : St} {PT : Nat → Ty} {s e o : Nat} {S : Nat → Prop} (h : RULE X PT s e o) (hT : KT X) (hJ : JR X Y S) (ho : ¬ S o) : RULE Y PT s e o := by
  obtain ⟨hv, op, n, hoa, hn, h⟩ := h
  have hK := hJ.2.2.1
  have r26 : Y.1 26 n = X.1 26 n := hJ.1.1 26 n (show (5200 : Nat) ∉ [9, 10, 13, 15, 28, 30, 800, 1000, 1200, 1400, 1600, 1800, 2000, 6200, 6400, 8600, 10400, 10600, 10800, 11000, 11200, 11400, 11600, 11800] from by decide)
  have r27 : Y.1 27 n = X.1 27 n := hJ.1.1 27 n (show (5400 : Nat) ∉ [9, 10, 13, 15, 28, 30, 800, 1000, 1200, 1400, 1600, 1800, 2000, 6200, 6400, 8600, 10400, 10600, 10800, 11000, 11200, 11400, 11600, 11800] from by decide)
  have r46 : Y.1 46 n = X.1 46 n := hJ.1.1 46 n (show (9200 : Nat) ∉ [9, 10, 13, 15, 28, 30, 800, 1000, 1200, 1400, 1600, 1800, 2000, 6200, 6400, 8600, 10400, 10600, 10800, 11000, 11200, 11400, 11600, 11800] from by decide)
  have r47 : Y.1 47 n = X.1 47 n := hJ.1.1 47 n (show (9400 : Nat) ∉ [9, 10, 13, 15, 28, 30, 800, 1000, 1200, 1400, 1600, 1800, 2000, 6200, 6400, 8600, 10400, 10600, 10800, 11000, 11200, 11400, 11600, 11800] from by decide)
  have r40 : Y.1 40 o = X.1 40 o := hJ.1.1 40 o (show (8000 : Nat) ∉ [9, 10, 13, 15, 28, 30, 800, 1000, 1200, 1400, 1600, 1800, 2000, 6200, 6400, 8600, 10400, 10600, 10800, 11000, 11200, 11400, 11600, 11800] from by decide)
  have r41 : Y.1 41 o = X.1 41 o := hJ.1.1 41 o (show (8200 : Nat) ∉ [9, 10, 13, 15, 28, 30, 800, 1000, 1200, 1400, 1600, 1800, 2000, 6200, 6400, 8600, 10400, 10600, 10800, 11000, 11200, 11400, 11600, 11800] from by decide)
  have r15 : ∀ i, Y.1 15 i = X.1 15 i := fun i => hJ.1.1 15 i (show (3000 : Nat) ∉ [9, 10, 13, 15, 28, 30, 800, 1000, 1200, 1400, 1600, 1800, 2000, 6200, 6400, 8600, 10400, 10600, 10800, 11000, 11200, 11400, 11600, 11800] from by decide)
  have r16 : ∀ i, Y.1 16 i = X.1 16 i := fun i => hJ.1.1 16 i (show (3200 : Nat) ∉ [9, 10, 13, 15, 28, 30, 800, 1000, 1200, 1400, 1600, 1800, 2000, 6200, 6400, 8600, 10400, 10600, 10800, 11000, 11200, 11400, 11600, 11800] from by decide)
  have r17 : ∀ i, Y.1 17 i = X.1 17 i := fun i => hJ.1.1 17 i (show (3400 : Nat) ∉ [9, 10, 13, 15, 28, 30, 800, 1000, 1200, 1400, 1600, 1800, 2000, 6200, 6400, 8600, 10400, 10600, 10800, 11000, 11200, 11400, 11600, 11800] from by decide)
  have r19 : ∀ i, Y.1 19 i = X.1 19 i := fun i => hJ.1.1 19 i (show (3800 : Nat) ∉ [9, 10, 13, 15, 28, 30, 800, 1000, 1200, 1400, 1600, 1800, 2000, 6200, 6400, 8600, 10400, 10600, 10800, 11000, 11200, 11400, 11600, 11800] from by decide)
  have r18 : Y.1 0 18 = X.1 0 18 := hJ.1.1 0 18 (show (18 : Nat) ∉ [9, 10, 13, 15, 28, 30, 800, 1000, 1200, 1400, 1600, 1800, 2000, 6200, 6400, 8600, 10400, 10600, 10800, 11000, 11200, 11400, 11600, 11800] from by decide)
  refine ⟨⟨fun j hj => (hv.1 j hj).kx hK, fun j hj => (hv.2.1 j hj).kx hK, hv.2.2⟩, op, n, ⟨by rw [r40]; exact hoa.1, by rw [r41]; exact hoa.2⟩, hn, ?_⟩
  rw [r26, r27, r46, r47]
  have tv : ∀ i, i < (PT o).1 → VK X (tp (PT o) i) := fun i hi => hv.1 _ (by omega)
  rcases h with ⟨a, b⟩ | ⟨k, a, b, c⟩ | ⟨a, b, k, c, d, f⟩ | ⟨a, b, v, c, d, f, g⟩ | ⟨a, b, c, d, q, f, g⟩ | ⟨a, q, b, c⟩ | ⟨a, b⟩ | ⟨a, m, r, e1, b, c, d, f, g, i⟩ | ⟨a, b, c, r, d, f⟩ | ⟨a, b, c⟩ | ⟨a, b, c, d⟩ | ⟨a, b, c, d, f⟩ | ⟨a, b, c, e1, d, f, g⟩ | ⟨a, b, c, d, f⟩ | ⟨a, m, b, c, d, f, g, i⟩ | ⟨a, b, c⟩
  · exact (Or.inl ⟨a, b⟩)
  · refine (Or.inr (Or.inl ⟨k, ?_, b.kx hK, c⟩))
    rcases a with a | a | ⟨a1, v, a2, a3, a4⟩ | ⟨a1, p, a2, a3, a0, a4, a5, a6⟩
    · exact Or.inl a
    · exact Or.inr (Or.inl a)
    · exact Or.inr (Or.inr (Or.inl ⟨a1, v, by rw [r26]; exact a2, a3, a4⟩))
    · have a45 := a4.2.2.2
      have pk : ∀ i, pkv Y p i = pkv X p i := fun i => by
        unfold pkv
        rw [r19, r16]
      have ok1 : okv Y p = okv X p := by
        unfold okv
        rw [r19, r17]
      refine Or.inr (Or.inr (Or.inr ⟨a1, p, by rw [r26]; exact a2, by rw [r18]; exact a3, by rw [r15]; exact a0, by rw [r15]; exact a4.kx hK, fun i hi => ?_, ?_⟩))
      · rw [r15] at hi
        rw [cmpK_kx hT hK a4.1 a4.2.1 (by have := ixc a0; omega), pk]
        exact a5 i hi
      · rw [r15, ok1, cmpK_kx hT hK a4.1 a4.2.1 (by have := ixc a0; omega)]
        exact a6
  · exact (Or.inr (Or.inr (Or.inl ⟨a, b, k, c.jr hT hJ ho (tv 0 b) d, d.kx hK, f⟩)))
  · exact (Or.inr (Or.inr (Or.inr (Or.inl ⟨a, b, v, c, d, f, g⟩))))
  · exact (Or.inr (Or.inr (Or.inr (Or.inr (Or.inl ⟨a, b, c, d, q, f, g⟩)))))
  · exact (Or.inr (Or.inr (Or.inr (Or.inr (Or.inr (Or.inl ⟨a, q, b, c⟩))))))
  · exact (Or.inr (Or.inr (Or.inr (Or.inr (Or.inr (Or.inr (Or.inl ⟨a, b⟩)))))))
  · exact (Or.inr (Or.inr (Or.inr (Or.inr (Or.inr (Or.inr (Or.inr (Or.inl ⟨a, m, r, e1, b, c, d, f, g.kx hT hK, i⟩))))))))
  · exact (Or.inr (Or.inr (Or.inr (Or.inr (Or.inr (Or.inr (Or.inr (Or.inr (Or.inl ⟨a, b, c, r, d.kx hT hK, f⟩)))))))))
  · refine (Or.inr (Or.inr (Or.inr (Or.inr (Or.inr (Or.inr (Or.inr (Or.inr (Or.inr (Or.inl ⟨?_, b, c⟩))))))))))
    rcases a with ⟨a1, e1, a2⟩ | a | a
    · exact Or.inl ⟨a1, e1, a2.kx hT hK⟩
    · exact Or.inr (Or.inl a)
    · exact Or.inr (Or.inr a)
  · exact (Or.inr (Or.inr (Or.inr (Or.inr (Or.inr (Or.inr (Or.inr (Or.inr (Or.inr (Or.inr (Or.inl ⟨a, b, c, d⟩)))))))))))
  · exact (Or.inr (Or.inr (Or.inr (Or.inr (Or.inr (Or.inr (Or.inr (Or.inr (Or.inr (Or.inr (Or.inr (Or.inl ⟨a, b, c, d, f⟩))))))))))))
  · exact (Or.inr (Or.inr (Or.inr (Or.inr (Or.inr (Or.inr (Or.inr (Or.inr (Or.inr (Or.inr (Or.inr (Or.inr (Or.inl ⟨a, b, c, e1, d.kx hT hK, f.kx hK, g⟩)))))))))))))
  · exact (Or.inr (Or.inr (Or.inr (Or.inr (Or.inr (Or.inr (Or.inr (Or.inr (Or.inr (Or.inr (Or.inr (Or.inr (Or.inr (Or.inl ⟨a, b, c, d.kx hT hK, f⟩))))))))))))))
  · have f5 := f.2.2.2
    refine (Or.inr (Or.inr (Or.inr (Or.inr (Or.inr (Or.inr (Or.inr (Or.inr (Or.inr (Or.inr (Or.inr (Or.inr (Or.inr (Or.inr (Or.inl ⟨a, m, b, c, d, f.kx hK, fun i2 hi2 => ?_, ?_⟩)))))))))))))))
    · rw [cmpK_kx hT hK f.1 f.2.1 (by omega)]
      exact g i2 hi2
    · rw [cmpK_kx hT hK f.1 f.2.1 (by omega)]
      exact i
  · exact (Or.inr (Or.inr (Or.inr (Or.inr (Or.inr (Or.inr (Or.inr (Or.inr (Or.inr (Or.inr (Or.inr (Or.inr (Or.inr (Or.inr (Or.inr ⟨a, b, c⟩)))))))))))))))
/-! the judge's loop over the orders of a part -/
/-- so many orders judged, one after another -/
def IT : Nat → Int32 → Int32 → St → St → Prop
  | 0, o, o1, X, Y => o = o1 ∧ X = Y
  | c + 1, o, o1, X, Y => (X.1 0 9).toInt = 0 ∧ ∃ r W, f_judgeOne o (X.1 41 (ix o)) X = some (r, W) ∧ IT c (o + Int32.ofInt 1) o1 W Y
theorem IT.tr {c d : Nat} {o o1 o2 : Int32} {X Y Z : St} (h : IT c o o1 X Y) (g : IT d o1 o2 Y Z) : IT (c + d) o o2 X Z := by
  induction c generalizing o X with
  | zero =>
    obtain ⟨rfl, rfl⟩ := h
    rw [Nat.zero_add]
    exact g
  | succ c ih =>
    obtain ⟨w0, r, W, e, h⟩ := h
    rw [show c + 1 + d = (c + d) + 1 by omega]
    exact ⟨w0, r, W, e, ih h⟩
theorem IT.det {c : Nat} {o o1 o2 : Int32} {X Y Z : St} (h : IT c o o1 X Y) (g : IT c o o2 X Z) : o1 = o2 ∧ Y = Z := by
  induction c generalizing o X with
  | zero =>
    obtain ⟨rfl, rfl⟩ := h
    exact g
  | succ c ih =>
    obtain ⟨w0, r, W, e, h⟩ := h
    obtain ⟨-, r2, W2, e2, g⟩ := g
    rw [e] at e2
    injection e2 with e2
    injection e2 with _ e2
    subst e2
    exact ih h g
theorem IT.len {c : Nat} {o o1 : Int32} {X Y : St} (h : IT c o o1 X Y) (h0 : 0 ≤ o.toInt) (hb : o.toInt + c ≤ 100000) : o1.toInt = o.toInt + c := by
  induction c generalizing o X with
  | zero =>
    obtain ⟨rfl, rfl⟩ := h
    show _ = _ + ((0 : Nat) : Int)
    omega
  | succ c ih =>
    obtain ⟨w0, r, W, e, h⟩ := h
    have z : (Int32.ofInt 1).toInt = 1 := by decide
    have h1 : (o + Int32.ofInt 1).toInt = o.toInt + 1 := by rw [ti_add (by rw [z]; omega) (by rw [z]; omega), z]
    have := ih h (by omega) (by omega)
    omega
theorem IT.split {c k : Nat} {o o1 o2 : Int32} {X Y Z : St} (h : IT (c + k) o o1 X Y) (g : IT c o o2 X Z) : IT k o2 o1 Z Y := by
  induction c generalizing o X with
  | zero =>
    obtain ⟨rfl, rfl⟩ := g
    rw [Nat.zero_add] at h
    exact h
  | succ c ih =>
    rw [show c + 1 + k = (c + k) + 1 by omega] at h
    obtain ⟨w0, r, W, e, h⟩ := h
    obtain ⟨-, r2, W2, e2, g⟩ := g
    rw [e] at e2
    injection e2 with e2
    injection e2 with _ e2
    subst e2
    exact ih h g
def JGo (r37 : Int32 → St → Option (Int32 × St)) (a1 a2 : Int32) (c : Nat) (o o1 : Int32) (X Y : St) : Prop := (∀ k, f_judges_175 r37 (k + c) a1 a2 o X = f_judges_175 r37 k a1 a2 o1 Y) ∧ IT c o o1 X Y
theorem JGo.tr {r37 : Int32 → St → Option (Int32 × St)} {a1 a2 : Int32} {c d : Nat} {o o1 o2 : Int32} {X Y Z : St} (h : JGo r37 a1 a2 c o o1 X Y) (g : JGo r37 a1 a2 d o1 o2 Y Z) : JGo r37 a1 a2 (c + d) o o2 X Z := by
  refine ⟨fun k => ?_, h.2.tr g.2⟩
  rw [show k + (c + d) = (k + d) + c by omega, h.1, g.1]
theorem JGo.rf {r37 : Int32 → St → Option (Int32 × St)} {a1 a2 o : Int32} {X : St} : JGo r37 a1 a2 0 o o X X := ⟨fun _ => rfl, rfl, rfl⟩
/-- the same place is reached in the same state -/
theorem JGo.same {r37 : Int32 → St → Option (Int32 × St)} {a1 a2 : Int32} {c d : Nat} {o o1 o2 : Int32} {X Y Z : St} (h : JGo r37 a1 a2 c o o1 X Y) (g : JGo r37 a1 a2 d o o2 X Z) (h0 : 0 ≤ o.toInt ∧ o.toInt ≤ 30000) (hc : c ≤ 30000) (hd : d ≤ 30000) (he : o1.toInt = o2.toInt) : Y = Z := by
  have l1 := h.2.len h0.1 (by omega)
  have l2 := g.2.len h0.1 (by omega)
  have : c = d := by omega
  subst this
  exact (h.2.det g.2).2
/-- a shorter way meets no fault where the longer ends in none -/
theorem JGo.well {r37 : Int32 → St → Option (Int32 × St)} {a1 a2 : Int32} {c d : Nat} {o o1 o2 : Int32} {X Y Z : St} (h : JGo r37 a1 a2 c o o1 X Y) (g : JGo r37 a1 a2 d o o2 X Z) (hd : d ≤ c) (hw : (Y.1 0 9).toInt = 0) : (Z.1 0 9).toInt = 0 := by
  obtain ⟨k, rfl⟩ : ∃ k, c = d + k := ⟨c - d, by omega⟩
  have q := h.2.split g.2
  rcases k with _ | k
  · obtain ⟨-, rfl⟩ := q
    exact hw
  · exact q.1
theorem jstep {r37 : Int32 → St → Option (Int32 × St)} {a1 a2 o : Int32} {X : St} {s : Nat} {Q : St → Prop} (ho : o.toInt = (s : Int)) (hs : s < 24000) (he : (s : Int) < a2.toInt) (hw : (X.1 0 9).toInt = 0) (h : ok (f_judgeOne o (X.1 41 s) X) (fun _ Y => Q Y)) : ∃ o1 Y, o1.toInt = (s : Int) + 1 ∧ JGo r37 a1 a2 1 o o1 X Y ∧ Q Y := by
  obtain ⟨r, Y, e, q⟩ := h
  have eo : ix o = s := by
    have := ixc (z := o) (by omega)
    omega
  have h1 : (o + Int32.ofInt 1).toInt = (s : Int) + 1 := by
    have z : (Int32.ofInt 1).toInt = 1 := by decide
    rw [ti_add (by rw [z]; omega) (by rw [z]; omega), z, ho]
  refine ⟨o + Int32.ofInt 1, Y, h1, ⟨fun k => ?_, hw, r, Y, by rw [eo]; exact e, rfl, rfl⟩, q⟩
  obtain ⟨b, W, Wt, eb, -, e1, -, hb⟩ := t_f_isWell X X 0 0 ⟨fun _ _ _ => rfl, fun _ _ _ => rfl⟩
  have hb1 : ¬ b.toInt = 0 := by omega
  subst e1
  have hc : inR o 24000 := ⟨by omega, show o.toInt < ((24000 : Nat) : Int) by omega⟩
  have hn : ¬ a2.toInt ≤ o.toInt := by omega
  have step : f_judges_175_s r37 (f_judges_175 r37 k) a1 a2 o X = f_judges_175 r37 k a1 a2 (o + Int32.ofInt 1) Y := by
    unfold f_judges_175_s
    rw [if_neg hn, eb]
    show (if b.toInt = 0 then f_judges_204 r37 a1 X else chk (inR o 24000) (bnd (f_judgeOne o (X.1 41 (ix o)) X) (fun _ X31 => f_judges_175 r37 k a1 a2 (o + Int32.ofInt 1) X31))) = _
    rw [if_neg hb1, eo, e]
    show (if inR o 24000 then f_judges_175 r37 k a1 a2 (o + Int32.ofInt 1) Y else none) = _
    rw [if_pos hc]
  unfold f_judges_175 at step ⊢
  rw [lp_succ]
  exact step
theorem sumN_mem {g : Nat → Nat} {n i : Nat} (h : i < n) : g i ≤ sumN g n := by
  have h1 := sumN_le (g := g) (n := i + 1) (m := n) h
  have h2 : sumN g (i + 1) = sumN g i + g i := rfl
  omega
theorem cmp_sz {X : St} (hT : KT X) {k : Int32} (hk : VK X k) {i : Nat} (hi : (i : Int) < (X.1 5 (ix k)).toInt) : ksz X (ix (cmpK X k i)) + 1 ≤ ksz X (ix k) := by
  have e := ixc hk.1
  have hk2 := hk.2
  have h5 := (hT.2.2 (ix k) (by omega)).2.1
  have e5 := ixc h5
  have h1 := ksz_eq hT (k := ix k) (by omega)
  have h2 := sumN_mem (g := fun i => ksz X (ix (X.1 9 (ix (X.1 6 (ix k)) + i)))) (n := ix (X.1 5 (ix k))) (i := i) (by omega)
  have h3 : ksz X (ix (cmpK X k i)) = ksz X (ix (X.1 9 (ix (X.1 6 (ix k)) + i))) := rfl
  omega
