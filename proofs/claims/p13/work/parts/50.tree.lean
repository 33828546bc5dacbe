/-! trees of nodes: node n has all nodes from lo to hi below it; sc names are known there -/
def CHR (R : Nat → Nat → Nat → Int → Prop) (X : St) (e n l r : Nat) (s : Int) : Prop := 0 ≤ (X.1 e n).toInt ∧ R (ix (X.1 e n)) l r s
def LSB (R : Nat → Nat → Nat → Int → Prop) (X : St) (n l r : Nat) (s : Int) (it cu : Nat → Nat) : Prop := cu 0 = l ∧ cu (ix (X.1 27 n)) = r ∧ 0 ≤ (X.1 27 n).toInt ∧ ((X.1 27 n).toInt = 0 → (X.1 24 n).toInt < 0) ∧ (0 < (X.1 27 n).toInt → 0 ≤ (X.1 24 n).toInt ∧ ix (X.1 24 n) = it 0) ∧ ∀ i, i < ix (X.1 27 n) → R (it i) (cu i) (cu (i + 1)) s ∧ (i + 1 < ix (X.1 27 n) → 0 ≤ (X.1 28 (it i)).toInt ∧ ix (X.1 28 (it i)) = it (i + 1)) ∧ (i + 1 = ix (X.1 27 n) → (X.1 28 (it i)).toInt < 0)
def LSR (R : Nat → Nat → Nat → Int → Prop) (X : St) (n l r : Nat) (s : Int) : Prop := ∃ it cu : Nat → Nat, LSB R X n l r s it cu
def WB (R : Nat → Nat → Nat → Int → Prop) (X : St) (n lo hi : Nat) (sc : Int) : Prop := lo ≤ n ∧ n < hi ∧ (
  (n = lo ∧ hi = n + 1 ∧ ((X.1 20 n).toInt = 0 ∨ (X.1 20 n).toInt = 1 ∨ ((X.1 20 n).toInt = 2 ∧ 0 ≤ (X.1 26 n).toInt ∧ (X.1 26 n).toInt < sc) ∨ (X.1 20 n).toInt = 3)) ∨
  (n = lo ∧ ((X.1 20 n).toInt = 6 ∨ (X.1 20 n).toInt = 7 ∨ (X.1 20 n).toInt = 8 ∨ (X.1 20 n).toInt = 12 ∨ (X.1 20 n).toInt = 13) ∧ CHR R X 23 n (n + 1) hi sc) ∨
  (((X.1 20 n).toInt = 14 ∨ (X.1 20 n).toInt = 15) ∧ CHR R X 23 n lo n sc ∧ CHR R X 24 n (n + 1) hi sc) ∨
  ((X.1 20 n).toInt = 5 ∧ n = lo ∧ ∃ m, CHR R X 23 n (n + 1) m sc ∧ CHR R X 24 n m hi sc) ∨
  ((X.1 20 n).toInt = 10 ∧ CHR R X 23 n lo n sc ∧ ∃ m, CHR R X 24 n (n + 1) m sc ∧ (((X.1 25 n).toInt < 0 ∧ m = hi) ∨ CHR R X 25 n m hi sc)) ∨
  ((X.1 20 n).toInt = 16 ∧ n = lo ∧ ∃ m1 m2, CHR R X 23 n (n + 1) m1 sc ∧ CHR R X 24 n m1 m2 sc ∧ CHR R X 25 n m2 hi sc) ∨
  ((X.1 20 n).toInt = 17 ∧ n = lo ∧ (X.1 26 n).toInt = sc ∧ 0 ≤ sc ∧ sc ≤ 43 ∧ ∃ m, CHR R X 23 n (n + 1) m sc ∧ CHR R X 24 n m hi (sc + 1)) ∨
  ((X.1 20 n).toInt = 4 ∧ n = lo ∧ (X.1 27 n).toInt ≤ 20 ∧ LSR R X n (n + 1) hi sc) ∨
  ((X.1 20 n).toInt = 9 ∧ n = lo ∧ 1 ≤ (X.1 27 n).toInt ∧ LSR R X n (n + 1) hi sc) ∨
  ((X.1 20 n).toInt = 11 ∧ (X.1 27 n).toInt ≤ 4 ∧ CHR R X 23 n lo n sc ∧ LSR R X n (n + 1) hi sc))
/-- the least such -/
def WX (X : St) (n lo hi : Nat) (sc : Int) : Prop := ∀ R : Nat → Nat → Nat → Int → Prop, (∀ n lo hi sc, WB R X n lo hi sc → R n lo hi sc) → R n lo hi sc
theorem CHR.mono {R R1 : Nat → Nat → Nat → Int → Prop} {X : St} {e n l r : Nat} {s : Int} (h : CHR R X e n l r s) (hR : ∀ n lo hi sc, R n lo hi sc → R1 n lo hi sc) : CHR R1 X e n l r s := ⟨h.1, hR _ _ _ _ h.2⟩
theorem LSR.mono {R R1 : Nat → Nat → Nat → Int → Prop} {X : St} {n l r : Nat} {s : Int} (h : LSR R X n l r s) (hR : ∀ n lo hi sc, R n lo hi sc → R1 n lo hi sc) : LSR R1 X n l r s := by
  obtain ⟨it, cu, a, b, c, d, e, f⟩ := h
  exact ⟨it, cu, a, b, c, d, e, fun i hi => ⟨hR _ _ _ _ (f i hi).1, (f i hi).2⟩⟩
theorem WB.mono {R R1 : Nat → Nat → Nat → Int → Prop} {X : St} {n lo hi : Nat} {sc : Int} (h : WB R X n lo hi sc) (hR : ∀ n lo hi sc, R n lo hi sc → R1 n lo hi sc) : WB R1 X n lo hi sc := by
  obtain ⟨h1, h2, h⟩ := h
  refine ⟨h1, h2, ?_⟩
  rcases h with h | ⟨a, b, c⟩ | ⟨a, b, c⟩ | ⟨a, b, m, c, d⟩ | ⟨a, b, m, c, d⟩ | ⟨a, b, m1, m2, c, d, e⟩ | ⟨a, b, c1, c2, c3, m, c, d⟩ | ⟨a, b, c, d⟩ | ⟨a, b, c, d⟩ | ⟨a, b, c, d⟩
  · exact Or.inl h
  · exact Or.inr (Or.inl ⟨a, b, c.mono hR⟩)
  · exact Or.inr (Or.inr (Or.inl ⟨a, b.mono hR, c.mono hR⟩))
  · exact Or.inr (Or.inr (Or.inr (Or.inl ⟨a, b, m, c.mono hR, d.mono hR⟩)))
  · refine Or.inr (Or.inr (Or.inr (Or.inr (Or.inl ⟨a, b.mono hR, m, c.mono hR, ?_⟩))))
    rcases d with d | d
    · exact Or.inl d
    · exact Or.inr (d.mono hR)
  · exact Or.inr (Or.inr (Or.inr (Or.inr (Or.inr (Or.inl ⟨a, b, m1, m2, c.mono hR, d.mono hR, e.mono hR⟩)))))
  · exact Or.inr (Or.inr (Or.inr (Or.inr (Or.inr (Or.inr (Or.inl ⟨a, b, c1, c2, c3, m, c.mono hR, d.mono hR⟩))))))
  · exact Or.inr (Or.inr (Or.inr (Or.inr (Or.inr (Or.inr (Or.inr (Or.inl ⟨a, b, c, d.mono hR⟩)))))))
  · exact Or.inr (Or.inr (Or.inr (Or.inr (Or.inr (Or.inr (Or.inr (Or.inr (Or.inl ⟨a, b, c, d.mono hR⟩))))))))
  · exact Or.inr (Or.inr (Or.inr (Or.inr (Or.inr (Or.inr (Or.inr (Or.inr (Or.inr ⟨a, b, c.mono hR, d.mono hR⟩))))))))
theorem WX.intro {X : St} {n lo hi : Nat} {sc : Int} (h : WB (WX X) X n lo hi sc) : WX X n lo hi sc := fun R hR => hR _ _ _ _ (h.mono (fun _ _ _ _ q => q R hR))
theorem WX.ind {X : St} {P : Nat → Nat → Nat → Int → Prop} (hP : ∀ n lo hi sc, WB (fun n lo hi sc => WX X n lo hi sc ∧ P n lo hi sc) X n lo hi sc → P n lo hi sc) {n lo hi : Nat} {sc : Int} (h : WX X n lo hi sc) : P n lo hi sc :=
  (h (fun n lo hi sc => WX X n lo hi sc ∧ P n lo hi sc) (fun n lo hi sc q => ⟨WX.intro (q.mono (fun _ _ _ _ p => p.1)), hP _ _ _ _ q⟩)).2
theorem WX.inv {X : St} {n lo hi : Nat} {sc : Int} (h : WX X n lo hi sc) : WB (WX X) X n lo hi sc := WX.ind (P := fun n lo hi sc => WB (WX X) X n lo hi sc) (fun _ _ _ _ q => q.mono (fun _ _ _ _ p => p.1)) h
theorem WX.bd {X : St} {n lo hi : Nat} {sc : Int} (h : WX X n lo hi sc) : lo ≤ n ∧ n < hi := ⟨h.inv.1, h.inv.2.1⟩
/-- what the tree of n is made of stays (n's own successor aside) -/
def NSx (X Y : St) (n lo hi : Nat) : Prop := ∀ i, lo ≤ i → i < hi → Y.1 20 i = X.1 20 i ∧ Y.1 23 i = X.1 23 i ∧ Y.1 24 i = X.1 24 i ∧ Y.1 25 i = X.1 25 i ∧ ((X.1 20 i).toInt = 3 ∨ Y.1 26 i = X.1 26 i) ∧ Y.1 27 i = X.1 27 i ∧ (i ≠ n → Y.1 28 i = X.1 28 i)
theorem NSx.sub {X Y : St} {n n1 lo hi l r : Nat} (h : NSx X Y n lo hi) (hl : lo ≤ l) (hr : r ≤ hi) (hn : n < l ∨ r ≤ n ∨ n = n1) : NSx X Y n1 l r := by
  intro i h1 h2
  obtain ⟨a, b, c, d, e, f, g⟩ := h i (by omega) (by omega)
  exact ⟨a, b, c, d, e, f, fun q => g (by omega)⟩
theorem cu_mono {R : Nat → Nat → Nat → Int → Prop} {it cu : Nat → Nat} {s : Int} {m : Nat} (hR : ∀ i, i < m → R (it i) (cu i) (cu (i + 1)) s) (hb : ∀ n l r s, R n l r s → l ≤ n ∧ n < r) : ∀ d i, i + d ≤ m → cu i ≤ cu (i + d)
  | 0, _, _ => Nat.le_refl _
  | d + 1, i, h => by
    have h1 := cu_mono hR hb d i (by omega)
    have h2 := hb _ _ _ _ (hR (i + d) (by omega))
    have e : i + (d + 1) = i + d + 1 := rfl
    rw [e]
    omega
theorem LSB.le {R : Nat → Nat → Nat → Int → Prop} {X : St} {n l r : Nat} {s : Int} {it cu : Nat → Nat} (h : LSB R X n l r s it cu) (hb : ∀ n l r s, R n l r s → l ≤ n ∧ n < r) (i : Nat) (hi : i < ix (X.1 27 n)) : l ≤ cu i ∧ cu i ≤ it i ∧ it i < cu (i + 1) ∧ cu (i + 1) ≤ r := by
  obtain ⟨a, b, c, d, e, f⟩ := h
  have h1 := cu_mono (fun i hi => (f i hi).1) hb i 0 (by omega)
  have h2 := cu_mono (fun i hi => (f i hi).1) hb (ix (X.1 27 n) - (i + 1)) (i + 1) (by omega)
  have h3 := hb _ _ _ _ (f i hi).1
  rw [Nat.zero_add] at h1
  rw [show i + 1 + (ix (X.1 27 n) - (i + 1)) = ix (X.1 27 n) by omega] at h2
  omega
theorem WX.fr {X Y : St} {n lo hi : Nat} {sc : Int} (h : WX X n lo hi sc) (hs : NSx X Y n lo hi) : WX Y n lo hi sc := by
  refine (WX.ind (P := fun n lo hi sc => NSx X Y n lo hi → WX Y n lo hi sc) ?_ h) hs
  clear h hs
  intro n lo hi sc h hs
  obtain ⟨h1, h2, h⟩ := h
  obtain ⟨e20, e23, e24, e25, e26, e27, -⟩ := hs n h1 h2
  have ch : ∀ (e l r : Nat) (s : Int), Y.1 e n = X.1 e n → lo ≤ l → r ≤ hi → (n < l ∨ r ≤ n) → CHR (fun n lo hi sc => WX X n lo hi sc ∧ (NSx X Y n lo hi → WX Y n lo hi sc)) X e n l r s → CHR (WX Y) Y e n l r s := by
    intro e l r s he hl hr hn hc
    refine ⟨by rw [he]; exact hc.1, ?_⟩
    rw [he]
    exact hc.2.2 (hs.sub hl hr (by omega))
  have hbd : ∀ n l r s, (WX X n l r s ∧ (NSx X Y n l r → WX Y n l r s)) → l ≤ n ∧ n < r := fun n l r s q => q.1.bd
  have ls : LSR (fun n lo hi sc => WX X n lo hi sc ∧ (NSx X Y n lo hi → WX Y n lo hi sc)) X n (n + 1) hi sc → LSR (WX Y) Y n (n + 1) hi sc := by
    rintro ⟨it, cu, hl⟩
    have hle := hl.le hbd
    obtain ⟨a, b, c, d, e, f⟩ := hl
    refine ⟨it, cu, a, by rw [e27]; exact b, by rw [e27]; exact c, by rw [e27, e24]; exact d, by rw [e27, e24]; exact e, ?_⟩
    rw [e27]
    intro i hi1
    have hb := hle i hi1
    obtain ⟨p, q, r⟩ := f i hi1
    have e28 : Y.1 28 (it i) = X.1 28 (it i) := (hs (it i) (by omega) (by omega)).2.2.2.2.2.2 (by omega)
    rw [e28]
    exact ⟨p.2 (hs.sub (by omega) (by omega) (by omega)), q, r⟩
  refine WX.intro ⟨h1, h2, ?_⟩
  rw [e20, e25, e27]
  rcases h with ⟨a, b, c⟩ | ⟨a, b, c⟩ | ⟨a, b, c⟩ | ⟨a, b, m, c, d⟩ | ⟨a, b, m, c, d⟩ | ⟨a, b, m1, m2, c, d, e⟩ | ⟨a, b, c1, c2, c3, m, c, d⟩ | ⟨a, b, c, d⟩ | ⟨a, b, c, d⟩ | ⟨a, b, c, d⟩
  · refine Or.inl ⟨a, b, ?_⟩
    rcases c with c | c | c | c
    · exact Or.inl c
    · exact Or.inr (Or.inl c)
    · rcases e26 with e26 | e26
      · omega
      · rw [e26]
        exact Or.inr (Or.inr (Or.inl c))
    · exact Or.inr (Or.inr (Or.inr c))
  · exact Or.inr (Or.inl ⟨a, b, ch 23 _ _ _ e23 (by omega) (by omega) (by omega) c⟩)
  · exact Or.inr (Or.inr (Or.inl ⟨a, ch 23 _ _ _ e23 (by omega) (by omega) (by omega) b, ch 24 _ _ _ e24 (by omega) (by omega) (by omega) c⟩))
  · have b1 := c.2.1.bd
    have b2 := d.2.1.bd
    exact Or.inr (Or.inr (Or.inr (Or.inl ⟨a, b, m, ch 23 _ _ _ e23 (by omega) (by omega) (by omega) c, ch 24 _ _ _ e24 (by omega) (by omega) (by omega) d⟩)))
  · have b1 := c.2.1.bd
    refine Or.inr (Or.inr (Or.inr (Or.inr (Or.inl ⟨a, ch 23 _ _ _ e23 (by omega) (by omega) (by omega) b, m, ?_, ?_⟩))))
    · rcases d with d | d
      · exact ch 24 _ _ _ e24 (by omega) (by omega) (by omega) c
      · have b2 := d.2.1.bd
        exact ch 24 _ _ _ e24 (by omega) (by omega) (by omega) c
    · rcases d with d | d
      · exact Or.inl d
      · exact Or.inr (ch 25 _ _ _ e25 (by omega) (by omega) (by omega) d)
  · have b1 := c.2.1.bd
    have b2 := d.2.1.bd
    have b3 := e.2.1.bd
    exact Or.inr (Or.inr (Or.inr (Or.inr (Or.inr (Or.inl ⟨a, b, m1, m2, ch 23 _ _ _ e23 (by omega) (by omega) (by omega) c, ch 24 _ _ _ e24 (by omega) (by omega) (by omega) d, ch 25 _ _ _ e25 (by omega) (by omega) (by omega) e⟩)))))
  · have b1 := c.2.1.bd
    have b2 := d.2.1.bd
    have e26 : Y.1 26 n = X.1 26 n := by rcases e26 with q | q; omega; exact q
    refine Or.inr (Or.inr (Or.inr (Or.inr (Or.inr (Or.inr (Or.inl ⟨a, b, by rw [e26]; exact c1, c2, c3, m, ch 23 _ _ _ e23 (by omega) (by omega) (by omega) c, ch 24 _ _ _ e24 (by omega) (by omega) (by omega) d⟩))))))
  · exact Or.inr (Or.inr (Or.inr (Or.inr (Or.inr (Or.inr (Or.inr (Or.inl ⟨a, b, c, ls d⟩)))))))
  · exact Or.inr (Or.inr (Or.inr (Or.inr (Or.inr (Or.inr (Or.inr (Or.inr (Or.inl ⟨a, b, c, ls d⟩))))))))
  · exact Or.inr (Or.inr (Or.inr (Or.inr (Or.inr (Or.inr (Or.inr (Or.inr (Or.inr ⟨a, b, ch 23 _ _ _ e23 (by omega) (by omega) (by omega) c, ls d⟩))))))))
/-! the reader's frames -/
theorem lev_pure (y : Int64) : ∃ r, ∀ X, f_levelOf y X = some (r, X) := by
  by_cases c1 : (lg_cmp y (42 : Int64)).toInt = 0
  · exact ⟨3, fun X => by simp only [f_levelOf, letV, c1, if_true, if_false]⟩
  by_cases c2 : (lg_cmp y (47 : Int64)).toInt = 0
  · exact ⟨3, fun X => by simp only [f_levelOf, letV, c1, c2, if_true, if_false]⟩
  by_cases c3 : (lg_cmp y (37 : Int64)).toInt = 0
  · exact ⟨3, fun X => by simp only [f_levelOf, letV, c1, c2, c3, if_true, if_false]⟩
  by_cases c4 : (lg_cmp y (43 : Int64)).toInt = 0
  · exact ⟨2, fun X => by simp only [f_levelOf, letV, c1, c2, c3, c4, if_true, if_false]⟩
  by_cases c5 : (lg_cmp y (45 : Int64)).toInt = 0
  · exact ⟨2, fun X => by simp only [f_levelOf, letV, c1, c2, c3, c4, c5, if_true, if_false]⟩
  by_cases c6 : (lg_cmp y (60 : Int64)).toInt = 0
  · exact ⟨1, fun X => by simp only [f_levelOf, letV, c1, c2, c3, c4, c5, c6, if_true, if_false]⟩
  by_cases c7 : (lg_cmp y (61 : Int64)).toInt = 0
  · exact ⟨1, fun X => by simp only [f_levelOf, letV, c1, c2, c3, c4, c5, c6, c7, if_true, if_false]⟩
  · exact ⟨0, fun X => by simp only [f_levelOf, letV, c1, c2, c3, c4, c5, c6, c7, if_true, if_false]⟩
noncomputable def levF (y : Int64) : Int32 := Classical.choose (lev_pure y)
theorem levF_eq (y : Int64) (X : St) : f_levelOf y X = some (levF y, X) := Classical.choose_spec (lev_pure y) X
def WH (X : St) (n : Int32) (l r : Nat) (s : Int) : Prop := 0 ≤ n.toInt ∧ WX X (ix n) l r s
def LPR (X : St) (n l r : Nat) (s : Int) (last : Int32) : Prop := ∃ it cu : Nat → Nat, LSB (WX X) X n l r s it cu ∧ ((X.1 27 n).toInt = 0 → last.toInt = -1) ∧ (0 < (X.1 27 n).toInt → 0 ≤ last.toInt ∧ ix last = it (ix (X.1 27 n) - 1))
/-- frame j, opened where nodes were lo, names s0, nests n0, of level l0, above a frame t0; what comes in it begins at node cu -/
def FR (X : St) (j lo : Nat) (s0 n0 l0 t0 : Int) (cu : Nat) (sc nc lv mm : Int) : Prop :=
  ((X.1 35 j).toInt = 0 ∧ j = 0 ∧ cu = lo ∧ sc = s0 ∧ nc = n0 ∧ lv = 0) ∨
  (1 ≤ j ∧ 0 ≤ (X.1 36 j).toInt ∧ lo ≤ ix (X.1 36 j) ∧ ix (X.1 36 j) < cu ∧ ((j : Int) ≤ 4 * nc + lv ∧ (X.1 28 (ix (X.1 36 j))).toInt < 0) ∧ (
   (nc = n0 + 1 ∧ lv = 0 ∧ ¬ t0 = 15 ∧ ¬ t0 = 16 ∧ ix (X.1 36 j) = lo ∧ (
     ((X.1 35 j).toInt = 1 ∧ (X.1 20 (ix (X.1 36 j))).toInt = 17 ∧ cu = lo + 1 ∧ sc = s0) ∨
     ((X.1 35 j).toInt = 2 ∧ (X.1 20 (ix (X.1 36 j))).toInt = 17 ∧ (X.1 26 (ix (X.1 36 j))).toInt = s0 ∧ 0 ≤ s0 ∧ s0 ≤ 43 ∧ CHR (WX X) X 23 (ix (X.1 36 j)) (lo + 1) cu s0 ∧ sc = s0 + 1) ∨
     ((X.1 35 j).toInt = 3 ∧ (X.1 20 (ix (X.1 36 j))).toInt = 16 ∧ cu = lo + 1 ∧ sc = s0) ∨
     ((X.1 35 j).toInt = 4 ∧ (X.1 20 (ix (X.1 36 j))).toInt = 16 ∧ CHR (WX X) X 23 (ix (X.1 36 j)) (lo + 1) cu s0 ∧ sc = s0) ∨
     ((X.1 35 j).toInt = 5 ∧ (X.1 20 (ix (X.1 36 j))).toInt = 16 ∧ (∃ m, CHR (WX X) X 23 (ix (X.1 36 j)) (lo + 1) m s0 ∧ CHR (WX X) X 24 (ix (X.1 36 j)) m cu s0) ∧ sc = s0))) ∨
   (nc = n0 + 1 ∧ lv = 0 ∧ sc = s0 ∧ (
     ((X.1 35 j).toInt = 6 ∧ (X.1 20 (ix (X.1 36 j))).toInt = 8 ∧ ix (X.1 36 j) = lo ∧ cu = lo + 1) ∨
     ((X.1 35 j).toInt = 7 ∧ (X.1 20 (ix (X.1 36 j))).toInt = 9 ∧ ix (X.1 36 j) = lo ∧ LPR X (ix (X.1 36 j)) (lo + 1) cu s0 (X.1 37 j)) ∨
     ((X.1 35 j).toInt = 8 ∧ (X.1 20 (ix (X.1 36 j))).toInt = 4 ∧ ix (X.1 36 j) = lo ∧ (X.1 27 (ix (X.1 36 j))).toInt ≤ 19 + mm ∧ LPR X (ix (X.1 36 j)) (lo + 1) cu s0 (X.1 37 j)) ∨
     ((X.1 35 j).toInt = 9 ∧ (X.1 20 (ix (X.1 36 j))).toInt = 5 ∧ ix (X.1 36 j) = lo ∧ cu = lo + 1) ∨
     ((X.1 35 j).toInt = 10 ∧ (X.1 20 (ix (X.1 36 j))).toInt = 5 ∧ ix (X.1 36 j) = lo ∧ CHR (WX X) X 23 (ix (X.1 36 j)) (lo + 1) cu s0) ∨
     ((X.1 35 j).toInt = 11 ∧ ((X.1 20 (ix (X.1 36 j))).toInt = 6 ∨ (X.1 20 (ix (X.1 36 j))).toInt = 7) ∧ ix (X.1 36 j) = lo ∧ cu = lo + 1) ∨
     ((X.1 35 j).toInt = 12 ∧ (X.1 20 (ix (X.1 36 j))).toInt = 11 ∧ (X.1 27 (ix (X.1 36 j))).toInt ≤ 3 + mm ∧ CHR (WX X) X 23 (ix (X.1 36 j)) lo (ix (X.1 36 j)) s0 ∧ LPR X (ix (X.1 36 j)) (ix (X.1 36 j) + 1) cu s0 (X.1 37 j)) ∨
     ((X.1 35 j).toInt = 13 ∧ (X.1 20 (ix (X.1 36 j))).toInt = 10 ∧ (X.1 25 (ix (X.1 36 j))).toInt < 0 ∧ CHR (WX X) X 23 (ix (X.1 36 j)) lo (ix (X.1 36 j)) s0 ∧ cu = ix (X.1 36 j) + 1) ∨
     ((X.1 35 j).toInt = 14 ∧ (X.1 20 (ix (X.1 36 j))).toInt = 10 ∧ CHR (WX X) X 23 (ix (X.1 36 j)) lo (ix (X.1 36 j)) s0 ∧ CHR (WX X) X 24 (ix (X.1 36 j)) (ix (X.1 36 j) + 1) cu s0) ∨
     ((X.1 35 j).toInt = 15 ∧ ((X.1 20 (ix (X.1 36 j))).toInt = 12 ∨ (X.1 20 (ix (X.1 36 j))).toInt = 13) ∧ ix (X.1 36 j) = lo ∧ cu = lo + 1))) ∨
   (nc = n0 ∧ sc = s0 ∧ ¬ t0 = 15 ∧ (X.1 35 j).toInt = 16 ∧ ((X.1 20 (ix (X.1 36 j))).toInt = 14 ∨ (X.1 20 (ix (X.1 36 j))).toInt = 15) ∧ CHR (WX X) X 23 (ix (X.1 36 j)) lo (ix (X.1 36 j)) s0 ∧ cu = ix (X.1 36 j) + 1 ∧ lv = (levF (X.1 26 (ix (X.1 36 j))).toInt64).toInt ∧ l0 < lv ∧ lv ≤ 3)))
def FI (X : St) (L : Nat) (S : Int) : Nat → Nat → Int → Int → Int → Int → Int → Prop
  | 0, cu, sc, nc, lv, tp, _ => cu = L ∧ sc = S ∧ nc = 0 ∧ lv = 0 ∧ tp = 0
  | j + 1, cu, sc, nc, lv, tp, mm => ∃ lo s0 n0 l0 t0, FI X L S j lo s0 n0 l0 t0 0 ∧ FR X j lo s0 n0 l0 t0 cu sc nc lv mm ∧ tp = (X.1 35 j).toInt
/-- frames below j and nodes below hi stay -/
def FS (X Y : St) (j hi : Nat) : Prop := (∀ i, i < j → Y.1 35 i = X.1 35 i ∧ Y.1 36 i = X.1 36 i ∧ Y.1 37 i = X.1 37 i) ∧ (∀ i, i < hi → Y.1 20 i = X.1 20 i ∧ Y.1 23 i = X.1 23 i ∧ Y.1 24 i = X.1 24 i ∧ Y.1 25 i = X.1 25 i ∧ Y.1 26 i = X.1 26 i ∧ Y.1 27 i = X.1 27 i ∧ Y.1 28 i = X.1 28 i)
theorem FS.rf {X : St} {j hi : Nat} : FS X X j hi := ⟨fun _ _ => ⟨rfl, rfl, rfl⟩, fun _ _ => ⟨rfl, rfl, rfl, rfl, rfl, rfl, rfl⟩⟩
theorem FS.tr {X Y Z : St} {j hi : Nat} (h : FS X Y j hi) (g : FS Y Z j hi) : FS X Z j hi := by
  refine ⟨fun i q => ?_, fun i q => ?_⟩
  · obtain ⟨a, b, c⟩ := h.1 i q
    obtain ⟨a1, b1, c1⟩ := g.1 i q
    exact ⟨a1.trans a, b1.trans b, c1.trans c⟩
  · obtain ⟨a, b, c, d, e, f, k⟩ := h.2 i q
    obtain ⟨a1, b1, c1, d1, e1, f1, k1⟩ := g.2 i q
    exact ⟨a1.trans a, b1.trans b, c1.trans c, d1.trans d, e1.trans e, f1.trans f, k1.trans k⟩
theorem FS.le {X Y : St} {j j1 hi h1 : Nat} (h : FS X Y j hi) (hj : j1 ≤ j) (hh : h1 ≤ hi) : FS X Y j1 h1 := ⟨fun i q => h.1 i (Nat.lt_of_lt_of_le q hj), fun i q => h.2 i (Nat.lt_of_lt_of_le q hh)⟩
theorem FS.fr {X Y : St} {L : List Nat} {j hi : Nat} (h : Fr YR L X Y) (hl : 7000 ∉ L ∧ 7200 ∉ L ∧ 7400 ∉ L ∧ 4000 ∉ L ∧ 4600 ∉ L ∧ 4800 ∉ L ∧ 5000 ∉ L ∧ 5200 ∉ L ∧ 5400 ∉ L ∧ 5600 ∉ L) : FS X Y j hi := ⟨fun i _ => ⟨h.1 35 i hl.1, h.1 36 i hl.2.1, h.1 37 i hl.2.2.1⟩, fun i _ => ⟨h.1 20 i hl.2.2.2.1, h.1 23 i hl.2.2.2.2.1, h.1 24 i hl.2.2.2.2.2.1, h.1 25 i hl.2.2.2.2.2.2.1, h.1 26 i hl.2.2.2.2.2.2.2.1, h.1 27 i hl.2.2.2.2.2.2.2.2.1, h.1 28 i hl.2.2.2.2.2.2.2.2.2⟩⟩
theorem FS.ns {X Y : St} {j hi n lo h1 : Nat} (h : FS X Y j hi) (hh : h1 ≤ hi) : NSx X Y n lo h1 := fun i _ q => by
  obtain ⟨a, b, c, d, e, f, g⟩ := h.2 i (by omega)
  exact ⟨a, b, c, d, Or.inr e, f, fun _ => g⟩
theorem CHR.fr {X Y : St} {j hi e n l r : Nat} {s : Int} (h : CHR (WX X) X e n l r s) (hs : FS X Y j hi) (hr : r ≤ hi) (he : Y.1 e n = X.1 e n) : CHR (WX Y) Y e n l r s := ⟨by rw [he]; exact h.1, by rw [he]; exact h.2.fr (hs.ns hr)⟩
theorem LPR.fr {X Y : St} {j hi n l r : Nat} {s : Int} {last : Int32} (h : LPR X n l r s last) (hs : FS X Y j hi) (hr : r ≤ hi) (hn : n < hi) : LPR Y n l r s last := by
  obtain ⟨it, cu, hl, h1, h2⟩ := h
  have hle := hl.le (fun n l r s q => q.bd)
  obtain ⟨a, b, c, d, e, f⟩ := hl
  obtain ⟨-, -, e24, -, -, e27, -⟩ := hs.2 n hn
  refine ⟨it, cu, ⟨a, by rw [e27]; exact b, by rw [e27]; exact c, by rw [e27, e24]; exact d, by rw [e27, e24]; exact e, ?_⟩, by rw [e27]; exact h1, by rw [e27]; exact h2⟩
  rw [e27]
  intro i hi1
  have hb := hle i hi1
  obtain ⟨p, q, r⟩ := f i hi1
  have e28 : Y.1 28 (it i) = X.1 28 (it i) := (hs.2 (it i) (by omega)).2.2.2.2.2.2
  rw [e28]
  exact ⟨p.fr (hs.ns (by omega)), q, r⟩
theorem FR.bd {X : St} {j lo cu : Nat} {s0 n0 l0 t0 sc nc lv mm : Int} (h : FR X j lo s0 n0 l0 t0 cu sc nc lv mm) : lo ≤ cu := by
  rcases h with h | h
  · omega
  · omega
theorem FR.fr {X Y : St} {j lo cu : Nat} {s0 n0 l0 t0 sc nc lv mm : Int} (h : FR X j lo s0 n0 l0 t0 cu sc nc lv mm) (hs : FS X Y (j + 1) cu) : FR Y j lo s0 n0 l0 t0 cu sc nc lv mm := by
  obtain ⟨f35, f36, f37⟩ := hs.1 j (Nat.lt_succ_self j)
  unfold FR
  rw [f35, f36, f37]
  rcases h with h | ⟨a, b, c, d, e, h⟩
  · exact Or.inl h
  · obtain ⟨e20, e23, e24, e25, e26, e27, e28⟩ := hs.2 _ d
    refine Or.inr ⟨a, b, c, d, by rw [e28]; exact e, ?_⟩
    rw [e20, e25, e26, e27]
    rcases h with ⟨h1, h2, h3, h4, h5, h⟩ | ⟨h1, h2, h3, h⟩ | ⟨h1, h2, h3, h4, h5, h6, h7, h8⟩
    · refine Or.inl ⟨h1, h2, h3, h4, h5, ?_⟩
      rcases h with h | ⟨p, q, r, s, t, u, v⟩ | h | ⟨p, q, r, s⟩ | ⟨p, q, ⟨m, r, s⟩, t⟩
      · exact Or.inl h
      · exact Or.inr (Or.inl ⟨p, q, r, s, t, u.fr hs (Nat.le_refl _) e23, v⟩)
      · exact Or.inr (Or.inr (Or.inl h))
      · exact Or.inr (Or.inr (Or.inr (Or.inl ⟨p, q, r.fr hs (Nat.le_refl _) e23, s⟩)))
      · have := s.2.bd
        exact Or.inr (Or.inr (Or.inr (Or.inr ⟨p, q, ⟨m, r.fr hs (by omega) e23, s.fr hs (Nat.le_refl _) e24⟩, t⟩)))
    · refine Or.inr (Or.inl ⟨h1, h2, h3, ?_⟩)
      rcases h with h | ⟨p, q, r, s⟩ | ⟨p, q, r, s, t⟩ | h | ⟨p, q, r, s⟩ | h | ⟨p, q, r, s, t⟩ | ⟨p, q, r, s, t⟩ | ⟨p, q, r, s⟩ | h
      · exact Or.inl h
      · exact Or.inr (Or.inl ⟨p, q, r, s.fr hs (Nat.le_refl _) d⟩)
      · exact Or.inr (Or.inr (Or.inl ⟨p, q, r, s, t.fr hs (Nat.le_refl _) d⟩))
      · exact Or.inr (Or.inr (Or.inr (Or.inl h)))
      · exact Or.inr (Or.inr (Or.inr (Or.inr (Or.inl ⟨p, q, r, s.fr hs (Nat.le_refl _) e23⟩))))
      · exact Or.inr (Or.inr (Or.inr (Or.inr (Or.inr (Or.inl h)))))
      · exact Or.inr (Or.inr (Or.inr (Or.inr (Or.inr (Or.inr (Or.inl ⟨p, q, r, s.fr hs (Nat.le_of_lt d) e23, t.fr hs (Nat.le_refl _) d⟩))))))
      · exact Or.inr (Or.inr (Or.inr (Or.inr (Or.inr (Or.inr (Or.inr (Or.inl ⟨p, q, r, s.fr hs (Nat.le_of_lt d) e23, t⟩)))))))
      · exact Or.inr (Or.inr (Or.inr (Or.inr (Or.inr (Or.inr (Or.inr (Or.inr (Or.inl ⟨p, q, r.fr hs (Nat.le_of_lt d) e23, s.fr hs (Nat.le_refl _) e24⟩))))))))
      · exact Or.inr (Or.inr (Or.inr (Or.inr (Or.inr (Or.inr (Or.inr (Or.inr (Or.inr h))))))))
    · exact Or.inr (Or.inr ⟨h1, h2, h3, h4, h5, h6.fr hs (Nat.le_of_lt d) e23, h7, h8⟩)
theorem FI.fr {X Y : St} {L : Nat} {S : Int} : ∀ {j cu : Nat} {sc nc lv tp mm : Int}, FI X L S j cu sc nc lv tp mm → FS X Y j cu → FI Y L S j cu sc nc lv tp mm
  | 0, _, _, _, _, _, _, h, _ => h
  | j + 1, cu, sc, nc, lv, tp, mm, h, hs => by
    obtain ⟨lo, s0, n0, l0, t0, h1, h2, h3⟩ := h
    exact ⟨lo, s0, n0, l0, t0, FI.fr h1 (hs.le (Nat.le_succ j) h2.bd), h2.fr hs, by rw [(hs.1 j (Nat.lt_succ_self j)).1]; exact h3⟩
