/-! a tree and its orders -/
def OA (X : St) (j o n : Nat) : Prop := (X.1 40 j).toInt = (o : Int) ∧ (X.1 41 j).toInt = (n : Int)
def UV (X : St) (n u v : Nat) : Prop := ((X.1 20 n).toInt = 6 ∧ u = 9 ∧ v = 20) ∨ ((X.1 20 n).toInt = 7 ∧ u = 5 ∧ v = 21) ∨ ((X.1 20 n).toInt = 12 ∧ u = 5 ∧ v = 22) ∨ ((X.1 20 n).toInt = 13 ∧ u = 6 ∧ v = 23)
def CHC (R : Nat → Nat → Nat → Int → Nat → Nat → Prop) (X : St) (e n l r : Nat) (sc : Int) (s t : Nat) : Prop := 0 ≤ (X.1 e n).toInt ∧ R (ix (X.1 e n)) l r sc s t
/-- behind an item of a list (0: a row's, 1: a block's, 2: a call's) -/
def LM (X : St) (n x i m md p q : Nat) : Prop := (md = 0 ∧ OA X p 14 x ∧ (X.1 45 x).toInt = p ∧ q = p + 1) ∨ (md = 1 ∧ ((i + 1 < m ∧ OA X p 29 x ∧ q = p + 1) ∨ (i + 1 = m ∧ q = p))) ∨ (md = 2 ∧ OA X p 10 x ∧ (X.1 42 p).toInt = 8 * (i : Int) ∧ (X.1 51 x).toInt = n ∧ q = p + 1)
def LSD (R : Nat → Nat → Nat → Int → Nat → Nat → Prop) (X : St) (n l r : Nat) (sc : Int) (md s t : Nat) (it cu ps : Nat → Nat) : Prop := cu 0 = l ∧ cu (ix (X.1 27 n)) = r ∧ ps 0 = s ∧ ps (ix (X.1 27 n)) = t ∧ 0 ≤ (X.1 27 n).toInt ∧ ((X.1 27 n).toInt = 0 → (X.1 24 n).toInt < 0) ∧ (0 < (X.1 27 n).toInt → 0 ≤ (X.1 24 n).toInt ∧ ix (X.1 24 n) = it 0) ∧ ∀ i, i < ix (X.1 27 n) → (∃ p, R (it i) (cu i) (cu (i + 1)) sc (ps i) p ∧ LM X n (it i) i (ix (X.1 27 n)) md p (ps (i + 1))) ∧ (i + 1 < ix (X.1 27 n) → 0 ≤ (X.1 28 (it i)).toInt ∧ ix (X.1 28 (it i)) = it (i + 1)) ∧ (i + 1 = ix (X.1 27 n) → (X.1 28 (it i)).toInt < 0)
def LSC (R : Nat → Nat → Nat → Int → Nat → Nat → Prop) (X : St) (n l r : Nat) (sc : Int) (md s t : Nat) : Prop := ∃ it cu ps : Nat → Nat, LSD R X n l r sc md s t it cu ps
def CB (R : Nat → Nat → Nat → Int → Nat → Nat → Prop) (X : St) (n lo hi : Nat) (sc : Int) (s e : Nat) : Prop := lo ≤ n ∧ n < hi ∧ s < e ∧ OA X s 0 n ∧ (
  (n = lo ∧ hi = n + 1 ∧ e = s + 2 ∧ (((X.1 20 n).toInt = 0 ∧ OA X (s + 1) 1 n) ∨ ((X.1 20 n).toInt = 1 ∧ OA X (s + 1) 2 n) ∨ ((X.1 20 n).toInt = 2 ∧ OA X (s + 1) 3 n ∧ 0 ≤ (X.1 26 n).toInt ∧ (X.1 26 n).toInt < sc) ∨ ((X.1 20 n).toInt = 3 ∧ OA X (s + 1) 4 n))) ∨
  (n = lo ∧ (X.1 20 n).toInt = 8 ∧ CHC R X 23 n (n + 1) hi sc (s + 1) e) ∨
  (n = lo ∧ ∃ u v p, UV X n u v ∧ CHC R X 23 n (n + 1) hi sc (s + 1) p ∧ OA X p u (ix (X.1 23 n)) ∧ OA X (p + 1) v n ∧ e = p + 2) ∨
  (∃ p q, CHC R X 23 n lo n sc (s + 1) p ∧ OA X p 5 (ix (X.1 23 n)) ∧ CHC R X 24 n (n + 1) hi sc (p + 1) q ∧ OA X q 5 (ix (X.1 24 n)) ∧ (((X.1 20 n).toInt = 14 ∧ OA X (q + 1) 24 n) ∨ ((X.1 20 n).toInt = 15 ∧ OA X (q + 1) 25 n)) ∧ e = q + 2) ∨
  (n = lo ∧ (X.1 20 n).toInt = 5 ∧ ∃ m p q, CHC R X 23 n (n + 1) m sc (s + 1) p ∧ OA X p 5 (ix (X.1 23 n)) ∧ CHC R X 24 n m hi sc (p + 1) q ∧ OA X q 19 n ∧ e = q + 1) ∨
  ((X.1 20 n).toInt = 10 ∧ (X.1 25 n).toInt < 0 ∧ ∃ p q, CHC R X 23 n lo n sc (s + 1) p ∧ OA X p 8 n ∧ CHC R X 24 n (n + 1) hi sc (p + 1) q ∧ OA X q 5 (ix (X.1 24 n)) ∧ OA X (q + 1) 26 n ∧ e = q + 2) ∨
  ((X.1 20 n).toInt = 10 ∧ ∃ m p q u, CHC R X 23 n lo n sc (s + 1) p ∧ OA X p 8 n ∧ CHC R X 24 n (n + 1) m sc (p + 1) q ∧ OA X q 5 (ix (X.1 24 n)) ∧ CHC R X 25 n m hi sc (q + 1) u ∧ OA X u 11 n ∧ OA X (u + 1) 27 n ∧ e = u + 2) ∨
  (n = lo ∧ (X.1 20 n).toInt = 16 ∧ ∃ m1 m2 p q u, CHC R X 23 n (n + 1) m1 sc (s + 1) p ∧ OA X p 6 (ix (X.1 23 n)) ∧ OA X (p + 1) 15 n ∧ CHC R X 24 n m1 m2 sc (p + 2) q ∧ OA X q 14 (ix (X.1 24 n)) ∧ (X.1 45 (ix (X.1 24 n))).toInt = q ∧ OA X (q + 1) 16 n ∧ (X.1 46 n).toInt = q + 2 ∧ CHC R X 25 n m2 hi sc (q + 2) u ∧ OA X u 14 (ix (X.1 25 n)) ∧ (X.1 45 (ix (X.1 25 n))).toInt = u ∧ OA X (u + 1) 17 n ∧ (X.1 47 n).toInt = u + 2 ∧ e = u + 2) ∨
  (n = lo ∧ (X.1 20 n).toInt = 17 ∧ (X.1 26 n).toInt = sc ∧ 0 ≤ sc ∧ sc ≤ 43 ∧ ∃ m p, CHC R X 23 n (n + 1) m sc (s + 1) p ∧ OA X p 12 n ∧ OA X (p + 1) 13 n ∧ CHC R X 24 n m hi (sc + 1) (p + 2) e) ∨
  (n = lo ∧ (X.1 20 n).toInt = 4 ∧ (X.1 27 n).toInt ≤ 20 ∧ ∃ q, LSC R X n (n + 1) hi sc 0 (s + 1) q ∧ OA X q 18 n ∧ e = q + 1) ∨
  (n = lo ∧ (X.1 20 n).toInt = 9 ∧ 1 ≤ (X.1 27 n).toInt ∧ LSC R X n (n + 1) hi sc 1 (s + 1) e) ∨
  ((X.1 20 n).toInt = 11 ∧ (X.1 27 n).toInt ≤ 4 ∧ ∃ p q, CHC R X 23 n lo n sc (s + 1) p ∧ OA X p 7 n ∧ LSC R X n (n + 1) hi sc 2 (p + 1) q ∧ OA X q 28 n ∧ e = q + 1))
/-- the least such -/
def CX (X : St) (n lo hi : Nat) (sc : Int) (s e : Nat) : Prop := ∀ R : Nat → Nat → Nat → Int → Nat → Nat → Prop, (∀ n lo hi sc s e, CB R X n lo hi sc s e → R n lo hi sc s e) → R n lo hi sc s e
theorem CHC.mono {R R1 : Nat → Nat → Nat → Int → Nat → Nat → Prop} {X : St} {e n l r : Nat} {sc : Int} {s t : Nat} (h : CHC R X e n l r sc s t) (hR : ∀ n lo hi sc s e, R n lo hi sc s e → R1 n lo hi sc s e) : CHC R1 X e n l r sc s t := ⟨h.1, hR _ _ _ _ _ _ h.2⟩
theorem LSC.mono {R R1 : Nat → Nat → Nat → Int → Nat → Nat → Prop} {X : St} {n l r : Nat} {sc : Int} {md s t : Nat} (h : LSC R X n l r sc md s t) (hR : ∀ n lo hi sc s e, R n lo hi sc s e → R1 n lo hi sc s e) : LSC R1 X n l r sc md s t := by
  obtain ⟨it, cu, ps, a, b, c, d, e, f, g, h⟩ := h
  refine ⟨it, cu, ps, a, b, c, d, e, f, g, fun i hi => ?_⟩
  obtain ⟨⟨p, h1, h2⟩, h3⟩ := h i hi
  exact ⟨⟨p, hR _ _ _ _ _ _ h1, h2⟩, h3⟩
theorem CB.mono {R R1 : Nat → Nat → Nat → Int → Nat → Nat → Prop} {X : St} {n lo hi : Nat} {sc : Int} {s e : Nat} (h : CB R X n lo hi sc s e) (hR : ∀ n lo hi sc s e, R n lo hi sc s e → R1 n lo hi sc s e) : CB R1 X n lo hi sc s e := by
  obtain ⟨h1, h2, h3, h4, h⟩ := h
  refine ⟨h1, h2, h3, h4, ?_⟩
  rcases h with ⟨a, b, c, d⟩ | ⟨a, b, c⟩ | ⟨a, u, v, p, b, c, d, f, g⟩ | ⟨p, q, a, b, c, d, f, g⟩ | ⟨a, b, m, p, q, c, d, f, g, i⟩ | ⟨a, b, p, q, c, d, f, g, i, j⟩ | ⟨a, m, p, q, u, b, c, d, f, g, i, j, k⟩ | ⟨a, b, m1, m2, p, q, u, c, d, f, g, i, j, k, l, o, w, x, y, z, t⟩ | ⟨a, b, c, d, f, m, p, g, i, j, k⟩ | ⟨a, b, c, q, d, f, g⟩ | ⟨a, b, c, d⟩ | ⟨a, b, p, q, c, d, f, g, i⟩
  · exact (Or.inl ⟨a, b, c, d⟩)
  · exact (Or.inr (Or.inl ⟨a, b, c.mono hR⟩))
  · exact (Or.inr (Or.inr (Or.inl ⟨a, u, v, p, b, c.mono hR, d, f, g⟩)))
  · exact (Or.inr (Or.inr (Or.inr (Or.inl ⟨p, q, a.mono hR, b, c.mono hR, d, f, g⟩))))
  · exact (Or.inr (Or.inr (Or.inr (Or.inr (Or.inl ⟨a, b, m, p, q, c.mono hR, d, f.mono hR, g, i⟩)))))
  · exact (Or.inr (Or.inr (Or.inr (Or.inr (Or.inr (Or.inl ⟨a, b, p, q, c.mono hR, d, f.mono hR, g, i, j⟩))))))
  · exact (Or.inr (Or.inr (Or.inr (Or.inr (Or.inr (Or.inr (Or.inl ⟨a, m, p, q, u, b.mono hR, c, d.mono hR, f, g.mono hR, i, j, k⟩)))))))
  · exact (Or.inr (Or.inr (Or.inr (Or.inr (Or.inr (Or.inr (Or.inr (Or.inl ⟨a, b, m1, m2, p, q, u, c.mono hR, d, f, g.mono hR, i, j, k, l, o.mono hR, w, x, y, z, t⟩))))))))
  · exact (Or.inr (Or.inr (Or.inr (Or.inr (Or.inr (Or.inr (Or.inr (Or.inr (Or.inl ⟨a, b, c, d, f, m, p, g.mono hR, i, j, k.mono hR⟩)))))))))
  · exact (Or.inr (Or.inr (Or.inr (Or.inr (Or.inr (Or.inr (Or.inr (Or.inr (Or.inr (Or.inl ⟨a, b, c, q, d.mono hR, f, g⟩))))))))))
  · exact (Or.inr (Or.inr (Or.inr (Or.inr (Or.inr (Or.inr (Or.inr (Or.inr (Or.inr (Or.inr (Or.inl ⟨a, b, c, d.mono hR⟩)))))))))))
  · exact (Or.inr (Or.inr (Or.inr (Or.inr (Or.inr (Or.inr (Or.inr (Or.inr (Or.inr (Or.inr (Or.inr ⟨a, b, p, q, c.mono hR, d, f.mono hR, g, i⟩)))))))))))
theorem CX.intro {X : St} {n lo hi : Nat} {sc : Int} {s e : Nat} (h : CB (CX X) X n lo hi sc s e) : CX X n lo hi sc s e := fun R hR => hR _ _ _ _ _ _ (h.mono (fun _ _ _ _ _ _ q => q R hR))
theorem CX.ind {X : St} {P : Nat → Nat → Nat → Int → Nat → Nat → Prop} (hP : ∀ n lo hi sc s e, CB (fun n lo hi sc s e => CX X n lo hi sc s e ∧ P n lo hi sc s e) X n lo hi sc s e → P n lo hi sc s e) {n lo hi : Nat} {sc : Int} {s e : Nat} (h : CX X n lo hi sc s e) : P n lo hi sc s e :=
  (h (fun n lo hi sc s e => CX X n lo hi sc s e ∧ P n lo hi sc s e) (fun n lo hi sc s e q => ⟨CX.intro (q.mono (fun _ _ _ _ _ _ p => p.1)), hP _ _ _ _ _ _ q⟩)).2
theorem CX.inv {X : St} {n lo hi : Nat} {sc : Int} {s e : Nat} (h : CX X n lo hi sc s e) : CB (CX X) X n lo hi sc s e := CX.ind (P := fun n lo hi sc s e => CB (CX X) X n lo hi sc s e) (fun _ _ _ _ _ _ q => q.mono (fun _ _ _ _ _ _ p => p.1)) h
theorem CX.bd {X : St} {n lo hi : Nat} {sc : Int} {s e : Nat} (h : CX X n lo hi sc s e) : lo ≤ n ∧ n < hi ∧ s < e := ⟨h.inv.1, h.inv.2.1, h.inv.2.2.1⟩
/-- what a tree and its orders are made of stays -/
def NSC (X Y : St) (n lo hi s e : Nat) : Prop := (∀ i, lo ≤ i → i < hi → (Y.1 20 i = X.1 20 i ∧ Y.1 23 i = X.1 23 i ∧ Y.1 24 i = X.1 24 i ∧ Y.1 25 i = X.1 25 i ∧ ((X.1 20 i).toInt = 3 ∨ Y.1 26 i = X.1 26 i) ∧ Y.1 27 i = X.1 27 i) ∧ (Y.1 46 i = X.1 46 i ∧ Y.1 47 i = X.1 47 i) ∧ (i ≠ n → Y.1 28 i = X.1 28 i ∧ Y.1 45 i = X.1 45 i ∧ Y.1 51 i = X.1 51 i)) ∧ ∀ j, s ≤ j → j < e → Y.1 40 j = X.1 40 j ∧ Y.1 41 j = X.1 41 j ∧ Y.1 42 j = X.1 42 j
theorem NSC.sub {X Y : St} {n n1 lo hi l r s e s1 e1 : Nat} (h : NSC X Y n lo hi s e) (hl : lo ≤ l) (hr : r ≤ hi) (hn : n < l ∨ r ≤ n ∨ n = n1) (hs : s ≤ s1) (he : e1 ≤ e) : NSC X Y n1 l r s1 e1 := by
  refine ⟨fun i h1 h2 => ?_, fun j h1 h2 => h.2 j (by omega) (by omega)⟩
  obtain ⟨a, b, c⟩ := h.1 i (by omega) (by omega)
  exact ⟨a, b, fun q => c (by omega)⟩
theorem ps_mono {R : Nat → Nat → Nat → Int → Nat → Nat → Prop} {X : St} {n l r : Nat} {sc : Int} {md s t : Nat} {it cu ps : Nat → Nat} (h : LSD R X n l r sc md s t it cu ps) (hb : ∀ n lo hi sc s e, R n lo hi sc s e → lo ≤ n ∧ n < hi ∧ s < e) : ∀ d i, i + d ≤ ix (X.1 27 n) → cu i ≤ cu (i + d) ∧ ps i ≤ ps (i + d)
  | 0, _, _ => ⟨Nat.le_refl _, Nat.le_refl _⟩
  | d + 1, i, hi => by
    have h1 := ps_mono h hb d i (by omega)
    obtain ⟨⟨p, h2, h3⟩, -⟩ := h.2.2.2.2.2.2.2 (i + d) (by omega)
    have h4 := hb _ _ _ _ _ _ h2
    have e : i + (d + 1) = i + d + 1 := rfl
    rw [e]
    rcases h3 with ⟨_, _, _, q⟩ | ⟨_, ⟨_, _, q⟩ | ⟨_, q⟩⟩ | ⟨_, _, _, _, q⟩ <;> omega
theorem LSD.le {R : Nat → Nat → Nat → Int → Nat → Nat → Prop} {X : St} {n l r : Nat} {sc : Int} {md s t : Nat} {it cu ps : Nat → Nat} (h : LSD R X n l r sc md s t it cu ps) (hb : ∀ n lo hi sc s e, R n lo hi sc s e → lo ≤ n ∧ n < hi ∧ s < e) (i : Nat) (hi : i < ix (X.1 27 n)) : l ≤ cu i ∧ cu i ≤ it i ∧ it i < cu (i + 1) ∧ cu (i + 1) ≤ r ∧ s ≤ ps i ∧ ps i < ps (i + 1) ∧ ps (i + 1) ≤ t := by
  have h1 := ps_mono h hb i 0 (by omega)
  have h2 := ps_mono h hb (ix (X.1 27 n) - (i + 1)) (i + 1) (by omega)
  obtain ⟨a, b, c, d, e, f, g, k⟩ := h
  obtain ⟨⟨p, h3, h4⟩, -⟩ := k i hi
  have h5 := hb _ _ _ _ _ _ h3
  rw [Nat.zero_add] at h1
  rw [show i + 1 + (ix (X.1 27 n) - (i + 1)) = ix (X.1 27 n) by omega] at h2
  rcases h4 with ⟨_, _, _, q⟩ | ⟨_, ⟨_, _, q⟩ | ⟨_, q⟩⟩ | ⟨_, _, _, _, q⟩ <;> omega
theorem LSD.pos {R : Nat → Nat → Nat → Int → Nat → Nat → Prop} {X : St} {n l r : Nat} {sc : Int} {md s t : Nat} {it cu ps : Nat → Nat} (h : LSD R X n l r sc md s t it cu ps) (hb : ∀ n lo hi sc s e, R n lo hi sc s e → lo ≤ n ∧ n < hi ∧ s < e) : l ≤ r ∧ s ≤ t := by
  have h2 := ps_mono h hb (ix (X.1 27 n)) 0 (by omega)
  obtain ⟨a, b, c, d, -⟩ := h
  rw [Nat.zero_add] at h2
  omega
set_option maxHeartbeats 4000000 in
theorem CX.fr {X Y : St} {n lo hi : Nat} {sc : Int} {s e : Nat} (h : CX X n lo hi sc s e) (hs : NSC X Y n lo hi s e) : CX Y n lo hi sc s e := by
  refine (CX.ind (P := fun n lo hi sc s e => NSC X Y n lo hi s e → CX Y n lo hi sc s e) ?_ h) hs
  clear h hs
  intro n lo hi sc s e h hs
  obtain ⟨h1, h2, h3, h4, h⟩ := h
  obtain ⟨⟨e20, e23, e24, e25, e26, e27⟩, ⟨e46, e47⟩, -⟩ := hs.1 n h1 h2
  have oa : ∀ j o x, s ≤ j → j < e → OA X j o x → OA Y j o x := by
    intro j o x g1 g2 g
    obtain ⟨c1, c2, -⟩ := hs.2 j g1 g2
    exact ⟨by rw [c1]; exact g.1, by rw [c2]; exact g.2⟩
  have ch : ∀ (f l r : Nat) (c : Int) (p q : Nat), Y.1 f n = X.1 f n → lo ≤ l → r ≤ hi → (n < l ∨ r ≤ n) → s ≤ p → q ≤ e → CHC (fun n lo hi sc s e => CX X n lo hi sc s e ∧ (NSC X Y n lo hi s e → CX Y n lo hi sc s e)) X f n l r c p q → CHC (CX Y) Y f n l r c p q := by
    intro f l r c p q he hl hr hn hp hq hc
    refine ⟨by rw [he]; exact hc.1, ?_⟩
    rw [he]
    exact hc.2.2 (hs.sub hl hr (by omega) hp hq)
  have hbd : ∀ n lo hi sc s e, (CX X n lo hi sc s e ∧ (NSC X Y n lo hi s e → CX Y n lo hi sc s e)) → lo ≤ n ∧ n < hi ∧ s < e := fun n lo hi sc s e q => q.1.bd
  have ls : ∀ (md p q : Nat), s ≤ p → q ≤ e → LSC (fun n lo hi sc s e => CX X n lo hi sc s e ∧ (NSC X Y n lo hi s e → CX Y n lo hi sc s e)) X n (n + 1) hi sc md p q → LSC (CX Y) Y n (n + 1) hi sc md p q := by
    rintro md p q hp hq ⟨it, cu, ps, hl⟩
    have hle := hl.le hbd
    obtain ⟨a, b, c, d, f, g, i, k⟩ := hl
    refine ⟨it, cu, ps, a, by rw [e27]; exact b, c, by rw [e27]; exact d, by rw [e27]; exact f, by rw [e27, e24]; exact g, by rw [e27, e24]; exact i, ?_⟩
    rw [e27]
    intro j hj
    have hb := hle j hj
    obtain ⟨⟨p1, k1, k2⟩, k3, k4⟩ := k j hj
    have hbp := k1.1.bd
    obtain ⟨e28, e45, e51⟩ := (hs.1 (it j) (by omega) (by omega)).2.2 (by omega)
    have hm : p1 ≤ ps (j + 1) := by rcases k2 with ⟨_, _, _, q⟩ | ⟨_, ⟨_, _, q⟩ | ⟨_, q⟩⟩ | ⟨_, _, _, _, q⟩ <;> omega
    refine ⟨⟨p1, k1.2 (hs.sub (by omega) (by omega) (by omega) (by omega) (by omega)), ?_⟩, by rw [e28]; exact k3, by rw [e28]; exact k4⟩
    rcases k2 with ⟨a1, a2, a3, a4⟩ | ⟨a1, ⟨a2, a3, a4⟩ | ⟨a2, a3⟩⟩ | ⟨a1, a2, a3, a4, a5⟩
    · exact Or.inl ⟨a1, oa _ _ _ (by omega) (by omega) a2, by rw [e45]; exact a3, a4⟩
    · exact Or.inr (Or.inl ⟨a1, Or.inl ⟨a2, oa _ _ _ (by omega) (by omega) a3, a4⟩⟩)
    · exact Or.inr (Or.inl ⟨a1, Or.inr ⟨a2, a3⟩⟩)
    · exact Or.inr (Or.inr ⟨a1, oa _ _ _ (by omega) (by omega) a2, by rw [(hs.2 p1 (by omega) (by omega)).2.2]; exact a3, by rw [e51]; exact a4, a5⟩)
  have lpos : ∀ (md p q : Nat), LSC (fun n lo hi sc s e => CX X n lo hi sc s e ∧ (NSC X Y n lo hi s e → CX Y n lo hi sc s e)) X n (n + 1) hi sc md p q → p ≤ q := by
    rintro md p q ⟨it, cu, ps, hl⟩
    exact (hl.pos hbd).2
  have uv : ∀ u v, UV X n u v → UV Y n u v := by
    intro u v g
    unfold UV
    rw [e20]
    exact g
  refine CX.intro ⟨h1, h2, h3, oa _ _ _ (Nat.le_refl _) h3 h4, ?_⟩
  rcases h with ⟨a, b, c, d⟩ | ⟨a, b, c⟩ | ⟨a, u, v, p, b, c, d, f, g⟩ | ⟨p, q, a, b, c, d, f, g⟩ | ⟨a, b, m, p, q, c, d, f, g, i⟩ | ⟨a, b, p, q, c, d, f, g, i, j⟩ | ⟨a, m, p, q, u, b, c, d, f, g, i, j, k⟩ | ⟨a, b, m1, m2, p, q, u, c, d, f, g, i, j, k, l, o, w, x, y, z, t⟩ | ⟨a, b, c, d, f, m, p, g, i, j, k⟩ | ⟨a, b, c, q, d, f, g⟩ | ⟨a, b, c, d⟩ | ⟨a, b, p, q, c, d, f, g, i⟩
  · refine (Or.inl ⟨a, b, c, ?_⟩)
    rw [e20]
    rcases d with ⟨d1, d2⟩ | ⟨d1, d2⟩ | ⟨d1, d2, d3, d4⟩ | ⟨d1, d2⟩
    · exact Or.inl ⟨d1, oa _ _ _ (by omega) (by omega) d2⟩
    · exact Or.inr (Or.inl ⟨d1, oa _ _ _ (by omega) (by omega) d2⟩)
    · rcases e26 with e26 | e26
      · omega
      · rw [e26]
        exact Or.inr (Or.inr (Or.inl ⟨d1, oa _ _ _ (by omega) (by omega) d2, d3, d4⟩))
    · exact Or.inr (Or.inr (Or.inr ⟨d1, oa _ _ _ (by omega) (by omega) d2⟩))
  · have b1 := c.2.1.bd
    exact (Or.inr (Or.inl ⟨a, by rw [e20]; exact b, ch 23 _ _ _ _ _ e23 (by omega) (by omega) (by omega) (by omega) (by omega) c⟩))
  · have b1 := c.2.1.bd
    exact (Or.inr (Or.inr (Or.inl ⟨a, u, v, p, uv u v b, ch 23 _ _ _ _ _ e23 (by omega) (by omega) (by omega) (by omega) (by omega) c, by rw [e23]; exact oa _ _ _ (by omega) (by omega) d, oa _ _ _ (by omega) (by omega) f, g⟩)))
  · have b1 := a.2.1.bd
    have b2 := c.2.1.bd
    exact (Or.inr (Or.inr (Or.inr (Or.inl ⟨p, q, ch 23 _ _ _ _ _ e23 (by omega) (by omega) (by omega) (by omega) (by omega) a, by rw [e23]; exact oa _ _ _ (by omega) (by omega) b, ch 24 _ _ _ _ _ e24 (by omega) (by omega) (by omega) (by omega) (by omega) c, by rw [e24]; exact oa _ _ _ (by omega) (by omega) d, by rw [e20]; rcases f with ⟨f1, f2⟩ | ⟨f1, f2⟩; exact Or.inl ⟨f1, oa _ _ _ (by omega) (by omega) f2⟩; exact Or.inr ⟨f1, oa _ _ _ (by omega) (by omega) f2⟩, g⟩))))
  · have b1 := c.2.1.bd
    have b2 := f.2.1.bd
    exact (Or.inr (Or.inr (Or.inr (Or.inr (Or.inl ⟨a, by rw [e20]; exact b, m, p, q, ch 23 _ _ _ _ _ e23 (by omega) (by omega) (by omega) (by omega) (by omega) c, by rw [e23]; exact oa _ _ _ (by omega) (by omega) d, ch 24 _ _ _ _ _ e24 (by omega) (by omega) (by omega) (by omega) (by omega) f, oa _ _ _ (by omega) (by omega) g, i⟩)))))
  · have b1 := c.2.1.bd
    have b2 := f.2.1.bd
    exact (Or.inr (Or.inr (Or.inr (Or.inr (Or.inr (Or.inl ⟨by rw [e20]; exact a, by rw [e25]; exact b, p, q, ch 23 _ _ _ _ _ e23 (by omega) (by omega) (by omega) (by omega) (by omega) c, oa _ _ _ (by omega) (by omega) d, ch 24 _ _ _ _ _ e24 (by omega) (by omega) (by omega) (by omega) (by omega) f, by rw [e24]; exact oa _ _ _ (by omega) (by omega) g, oa _ _ _ (by omega) (by omega) i, j⟩))))))
  · have b1 := b.2.1.bd
    have b2 := d.2.1.bd
    have b3 := g.2.1.bd
    exact (Or.inr (Or.inr (Or.inr (Or.inr (Or.inr (Or.inr (Or.inl ⟨by rw [e20]; exact a, m, p, q, u, ch 23 _ _ _ _ _ e23 (by omega) (by omega) (by omega) (by omega) (by omega) b, oa _ _ _ (by omega) (by omega) c, ch 24 _ _ _ _ _ e24 (by omega) (by omega) (by omega) (by omega) (by omega) d, by rw [e24]; exact oa _ _ _ (by omega) (by omega) f, ch 25 _ _ _ _ _ e25 (by omega) (by omega) (by omega) (by omega) (by omega) g, oa _ _ _ (by omega) (by omega) i, oa _ _ _ (by omega) (by omega) j, k⟩)))))))
  · have b1 := c.2.1.bd
    have b2 := g.2.1.bd
    have b3 := o.2.1.bd
    have hB := (hs.1 (ix (X.1 24 n)) (by omega) (by omega)).2.2 (by omega)
    have hC := (hs.1 (ix (X.1 25 n)) (by omega) (by omega)).2.2 (by omega)
    exact (Or.inr (Or.inr (Or.inr (Or.inr (Or.inr (Or.inr (Or.inr (Or.inl ⟨a, by rw [e20]; exact b, m1, m2, p, q, u, ch 23 _ _ _ _ _ e23 (by omega) (by omega) (by omega) (by omega) (by omega) c, by rw [e23]; exact oa _ _ _ (by omega) (by omega) d, oa _ _ _ (by omega) (by omega) f, ch 24 _ _ _ _ _ e24 (by omega) (by omega) (by omega) (by omega) (by omega) g, by rw [e24]; exact oa _ _ _ (by omega) (by omega) i, by rw [e24, hB.2.1]; exact j, oa _ _ _ (by omega) (by omega) k, by rw [e46]; exact l, ch 25 _ _ _ _ _ e25 (by omega) (by omega) (by omega) (by omega) (by omega) o, by rw [e25]; exact oa _ _ _ (by omega) (by omega) w, by rw [e25, hC.2.1]; exact x, oa _ _ _ (by omega) (by omega) y, by rw [e47]; exact z, t⟩))))))))
  · have b1 := g.2.1.bd
    have b2 := k.2.1.bd
    have e26 : Y.1 26 n = X.1 26 n := by rcases e26 with q | q; omega; exact q
    exact (Or.inr (Or.inr (Or.inr (Or.inr (Or.inr (Or.inr (Or.inr (Or.inr (Or.inl ⟨a, by rw [e20]; exact b, by rw [e26]; exact c, d, f, m, p, ch 23 _ _ _ _ _ e23 (by omega) (by omega) (by omega) (by omega) (by omega) g, oa _ _ _ (by omega) (by omega) i, oa _ _ _ (by omega) (by omega) j, ch 24 _ _ _ _ _ e24 (by omega) (by omega) (by omega) (by omega) (by omega) k⟩)))))))))
  · have b1 := lpos _ _ _ d
    exact (Or.inr (Or.inr (Or.inr (Or.inr (Or.inr (Or.inr (Or.inr (Or.inr (Or.inr (Or.inl ⟨a, by rw [e20]; exact b, by rw [e27]; exact c, q, ls _ _ _ (by omega) (by omega) d, oa _ _ _ (by omega) (by omega) f, g⟩))))))))))
  · exact (Or.inr (Or.inr (Or.inr (Or.inr (Or.inr (Or.inr (Or.inr (Or.inr (Or.inr (Or.inr (Or.inl ⟨a, by rw [e20]; exact b, by rw [e27]; exact c, ls _ _ _ (by omega) (by omega) d⟩)))))))))))
  · have b1 := c.2.1.bd
    have b2 := lpos _ _ _ f
    exact (Or.inr (Or.inr (Or.inr (Or.inr (Or.inr (Or.inr (Or.inr (Or.inr (Or.inr (Or.inr (Or.inr ⟨by rw [e20]; exact a, by rw [e27]; exact b, p, q, ch 23 _ _ _ _ _ e23 (by omega) (by omega) (by omega) (by omega) (by omega) c, oa _ _ _ (by omega) (by omega) d, ls _ _ _ (by omega) (by omega) f, oa _ _ _ (by omega) (by omega) g, i⟩)))))))))))
