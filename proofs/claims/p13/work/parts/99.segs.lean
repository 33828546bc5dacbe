/-! stretches of code -/
/-- the orders s .. e - 1 lead from type t to type t1 -/
def SEG (X : St) (s e : Nat) (t t1 : Ty) : Prop := s < e ∧ ∃ PT : Nat → Ty, PT s = t ∧ PT e = t1 ∧ ∀ o, s ≤ o → o < e → RULE X PT s e o
theorem SEG.to {X : St} {s e : Nat} {t t1 t2 : Ty} (h : SEG X s e t t1) (ht : TE t1 t2) : SEG X s e t t2 := by
  obtain ⟨h0, PT, h1, h2, h3⟩ := h
  obtain ⟨P, p1, p2⟩ : ∃ P : Nat → Ty, (∀ q, q < e → P q = PT q) ∧ P e = t2 := ⟨fun q => if q < e then PT q else t2, fun q hq => if_pos hq, if_neg (Nat.lt_irrefl e)⟩
  exact ⟨h0, P, (p1 s h0).trans h1, p2, fun o a b => (h3 o a b).pt ⟨a, b⟩ (fun q _ hq => p1 q hq) (by rw [h2, p2]; exact ht) (Nat.le_refl _) (Nat.le_refl _)⟩
theorem SEG.tr {X : St} {s m e : Nat} {t t1 t2 : Ty} (h : SEG X s m t t1) (g : SEG X m e t1 t2) : SEG X s e t t2 := by
  obtain ⟨h0, PT, h1, h2, h3⟩ := h
  obtain ⟨g0, QT, g1, g2, g3⟩ := g
  obtain ⟨P, p1, p2⟩ : ∃ P : Nat → Ty, (∀ q, q < m → P q = PT q) ∧ ∀ q, m ≤ q → P q = QT q := ⟨fun q => if q < m then PT q else QT q, fun q hq => if_pos hq, fun q hq => if_neg (by omega)⟩
  refine ⟨by omega, P, (p1 s h0).trans h1, (p2 e (by omega)).trans g2, fun o a b => ?_⟩
  by_cases q : o < m
  · exact (h3 o a q).pt ⟨a, q⟩ (fun q _ hq => p1 q hq) (by rw [p2 m (Nat.le_refl _), h2, g1]; exact TE.rf) (Nat.le_refl _) (by omega)
  · exact (g3 o (by omega) b).pt ⟨by omega, b⟩ (fun q hq _ => p2 q hq) (by rw [p2 e (by omega)]; exact TE.rf) (by omega) (Nat.le_refl _)
theorem SEG.jr {X Y : St} {s e : Nat} {t t1 : Ty} {S : Nat → Prop} (h : SEG X s e t t1) (hT : KT X) (hJ : JR X Y S) (hS : ∀ i, s ≤ i → i < e → ¬ S i) : SEG Y s e t t1 := by
  obtain ⟨h0, PT, h1, h2, h3⟩ := h
  exact ⟨h0, PT, h1, h2, fun o a b => (h3 o a b).jr hT hJ (hS o a b)⟩
theorem SEG.one {X : St} {p op n : Nat} {t t1 : Ty} (hv : VAL X t) (ho : OA X p op n) (hn : n < 3100) (h : ∀ PT : Nat → Ty, PT p = t → PT (p + 1) = t1 → RULE X PT p (p + 1) p) : SEG X p (p + 1) t t1 := by
  obtain ⟨P, p1, p2⟩ : ∃ P : Nat → Ty, P p = t ∧ P (p + 1) = t1 := ⟨fun q => if q ≤ p then t else t1, if_pos (Nat.le_refl _), if_neg (by omega)⟩
  refine ⟨by omega, P, p1, p2, fun o a b => ?_⟩
  have : o = p := by omega
  subst this
  exact h P p1 p2
/-- t with m more values on top, of kinds f 0 .. f (m - 1) -/
def exn (t : Ty) (f : Nat → Int32) (m : Nat) : Ty := (t.1 + m, fun j => if j < t.1 then t.2.1 j else f (j - t.1), t.2.2.1, t.2.2.2)
theorem exn_zero {t : Ty} {f : Nat → Int32} : TE t (exn t f 0) := ⟨rfl, fun j hj => if_pos hj, Nat.le_refl _, fun _ _ => rfl⟩
theorem exn_back {t : Ty} {f : Nat → Int32} : TE (exn t f 0) t := ⟨rfl, fun j hj => (if_pos (show j < t.1 from hj)).symm, Nat.le_refl _, fun _ _ => rfl⟩
theorem exn_tp {t : Ty} {f : Nat → Int32} {m i : Nat} (h : i < m) : tp (exn t f m) i = f (m - 1 - i) := by
  show (if t.1 + m - 1 - i < t.1 then t.2.1 (t.1 + m - 1 - i) else f (t.1 + m - 1 - i - t.1)) = _
  rw [if_neg (by omega), show t.1 + m - 1 - i - t.1 = m - 1 - i by omega]
theorem exn_psh {t : Ty} {f g : Nat → Int32} {m i : Nat} {v : Int32} (h : i ≤ m) (h1 : ∀ j, j < m - i → g j = f j) (h2 : g (m - i) = v) : TE (psh (pps (exn t f m) i) v) (exn t g (m - i + 1)) := by
  refine ⟨?_, fun j hj => ?_, Nat.le_refl _, fun _ _ => rfl⟩
  · show t.1 + m - i + 1 = t.1 + (m - i + 1)
    omega
  · have hj : j < t.1 + m - i + 1 := hj
    show (if j < t.1 then t.2.1 j else g (j - t.1)) = tup (fun j => if j < t.1 then t.2.1 j else f (j - t.1)) (t.1 + m - i) v j
    by_cases q : j = t.1 + m - i
    · rw [q, tup_at, if_neg (by omega), show t.1 + m - i - t.1 = m - i by omega]
      exact h2
    · rw [tup_ne _ _ q]
      by_cases q2 : j < t.1
      · rw [if_pos q2, if_pos q2]
      · rw [if_neg q2, if_neg q2]
        exact h1 _ (by omega)
theorem exn_psh0 {t : Ty} {f g : Nat → Int32} {m : Nat} {v : Int32} (h1 : ∀ j, j < m → g j = f j) (h2 : g m = v) : TE (psh (exn t f m) v) (exn t g (m + 1)) := exn_psh (i := 0) (Nat.zero_le _) h1 h2
theorem exn_pps {t : Ty} {f : Nat → Int32} {m i : Nat} (h : i ≤ m) : TE (pps (exn t f m) i) (exn t f (m - i)) := by
  refine ⟨?_, fun j _ => rfl, Nat.le_refl _, fun _ _ => rfl⟩
  show t.1 + m - i = t.1 + (m - i)
  omega
theorem exn_eq {t : Ty} {f g : Nat → Int32} {m : Nat} (h : ∀ j, j < m → g j = f j) : TE (exn t f m) (exn t g m) := by
  refine ⟨rfl, fun j hj => ?_, Nat.le_refl _, fun _ _ => rfl⟩
  have hj : j < t.1 + m := hj
  show (if j < t.1 then t.2.1 j else g (j - t.1)) = (if j < t.1 then t.2.1 j else f (j - t.1))
  by_cases q2 : j < t.1
  · rw [if_pos q2, if_pos q2]
  · rw [if_neg q2, if_neg q2]
    exact h _ (by omega)
theorem exn_end {t : Ty} {f : Nat → Int32} {v : Int32} (h : f 0 = v) : TE (exn t f 1) (psh t v) := by
  refine ⟨rfl, fun j hj => ?_, Nat.le_refl _, fun _ _ => rfl⟩
  have hj : j < t.1 + 1 := hj
  show tup t.2.1 t.1 v j = (if j < t.1 then t.2.1 j else f (j - t.1))
  by_cases q : j = t.1
  · rw [q, tup_at, if_neg (Nat.lt_irrefl _), Nat.sub_self, h]
  · rw [tup_ne _ _ q, if_pos (by omega)]
theorem psh_exn {t : Ty} {f : Nat → Int32} {v : Int32} (h : f 0 = v) : TE (psh t v) (exn t f 1) := by
  refine ⟨rfl, fun j hj => ?_, Nat.le_refl _, fun _ _ => rfl⟩
  have hj : j < t.1 + 1 := hj
  show (if j < t.1 then t.2.1 j else f (j - t.1)) = tup t.2.1 t.1 v j
  by_cases q : j = t.1
  · rw [q, tup_at, if_neg (Nat.lt_irrefl _), Nat.sub_self, h]
  · rw [tup_ne _ _ q, if_pos (by omega)]
theorem VAL.exn {X : St} {t : Ty} {f : Nat → Int32} {m : Nat} (h : VAL X t) (hf : ∀ j, j < m → VK X (f j)) : VAL X (exn t f m) := by
  refine ⟨fun j hj => ?_, h.2.1, h.2.2⟩
  have hj : j < t.1 + m := hj
  show VK X (if j < t.1 then t.2.1 j else f (j - t.1))
  by_cases q : j < t.1
  · rw [if_pos q]
    exact h.1 j q
  · rw [if_neg q]
    exact hf _ (by omega)
theorem VAL.kx {X Y : St} {t : Ty} (h : VAL X t) (hK : KX X Y) : VAL Y t := ⟨fun j hj => (h.1 j hj).kx hK, fun j hj => (h.2.1 j hj).kx hK, h.2.2⟩
def f3 (a b c : Int32) : Nat → Int32 := fun j => if j = 0 then a else if j = 1 then b else c
theorem SEG.step {X : St} {p n : Nat} {t t1 : Ty} (hv : VAL X t) (ho : OA X p 0 n) (hn : n < 3100)  (te : TE t t1) : SEG X p (p + 1) t t1 := by
  refine SEG.one hv ho hn (fun PT h1 h2 => ?_)
  unfold RULE
  rw [h1]
  exact ⟨hv, 0, n, ho, hn, (Or.inl ⟨rfl, ⟨by omega, Nat.le_refl _, by rw [h2]; exact te⟩⟩)⟩
theorem SEG.leaf {X : St} {p op n : Nat} {t t1 : Ty} (hv : VAL X t) (ho : OA X p op n) (hn : n < 3100) {k : Int32} (hl : LEAF X op n t k) (hk : VK X k) (te : TE (psh t k) t1) : SEG X p (p + 1) t t1 := by
  refine SEG.one hv ho hn (fun PT h1 h2 => ?_)
  unfold RULE
  rw [h1]
  exact ⟨hv, op, n, ho, hn, (Or.inr (Or.inl ⟨k, hl, hk, ⟨by omega, Nat.le_refl _, by rw [h2]; exact te⟩⟩))⟩
theorem SEG.gd {X : St} {p op n : Nat} {t t1 : Ty} (hv : VAL X t) (ho : OA X p op n) (hn : n < 3100) (hop : (op = 5 ∨ op = 6 ∨ op = 7 ∨ op = 8 ∨ op = 9 ∨ op = 10 ∨ op = 11 ∨ op = 12 ∨ op = 14 ∨ op = 30)) {k : Int32} (h0 : 1 ≤ t.1) (hg : GRD X p (tp t 0) k) (hk : VK X k) (te : TE (psh (pps t 1) k) t1) : SEG X p (p + 1) t t1 := by
  refine SEG.one hv ho hn (fun PT h1 h2 => ?_)
  unfold RULE
  rw [h1]
  exact ⟨hv, op, n, ho, hn, (Or.inr (Or.inr (Or.inl ⟨hop, h0, k, hg, hk, ⟨by omega, Nat.le_refl _, by rw [h2]; exact te⟩⟩)))⟩
theorem SEG.bind {X : St} {p n : Nat} {t t1 : Ty} (hv : VAL X t) (ho : OA X p 13 n) (hn : n < 3100) {v : Nat} (h0 : 1 ≤ t.1) (hw : (X.1 26 n).toInt = (v : Int)) (hv1 : v ≤ 43) (hv2 : v ≤ t.2.2.1) (te : TE (t.1 - 1, t.2.1, v + 1, tup t.2.2.2 v (tp t 0)) t1) : SEG X p (p + 1) t t1 := by
  refine SEG.one hv ho hn (fun PT h1 h2 => ?_)
  unfold RULE
  rw [h1]
  exact ⟨hv, 13, n, ho, hn, (Or.inr (Or.inr (Or.inr (Or.inl ⟨rfl, h0, v, hw, hv1, hv2, ⟨by omega, Nat.le_refl _, by rw [h2]; exact te⟩⟩))))⟩
theorem SEG.row {X : St} {p n : Nat} {t t1 : Ty} (hv : VAL X t) (ho : OA X p 18 n) (hn : n < 3100) {m : Nat} {r e1 : Int32} (hm : (X.1 27 n).toInt = (m : Int)) (hm2 : m ≤ 20) (hm3 : m ≤ t.1) (ha : ∀ j, j < m → tp t j = e1) (hr : ROWK X r e1) (te : TE (psh (pps t m) r) t1) : SEG X p (p + 1) t t1 := by
  refine SEG.one hv ho hn (fun PT h1 h2 => ?_)
  unfold RULE
  rw [h1]
  exact ⟨hv, 18, n, ho, hn, (Or.inr (Or.inr (Or.inr (Or.inr (Or.inr (Or.inr (Or.inr (Or.inl ⟨rfl, m, r, e1, hm, hm2, hm3, ha, hr, ⟨by omega, Nat.le_refl _, by rw [h2]; exact te⟩⟩))))))))⟩
theorem SEG.new {X : St} {p n : Nat} {t t1 : Ty} (hv : VAL X t) (ho : OA X p 19 n) (hn : n < 3100) {r : Int32} (h0 : 2 ≤ t.1) (hi : (tp t 1).toInt = 0) (hr : ROWK X r (tp t 0)) (te : TE (psh (pps t 2) r) t1) : SEG X p (p + 1) t t1 := by
  refine SEG.one hv ho hn (fun PT h1 h2 => ?_)
  unfold RULE
  rw [h1]
  exact ⟨hv, 19, n, ho, hn, (Or.inr (Or.inr (Or.inr (Or.inr (Or.inr (Or.inr (Or.inr (Or.inr (Or.inl ⟨rfl, h0, hi, r, hr, ⟨by omega, Nat.le_refl _, by rw [h2]; exact te⟩⟩)))))))))⟩
theorem SEG.un {X : St} {p op n : Nat} {t t1 : Ty} (hv : VAL X t) (ho : OA X p op n) (hn : n < 3100) (h : (op = 20 ∧ ∃ e1, ROWK X (tp t 0) e1) ∨ (op = 21 ∧ (tp t 0).toInt = 0) ∨ (op = 22 ∧ (tp t 0).toInt = 0)) (h0 : 1 ≤ t.1) (te : TE (psh (pps t 1) 0) t1) : SEG X p (p + 1) t t1 := by
  refine SEG.one hv ho hn (fun PT h1 h2 => ?_)
  unfold RULE
  rw [h1]
  exact ⟨hv, op, n, ho, hn, (Or.inr (Or.inr (Or.inr (Or.inr (Or.inr (Or.inr (Or.inr (Or.inr (Or.inr (Or.inl ⟨h, h0, ⟨by omega, Nat.le_refl _, by rw [h2]; exact te⟩⟩))))))))))⟩
theorem SEG.no {X : St} {p n : Nat} {t t1 : Ty} (hv : VAL X t) (ho : OA X p 23 n) (hn : n < 3100) (h : (tp t 0).toInt = 1) (h0 : 1 ≤ t.1) (te : TE (psh (pps t 1) 1) t1) : SEG X p (p + 1) t t1 := by
  refine SEG.one hv ho hn (fun PT h1 h2 => ?_)
  unfold RULE
  rw [h1]
  exact ⟨hv, 23, n, ho, hn, (Or.inr (Or.inr (Or.inr (Or.inr (Or.inr (Or.inr (Or.inr (Or.inr (Or.inr (Or.inr (Or.inl ⟨rfl, h, h0, ⟨by omega, Nat.le_refl _, by rw [h2]; exact te⟩⟩)))))))))))⟩
theorem SEG.bin {X : St} {p op n : Nat} {t t1 : Ty} (hv : VAL X t) (ho : OA X p op n) (hn : n < 3100) (h : op = 24 ∨ op = 25) (h0 : 2 ≤ t.1) (ha : (tp t 0).toInt = 0) (hb : (tp t 1).toInt = 0) (te : TE (psh (pps t 2) (if op = 24 then 0 else 1)) t1) : SEG X p (p + 1) t t1 := by
  refine SEG.one hv ho hn (fun PT h1 h2 => ?_)
  unfold RULE
  rw [h1]
  exact ⟨hv, op, n, ho, hn, (Or.inr (Or.inr (Or.inr (Or.inr (Or.inr (Or.inr (Or.inr (Or.inr (Or.inr (Or.inr (Or.inr (Or.inl ⟨h, h0, ha, hb, ⟨by omega, Nat.le_refl _, by rw [h2]; exact te⟩⟩))))))))))))⟩
theorem SEG.place {X : St} {p n : Nat} {t t1 : Ty} (hv : VAL X t) (ho : OA X p 26 n) (hn : n < 3100) {e1 : Int32} (h0 : 2 ≤ t.1) (ha : (tp t 0).toInt = 0) (hr : ROWK X (tp t 1) e1) (he : VK X e1) (te : TE (psh (pps t 2) e1) t1) : SEG X p (p + 1) t t1 := by
  refine SEG.one hv ho hn (fun PT h1 h2 => ?_)
  unfold RULE
  rw [h1]
  exact ⟨hv, 26, n, ho, hn, (Or.inr (Or.inr (Or.inr (Or.inr (Or.inr (Or.inr (Or.inr (Or.inr (Or.inr (Or.inr (Or.inr (Or.inr (Or.inl ⟨rfl, h0, ha, e1, hr, he, ⟨by omega, Nat.le_refl _, by rw [h2]; exact te⟩⟩)))))))))))))⟩
theorem SEG.assign {X : St} {p n : Nat} {t t1 : Ty} (hv : VAL X t) (ho : OA X p 27 n) (hn : n < 3100) (h0 : 3 ≤ t.1) (ha : (tp t 1).toInt = 0) (hr : ROWK X (tp t 2) (tp t 0)) (te : TE (psh (pps t 3) (tp t 0)) t1) : SEG X p (p + 1) t t1 := by
  refine SEG.one hv ho hn (fun PT h1 h2 => ?_)
  unfold RULE
  rw [h1]
  exact ⟨hv, 27, n, ho, hn, (Or.inr (Or.inr (Or.inr (Or.inr (Or.inr (Or.inr (Or.inr (Or.inr (Or.inr (Or.inr (Or.inr (Or.inr (Or.inr (Or.inl ⟨rfl, h0, ha, hr, ⟨by omega, Nat.le_refl _, by rw [h2]; exact te⟩⟩))))))))))))))⟩
theorem SEG.call {X : St} {p n : Nat} {t t1 : Ty} (hv : VAL X t) (ho : OA X p 28 n) (hn : n < 3100) {m : Nat} (hm : (X.1 27 n).toInt = (m : Int)) (hm4 : m ≤ 4) (h0 : m + 1 ≤ t.1) (hf : FNK X (tp t m) (m : Int)) (ha : ∀ i, i < m → tp t (m - 1 - i) = cmpK X (tp t m) i) (te : TE (psh (pps t (m + 1)) (cmpK X (tp t m) m)) t1) : SEG X p (p + 1) t t1 := by
  refine SEG.one hv ho hn (fun PT h1 h2 => ?_)
  unfold RULE
  rw [h1]
  exact ⟨hv, 28, n, ho, hn, (Or.inr (Or.inr (Or.inr (Or.inr (Or.inr (Or.inr (Or.inr (Or.inr (Or.inr (Or.inr (Or.inr (Or.inr (Or.inr (Or.inr (Or.inl ⟨rfl, m, hm, hm4, h0, hf, ha, ⟨by omega, Nat.le_refl _, by rw [h2]; exact te⟩⟩)))))))))))))))⟩
theorem SEG.drop {X : St} {p n : Nat} {t t1 : Ty} (hv : VAL X t) (ho : OA X p 29 n) (hn : n < 3100) (h0 : 1 ≤ t.1) (te : TE (pps t 1) t1) : SEG X p (p + 1) t t1 := by
  refine SEG.one hv ho hn (fun PT h1 h2 => ?_)
  unfold RULE
  rw [h1]
  exact ⟨hv, 29, n, ho, hn, (Or.inr (Or.inr (Or.inr (Or.inr (Or.inr (Or.inr (Or.inr (Or.inr (Or.inr (Or.inr (Or.inr (Or.inr (Or.inr (Or.inr (Or.inr ⟨rfl, h0, ⟨by omega, Nat.le_refl _, by rw [h2]; exact te⟩⟩)))))))))))))))⟩
theorem SEG.ite {X : St} {s p q u n : Nat} {t t0 t1 t2 : Ty} (h1 : SEG X s p t t1) (hv1 : VAL X t1) (ho1 : OA X p 15 n) (hn : n < 3100) (hd : 1 ≤ t1.1) (ht1 : (tp t1 0).toInt = 1) (hb : TE (pps t1 1) t0) (h46 : (X.1 46 n).toInt = ((q + 1 : Nat) : Int)) (h2 : SEG X (p + 1) q t0 t2) (hv2 : VAL X t2) (ho2 : OA X q 16 n) (h47 : (X.1 47 n).toInt = ((u + 1 : Nat) : Int)) (h3 : SEG X (q + 1) u t0 t2) (ho3 : OA X u 17 n) : SEG X s (u + 1) t t2 := by
  obtain ⟨a0, A, a1, a2, a3⟩ := h1
  obtain ⟨b0, B, b1, b2, b3⟩ := h2
  obtain ⟨c0, C, c1, c2, c3⟩ := h3
  obtain ⟨P, pA, pB, pC, pE⟩ : ∃ P : Nat → Ty, (∀ i, i ≤ p → P i = A i) ∧ (∀ i, p < i → i ≤ q → P i = B i) ∧ (∀ i, q < i → i ≤ u → P i = C i) ∧ (∀ i, u < i → P i = t2) := ⟨fun i => if i ≤ p then A i else if i ≤ q then B i else if i ≤ u then C i else t2, fun i h => if_pos h, fun i h h' => (if_neg (by omega)).trans (if_pos h'), fun i h h' => (if_neg (by omega)).trans ((if_neg (by omega)).trans (if_pos h')), fun i h => (if_neg (by omega)).trans ((if_neg (by omega)).trans (if_neg (by omega)))⟩
  have eP1 : P p = t1 := (pA p (Nat.le_refl _)).trans a2
  have eP2 : P q = t2 := (pB q (by omega) (Nat.le_refl _)).trans b2
  have eP3 : P u = t2 := (pC u (by omega) (Nat.le_refl _)).trans c2
  have eB : P (p + 1) = t0 := (pB (p + 1) (by omega) (by omega)).trans b1
  have eC : P (q + 1) = t0 := (pC (q + 1) (by omega) (by omega)).trans c1
  have eE : P (u + 1) = t2 := pE (u + 1) (by omega)
  refine ⟨by omega, P, (pA s (by omega)).trans a1, eE, fun o h h' => ?_⟩
  by_cases g1 : o < p
  · exact (a3 o h g1).pt ⟨h, g1⟩ (fun i _ hi => pA i (by omega)) (by rw [pA p (Nat.le_refl _)]; exact TE.rf) (Nat.le_refl _) (by omega)
  · by_cases g2 : o = p
    · subst g2
      unfold RULE
      rw [eP1]
      exact ⟨hv1, 15, n, ho1, hn, (Or.inr (Or.inr (Or.inr (Or.inr (Or.inl ⟨rfl, hd, ht1, ⟨by omega, by omega, by rw [eB]; exact hb⟩, q + 1, h46, by omega, by omega, by rw [eC]; exact hb⟩)))))⟩
    · by_cases g3 : o < q
      · exact (b3 o (by omega) g3).pt ⟨by omega, g3⟩ (fun i i1 i2 => pB i (by omega) (by omega)) (by rw [pB q (by omega) (Nat.le_refl _)]; exact TE.rf) (by omega) (by omega)
      · by_cases g4 : o = q
        · subst g4
          unfold RULE
          rw [eP2]
          exact ⟨hv2, 16, n, ho2, hn, (Or.inr (Or.inr (Or.inr (Or.inr (Or.inr (Or.inl ⟨rfl, u + 1, h47, by omega, by omega, by rw [eE]; exact TE.rf⟩))))))⟩
        · by_cases g5 : o < u
          · exact (c3 o (by omega) g5).pt ⟨by omega, g5⟩ (fun i i1 i2 => pC i (by omega) (by omega)) (by rw [pC u (by omega) (Nat.le_refl _)]; exact TE.rf) (by omega) (by omega)
          · have g6 : o = u := by omega
            subst g6
            unfold RULE
            rw [eP3]
            exact ⟨hv2, 17, n, ho3, hn, (Or.inr (Or.inr (Or.inr (Or.inr (Or.inr (Or.inr (Or.inl ⟨rfl, by omega, Nat.le_refl _, by rw [eE]; exact TE.rf⟩)))))))⟩
