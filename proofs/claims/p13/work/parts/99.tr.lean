/-! stretches of code, untold -/
def UG (X : St) (s e : Nat) (t t1 : Ty) : Prop := s < e ∧ ∃ PT : Nat → Ty, PT s = t ∧ PT e = t1 ∧ ∀ o, s ≤ o → o < e → SR true X PT s e o
theorem nlf {X : St} {p op n : Nat} (h : OA X p op n) (ho : ¬ op = 1 ∧ ¬ op = 2 ∧ ¬ op = 3 ∧ ¬ op = 4 ∧ ¬ op = 18) : ¬ LFP X p := by
  intro q
  have := h.1
  unfold LFP at q
  omega
theorem UG.to {X : St} {s e : Nat} {t t1 t2 : Ty} (h : UG X s e t t1) (ht : TE t1 t2) : UG X s e t t2 := by
  obtain ⟨h0, PT, h1, h2, h3⟩ := h
  obtain ⟨P, p1, p2⟩ : ∃ P : Nat → Ty, (∀ q, q < e → P q = PT q) ∧ P e = t2 := ⟨fun q => if q < e then PT q else t2, fun q hq => if_pos hq, if_neg (Nat.lt_irrefl e)⟩
  exact ⟨h0, P, (p1 s h0).trans h1, p2, fun o a b => (h3 o a b).pt ⟨a, b⟩ (fun q _ hq => p1 q hq) (by rw [h2, p2]; exact ht) (Nat.le_refl _) (Nat.le_refl _) (Or.inl rfl)⟩
theorem UG.tr {X : St} {s m e : Nat} {t t1 t2 : Ty} (h : UG X s m t t1) (g : UG X m e t1 t2) (hl : ¬ LFP X m) : UG X s e t t2 := by
  obtain ⟨h0, PT, h1, h2, h3⟩ := h
  obtain ⟨g0, QT, g1, g2, g3⟩ := g
  obtain ⟨P, p1, p2⟩ : ∃ P : Nat → Ty, (∀ q, q < m → P q = PT q) ∧ ∀ q, m ≤ q → P q = QT q := ⟨fun q => if q < m then PT q else QT q, fun q hq => if_pos hq, fun q hq => if_neg (by omega)⟩
  refine ⟨by omega, P, (p1 s h0).trans h1, (p2 e (by omega)).trans g2, fun o a b => ?_⟩
  by_cases q : o < m
  · exact (h3 o a q).pt ⟨a, q⟩ (fun q _ hq => p1 q hq) (by rw [p2 m (Nat.le_refl _), h2, g1]; exact TE.rf) (Nat.le_refl _) (by omega) (Or.inr hl)
  · exact (g3 o (by omega) b).pt ⟨by omega, b⟩ (fun q hq _ => p2 q hq) (by rw [p2 e (by omega)]; exact TE.rf) (by omega) (Nat.le_refl _) (Or.inl rfl)
theorem UG.one {X : St} {p : Nat} {t t1 : Ty} (h : ∀ PT : Nat → Ty, PT p = t → PT (p + 1) = t1 → SR true X PT p (p + 1) p) : UG X p (p + 1) t t1 := by
  obtain ⟨P, p1, p2⟩ : ∃ P : Nat → Ty, P p = t ∧ P (p + 1) = t1 := ⟨fun q => if q ≤ p then t else t1, if_pos (Nat.le_refl _), if_neg (by omega)⟩
  refine ⟨by omega, P, p1, p2, fun o a b => ?_⟩
  have : o = p := by omega
  subst this
  exact h P p1 p2
/-- a node begins with its step -/
theorem UG.step {X : St} {s e n : Nat} {t t1 : Ty} (ho : OA X s 0 n) (hn : n < 3100) (h44 : t.2.2.1 ≤ 44) {t0 : Ty} (te : TE t t0) (g : UG X (s + 1) e t0 t1) : UG X s e t t1 := by
  obtain ⟨g0, QT, g1, g2, g3⟩ := g
  obtain ⟨P, p1, p2⟩ : ∃ P : Nat → Ty, P s = t ∧ ∀ q, s < q → P q = QT q := ⟨fun q => if q ≤ s then t else QT q, if_pos (Nat.le_refl _), fun q hq => if_neg (by omega)⟩
  refine ⟨by omega, P, p1, (p2 e (by omega)).trans g2, fun o a b => ?_⟩
  by_cases q : o = s
  · subst q
    unfold SR
    rw [p1]
    exact ⟨h44, 0, n, ho, hn, (Or.inl ⟨rfl, ⟨by omega, by omega, by rw [p2 _ (by omega), g1]; exact te⟩, by omega, Or.inr (Or.inl (by rw [ho.1]; rfl))⟩)⟩
  · exact (g3 o (by omega) b).pt ⟨by omega, b⟩ (fun q hq _ => p2 q (by omega)) (by rw [p2 e (by omega)]; exact TE.rf) (by omega) (Nat.le_refl _) (Or.inl rfl)
def UF : Nat → Int32 := fun _ => 2
theorem UG.leaf {X : St} {p op n : Nat} {t t1 : Ty} (ho : OA X p op n) (hn : n < 3100) (h44 : t.2.2.1 ≤ 44) {k : Int32} (hl : LF true X op n t k) (te : TE (psh t k) t1) : UG X p (p + 1) t t1 := by
  refine UG.one (fun PT h1 h2 => ?_)
  unfold SR
  rw [h1]
  exact ⟨h44, op, n, ho, hn, (Or.inr (Or.inl ⟨k, hl, ⟨⟨by omega, Nat.le_refl _, by rw [h2]; exact te⟩, by omega, Or.inl rfl⟩⟩))⟩
theorem UG.gd {X : St} {p op n : Nat} {t t1 : Ty} (ho : OA X p op n) (hn : n < 3100) (h44 : t.2.2.1 ≤ 44) (hop : GOP op) {k : Int32} (h0 : 1 ≤ t.1) (hg : GDR true X p op n (tp t 0) k) (te : TE (psh (pps t 1) k) t1) : UG X p (p + 1) t t1 := by
  refine UG.one (fun PT h1 h2 => ?_)
  unfold SR
  rw [h1]
  exact ⟨h44, op, n, ho, hn, (Or.inr (Or.inr (Or.inl ⟨hop, h0, k, hg, ⟨⟨by omega, Nat.le_refl _, by rw [h2]; exact te⟩, by omega, Or.inl rfl⟩⟩)))⟩
theorem UG.bind {X : St} {p n : Nat} {t t1 : Ty} (ho : OA X p 13 n) (hn : n < 3100) (h44 : t.2.2.1 ≤ 44) {v : Nat} (h0 : 1 ≤ t.1) (hw : (X.1 26 n).toInt = (v : Int)) (hv1 : v ≤ 43) (hv2 : v ≤ t.2.2.1) (te : TE (t.1 - 1, t.2.1, v + 1, tup t.2.2.2 v (tp t 0)) t1) : UG X p (p + 1) t t1 := by
  refine UG.one (fun PT h1 h2 => ?_)
  unfold SR
  rw [h1]
  exact ⟨h44, 13, n, ho, hn, (Or.inr (Or.inr (Or.inr (Or.inl ⟨rfl, h0, v, hw, hv1, hv2, ⟨⟨by omega, Nat.le_refl _, by rw [h2]; exact te⟩, by omega, Or.inl rfl⟩⟩))))⟩
theorem UG.row {X : St} {p n : Nat} {t t1 : Ty} (ho : OA X p 18 n) (hn : n < 3100) (h44 : t.2.2.1 ≤ 44) {m : Nat} (hm : (X.1 27 n).toInt = (m : Int)) (hm2 : m ≤ 20) (hm3 : m ≤ t.1) (ha : ∀ j, j < m → tp t j = 2) (te : TE (psh (pps t m) 2) t1) : UG X p (p + 1) t t1 := by
  refine UG.one (fun PT h1 h2 => ?_)
  unfold SR
  rw [h1]
  exact ⟨h44, 18, n, ho, hn, (Or.inr (Or.inr (Or.inr (Or.inr (Or.inr (Or.inr (Or.inr (Or.inl ⟨rfl, m, 2, 2, hm, hm2, hm3, ha, Or.inl ⟨rfl, rfl, rfl⟩, ⟨⟨by omega, Nat.le_refl _, by rw [h2]; exact te⟩, by omega, Or.inl rfl⟩⟩))))))))⟩
theorem UG.new {X : St} {p n : Nat} {t t1 : Ty} (ho : OA X p 19 n) (hn : n < 3100) (h44 : t.2.2.1 ≤ 44) (h0 : 2 ≤ t.1) (hp : (tp t 1).toInt = 0) (hi : tp t 0 = 2) (te : TE (psh (pps t 2) 2) t1) : UG X p (p + 1) t t1 := by
  refine UG.one (fun PT h1 h2 => ?_)
  unfold SR
  rw [h1]
  exact ⟨h44, 19, n, ho, hn, (Or.inr (Or.inr (Or.inr (Or.inr (Or.inr (Or.inr (Or.inr (Or.inr (Or.inl ⟨rfl, ⟨h0, Or.inl ⟨rfl, by omega⟩⟩, 2, Or.inl ⟨rfl, rfl, hi⟩, ⟨⟨by omega, Nat.le_refl _, by rw [h2]; exact te⟩, by omega, Or.inl rfl⟩⟩)))))))))⟩
theorem UG.un {X : St} {p op n : Nat} {t t1 : Ty} (ho : OA X p op n) (hn : n < 3100) (h44 : t.2.2.1 ≤ 44) (h : (op = 20 ∧ tp t 0 = 3) ∨ ((op = 21 ∨ op = 22 ∨ op = 23) ∧ (tp t 0).toInt = (if op = 23 then 2 else 1) - 1)) (h0 : 1 ≤ t.1) (te : TE (psh (pps t 1) 2) t1) : UG X p (p + 1) t t1 := by
  refine UG.one (fun PT h1 h2 => ?_)
  unfold SR
  rw [h1]
  exact ⟨h44, op, n, ho, hn, (Or.inr (Or.inr (Or.inr (Or.inr (Or.inr (Or.inr (Or.inr (Or.inr (Or.inr (Or.inl ⟨by rcases h with ⟨h, h3⟩ | ⟨h, h3⟩; exact Or.inl ⟨h, 2, Or.inl ⟨rfl, h3, rfl⟩⟩; exact Or.inr h, h0, 2, Or.inl ⟨rfl, rfl⟩, fun hh => by rcases h with ⟨h, h3⟩ | ⟨h, h3⟩; omega; exact Or.inl ⟨rfl, h3⟩, ⟨⟨by omega, Nat.le_refl _, by rw [h2]; exact te⟩, by omega, Or.inl rfl⟩⟩))))))))))⟩
theorem UG.bin {X : St} {p op n : Nat} {t t1 : Ty} (ho : OA X p op n) (hn : n < 3100) (h44 : t.2.2.1 ≤ 44) (h : op = 24 ∨ op = 25) (h0 : 2 ≤ t.1) (hp : (tp t 0).toInt = 0 ∧ (tp t 1).toInt = 0) (hs : op = 24 → 2 ≤ (levF (X.1 26 n).toInt64).toInt) (te : TE (psh (pps t 2) 2) t1) : UG X p (p + 1) t t1 := by
  refine UG.one (fun PT h1 h2 => ?_)
  unfold SR
  rw [h1]
  exact ⟨h44, op, n, ho, hn, (Or.inr (Or.inr (Or.inr (Or.inr (Or.inr (Or.inr (Or.inr (Or.inr (Or.inr (Or.inr (Or.inl ⟨h, ⟨h0, Or.inl ⟨rfl, by omega⟩, Or.inl ⟨rfl, by omega⟩⟩, 2, Or.inl ⟨rfl, rfl⟩, hs, ⟨⟨by omega, Nat.le_refl _, by rw [h2]; exact te⟩, by omega, Or.inl rfl⟩⟩)))))))))))⟩
theorem UG.place {X : St} {p n : Nat} {t t1 : Ty} (ho : OA X p 26 n) (hn : n < 3100) (h44 : t.2.2.1 ≤ 44) (h0 : 2 ≤ t.1) (hp : (tp t 0).toInt = 0) (hr : tp t 1 = 3) (te : TE (psh (pps t 2) 2) t1) : UG X p (p + 1) t t1 := by
  refine UG.one (fun PT h1 h2 => ?_)
  unfold SR
  rw [h1]
  exact ⟨h44, 26, n, ho, hn, (Or.inr (Or.inr (Or.inr (Or.inr (Or.inr (Or.inr (Or.inr (Or.inr (Or.inr (Or.inr (Or.inr (Or.inl ⟨rfl, ⟨h0, Or.inl ⟨rfl, by omega⟩⟩, 2, Or.inl ⟨rfl, hr, rfl⟩, ⟨⟨by omega, Nat.le_refl _, by rw [h2]; exact te⟩, by omega, Or.inl rfl⟩⟩))))))))))))⟩
theorem UG.assign {X : St} {p n : Nat} {t t1 : Ty} (ho : OA X p 27 n) (hn : n < 3100) (h44 : t.2.2.1 ≤ 44) (h0 : 3 ≤ t.1) (hp : (tp t 1).toInt = 0) (hr : tp t 2 = 3) (hs : tp t 0 = 2) (te : TE (psh (pps t 3) (tp t 0)) t1) : UG X p (p + 1) t t1 := by
  refine UG.one (fun PT h1 h2 => ?_)
  unfold SR
  rw [h1]
  exact ⟨h44, 27, n, ho, hn, (Or.inr (Or.inr (Or.inr (Or.inr (Or.inr (Or.inr (Or.inr (Or.inr (Or.inr (Or.inr (Or.inr (Or.inr (Or.inl ⟨rfl, ⟨h0, Or.inl ⟨rfl, by omega⟩⟩, Or.inl ⟨rfl, hr, hs⟩, ⟨⟨by omega, Nat.le_refl _, by rw [h2]; exact te⟩, by omega, Or.inl rfl⟩⟩)))))))))))))⟩
theorem UG.call {X : St} {p n : Nat} {t t1 : Ty} (ho : OA X p 28 n) (hn : n < 3100) (h44 : t.2.2.1 ≤ 44) {m : Nat} (hm : (X.1 27 n).toInt = (m : Int)) (hm4 : m ≤ 4) (h0 : m + 1 ≤ t.1) (hf : (tp t m).toInt = 10 + (m : Int)) (ha : ∀ i, i < m → tp t (m - 1 - i) = 2) (te : TE (psh (pps t (m + 1)) 2) t1) : UG X p (p + 1) t t1 := by
  refine UG.one (fun PT h1 h2 => ?_)
  unfold SR
  rw [h1]
  exact ⟨h44, 28, n, ho, hn, (Or.inr (Or.inr (Or.inr (Or.inr (Or.inr (Or.inr (Or.inr (Or.inr (Or.inr (Or.inr (Or.inr (Or.inr (Or.inr (Or.inl ⟨rfl, m, hm, hm4, h0, Or.inl ⟨rfl, hf⟩, ha, ⟨⟨by omega, Nat.le_refl _, by rw [h2]; exact te⟩, by omega, Or.inl rfl⟩⟩))))))))))))))⟩
theorem UG.drop {X : St} {p n : Nat} {t t1 : Ty} (ho : OA X p 29 n) (hn : n < 3100) (h44 : t.2.2.1 ≤ 44) (h0 : 1 ≤ t.1) (te : TE (pps t 1) t1) : UG X p (p + 1) t t1 := by
  refine UG.one (fun PT h1 h2 => ?_)
  unfold SR
  rw [h1]
  exact ⟨h44, 29, n, ho, hn, (Or.inr (Or.inr (Or.inr (Or.inr (Or.inr (Or.inr (Or.inr (Or.inr (Or.inr (Or.inr (Or.inr (Or.inr (Or.inr (Or.inr (⟨rfl, h0, ⟨⟨by omega, Nat.le_refl _, by rw [h2]; exact te⟩, by omega, Or.inl rfl⟩⟩)))))))))))))))⟩
theorem UG.gdx {X : St} {p op n m : Nat} {t : Ty} {f f1 : Nat → Int32} (ho : OA X p op n) (hn : n < 3100) (h44 : t.2.2.1 ≤ 44) (hop : GOP op) (hg : GDR true X p op n (f m) (f1 m)) (hf : ∀ j, j < m → f1 j = f j) : UG X p (p + 1) (exn t f (m + 1)) (exn t f1 (m + 1)) := by
  refine UG.gd ho hn h44 hop (k := f1 m) (by show 1 ≤ t.1 + (m + 1); omega) (by rw [exn_tp (by omega)]; exact hg) ?_
  have := exn_psh (t := t) (f := f) (g := f1) (m := m + 1) (i := 1) (v := f1 m) (by omega) (fun j hj => hf j (by omega)) rfl
  exact this
/-- an if: two ways that meet -/
theorem UG.ite {X : St} {s p q u n : Nat} {t t0 t1 t2 : Ty} (h1 : UG X s p t t1) (h44 : t1.2.2.1 ≤ 44 ∧ t2.2.2.1 ≤ 44) (ho1 : OA X p 15 n) (hn : n < 3100) (hd : 1 ≤ t1.1) (hpk : (tp t1 0).toInt = 1) (hb : TE (pps t1 1) t0) (h46 : (X.1 46 n).toInt = ((q + 1 : Nat) : Int)) (h2 : UG X (p + 1) q t0 t2) (ho2 : OA X q 16 n) (h47 : (X.1 47 n).toInt = ((u + 1 : Nat) : Int)) (h3 : UG X (q + 1) u t0 t2) (ho3 : OA X u 17 n) (hl2 : ¬ LFP X (p + 1)) (hl3 : ¬ LFP X (q + 1)) : UG X s (u + 1) t t2 := by
  obtain ⟨a0, A, a1, a2, a3⟩ := h1
  obtain ⟨b0, B, b1, b2, b3⟩ := h2
  obtain ⟨c0, C, c1, c2, c3⟩ := h3
  have l1 : ¬ LFP X p := nlf ho1 (by decide)
  have l2 : ¬ LFP X q := nlf ho2 (by decide)
  have l3 : ¬ LFP X u := nlf ho3 (by decide)
  obtain ⟨P, pA, pB, pC, pE⟩ : ∃ P : Nat → Ty, (∀ i, i ≤ p → P i = A i) ∧ (∀ i, p < i → i ≤ q → P i = B i) ∧ (∀ i, q < i → i ≤ u → P i = C i) ∧ (∀ i, u < i → P i = t2) := ⟨fun i => if i ≤ p then A i else if i ≤ q then B i else if i ≤ u then C i else t2, fun i h => if_pos h, fun i h h' => (if_neg (by omega)).trans (if_pos h'), fun i h h' => (if_neg (by omega)).trans ((if_neg (by omega)).trans (if_pos h')), fun i h => (if_neg (by omega)).trans ((if_neg (by omega)).trans (if_neg (by omega)))⟩
  have eP1 : P p = t1 := (pA p (Nat.le_refl _)).trans a2
  have eP2 : P q = t2 := (pB q (by omega) (Nat.le_refl _)).trans b2
  have eP3 : P u = t2 := (pC u (by omega) (Nat.le_refl _)).trans c2
  have eB : P (p + 1) = t0 := (pB (p + 1) (by omega) (by omega)).trans b1
  have eC : P (q + 1) = t0 := (pC (q + 1) (by omega) (by omega)).trans c1
  have eE : P (u + 1) = t2 := pE (u + 1) (by omega)
  refine ⟨by omega, P, (pA s (by omega)).trans a1, eE, fun o h h' => ?_⟩
  by_cases g1 : o < p
  · exact (a3 o h g1).pt ⟨h, g1⟩ (fun i _ hi => pA i (by omega)) (by rw [pA p (Nat.le_refl _)]; exact TE.rf) (Nat.le_refl _) (by omega) (Or.inr l1)
  · by_cases g2 : o = p
    · subst g2
      unfold SR
      rw [eP1]
      exact ⟨h44.1, 15, n, ho1, hn, (Or.inr (Or.inr (Or.inr (Or.inr (Or.inl ⟨rfl, ⟨hd, Or.inl ⟨rfl, by omega⟩⟩, ⟨⟨by omega, by omega, by rw [eB]; exact hb⟩, by omega, Or.inr (Or.inr hl2)⟩, q + 1, h46, ⟨by omega, by omega, by rw [eC]; exact hb⟩, by omega, Or.inr (Or.inr hl3)⟩)))))⟩
    · by_cases g3 : o < q
      · exact (b3 o (by omega) g3).pt ⟨by omega, g3⟩ (fun i i1 i2 => pB i (by omega) (by omega)) (by rw [pB q (by omega) (Nat.le_refl _)]; exact TE.rf) (by omega) (by omega) (Or.inr l2)
      · by_cases g4 : o = q
        · subst g4
          unfold SR
          rw [eP2]
          exact ⟨h44.2, 16, n, ho2, hn, (Or.inr (Or.inr (Or.inr (Or.inr (Or.inr (Or.inl ⟨rfl, u + 1, h47, ⟨by omega, by omega, by rw [eE]; exact TE.rf⟩, by omega, Or.inl rfl⟩))))))⟩
        · by_cases g5 : o < u
          · exact (c3 o (by omega) g5).pt ⟨by omega, g5⟩ (fun i i1 i2 => pC i (by omega) (by omega)) (by rw [pC u (by omega) (Nat.le_refl _)]; exact TE.rf) (by omega) (by omega) (Or.inr l3)
          · have g6 : o = u := by omega
            subst g6
            unfold SR
            rw [eP3]
            exact ⟨h44.2, 17, n, ho3, hn, (Or.inr (Or.inr (Or.inr (Or.inr (Or.inr (Or.inr (Or.inl ⟨rfl, ⟨by omega, Nat.le_refl _, by rw [eE]; exact TE.rf⟩, by omega, Or.inl rfl⟩)))))))⟩
/-- names known: sc, of any kind -/
def UT (t : Ty) (sc : Int) : Prop := (t.2.2.1 : Int) = sc ∧ sc ≤ 44 ∧ ∀ j, j < t.2.2.1 → t.2.2.2 j = 2
def UP (X : St) (n lo hi : Nat) (sc : Int) (s e : Nat) : Prop := (hi : Int) ≤ (X.1 0 19).toInt → ∀ t, UT t sc → UG X s e t (psh t 2)
section UGS
variable {X : St} {n lo hi : Nat} {sc : Int} {s e : Nat}
theorem uch {f l r p r1 : Nat} {sc1 : Int} (h : CHC (fun n lo hi sc s e => CX X n lo hi sc s e ∧ UP X n lo hi sc s e) X f n l r sc1 p r1) (hr : (r : Int) ≤ (X.1 0 19).toInt) : (∀ t, UT t sc1 → UG X p r1 t (exn t UF 1)) ∧ p < r1 ∧ l < r ∧ (l ≤ ix (X.1 f n) ∧ ix (X.1 f n) < r) ∧ ¬ LFP X p := by
  obtain ⟨h0, h1, h2⟩ := h
  obtain ⟨b1, b2, b3⟩ := h1.bd
  exact ⟨fun t ht => (h2 hr t ht).to (psh_exn rfl), b3, by omega, ⟨b1, b2⟩, nlf h1.inv.2.2.2.1 (by decide)⟩
/-- the items of a row, a block, a call: i of them done, on top of m0 values -/
theorem uls {md p r m0 : Nat} {t : Ty} {F : Nat → Int32} {it cu ps : Nat → Nat} (h19 : (X.1 0 19).toInt ≤ 3100) (hhi : (hi : Int) ≤ (X.1 0 19).toInt) (h : LSD (fun n lo hi sc s e => CX X n lo hi sc s e ∧ UP X n lo hi sc s e) X n (n + 1) hi sc md p r it cu ps) (hmd : md = 0 ∨ md = 2) (ht : UT t sc) (hF : ∀ j, m0 ≤ j → F j = 2) : ∀ i, i ≤ ix (X.1 27 n) → (i = 0 ∧ ps i = p) ∨ (0 < i ∧ UG X p (ps i) (exn t F m0) (exn t F (m0 + i))) := by
  have hb : ∀ n lo hi sc s e, (CX X n lo hi sc s e ∧ UP X n lo hi sc s e) → lo ≤ n ∧ n < hi ∧ s < e := fun n lo hi sc s e q => q.1.bd
  have hle := h.le hb
  obtain ⟨a, b, c, d, f, g, k, l⟩ := h
  have t44 : t.2.2.1 ≤ 44 := by
    have := ht.1
    have := ht.2.1
    omega
  intro i
  induction i with
  | zero => intro _; exact Or.inl ⟨rfl, c⟩
  | succ i ih =>
    intro hi1
    obtain ⟨l1, l2, l3, l4, l5, l6, l7⟩ := hle i (by omega)
    obtain ⟨⟨p1, ⟨x1, x2⟩, x3⟩, -⟩ := l i (by omega)
    obtain ⟨b1, b2, b3⟩ := x1.bd
    have sg := x2 (by omega) (exn t F (m0 + i)) ht
    have sg1 : UG X (ps i) p1 (exn t F (m0 + i)) (exn t F (m0 + i + 1)) := sg.to (exn_psh0 (fun _ _ => rfl) (hF _ (by omega)))
    have nl := nlf x1.inv.2.2.2.1 (by decide)
    have key : ∃ op, GOP op ∧ OA X p1 op (it i) ∧ ps (i + 1) = p1 + 1 := by
      rcases x3 with ⟨_, y2, _, y4⟩ | ⟨y1, -⟩ | ⟨_, y2, _, _, y4⟩
      · exact ⟨14, by unfold GOP; omega, y2, y4⟩
      · omega
      · exact ⟨10, by unfold GOP; omega, y2, y4⟩
    obtain ⟨op, o1, o2, o3⟩ := key
    have sg2 : UG X p1 (p1 + 1) (exn t F (m0 + i + 1)) (exn t F (m0 + i + 1)) := UG.gdx o2 (by omega) t44 o1 (Or.inr ⟨rfl, Or.inl (hF _ (by omega))⟩) (fun _ _ => rfl)
    have sg3 := sg1.tr sg2 (nlf o2 (by have := o1.bd; omega))
    rw [o3]
    refine Or.inr ⟨by omega, ?_⟩
    rcases ih (by omega) with ⟨rfl, q2⟩ | ⟨q1, q2⟩
    · rw [q2] at sg3
      exact sg3
    · exact q2.tr sg3 nl
/-- a block: all but the last are dropped -/
theorem ubl {p r : Nat} {t : Ty} {it cu ps : Nat → Nat} (h19 : (X.1 0 19).toInt ≤ 3100) (hhi : (hi : Int) ≤ (X.1 0 19).toInt) (h : LSD (fun n lo hi sc s e => CX X n lo hi sc s e ∧ UP X n lo hi sc s e) X n (n + 1) hi sc 1 p r it cu ps) (ht : UT t sc) : ∀ i, i < ix (X.1 27 n) → (i = 0 ∧ ps i = p) ∨ (0 < i ∧ UG X p (ps i) t t) := by
  have hb : ∀ n lo hi sc s e, (CX X n lo hi sc s e ∧ UP X n lo hi sc s e) → lo ≤ n ∧ n < hi ∧ s < e := fun n lo hi sc s e q => q.1.bd
  have hle := h.le hb
  obtain ⟨a, b, c, d, f, g, k, l⟩ := h
  have t44 : t.2.2.1 ≤ 44 := by
    have := ht.1
    have := ht.2.1
    omega
  intro i
  induction i with
  | zero => intro _; exact Or.inl ⟨rfl, c⟩
  | succ i ih =>
    intro hi1
    obtain ⟨l1, l2, l3, l4, l5, l6, l7⟩ := hle i (by omega)
    obtain ⟨⟨p1, ⟨x1, x2⟩, x3⟩, -⟩ := l i (by omega)
    obtain ⟨b1, b2, b3⟩ := x1.bd
    have sg1 : UG X (ps i) p1 t (exn t UF 1) := (x2 (by omega) t ht).to (psh_exn rfl)
    have nl := nlf x1.inv.2.2.2.1 (by decide)
    have key : OA X p1 29 (it i) ∧ ps (i + 1) = p1 + 1 := by
      rcases x3 with ⟨y1, -⟩ | ⟨_, ⟨_, y2, y3⟩ | ⟨y2, -⟩⟩ | ⟨y1, -⟩
      · omega
      · exact ⟨y2, y3⟩
      · omega
      · omega
    obtain ⟨o2, o3⟩ := key
    have sg2 : UG X p1 (p1 + 1) (exn t UF 1) t := UG.drop o2 (by omega) t44 (by show 1 ≤ t.1 + 1; omega) ((exn_pps (i := 1) (by decide)).tr exn_back)
    have sg3 := sg1.tr sg2 (nlf o2 (by decide))
    rw [o3]
    refine Or.inr ⟨by omega, ?_⟩
    rcases ih (by omega) with ⟨rfl, q2⟩ | ⟨q1, q2⟩
    · rw [q2] at sg3
      exact sg3
    · exact q2.tr sg3 nl
end UGS
theorem TE.ubind {t : Ty} {f : Nat → Int32} {v : Nat} : TE ((exn t f 1).1 - 1, (exn t f 1).2.1, v + 1, tup (exn t f 1).2.2.2 v (tp (exn t f 1) 0)) (t.1, t.2.1, v + 1, tup t.2.2.2 v (f 0)) := by
  rw [exn_tp (by decide)]
  refine ⟨?_, fun j hj => ?_, Nat.le_refl _, fun _ _ => rfl⟩
  · show t.1 + 1 - 1 = t.1
    omega
  · have hj : j < t.1 + 1 - 1 := hj
    show t.2.1 j = (if j < t.1 then t.2.1 j else f (j - t.1))
    rw [if_pos (by omega)]
theorem CX.ug {X : St} (h19 : (X.1 0 19).toInt ≤ 3100) (hnm : ∀ i : Nat, (i : Int) < (X.1 0 19).toInt → (X.1 20 i).toInt = 3 → 0 ≤ (X.1 26 i).toInt ∧ (X.1 26 i).toInt < (X.1 0 18).toInt) (hsg : ∀ i : Nat, (i : Int) < (X.1 0 19).toInt → (X.1 20 i).toInt = 14 → 2 ≤ (levF (X.1 26 i).toInt64).toInt) {n lo hi : Nat} {sc : Int} {s e : Nat} (h : CX X n lo hi sc s e) : UP X n lo hi sc s e := by
  refine CX.ind (P := fun n lo hi sc s e => UP X n lo hi sc s e) ?_ h
  clear h
  rintro n lo hi sc s e ⟨hlo, hhi, hse, h0, h⟩ hb t ht
  have hn : n < 3100 := by omega
  have t44 : t.2.2.1 ≤ 44 := by
    have := ht.1
    have := ht.2.1
    omega
  have st : ∀ t0, TE t t0 → UG X (s + 1) e t0 (psh t 2) → UG X s e t (psh t 2) := fun t0 h1 h2 => UG.step h0 hn t44 h1 h2
  rcases h with ⟨a, b, c, d⟩ | ⟨a, b, c⟩ | ⟨a, u, v, p, b, c, d, f, g⟩ | ⟨p, q, a, b, c, d, f, g⟩ | ⟨a, b, m, p, q, c, d, f, g, i⟩ | ⟨a, b, p, q, c, d, f, g, i, j⟩ | ⟨a, m, p, q, u, b, c, d, f, g, i, j, k⟩ | ⟨a, b, m1, m2, p, q, u, c, d, f, g, i, j, k, l, o, w, x, y, z, tt⟩ | ⟨a, b, c, d, f, m, p, g, i, j, k⟩ | ⟨a, b, c, q, ⟨it, cu, ps, d⟩, f, g⟩ | ⟨a, b, c, ⟨it, cu, ps, d⟩⟩ | ⟨a, b, p, q, c, d, ⟨it, cu, ps, f⟩, g, i⟩
  · refine st t TE.rf ?_
    rw [c]
    rcases d with ⟨-, d⟩ | ⟨-, d⟩ | ⟨-, d, d2, d3⟩ | ⟨k, d⟩
    · exact UG.leaf d hn t44 (Or.inl ⟨Or.inl rfl, Or.inl ⟨rfl, rfl⟩⟩) TE.rf
    · exact UG.leaf d hn t44 (Or.inl ⟨Or.inr rfl, Or.inl ⟨rfl, rfl⟩⟩) TE.rf
    · have ev := ixc d2
      have hv : ix (X.1 26 n) < t.2.2.1 := by
        have := ht.1
        omega
      exact UG.leaf d hn t44 (Or.inr (Or.inl ⟨rfl, ix (X.1 26 n), ev.symm, hv, (ht.2.2 _ hv).symm⟩)) TE.rf
    · obtain ⟨d2, d3⟩ := hnm n (by omega) k
      have ev := ixc d2
      exact UG.leaf d hn t44 (Or.inr (Or.inr ⟨rfl, ix (X.1 26 n), ev.symm, by omega, Or.inl ⟨rfl, rfl⟩⟩)) TE.rf
  · refine st t TE.rf ?_
    obtain ⟨c1, c2, c3, c4, c5⟩ := uch c hb
    exact (c1 t ht).to (exn_end rfl)
  · refine st t TE.rf ?_
    obtain ⟨c1, c2, c3, c4, c5⟩ := uch c hb
    rw [g]
    rcases b with ⟨-, rfl, rfl⟩ | ⟨-, rfl, rfl⟩ | ⟨-, rfl, rfl⟩ | ⟨-, rfl, rfl⟩
    · exact ((c1 t ht).tr (UG.gdx (m := 0) (f1 := f3 3 0 0) d (by omega) t44 (by unfold GOP; omega) (Or.inr ⟨rfl, Or.inr (Or.inr (Or.inl ⟨Or.inr rfl, rfl⟩))⟩) (fun j hj => absurd hj (Nat.not_lt_zero _))) (nlf d (by decide))).tr (UG.un f hn t44 (Or.inl ⟨rfl, by rw [exn_tp (by decide)]; rfl⟩) (by show 1 ≤ t.1 + 1; omega) ((exn_psh (g := UF) (i := 1) (by decide) (fun j hj => absurd hj (by omega)) rfl).tr (exn_end rfl))) (nlf f (by decide))
    · exact ((c1 t ht).tr (UG.gdx (m := 0) (f1 := f3 0 0 0) d (by omega) t44 (by unfold GOP; omega) (Or.inr ⟨rfl, Or.inr (Or.inl ⟨Or.inl rfl, rfl⟩)⟩) (fun j hj => absurd hj (Nat.not_lt_zero _))) (nlf d (by decide))).tr (UG.un f hn t44 (Or.inr ⟨Or.inl rfl, by rw [exn_tp (by decide)]; rfl⟩) (by show 1 ≤ t.1 + 1; omega) ((exn_psh (g := UF) (i := 1) (by decide) (fun j hj => absurd hj (by omega)) rfl).tr (exn_end rfl))) (nlf f (by decide))
    · exact ((c1 t ht).tr (UG.gdx (m := 0) (f1 := f3 0 0 0) d (by omega) t44 (by unfold GOP; omega) (Or.inr ⟨rfl, Or.inr (Or.inl ⟨Or.inl rfl, rfl⟩)⟩) (fun j hj => absurd hj (Nat.not_lt_zero _))) (nlf d (by decide))).tr (UG.un f hn t44 (Or.inr ⟨Or.inr (Or.inl rfl), by rw [exn_tp (by decide)]; rfl⟩) (by show 1 ≤ t.1 + 1; omega) ((exn_psh (g := UF) (i := 1) (by decide) (fun j hj => absurd hj (by omega)) rfl).tr (exn_end rfl))) (nlf f (by decide))
    · exact ((c1 t ht).tr (UG.gdx (m := 0) (f1 := f3 1 0 0) d (by omega) t44 (by unfold GOP; omega) (Or.inr ⟨rfl, Or.inr (Or.inl ⟨Or.inr rfl, rfl⟩)⟩) (fun j hj => absurd hj (Nat.not_lt_zero _))) (nlf d (by decide))).tr (UG.un f hn t44 (Or.inr ⟨Or.inr (Or.inr rfl), by rw [exn_tp (by decide)]; rfl⟩) (by show 1 ≤ t.1 + 1; omega) ((exn_psh (g := UF) (i := 1) (by decide) (fun j hj => absurd hj (by omega)) rfl).tr (exn_end rfl))) (nlf f (by decide))
  · refine st t TE.rf ?_
    obtain ⟨c1, c2, c3, c4, c5⟩ := uch a (by omega)
    obtain ⟨d1, d2, d3, d4, d5⟩ := uch c hb
    rw [g]
    have s1 := (c1 t ht).tr (UG.gdx (m := 0) (f1 := f3 0 2 2) b (by omega) t44 (by unfold GOP; omega) (Or.inr ⟨rfl, Or.inr (Or.inl ⟨Or.inl rfl, rfl⟩)⟩) (fun j hj => absurd hj (Nat.not_lt_zero _))) (nlf b (by decide))
    have s2 := (s1.tr ((d1 (exn t (f3 0 2 2) 1) ht).to (exn_end rfl) |>.to (exn_psh0 (f := f3 0 2 2) (g := f3 0 2 2) (fun _ _ => rfl) rfl)) d5)
    have s3 := s2.tr (UG.gdx (m := 1) (f1 := f3 0 0 2) d (by omega) t44 (by unfold GOP; omega) (Or.inr ⟨rfl, Or.inr (Or.inl ⟨Or.inl rfl, rfl⟩)⟩) (fun j hj => by obtain rfl : j = 0 := (by omega); rfl)) (nlf d (by decide))
    rcases f with ⟨k14, f⟩ | ⟨-, f⟩
    · exact s3.tr (UG.bin f hn t44 (Or.inl rfl) (by show 2 ≤ t.1 + 2; omega) ⟨by rw [exn_tp (by decide)]; rfl, by rw [exn_tp (by decide)]; rfl⟩ (fun _ => hsg n (by omega) k14) ((exn_psh (g := UF) (i := 2) (by decide) (fun j hj => absurd hj (by omega)) rfl).tr (exn_end rfl))) (nlf f (by decide))
    · exact s3.tr (UG.bin f hn t44 (Or.inr rfl) (by show 2 ≤ t.1 + 2; omega) ⟨by rw [exn_tp (by decide)]; rfl, by rw [exn_tp (by decide)]; rfl⟩ (fun q => absurd q (by decide)) ((exn_psh (g := UF) (i := 2) (by decide) (fun j hj => absurd hj (by omega)) rfl).tr (exn_end rfl))) (nlf f (by decide))
  · refine st t TE.rf ?_
    obtain ⟨d1, d2, d3, d4, d5⟩ := uch f hb
    obtain ⟨c1, c2, c3, c4, c5⟩ := uch c (by omega)
    rw [i]
    have s1 := (c1 t ht).tr (UG.gdx (m := 0) (f1 := f3 0 2 2) d (by omega) t44 (by unfold GOP; omega) (Or.inr ⟨rfl, Or.inr (Or.inl ⟨Or.inl rfl, rfl⟩)⟩) (fun j hj => absurd hj (Nat.not_lt_zero _))) (nlf d (by decide))
    have s2 := s1.tr ((d1 (exn t (f3 0 2 2) 1) ht).to (exn_end rfl) |>.to (exn_psh0 (f := f3 0 2 2) (g := f3 0 2 2) (fun _ _ => rfl) rfl)) d5
    exact s2.tr (UG.new g hn t44 (by show 2 ≤ t.1 + 2; omega) (by rw [exn_tp (by decide)]; rfl) (by rw [exn_tp (by decide)]; rfl) ((exn_psh (g := UF) (i := 2) (by decide) (fun j hj => absurd hj (by omega)) rfl).tr (exn_end rfl))) (nlf g (by decide))
  · refine st t TE.rf ?_
    obtain ⟨d1, d2, d3, d4, d5⟩ := uch f hb
    obtain ⟨c1, c2, c3, c4, c5⟩ := uch c (by omega)
    rw [j]
    have s1 := (c1 t ht).tr (UG.gdx (m := 0) (f1 := f3 3 2 2) d (by omega) t44 (by unfold GOP; omega) (Or.inr ⟨rfl, Or.inr (Or.inr (Or.inl ⟨Or.inl rfl, rfl⟩))⟩) (fun j hj => absurd hj (Nat.not_lt_zero _))) (nlf d (by decide))
    have s2 := s1.tr ((d1 (exn t (f3 3 2 2) 1) ht).to (exn_end rfl) |>.to (exn_psh0 (f := f3 3 2 2) (g := f3 3 2 2) (fun _ _ => rfl) rfl)) d5
    have s3 := s2.tr (UG.gdx (m := 1) (f1 := f3 3 0 2) g (by omega) t44 (by unfold GOP; omega) (Or.inr ⟨rfl, Or.inr (Or.inl ⟨Or.inl rfl, rfl⟩)⟩) (fun j hj => by obtain rfl : j = 0 := (by omega); rfl)) (nlf g (by decide))
    exact s3.tr (UG.place i hn t44 (by show 2 ≤ t.1 + 2; omega) (by rw [exn_tp (by decide)]; rfl) (by rw [exn_tp (by decide)]; rfl) ((exn_psh (g := UF) (i := 2) (by decide) (fun j hj => absurd hj (by omega)) rfl).tr (exn_end rfl))) (nlf i (by decide))
  · refine st t TE.rf ?_
    obtain ⟨e1, e2, e3, e4, e5⟩ := uch g hb
    obtain ⟨d1, d2, d3, d4, d5⟩ := uch d (by omega)
    obtain ⟨c1, c2, c3, c4, c5⟩ := uch b (by omega)
    rw [k]
    have s1 := (c1 t ht).tr (UG.gdx (m := 0) (f1 := f3 3 2 2) c (by omega) t44 (by unfold GOP; omega) (Or.inr ⟨rfl, Or.inr (Or.inr (Or.inl ⟨Or.inl rfl, rfl⟩))⟩) (fun j hj => absurd hj (Nat.not_lt_zero _))) (nlf c (by decide))
    have s2 := s1.tr ((d1 (exn t (f3 3 2 2) 1) ht).to (exn_end rfl) |>.to (exn_psh0 (f := f3 3 2 2) (g := f3 3 2 2) (fun _ _ => rfl) rfl)) d5
    have s3 := s2.tr (UG.gdx (m := 1) (f1 := f3 3 0 2) f (by omega) t44 (by unfold GOP; omega) (Or.inr ⟨rfl, Or.inr (Or.inl ⟨Or.inl rfl, rfl⟩)⟩) (fun j hj => by obtain rfl : j = 0 := (by omega); rfl)) (nlf f (by decide))
    have s4 := s3.tr ((e1 (exn t (f3 3 0 2) 2) ht).to (exn_end rfl) |>.to (exn_psh0 (f := f3 3 0 2) (g := f3 3 0 2) (fun _ _ => rfl) rfl)) e5
    have s5 := s4.tr (UG.gdx (m := 2) (f1 := f3 3 0 2) i (by omega) t44 (by unfold GOP; omega) (Or.inr ⟨rfl, Or.inl rfl⟩) (fun j hj => rfl)) (nlf i (by decide))
    exact s5.tr (UG.assign j hn t44 (by show 3 ≤ t.1 + 3; omega) (by rw [exn_tp (by decide)]; rfl) (by rw [exn_tp (by decide)]; rfl) (by rw [exn_tp (by decide)]; rfl) ((exn_psh (g := UF) (i := 3) (by decide) (fun j hj => absurd hj (by omega)) (by rw [exn_tp (by decide)]; rfl)).tr (exn_end rfl))) (nlf j (by decide))
  · refine st t TE.rf ?_
    obtain ⟨e1, e2, e3, e4, e5⟩ := uch o hb
    obtain ⟨d1, d2, d3, d4, d5⟩ := uch g (by omega)
    obtain ⟨c1, c2, c3, c4, c5⟩ := uch c (by omega)
    rw [tt]
    have s1 := (c1 t ht).tr (UG.gdx (m := 0) (f1 := f3 1 2 2) d (by omega) t44 (by unfold GOP; omega) (Or.inr ⟨rfl, Or.inr (Or.inl ⟨Or.inr rfl, rfl⟩)⟩) (fun j hj => absurd hj (Nat.not_lt_zero _))) (nlf d (by decide))
    have s2 := (d1 t ht).tr (UG.gdx (m := 0) (f1 := UF) i (by omega) t44 (by unfold GOP; omega) (Or.inr ⟨rfl, Or.inl rfl⟩) (fun j hj => absurd hj (Nat.not_lt_zero _))) (nlf i (by decide))
    have s3 := (e1 t ht).tr (UG.gdx (m := 0) (f1 := UF) w (by omega) t44 (by unfold GOP; omega) (Or.inr ⟨rfl, Or.inl rfl⟩) (fun j hj => absurd hj (Nat.not_lt_zero _))) (nlf w (by decide))
    exact (UG.ite (t2 := exn t UF 1) (t0 := t) (q := q + 1) (u := u + 1) s1 ⟨t44, t44⟩ f hn (by show 1 ≤ t.1 + 1; omega) (by rw [exn_tp (by decide)]; rfl) ((exn_pps (i := 1) (by decide)).tr exn_back) (by rw [l]; omega) s2 k (by rw [z]; omega) s3 y d5 e5).to (exn_end rfl)
  · refine st t TE.rf ?_
    obtain ⟨d1, d2, d3, d4, d5⟩ := uch k hb
    obtain ⟨c1, c2, c3, c4, c5⟩ := uch g (by omega)
    have s1 := (c1 t ht).tr (UG.gdx (m := 0) (f1 := UF) i (by omega) t44 (by unfold GOP; omega) (Or.inr ⟨rfl, Or.inl rfl⟩) (fun j hj => absurd hj (Nat.not_lt_zero _))) (nlf i (by decide))
    obtain ⟨v, hv⟩ : ∃ v : Nat, sc = (v : Int) := ⟨sc.toNat, by omega⟩
    have hvt : v = t.2.2.1 := by
      have := ht.1
      omega
    have s2 := s1.tr (UG.bind (v := v) j hn t44 (by show 1 ≤ t.1 + 1; omega) (by omega) (by omega) (by show v ≤ t.2.2.1; omega) TE.ubind) (nlf j (by decide))
    have ut : UT ((t.1, t.2.1, v + 1, tup t.2.2.2 v (UF 0)) : Ty) (sc + 1) := by
      refine ⟨?_, by omega, fun j hj => ?_⟩
      · show ((v + 1 : Nat) : Int) = sc + 1
        omega
      · have hj : j < v + 1 := hj
        show tup t.2.2.2 v 2 j = 2
        by_cases hq : j = v
        · rw [hq, tup_at]
        · rw [tup_ne _ _ hq]
          exact ht.2.2 j (by omega)
    have s3 := s2.tr ((d1 _ ut).to (exn_end rfl)) d5
    refine s3.to ⟨rfl, fun _ _ => rfl, ?_, fun j hj => ?_⟩
    · show t.2.2.1 ≤ v + 1
      omega
    · have hj : j < t.2.2.1 := hj
      show t.2.2.2 j = tup t.2.2.2 v 2 j
      rw [tup_ne _ _ (by omega)]
  · have d27 := d.2.2.2.2.1
    have e27 := ixc d27
    have dq := d.2.2.2.1
    have hs := uls (m0 := 0) (F := UF) h19 hb d (Or.inl rfl) ht (fun _ _ => rfl) _ (Nat.le_refl _)
    rw [dq] at hs
    rcases hs with ⟨h1, h2⟩ | ⟨h1, h2⟩
    · refine st t TE.rf ?_
      rw [g, h2]
      rw [h2] at f
      exact UG.row (m := 0) f hn t44 (by omega) (by omega) (by omega) (fun j hj => absurd hj (Nat.not_lt_zero _)) TE.rf
    · refine st _ (exn_zero (f := UF)) ?_
      rw [Nat.zero_add] at h2
      have nl : ¬ LFP X q := by
        intro z
        have f1 := f.1
        have f2 := ixn f.2
        unfold LFP at z
        rw [f2] at z
        omega
      rw [g]
      exact h2.tr (UG.row f hn t44 (m := ix (X.1 27 n)) (by omega) (by omega) (by show ix (X.1 27 n) ≤ t.1 + ix (X.1 27 n); omega) (fun j hj => by rw [exn_tp hj]; rfl) ((exn_psh (g := UF) (i := ix (X.1 27 n)) (Nat.le_refl _) (fun j hj => rfl) (by rw [Nat.sub_self]; rfl)).tr (by rw [Nat.sub_self]; exact exn_end rfl))) nl
  · refine st t TE.rf ?_
    have d27 := d.2.2.2.2.1
    have e27 := ixc d27
    have dq := d.2.2.2.1
    obtain ⟨m, hm⟩ : ∃ m, ix (X.1 27 n) = m + 1 := ⟨ix (X.1 27 n) - 1, by omega⟩
    have hs := ubl h19 hb d ht m (by omega)
    have hle := d.le (fun n lo hi sc s e q => q.1.bd) m (by omega)
    obtain ⟨⟨p1, ⟨x1, x2⟩, x3⟩, -⟩ := d.2.2.2.2.2.2.2 m (by omega)
    have nl := nlf x1.inv.2.2.2.1 (by decide)
    rw [hm] at dq
    have ep : p1 = e := by
      rcases x3 with ⟨y1, -⟩ | ⟨_, ⟨y2, -⟩ | ⟨_, y2⟩⟩ | ⟨y1, -⟩
      · omega
      · omega
      · omega
      · omega
    subst ep
    have sg := x2 (by omega) t ht
    rcases hs with ⟨h1, h2⟩ | ⟨h1, h2⟩
    · rw [h2] at sg
      exact sg
    · exact h2.tr sg nl
  · refine st t TE.rf ?_
    obtain ⟨c1, c2, c3, c4, c5⟩ := uch c (by omega)
    have f27 := f.2.2.2.2.1
    have e27 := ixc f27
    have fq := f.2.2.2.1
    have z10 : (10 : Int32).toInt = 10 := rfl
    obtain ⟨kF, hkF⟩ : ∃ k : Int32, k.toInt = 10 + (X.1 27 n).toInt := ⟨10 + X.1 27 n, by rw [ti_add (by rw [z10]; omega) (by rw [z10]; omega), z10]⟩
    have s1 := (c1 t ht).tr (UG.gdx (m := 0) (f1 := tup UF 0 kF) d (by omega) t44 (by unfold GOP; omega) (Or.inr ⟨rfl, Or.inr (Or.inr (Or.inr ⟨rfl, by rw [tup_at]; exact hkF⟩))⟩) (fun j hj => absurd hj (Nat.not_lt_zero _))) (nlf d (by decide))
    have hs := uls (m0 := 1) (F := tup UF 0 kF) h19 hb f (Or.inr rfl) ht (fun j hj => tup_ne _ _ (by omega)) _ (Nat.le_refl _)
    rw [fq] at hs
    have fin : UG X (s + 1) q t (exn t (tup UF 0 kF) (ix (X.1 27 n) + 1)) := by
      rcases hs with ⟨h1, h2⟩ | ⟨h1, h2⟩
      · rw [h1, h2]
        exact s1
      · rw [Nat.add_comm (ix (X.1 27 n)) 1]
        refine s1.tr h2 ?_
        have hle := f.le (fun n lo hi sc s e q => q.1.bd) 0 (by omega)
        obtain ⟨⟨p1, ⟨x1, x2⟩, x3⟩, -⟩ := f.2.2.2.2.2.2.2 0 (by omega)
        have nl := nlf x1.inv.2.2.2.1 (by decide)
        rw [f.2.2.1] at nl
        exact nl
    rw [i]
    have tpF : tp (exn t (tup UF 0 kF) (ix (X.1 27 n) + 1)) (ix (X.1 27 n)) = kF := by
      rw [exn_tp (by omega), show ix (X.1 27 n) + 1 - 1 - ix (X.1 27 n) = 0 by omega, tup_at]
    exact fin.tr (UG.call (m := ix (X.1 27 n)) g hn t44 (by omega) (by omega) (by show ix (X.1 27 n) + 1 ≤ t.1 + (ix (X.1 27 n) + 1); omega) (by rw [tpF]; omega) (fun j hj => by rw [exn_tp (by omega), tup_ne _ _ (by omega)]; rfl) ((exn_psh (g := UF) (i := ix (X.1 27 n) + 1) (Nat.le_refl _) (fun j hj => absurd hj (by omega)) rfl).tr (by rw [Nat.sub_self]; exact exn_end rfl))) (nlf g (by decide))
