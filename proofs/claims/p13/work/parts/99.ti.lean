/-! judges() -/
/-- all that the rules of a judged code speak of stays -/
def JW (X Y : St) (S : Nat → Prop) : Prop := ((∀ i, Y.1 15 i = X.1 15 i ∧ Y.1 16 i = X.1 16 i ∧ Y.1 17 i = X.1 17 i ∧ Y.1 19 i = X.1 19 i ∧ Y.1 26 i = X.1 26 i ∧ Y.1 27 i = X.1 27 i ∧ Y.1 46 i = X.1 46 i ∧ Y.1 47 i = X.1 47 i ∧ Y.1 40 i = X.1 40 i ∧ Y.1 41 i = X.1 41 i) ∧ Y.1 0 18 = X.1 0 18) ∧ KX X Y ∧ ((X.1 0 28).toInt ≤ (Y.1 0 28).toInt ∧ (∀ i : Nat, (i : Int) < (X.1 0 28).toInt → Y.1 53 i = X.1 53 i ∧ Y.1 54 i = X.1 54 i ∧ Y.1 55 i = X.1 55 i ∧ Y.1 56 i = X.1 56 i) ∧ GN X Y) ∧ ∀ i, ¬ S i → Y.1 43 i = X.1 43 i
theorem JW.fr {X Y : St} {L : List Nat} (h : Fr YR L X Y) (hK : KX X Y) (hl : 3000 ∉ L ∧ 3200 ∉ L ∧ 3400 ∉ L ∧ 3800 ∉ L ∧ 5200 ∉ L ∧ 5400 ∉ L ∧ 9200 ∉ L ∧ 9400 ∉ L ∧ 8000 ∉ L ∧ 8200 ∉ L ∧ 18 ∉ L ∧ 28 ∉ L ∧ 8600 ∉ L ∧ 10600 ∉ L ∧ 10800 ∉ L ∧ 11000 ∉ L ∧ 11200 ∉ L) (S : Nat → Prop) : JW X Y S := by
  obtain ⟨h15, h16, h17, h19, h26, h27, h46, h47, h40, h41, h18, h28, h43, h53, h54, h55, h56⟩ := hl
  exact ⟨⟨fun i => ⟨h.1 15 i h15, h.1 16 i h16, h.1 17 i h17, h.1 19 i h19, h.1 26 i h26, h.1 27 i h27, h.1 46 i h46, h.1 47 i h47, h.1 40 i h40, h.1 41 i h41⟩, h.1 0 18 h18⟩, hK, ⟨by rw [h.1 0 28 h28]; exact Int.le_refl _, fun i _ => ⟨h.1 53 i h53, h.1 54 i h54, h.1 55 i h55, h.1 56 i h56⟩, fun i h1 h2 => by rw [h.1 0 28 h28] at h2; omega⟩, fun i _ => h.1 43 i h43⟩
theorem JR.jw {X Y : St} {S : Nat → Prop} (h : JR X Y S) : JW X Y S := by
  obtain ⟨hF, hT, hK, hG, h43⟩ := h
  exact ⟨⟨fun i => ⟨hF.1 15 i (show (3000 : Nat) ∉ [9, 10, 13, 15, 28, 30, 800, 1000, 1200, 1400, 1600, 1800, 2000, 6200, 6400, 8600, 10400, 10600, 10800, 11000, 11200, 11400, 11600, 11800] from by decide), hF.1 16 i (show (3200 : Nat) ∉ [9, 10, 13, 15, 28, 30, 800, 1000, 1200, 1400, 1600, 1800, 2000, 6200, 6400, 8600, 10400, 10600, 10800, 11000, 11200, 11400, 11600, 11800] from by decide), hF.1 17 i (show (3400 : Nat) ∉ [9, 10, 13, 15, 28, 30, 800, 1000, 1200, 1400, 1600, 1800, 2000, 6200, 6400, 8600, 10400, 10600, 10800, 11000, 11200, 11400, 11600, 11800] from by decide), hF.1 19 i (show (3800 : Nat) ∉ [9, 10, 13, 15, 28, 30, 800, 1000, 1200, 1400, 1600, 1800, 2000, 6200, 6400, 8600, 10400, 10600, 10800, 11000, 11200, 11400, 11600, 11800] from by decide), hF.1 26 i (show (5200 : Nat) ∉ [9, 10, 13, 15, 28, 30, 800, 1000, 1200, 1400, 1600, 1800, 2000, 6200, 6400, 8600, 10400, 10600, 10800, 11000, 11200, 11400, 11600, 11800] from by decide), hF.1 27 i (show (5400 : Nat) ∉ [9, 10, 13, 15, 28, 30, 800, 1000, 1200, 1400, 1600, 1800, 2000, 6200, 6400, 8600, 10400, 10600, 10800, 11000, 11200, 11400, 11600, 11800] from by decide), hF.1 46 i (show (9200 : Nat) ∉ [9, 10, 13, 15, 28, 30, 800, 1000, 1200, 1400, 1600, 1800, 2000, 6200, 6400, 8600, 10400, 10600, 10800, 11000, 11200, 11400, 11600, 11800] from by decide), hF.1 47 i (show (9400 : Nat) ∉ [9, 10, 13, 15, 28, 30, 800, 1000, 1200, 1400, 1600, 1800, 2000, 6200, 6400, 8600, 10400, 10600, 10800, 11000, 11200, 11400, 11600, 11800] from by decide), hF.1 40 i (show (8000 : Nat) ∉ [9, 10, 13, 15, 28, 30, 800, 1000, 1200, 1400, 1600, 1800, 2000, 6200, 6400, 8600, 10400, 10600, 10800, 11000, 11200, 11400, 11600, 11800] from by decide), hF.1 41 i (show (8200 : Nat) ∉ [9, 10, 13, 15, 28, 30, 800, 1000, 1200, 1400, 1600, 1800, 2000, 6200, 6400, 8600, 10400, 10600, 10800, 11000, 11200, 11400, 11600, 11800] from by decide)⟩, hF.1 0 18 (by decide)⟩, hK, hG, h43⟩
theorem GRD.jw {X Y : St} {S : Nat → Prop} {o : Nat} {k k1 : Int32} (h : GRD X o k k1) (hT : KT X) (hJ : JW X Y S) (ho : ¬ S o) (hk : 0 ≤ k.toInt ∧ k.toInt < (X.1 0 13).toInt) (hk1 : 0 ≤ k1.toInt ∧ k1.toInt < (X.1 0 13).toInt) : GRD Y o k k1 := by
  obtain ⟨a, c, ⟨d1, d2, -⟩, e⟩ := hJ
  rcases h with ⟨h1, h2⟩ | ⟨h1, g, h2, h3, h4, h5, h6, h7⟩
  · exact Or.inl ⟨h1, by rw [e o ho]; exact h2⟩
  · obtain ⟨p, q, r, t⟩ := d2 g h3
    exact Or.inr ⟨h1.kx hT c hk hk1, g, by rw [e o ho]; exact h2, by omega, by rw [p]; exact h4, by rw [q]; exact h5, by rw [r]; exact h6, by rw [t]; exact h7⟩
theorem RULE.jw {X Y : St} {PT : Nat → Ty} {s e o : Nat} {S : Nat → Prop} (h : RULE X PT s e o) (hT : KT X) (hJ : JW X Y S) (ho : ¬ S o) : RULE Y PT s e o := by
  obtain ⟨hv, op, n, hoa, hn, h⟩ := h
  have hK := hJ.2.1
  have r26 : Y.1 26 n = X.1 26 n := (hJ.1.1 n).2.2.2.2.1
  have r27 : Y.1 27 n = X.1 27 n := (hJ.1.1 n).2.2.2.2.2.1
  have r46 : Y.1 46 n = X.1 46 n := (hJ.1.1 n).2.2.2.2.2.2.1
  have r47 : Y.1 47 n = X.1 47 n := (hJ.1.1 n).2.2.2.2.2.2.2.1
  have r40 : Y.1 40 o = X.1 40 o := (hJ.1.1 o).2.2.2.2.2.2.2.2.1
  have r41 : Y.1 41 o = X.1 41 o := (hJ.1.1 o).2.2.2.2.2.2.2.2.2
  have r15 : ∀ i, Y.1 15 i = X.1 15 i := fun i => (hJ.1.1 i).1
  have r16 : ∀ i, Y.1 16 i = X.1 16 i := fun i => (hJ.1.1 i).2.1
  have r17 : ∀ i, Y.1 17 i = X.1 17 i := fun i => (hJ.1.1 i).2.2.1
  have r19 : ∀ i, Y.1 19 i = X.1 19 i := fun i => (hJ.1.1 i).2.2.2.1
  have r18 : Y.1 0 18 = X.1 0 18 := hJ.1.2
  refine ⟨⟨fun j hj => (hv.1 j hj).kx hK, fun j hj => (hv.2.1 j hj).kx hK, hv.2.2⟩, op, n, ⟨by rw [r40]; exact hoa.1, by rw [r41]; exact hoa.2⟩, hn, ?_⟩
  rw [r26, r27, r46, r47]
  have tv : ∀ i, i < (PT o).1 → VK X (tp (PT o) i) := fun i hi => hv.1 _ (by omega)
  rcases h with ⟨a, b⟩ | ⟨k, a, b, c⟩ | ⟨a, b, k, c, d, f⟩ | ⟨a, b, v, c, d, f, g⟩ | ⟨a, b, c, d, q, f, g⟩ | ⟨a, q, b, c⟩ | ⟨a, b⟩ | ⟨a, m, r, e1, b, c, d, f, g, i⟩ | ⟨a, b, c, r, d, f⟩ | ⟨a, b, c⟩ | ⟨a, b, c, d⟩ | ⟨a, b, c, d, f⟩ | ⟨a, b, c, e1, d, f, g⟩ | ⟨a, b, c, d, f⟩ | ⟨a, m, b, c, d, f, g, i⟩ | ⟨a, b, c⟩
  · exact (Or.inl ⟨a, b⟩)
  · refine (Or.inr (Or.inl ⟨k, ?_, b.kx hK, c⟩))
    rcases a with a | a | ⟨a1, v, a2, a3, a4⟩ | ⟨a1, p, a2, a3, a0, a4, a5, a6⟩
    · exact Or.inl a
    · exact Or.inr (Or.inl a)
    · exact Or.inr (Or.inr (Or.inl ⟨a1, v, by rw [r26]; exact a2, a3, a4⟩))
    · have a45 := a4.2.2.2
      have pk : ∀ i, pkv Y p i = pkv X p i := fun i => by
        unfold pkv
        rw [r19, r16]
      have ok1 : okv Y p = okv X p := by
        unfold okv
        rw [r19, r17]
      refine Or.inr (Or.inr (Or.inr ⟨a1, p, by rw [r26]; exact a2, by rw [r18]; exact a3, by rw [r15]; exact a0, by rw [r15]; exact a4.kx hK, fun i hi => ?_, ?_⟩))
      · rw [r15] at hi
        rw [cmpK_kx hT hK a4.1 a4.2.1 (by have := ixc a0; omega), pk]
        exact a5 i hi
      · rw [r15, ok1, cmpK_kx hT hK a4.1 a4.2.1 (by have := ixc a0; omega)]
        exact a6
  · exact (Or.inr (Or.inr (Or.inl ⟨a, b, k, c.jw hT hJ ho (tv 0 b) d, d.kx hK, f⟩)))
  · exact (Or.inr (Or.inr (Or.inr (Or.inl ⟨a, b, v, c, d, f, g⟩))))
  · exact (Or.inr (Or.inr (Or.inr (Or.inr (Or.inl ⟨a, b, c, d, q, f, g⟩)))))
  · exact (Or.inr (Or.inr (Or.inr (Or.inr (Or.inr (Or.inl ⟨a, q, b, c⟩))))))
  · exact (Or.inr (Or.inr (Or.inr (Or.inr (Or.inr (Or.inr (Or.inl ⟨a, b⟩)))))))
  · exact (Or.inr (Or.inr (Or.inr (Or.inr (Or.inr (Or.inr (Or.inr (Or.inl ⟨a, m, r, e1, b, c, d, f, g.kx hT hK, i⟩))))))))
  · exact (Or.inr (Or.inr (Or.inr (Or.inr (Or.inr (Or.inr (Or.inr (Or.inr (Or.inl ⟨a, b, c, r, d.kx hT hK, f⟩)))))))))
  · refine (Or.inr (Or.inr (Or.inr (Or.inr (Or.inr (Or.inr (Or.inr (Or.inr (Or.inr (Or.inl ⟨?_, b, c⟩))))))))))
    rcases a with ⟨a1, e1, a2⟩ | a | a
    · exact Or.inl ⟨a1, e1, a2.kx hT hK⟩
    · exact Or.inr (Or.inl a)
    · exact Or.inr (Or.inr a)
  · exact (Or.inr (Or.inr (Or.inr (Or.inr (Or.inr (Or.inr (Or.inr (Or.inr (Or.inr (Or.inr (Or.inl ⟨a, b, c, d⟩)))))))))))
  · exact (Or.inr (Or.inr (Or.inr (Or.inr (Or.inr (Or.inr (Or.inr (Or.inr (Or.inr (Or.inr (Or.inr (Or.inl ⟨a, b, c, d, f⟩))))))))))))
  · exact (Or.inr (Or.inr (Or.inr (Or.inr (Or.inr (Or.inr (Or.inr (Or.inr (Or.inr (Or.inr (Or.inr (Or.inr (Or.inl ⟨a, b, c, e1, d.kx hT hK, f.kx hK, g⟩)))))))))))))
  · exact (Or.inr (Or.inr (Or.inr (Or.inr (Or.inr (Or.inr (Or.inr (Or.inr (Or.inr (Or.inr (Or.inr (Or.inr (Or.inr (Or.inl ⟨a, b, c, d.kx hT hK, f⟩))))))))))))))
  · have f5 := f.2.2.2
    refine (Or.inr (Or.inr (Or.inr (Or.inr (Or.inr (Or.inr (Or.inr (Or.inr (Or.inr (Or.inr (Or.inr (Or.inr (Or.inr (Or.inr (Or.inl ⟨a, m, b, c, d, f.kx hK, fun i2 hi2 => ?_, ?_⟩)))))))))))))))
    · rw [cmpK_kx hT hK f.1 f.2.1 (by omega)]
      exact g i2 hi2
    · rw [cmpK_kx hT hK f.1 f.2.1 (by omega)]
      exact i
  · exact (Or.inr (Or.inr (Or.inr (Or.inr (Or.inr (Or.inr (Or.inr (Or.inr (Or.inr (Or.inr (Or.inr (Or.inr (Or.inr (Or.inr (Or.inr ⟨a, b, c⟩)))))))))))))))
theorem SEG.jw {X Y : St} {s e : Nat} {t t1 : Ty} {S : Nat → Prop} (h : SEG X s e t t1) (hT : KT X) (hJ : JW X Y S) (hS : ∀ i, s ≤ i → i < e → ¬ S i) : SEG Y s e t t1 := by
  obtain ⟨h0, PT, h1, h2, h3⟩ := h
  exact ⟨h0, PT, h1, h2, fun o a b => (h3 o a b).jw hT hJ (hS o a b)⟩
/-- the type at the beginning of part p -/
def pty (X : St) (p : Nat) : Ty := (0, fun _ => 0, ix (X.1 15 p), fun i => pkv X p i)
theorem JW.pk {X Y : St} {S : Nat → Prop} (h : JW X Y S) (p i : Nat) : pkv Y p i = pkv X p i := by
  have a := h.1.1 p
  have b := h.1.1 (4 * p + i)
  unfold _root_.Jvm.Pilot.CBlameCourtLaw_law_r8381_f30dd1.pkv
  rw [a.2.2.2.1, b.2.1]
theorem JW.ok {X Y : St} {S : Nat → Prop} (h : JW X Y S) (p : Nat) : okv Y p = okv X p := by
  have a := h.1.1 p
  unfold _root_.Jvm.Pilot.CBlameCourtLaw_law_r8381_f30dd1.okv
  rw [a.2.2.2.1, a.2.2.1]
theorem JW.pty {X Y : St} {S : Nat → Prop} (h : JW X Y S) (p : Nat) : pty Y p = pty X p := by
  have a := h.1.1 p
  unfold _root_.Jvm.Pilot.CBlameCourtLaw_law_r8381_f30dd1.pty
  rw [a.1, show (fun i => pkv Y p i) = (fun i => pkv X p i) from funext (fun i => h.pk p i)]
/-- part p is judged: its code leads to one value, and what stands there makes it of its own kind -/
def PJ (X : St) (p s e : Nat) : Prop := ∃ k, VK X k ∧ VK X (okv X p) ∧ SEG X s e (pty X p) (psh (pty X p) k) ∧ GRD X e k (okv X p)
theorem PJ.jw {X Y : St} {S : Nat → Prop} {p s e : Nat} (h : PJ X p s e) (hT : KT X) (hJ : JW X Y S) (hS : ∀ i, s ≤ i → i ≤ e → ¬ S i) : PJ Y p s e := by
  obtain ⟨k, a, b, c, d⟩ := h
  have hse := c.1
  exact ⟨k, a.kx hJ.2.1, by rw [hJ.ok]; exact b.kx hJ.2.1, by rw [hJ.pty]; exact c.jw hT hJ (fun i h1 h2 => hS i h1 (by omega)), by rw [hJ.ok]; exact d.jw hT hJ (hS e (by omega) (Nat.le_refl _)) a b⟩
theorem j_isWell {X : St} : ok (f_isWell X) (fun r Y => X = Y ∧ ((r.toInt = 1 ∧ (X.1 0 9).toInt = 0) ∨ (r.toInt = 0 ∧ ¬ (X.1 0 9).toInt = 0))) := by
  obtain ⟨b, W, Wt, eb, -, e1, -, hb⟩ := t_f_isWell X X 0 0 ⟨fun _ _ _ => rfl, fun _ _ _ => rfl⟩
  exact ⟨b, W, eb, e1, hb⟩
set_option maxHeartbeats 4000000 in
/-- the orders of one part -/
theorem j_part {r37 : Int32 → St → Option (Int32 × St)} {a1 a2 o : Int32} {X : St} {lo po : Nat → Nat} {P p : Nat} (hP : (X.1 0 18).toInt = (P : Int)) (hp : p < P) (hT : KT X) (h3 : K3 X) (hPF : PF X) (hFL : FLa X) (hnm : ∀ i : Nat, (i : Int) < (X.1 0 19).toInt → (X.1 20 i).toInt = 3 → 0 ≤ (X.1 26 i).toInt ∧ (X.1 26 i).toInt < (X.1 0 18).toInt) (h29 : 0 ≤ (X.1 0 29).toInt ∧ (X.1 0 29).toInt ≤ 40) (h30 : (X.1 0 30).toInt = 0) (hw : (X.1 0 9).toInt = 0) (h59 : ∀ j, j < ix (X.1 15 p) → X.1 59 j = pkv X p j) (hC : CODE X lo po P) (hmon : ∀ p q, p ≤ q → q ≤ P → lo p ≤ lo q) (hpo : ∀ q, q ≤ P → po q ≤ 5 * lo q) (hN : lo P ≤ 3000 ∧ (lo P : Int) = (X.1 0 19).toInt) (hcn : (X.1 0 13).toInt + lo P ≤ 5990 + (lo p : Int) ∧ (X.1 0 15).toInt + 5 * (lo P : Int) ≤ 19900 + 5 * (lo p : Int) ∧ 0 ≤ (X.1 0 28).toInt ∧ (X.1 0 28).toInt + lo P ≤ 11900 + (lo p : Int)) (h43 : ∀ j, po p ≤ j → j < po (p + 1) → (X.1 43 j).toInt = -1) (ho : o.toInt = (po p : Int)) (ha2 : a2.toInt = (po (p + 1) : Int)) : ∃ c o1 Y, JGo r37 a1 a2 c o o1 X Y ∧ c ≤ 20000 ∧ JR X Y (fun j => po p ≤ j ∧ j < po (p + 1)) ∧ ((Y.1 0 13).toInt + lo p ≤ (X.1 0 13).toInt + lo (p + 1) ∧ (Y.1 0 15).toInt + 5 * (lo p : Int) ≤ (X.1 0 15).toInt + 5 * (lo (p + 1) : Int) ∧ (Y.1 0 28).toInt + lo p ≤ (X.1 0 28).toInt + lo (p + 1)) ∧ ((Y.1 0 9).toInt = 0 → o1.toInt = (po (p + 1) : Int) ∧ PJ Y p (po p) (po (p + 1) - 2)) := by
  have hm1 := hmon p (p + 1) (by omega) (by omega)
  have hm2 := hmon (p + 1) P (by omega) (Nat.le_refl _)
  have hp5 := hpo (p + 1) (by omega)
  obtain ⟨c44, c18, e, cx, oe, oe1, pe⟩ := hC p hp
  have hbd := cx.bd
  have e18 := ixc c18
  obtain ⟨⟨p1, p2⟩, p3, p4, p5⟩ := hPF.2 p (by omega)
  have ep := ixc p1
  have hJX : JX X X := ⟨Fr.rf, hT, h3, hPF, hFL, hnm, h29⟩
  have hkk := h3.1
  have hpk := fun j hj => hPF.pkv hkk (p := p) (i := j) (by omega) hj
  have hval : VAL X (pty X p) := ⟨fun j hj => absurd hj (Nat.not_lt_zero _), fun j hj => hpk j hj, show ix (X.1 15 p) ≤ 44 by omega⟩
  have hloc : LOC X (X.1 15 p).toInt 3002 (pty X p) := by
    refine ⟨fun j hj => ?_, show ((ix (X.1 15 p) : Nat) : Int) = (X.1 15 p).toInt from ep, by omega⟩
    rw [h59 j (by omega)]
    refine ⟨hpk j (by omega), ?_, rfl⟩
    unfold _root_.Jvm.Pilot.CBlameCourtLaw_law_r8381_f30dd1.pkv
    split
    · rw [h3.sz hT (k := 2) (by decide)]
      omega
    · have : ksz X (ix (X.1 16 (4 * p + j))) ≤ psum X p (ix (X.1 15 p)) := sumN_mem (g := fun j => ksz X (ix (X.1 16 (4 * p + j)))) (by omega)
      omega
  obtain ⟨c1, o1, Y1, g1, b1, j1, n1, q1⟩ := cx.jp (r37 := r37) (a1 := a1) (a2 := a2) X o 0 3002 (pty X p) hJX hw ho (by omega) (by omega) (by omega) (by omega) h30 (by omega) (fun j k1 k2 => h43 j k1 (by omega)) hloc hval
  have hX1 := hJX.jr j1
  have mg1 := j1.2.2.2.1.1
  have j1' : JR X Y1 (fun j => po p ≤ j ∧ j < po (p + 1)) := j1.mono (fun j (q : po p ≤ j ∧ j < e) => (⟨by omega, by omega⟩ : po p ≤ j ∧ j < po (p + 1)))
  by_cases hw1 : (Y1.1 0 9).toInt = 0
  rotate_left
  · exact ⟨_, o1, Y1, g1, by omega, j1', ⟨by omega, by omega, by omega⟩, fun q => absurd q hw1⟩
  obtain ⟨ho1, hd1, -, -, w1, z1, sg1⟩ := q1 hw1
  obtain ⟨kR, ekR⟩ : ∃ k, k = Y1.1 58 0 := ⟨_, rfl⟩
  rw [← ekR] at w1 z1 sg1
  have eo1 : ix o1 = e := by
    have := ixc (z := o1) (by omega)
    omega
  have a40 : (Y1.1 40 (ix o1)).toInt = 30 := by rw [eo1, hX1.1.1 40 e (show (8000 : Nat) ∉ [9, 10, 13, 15, 28, 30, 800, 1000, 1200, 1400, 1600, 1800, 2000, 6200, 6400, 8600, 10400, 10600, 10800, 11000, 11200, 11400, 11600, 11800] from by decide)]; exact oe.1
  have a41 : (Y1.1 41 e).toInt = (p : Int) := by rw [hX1.1.1 41 e (show (8200 : Nat) ∉ [9, 10, 13, 15, 28, 30, 800, 1000, 1200, 1400, 1600, 1800, 2000, 6200, 6400, 8600, 10400, 10600, 10800, 11000, 11200, 11400, 11600, 11800] from by decide)]; exact oe.2
  have ia41 : ix (Y1.1 41 e) = p := by
    have := ixc (z := Y1.1 41 e) (by omega)
    omega
  have b18 : Y1.1 18 p = X.1 18 p := hX1.1.1 18 p (show (3600 : Nat) ∉ [9, 10, 13, 15, 28, 30, 800, 1000, 1200, 1400, 1600, 1800, 2000, 6200, 6400, 8600, 10400, 10600, 10800, 11000, 11200, 11400, 11600, 11800] from by decide)
  have s18 : Y1.1 0 18 = X.1 0 18 := hX1.1.1 0 18 (by decide)
  have f43 : (Y1.1 43 (ix o1)).toInt = -1 := by
    rw [eo1, j1.2.2.2.2 e (fun (q : po p ≤ e ∧ e < e) => by omega)]
    exact h43 e (by omega) (by omega)
  obtain ⟨o2, Y2, ho2, g2, j2, n2, q2⟩ := jstep (r37 := r37) (a1 := a1) (a2 := a2) (s := e) (o := o1) ho1 (by omega) (by omega) hw1 (one_30 hX1.2.1 (by omega) (by omega) ⟨by omega, by omega⟩ hX1.2.2.2.2.2.2 hw1 ⟨by omega, show o1.toInt < ((24000 : Nat) : Int) by omega⟩ a40 (d := 0) hd1 (by omega) (by rw [← ekR]; exact w1) f43 hX1.2.2.1 hX1.2.2.2.1 (by rw [s18]; omega) (by rw [ia41, b18]; exact ⟨c18, show (X.1 18 p).toInt < ((3100 : Nat) : Int) by omega⟩))
  rw [eo1] at j2 q2
  rw [ia41, ← ekR] at q2
  have hX2 := hX1.jr j2
  have mg2 := j2.2.2.2.1.1
  have j2' : JR X Y2 (fun j => po p ≤ j ∧ j < po (p + 1)) := j1'.tr (j2.mono (fun j (q : j = e) => (⟨by omega, by omega⟩ : po p ≤ j ∧ j < po (p + 1))))
  by_cases hw2 : (Y2.1 0 9).toInt = 0
  rotate_left
  · exact ⟨_, o2, Y2, g1.tr g2, by omega, j2', ⟨by omega, by omega, by omega⟩, fun q => absurd q hw2⟩
  obtain ⟨hd2, -, -, -, gr2⟩ := q2 hw2
  have eo2 : ix o2 = e + 1 := by
    have := ixc (z := o2) (by omega)
    omega
  have b40 : (Y2.1 40 (ix o2)).toInt = 31 := by rw [eo2, hX2.1.1 40 (e + 1) (show (8000 : Nat) ∉ [9, 10, 13, 15, 28, 30, 800, 1000, 1200, 1400, 1600, 1800, 2000, 6200, 6400, 8600, 10400, 10600, 10800, 11000, 11200, 11400, 11600, 11800] from by decide)]; exact oe1.1
  obtain ⟨o3, Y3, ho3, g3, j3, n3, q3⟩ := jstep (r37 := r37) (a1 := a1) (a2 := a2) (s := e + 1) (o := o2) (by omega) (by omega) (by omega) hw2 (one_31 hX2.2.1 (by omega) (by omega) ⟨by omega, by omega⟩ hX2.2.2.2.2.2.2 hw2 ⟨by omega, show o2.toInt < ((24000 : Nat) : Int) by omega⟩ b40 (d := 0) hd2 (by omega))
  have hX3 := hX2.jr j3
  have j3' : JR X Y3 (fun j => po p ≤ j ∧ j < po (p + 1)) := j2'.tr (j3.mono (fun j (q : False) => q.elim))
  refine ⟨_, o3, Y3, (g1.tr g2).tr g3, by omega, j3', ⟨by omega, by omega, by omega⟩, fun _ => ⟨by omega, kR, ?_⟩⟩
  have jw := j3'.jw
  have ok1 : okv Y1 p = okv X p := j1.jw.ok p
  have ok2v : okv Y2 p = okv X p := j2'.jw.ok p
  have ok3 : okv Y3 p = okv X p := jw.ok p
  have vo1 := hX1.2.2.2.1.okv hX1.2.2.1.1 (p := p) (by rw [s18]; omega)
  have vo3 := hX3.2.2.2.1.okv hX3.2.2.1.1 (p := p) (by rw [hX3.1.1 0 18 (by decide)]; omega)
  refine ⟨(w1.kx j2.2.2.1).kx j3.2.2.1, vo3, ?_, ?_⟩
  · rw [jw.pty p, show po (p + 1) - 2 = e by omega]
    exact (sg1.jr hX1.2.1 j2 (fun j k1 k2 (q : j = e) => by omega)).jr hX2.2.1 j3 (fun j k1 k2 (q : False) => q)
  · rw [ok3, show po (p + 1) - 2 = e by omega]
    rw [ok1] at gr2
    exact gr2.jr hX2.2.1 j3 (fun (q : False) => q) (w1.kx j2.2.2.1) (by rw [← ok2v]; exact hX2.2.2.2.1.okv hX2.2.2.1.1 (p := p) (by rw [hX2.1.1 0 18 (by decide)]; omega))
