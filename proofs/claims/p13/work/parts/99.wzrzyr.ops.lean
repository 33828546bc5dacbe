/-! a place in step: sizes and kinds that an order asks for -/
section SRK
variable {X : St} {o : Nat}
theorem SR.k20 {u : Bool} {PT : Nat → Ty} {s1 e1 : Nat} (h : SR u X PT s1 e1 o) (c0 : (X.1 40 o).toInt = 20) : ∃ n : Nat, (X.1 41 o).toInt = (n : Int) ∧ n < 3100 ∧ (1 ≤ (PT o).1 ∧ ∃ e1, TK u X (tp (PT o) 0) e1) := by
  obtain ⟨_, op, n, hoa, hn, h⟩ := h
  have o1 := hoa.1
  rcases h with ⟨a, b⟩ | ⟨k, a, c⟩ | ⟨a, b, k, c, f⟩ | ⟨a, b, v, c, d, f, g⟩ | ⟨a, b, d, q, f, g⟩ | ⟨a, q, b, c⟩ | ⟨a, b⟩ | ⟨a, m, r, e1, b, c, d, f, g, i⟩ | ⟨a, b, r, d, f⟩ | ⟨a, b, k, c, d, f⟩ | ⟨a, b, k, c, c2, d⟩ | ⟨a, b, e1, d, g⟩ | ⟨a, b, d, f⟩ | ⟨a, m, b, c, d, f, g, i⟩ | ⟨a, b, c⟩
  · omega
  · unfold LF at a
    omega
  · unfold GOP at a
    omega
  · omega
  · omega
  · omega
  · omega
  · omega
  · omega
  · rcases a with ⟨a, a1⟩ | a | a | a
    · exact ⟨n, hoa.2, hn, b, a1⟩
    · omega
    · omega
    · omega
  · omega
  · omega
  · omega
  · omega
  · omega
theorem SR.k21 {u : Bool} {PT : Nat → Ty} {s1 e1 : Nat} (h : SR u X PT s1 e1 o) (c0 : (X.1 40 o).toInt = 21 ∨ (X.1 40 o).toInt = 22) : ∃ n : Nat, (X.1 41 o).toInt = (n : Int) ∧ n < 3100 ∧ (1 ≤ (PT o).1 ∧ PK u 1 X (tp (PT o) 0)) := by
  obtain ⟨_, op, n, hoa, hn, h⟩ := h
  have o1 := hoa.1
  rcases h with ⟨a, b⟩ | ⟨k, a, c⟩ | ⟨a, b, k, c, f⟩ | ⟨a, b, v, c, d, f, g⟩ | ⟨a, b, d, q, f, g⟩ | ⟨a, q, b, c⟩ | ⟨a, b⟩ | ⟨a, m, r, e1, b, c, d, f, g, i⟩ | ⟨a, b, r, d, f⟩ | ⟨a, b, k, c, d, f⟩ | ⟨a, b, k, c, c2, d⟩ | ⟨a, b, e1, d, g⟩ | ⟨a, b, d, f⟩ | ⟨a, m, b, c, d, f, g, i⟩ | ⟨a, b, c⟩
  · omega
  · unfold LF at a
    omega
  · unfold GOP at a
    omega
  · omega
  · omega
  · omega
  · omega
  · omega
  · omega
  · rcases a with ⟨a, a1⟩ | a | a | a
    · omega
    · exact ⟨n, hoa.2, hn, b, by have q := d (Or.inl a); rw [if_neg (by omega)] at q; exact q⟩
    · exact ⟨n, hoa.2, hn, b, by have q := d (Or.inr (Or.inl a)); rw [if_neg (by omega)] at q; exact q⟩
    · omega
  · omega
  · omega
  · omega
  · omega
  · omega
theorem SR.k23 {u : Bool} {PT : Nat → Ty} {s1 e1 : Nat} (h : SR u X PT s1 e1 o) (c0 : (X.1 40 o).toInt = 23) : ∃ n : Nat, (X.1 41 o).toInt = (n : Int) ∧ n < 3100 ∧ (1 ≤ (PT o).1 ∧ PK u 2 X (tp (PT o) 0)) := by
  obtain ⟨_, op, n, hoa, hn, h⟩ := h
  have o1 := hoa.1
  rcases h with ⟨a, b⟩ | ⟨k, a, c⟩ | ⟨a, b, k, c, f⟩ | ⟨a, b, v, c, d, f, g⟩ | ⟨a, b, d, q, f, g⟩ | ⟨a, q, b, c⟩ | ⟨a, b⟩ | ⟨a, m, r, e1, b, c, d, f, g, i⟩ | ⟨a, b, r, d, f⟩ | ⟨a, b, k, c, d, f⟩ | ⟨a, b, k, c, c2, d⟩ | ⟨a, b, e1, d, g⟩ | ⟨a, b, d, f⟩ | ⟨a, m, b, c, d, f, g, i⟩ | ⟨a, b, c⟩
  · omega
  · unfold LF at a
    omega
  · unfold GOP at a
    omega
  · omega
  · omega
  · omega
  · omega
  · omega
  · omega
  · rcases a with ⟨a, a1⟩ | a | a | a
    · omega
    · omega
    · omega
    · exact ⟨n, hoa.2, hn, b, by have q := d (Or.inr (Or.inr a)); rw [if_pos a] at q; exact q⟩
  · omega
  · omega
  · omega
  · omega
  · omega
theorem SR.k24 {u : Bool} {PT : Nat → Ty} {s1 e1 : Nat} (h : SR u X PT s1 e1 o) (c0 : (X.1 40 o).toInt = 24 ∨ (X.1 40 o).toInt = 25) : ∃ n : Nat, (X.1 41 o).toInt = (n : Int) ∧ n < 3100 ∧ (2 ≤ (PT o).1 ∧ PK u 1 X (tp (PT o) 0) ∧ PK u 1 X (tp (PT o) 1)) := by
  obtain ⟨_, op, n, hoa, hn, h⟩ := h
  have o1 := hoa.1
  rcases h with ⟨a, b⟩ | ⟨k, a, c⟩ | ⟨a, b, k, c, f⟩ | ⟨a, b, v, c, d, f, g⟩ | ⟨a, b, d, q, f, g⟩ | ⟨a, q, b, c⟩ | ⟨a, b⟩ | ⟨a, m, r, e1, b, c, d, f, g, i⟩ | ⟨a, b, r, d, f⟩ | ⟨a, b, k, c, d, f⟩ | ⟨a, b, k, c, c2, d⟩ | ⟨a, b, e1, d, g⟩ | ⟨a, b, d, f⟩ | ⟨a, m, b, c, d, f, g, i⟩ | ⟨a, b, c⟩
  · omega
  · unfold LF at a
    omega
  · unfold GOP at a
    omega
  · omega
  · omega
  · omega
  · omega
  · omega
  · omega
  · omega
  · exact ⟨n, hoa.2, hn, b⟩
  · omega
  · omega
  · omega
  · omega
theorem SR.k26 {u : Bool} {PT : Nat → Ty} {s1 e1 : Nat} (h : SR u X PT s1 e1 o) (c0 : (X.1 40 o).toInt = 26) : ∃ n : Nat, (X.1 41 o).toInt = (n : Int) ∧ n < 3100 ∧ ((2 ≤ (PT o).1 ∧ PK u 1 X (tp (PT o) 0)) ∧ ∃ e1, TK u X (tp (PT o) 1) e1) := by
  obtain ⟨_, op, n, hoa, hn, h⟩ := h
  have o1 := hoa.1
  rcases h with ⟨a, b⟩ | ⟨k, a, c⟩ | ⟨a, b, k, c, f⟩ | ⟨a, b, v, c, d, f, g⟩ | ⟨a, b, d, q, f, g⟩ | ⟨a, q, b, c⟩ | ⟨a, b⟩ | ⟨a, m, r, e1, b, c, d, f, g, i⟩ | ⟨a, b, r, d, f⟩ | ⟨a, b, k, c, d, f⟩ | ⟨a, b, k, c, c2, d⟩ | ⟨a, b, e1, d, g⟩ | ⟨a, b, d, f⟩ | ⟨a, m, b, c, d, f, g, i⟩ | ⟨a, b, c⟩
  · omega
  · unfold LF at a
    omega
  · unfold GOP at a
    omega
  · omega
  · omega
  · omega
  · omega
  · omega
  · omega
  · omega
  · omega
  · exact ⟨n, hoa.2, hn, b, e1, d⟩
  · omega
  · omega
  · omega
theorem SR.k27 {u : Bool} {PT : Nat → Ty} {s1 e1 : Nat} (h : SR u X PT s1 e1 o) (c0 : (X.1 40 o).toInt = 27) : ∃ n : Nat, (X.1 41 o).toInt = (n : Int) ∧ n < 3100 ∧ ((3 ≤ (PT o).1 ∧ PK u 1 X (tp (PT o) 1)) ∧ TK u X (tp (PT o) 2) (tp (PT o) 0)) := by
  obtain ⟨_, op, n, hoa, hn, h⟩ := h
  have o1 := hoa.1
  rcases h with ⟨a, b⟩ | ⟨k, a, c⟩ | ⟨a, b, k, c, f⟩ | ⟨a, b, v, c, d, f, g⟩ | ⟨a, b, d, q, f, g⟩ | ⟨a, q, b, c⟩ | ⟨a, b⟩ | ⟨a, m, r, e1, b, c, d, f, g, i⟩ | ⟨a, b, r, d, f⟩ | ⟨a, b, k, c, d, f⟩ | ⟨a, b, k, c, c2, d⟩ | ⟨a, b, e1, d, g⟩ | ⟨a, b, d, f⟩ | ⟨a, m, b, c, d, f, g, i⟩ | ⟨a, b, c⟩
  · omega
  · unfold LF at a
    omega
  · unfold GOP at a
    omega
  · omega
  · omega
  · omega
  · omega
  · omega
  · omega
  · omega
  · omega
  · omega
  · exact ⟨n, hoa.2, hn, b, d⟩
  · omega
  · omega
theorem SR.k18 {u : Bool} {PT : Nat → Ty} {s1 e1 : Nat} (h : SR u X PT s1 e1 o) (c0 : (X.1 40 o).toInt = 18) : ∃ n : Nat, (X.1 41 o).toInt = (n : Int) ∧ n < 3100 ∧ (∃ m : Nat, (X.1 27 n).toInt = (m : Int) ∧ m ≤ 20 ∧ m ≤ (PT o).1) := by
  obtain ⟨_, op, n, hoa, hn, h⟩ := h
  have o1 := hoa.1
  rcases h with ⟨a, b⟩ | ⟨k, a, c⟩ | ⟨a, b, k, c, f⟩ | ⟨a, b, v, c, d, f, g⟩ | ⟨a, b, d, q, f, g⟩ | ⟨a, q, b, c⟩ | ⟨a, b⟩ | ⟨a, m, r, e1, b, c, d, f, g, i⟩ | ⟨a, b, r, d, f⟩ | ⟨a, b, k, c, d, f⟩ | ⟨a, b, k, c, c2, d⟩ | ⟨a, b, e1, d, g⟩ | ⟨a, b, d, f⟩ | ⟨a, m, b, c, d, f, g, i⟩ | ⟨a, b, c⟩
  · omega
  · unfold LF at a
    omega
  · unfold GOP at a
    omega
  · omega
  · omega
  · omega
  · omega
  · exact ⟨n, hoa.2, hn, m, b, c, d⟩
  · omega
  · omega
  · omega
  · omega
  · omega
  · omega
  · omega
theorem SR.k19 {u : Bool} {PT : Nat → Ty} {s1 e1 : Nat} (h : SR u X PT s1 e1 o) (c0 : (X.1 40 o).toInt = 19) : ∃ n : Nat, (X.1 41 o).toInt = (n : Int) ∧ n < 3100 ∧ (2 ≤ (PT o).1 ∧ PK u 1 X (tp (PT o) 1)) := by
  obtain ⟨_, op, n, hoa, hn, h⟩ := h
  have o1 := hoa.1
  rcases h with ⟨a, b⟩ | ⟨k, a, c⟩ | ⟨a, b, k, c, f⟩ | ⟨a, b, v, c, d, f, g⟩ | ⟨a, b, d, q, f, g⟩ | ⟨a, q, b, c⟩ | ⟨a, b⟩ | ⟨a, m, r, e1, b, c, d, f, g, i⟩ | ⟨a, b, r, d, f⟩ | ⟨a, b, k, c, d, f⟩ | ⟨a, b, k, c, c2, d⟩ | ⟨a, b, e1, d, g⟩ | ⟨a, b, d, f⟩ | ⟨a, m, b, c, d, f, g, i⟩ | ⟨a, b, c⟩
  · omega
  · unfold LF at a
    omega
  · unfold GOP at a
    omega
  · omega
  · omega
  · omega
  · omega
  · omega
  · exact ⟨n, hoa.2, hn, b⟩
  · omega
  · omega
  · omega
  · omega
  · omega
  · omega
end SRK
/-- what an order's lemma asks for -/
theorem MRL.fct {u : Bool} {sy sq : Nat → Nat → Nat → Prop} {X0 Y0 X Y : St} {r G : Nat → Int32} {po W : Nat → Nat} {PTs : Nat → Nat → Ty} {ks : List (List Int)} {e i j o p c b sb T : Nat} (h : MRL u e ks X0 Y0 po PTs sy sq W X Y r G p j o c b sb T i) (v : Int32) : INS e X (wI Y 70 10 v) r ks sb c (sb + (PTs p o).1) (PTs p o).2.2.1 ∧ (sb + (PTs p o).1 + c ≤ 20000 ∧ sb + (PTs p o).1 ≤ 20000 ∧ (PTs p o).2.2.1 ≤ 44 ∧ c ≤ 99) ∧ FIN u X G (PTs p o) sb (45 * c) ∧ (X.1 0 32).toInt = 45 * (c : Int) ∧ ((wI Y 70 10 v).1 70 11).toInt = (c : Int) + 1 ∧ PRm e X (wI Y 70 10 v) ∧ (u = true ↔ (X.1 0 42).toInt = 0) ∧ (u = true ↔ ((wI Y 70 10 v).1 70 3).toInt = 0) := by
  obtain ⟨m1, m2, m3, m4, ⟨m5, m6, m7⟩, ⟨⟨p1, p2⟩, p3, p4⟩, m9, m10, m11⟩ := h
  have hf := m1.1
  have he := m3.1.1
  have w : ∀ j k, ¬ (j = 70 ∧ k = 10) → (wI Y 70 10 v).1 j k = Y.1 j k := fun j k q => wI_ne _ _ _ _ _ _ q
  have h40 := m2.2.1
  have hs := m1.2.2.2.2.2.1
  refine ⟨m3.w10, ⟨by omega, hf.2.2.2.1.2.1, hf.2.2.2.1.2.2.2.2, m1.2.2.1.2⟩, hf, ?_, by rw [w 70 11 (by omega)]; exact m5, ⟨⟨p1, p2⟩, by rw [w e 1 (by omega)]; exact p3, fun k hk => by rw [w (e + 13) k (by omega)]; exact p4 k hk⟩, hf.2.1.2.2, by rw [w 70 3 (by omega)]; exact m7⟩
  have := hf.2.2.2.1.2.2.1
  omega
section TKS
variable {u : Bool}
variable {X Y Z X0 Y0 X1 Y1 : St} {r r1 G G1 : Nat → Int32} {po W pst pen : Nat → Nat} {PTs : Nat → Nat → Ty} {sq : Nat → Nat → Nat → Prop} {ks : List (List Int)} {o1 z pl x : Int32} {e i j o p c b sb T N n m : Nat} {nr : Int → Int} {cd : List Ins}
theorem MRL.t1 (hS : STAT u e ks X0 Y0 po W nr cd pst pen) (h : MRL u e ks X0 Y0 po PTs (SY cd pst pen) sq W X Y r G p j o c b sb T i) (ho : o1.toInt = (o : Int)) (ih : IHN u e ks X0 Y0 po PTs (SY cd pst pen) W N) (hjl : (j : Int) < (Y.1 e 6).toInt) (hpl : Y.1 (e + 21) j = pl) (hx : Y.1 (e + 19) j = x) (hsy : o + 1 < po (p + 1) → SY cd pst pen p (j + 1) (o + 1)) (hop : (Y.1 (e + 18) j).toInt = 1) (hK : OA X o 1 n) (h26 : X.1 26 n = x) : ENDS ks (N + 1) o1 X Y i := by
  obtain ⟨hI, ⟨f1, f2, f3, f4⟩, hf, f5, f6, f7, f8, f9⟩ := h.fct (Y.1 70 10 + 1)
  have hn1 : ix (X.1 41 o) = n := ixn hK.2
  exact h.go1 (K := 1) hS ho hK.1 (by omega) hjl (Int32.toInt_inj.mp (hop.trans (by decide)) : Y.1 (e + 18) j = 1) hx hpl hsy ((h.sr (by have := hK.1; omega)).nms (by have := hK.1; omega) (by have := hK.1; omega)) (pw_mono (op1 (pl := pl) (x := x) ho hK.1 hI.2.2.2.2.1 (by omega) (by rw [hn1]; exact h26)) (fun z X1 q => ⟨q.1, by rw [wrkP (by decide)]; exact pw_mono q.2 (fun _ _ g => g.opq hI)⟩)) ih
theorem MRL.t2 (hS : STAT u e ks X0 Y0 po W nr cd pst pen) (h : MRL u e ks X0 Y0 po PTs (SY cd pst pen) sq W X Y r G p j o c b sb T i) (ho : o1.toInt = (o : Int)) (ih : IHN u e ks X0 Y0 po PTs (SY cd pst pen) W N) (hjl : (j : Int) < (Y.1 e 6).toInt) (hpl : Y.1 (e + 21) j = pl) (hx : Y.1 (e + 19) j = x) (hsy : o + 1 < po (p + 1) → SY cd pst pen p (j + 1) (o + 1)) (hop : (Y.1 (e + 18) j).toInt = 2) (hK : OA X o 2 n) (h26 : X.1 26 n = x) (h01 : x.toInt = 0 ∨ x.toInt = 1) : ENDS ks (N + 1) o1 X Y i := by
  obtain ⟨hI, ⟨f1, f2, f3, f4⟩, hf, f5, f6, f7, f8, f9⟩ := h.fct (Y.1 70 10 + 1)
  have hn1 : ix (X.1 41 o) = n := ixn hK.2
  exact h.go1 (K := 2) hS ho hK.1 (by omega) hjl (Int32.toInt_inj.mp (hop.trans (by decide)) : Y.1 (e + 18) j = 2) hx hpl hsy ((h.sr (by have := hK.1; omega)).nms (by have := hK.1; omega) (by have := hK.1; omega)) (pw_mono (op2 (pl := pl) (x := x) ho hK.1 hI (by omega) (by rw [hn1]; exact h26) h01) (fun z X1 q => ⟨q.1, by rw [wrkP (by decide)]; exact q.2⟩)) ih
theorem MRL.t3 (hS : STAT u e ks X0 Y0 po W nr cd pst pen) (h : MRL u e ks X0 Y0 po PTs (SY cd pst pen) sq W X Y r G p j o c b sb T i) (ho : o1.toInt = (o : Int)) (ih : IHN u e ks X0 Y0 po PTs (SY cd pst pen) W N) (hjl : (j : Int) < (Y.1 e 6).toInt) (hpl : Y.1 (e + 21) j = pl) (hx : Y.1 (e + 19) j = x) (hsy : o + 1 < po (p + 1) → SY cd pst pen p (j + 1) (o + 1)) (hop : (Y.1 (e + 18) j).toInt = 3) (hK : OA X o 3 n) (h26 : X.1 26 n = x) : ENDS ks (N + 1) o1 X Y i := by
  obtain ⟨hI, ⟨f1, f2, f3, f4⟩, hf, f5, f6, f7, f8, f9⟩ := h.fct (Y.1 70 10 + 1)
  have hn1 : ix (X.1 41 o) = n := ixn hK.2
  obtain ⟨_, op, n', hoa, _, k, hl, _⟩ := (h.sr (by have := hK.1; omega)).x1 (by have := hK.1; omega)
  have en : n' = n := by
    have := hoa.2
    have := hK.2
    omega
  have eo : op = 3 := by
    have := hoa.1
    have := hK.1
    omega
  subst en eo
  rcases hl with ⟨q, _⟩ | ⟨_, v, l1, l2, _⟩ | ⟨q, _⟩
  · omega
  rotate_left
  · omega
  exact h.go1 (K := 3) hS ho hK.1 (by omega) hjl (Int32.toInt_inj.mp (hop.trans (by decide)) : Y.1 (e + 18) j = 3) hx hpl hsy ((h.sr (by have := hK.1; omega)).nms (by have := hK.1; omega) (by have := hK.1; omega)) (pw_mono (op3 (n := v) (pl := pl) (x := x) ho hK.1 hI (by omega) (by rw [hn1]; exact h26) (by rw [← h26]; exact l1) l2 (by omega) f5 f6 f4) (fun z X1 q => ⟨q.1, by rw [wrkP (by decide)]; exact q.2⟩)) ih
theorem MRL.t4 (hS : STAT u e ks X0 Y0 po W nr cd pst pen) (h : MRL u e ks X0 Y0 po PTs (SY cd pst pen) sq W X Y r G p j o c b sb T i) (ho : o1.toInt = (o : Int)) (ih : IHN u e ks X0 Y0 po PTs (SY cd pst pen) W N) (hjl : (j : Int) < (Y.1 e 6).toInt) (hpl : Y.1 (e + 21) j = pl) (hx : Y.1 (e + 19) j = x) (hsy : o + 1 < po (p + 1) → SY cd pst pen p (j + 1) (o + 1)) (hop : (Y.1 (e + 18) j).toInt = 4) (hK : OA X o 4 n) (h26 : X.1 26 n = x) : ENDS ks (N + 1) o1 X Y i := by
  obtain ⟨hI, ⟨f1, f2, f3, f4⟩, hf, f5, f6, f7, f8, f9⟩ := h.fct (Y.1 70 10 + 1)
  have hn1 : ix (X.1 41 o) = n := ixn hK.2
  obtain ⟨_, op, n', hoa, _, k, hl, _⟩ := (h.sr (by have := hK.1; omega)).x1 (by have := hK.1; omega)
  have en : n' = n := by
    have := hoa.2
    have := hK.2
    omega
  have eo : op = 4 := by
    have := hoa.1
    have := hK.1
    omega
  subst en eo
  have h18 := h.1.1.2.1.1
  rcases hl with ⟨q, _⟩ | ⟨q, _⟩ | ⟨_, v, l1, l2, _⟩
  · omega
  · omega
  rw [h26] at l1
  exact h.go1 (K := 4) hS ho hK.1 (by omega) hjl (Int32.toInt_inj.mp (hop.trans (by decide)) : Y.1 (e + 18) j = 4) hx hpl hsy ((h.sr (by have := hK.1; omega)).nms (by have := hK.1; omega) (by have := hK.1; omega)) (pw_mono (op4 (pl := pl) (x := x) ho hK.1 hI.2.2.2.2.1 (by omega) (by rw [hn1]; exact h26) (by omega)) (fun z X1 q => ⟨q.1, by rw [wrkP (by decide)]; exact pw_mono q.2 (fun _ _ g => g.opq hI)⟩)) ih
theorem MRL.t5 (hS : STAT u e ks X0 Y0 po W nr cd pst pen) (h : MRL u e ks X0 Y0 po PTs (SY cd pst pen) sq W X Y r G p j o c b sb T i) (ho : o1.toInt = (o : Int)) (ih : IHN u e ks X0 Y0 po PTs (SY cd pst pen) W N) (hjl : (j : Int) < (Y.1 e 6).toInt) (hpl : Y.1 (e + 21) j = pl) (hx : Y.1 (e + 19) j = x) (hsy : o + 1 < po (p + 1) → SY cd pst pen p (j + 1) (o + 1)) (hop : (Y.1 (e + 18) j).toInt = 5) (hK : OA X o 13 n) (h26 : X.1 26 n = x) : ENDS ks (N + 1) o1 X Y i := by
  obtain ⟨hI, ⟨f1, f2, f3, f4⟩, hf, f5, f6, f7, f8, f9⟩ := h.fct (Y.1 70 10 + 1)
  have hn1 : ix (X.1 41 o) = n := ixn hK.2
  obtain ⟨_, op, n', hoa, _, _, g1, v, g2, g3, g4, g5⟩ := (h.sr (by have := hK.1; omega)).x3 hK.1
  have en : n' = n := by
    have := hoa.2
    have := hK.2
    omega
  subst en
  obtain ⟨d, hd⟩ : ∃ d, (PTs p o).1 = d + 1 := ⟨(PTs p o).1 - 1, by omega⟩
  have hI1 := hI
  rw [hd] at hI1
  have nn : (PTs p (o + 1)).2.2.1 ≤ v + 1 := g5.1.2.2.2.2.1
  exact h.go1 (K := 13) hS ho hK.1 (by omega) hjl (Int32.toInt_inj.mp (hop.trans (by decide)) : Y.1 (e + 18) j = 5) hx hpl hsy (nn) (pw_mono (op5 (n := v) (t0 := sb + d) (nn1 := v + 1) (pl := pl) (x := x) ho hK.1 hI1 (by omega) (by rw [hn1]; exact h26) (by rw [← h26]; exact g2) (by omega) (fun s hs => by omega) f5 f6 f4) (fun z X1 q => ⟨q.1, by rw [wrkP (by decide)]; exact q.2⟩)) ih
theorem MRL.t9 (hS : STAT u e ks X0 Y0 po W nr cd pst pen) (h : MRL u e ks X0 Y0 po PTs (SY cd pst pen) sq W X Y r G p j o c b sb T i) (ho : o1.toInt = (o : Int)) (ih : IHN u e ks X0 Y0 po PTs (SY cd pst pen) W N) (hjl : (j : Int) < (Y.1 e 6).toInt) (hpl : Y.1 (e + 21) j = pl) (hx : Y.1 (e + 19) j = x) (hsy : o + 1 < po (p + 1) → SY cd pst pen p (j + 1) (o + 1)) (hop : (Y.1 (e + 18) j).toInt = 9) (hK : OA X o 29 n) : ENDS ks (N + 1) o1 X Y i := by
  obtain ⟨hI, ⟨f1, f2, f3, f4⟩, hf, f5, f6, f7, f8, f9⟩ := h.fct (Y.1 70 10 + 1)
  have hn1 : ix (X.1 41 o) = n := ixn hK.2
  obtain ⟨_, op, n', hoa, _, _, g1, _⟩ := (h.sr (by have := hK.1; omega)).x14 hK.1
  obtain ⟨d, hd⟩ : ∃ d, (PTs p o).1 = d + 1 := ⟨(PTs p o).1 - 1, by omega⟩
  have hI1 := hI
  rw [hd] at hI1
  exact h.go1 (K := 29) hS ho hK.1 (by omega) hjl (Int32.toInt_inj.mp (hop.trans (by decide)) : Y.1 (e + 18) j = 9) hx hpl hsy ((h.sr (by have := hK.1; omega)).nms (by have := hK.1; omega) (by have := hK.1; omega)) (pw_mono (op9 (t0 := sb + d) (pl := pl) (x := x) ho hK.1 hI1 (by omega)) (fun z X1 q => ⟨q.1, by rw [wrkP (by decide)]; exact q.2⟩)) ih
theorem MRL.t12 (hS : STAT u e ks X0 Y0 po W nr cd pst pen) (h : MRL u e ks X0 Y0 po PTs (SY cd pst pen) sq W X Y r G p j o c b sb T i) (ho : o1.toInt = (o : Int)) (ih : IHN u e ks X0 Y0 po PTs (SY cd pst pen) W N) (hjl : (j : Int) < (Y.1 e 6).toInt) (hpl : Y.1 (e + 21) j = pl) (hx : Y.1 (e + 19) j = x) (hsy : o + 1 < po (p + 1) → SY cd pst pen p (j + 1) (o + 1)) (hop : (Y.1 (e + 18) j).toInt = 12) (hK : OA X o 20 n) : ENDS ks (N + 1) o1 X Y i := by
  obtain ⟨hI, ⟨f1, f2, f3, f4⟩, hf, f5, f6, f7, f8, f9⟩ := h.fct (Y.1 70 10 + 1)
  have hn1 : ix (X.1 41 o) = n := ixn hK.2
  obtain ⟨_, _, _, g1, e1, g2⟩ := (h.sr (by have := hK.1; omega)).k20 hK.1
  obtain ⟨d, hd⟩ : ∃ d, (PTs p o).1 = d + 1 := ⟨(PTs p o).1 - 1, by omega⟩
  have hI1 := hI
  rw [hd] at hI1
  have v0 : VV u X G (tp (PTs p o) 0) (X.1 60 (sb + d)) (X.1 61 (sb + d)) := by
    have q := hf.2.2.1.tp (i := 0) (by omega)
    rw [show (PTs p o).1 - 1 - 0 = d by omega] at q
    exact q
  obtain ⟨w1, w2, _⟩ := vv_take hf.1.1 g2 v0
  exact h.go1 (K := 20) hS ho hK.1 (by omega) hjl (Int32.toInt_inj.mp (hop.trans (by decide)) : Y.1 (e + 18) j = 12) hx hpl hsy ((h.sr (by have := hK.1; omega)).nms (by have := hK.1; omega) (by have := hK.1; omega)) (pw_mono (op12 (t0 := sb + d) (pl := pl) (x := x) ho hK.1 hI1 (by omega) (by omega) hf.1.1 w1 w2) (fun z X1 q => ⟨q.1, by rw [wrkR (by decide)]; exact q.2⟩)) ih
theorem MRL.t13 (hS : STAT u e ks X0 Y0 po W nr cd pst pen) (h : MRL u e ks X0 Y0 po PTs (SY cd pst pen) sq W X Y r G p j o c b sb T i) (ho : o1.toInt = (o : Int)) (ih : IHN u e ks X0 Y0 po PTs (SY cd pst pen) W N) (hjl : (j : Int) < (Y.1 e 6).toInt) (hpl : Y.1 (e + 21) j = pl) (hx : Y.1 (e + 19) j = x) (hsy : o + 1 < po (p + 1) → SY cd pst pen p (j + 1) (o + 1)) (hop : (Y.1 (e + 18) j).toInt = 13) (hK : OA X o 21 n) (h21 : X.1 21 n = pl) : ENDS ks (N + 1) o1 X Y i := by
  obtain ⟨hI, ⟨f1, f2, f3, f4⟩, hf, f5, f6, f7, f8, f9⟩ := h.fct (Y.1 70 10 + 1)
  have hn1 : ix (X.1 41 o) = n := ixn hK.2
  obtain ⟨_, _, _, g1, g2⟩ := (h.sr (by have := hK.1; omega)).k21 (Or.inl hK.1)
  obtain ⟨d, hd⟩ : ∃ d, (PTs p o).1 = d + 1 := ⟨(PTs p o).1 - 1, by omega⟩
  have hI1 := hI
  rw [hd] at hI1
  have v0 : VV u X G (tp (PTs p o) 0) (X.1 60 (sb + d)) (X.1 61 (sb + d)) := by
    have q := hf.2.2.1.tp (i := 0) (by omega)
    rw [show (PTs p o).1 - 1 - 0 = d by omega] at q
    exact q
  have w1 := vv_pk (by decide) g2 v0
  exact h.go1 (K := 21) hS ho hK.1 (by omega) hjl (Int32.toInt_inj.mp (hop.trans (by decide)) : Y.1 (e + 18) j = 13) hx hpl hsy ((h.sr (by have := hK.1; omega)).nms (by have := hK.1; omega) (by have := hK.1; omega)) (pw_mono (op13 (t0 := sb + d) (pl := pl) (x := x) ho hK.1 hI1 (by omega) (by omega) (by omega) hf.2.2.2.2 (by rw [hn1]; exact h21)) (fun z X1 q => ⟨q.1, by rw [wrkR (by decide)]; exact q.2⟩)) ih
theorem MRL.t18 (hS : STAT u e ks X0 Y0 po W nr cd pst pen) (h : MRL u e ks X0 Y0 po PTs (SY cd pst pen) sq W X Y r G p j o c b sb T i) (ho : o1.toInt = (o : Int)) (ih : IHN u e ks X0 Y0 po PTs (SY cd pst pen) W N) (hjl : (j : Int) < (Y.1 e 6).toInt) (hpl : Y.1 (e + 21) j = pl) (hx : Y.1 (e + 19) j = x) (hsy : o + 1 < po (p + 1) → SY cd pst pen p (j + 1) (o + 1)) (hop : (Y.1 (e + 18) j).toInt = 18) (hK : OA X o 22 n) : ENDS ks (N + 1) o1 X Y i := by
  obtain ⟨hI, ⟨f1, f2, f3, f4⟩, hf, f5, f6, f7, f8, f9⟩ := h.fct (Y.1 70 10 + 1)
  have hn1 : ix (X.1 41 o) = n := ixn hK.2
  obtain ⟨_, _, _, g1, g2⟩ := (h.sr (by have := hK.1; omega)).k21 (Or.inr hK.1)
  obtain ⟨d, hd⟩ : ∃ d, (PTs p o).1 = d + 1 := ⟨(PTs p o).1 - 1, by omega⟩
  have hI1 := hI
  rw [hd] at hI1
  have v0 : VV u X G (tp (PTs p o) 0) (X.1 60 (sb + d)) (X.1 61 (sb + d)) := by
    have q := hf.2.2.1.tp (i := 0) (by omega)
    rw [show (PTs p o).1 - 1 - 0 = d by omega] at q
    exact q
  have w1 := vv_pk (by decide) g2 v0
  exact h.go1 (K := 22) hS ho hK.1 (by omega) hjl (Int32.toInt_inj.mp (hop.trans (by decide)) : Y.1 (e + 18) j = 18) hx hpl hsy ((h.sr (by have := hK.1; omega)).nms (by have := hK.1; omega) (by have := hK.1; omega)) (pw_mono (op18 (t0 := sb + d) (pl := pl) ho hK.1 hI1 (by omega) (by omega) (by omega)) (fun z X1 q => ⟨q.1, by rw [wrkN (by decide)]; exact q.2⟩)) ih
theorem MRL.t19 (hS : STAT u e ks X0 Y0 po W nr cd pst pen) (h : MRL u e ks X0 Y0 po PTs (SY cd pst pen) sq W X Y r G p j o c b sb T i) (ho : o1.toInt = (o : Int)) (ih : IHN u e ks X0 Y0 po PTs (SY cd pst pen) W N) (hjl : (j : Int) < (Y.1 e 6).toInt) (hpl : Y.1 (e + 21) j = pl) (hx : Y.1 (e + 19) j = x) (hsy : o + 1 < po (p + 1) → SY cd pst pen p (j + 1) (o + 1)) (hop : (Y.1 (e + 18) j).toInt = 19) (hK : OA X o 23 n) : ENDS ks (N + 1) o1 X Y i := by
  obtain ⟨hI, ⟨f1, f2, f3, f4⟩, hf, f5, f6, f7, f8, f9⟩ := h.fct (Y.1 70 10 + 1)
  have hn1 : ix (X.1 41 o) = n := ixn hK.2
  obtain ⟨_, _, _, g1, g2⟩ := (h.sr (by have := hK.1; omega)).k23 hK.1
  obtain ⟨d, hd⟩ : ∃ d, (PTs p o).1 = d + 1 := ⟨(PTs p o).1 - 1, by omega⟩
  have hI1 := hI
  rw [hd] at hI1
  have v0 : VV u X G (tp (PTs p o) 0) (X.1 60 (sb + d)) (X.1 61 (sb + d)) := by
    have q := hf.2.2.1.tp (i := 0) (by omega)
    rw [show (PTs p o).1 - 1 - 0 = d by omega] at q
    exact q
  have w1 := vv_pk (by decide) g2 v0
  exact h.go1 (K := 23) hS ho hK.1 (by omega) hjl (Int32.toInt_inj.mp (hop.trans (by decide)) : Y.1 (e + 18) j = 19) hx hpl hsy ((h.sr (by have := hK.1; omega)).nms (by have := hK.1; omega) (by have := hK.1; omega)) (pw_mono (op19 (t0 := sb + d) (pl := pl) ho hK.1 hI1 (by omega) (by omega) (by omega)) (fun z X1 q => ⟨q.1, by rw [wrkN (by decide)]; exact q.2⟩)) ih
theorem MRL.t20 {q : Int32} (hS : STAT u e ks X0 Y0 po W nr cd pst pen) (h : MRL u e ks X0 Y0 po PTs (SY cd pst pen) sq W X Y r G p j o c b sb T i) (ho : o1.toInt = (o : Int)) (ih : IHN u e ks X0 Y0 po PTs (SY cd pst pen) W N) (hjl : (j : Int) < (Y.1 e 6).toInt) (hpl : Y.1 (e + 21) j = pl) (hx : Y.1 (e + 19) j = x) (hsy : o + 1 < po (p + 1) → SY cd pst pen p (j + 1) (o + 1)) (hop : Y.1 (e + 18) j = q) (hK : OA X o 25 n) (hp : (q.toInt = 20 ∧ (X.1 26 n).toInt = 60) ∨ (q.toInt = 21 ∧ ¬ (X.1 26 n).toInt = 60)) : ENDS ks (N + 1) o1 X Y i := by
  obtain ⟨hI, ⟨f1, f2, f3, f4⟩, hf, f5, f6, f7, f8, f9⟩ := h.fct (Y.1 70 10 + 1)
  have hn1 : ix (X.1 41 o) = n := ixn hK.2
  obtain ⟨_, _, _, g1, g2, g3⟩ := (h.sr (by have := hK.1; omega)).k24 (Or.inr hK.1)
  obtain ⟨d, hd⟩ : ∃ d, (PTs p o).1 = d + 2 := ⟨(PTs p o).1 - 2, by omega⟩
  have hI1 := hI
  rw [hd] at hI1
  have v0 : VV u X G (tp (PTs p o) 0) (X.1 60 (sb + d + 1)) (X.1 61 (sb + d + 1)) := by
    have q := hf.2.2.1.tp (i := 0) (by omega)
    rw [show (PTs p o).1 - 1 - 0 = d + 1 by omega] at q
    exact q
  have v1 : VV u X G (tp (PTs p o) 1) (X.1 60 (sb + d)) (X.1 61 (sb + d)) := by
    have q := hf.2.2.1.tp (i := 1) (by omega)
    rw [show (PTs p o).1 - 1 - 1 = d by omega] at q
    exact q
  have w0 := vv_pk (by decide) g2 v0
  have w1 := vv_pk (by decide) g3 v1
  exact h.go1 (K := 25) hS ho hK.1 (by omega) hjl hop hx hpl hsy ((h.sr (by have := hK.1; omega)).nms (by have := hK.1; omega) (by have := hK.1; omega)) (pw_mono (op20 (t0 := sb + d) (pl := pl) ho hK.1 hI1 (by omega) (by omega) (by omega) (by omega) (by rw [hn1]; exact hp)) (fun z X1 q => ⟨q.1, by rw [wrkN (by omega)]; exact q.2⟩)) ih
theorem MRL.t22 {q : Int32} (hS : STAT u e ks X0 Y0 po W nr cd pst pen) (h : MRL u e ks X0 Y0 po PTs (SY cd pst pen) sq W X Y r G p j o c b sb T i) (ho : o1.toInt = (o : Int)) (ih : IHN u e ks X0 Y0 po PTs (SY cd pst pen) W N) (hjl : (j : Int) < (Y.1 e 6).toInt) (hpl : Y.1 (e + 21) j = pl) (hx : Y.1 (e + 19) j = x) (hsy : o + 1 < po (p + 1) → SY cd pst pen p (j + 1) (o + 1)) (hop : Y.1 (e + 18) j = q) (hK : OA X o 24 n) (h22 : X.1 22 n = pl) (hp : 22 ≤ q.toInt ∧ q.toInt ≤ 26) (hc : opc (X.1 26 n).toInt = q.toInt) : ENDS ks (N + 1) o1 X Y i := by
  obtain ⟨hI, ⟨f1, f2, f3, f4⟩, hf, f5, f6, f7, f8, f9⟩ := h.fct (Y.1 70 10 + 1)
  have hn1 : ix (X.1 41 o) = n := ixn hK.2
  obtain ⟨_, _, _, g1, g2, g3⟩ := (h.sr (by have := hK.1; omega)).k24 (Or.inl hK.1)
  obtain ⟨d, hd⟩ : ∃ d, (PTs p o).1 = d + 2 := ⟨(PTs p o).1 - 2, by omega⟩
  have hI1 := hI
  rw [hd] at hI1
  have v0 : VV u X G (tp (PTs p o) 0) (X.1 60 (sb + d + 1)) (X.1 61 (sb + d + 1)) := by
    have q := hf.2.2.1.tp (i := 0) (by omega)
    rw [show (PTs p o).1 - 1 - 0 = d + 1 by omega] at q
    exact q
  have v1 : VV u X G (tp (PTs p o) 1) (X.1 60 (sb + d)) (X.1 61 (sb + d)) := by
    have q := hf.2.2.1.tp (i := 1) (by omega)
    rw [show (PTs p o).1 - 1 - 1 = d by omega] at q
    exact q
  have w0 := vv_pk (by decide) g2 v0
  have w1 := vv_pk (by decide) g3 v1
  exact h.go1 (K := 24) hS ho hK.1 (by omega) hjl hop hx hpl hsy ((h.sr (by have := hK.1; omega)).nms (by have := hK.1; omega) (by have := hK.1; omega)) (pw_mono (op22 (t0 := sb + d) (pl := pl) ho hK.1 hI1 (by omega) (by omega) (by omega) (by omega) (by rw [hn1]; exact h22) hp (by rw [hn1]; exact hc)) (fun z X1 q => ⟨q.1, by rw [wrkN (by omega)]; exact q.2⟩)) ih
theorem MRL.t11 (hS : STAT u e ks X0 Y0 po W nr cd pst pen) (h : MRL u e ks X0 Y0 po PTs (SY cd pst pen) sq W X Y r G p j o c b sb T i) (ho : o1.toInt = (o : Int)) (ih : IHN u e ks X0 Y0 po PTs (SY cd pst pen) W N) (hjl : (j : Int) < (Y.1 e 6).toInt) (hpl : Y.1 (e + 21) j = pl) (hx : Y.1 (e + 19) j = x) (hsy : o + 1 < po (p + 1) → SY cd pst pen p (j + 1) (o + 1)) (hop : (Y.1 (e + 18) j).toInt = 11) (hK : OA X o 19 n) (h21 : X.1 21 n = pl) : ENDS ks (N + 1) o1 X Y i := by
  obtain ⟨hI, ⟨f1, f2, f3, f4⟩, hf, f5, f6, f7, f8, f9⟩ := h.fct (Y.1 70 10 + 1)
  have hn1 : ix (X.1 41 o) = n := ixn hK.2
  obtain ⟨_, _, _, g1, g2⟩ := (h.sr (by have := hK.1; omega)).k19 hK.1
  obtain ⟨d, hd⟩ : ∃ d, (PTs p o).1 = d + 2 := ⟨(PTs p o).1 - 2, by omega⟩
  have hI1 := hI
  rw [hd] at hI1
  have v1 : VV u X G (tp (PTs p o) 1) (X.1 60 (sb + d)) (X.1 61 (sb + d)) := by
    have q := hf.2.2.1.tp (i := 1) (by omega)
    rw [show (PTs p o).1 - 1 - 1 = d by omega] at q
    exact q
  have w1 := vv_pk (by decide) g2 v1
  exact h.go1 (K := 19) hS ho hK.1 (by omega) hjl (Int32.toInt_inj.mp (hop.trans (by decide)) : Y.1 (e + 18) j = 11) hx hpl hsy ((h.sr (by have := hK.1; omega)).nms (by have := hK.1; omega) (by have := hK.1; omega)) (pw_mono (op11 (t0 := sb + d) (pl := pl) (x := x) ho hK.1 hI1 (by omega) (by omega) (by omega) (by omega) (by rw [hn1]; exact h21)) (fun z X1 q => ⟨q.1, by rw [wrkR (by decide)]; exact q.2⟩)) ih
theorem MRL.t10 (hS : STAT u e ks X0 Y0 po W nr cd pst pen) (h : MRL u e ks X0 Y0 po PTs (SY cd pst pen) sq W X Y r G p j o c b sb T i) (ho : o1.toInt = (o : Int)) (ih : IHN u e ks X0 Y0 po PTs (SY cd pst pen) W N) (hjl : (j : Int) < (Y.1 e 6).toInt) (hpl : Y.1 (e + 21) j = pl) (hx : Y.1 (e + 19) j = x) (hsy : o + 1 < po (p + 1) → SY cd pst pen p (j + 1) (o + 1)) (hop : (Y.1 (e + 18) j).toInt = 10) (hK : OA X o 18 n) (h21 : X.1 21 n = pl) (h27 : X.1 27 n = x) : ENDS ks (N + 1) o1 X Y i := by
  obtain ⟨hI, ⟨f1, f2, f3, f4⟩, hf, f5, f6, f7, f8, f9⟩ := h.fct (Y.1 70 10 + 1)
  have hn1 : ix (X.1 41 o) = n := ixn hK.2
  obtain ⟨n', g0, _, L, g1, g2, g3⟩ := (h.sr (by have := hK.1; omega)).k18 hK.1
  have en : n' = n := by
    have := hK.2
    omega
  subst en
  obtain ⟨d, hd⟩ : ∃ d, (PTs p o).1 = d + L := ⟨(PTs p o).1 - L, by omega⟩
  have hI1 := hI
  rw [hd, ← Nat.add_assoc] at hI1
  exact h.go1 (K := 18) hS ho hK.1 (by omega) hjl (Int32.toInt_inj.mp (hop.trans (by decide)) : Y.1 (e + 18) j = 10) hx hpl hsy ((h.sr (by have := hK.1; omega)).nms (by have := hK.1; omega) (by have := hK.1; omega)) (pw_mono (op10 (t0 := sb + d) (L := L) (pl := pl) (x := x) ho hK.1 hI1 (by omega) (by omega) (by omega) (by omega) (by rw [← h27]; exact g1) g2 (by rw [hn1]; exact h27) (by rw [hn1]; exact h21)) (fun z X1 q => ⟨q.1, by rw [wrkR (by decide)]; exact q.2⟩)) ih
theorem MRL.t14 (hS : STAT u e ks X0 Y0 po W nr cd pst pen) (h : MRL u e ks X0 Y0 po PTs (SY cd pst pen) sq W X Y r G p j o c b sb T i) (ho : o1.toInt = (o : Int)) (ih : IHN u e ks X0 Y0 po PTs (SY cd pst pen) W N) (hjl : (j : Int) < (Y.1 e 6).toInt) (hpl : Y.1 (e + 21) j = pl) (hx : Y.1 (e + 19) j = x) (hsy : o + 1 < po (p + 1) → SY cd pst pen p (j + 1) (o + 1)) (hop : (Y.1 (e + 18) j).toInt = 14) (hK : OA X o 26 n) (h22 : X.1 22 n = pl) : ENDS ks (N + 1) o1 X Y i := by
  obtain ⟨hI, ⟨f1, f2, f3, f4⟩, hf, f5, f6, f7, f8, f9⟩ := h.fct (Y.1 70 10 + 1)
  have hn1 : ix (X.1 41 o) = n := ixn hK.2
  obtain ⟨_, _, _, ⟨g1, g2⟩, e1, g3⟩ := (h.sr (by have := hK.1; omega)).k26 hK.1
  obtain ⟨d, hd⟩ : ∃ d, (PTs p o).1 = d + 2 := ⟨(PTs p o).1 - 2, by omega⟩
  have hI1 := hI
  rw [hd] at hI1
  have v0 : VV u X G (tp (PTs p o) 0) (X.1 60 (sb + d + 1)) (X.1 61 (sb + d + 1)) := by
    have q := hf.2.2.1.tp (i := 0) (by omega)
    rw [show (PTs p o).1 - 1 - 0 = d + 1 by omega] at q
    exact q
  have v1 : VV u X G (tp (PTs p o) 1) (X.1 60 (sb + d)) (X.1 61 (sb + d)) := by
    have q := hf.2.2.1.tp (i := 1) (by omega)
    rw [show (PTs p o).1 - 1 - 1 = d by omega] at q
    exact q
  have w0 := vv_pk (by decide) g2 v0
  obtain ⟨w1, w2, _⟩ := vv_take hf.1.1 g3 v1
  exact h.go1 (K := 26) hS ho hK.1 (by omega) hjl (Int32.toInt_inj.mp (hop.trans (by decide)) : Y.1 (e + 18) j = 14) hx hpl hsy ((h.sr (by have := hK.1; omega)).nms (by have := hK.1; omega) (by have := hK.1; omega)) (pw_mono (op14 (t0 := sb + d) (pl := pl) (x := x) ho hK.1 hI1 (by omega) (by omega) (by omega) f7 hf.1.1 hf.1.2.1 hf.1.2.2.1 hf.1.2.2.2 w1 w2 (by omega) (by rw [hn1]; exact h22)) (fun z X1 q => ⟨q.1, by rw [wrkR (by decide)]; exact q.2⟩)) ih
theorem MRL.t15 (hS : STAT u e ks X0 Y0 po W nr cd pst pen) (h : MRL u e ks X0 Y0 po PTs (SY cd pst pen) sq W X Y r G p j o c b sb T i) (ho : o1.toInt = (o : Int)) (ih : IHN u e ks X0 Y0 po PTs (SY cd pst pen) W N) (hjl : (j : Int) < (Y.1 e 6).toInt) (hpl : Y.1 (e + 21) j = pl) (hx : Y.1 (e + 19) j = x) (hsy : o + 1 < po (p + 1) → SY cd pst pen p (j + 1) (o + 1)) (hop : (Y.1 (e + 18) j).toInt = 15) (hK : OA X o 27 n) (h22 : X.1 22 n = pl) : ENDS ks (N + 1) o1 X Y i := by
  obtain ⟨hI, ⟨f1, f2, f3, f4⟩, hf, f5, f6, f7, f8, f9⟩ := h.fct (Y.1 70 10 + 1)
  have hn1 : ix (X.1 41 o) = n := ixn hK.2
  obtain ⟨_, _, _, ⟨g1, g2⟩, g3⟩ := (h.sr (by have := hK.1; omega)).k27 hK.1
  obtain ⟨d, hd⟩ : ∃ d, (PTs p o).1 = d + 3 := ⟨(PTs p o).1 - 3, by omega⟩
  have hI1 := hI
  rw [hd] at hI1
  have v0 : VV u X G (tp (PTs p o) 0) (X.1 60 (sb + d + 2)) (X.1 61 (sb + d + 2)) := by
    have q := hf.2.2.1.tp (i := 0) (by omega)
    rw [show (PTs p o).1 - 1 - 0 = d + 2 by omega] at q
    exact q
  have v1 : VV u X G (tp (PTs p o) 1) (X.1 60 (sb + d + 1)) (X.1 61 (sb + d + 1)) := by
    have q := hf.2.2.1.tp (i := 1) (by omega)
    rw [show (PTs p o).1 - 1 - 1 = d + 1 by omega] at q
    exact q
  have v2 : VV u X G (tp (PTs p o) 2) (X.1 60 (sb + d)) (X.1 61 (sb + d)) := by
    have q := hf.2.2.1.tp (i := 2) (by omega)
    rw [show (PTs p o).1 - 1 - 2 = d by omega] at q
    exact q
  have w0 := vv_pk (by decide) g2 v1
  obtain ⟨w1, w2, w3⟩ := vv_take hf.1.1 g3 v2
  exact h.go1 (K := 27) hS ho hK.1 (by omega) hjl (Int32.toInt_inj.mp (hop.trans (by decide)) : Y.1 (e + 18) j = 15) hx hpl hsy ((h.sr (by have := hK.1; omega)).nms (by have := hK.1; omega) (by have := hK.1; omega)) (pw_mono (op15 (t0 := sb + d) (pl := pl) (x := x) ho hK.1 hI1 (by omega) (by omega) (by omega) f7 hf.1.1 hf.1.2.1 hf.1.2.2.1 hf.1.2.2.2 w1 w2 (by omega) (by rw [w3]; exact v0) (by rw [hn1]; exact h22)) (fun z X1 q => ⟨q.1, by rw [wrkR (by decide)]; exact q.2⟩)) ih
theorem MRL.t8 (hS : STAT u e ks X0 Y0 po W nr cd pst pen) (h : MRL u e ks X0 Y0 po PTs (SY cd pst pen) sq W X Y r G p j o c b sb T i) (ho : o1.toInt = (o : Int)) (ih : IHN u e ks X0 Y0 po PTs (SY cd pst pen) W N) (hjl : (j : Int) < (Y.1 e 6).toInt) (hpl : Y.1 (e + 21) j = pl) (hx : Y.1 (e + 19) j = x) (hsy : o + 1 < po (p + 1) → SY cd pst pen p (j + 1) (o + 1)) (hop : (Y.1 (e + 18) j).toInt = 8) (hK : OA X o 17 n) : ENDS ks (N + 1) o1 X Y i := by
  obtain ⟨hI, ⟨f1, f2, f3, f4⟩, hf, f5, f6, f7, f8, f9⟩ := h.fct (Y.1 70 10 + 1)
  have hn1 : ix (X.1 41 o) = n := ixn hK.2
  exact h.go1 (K := 17) hS ho hK.1 (by omega) hjl (Int32.toInt_inj.mp (hop.trans (by decide)) : Y.1 (e + 18) j = 8) hx hpl hsy ((h.sr (by have := hK.1; omega)).nms (by have := hK.1; omega) (by have := hK.1; omega)) (pw_mono ((op8 ho hK.1 : pw _ (fun z X1 => z = o1 + 1 ∧ X1 = X))) (fun z X1 q => ⟨q.1, by rw [wrkP (by decide), q.2]; exact pw_mono l_join (fun _ Y1 e1 => by rw [e1]; exact ⟨OPQ.id hI, rfl⟩)⟩)) ih
/-- an order that asks -/
theorem MRL.askF (hS : STAT false e ks X0 Y0 po W nr cd pst pen) (h : MRL false e ks X0 Y0 po PTs (SY cd pst pen) sq W X Y r G p j o c b sb T i) (ho : o1.toInt = (o : Int)) (ih : IHN false e ks X0 Y0 po PTs (SY cd pst pen) W N) (hjl : (j : Int) < (Y.1 e 6).toInt) (hsy : o + 1 < po (p + 1) → SY cd pst pen p (j + 1) (o + 1)) (hop : 27 ≤ (Y.1 (e + 18) j).toInt) (hK : OA X o m n) (hm : (5 ≤ m ∧ m ≤ 12) ∨ m = 14 ∨ m = 30) (hg : GNo e ks X Y o j) : ENDS ks (N + 1) o1 X Y i := by
  obtain ⟨hI, ⟨f1, f2, f3, f4⟩, hf, f5, f6, f7, f8, f9⟩ := h.fct (Y.1 70 10 + 1)
  have f8 : ¬ (X.1 0 42).toInt = 0 := fun q => Bool.noConfusion (f8.mpr q)
  have f9 : ¬ ((wI Y 70 10 (Y.1 70 10 + 1)).1 70 3).toInt = 0 := fun q => Bool.noConfusion (f9.mpr q)
  have hK1 := hK.1
  have hk : (5 ≤ (X.1 40 o).toInt ∧ (X.1 40 o).toInt ≤ 12) ∨ (X.1 40 o).toInt = 14 ∨ (X.1 40 o).toInt = 30 := by omega
  have hlt := h.lt (by omega)
  obtain ⟨_, op, n', hoa, hn3, g0, g1, k1, g2, _⟩ := (h.sr (by omega)).x2 hk
  obtain ⟨d, hd⟩ : ∃ d, (PTs p o).1 = d + 1 := ⟨(PTs p o).1 - 1, by omega⟩
  have hI1 := hI
  rw [hd] at hI1
  have v0 := hf.2.2.1.tp (i := 0) (by omega)
  rw [show (PTs p o).1 - 1 - 0 = d by omega] at v0
  have h24 := (h.2.1.1.2 p h.1.2.1.1).2.1.2.2
  have hg' : GNo e ks X (wI Y 70 10 (Y.1 70 10 + 1)) o j := by
    have w : ∀ a b, ¬ (a = 70 ∧ b = 10) → (wI Y 70 10 (Y.1 70 10 + 1)).1 a b = Y.1 a b := fun a b q => wI_ne _ _ _ _ _ _ q
    have he := h.2.2.1.1.1
    unfold GNo at hg ⊢
    simp only [w (e + 20) j (by omega), w 55 5 (by omega), w 56 _ (by omega), w 57 _ (by omega), w 58 _ (by omega), w 59 _ (by omega), w 60 _ (by omega)]
    exact hg
  have hvv : ∀ g : Nat, (X.1 43 o).toInt = (g : Int) → VV false X G (X.1 53 g) (X.1 60 (sb + d)) (X.1 61 (sb + d)) ∧ FIT X (X.1 53 g) (X.1 54 g) := by
    intro g hg
    rcases g2 with ⟨_, gr, _, _⟩ | ⟨q, _⟩
    · rcases gr with ⟨_, q⟩ | ⟨gf, g', q1, q2, q3, q4, _⟩
      · omega
      · have eg : g' = g := by omega
        subst eg
        rw [q3, q4]
        exact ⟨v0, gf⟩
    · exact Bool.noConfusion q
  have hfl : ∀ q : Int32, pw (f_guarded o1 4 q X) (fun _ X1 => X1.1 0 42 = X.1 0 42) := fun q => by
    have g2' : GDR false X o 7 n' (tp (PTs p o) 0) k1 := by
      rcases g2 with w | ⟨w, _⟩
      · exact Or.inl w
      · exact Bool.noConfusion w
    exact pw_mono (pw_ok (r_guarded (at1 := q) hf ho (by omega) g1 g2' (Or.inr (Or.inr (Or.inl ⟨rfl, rfl⟩))) h.2.1.2.2)) (fun _ X1 w => (w.1 rfl).1.1.1 0 42 (by decide))
  exact h.go1 (K := m) (nn1 := (PTs p o).2.2.1) (tp1 := sb + d + 1) hS ho hK1 (by omega) hjl rfl rfl rfl hsy ((h.sr (by omega)).nms (by omega) (by omega)) (pw_mono (n_dg ho hk f8 (fun s q => n_guard (t0 := sb + d) (p2 := s) (p3 := q) (x := Y.1 70 10) hI1 (by omega) (by omega) f7 hf.1.1 hf.1.2.1 f8 f9 ho h.2.2.2.2.1.2.1 hg' hvv) hfl) (fun z X1 q => ⟨q.1, by rw [wrkA hop]; exact q.2⟩)) ih
/-- .. where nothing is wrapped -/
theorem MRL.askU (hS : STAT true e ks X0 Y0 po W nr cd pst pen) (h : MRL true e ks X0 Y0 po PTs (SY cd pst pen) sq W X Y r G p j o c b sb T i) (ho : o1.toInt = (o : Int)) (ih : IHN true e ks X0 Y0 po PTs (SY cd pst pen) W N) (hjl : (j : Int) < (Y.1 e 6).toInt) (hsy : o + 1 < po (p + 1) → SY cd pst pen p (j + 1) (o + 1)) (hop : 27 ≤ (Y.1 (e + 18) j).toInt) (hK : OA X o m n) (hm : (5 ≤ m ∧ m ≤ 12) ∨ m = 14 ∨ m = 30) (hk : OPK (Y.1 (e + 18) j).toInt (m : Int)) (h27 : m = 7 → X.1 27 n = Y.1 (e + 19) j) (h22 : m = 7 ∨ m = 8 → X.1 22 n = Y.1 (e + 21) j) (h21 : m = 5 ∨ m = 6 ∨ m = 9 → X.1 21 n = Y.1 (e + 21) j) : ENDS ks (N + 1) o1 X Y i := by
  obtain ⟨hI, ⟨f1, f2, f3, f4⟩, hf, f5, f6, f7, f8, f9⟩ := h.fct (Y.1 70 10 + 1)
  have hK1 := hK.1
  have hk' : (5 ≤ (X.1 40 o).toInt ∧ (X.1 40 o).toInt ≤ 12) ∨ (X.1 40 o).toInt = 14 ∨ (X.1 40 o).toInt = 30 := by omega
  have he := h.2.2.1.1.1
  have hn1 : ix (X.1 41 o) = n := ixn hK.2
  obtain ⟨_, op, n', hoa, hn3, g0, g1, k1, g2, _⟩ := (h.sr (by omega)).x2 hk'
  obtain ⟨d, hd⟩ : ∃ d, (PTs p o).1 = d + 1 := ⟨(PTs p o).1 - 1, by omega⟩
  have hI1 := hI
  rw [hd] at hI1
  have v0 := hf.2.2.1.tp (i := 0) (by omega)
  rw [show (PTs p o).1 - 1 - 0 = d by omega] at v0
  have vf : (X.1 60 (sb + d)).toInt = 4 → FV X (X.1 61 (sb + d)) := by
    rcases v0 with ⟨q, _⟩ | ⟨_, _, q, _⟩
    · exact Bool.noConfusion q
    · exact q
  have w : ∀ a b, ¬ (a = 70 ∧ b = 10) → (wI Y 70 10 (Y.1 70 10 + 1)).1 a b = Y.1 a b := fun a b q => wI_ne _ _ _ _ _ _ q
  refine h.go1 (K := m) (nn1 := (PTs p o).2.2.1) (tp1 := sb + d + 1) hS ho hK1 (by omega) hjl rfl rfl rfl hsy ((h.sr (by omega)).nms (by omega) (by omega)) (pw_mono (n_askU (t0 := sb + d) (x := Y.1 70 10) (K := m) (jx := j) (n1 := X.1 41 o) hI1 (by omega) f7 hf.1.1 vf (f8.mp rfl) (f9.mp rfl) ho h.2.2.2.2.1.2.1 hK1 hm ?_ ?_ ?_ ?_) (fun z X1 q => ⟨q.1, by rw [wrkA hop]; exact q.2⟩)) ih
  · rw [w (e + 18) j (by omega)]
    exact hk
  · rw [w (e + 19) j (by omega), hn1]
    exact h27
  · rw [w (e + 21) j (by omega), hn1]
    exact h22
  · rw [w (e + 21) j (by omega), hn1]
    exact h21
end TKS
