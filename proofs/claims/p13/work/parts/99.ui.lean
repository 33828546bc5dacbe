/-! the code that is run -/
/-- what is known of a program that has been read, for its runs -/
def PGR (X : St) : Prop := (0 ≤ (X.1 0 18).toInt ∧ (X.1 0 18).toInt ≤ 40 ∧ 0 ≤ (X.1 0 19).toInt ∧ (X.1 0 19).toInt ≤ 3000) ∧ (∀ p : Nat, (p : Int) < (X.1 0 18).toInt → 0 ≤ (X.1 15 p).toInt ∧ (X.1 15 p).toInt ≤ 4) ∧ (∀ i : Nat, (i : Int) < (X.1 0 19).toInt → (X.1 20 i).toInt = 3 → 0 ≤ (X.1 26 i).toInt ∧ (X.1 26 i).toInt < (X.1 0 18).toInt) ∧ (∀ i : Nat, (i : Int) < (X.1 0 19).toInt → (X.1 20 i).toInt = 14 → 2 ≤ (levF (X.1 26 i).toInt64).toInt)
def CODP (X : St) : Prop := ∃ lo po : Nat → Nat, lo (ix (X.1 0 18)) = ix (X.1 0 19) ∧ (∀ p q, p ≤ q → q ≤ ix (X.1 0 18) → lo p ≤ lo q) ∧ (∀ q, q ≤ ix (X.1 0 18) → po q ≤ 5 * lo q) ∧ CODE X lo po (ix (X.1 0 18))
theorem PROG.pgr {X : St} (h : PROG X) (hb : 0 ≤ (X.1 0 18).toInt ∧ (X.1 0 18).toInt ≤ 40 ∧ 0 ≤ (X.1 0 19).toInt) : PGR X := by
  obtain ⟨⟨f1, f2, f3⟩, hA, ⟨n1, n2⟩, hm, -⟩ := h
  have hP := hA.pf ⟨hb.1, hb.2.1⟩
  exact ⟨⟨hb.1, hb.2.1, hb.2.2, n1⟩, fun p hp => (hP.2 p hp).1, hm, fun i hi h14 => f3 i hi (by omega) h14⟩
theorem JUD.codp {X : St} (h : JUD X) : CODP X := by
  obtain ⟨lo, po, -, a, b, -, -, c, d, -⟩ := h
  exact ⟨lo, po, a, b, c, d⟩
theorem ALLC.codp {X : St} (h : ALLC X) : CODP X := by
  obtain ⟨lo, po, -, a, b, -, -, c, d, -⟩ := h
  exact ⟨lo, po, a, b, c, d⟩
/-- a part's code, untold -/
theorem code_ug {X : St} {lo po : Nat → Nat} {q : Nat} (hG : PGR X) (hlo : lo (ix (X.1 0 18)) = ix (X.1 0 19)) (hmon : ∀ p q, p ≤ q → q ≤ ix (X.1 0 18) → lo p ≤ lo q) (hC : CODE X lo po (ix (X.1 0 18))) (hq : q < ix (X.1 0 18)) : ∃ e, po (q + 1) = e + 2 ∧ (OA X e 30 q ∧ OA X (e + 1) 31 q) ∧ ((X.1 40 (po q)).toInt = 0 ∧ (X.1 44 q).toInt = (po q : Int) ∧ po q < e) ∧ UG X (po q) e (ety true X q) (psh (ety true X q) 2) := by
  obtain ⟨⟨b1, b2, b3, b4⟩, hpar, hnm, hsg⟩ := hG
  obtain ⟨c1, c2, e, c3, c4, c5, c6⟩ := hC q hq
  have e18 := ixc b1
  have e19 := ixc b3
  have bd := c3.bd
  have o0 := c3.inv.2.2.2.1
  have hm := hmon (q + 1) (ix (X.1 0 18)) (by omega) (Nat.le_refl _)
  obtain ⟨p1, p2⟩ := hpar q (by omega)
  have e15 := ixc p1
  refine ⟨e, c6, ⟨c4, c5⟩, ⟨o0.1, c1, bd.2.2⟩, CX.ug (by omega) hnm hsg c3 (by omega) (ety true X q) ⟨?_, by omega, fun j hj => ?_⟩⟩
  · show ((ix (X.1 15 q) : Nat) : Int) = _
    exact e15
  · show pkk true X q j = 2
    unfold pkk
    exact if_pos rfl
theorem runc_of {u : Bool} {X : St} {po : Nat → Nat} (hG : PGR X) (hpo : ∀ q, q ≤ ix (X.1 0 18) → po q ≤ 15000) (H : ∀ q, q < ix (X.1 0 18) → ∃ e, ∃ PT : Nat → Ty, ∃ k, po (q + 1) = e + 2 ∧ (OA X e 30 q ∧ OA X (e + 1) 31 q) ∧ ((X.1 40 (po q)).toInt = 0 ∧ (X.1 44 q).toInt = (po q : Int) ∧ po q < e) ∧ PT (po q) = ety u X q ∧ PT e = psh (ety u X q) k ∧ (∀ o, po q ≤ o → o < e → SR u X PT (po q) e o) ∧ GDR u X e 30 q k (okk u X q)) : ∃ PTs, RUNC u X po PTs := by
  have e18 := ixc hG.1.1
  have key : ∀ q, ∃ P : Nat → Ty, q < ix (X.1 0 18) → ((X.1 44 q).toInt = (po q : Int) ∧ po q + 1 < po (q + 1) ∧ po (q + 1) ≤ 24000) ∧ (X.1 40 (po q)).toInt = 0 ∧ P (po q) = ety u X q ∧ (∀ o, po q ≤ o → o < po (q + 1) - 1 → SR u X P (po q) (po (q + 1) - 1) o) ∧ (X.1 40 (po (q + 1) - 1)).toInt = 31 ∧ (P (po (q + 1) - 1)).1 = 1 ∧ (P (po (q + 1) - 1)).2.1 0 = okk u X q ∧ (P (po (q + 1) - 1)).2.2.1 ≤ 44 := by
    intro q
    by_cases hq : q < ix (X.1 0 18)
    · obtain ⟨e, PT, k, h1, ⟨h2, h3⟩, ⟨h4, h5, h6⟩, h7, h8, h9, h10⟩ := H q hq
      have hpq := hpo (q + 1) (by omega)
      obtain ⟨p1, p2⟩ := hG.2.1 q (by omega)
      have e15 := ixc p1
      have hq40 := hG.1.2.1
      obtain ⟨P, q1, q2⟩ : ∃ P : Nat → Ty, (∀ j, j ≤ e → P j = PT j) ∧ P (e + 1) = (1, fun _ => okk u X q, 0, fun _ => 0) := ⟨fun j => if j ≤ e then PT j else (1, fun _ => okk u X q, 0, fun _ => 0), fun j hj => if_pos hj, if_neg (by omega)⟩
      have ee : po (q + 1) - 1 = e + 1 := by omega
      refine ⟨P, fun _ => ?_⟩
      rw [ee]
      refine ⟨⟨h5, by omega, by omega⟩, h4, (q1 _ (by omega)).trans h7, fun o a b => ?_, h3.1, by rw [q2], by rw [q2], by rw [q2]; exact Nat.zero_le _⟩
      by_cases g : o < e
      · exact (h9 o a g).pt ⟨a, g⟩ (fun j _ hj => q1 j (by omega)) (by rw [q1 e (Nat.le_refl _)]; exact TE.rf) (Nat.le_refl _) (Nat.le_succ _) (Or.inr (nlf h2 (by decide)))
      · obtain rfl : o = e := by omega
        have pe : P o = psh (ety u X q) k := (q1 o (Nat.le_refl _)).trans h8
        unfold SR
        rw [pe]
        refine ⟨by show ix (X.1 15 q) ≤ 44; omega, 30, q, h2, by omega, Or.inr (Or.inr (Or.inl ⟨by unfold GOP; omega, by show 1 ≤ 0 + 1; omega, okk u X q, ?_, ⟨by omega, Nat.le_refl _, ?_⟩, Nat.lt_succ_self _, Or.inl rfl⟩))⟩
        · have : tp (psh (ety u X q) k) 0 = k := by
            show tup (fun _ => 0) 0 k 0 = k
            exact tup_at _ _ _
          rw [this]
          exact h10
        · rw [q2]
          refine ⟨rfl, fun j hj => ?_, Nat.zero_le _, fun j hj => absurd hj (Nat.not_lt_zero _)⟩
          have hj : j < 1 := hj
          have : j = 0 := by omega
          subst this
          show okk u X q = tup (tup (fun _ => 0) 0 k) 0 (okk u X q) 0
          exact (tup_at _ _ _).symm
    · exact ⟨fun _ => (0, fun _ => 0, 0, fun _ => 0), fun z => absurd z hq⟩
  obtain ⟨PTs, hPT⟩ := Classical.axiomOfChoice key
  refine ⟨PTs, ⟨hG.1.1, hG.1.2.1⟩, fun p hp => ?_⟩
  obtain ⟨h1, h2, h3, h4, h5, h6, h7, h8⟩ := hPT p (by omega)
  exact ⟨hG.2.1 p hp, h1, h2, h3, h4, h5, h6, h7, h8⟩
theorem CODP.run {X : St} (h : CODP X) (hG : PGR X) : ∃ po PTs, RUNC true X po PTs := by
  obtain ⟨lo, po, h1, h2, h3, h4⟩ := h
  have e19 := ixc hG.1.2.2.1
  have h19 := hG.1.2.2.2
  refine ⟨po, runc_of hG (fun q hq => ?_) (fun q hq => ?_)⟩
  · have := h3 q hq
    have := h2 q _ hq (Nat.le_refl _)
    omega
  · obtain ⟨e, a, b, c, -, PT, d1, d2, d3⟩ := code_ug hG h1 h2 h4 hq
    refine ⟨e, PT, 2, a, b, c, d1, d2, d3, Or.inr ⟨rfl, Or.inl ?_⟩⟩
    unfold okk
    exact if_pos rfl
theorem JUD.run {X : St} (h3 : K3 X) (h : JUD X) (hG : PGR X) : ∃ po PTs, RUNC false X po PTs := by
  obtain ⟨lo, po, -, h1, h2, -, -, hp, h4, hJ⟩ := h
  have e19 := ixc hG.1.2.2.1
  have h19 := hG.1.2.2.2
  refine ⟨po, runc_of hG (fun q hq => ?_) (fun q hq => ?_)⟩
  · have := hp q hq
    have := h2 q _ hq (Nat.le_refl _)
    omega
  · obtain ⟨e, a, b, c, -, PU, u1, u2, u3⟩ := code_ug hG h1 h2 h4 hq
    obtain ⟨k, k1, k2, ⟨-, PT, d1, d2, d3⟩, k3⟩ := hJ q hq
    rw [show po (q + 1) - 2 = e by omega] at d2 d3 k3
    have ee : pty X q = ety false X q := by
      unfold ety
      exact congrArg (fun f => ((0, fun _ => 0, ix (X.1 15 q), f) : Ty)) (funext (fun i => by unfold pkk; rw [if_neg (by decide)]))
    have eo : okk false X q = okv X q := by
      unfold okk
      rw [if_neg (by decide)]
    rw [ee] at d1 d2
    refine ⟨e, PT, k, a, b, c, d1, d2, fun o o1 o2 => (d3 o o1 o2).sr h3 (fun p hs => (u3 o o1 o2).nx hs) (fun n hn => (u3 o o1 o2).sg hn), Or.inl ⟨rfl, by rw [eo]; exact k3, k1, by rw [eo]; exact k2⟩⟩
