/-! run: both sides -/
section RUN10
variable {e f n m p1 : Nat} {ch : Tx} {ps : List Pt} {told : Nat → Bool} {c : List Ins} {X Y Z : St} {po : Nat → Nat} {ks kt : List (List Int)} {q1 : Int32} {G : List JG}
theorem JUD.run10 {X : St} (h3 : K3 X) (h : JUD X) (hG : PGR X) : ∃ (lo po : Nat → Nat) (PTs : Nat → Nat → Ty), RUNC false X po PTs ∧ po 0 = 0 ∧ (X.1 0 26).toInt = (po (ix (X.1 0 18)) : Int) ∧ CODE X lo po (ix (X.1 0 18)) := by
  obtain ⟨lo, po, -, h1, h2, p0, p26, hp, h4, hJ⟩ := h
  have e19 := ixc hG.1.2.2.1
  have h19 := hG.1.2.2.2
  obtain ⟨PTs, hR⟩ : ∃ PTs, RUNC false X po PTs := by
    refine runc_of hG (fun q hq => ?_) (fun q hq => ?_)
    · have := hp q hq
      have := h2 q _ hq (Nat.le_refl _)
      omega
    · obtain ⟨e, a, b, c, -, PU, u1, u2, u3⟩ := code_ug hG h1 h2 h4 hq
      obtain ⟨k, k1, k2, ⟨-, PT, d1, d2, d3⟩, k3⟩ := hJ q hq
      rw [show po (q + 1) - 2 = e by omega] at d2 d3 k3
      have ee : pty X q = ety false X q := by
        unfold ety
        exact congrArg (fun f => ((0, fun _ => 0, ix (X.1 15 q), f) : Ty)) (funext (fun i => by unfold pkk; rw [if_neg (by decide)]))
      have eo : okk false X q = okv X q := by
        unfold okk
        rw [if_neg (by decide)]
      rw [ee] at d1 d2
      refine ⟨e, PT, k, a, b, c, d1, d2, fun o o1 o2 => (d3 o o1 o2).sr h3 (fun p hs => (u3 o o1 o2).nx hs) (fun n hn => (u3 o o1 o2).sg hn), Or.inl ⟨rfl, by rw [eo]; exact k3, k1, by rw [eo]; exact k2⟩⟩
  exact ⟨lo, po, PTs, hR, p0, p26, h4⟩
theorem l_isFuel : pw (g_Court_isFuel q1 X) (fun z Y => Y = X ∧ ((z.toInt = 0 ∧ (q1.toInt < 0 ∨ 20000 < q1.toInt)) ∨ (¬ z.toInt = 0 ∧ 0 ≤ q1.toInt ∧ q1.toInt ≤ 20000))) := by
  unfold g_Court_isFuel
  exact pw_ite (fun c => pw_ret ⟨rfl, Or.inl ⟨rfl, Or.inl c⟩⟩) (fun c => pw_ite (fun d => pw_ret ⟨rfl, Or.inl ⟨rfl, Or.inr d⟩⟩) (fun d => pw_ret ⟨rfl, Or.inr ⟨by decide, by omega, by omega⟩⟩))
theorem PRT.pq {nr : Int → Int} {po po1 : Nat → Nat} {k i j : Nat} (h : PRT X nr c po k i j) (e1 : po1 k = po k) (e2 : po1 (k + 1) = po (k + 1)) : PRT X nr c po1 k i j := by
  unfold PRT
  rw [e1, e2]
  exact h
/-- the tables stand at a run's beginning -/
theorem stat10 (he : e = 2 ∨ e = 24) {X8 : St} {po8 po lo : Nat → Nat} (hs : SRf ch ps c po8 X8) (ht : TBX X8 X) (hGR : G8R X G) (hL : LR (po8 ps.length) c G X) (h55 : (Y.1 55 5).toInt = (G.length : Int)) (hcg : ∀ (i : Nat) (G1 : JG), G[i]? = some G1 → CGd Y ks i G1) (hLC : LC e c c.length G Y) (hgp : GPs ps G) (hp40 : ps.length ≤ 40) (h300 : G.length ≤ 12000) (hcl : c.length ≤ 1000000) (h00 : psx ps c 0 = 0) (h6 : (Y.1 e 6).toInt = (c.length : Int)) (hY : ∀ (i : Nat) (a : Ins), c[i]? = some a → (Y.1 (e + 18) i).toInt = a.1 ∧ (Y.1 (e + 21) i).toInt = a.2.2.1 ∧ (a.1 = 4 → (Y.1 (e + 19) i).toInt = nrp ch ps a.2.2.1) ∧ (¬ a.1 = 4 → ¬ a.1 = 34 → Y.1 (e + 19) i = Int32.ofInt a.2.1)) (hY2 : ∀ k p, ps[k]? = some p → (Y.1 (e + 17) k).toInt = (p.2.2.2.2.2 : Int)) (hC : CODE X lo po ps.length) (h0 : po 0 = 0) (h26 : (X.1 0 26).toInt = (po ps.length : Int)) : ∃ W, STAT false e ks X Y po W (nrp ch ps) c (pst ps) (pend ps c) := by
  obtain ⟨s1, s2, s3, s4, s5⟩ := hs
  obtain ⟨t1, t2, t3, t4, t5, t6⟩ := ht
  have epo : ∀ p, p ≤ ps.length → po p = po8 p := by
    intro p hp
    by_cases z : p = ps.length
    · rw [z]
      have : (X.1 0 26).toInt = (po8 ps.length : Int) := by rw [t6]; exact s4
      omega
    · have a1 := (hC p (by omega)).1
      have a2 := (s1.2 p (by omega)).1
      rw [t1 44 p (by omega)] at a1
      omega
  have hPR : ∀ k p, ps[k]? = some p → PRT X8 (nrp ch ps) c po k p.2.2.2.2.2 (pend ps c k) := fun k p hk => by
    have hkl := (List.getElem?_eq_some_iff.mp hk).1
    exact (s2 k p hk).1.pq (epo k (by omega)) (epo (k + 1) (by omega))
  have inj := opl_inj h00 hPR
  have hlt : ∀ j, j < c.length → opl c j < po8 ps.length := by
    intro j hj
    obtain ⟨k, k1, k2, k3⟩ := part_of (m := j) h00 ps.length (Nat.le_refl _) (by rw [psx_end]; exact hj)
    have hk := List.getElem?_eq_getElem k1
    have hR := hPR k _ hk
    rw [← (pst_x (c := c) hk).1] at hR
    obtain ⟨r1, r2, r3, r4, r5⟩ := prt_at hR
    obtain ⟨a, b, S, a1, a2, a3⟩ := r5 j k2 k3
    have w1 := wgt_pos a2
    have m1 := opl_mono (cd := c) (show j + 1 ≤ c.length by omega)
    have hP0 : 0 < ps.length := by omega
    have hl : ps[ps.length - 1]? = some ps[ps.length - 1] := List.getElem?_eq_getElem (by omega)
    have hRl := prt_at (hPR (ps.length - 1) _ hl)
    have e1 : pend ps c (ps.length - 1) = c.length := by
      have e2 : pend ps c (ps.length - 1) = psx ps c (ps.length - 1 + 1) := rfl
      rw [e2, show ps.length - 1 + 1 = ps.length by omega, psx_end]
    have e3 := hRl.2.1
    rw [e1, show ps.length - 1 + 1 = ps.length by omega, epo _ (Nat.le_refl _)] at e3
    omega
  refine stat_of (X := X8) t2 (fun _ => by omega) hcl (by rw [t5]; exact s5) (fun p hp => ?_) hPR (fun e k q1 q2 q3 => t1 e k (by omega)) (fun k kd h => KDk.oj s3 t4 k kd h) hY hY2 h6 (fun _ k hk j j1 j2 a ha => ?_)
  · obtain ⟨_, _, e', c1, c2, c3, c4⟩ := hC p hp
    exact ⟨lo p, lo (p + 1), e', c1, c2, c3, c4⟩
  · have hj : j < c.length := (List.getElem?_eq_some_iff.mp ha).1
    refine ⟨fun h27 => gno_of hL hLC hGR.2 h55 hcg hgp hp40 inj hj (hlt j hj) ⟨a, ha, h27⟩, fun h5 _ _ => gno_bind hL hLC inj hj (hlt j hj) (fun ⟨a1, q1, q2⟩ => ?_)⟩
    have e1 := Option.some.inj (ha.symm.trans q1)
    rw [← e1] at q2
    omega
end RUN10
