/-! chains: what the reference holds, the class holds -/
section CWS
variable {X Y Z X1 Y1 X2 Y2 : St} {r r1 r2 : Nat → Int32} {s w k a : Int32} {y : Int64} {ks : List (List Int)} {e d d1 t m n : Nat} {yc : Nat → Int64} {q f : Nat → Int32} {u : Bool} {G : Nat → Int32} {dd : List Int}
theorem VR.i3 (h : VR X r 3 w y) : (0 ≤ w.toInt ∧ w.toInt < (X.1 0 33).toInt) ∧ y = tvl X r (ix w) := by
  have l3 : (3 : Int32).toInt = 3 := by decide
  rcases h with h | h | h
  · have := h.1
    omega
  · exact h.2
  · have := h.1
    omega
theorem VR.i4 (h : VR X r 4 w y) : y = fvl r w ∧ 0 ≤ w.toInt ∧ (100 ≤ w.toInt → w.toInt - 100 < (X.1 0 33).toInt ∧ wrp X (ix w - 100)) := by
  have l4 : (4 : Int32).toInt = 4 := by decide
  unfold fvl
  rcases h with h | h | ⟨_, ⟨h1, h2, h3⟩ | ⟨h1, h2, h3, h4⟩⟩
  · have := h.1
    omega
  · have := h.1
    omega
  · rw [if_pos h2]
    exact ⟨h3, h1, fun z => by omega⟩
  · rw [if_neg (by omega)]
    exact ⟨h4, by omega, fun _ => ⟨h2, h3⟩⟩
theorem VR.to3 (hs : s.toInt = 3) (h : VR X r s w y) : VR X r 3 w y := by
  have e : s = 3 := Int32.toInt_inj.mp (by rw [hs]; decide)
  rw [e] at h
  exact h
theorem VR.to4 (hs : s.toInt = 4) (h : VR X r s w y) : VR X r 4 w y := by
  have e : s = 4 := Int32.toInt_inj.mp (by rw [hs]; decide)
  rw [e] at h
  exact h
theorem KTo.so (h : KTo X k dd) : _root_.Jvm.Pilot.CBlameCourtLaw_law_r8381_f30dd1.so X k = sot dd + 1 := by
  obtain ⟨z, a1, a2⟩ := h
  unfold _root_.Jvm.Pilot.CBlameCourtLaw_law_r8381_f30dd1.so
  rw [ixn a1]
  exact a2.srt.1
theorem HR.ch3 (h : HR X Y r ks) (hc : CHN X f d) (hd : d ≤ 20) : CCH Y (fun i => tvl X r (ix (f i))) (fun i => r (ix (f i))) d := by
  obtain ⟨⟨_, _, _, h36⟩, hT, _⟩ := h
  obtain ⟨c1, c2, c3⟩ := hc
  have l2 : ¬ (3 : Int32).toInt = 2 := by decide
  refine ⟨hd, fun i hi => ?_, 3, r (ix (f d)), ?_, l2⟩
  · obtain ⟨v1, v2, v3⟩ := c1 i (by omega)
    obtain ⟨w1, w2⟩ := c2 i hi
    have e1 := ixc v1
    obtain ⟨b1, _, _, dd, d1, k1, k2, k3, k4⟩ := (hT (ix (f i)) (by omega)).2 w1
    have s1 : sot d1 + 1 = 4 := k2.1.so.symm.trans (v3 w1).2
    refine ⟨if_neg w1, by rw [h36]; exact b1, ?_⟩
    rcases k4 with ⟨_, k5, _⟩ | ⟨k5, _⟩
    · show Y.2.1 75 (ix (r (ix (f i)))) = tvl X r (ix (f (i + 1)))
      rw [w2]
      exact k5.i3.2
    · omega
  · exact if_pos (Classical.byContradiction (fun z => c3 z))
/-- the chain of a function -/
theorem f_chain (hH : HP u X G) : ∀ (n : Nat) (w : Int32), w.toInt < (n : Int) + 100 → FV X w → ∃ f d, f 0 = w ∧ FCH X f d ∧ ((100 ≤ w.toInt → (d : Int) = (X.1 73 (ix w - 100)).toInt) ∧ d ≤ 20) := by
  intro n
  induction n with
  | zero =>
    intro w hw h
    rcases h with h | h
    · exact ⟨fun _ => w, 0, rfl, ⟨fun i hi => absurd hi (Nat.not_lt_zero _), h.1, h.2.1⟩, fun z => by omega, by omega⟩
    · have := h.1
      omega
  | succ n ih =>
    intro w hw h
    have h0 := h
    rcases h with h | ⟨p1, p2, p3, p4, p5⟩
    · exact ⟨fun _ => w, 0, rfl, ⟨fun i hi => absurd hi (Nat.not_lt_zero _), h.1, h.2.1⟩, fun z => by omega, by omega⟩
    · have e := ixc (z := w) (by omega)
      obtain ⟨-, q1, q2, q3, q4, q5, q6, q7⟩ := (hH.2 (ix w - 100) (by omega)).2 p3
      rcases q7 with ⟨r1, r2, _⟩ | ⟨r1, r2, r3, r4, r5, r6, r7, r8⟩
      · omega
      · obtain ⟨f, d, f0, ⟨f1, f2, f3⟩, f4, f5⟩ := ih (X.1 67 (ix w - 100)) (by omega) r4
        obtain ⟨f', g1, g2⟩ : ∃ f' : Nat → Int32, f' 0 = w ∧ ∀ i, f' (i + 1) = f i := ⟨fun i => if i = 0 then w else f (i - 1), if_pos rfl, fun i => if_neg (by omega)⟩
        have hd : ((d + 1 : Nat) : Int) = (X.1 73 (ix w - 100)).toInt := by
          rcases r8 with ⟨s1, s2⟩ | ⟨s1, s2⟩
          · have := f4 s1
            omega
          · have d0 : d = 0 := by
              rcases Nat.eq_zero_or_pos d with z | z
              · exact z
              · have := (f1 0 z).1
                rw [f0] at this
                omega
            omega
        refine ⟨f', d + 1, g1, ⟨fun i hi => ?_, by rw [g2]; exact f2, by rw [g2]; exact f3⟩, fun _ => hd, by omega⟩
        rcases i with _ | i
        · rw [g1, g2, f0]
          exact ⟨p1, h0, rfl⟩
        · rw [g2, g2]
          exact f1 i (by omega)
theorem HR.ch4 (h : HR X Y r ks) (hc : FCH X f d) (hd : d ≤ 20) : CCH Y (fun i => fvl r (f i)) (fun i => r (ix (f i) - 100)) d := by
  obtain ⟨⟨_, _, _, h36⟩, hT, _⟩ := h
  obtain ⟨c1, c2, c3⟩ := hc
  have l2 : ¬ (4 : Int32).toInt = 2 := by decide
  refine ⟨hd, fun i hi => ?_, 4, f d, if_pos c3, l2⟩
  obtain ⟨v1, v2, v3⟩ := c1 i hi
  rcases v2 with v2 | ⟨p1, p2, p3, p4, p5⟩
  · omega
  have e1 := ixc (z := f i) (by omega)
  obtain ⟨b1, _, _, dd, d1, k1, k2, k3, k4⟩ := (hT (ix (f i) - 100) (by omega)).2 p3
  have s1 : sot d1 + 1 = 5 := k2.1.so.symm.trans p5
  refine ⟨if_neg (by omega), by rw [h36]; exact b1, ?_⟩
  rcases k4 with ⟨k5, _⟩ | ⟨_, _, k5, _⟩
  · omega
  · show Y.2.1 75 (ix (r (ix (f i) - 100))) = fvl r (f (i + 1))
    rw [v3]
    exact k5.i4.1
/-- the reference's chains -/
theorem n_within3 (h33 : (X.1 0 33).toInt ≤ 1000) (hs : s.toInt = 3) (hc : CHN X f d) (hd : d ≤ 20) : pw (f_within s (f 0) X) (fun z Y => Y = X ∧ z = f d) := by
  unfold f_within
  have hb : d < BIG := Nat.lt_of_le_of_lt hd (by decide)
  exact pw_mono (pw_ok (r_within3 h33 hs d BIG f hc hb)) (fun z Y g => ⟨g.1.symm, g.2⟩)
theorem n_within4 (hs : s.toInt = 4) (hc : FCH X f d) : pw (f_within s (f 0) X) (fun z Y => Y = X ∧ z = f d) := by
  have l100 : (100 : Int32).toInt = 100 := by decide
  obtain ⟨c1, c2, c3⟩ := hc
  have loop : ∀ (M i : Nat), i ≤ d → pw (f_within_2 M s (f i) X) (fun z Y => Y = X ∧ z = f d) := by
    intro M
    induction M with
    | zero => exact fun _ _ => pw_none
    | succ M ih =>
      intro i hi
      have e : f_within_2 (M + 1) = f_within_2_s (f_within_2 M) := by
        unfold f_within_2
        exact lp_succ _ _ _
      rw [e]
      unfold f_within_2_s
      refine pw_neg (by omega) ?_
      unfold f_within_16
      refine pw_pos hs (pw_ite (fun c => ?_) (fun c => ?_))
      · have ei : i = d := by
          by_cases z : i = d
          · exact z
          · have := (c1 i (by omega)).1
            omega
        exact pw_ret ⟨rfl, by rw [ei]⟩
      · have hl : i < d := by
          by_cases z : i = d
          · rw [z] at c; omega
          · omega
        obtain ⟨g1, g2, g3⟩ := c1 i hl
        unfold f_within_27
        refine pw_neg (by omega) (pw_eq (fun x1 e1 => ?_))
        have i1 : ix x1 = ix (f i) - 100 := by
          have e2 := ixc (z := f i) (by omega)
          have := (f i).toInt_lt
          refine ixn ?_
          rw [e1, ti_sub (by rw [l100]; omega) (by rw [l100]; omega), l100]
          omega
        unfold f_within_44
        refine pw_ck (fun _ => pw_to (by rw [i1, ← g3]) ?_)
        exact ih (i + 1) (by omega)
  unfold f_within
  exact loop BIG 0 (Nat.zero_le _)
end CWS
