/-! the frames below -/
/-- c calls below: b of row 76 are theirs and the innermost one's, the innermost one's values begin at sb; sy: places in step -/
def LWr (X Y : St) (r : Nat → Int32) (po : Nat → Nat) (PTs : Nat → Nat → Ty) (sy : Nat → Nat → Nat → Prop) (W : Nat → Nat) : Nat → Nat → Nat → Nat → Prop
  | 0, b, sb, T => (b = 1 ∧ sb = 0 ∧ T = 0) ∧ ((X.1 76 0).toInt < 0 ∧ (X.1 77 0).toInt = -1) ∧ ∃ w : Int32, Y.2.1 84 0 = VLs 4 w
  | c + 1, b, sb, T => ∃ (sb' b' n rp j p T' : Nat) (f : Nat → Int32), (b = b' + n + 1 ∧ n ≤ 20 ∧ sb' ≤ sb ∧ sb + 1 = sb' + (PTs p rp).1 ∧ T = W rp + T') ∧ ((X.1 76 (b' + n)).toInt < 0 ∧ (X.1 77 (b' + n)).toInt = (rp : Int) ∧ (X.1 78 (b' + n)).toInt = 45 * (c : Int)) ∧ (FCH X f n ∧ ∀ i, i < n → (X.1 76 (b' + i)).toInt = (f i).toInt - 100) ∧ Y.2.1 84 (sb + c + 1) = fvl r (f 0) ∧ ((Y.1 82 (c + 1)).toInt = (j : Int) ∧ sy p j rp) ∧ ((p : Int) < (X.1 0 18).toInt ∧ po p < rp ∧ rp < po (p + 1) ∧ (PTs p rp).2.2.1 ≤ 44) ∧ (∀ i, sb' ≤ i → i < sb → VR X r (X.1 60 i) (X.1 61 i) (Y.2.1 84 (i + c + 1))) ∧ (∀ s, s < (PTs p rp).2.2.1 → VR X r (X.1 62 (45 * c + s)) (X.1 63 (45 * c + s)) (Y.2.1 83 (44 * c + s))) ∧ LWr X Y r po PTs sy W c b' sb' T'
section LWS
variable {X Y X1 Y1 : St} {r r1 : Nat → Int32} {po : Nat → Nat} {PTs : Nat → Nat → Ty} {sy : Nat → Nat → Nat → Prop} {W : Nat → Nat} {G G1 : Nat → Int32} {f : Nat → Int32} {D : Nat}
theorem fvl_up (h : 100 ≤ (f 0).toInt → (f 0).toInt - 100 < (X.1 0 33).toInt) (g : HG X X1 r r1) : fvl r1 (f 0) = fvl r (f 0) := by
  unfold fvl
  by_cases z : (f 0).toInt < 100
  · rw [if_pos z, if_pos z]
  · have q := h (by omega)
    have q2 := ixc (z := f 0) (by omega)
    rw [if_neg z, if_neg z, (g.2 (ix (f 0) - 100) (by omega)).2]
theorem FCH.hx (h : FCH X f D) (g : HX X X1 G G1) : FCH X1 f D := ⟨fun i hi => by
  obtain ⟨h1, h2, h3⟩ := h.1 i hi
  refine ⟨h1, h2.hx g, ?_⟩
  rcases h2 with q | ⟨q1, q2, _⟩
  · omega
  · have q3 := ixc (z := f i) (by omega)
    rw [(g.2.2.1 (ix (f i) - 100) (by omega)).2.1.1]
    exact h3, h.2⟩
/-- what lies below stays -/
theorem LWr.up (g : HG X X1 r r1) (hx : HX X X1 G G1) : ∀ (c b sb T : Nat), (∀ i, i < b → X1.1 76 i = X.1 76 i ∧ X1.1 77 i = X.1 77 i ∧ X1.1 78 i = X.1 78 i) → (∀ i, i < sb → X1.1 60 i = X.1 60 i ∧ X1.1 61 i = X.1 61 i) → (∀ i, i < 45 * c → X1.1 62 i = X.1 62 i ∧ X1.1 63 i = X.1 63 i) → (∀ i, i < sb + c + 1 → Y1.2.1 84 i = Y.2.1 84 i) → (∀ i, i < 44 * c → Y1.2.1 83 i = Y.2.1 83 i) → (∀ i, i ≤ c → Y1.1 82 i = Y.1 82 i) → LWr X Y r po PTs sy W c b sb T → LWr X1 Y1 r1 po PTs sy W c b sb T := by
  intro c
  induction c with
  | zero =>
    intro b sb T h76 h60 h62 h84 h83 h82 h
    obtain ⟨⟨a1, a2⟩, ⟨a3, a4⟩, w, a5⟩ := h
    obtain ⟨b1, b2, _⟩ := h76 0 (by omega)
    exact ⟨⟨a1, a2⟩, ⟨by rw [b1]; exact a3, by rw [b2]; exact a4⟩, w, by rw [h84 0 (by omega)]; exact a5⟩
  | succ c ih =>
    intro b sb T h76 h60 h62 h84 h83 h82 h
    obtain ⟨sb', b', n, rp, j, p, T', f, ⟨a1, a2, a3, a4⟩, ⟨b1, b2, b3⟩, ⟨c1, c2⟩, c3, ⟨c4, c5⟩, ⟨d1, d2, d3, d4⟩, e1, e2, e3⟩ := h
    obtain ⟨q1, q2, q3⟩ := h76 (b' + n) (by omega)
    refine ⟨sb', b', n, rp, j, p, T', f, ⟨a1, a2, a3, a4⟩, ⟨by rw [q1]; exact b1, by rw [q2]; exact b2, by rw [q3]; exact b3⟩, ⟨c1.hx hx, fun i hi => by rw [(h76 (b' + i) (by omega)).1]; exact c2 i hi⟩, ?_, ⟨by rw [h82 (c + 1) (Nat.le_refl _)]; exact c4, c5⟩, ⟨by rw [hx.2.2.2.2]; exact d1, d2, d3, d4⟩, fun i i1 i2 => ?_, fun s hs => ?_, ?_⟩
    · rw [h84 (sb + c + 1) (by omega), c3]
      refine (fvl_up (fun z => ?_) g).symm
      rcases Nat.eq_zero_or_pos n with y | y
      · have := c1.2.2
        rw [y] at this
        omega
      · rcases (c1.1 0 y).2.1 with q | q
        · omega
        · exact q.2.1
    · obtain ⟨z1, z2⟩ := h60 i i2
      rw [z1, z2, h84 (i + c + 1) (by omega)]
      exact (e1 i i1 i2).up g
    · obtain ⟨z1, z2⟩ := h62 (45 * c + s) (by omega)
      rw [z1, z2, h83 (44 * c + s) (by omega)]
      exact (e2 s hs).up g
    · exact ih b' sb' T' (fun i hi => h76 i (by omega)) (fun i hi => h60 i (by omega)) (fun i hi => h62 i (by omega)) (fun i hi => h84 i (by omega)) (fun i hi => h83 i (by omega)) (fun i hi => h82 i (by omega)) e3
end LWS
