/-! the reference's judge over the parts, with the orders that guards stand at -/
def RGA (N : Nat) (c : List Ins) (X0 X : St) (G : List JG) : Prop := RG X0 X G ∧ LR N c G X
def RJfA (N : Nat) (c : List Ins) (X0 Y : St) : Sum (List JG × List Bool) (Int × Int) → Prop
  | Sum.inl G => RGA N c X0 Y G.1 ∧ (Y.1 0 4).toInt = 1
  | Sum.inr f => RJf X0 Y (Sum.inr f)
section RJAL
variable {X0 X Y Z : St} {g j D s n m k N : Nat} {J J1 : JS} {d w : List Int} {c : List Ins} {S : List SE} {a : Ins} {ch : Tx} {ps : List Pt} {told : Nat → Bool} {b : Bool} {r37 : Int32 → St → Option (Int32 × St)} {a1 a2 p1 p2 : Int32} {Q : Int32 → St → Prop} {R : St → Prop} {G : List JG} {l : List (List Int)} {an : Bool} {po : Nat → Nat}
theorem RJA.w57 {v : Int32} (h : RJA N c X0 X g J) : RJA N c X0 (wI X 57 k v) g J := ⟨RJr.w57 (r := Sum.inl J) h.1, h.2.cg (fun q => wI_ne _ _ _ _ _ _ (by omega))⟩
theorem RJA.par {v : Int32} {i : Nat} (h : RJA N c X0 X g ([], (fun x => (l.take i)[x]?), an, G)) (hv : KTo X v d) (hd : l[i]? = some d) : RJA N c X0 (wI X 59 i v) g ([], (fun x => (l.take (i + 1))[x]?), an, G) := ⟨h.1.par hv hd, h.2.cg (fun q => wI_ne _ _ _ _ _ _ (by omega))⟩
theorem RJA.rg (h : RJA N c X0 X g J) : RGA N c X0 X J.2.2.2 := ⟨h.1.rg, h.2⟩
theorem RGA.w0 {v : Int32} (h : RGA N c X0 X G) (hk : k = 29 ∨ k = 30 ∨ k = 4) : RGA N c X0 (wI X 0 k v) G := ⟨h.1.w0 hk, h.2.cg (fun q => wI_ne _ _ _ _ _ _ (by omega))⟩
theorem RGA.rj (h : RGA N c X0 X G) (h29 : (X.1 0 29).toInt = (g : Int)) (h30 : (X.1 0 30).toInt = 0) : RJA N c X0 X g ([], (fun x => (l.take 0)[x]?), an, G) := ⟨h.1.rj h29 h30, h.2⟩
theorem pcd_atc {nr : Int → Int} {p : Pt} (hk : ps[k]? = some p) (h : PRT X nr c po k p.2.2.2.2.2 (pend ps c k)) : ATc c (pst ps k) false (po k) (pcd ps c k) := by
  obtain ⟨dd, a1, a2, a3, a4⟩ := h
  have e0 : ps.getD k (0, 0, [], [], [], 0) = p := pt_getD hk
  obtain ⟨l1, l2, h1, h2, h3, h4⟩ := a1
  have e : pcd ps c k = dd := by
    unfold pcd
    rw [e0]
    rw [← a2, ← h2, h1, List.take_append, List.take_of_length_le (by omega), show l1.length + dd.length - l1.length = dd.length by omega, List.take_left, List.drop_left]
  rw [e, (pst_x (c := c) hk).1]
  exact ⟨l1, l2, h1, h2, h3, h4⟩
/-- an order that is not where ways join, no row -/
theorem xoA (h : RJA N c X0 X g J) (h1 : ix p1 = s) (hs : opl c j = s ∨ a.1 = 5) (hK : ¬ (X0.1 40 s).toInt = 17 ∧ ¬ (X0.1 40 s).toInt = 18) (h8 : ¬ a.1 = 8 ∧ ¬ a.1 = 10) (hq : pw (f_judgeOne p1 p2 X) (fun _ Y => JQ ch ps told c g j S a J X0 Y)) : pw (f_judgeOne p1 p2 X) (fun _ Y => JQA N ch ps told c g j S a J X0 Y) := by
  have e40 : X.1 40 s = X0.1 40 s := h.1.1.1 40 s (by unfold kpJ; omega)
  refine pw_mono (pw_and hq (hq_judgeOne (X0 := X) (o := s) h1 (by rw [e40]; exact hK) HQ.rf)) ?_
  rintro _ Y ⟨⟨r, q1, q2⟩, q3⟩
  refine ⟨r, q1, ?_⟩
  cases r with
  | inr f => exact q2
  | inl J1 =>
    have q2 : RJ X0 Y g J1 := q2
    refine ⟨q2, ?_⟩
    rcases hs with hs | h5
    · exact h.2.step q3 h.1.2.1.2.2.2 q2.2.1.2.2.2 (q1.gl h8.1 h8.2) hs
    · have e := Sum.inl.inj (q1.e5 h5)
      have eg : J1.2.2.2 = J.2.2.2 := by rw [e]
      have q28 := q2.2.1.2.2.2
      rw [eg] at q28 ⊢
      exact h.2.keep q3 (by rw [q28]; exact h.1.2.1.2.2.2.symm)
theorem xoA_8 (h : RJA N c X0 X g J) (h1 : ix p1 = s) (h2 : p2.toInt = (n : Int)) (hA : OA X0 s 17 n) (e : a.1 = 8) (hO : JOK D S J) (hN : NQ a S) (hS : ∃ (S1 : List SE) (j1 j2 : Nat), S = (some j2, none, 0) :: (some j1, none, 0) :: S1 ∧ GAT X0 c (ix (X0.1 24 n)) j1 ∧ GAT X0 c (ix (X0.1 25 n)) j2) : pw (f_judgeOne p1 p2 X) (fun _ Y => JQA N ch ps told c g j S a J X0 Y) := by
  have i2 : ix p2 = n := ixn h2
  have nl := ned_8 e hN
  have hl := hO.1
  unfold f_judgeOne
  refine pw_ck (fun _ => pw_eq (fun y1 ye => ?_))
  have yv : y1.toInt = 17 := by
    have := hA.1
    rw [ye, h1, h.1.1.1 40 s (by unfold kpJ; omega)]
    omega
  refine pw_neg (by omega) (pw_neg (by omega) (pw_neg (by omega) (pw_neg (by omega) (pw_neg (by omega) (pw_neg (by omega) (pw_neg (by omega) (pw_neg (by omega) (pw_neg (by omega) (pw_neg (by omega) (pw_neg (by omega) (pw_neg (by omega) (pw_bd ?_ (fun _ _ h66 => pw_ret h66)))))))))))))
  unfold f_judgeMore
  refine pw_ck (fun _ => pw_eq (fun z1 ze => ?_))
  have zv : z1.toInt = 17 := by
    have := hA.1
    rw [ze, h1, h.1.1.1 40 s (by unfold kpJ; omega)]
    omega
  refine pw_neg (by omega) (pw_neg (by omega) (pw_neg (by omega) (pw_pos (by omega) ?_)))
  obtain ⟨S1, j1, j2, hS, q1, q2⟩ := hS
  refine pw_bd (x_joinA (c := c) h (by omega) i2 hS (by rw [h.1.1.1 24 n (by unfold kpJ; omega)]; exact q1) (by rw [h.1.1.1 25 n (by unfold kpJ; omega)]; exact q2)) ?_
  rintro _ X32 ⟨k, J1, hm, hR⟩
  exact pw_ret ⟨_, JST.i8 e ⟨k, J1, hm, rfl⟩, hR⟩
theorem xoA_10 (h : RJA N c X0 X g J) (h1 : ix p1 = s) (h2 : p2.toInt = (n : Int)) (hA : OA X0 s 18 n) (e : a.1 = 10) (hO : JOK D S J) (hN : NQ a S) (g27 : iv X0 27 n = a.2.1) (hS : ∃ (S1 : List SE) (us : List (Nat × Nat)), a.2.1 = (us.length : Int) ∧ S = us.reverse.map (fun w => ((some w.2, none, 0) : SE)) ++ S1 ∧ ECH X0 c (iv X0 24 n) us) : pw (f_judgeOne p1 p2 X) (fun _ Y => JQA N ch ps told c g j S a J X0 Y) := by
  have i2 : ix p2 = n := ixn h2
  have nl := ned_10 e hN
  have hl := hO.1
  unfold f_judgeOne
  refine pw_ck (fun _ => pw_eq (fun y1 ye => ?_))
  have yv : y1.toInt = 18 := by
    have := hA.1
    rw [ye, h1, h.1.1.1 40 s (by unfold kpJ; omega)]
    omega
  refine pw_neg (by omega) (pw_neg (by omega) (pw_neg (by omega) (pw_neg (by omega) (pw_neg (by omega) (pw_neg (by omega) (pw_neg (by omega) (pw_neg (by omega) (pw_neg (by omega) (pw_neg (by omega) (pw_neg (by omega) (pw_neg (by omega) (pw_bd ?_ (fun _ _ h66 => pw_ret h66)))))))))))))
  unfold f_judgeMore
  refine pw_ck (fun _ => pw_eq (fun z1 ze => ?_))
  have zv : z1.toInt = 18 := by
    have := hA.1
    rw [ze, h1, h.1.1.1 40 s (by unfold kpJ; omega)]
    omega
  refine pw_neg (by omega) (pw_neg (by omega) (pw_neg (by omega) (pw_neg (by omega) (pw_pos (by omega) ?_))))
  obtain ⟨S1, us, ul, hS, q1⟩ := hS
  have nu : a.2.1.toNat = us.length := by omega
  refine pw_bd (x_elemsA (n := a.2.1.toNat) (c := c) h (by omega) i2 (by have g27 : (X0.1 27 n).toInt = a.2.1 := g27; omega) nu.symm hS q1) ?_
  rintro _ X34 ⟨k, J1, hm, hR⟩
  exact pw_ret ⟨_, JST.i10 e ⟨k, J1, hm, rfl⟩, hR⟩
theorem x_instrA (h : RJA N c X0 X g J) (hs : opl c j = s) (hO : JOK D S J) (hP : PJq X0 ps told) (hJ0 : KJq X0) (hg : g < ps.length) (hp : ps.length ≤ 41) (hA : AO X0 (nrp ch ps) c j b s S a) (hN : NQ a S) (h3 : a.1 = 3 → 0 ≤ a.2.1 ∧ a.2.1 < (D : Int)) (h5 : a.1 = 5 → 0 ≤ a.2.1 ∧ a.2.1 ≤ (D : Int)) (hI : PIq g a) (hE : ((s + wgt b a : Nat) : Int) ≤ a2.toInt) (hQ : ∀ Y r, JST ch ps told c g j S a J r → RJrA N c X0 Y g r → WJ r37 a1 a2 Q (s + wgt b a) Y) : WJ r37 a1 a2 Q s X := by
  have h9 := h.1.2.1.1
  obtain ⟨h30, h35, _⟩ := hI
  have c41 : ∀ q, X.1 41 q = X0.1 41 q := fun q => h.1.1.1 41 q (by unfold kpJ; omega)
  have one : wgt b a = 1 → ∀ o : Int, (X0.1 40 s).toInt = o → (¬ o = 17 ∧ ¬ o = 18) → (¬ a.1 = 8 ∧ ¬ a.1 = 10) → (∀ p1 p2 : Int32, ix p1 = s → p2 = X.1 41 s → pw (f_judgeOne p1 p2 X) (fun _ Y => JQ ch ps told c g j S a J X0 Y)) → WJ r37 a1 a2 Q s X := fun hw o h40 hc h8 hone => by
    rw [hw] at hQ hE
    exact WJ.stp (by omega) h9 (fun p1 p2 i1 i2 => xoA h i1 (Or.inl hs) (by rw [h40]; exact hc) h8 (hone p1 p2 i1 i2)) (fun Y ⟨r, q1, q2⟩ => hQ Y r q1 q2)
  have w1 : ¬ a.1 = 0 → ¬ a.1 = 5 → wgt b a = 1 := fun z z5 => by unfold wgt; rw [if_neg z, if_neg (fun y => z5 y.1)]
  have two : ∀ {p2 : Int32} {n : Nat}, p2 = X.1 41 s → (X0.1 41 s).toInt = (n : Int) → p2.toInt = (n : Int) := fun e e1 => by rw [e, c41]; exact e1
  obtain ⟨n, hA⟩ := hA
  rcases hA with ⟨e, hx, hm⟩ | ⟨e, hA, _⟩ | ⟨e, hA, _⟩ | ⟨e, hA, g26, _⟩ | ⟨e, hA, g26, _⟩ | ⟨e, hX⟩ | ⟨e, hA, _⟩ | ⟨e, hA, _⟩ | ⟨e, hA, _, hS⟩ | ⟨e, hA⟩ | ⟨e, hA, _, g27, hS⟩ | ⟨e, hA, _⟩ | ⟨e, hA, _⟩ | ⟨e, hA, _⟩ | ⟨e, hA, _, hF⟩ | ⟨e, hA, _, hF⟩ | ⟨e, hA, _, g27, h0, hF⟩ | ⟨e, hA⟩ | ⟨e, hA, _⟩ | ⟨e, hA, _⟩ | ⟨e, hA, _⟩ | ⟨e, hA, g21⟩ | ⟨e, hA, g21⟩ | ⟨e, hX⟩ | ⟨e, hA, g22, g27, _⟩ | ⟨e, hA, g22, g27, _⟩ | ⟨e, hA, g21, g42, h0, hX⟩ | ⟨e, hA, g21, hF⟩ | ⟨e, hA, g21, hK⟩ | ⟨e, hA, gx, g21⟩ | ⟨e, hA, _⟩
  · have hw : wgt b a = a.2.1.toNat := by unfold wgt; rw [if_pos e]
    have fin := hQ X (Sum.inl J) (JST.i0 e rfl) h
    rw [hw] at fin hE
    have st : ∀ q, q ≤ a.2.1.toNat → WJ r37 a1 a2 Q (s + q) X → WJ r37 a1 a2 Q s X := by
      intro q
      induction q with
      | zero => exact fun _ z => z
      | succ q ih =>
        intro hq z
        obtain ⟨n1, hA1, _⟩ := hm q (by omega)
        refine ih (by omega) (WJ.stp (R := fun Y => Y = X) (by omega) h9 (fun p1 p2 i1 i2 => xo_0 (n := n1) h.1 i1 (by rw [i2, c41]; exact hA1.2) hA1) (fun Y hY => ?_))
        rw [hY]
        exact z
    exact st _ (Nat.le_refl _) fin
  · exact one (w1 (by omega) (by omega)) _ hA.1 (by decide) (by omega) (fun p1 p2 i1 i2 => xo_1 h.1 i1 (two i2 hA.2) hA e)
  · exact one (w1 (by omega) (by omega)) _ hA.1 (by decide) (by omega) (fun p1 p2 i1 i2 => xo_2 h.1 i1 (two i2 hA.2) hA e)
  · exact one (w1 (by omega) (by omega)) _ hA.1 (by decide) (by omega) (fun p1 p2 i1 i2 => xo_3 h.1 i1 (two i2 hA.2) hA e hO g26 (h3 e))
  · exact one (w1 (by omega) (by omega)) _ hA.1 (by decide) (by omega) (fun p1 p2 i1 i2 => xo_4 h.1 i1 (two i2 hA.2) hA e g26 hP hJ0 ⟨by omega, hp⟩)
  · rcases hX with ⟨hb, hA, g26⟩ | ⟨hb, hA, g25, hA2, g26⟩
    · exact one (by unfold wgt; rw [if_neg (by omega), if_neg (fun y => absurd (hb.symm.trans y.2) (by decide))]) _ hA.1 (by decide) (by omega) (fun p1 p2 i1 i2 => xo_5 h.1 i1 (two i2 hA.2) hA e hO hN g26 (h5 e).1)
    · have hw : wgt b a = 2 := by unfold wgt; rw [if_neg (by omega), if_pos ⟨e, hb⟩]
      rw [hw] at hQ hE
      refine WJ.stp (R := fun Y => Y = X) (by omega) h9 (fun p1 p2 i1 i2 => xo_5b h.1 i1 (two i2 hA.2) hA g25) (fun Y hY => ?_)
      rw [hY]
      exact WJ.stp (by omega) h9 (fun p1 p2 i1 i2 => xoA (s := s + 1) h i1 (Or.inr e) (by rw [hA2.1]; decide) (by omega) (xo_5 h.1 i1 (by rw [i2, c41]; exact hA2.2) hA2 e hO hN g26 (h5 e).1)) (fun Y ⟨r, q1, q2⟩ => hQ Y r q1 q2)
  · exact one (w1 (by omega) (by omega)) _ hA.1 (by decide) (by omega) (fun p1 p2 i1 i2 => xo_6 h.1 i1 (two i2 hA.2) hA e hO hN)
  · exact one (w1 (by omega) (by omega)) _ hA.1 (by decide) (by omega) (fun p1 p2 i1 i2 => xo_7 h.1 i1 (two i2 hA.2) hA e)
  · have hw := w1 (by omega) (by omega)
    rw [hw] at hQ hE
    exact WJ.stp (by omega) h9 (fun p1 p2 i1 i2 => xoA_8 h i1 (two i2 hA.2) hA e hO hN hS) (fun Y ⟨r, q1, q2⟩ => hQ Y r q1 q2)
  · exact one (w1 (by omega) (by omega)) _ hA.1 (by decide) (by omega) (fun p1 p2 i1 i2 => xo_9 h.1 i1 (two i2 hA.2) hA e hO hN)
  · have hw := w1 (by omega) (by omega)
    rw [hw] at hQ hE
    exact WJ.stp (by omega) h9 (fun p1 p2 i1 i2 => xoA_10 h i1 (two i2 hA.2) hA e hO hN g27 hS) (fun Y ⟨r, q1, q2⟩ => hQ Y r q1 q2)
  · exact one (w1 (by omega) (by omega)) _ hA.1 (by decide) (by omega) (fun p1 p2 i1 i2 => xo_11 h.1 i1 (two i2 hA.2) hA e hO hN)
  · exact one (w1 (by omega) (by omega)) _ hA.1 (by decide) (by omega) (fun p1 p2 i1 i2 => xo_12 h.1 i1 (two i2 hA.2) hA e hO hN)
  · exact one (w1 (by omega) (by omega)) _ hA.1 (by decide) (by omega) (fun p1 p2 i1 i2 => xo_13 h.1 i1 (two i2 hA.2) hA e hO hN)
  · exact one (w1 (by omega) (by omega)) _ hA.1 (by decide) (by omega) (fun p1 p2 i1 i2 => xo_14 h.1 i1 (two i2 hA.2) hA e hO hN hF)
  · exact one (w1 (by omega) (by omega)) _ hA.1 (by decide) (by omega) (fun p1 p2 i1 i2 => xo_15 h.1 i1 (two i2 hA.2) hA e hO hN hF)
  · exact one (w1 (by omega) (by omega)) _ hA.1 (by decide) (by omega) (fun p1 p2 i1 i2 => xo_16 h.1 i1 (two i2 hA.2) hA e hO hN g27 h0 hF)
  · exact one (w1 (by omega) (by omega)) _ hA.1 (by decide) (by omega) (fun p1 p2 i1 i2 => xo_17 h.1 i1 (two i2 hA.2) hA e hO hN)
  · exact one (w1 (by omega) (by omega)) _ hA.1 (by decide) (by omega) (fun p1 p2 i1 i2 => xo_18 h.1 i1 (two i2 hA.2) hA e hO hN)
  · exact one (w1 (by omega) (by omega)) _ hA.1 (by decide) (by omega) (fun p1 p2 i1 i2 => xo_19 h.1 i1 (two i2 hA.2) hA e hO hN)
  · by_cases z : a.1 ≤ 21
    · rw [if_pos z] at hA
      exact one (w1 (by omega) (by omega)) _ hA.1 (by decide) (by omega) (fun p1 p2 i1 i2 => xo_20t h.1 i1 (two i2 hA.2) hA ⟨e.1, z⟩ hO hN)
    · rw [if_neg z] at hA
      exact one (w1 (by omega) (by omega)) _ hA.1 (by decide) (by omega) (fun p1 p2 i1 i2 => xo_20n h.1 i1 (two i2 hA.2) hA ⟨by omega, e.2⟩ hO hN)
  · exact one (w1 (by omega) (by omega)) _ hA.1 (by decide) (by omega) (fun p1 p2 i1 i2 => xo_27 h.1 i1 (two i2 hA.2) hA e hO hN g21)
  · exact one (w1 (by omega) (by omega)) _ hA.1 (by decide) (by omega) (fun p1 p2 i1 i2 => xo_28 h.1 i1 (two i2 hA.2) hA e hO hN g21)
  · rcases hX with ⟨hA, g22⟩ | ⟨hA, g21⟩
    · exact one (w1 (by omega) (by omega)) _ hA.1 (by decide) (by omega) (fun p1 p2 i1 i2 => xo_29a h.1 i1 (two i2 hA.2) hA e hO hN g22)
    · exact one (w1 (by omega) (by omega)) _ hA.1 (by decide) (by omega) (fun p1 p2 i1 i2 => xo_29b h.1 i1 (two i2 hA.2) hA e hO hN g21)
  · exact one (w1 (by omega) (by omega)) _ hA.1 (by decide) (by omega) (fun p1 p2 i1 i2 => xo_30 h.1 i1 (two i2 hA.2) hA e hO hN g22 g27 (h30 (Or.inl e)))
  · exact one (w1 (by omega) (by omega)) _ hA.1 (by decide) (by omega) (fun p1 p2 i1 i2 => xo_31 h.1 i1 (two i2 hA.2) hA e hO hN g22 g27 (h30 (Or.inr e)))
  · exact one (w1 (by omega) (by omega)) _ hA.1 (by decide) (by omega) (fun p1 p2 i1 i2 => xo_32 h.1 i1 (two i2 hA.2) hA e hO hN g21 g42 h0 hX)
  · exact one (w1 (by omega) (by omega)) _ hA.1 (by decide) (by omega) (fun p1 p2 i1 i2 => xo_33 h.1 i1 (two i2 hA.2) hA e hO hN g21 hF)
  · exact one (w1 (by omega) (by omega)) _ hA.1 (by decide) (by omega) (fun p1 p2 i1 i2 => xo_34 h.1 i1 (two i2 hA.2) hA e hO hN g21 hK hP hJ0 hg)
  · exact one (w1 (by omega) (by omega)) _ hA.1 (by decide) (by omega) (fun p1 p2 i1 i2 => xo_35 h.1 i1 (two i2 hA.2) hA e hO hN g21 hP hJ0 hg (by have := h35 e; omega))
  · exact one (w1 (by omega) (by omega)) _ hA.1 (by decide) (by omega) (fun p1 p2 i1 i2 => xo_36 h.1 i1 (two i2 hA.2) hA e)
theorem x_segA (hP : PJq X0 ps told) (hW : PWd ps) (hJ0 : KJq X0) (hg : g < ps.length) (hp : ps.length ≤ 41) : ∀ (d : List Ins) (j : Nat) (b : Bool) (s : Nat) (S : List SE) (D : Nat) (J : JS) (X : St), RJA N c X0 X g J → ATc c j b s d → JOK D S J → AOL X0 (nrp ch ps) c j b s S d → DLk D d → (∀ a ∈ d, PIq g a) → ((s + owt b d : Nat) : Int) = a2.toInt → (∀ Y r, JRN ch ps told c g j S J d r → RJrA N c X0 Y g r → pw (f_judges_204 r37 a1 Y) Q) → WJ r37 a1 a2 Q s X := by
  intro d
  induction d with
  | nil =>
    intro j b s S D J X h _ _ _ _ _ hE hend
    have hE : ((s + 0 : Nat) : Int) = a2.toInt := hE
    exact WJ.fin (by omega) (hend X (Sum.inl J) rfl h)
  | cons a d ih =>
    intro j b s S D J X h hT hO hA hD hI hE hend
    obtain ⟨⟨hA1, hN⟩, hA2⟩ := hA
    obtain ⟨hD3, hD5, hD2⟩ := hD
    have hE : ((s + (wgt b a + owt (decide (a.1 = 34)) d) : Nat) : Int) = a2.toInt := hE
    have hIa := hI a (List.mem_cons_self ..)
    refine x_instrA h hT.opl hO hP hJ0 hg hp hA1 hN hD3 hD5 hIa (by omega) (fun Y r hr hY => ?_)
    cases r with
    | inl J1 =>
      exact ih (j + 1) _ _ _ (dnx D a) J1 Y hY hT.cons (JOK.step hW hg hIa.2.2 (fun z => by have := hIa.1 z; omega) hA1 hN hD5 hO hr) hA2 hD2 (fun q hq => hI q (List.mem_cons_of_mem _ hq)) (by omega) (fun Y1 r1 q1 q2 => hend Y1 r1 (Or.inl ⟨J1, hr, q1⟩) q2)
    | inr f =>
      have hY1 : RJB X0 Y ∧ (Y.1 0 9).toInt = f.1 ∧ (Y.1 0 10).toInt = f.2 ∧ ¬ f.1 = 0 := hY
      exact WJ.bad (by rw [hY1.2.1]; exact hY1.2.2.2) (hend Y (Sum.inr f) (Or.inr ⟨f, hr, rfl⟩) hY)
theorem x_210A {P : St → Prop} (hr : (∃ G, RGA N c X0 X G ∧ ∀ Y, RGA N c X0 Y G → (Y.1 0 4).toInt = 1 → P Y) ∨ ∃ f : Int × Int, (RJB X0 X ∧ (X.1 0 9).toInt = f.1 ∧ (X.1 0 10).toInt = f.2 ∧ ¬ f.1 = 0) ∧ ∀ Y, RJf X0 Y (Sum.inr f) → P Y) : pw (f_judges_210 X) (fun _ Y => P Y) := by
  unfold f_judges_210
  refine pw_bd x_well ?_
  rintro x10 X11 ⟨e11, w, w2⟩
  rw [e11]
  refine pw_ck (fun _ => pw_eq (fun X12 e12 => pw_ret ?_))
  rcases hr with ⟨G, hG, hP⟩ | ⟨f, ⟨f1, f2, f3, f4⟩, hP⟩
  · have h9 := hG.1.2.1
    refine hP X12 (by rw [e12]; exact hG.w0 (by omega)) ?_
    rw [e12, wI_at]
    rcases w2 with z | z
    · exact absurd h9 (w.mp z)
    · exact z
  · refine hP X12 ?_
    have b : RJB X X12 := by rw [e12]; exact RJB.wr f1.2.1 f1.2.2.1 (by unfold kpJ; omega) (by omega) (by omega)
    exact ⟨f1.tr b, by rw [e12, wI_ne _ _ _ _ _ _ (by omega)]; exact f2, by rw [e12, wI_ne _ _ _ _ _ _ (by omega)]; exact f3, f4, by rw [e12, wI_at]; exact w.mpr (by rw [f2]; exact f4)⟩
theorem x_partA (hp : JPRE ch X0 ps told c po) (hk : k < ps.length) (h1 : a1.toInt = (k : Int)) (h : RJA N c X0 X k (js0 ps told k G)) (hQ : ∀ Y r, JRN ch ps told c k (pst ps k) [] (js0 ps told k G) (pcd ps c k) r → RJrA N c X0 Y k r → pw (f_judges_204 r37 a1 Y) Q) (e2 : a2.toInt = (po (k + 1) : Int)) : pw (f_judges_167 r37 a1 a2 X) Q := by
  obtain ⟨hP, hW, hJ, hl, p18, p26, p44, hR⟩ := hp
  obtain ⟨p, hpt⟩ : ∃ p, ps[k]? = some p := ⟨_, List.getElem?_eq_getElem hk⟩
  obtain ⟨r1, r2⟩ := hR k p hpt
  obtain ⟨q1, q2, q3⟩ := pcd_at hpt r1
  have h15 := (hP k p hpt).1
  unfold f_judges_167
  refine pw_ck (fun _ => pw_eq (fun x26 e26 => ?_))
  have v26 : x26.toInt = (po k : Int) := by rw [e26, ixn h1, h.1.1.1 44 k (by unfold kpJ; omega)]; exact p44 k hk
  have hO : JOK p.2.2.2.1.length [] (js0 ps told k G) := by
    have f := wk_fks (told := told) hW hk
    refine ⟨rfl, fun d hd => absurd hd List.not_mem_nil, fun i w k1 hw => absurd hw.symm (Option.some_ne_none _), fun x hx => ?_, fun x d hd => ?_⟩
    · exact ⟨_, List.getElem?_eq_getElem (by rw [pks_ln hpt]; exact hx)⟩
    · have hd : (pks ps told k)[x]? = some d := hd
      exact (f.2.1 d (List.mem_of_getElem? hd)).up (by omega)
  have hD : DLk p.2.2.2.1.length (pcd ps c k) := by
    have := q3 p.2.2.2.1.length [] (by omega) (fun _ _ => trivial)
    rw [List.append_nil] at this
    exact this
  exact x_segA hP hW hJ hk (by omega) _ _ _ _ _ _ _ X h (pcd_atc hpt r1) hO q1 hD r2 (by rw [q2, e2]) hQ BIG x26 v26
theorem x_paramsA (hp : JPRE ch X0 ps told c po) (hk : k < ps.length) (h1 : a1.toInt = (k : Int)) (hQ : ∀ Y r, JRN ch ps told c k (pst ps k) [] (js0 ps told k G) (pcd ps c k) r → RJrA N c X0 Y k r → pw (f_judges_204 r37 a1 Y) Q) : ∀ (M i : Nat) (b2 : Int32) (X : St), b2.toInt = (i : Int) → i ≤ (pks ps told k).length → RJA N c X0 X k ([], (fun x => ((pks ps told k).take i)[x]?), (js0 ps told k G).2.2.1, G) → pw (f_judges_80 r37 M a1 b2 X) Q := by
  have lo1 : (Int32.ofInt 1).toInt = 1 := by decide
  have l1 : (1 : Int32).toInt = 1 := by decide
  obtain ⟨p, hpt⟩ : ∃ p, ps[k]? = some p := ⟨_, List.getElem?_eq_getElem hk⟩
  have hp0 := hp
  obtain ⟨hP, hW, hJ, hl, p18, p26, p44, hR⟩ := hp
  have h15 := (hP k p hpt).1
  have ln := pks_ln (told := told) hpt
  intro M
  induction M with
  | zero => exact fun _ _ _ _ _ _ => pw_none
  | succ M ih =>
    intro i b2 X h2 hi h
    have e : f_judges_80 r37 (M + 1) = f_judges_80_s r37 (f_judges_80 r37 M) := by
      unfold f_judges_80
      exact lp_succ _ _ _
    rw [e]
    unfold f_judges_80_s
    refine pw_ck (fun _ => pw_eq (fun x22 e22 => ?_))
    have v22 : x22.toInt = ((pks ps told k).length : Int) := by rw [e22, ixn h1, h.1.1.1 15 k (by unfold kpJ; omega), h15, ln]
    refine pw_ite (fun c22 => ?_) (fun c22 => ?_)
    · have ei : i = (pks ps told k).length := by omega
      have h0 : RJA N c X0 X k (js0 ps told k G) := by
        rw [ei, List.take_length] at h
        exact h
      refine pw_eq (fun x23 e23 => pw_eq (fun x24 e24 => ?_))
      have v23 : x23.toInt = (k : Int) + 1 := by rw [e23, ti_add (by rw [h1, l1]; omega) (by rw [h1, l1]; omega), h1, l1]
      have v24 : x24.toInt = (ps.length : Int) := by rw [e24, h.1.1.1 0 18 (by unfold kpJ; omega)]; exact p18
      refine pw_ite (fun c24 => ?_) (fun c24 => ?_)
      · have ek : k + 1 = ps.length := by omega
        refine pw_eq (fun x25 e25 => x_partA hp0 hk h1 h0 hQ ?_)
        rw [e25, h.1.1.1 0 26 (by unfold kpJ; omega), p26, ek]
      · refine pw_eq (fun x33 e33 => pw_ck (fun _ => pw_eq (fun x34 e34 => x_partA hp0 hk h1 h0 hQ ?_)))
        have i33 : ix x33 = k + 1 := ixn (by rw [e33, ti_add (by rw [h1, l1]; omega) (by rw [h1, l1]; omega), h1, l1]; omega)
        rw [e34, i33, h.1.1.1 44 _ (by unfold kpJ; omega)]
        exact p44 (k + 1) (by omega)
    · refine pw_bd (x_paramK (hP.jb hJ h.1.1) h.kj h1 hpt (by omega) h2 (by omega)) ?_
      rintro x35 X36 ⟨e36, e0, p35, k35⟩
      rw [e36]
      refine pw_ck (fun _ => pw_eq (fun X37 e37 => ?_))
      have h37 := h.par k35 p35
      rw [← ixn h2, ← e37, ixn h2] at h37
      have f135 : ∀ b0 b1 : Int32, pw (f_judges_135 r37 (f_judges_80 r37 M) a1 b2 b0 b1 X37) Q := fun b0 b1 => by
        unfold f_judges_135
        refine pw_ck (fun _ => pw_eq (fun X39 e39 => pw_let (ih (i + 1) _ X39 ?_ (by omega) ?_)))
        · rw [ti_add (by rw [h2, lo1]; omega) (by rw [h2, lo1]; omega), h2, lo1]; omega
        · rw [e39]
          exact RJA.w57 h37
      have f130 : ∀ b0 : Int32, pw (f_judges_130 r37 (f_judges_80 r37 M) a1 b2 b0 X37) Q := fun b0 => by
        unfold f_judges_130
        exact f135 _ _
      exact pw_ck (fun _ => pw_eq (fun x38 e38 => pw_ite (fun _ => pw_ck (fun _ => pw_eq (fun x41 e41 => pw_ck (fun _ => pw_eq (fun x42 e42 => pw_ite (fun _ => f135 _ _) (fun _ => f130 _)))))) (fun _ => f130 _)))
theorem x_partsA (hp : JPRE ch X0 ps told c po) : ∀ (M k : Nat) (G : List JG × List Bool) (a1 : Int32) (X : St) (P : Sum (List JG × List Bool) (Int × Int) → Prop), a1.toInt = (k : Int) → k ≤ ps.length → RGA N c X0 X G.1 → (∀ r, JALL ch ps told c (ps.length - k) k G r → P r) → pw (f_judges_37 M a1 X) (fun _ Y => ∃ r, P r ∧ RJfA N c X0 Y r) := by
  have lo1 : (Int32.ofInt 1).toInt = 1 := by decide
  have hp0 := hp
  obtain ⟨hP, hW, hJ, hl, p18, p26, p44, hR⟩ := hp
  intro M
  induction M with
  | zero => exact fun _ _ _ _ _ _ _ _ _ => pw_none
  | succ M ih =>
    intro k G a1 X P h1 hk hG hr
    have e : f_judges_37 (M + 1) = f_judges_37_s (f_judges_37 M) := by
      unfold f_judges_37
      exact lp_succ _ _ _
    rw [e]
    unfold f_judges_37_s
    refine pw_eq (fun x9 e9 => ?_)
    have v9 : x9.toInt = (ps.length : Int) := by rw [e9, hG.1.1.1 0 18 (by unfold kpJ; omega)]; exact p18
    refine pw_ite (fun c9 => ?_) (fun c9 => ?_)
    · have ek : ps.length - k = 0 := by omega
      rw [ek] at hr
      exact x_210A (N := N) (c := c) (Or.inl ⟨G.1, hG, fun Y hY h4 => ⟨Sum.inl G, hr _ rfl, hY, h4⟩⟩)
    · have hlt : k < ps.length := by omega
      obtain ⟨m, hm⟩ : ∃ m, ps.length - k = m + 1 := ⟨ps.length - k - 1, by omega⟩
      rw [hm] at hr
      obtain ⟨p, hpt⟩ : ∃ p, ps[k]? = some p := ⟨_, List.getElem?_eq_getElem hlt⟩
      refine pw_bd x_well ?_
      rintro x14 X15 ⟨e15, w, _⟩
      rw [e15]
      refine pw_neg (fun z => (w.mp z) hG.1.2.1) (pw_eq (fun X16 e16 => pw_eq (fun X17 e17 => ?_)))
      have g16 : RGA N c X0 X16 G.1 := by rw [e16]; exact hG.w0 (by omega)
      have g17 : RGA N c X0 X17 G.1 := by rw [e17]; exact g16.w0 (by omega)
      refine pw_bd (x_ownK (hP.jb hJ g17.1.1) g17.1.1.2.1 h1 hpt) ?_
      rintro x18 X19 ⟨e19, k18⟩
      rw [e19]
      have j17 : RJA N c X0 X17 k ([], (fun x => ((pks ps told k).take 0)[x]?), (js0 ps told k G.1).2.2.1, G.1) := g17.rj (by rw [e17, wI_ne _ _ _ _ _ _ (by omega), e16, wI_at]; exact h1) (by rw [e17, wI_at]; decide)
      refine pw_ck (fun _ => pw_eq (fun x20 e20 => pw_ck (fun _ => pw_eq (fun X21 e21 => ?_))))
      have j21 : RJA N c X0 X21 k ([], (fun x => ((pks ps told k).take 0)[x]?), (js0 ps told k G.1).2.2.1, G.1) := by
        rw [e21]
        exact RJA.w57 j17
      refine x_paramsA (G := G.1) hp0 hlt h1 (fun Y r hJR hY => ?_) BIG 0 0 X21 (by decide) (Nat.zero_le _) j21
      unfold f_judges_204
      refine pw_let ?_
      have nx : (a1 + Int32.ofInt 1).toInt = ((k + 1 : Nat) : Int) := by rw [ti_add (by rw [h1, lo1]; omega) (by rw [h1, lo1]; omega), h1, lo1]; omega
      cases r with
      | inl J =>
        have hY : RJA N c X0 Y k J := hY
        refine ih (k + 1) (J.2.2.2, G.2 ++ [J.2.2.1]) _ Y P nx (by omega) hY.rg (fun r h => hr r (Or.inl ⟨J, hJR, ?_⟩))
        rw [show ps.length - (k + 1) = m by omega] at h
        exact h
      | inr f =>
        have hY : RJB X0 Y ∧ (Y.1 0 9).toInt = f.1 ∧ (Y.1 0 10).toInt = f.2 ∧ ¬ f.1 = 0 := hY
        have hr1 := hr (Sum.inr f) (Or.inr ⟨f, hJR, rfl⟩)
        cases M with
        | zero => exact pw_none
        | succ M =>
          have e : f_judges_37 (M + 1) = f_judges_37_s (f_judges_37 M) := by
            unfold f_judges_37
            exact lp_succ _ _ _
          rw [e]
          unfold f_judges_37_s
          have bad : pw (f_judges_210 Y) (fun _ Y => ∃ r, P r ∧ RJfA N c X0 Y r) := x_210A (N := N) (c := c) (Or.inr ⟨f, hY, fun Z hZ => ⟨_, hr1, hZ⟩⟩)
          refine pw_eq (fun x9 e9 => pw_ite (fun _ => bad) (fun _ => pw_bd x_well ?_))
          rintro x14 X15 ⟨e15, w, _⟩
          rw [e15]
          exact pw_pos (w.mpr (by rw [hY.2.1]; exact hY.2.2.2)) bad
end RJAL
