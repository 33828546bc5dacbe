/-! the reference's judge goes over a stretch of code -/
/-- the loop over orders, from the order s on -/
def WJ (r37 : Int32 → St → Option (Int32 × St)) (a1 a2 : Int32) (Q : Int32 → St → Prop) (s : Nat) (X : St) : Prop := ∀ (M : Nat) (a3 : Int32), a3.toInt = (s : Int) → pw (f_judges_175 r37 M a1 a2 a3 X) Q
/-- what every instruction of part g is -/
def PIq (g : Nat) (a : Ins) : Prop := (a.1 = 30 ∨ a.1 = 31 → 0 ≤ a.2.1 ∧ a.2.1 ≤ 4) ∧ (a.1 = 35 → a.2.1 = (g : Int)) ∧ (a.1 = 34 → WKd 40 a.2.2.2)
section SEGS
variable {X0 X Y Z : St} {g j D s n m k : Nat} {J J1 : JS} {d w : List Int} {c : List Ins} {S : List SE} {a : Ins} {ch : Tx} {ps : List Pt} {told : Nat → Bool} {b : Bool} {r37 : Int32 → St → Option (Int32 × St)} {a1 a2 : Int32} {Q : Int32 → St → Prop} {R : St → Prop}
theorem x_well : pw (f_isWell X) (fun r Y => Y = X ∧ (r.toInt = 0 ↔ ¬ (X.1 0 9).toInt = 0) ∧ (r.toInt = 0 ∨ r.toInt = 1)) := by
  unfold f_isWell
  refine pw_eq (fun x1 e1 => pw_ite (fun h => pw_ret ⟨rfl, ⟨fun z => absurd z (by decide), fun z => absurd (by rw [← e1]; exact h) z⟩, Or.inr (by decide)⟩) (fun h => pw_ret ⟨rfl, ⟨fun _ z => h (by rw [e1]; exact z), fun _ => by decide⟩, Or.inl (by decide)⟩))
theorem WJ.stp (hs : (s : Int) < a2.toInt) (h9 : (X.1 0 9).toInt = 0) (h1 : ∀ p1 p2 : Int32, ix p1 = s → p2 = X.1 41 s → pw (f_judgeOne p1 p2 X) (fun _ Y => R Y)) (h : ∀ Y, R Y → WJ r37 a1 a2 Q (s + 1) Y) : WJ r37 a1 a2 Q s X := by
  have lo1 : (Int32.ofInt 1).toInt = 1 := by decide
  have b2 := a2.toInt_lt
  intro M a3 h3
  cases M with
  | zero => exact pw_none
  | succ M =>
    have e : f_judges_175 r37 (M + 1) = f_judges_175_s r37 (f_judges_175 r37 M) := by
      unfold f_judges_175
      exact lp_succ _ _ _
    rw [e]
    unfold f_judges_175_s
    refine pw_neg (by omega) (pw_bd x_well ?_)
    rintro x28 X29 ⟨e29, w, _⟩
    rw [e29]
    refine pw_neg (fun z => (w.mp z) h9) (pw_ck (fun _ => pw_eq (fun x30 e30 => pw_bd (h1 a3 x30 (ixn h3) (by rw [e30, ixn h3])) (fun _ X31 h31 => pw_let (h X31 h31 M _ ?_)))))
    rw [ti_add (by rw [h3, lo1]; omega) (by rw [h3, lo1]; omega), h3, lo1]
    omega
theorem WJ.fin (hs : a2.toInt ≤ (s : Int)) (h : pw (f_judges_204 r37 a1 X) Q) : WJ r37 a1 a2 Q s X := by
  intro M a3 h3
  cases M with
  | zero => exact pw_none
  | succ M =>
    have e : f_judges_175 r37 (M + 1) = f_judges_175_s r37 (f_judges_175 r37 M) := by
      unfold f_judges_175
      exact lp_succ _ _ _
    rw [e]
    unfold f_judges_175_s
    exact pw_pos (by omega) h
theorem WJ.bad (h9 : ¬ (X.1 0 9).toInt = 0) (h : pw (f_judges_204 r37 a1 X) Q) : WJ r37 a1 a2 Q s X := by
  intro M a3 h3
  cases M with
  | zero => exact pw_none
  | succ M =>
    have e : f_judges_175 r37 (M + 1) = f_judges_175_s r37 (f_judges_175 r37 M) := by
      unfold f_judges_175
      exact lp_succ _ _ _
    rw [e]
    unfold f_judges_175_s
    refine pw_ite (fun _ => h) (fun _ => pw_bd x_well ?_)
    rintro x28 X29 ⟨e29, w, _⟩
    rw [e29]
    exact pw_pos (w.mpr h9) h
theorem x_instr (h : RJ X0 X g J) (hO : JOK D S J) (hP : PJq X0 ps told) (hJ0 : KJq X0) (hg : g < ps.length) (hp : ps.length ≤ 41) (hA : AO X0 (nrp ch ps) c j b s S a) (hN : NQ a S) (h3 : a.1 = 3 → 0 ≤ a.2.1 ∧ a.2.1 < (D : Int)) (h5 : a.1 = 5 → 0 ≤ a.2.1 ∧ a.2.1 ≤ (D : Int)) (hI : PIq g a) (hE : ((s + wgt b a : Nat) : Int) ≤ a2.toInt) (hQ : ∀ Y r, JST ch ps told c g j S a J r → RJr X0 Y g r → WJ r37 a1 a2 Q (s + wgt b a) Y) : WJ r37 a1 a2 Q s X := by
  have h9 := h.2.1.1
  obtain ⟨h30, h35, _⟩ := hI
  have c41 : ∀ q, X.1 41 q = X0.1 41 q := fun q => h.1.1 41 q (by unfold kpJ; omega)
  have one : wgt b a = 1 → (∀ p1 p2 : Int32, ix p1 = s → p2 = X.1 41 s → pw (f_judgeOne p1 p2 X) (fun _ Y => JQ ch ps told c g j S a J X0 Y)) → WJ r37 a1 a2 Q s X := fun hw hone => by
    rw [hw] at hQ hE
    exact WJ.stp (by omega) h9 hone (fun Y ⟨r, q1, q2⟩ => hQ Y r q1 q2)
  have w1 : ¬ a.1 = 0 → ¬ a.1 = 5 → wgt b a = 1 := fun z z5 => by unfold wgt; rw [if_neg z, if_neg (fun y => z5 y.1)]
  have two : ∀ {p2 : Int32} {n : Nat}, p2 = X.1 41 s → (X0.1 41 s).toInt = (n : Int) → p2.toInt = (n : Int) := fun e e1 => by rw [e, c41]; exact e1
  obtain ⟨n, hA⟩ := hA
  rcases hA with ⟨e, hx, hm⟩ | ⟨e, hA, _⟩ | ⟨e, hA, _⟩ | ⟨e, hA, g26, _⟩ | ⟨e, hA, g26, _⟩ | ⟨e, hX⟩ | ⟨e, hA, _⟩ | ⟨e, hA, _⟩ | ⟨e, hA, _, hS⟩ | ⟨e, hA⟩ | ⟨e, hA, _, g27, hS⟩ | ⟨e, hA, _⟩ | ⟨e, hA, _⟩ | ⟨e, hA, _⟩ | ⟨e, hA, _, hF⟩ | ⟨e, hA, _, hF⟩ | ⟨e, hA, _, g27, h0, hF⟩ | ⟨e, hA⟩ | ⟨e, hA, _⟩ | ⟨e, hA, _⟩ | ⟨e, hA, _⟩ | ⟨e, hA, g21⟩ | ⟨e, hA, g21⟩ | ⟨e, hX⟩ | ⟨e, hA, g22, g27, _⟩ | ⟨e, hA, g22, g27, _⟩ | ⟨e, hA, g21, g42, h0, hX⟩ | ⟨e, hA, g21, hF⟩ | ⟨e, hA, g21, hK⟩ | ⟨e, hA, gx, g21⟩ | ⟨e, hA, _⟩
  · have hw : wgt b a = a.2.1.toNat := by unfold wgt; rw [if_pos e]
    have fin := hQ X (Sum.inl J) (JST.i0 e rfl) h
    rw [hw] at fin hE
    have st : ∀ q, q ≤ a.2.1.toNat → WJ r37 a1 a2 Q (s + q) X → WJ r37 a1 a2 Q s X := by
      intro q
      induction q with
      | zero => exact fun _ z => z
      | succ q ih =>
        intro hq z
        obtain ⟨n1, hA1, _⟩ := hm q (by omega)
        refine ih (by omega) (WJ.stp (R := fun Y => Y = X) (by omega) h9 (fun p1 p2 i1 i2 => xo_0 (n := n1) h i1 (by rw [i2, c41]; exact hA1.2) hA1) (fun Y hY => ?_))
        rw [hY]
        exact z
    exact st _ (Nat.le_refl _) fin
  · exact one (w1 (by omega) (by omega)) (fun p1 p2 i1 i2 => xo_1 h i1 (two i2 hA.2) hA e)
  · exact one (w1 (by omega) (by omega)) (fun p1 p2 i1 i2 => xo_2 h i1 (two i2 hA.2) hA e)
  · exact one (w1 (by omega) (by omega)) (fun p1 p2 i1 i2 => xo_3 h i1 (two i2 hA.2) hA e hO g26 (h3 e))
  · exact one (w1 (by omega) (by omega)) (fun p1 p2 i1 i2 => xo_4 h i1 (two i2 hA.2) hA e g26 hP hJ0 ⟨by omega, hp⟩)
  · rcases hX with ⟨hb, hA, g26⟩ | ⟨hb, hA, g25, hA2, g26⟩
    · exact one (by unfold wgt; rw [if_neg (by omega), if_neg (fun y => absurd (hb.symm.trans y.2) (by decide))]) (fun p1 p2 i1 i2 => xo_5 h i1 (two i2 hA.2) hA e hO hN g26 (h5 e).1)
    · have hw : wgt b a = 2 := by unfold wgt; rw [if_neg (by omega), if_pos ⟨e, hb⟩]
      rw [hw] at hQ hE
      refine WJ.stp (R := fun Y => Y = X) (by omega) h9 (fun p1 p2 i1 i2 => xo_5b h i1 (two i2 hA.2) hA g25) (fun Y hY => ?_)
      rw [hY]
      exact WJ.stp (by omega) h9 (fun p1 p2 i1 i2 => xo_5 h i1 (by rw [i2, c41]; exact hA2.2) hA2 e hO hN g26 (h5 e).1) (fun Y ⟨r, q1, q2⟩ => hQ Y r q1 q2)
  · exact one (w1 (by omega) (by omega)) (fun p1 p2 i1 i2 => xo_6 h i1 (two i2 hA.2) hA e hO hN)
  · exact one (w1 (by omega) (by omega)) (fun p1 p2 i1 i2 => xo_7 h i1 (two i2 hA.2) hA e)
  · exact one (w1 (by omega) (by omega)) (fun p1 p2 i1 i2 => xo_8 h i1 (two i2 hA.2) hA e hO hN hS)
  · exact one (w1 (by omega) (by omega)) (fun p1 p2 i1 i2 => xo_9 h i1 (two i2 hA.2) hA e hO hN)
  · exact one (w1 (by omega) (by omega)) (fun p1 p2 i1 i2 => xo_10 h i1 (two i2 hA.2) hA e hO hN g27 hS)
  · exact one (w1 (by omega) (by omega)) (fun p1 p2 i1 i2 => xo_11 h i1 (two i2 hA.2) hA e hO hN)
  · exact one (w1 (by omega) (by omega)) (fun p1 p2 i1 i2 => xo_12 h i1 (two i2 hA.2) hA e hO hN)
  · exact one (w1 (by omega) (by omega)) (fun p1 p2 i1 i2 => xo_13 h i1 (two i2 hA.2) hA e hO hN)
  · exact one (w1 (by omega) (by omega)) (fun p1 p2 i1 i2 => xo_14 h i1 (two i2 hA.2) hA e hO hN hF)
  · exact one (w1 (by omega) (by omega)) (fun p1 p2 i1 i2 => xo_15 h i1 (two i2 hA.2) hA e hO hN hF)
  · exact one (w1 (by omega) (by omega)) (fun p1 p2 i1 i2 => xo_16 h i1 (two i2 hA.2) hA e hO hN g27 h0 hF)
  · exact one (w1 (by omega) (by omega)) (fun p1 p2 i1 i2 => xo_17 h i1 (two i2 hA.2) hA e hO hN)
  · exact one (w1 (by omega) (by omega)) (fun p1 p2 i1 i2 => xo_18 h i1 (two i2 hA.2) hA e hO hN)
  · exact one (w1 (by omega) (by omega)) (fun p1 p2 i1 i2 => xo_19 h i1 (two i2 hA.2) hA e hO hN)
  · refine one (w1 (by omega) (by omega)) (fun p1 p2 i1 i2 => ?_)
    by_cases z : a.1 ≤ 21
    · rw [if_pos z] at hA
      exact xo_20t h i1 (two i2 hA.2) hA ⟨e.1, z⟩ hO hN
    · rw [if_neg z] at hA
      exact xo_20n h i1 (two i2 hA.2) hA ⟨by omega, e.2⟩ hO hN
  · exact one (w1 (by omega) (by omega)) (fun p1 p2 i1 i2 => xo_27 h i1 (two i2 hA.2) hA e hO hN g21)
  · exact one (w1 (by omega) (by omega)) (fun p1 p2 i1 i2 => xo_28 h i1 (two i2 hA.2) hA e hO hN g21)
  · rcases hX with ⟨hA, g22⟩ | ⟨hA, g21⟩
    · exact one (w1 (by omega) (by omega)) (fun p1 p2 i1 i2 => xo_29a h i1 (two i2 hA.2) hA e hO hN g22)
    · exact one (w1 (by omega) (by omega)) (fun p1 p2 i1 i2 => xo_29b h i1 (two i2 hA.2) hA e hO hN g21)
  · exact one (w1 (by omega) (by omega)) (fun p1 p2 i1 i2 => xo_30 h i1 (two i2 hA.2) hA e hO hN g22 g27 (h30 (Or.inl e)))
  · exact one (w1 (by omega) (by omega)) (fun p1 p2 i1 i2 => xo_31 h i1 (two i2 hA.2) hA e hO hN g22 g27 (h30 (Or.inr e)))
  · exact one (w1 (by omega) (by omega)) (fun p1 p2 i1 i2 => xo_32 h i1 (two i2 hA.2) hA e hO hN g21 g42 h0 hX)
  · exact one (w1 (by omega) (by omega)) (fun p1 p2 i1 i2 => xo_33 h i1 (two i2 hA.2) hA e hO hN g21 hF)
  · exact one (w1 (by omega) (by omega)) (fun p1 p2 i1 i2 => xo_34 h i1 (two i2 hA.2) hA e hO hN g21 hK hP hJ0 hg)
  · exact one (w1 (by omega) (by omega)) (fun p1 p2 i1 i2 => xo_35 h i1 (two i2 hA.2) hA e hO hN g21 hP hJ0 hg (by have := h35 e; omega))
  · exact one (w1 (by omega) (by omega)) (fun p1 p2 i1 i2 => xo_36 h i1 (two i2 hA.2) hA e)
theorem x_seg (hP : PJq X0 ps told) (hW : PWd ps) (hJ0 : KJq X0) (hg : g < ps.length) (hp : ps.length ≤ 41) : ∀ (d : List Ins) (j : Nat) (b : Bool) (s : Nat) (S : List SE) (D : Nat) (J : JS) (X : St), RJ X0 X g J → JOK D S J → AOL X0 (nrp ch ps) c j b s S d → DLk D d → (∀ a ∈ d, PIq g a) → ((s + owt b d : Nat) : Int) = a2.toInt → (∀ Y r, JRN ch ps told c g j S J d r → RJr X0 Y g r → pw (f_judges_204 r37 a1 Y) Q) → WJ r37 a1 a2 Q s X := by
  intro d
  induction d with
  | nil =>
    intro j b s S D J X h _ _ _ _ hE hend
    have hE : ((s + 0 : Nat) : Int) = a2.toInt := hE
    exact WJ.fin (by omega) (hend X (Sum.inl J) rfl h)
  | cons a d ih =>
    intro j b s S D J X h hO hA hD hI hE hend
    obtain ⟨⟨hA1, hN⟩, hA2⟩ := hA
    obtain ⟨hD3, hD5, hD2⟩ := hD
    have hE : ((s + (wgt b a + owt (decide (a.1 = 34)) d) : Nat) : Int) = a2.toInt := hE
    have hIa := hI a (List.mem_cons_self ..)
    refine x_instr h hO hP hJ0 hg hp hA1 hN hD3 hD5 hIa (by omega) (fun Y r hr hY => ?_)
    cases r with
    | inl J1 =>
      exact ih (j + 1) _ _ _ (dnx D a) J1 Y hY (JOK.step hW hg hIa.2.2 (fun z => by have := hIa.1 z; omega) hA1 hN hD5 hO hr) hA2 hD2 (fun q hq => hI q (List.mem_cons_of_mem _ hq)) (by omega) (fun Y1 r1 q1 q2 => hend Y1 r1 (Or.inl ⟨J1, hr, q1⟩) q2)
    | inr f =>
      have hY1 : RJB X0 Y ∧ (Y.1 0 9).toInt = f.1 ∧ (Y.1 0 10).toInt = f.2 ∧ ¬ f.1 = 0 := hY
      exact WJ.bad (by rw [hY1.2.1]; exact hY1.2.2.2) (hend Y (Sum.inr f) (Or.inr ⟨f, hr, rfl⟩) hY)
end SEGS
