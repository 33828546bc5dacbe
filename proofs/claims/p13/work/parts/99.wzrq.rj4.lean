/-! the reference's judge: rows and calls asked for -/
section RJ4S
variable {X0 X Y Z : St} {g j k n : Nat} {J : JS} {d d1 w : List Int}
theorem KTo.srt {v : Int32} (h : KTo X v d) : (X.1 4 (ix v)).toInt = sot d + 1 ∧ (X.1 5 (ix v)).toInt = ((cps d).length : Int) := by
  obtain ⟨z, h1, h2⟩ := h
  rw [ixn h1]
  exact ⟨h2.srt.1, h2.cps.1⟩
theorem x_jrow {p1 p2 : Int32} (h : RJ X0 X g J) (hl : 1 ≤ J.1.length) : pw (f_judgeRow p1 p2 X) (fun _ Y => ∃ r, jform g j p2.toInt 3 [4, 3] J r ∧ RJr X0 Y g r) := by
  have l1 : (1 : Int32).toInt = 1 := by decide
  have l2 : (2 : Int32).toInt = 2 := by decide
  have l9 : (9 : Int32).toInt = 9 := by decide
  have h30 := h.2.1.2.2.1
  have b30 := (X.1 0 30).toInt_lt
  unfold f_judgeRow
  refine pw_eq (fun x1 e1 => pw_eq (fun x2 e2 => pw_ck (fun _ => pw_eq (fun x3 e3 => ?_))))
  have v2 : x2.toInt = (X.1 0 30).toInt - 1 := by rw [e2, e1, ti_sub (by rw [h30, l1]; omega) (by rw [h30, l1]; omega), l1]
  obtain ⟨k3, i2⟩ := h.top hl v2 e3
  have any := (KTo.pl h.kj).2.2
  have ia := KTo.iff h.ku k3 any
  rw [l2] at ia
  refine pw_ite (fun c => ?_) (fun c => ?_)
  · have hd := ia.mp c
    refine pw_bd (x_row2 h.kj h.ku any) ?_
    rintro x6 X7 ⟨k7, t6⟩
    have h7 := h.ky k7
    have k37 : KTo X7 x3 [3] := by rw [← hd]; exact k7.kt h.kj k3
    refine pw_eq (fun x8 e8 => pw_bd (x_guards (j := j) (t := (g : Int)) h7 k37 t6 (by rw [e8]; exact h7.2.1.2.1)) ?_)
    rintro _ X9 ⟨hg, b9, r9⟩
    refine pw_eq (fun x10 e10 => pw_eq (fun x11 e11 => pw_ck (fun _ => pw_eq (fun X12 e12 => pw_ret ?_))))
    have i11 : ix x11 = J.1.length - 1 := by
      have c10 : x10 = X.1 0 30 := by rw [e10, r9 0 30 (by omega), k7.2 0 30 (by omega)]
      refine ixn ?_
      rw [e11, c10, ti_sub (by rw [h30, l1]; omega) (by rw [h30, l1]; omega), h30, l1]
      omega
    rw [i11] at e12
    have t9 : KTo X9 x6 [4, 3] := t6.kx h7.kj b9.2.2.2
    rcases hg with ⟨he, _⟩ | ⟨_, hR⟩
    · exact absurd he (by decide)
    · refine ⟨_, Or.inl ⟨hd, rfl⟩, ?_⟩
      show RJ X0 X12 g _
      rw [e12]
      exact hR.set hl t9 rfl
  · have hd : ¬ hdK J.1 = [3] := fun z => c (ia.mpr z)
    have s3 := k3.srt.1
    refine pw_ck (fun _ => pw_eq (fun x4 e4 => pw_ite (fun c4 => ?_) (fun c4 => ?_)))
    · rw [e4] at c4
      exact pw_ret ⟨_, Or.inr (Or.inl ⟨hd, by omega, rfl⟩), h⟩
    · rw [e4] at c4
      refine pw_bd (x_fail (p1 := 9) (p2 := p2) h (by decide)) (fun _ X5 h5 => pw_ret ⟨_, Or.inr (Or.inr ⟨hd, by omega, rfl⟩), ?_⟩)
      rw [l9] at h5
      exact h5
theorem x_jcall {p1 p2 : Int32} {m : Nat} {pl : Int} (h : RJ X0 X g J) (hl : 1 ≤ J.1.length) (hm : ix p2 = m) (h27 : (X.1 27 m).toInt = (n : Int)) (hn : n ≤ 40) (h22 : (X.1 22 m).toInt = pl) : pw (f_judgeCallee p1 p2 X) (fun _ Y => ∃ r, jcall g j pl n J r ∧ RJr X0 Y g r) := by
  have l1 : (1 : Int32).toInt = 1 := by decide
  have l2 : (2 : Int32).toInt = 2 := by decide
  have l9 : (9 : Int32).toInt = 9 := by decide
  have l8 : (8 : Int32).toInt = 8 := by decide
  have h30 := h.2.1.2.2.1
  have b30 := (X.1 0 30).toInt_lt
  unfold f_judgeCallee
  refine pw_eq (fun x1 e1 => pw_eq (fun x2 e2 => pw_ck (fun _ => pw_eq (fun x3 e3 => ?_))))
  have v2 : x2.toInt = (X.1 0 30).toInt - 1 := by rw [e2, e1, ti_sub (by rw [h30, l1]; omega) (by rw [h30, l1]; omega), l1]
  obtain ⟨k3, i2⟩ := h.top hl v2 e3
  have any := (KTo.pl h.kj).2.2
  have ia := KTo.iff h.ku k3 any
  rw [l2] at ia
  refine pw_ite (fun c => ?_) (fun c => ?_)
  · have hd := ia.mp c
    refine pw_ck (fun _ => pw_eq (fun x12 e12 => ?_))
    rw [hm] at e12
    refine pw_bd (x_anyF (n := n) h.kj h.ku (by rw [e12]; exact h27) hn) ?_
    rintro x13 X14 ⟨k14, t13⟩
    have h14 := h.ky k14
    have k314 : KTo X14 x3 [3] := by rw [← hd]; exact k14.kt h.kj k3
    refine pw_ck (fun _ => pw_eq (fun x15 e15 => pw_eq (fun x16 e16 => pw_bd (x_guards (j := j) (t := (g : Int)) h14 k314 t13 (by rw [e16]; exact h14.2.1.2.1)) ?_)))
    rintro _ X17 ⟨hg, b17, r17⟩
    have p15 : x15.toInt = pl := by rw [e15, hm, k14.1.1 22 m (by unfold kpJ; omega)]; exact h22
    refine pw_eq (fun x18 e18 => pw_eq (fun x19 e19 => pw_ck (fun _ => pw_eq (fun X20 e20 => pw_ret ?_))))
    have i19 : ix x19 = J.1.length - 1 := by
      have c18 : x18 = X.1 0 30 := by rw [e18, r17 0 30 (by omega), k14.2 0 30 (by omega)]
      refine ixn ?_
      rw [e19, c18, ti_sub (by rw [h30, l1]; omega) (by rw [h30, l1]; omega), h30, l1]
      omega
    rw [i19] at e20
    have t17 : KTo X17 x13 (anf n) := t13.kx h14.kj b17.2.2.2
    rcases hg with ⟨he, _⟩ | ⟨_, hR⟩
    · exact absurd he (by
        unfold anf
        intro z
        have := (List.cons.inj z).1
        omega)
    · rw [p15] at hR
      refine ⟨_, Or.inl ⟨hd, rfl⟩, ?_⟩
      show RJ X0 X20 g _
      rw [e20]
      exact hR.set hl t17 rfl
  · have hd : ¬ hdK J.1 = [3] := fun z => c (ia.mpr z)
    have s3 := k3.srt
    refine pw_ck (fun _ => pw_eq (fun x4 e4 => pw_ite (fun c4 => ?_) (fun c4 => ?_)))
    · rw [e4] at c4
      have s4 : sot (hdK J.1) = 4 := by omega
      have hc : (cps (hdK J.1)).length = tkn (hdK J.1) + 1 := by rw [cps_4 s4, List.length_append, List.length_map, List.length_range]; rfl
      refine pw_ck (fun _ => pw_eq (fun x5 e5 => pw_eq (fun x6 e6 => pw_ck (fun _ => pw_eq (fun x7 e7 => ?_)))))
      have v5 : x5.toInt = (tkn (hdK J.1) : Int) + 1 := by rw [e5, s3.2, hc]; omega
      have v6 : x6.toInt = (tkn (hdK J.1) : Int) := by
        have := x5.toInt_lt
        rw [e6, ti_sub (by rw [l1]; omega) (by rw [l1]; omega), l1]
        omega
      rw [hm] at e7
      refine pw_ite (fun c6 => ?_) (fun c6 => ?_)
      · rw [e7, h27] at c6
        exact pw_ret ⟨_, Or.inr ⟨hd, Or.inl ⟨s4, Or.inl ⟨by omega, rfl⟩⟩⟩, h⟩
      · rw [e7, h27] at c6
        refine pw_ck (fun _ => pw_eq (fun x8 e8 => pw_bd (x_fail (p1 := 8) (p2 := x8) h (by decide)) (fun _ X9 h9 => pw_ret ⟨_, Or.inr ⟨hd, Or.inl ⟨s4, Or.inr ⟨by omega, rfl⟩⟩⟩, ?_⟩)))
        rw [l8, e8, hm, h22] at h9
        exact h9
    · rw [e4] at c4
      refine pw_ck (fun _ => pw_eq (fun x10 e10 => pw_bd (x_fail (p1 := 9) (p2 := x10) h (by decide)) (fun _ X11 h11 => pw_ret ⟨_, Or.inr ⟨hd, Or.inr ⟨by omega, rfl⟩⟩, ?_⟩)))
      rw [l9, e10, hm, h22] at h11
      exact h11
end RJ4S
