/-! tell: both sides answer alike; what the class's read leaves -/
/-- how many parts the class's program has -/
def CNp (X : St) : Int32 := X.1 (X.2.2 0 9 - 1) 1
/-- what the class's read leaves -/
def RCq (ch : Tx) (X : St) (r : Int32) (Y : St) : Prop := (∃ ps c, sParts ch 41 [] 0 [] = some (ps, c) ∧ sNames ch ps c ∧ r.toInt = (ps.length : Int) ∧ ¬ (Y.1 0 3).toInt = 0 ∧ (CNp Y).toInt = (ps.length : Int)) ∨ ((∀ ps c, sParts ch 41 [] 0 [] = some (ps, c) → ¬ sNames ch ps c) ∧ r.toInt = -1 ∧ Y.1 0 3 = X.1 0 3 ∧ CNp Y = CNp X)
section TELL
variable {ch : Tx} {n e f : Nat} {X Y Z : St} {p1 p2 : Int32}
theorem l_read6 (he : e = 2 ∨ e = 24) (hf : f = 2 ∨ f = 24) (hT : TXT ch n) (h1 : (X.1 0 1).toInt = (n : Int)) (hb : ∀ i, i < n → (X.1 1 i &&& 255).toInt = ch i) (r2 : X.2.2 0 2 = e + 1) (r9 : X.2.2 0 9 = f + 1) (hF : pw (g_Reader_readInto e 1 (X.1 0 1) X) (fun _ Y => (Y.2.2 0 2 = X.2.2 0 2 ∧ Y.2.2 0 9 = X.2.2 0 9) ∧ Y.1 0 3 = X.1 0 3 ∧ Y.1 f 1 = X.1 f 1)) : pw (g_Court_read X) (fun r Y => RCq ch X r Y) := by
  unfold g_Court_read
  refine pw_ck (fun _ => pw_to (w := e) (by rw [r2]; rfl) (pw_let ?_))
  refine pw_bd (pw_and (l_readInto he hT h1 hb) hF) ?_
  rintro _ X3 ⟨hfin, ⟨q2, q9⟩, q3, qf⟩
  refine pw_eq (fun X4 e4 => pw_eq (fun x5 e5 => pw_eq (fun X6 e6 => pw_let (pw_eq (fun X8 e8 => pw_eq (fun x9 e9 => ?_))))))
  have k9 : x9 = X3.1 46 3 := by rw [e9, e8, wI_ne _ _ _ _ _ _ (by omega), e6, wI_at, e5, e4, wI_ne _ _ _ _ _ _ (by omega)]
  have s8 : X8.2 = X3.2 := by rw [e8, e6, e4]; rfl
  have r8 : ∀ i k, ¬ (i = 0 ∧ (k = 1 ∨ k = 7 ∨ k = 8)) → X8.1 i k = X3.1 i k := fun i k hi => by rw [e8, wI_ne _ _ _ _ _ _ (by omega), e6, wI_ne _ _ _ _ _ _ (by omega), e4, wI_ne _ _ _ _ _ _ (by omega)]
  rw [k9]
  have bad : (∀ ps c, sParts ch 41 [] 0 [] = some (ps, c) → ¬ sNames ch ps c) → pw (some ((-1 : Int32), X8)) (fun r Y => RCq ch X r Y) := fun h => by
    refine pw_ret (Or.inr ⟨h, by decide, by rw [r8 0 3 (by omega)]; exact q3, ?_⟩)
    unfold CNp
    rw [s8, q9, r9, r8 _ _ (by omega)]
    exact qf
  unfold FINq at hfin
  cases hs : sParts ch 41 [] 0 [] with
  | none =>
    rw [hs] at hfin
    have hd : fd X3 := hfin
    refine pw_neg hd (bad (fun ps c g => ?_))
    rw [hs] at g
    exact absurd g.symm (Option.some_ne_none _)
  | some a =>
    rw [hs] at hfin
    obtain ⟨hR, _, _⟩ := hfin
    rcases hR with ⟨s, hRS, _⟩ | ⟨s, hd⟩
    · have h0 : (X3.1 46 3).toInt = 0 := hRS.2.1
      refine pw_pos h0 ?_
      have z2 : X8.2.2 0 2 = e + 1 := by rw [s8, q2, r2]
      have z9 : X8.2.2 0 9 = f + 1 := by rw [s8, q9, r9]
      refine pw_ck (fun _ => pw_to (w := f) (by rw [z9]; rfl) (pw_ck (fun _ => pw_to (w := e) (by rw [z2]; rfl) ?_)))
      refine pw_eq (fun X12 e12 => pw_eq (fun X13 e13 => pw_eq (fun X14 e14 => pw_eq (fun X15 e15 => pw_eq (fun X16 e16 => ?_)))))
      have z16 : X16.2.2 0 9 = e + 1 := by
        rw [e16, e15, e14]
        show X13.2.2 0 9 = e + 1
        rw [e13, wR_0, if_neg (by omega), e12, wR_0, if_pos rfl]
      have kf : X16.1 e 1 = X3.1 e 1 := by
        rw [e16, wI_ne _ _ _ _ _ _ (by omega), e15, wI_ne _ _ _ _ _ _ (by omega), e14, wI_ne _ _ _ _ _ _ (by omega), e13, e12]
        exact r8 e 1 (by omega)
      have k3 : (X16.1 0 3).toInt = 1 := by
        rw [e16, wI_ne _ _ _ _ _ _ (by omega), e15, wI_ne _ _ _ _ _ _ (by omega), e14, wI_at]
        decide
      refine pw_ck (fun _ => pw_to (w := e) (by rw [z16]; rfl) (pw_let (pw_ret (Or.inl ⟨a.1, a.2, hs, s, ?_, by omega, ?_⟩))))
      · rw [kf]
        exact hRS.2.2.1.1
      · unfold CNp
        rw [z16]
        show (X16.1 e 1).toInt = _
        rw [kf]
        exact hRS.2.2.1.1
    · refine pw_neg hd (bad (fun ps c g => ?_))
      rw [hs] at g
      have e1 := Option.some.inj g
      rw [show ps = a.1 from (congrArg Prod.fst e1).symm, show c = a.2 from (congrArg Prod.snd e1).symm]
      exact s
/-- is there such a part -/
def isP (has p m : Int32) : Prop := ¬ has.toInt = 0 ∧ 0 ≤ p.toInt ∧ p.toInt < m.toInt
theorem l_isPart : pw (g_Court_isPart p1 X) (fun r Y => Y = X ∧ ((r = 1 ∧ isP (X.1 0 3) p1 (CNp X)) ∨ (r = 0 ∧ ¬ isP (X.1 0 3) p1 (CNp X)))) := by
  unfold g_Court_isPart
  refine pw_let (pw_ite (fun c => pw_ret ⟨rfl, Or.inr ⟨rfl, fun z => z.1 c⟩⟩) (fun c => ?_))
  refine pw_ite (fun c1 => pw_ret ⟨rfl, Or.inr ⟨rfl, fun z => absurd z.2.1 (by omega)⟩⟩) (fun c1 => ?_)
  refine pw_ck (fun _ => pw_let (pw_let ?_))
  refine pw_ite (fun c2 => pw_ret ⟨rfl, Or.inr ⟨rfl, fun z => ?_⟩⟩) (fun c2 => pw_ret ⟨rfl, Or.inl ⟨rfl, c, by omega, ?_⟩⟩)
  · have h := z.2.2
    unfold CNp at h
    omega
  · unfold CNp
    omega
theorem l_tell : pw (g_Court_tell p1 p2 X) (fun r _ => (r = 1 ∧ isP (X.1 0 3) p1 (CNp X)) ∨ (r = 0 ∧ ¬ isP (X.1 0 3) p1 (CNp X))) := by
  unfold g_Court_tell
  refine pw_bd l_isPart ?_
  rintro x1 X2 ⟨e2, h⟩
  rw [e2]
  refine pw_ite (fun c => ?_) (fun c => ?_)
  · rcases h with ⟨h, _⟩ | h
    · rw [h] at c
      exact absurd c (by decide)
    · exact pw_ret (Or.inr ⟨rfl, h.2⟩)
  · rcases h with h | ⟨h, _⟩
    · exact pw_ck (fun _ => pw_let (pw_let (pw_ck (fun _ => pw_let (pw_let (pw_ret (Or.inl ⟨rfl, h.2⟩)))))))
    · rw [h] at c
      exact absurd (by decide) c
theorem x_in (a b c : Int32) (X : St) : pw (f_in a b c X) (fun r Y => Y = X ∧ ((r.toInt = 1 ∧ b.toInt ≤ a.toInt ∧ a.toInt ≤ c.toInt) ∨ (r.toInt = 0 ∧ ¬ (b.toInt ≤ a.toInt ∧ a.toInt ≤ c.toInt)))) := by
  unfold f_in
  refine pw_ite (fun h1 => pw_ret ⟨rfl, Or.inr ⟨by decide, by omega⟩⟩) (fun h1 => ?_)
  exact pw_ite (fun h2 => pw_ret ⟨rfl, Or.inr ⟨by decide, by omega⟩⟩) (fun h2 => pw_ret ⟨rfl, Or.inl ⟨by decide, by omega, by omega⟩⟩)
theorem x_tell (hp : (0 ≤ (X.1 0 18).toInt ∧ (X.1 0 18).toInt ≤ 100) ∨ (X.1 0 3).toInt = 0) : pw (f_tell p1 p2 X) (fun r _ => (r = 1 ∧ isP (X.1 0 3) p1 (X.1 0 18)) ∨ (r = 0 ∧ ¬ isP (X.1 0 3) p1 (X.1 0 18))) := by
  have l1 : (1 : Int32).toInt = 1 := by decide
  have l0 : (0 : Int32).toInt = 0 := by decide
  unfold f_tell
  refine pw_let (pw_ite (fun c => pw_ret (Or.inr ⟨rfl, fun z => z.1 c⟩)) (fun c => ?_))
  have hp := hp.resolve_right c
  refine pw_let (pw_eq (fun x3 e3 => ?_))
  have v3 : x3.toInt = (X.1 0 18).toInt - 1 := by rw [e3, ti_sub (by rw [l1]; omega) (by rw [l1]; omega), l1]
  refine pw_bd (x_in p1 0 x3 X) ?_
  rintro x4 X5 ⟨e5, h⟩
  rw [e5]
  refine pw_ite (fun c4 => pw_ret (Or.inr ⟨rfl, fun z => ?_⟩)) (fun c4 => ?_)
  · obtain ⟨_, z1, z2⟩ := z
    omega
  · refine pw_ck (fun _ => pw_let (pw_let (pw_ret (Or.inl ⟨rfl, c, by omega, by omega⟩))))
theorem isP.one {r r1 a b p m m1 : Int32} (h : (r = 1 ∧ isP a p m) ∨ (r = 0 ∧ ¬ isP a p m)) (g : (r1 = 1 ∧ isP b p m1) ∨ (r1 = 0 ∧ ¬ isP b p m1)) (e : isP a p m ↔ isP b p m1) : r = r1 := by
  rcases h with ⟨h1, h2⟩ | ⟨h1, h2⟩ <;> rcases g with ⟨g1, g2⟩ | ⟨g1, g2⟩
  · rw [h1, g1]
  · exact absurd (e.mp h2) g2
  · exact absurd (e.mpr g2) h2
  · rw [h1, g1]
end TELL
