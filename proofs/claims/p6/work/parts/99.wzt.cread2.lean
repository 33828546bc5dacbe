/-! what the class's read answers -/
section CREAD2
variable {ch : Tx} {n e f : Nat} {X Y Z : St}
theorem wR_0 {X : St} {k a v : Nat} : (_root_.Jvm.Pilot.CBlameCourtLaw_law_r9930_53dc80.wR X 0 k v).2.2 0 a = if a = k then v else X.2.2 0 a := by
  show uA X.2.2 0 (fun j => if j = k then v else X.2.2 0 j) 0 a = _
  rw [uA_at]
theorem l_read (he : e = 2 ∨ e = 24) (hT : TXT ch n) (h1 : (X.1 0 1).toInt = (n : Int)) (hb : ∀ i, i < n → (X.1 1 i &&& 255).toInt = ch i) (r2 : X.2.2 0 2 = e + 1) (r9 : X.2.2 0 9 = f + 1) (hF : pw (g_Reader_readInto e 1 (X.1 0 1) X) (fun _ Y => Y.2.2 0 2 = X.2.2 0 2 ∧ Y.2.2 0 9 = X.2.2 0 9)) : pw (g_Court_read X) (fun r _ => RAq ch r) := by
  unfold g_Court_read
  refine pw_ck (fun _ => pw_to (w := e) (by rw [r2]; rfl) (pw_let ?_))
  refine pw_bd (pw_and (l_readInto he hT h1 hb) hF) ?_
  rintro _ X3 ⟨hfin, q2, q9⟩
  refine pw_eq (fun X4 e4 => pw_eq (fun x5 e5 => pw_eq (fun X6 e6 => pw_let (pw_eq (fun X8 e8 => pw_eq (fun x9 e9 => ?_))))))
  have k9 : x9 = X3.1 46 3 := by rw [e9, e8, wI_ne _ _ _ _ _ _ (by omega), e6, wI_at, e5, e4, wI_ne _ _ _ _ _ _ (by omega)]
  have s8 : X8.2 = X3.2 := by rw [e8, e6, e4]; rfl
  have ke : ∀ k, X8.1 e k = X3.1 e k := fun k => by rw [e8, wI_ne _ _ _ _ _ _ (by omega), e6, wI_ne _ _ _ _ _ _ (by omega), e4, wI_ne _ _ _ _ _ _ (by omega)]
  rw [k9]
  have bad : (∀ ps c, sParts ch 41 [] 0 [] = some (ps, c) → ¬ sNames ch ps c) → fd X3 → pw (some ((-1 : Int32), X8)) (fun r _ => RAq ch r) := fun h _ => pw_ret (Or.inr ⟨h, by decide⟩)
  unfold FINq at hfin
  cases hs : sParts ch 41 [] 0 [] with
  | none =>
    rw [hs] at hfin
    have hd : fd X3 := hfin
    refine pw_neg hd (bad (fun ps c g => ?_) hd)
    rw [hs] at g
    exact absurd g.symm (Option.some_ne_none _)
  | some a =>
    rw [hs] at hfin
    obtain ⟨hR, _, _⟩ := hfin
    rcases hR with ⟨s, hRS, _⟩ | ⟨s, hd⟩
    · have h0 : (X3.1 46 3).toInt = 0 := hRS.2.1
      refine pw_pos h0 ?_
      have z2 : X8.2.2 0 2 = e + 1 := by rw [s8, q2, r2]
      have z9 : X8.2.2 0 9 = f + 1 := by rw [s8, q9, r9]
      refine pw_ck (fun _ => pw_to (w := f) (by rw [z9]; rfl) (pw_ck (fun _ => pw_to (w := e) (by rw [z2]; rfl) ?_)))
      refine pw_eq (fun X12 e12 => pw_eq (fun X13 e13 => pw_eq (fun X14 e14 => pw_eq (fun X15 e15 => pw_eq (fun X16 e16 => ?_)))))
      have z16 : X16.2.2 0 9 = e + 1 := by
        rw [e16, e15, e14]
        show X13.2.2 0 9 = e + 1
        rw [e13, wR_0, if_neg (by omega), e12, wR_0, if_pos rfl]
      have kf : X16.1 e 1 = X3.1 e 1 := by
        rw [e16, wI_ne _ _ _ _ _ _ (by omega), e15, wI_ne _ _ _ _ _ _ (by omega), e14, wI_ne _ _ _ _ _ _ (by omega), e13, e12]
        exact ke 1
      refine pw_ck (fun _ => pw_to (w := e) (by rw [z16]; rfl) (pw_let (pw_ret (Or.inl ⟨a.1, a.2, hs, s, ?_⟩))))
      rw [kf]
      exact hRS.2.2.1.1
    · refine pw_neg hd (bad (fun ps c g => ?_) hd)
      rw [hs] at g
      have e1 := Option.some.inj g
      rw [show ps = a.1 from (congrArg Prod.fst e1).symm, show c = a.2 from (congrArg Prod.snd e1).symm]
      exact s
end CREAD2
