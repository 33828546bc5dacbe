/-! the reference reads: what read() answers -/
/-- what read answers to a text -/
def RAq (ch : Tx) (r : Int32) : Prop := (∃ ps c, sParts ch 41 [] 0 [] = some (ps, c) ∧ sNames ch ps c ∧ r.toInt = (ps.length : Int)) ∨ ((∀ ps c, sParts ch 41 [] 0 [] = some (ps, c) → ¬ sNames ch ps c) ∧ r.toInt = -1)
theorem RAq.one {ch : Tx} {r r1 : Int32} (h : RAq ch r) (g : RAq ch r1) : r = r1 := by
  rcases h with ⟨ps, c, h1, h2, h3⟩ | ⟨h1, h2⟩
  · rcases g with ⟨ps1, c1, g1, g2, g3⟩ | ⟨g1, g2⟩
    · rw [h1] at g1
      have e := Option.some.inj g1
      have e1 : ps = ps1 := congrArg Prod.fst e
      rw [← e1] at g3
      exact Int32.toInt_inj.mp (h3.trans g3.symm)
    · exact absurd h2 (g1 ps c h1)
  · rcases g with ⟨ps1, c1, g1, g2, g3⟩ | ⟨g1, g2⟩
    · exact absurd g2 (h1 ps1 c1 g1)
    · exact Int32.toInt_inj.mp (h2.trans g2.symm)
section RREAD
variable {ch : Tx} {n : Nat} {X Y Z : St}
theorem rd_116 (X : St) : ∀ (M : Nat) (a : Int32) (Z : St), Z.1 0 18 = X.1 0 18 → pw (f_read_116 M a Z) (fun r _ => r = X.1 0 18) := by
  intro M
  induction M with
  | zero => exact fun _ _ _ => pw_none
  | succ M ih =>
    intro a Z h
    have e : f_read_116 (M + 1) = f_read_116_s (f_read_116 M) := by
      unfold f_read_116
      exact lp_succ _ _ _
    rw [e]
    unfold f_read_116_s
    refine pw_let (pw_ite (fun c => ?_) (fun c => ?_))
    · refine pw_eq (fun X27 e27 => pw_let (pw_ret ?_))
      rw [e27, wI_ne _ _ _ _ _ _ (by omega)]
      exact h
    · refine pw_ck (fun _ => pw_eq (fun X29 e29 => pw_let (ih _ X29 ?_)))
      rw [e29, wI_ne _ _ _ _ _ _ (by omega)]
      exact h
theorem rd_88 (X : St) : ∀ (M : Nat) (a : Int32) (Z : St), Z.1 0 18 = X.1 0 18 → pw (f_read_88 M a Z) (fun r _ => r = X.1 0 18) := by
  intro M
  induction M with
  | zero => exact fun _ _ _ => pw_none
  | succ M ih =>
    intro a Z h
    have e : f_read_88 (M + 1) = f_read_88_s (f_read_88 M) := by
      unfold f_read_88
      exact lp_succ _ _ _
    rw [e]
    unfold f_read_88_s
    refine pw_let (pw_ite (fun c => rd_116 X BIG 0 Z h) (fun c => ?_))
    refine pw_ck (fun _ => pw_let (pw_ck (fun _ => pw_eq (fun X32 e32 => pw_let (ih _ X32 ?_)))))
    rw [e32, wI_ne _ _ _ _ _ _ (by omega)]
    exact h
theorem rd_169 : ∀ (M : Nat) (a b : Int32) (Z : St), pw (f_read_169 M a b Z) (fun r _ => r = (-1 : Int32)) := by
  intro M
  induction M with
  | zero => exact fun _ _ _ => pw_none
  | succ M ih =>
    intro a b Z
    have e : f_read_169 (M + 1) = f_read_169_s (f_read_169 M) := by
      unfold f_read_169
      exact lp_succ _ _ _
    rw [e]
    unfold f_read_169_s
    refine pw_let (pw_ite (fun c => ?_) (fun c => ?_))
    · refine pw_bd (R := fun _ _ => True) (fun _ _ _ => trivial) (fun _ X17 _ => ?_)
      refine pw_ite (fun _ => pw_ret rfl) (fun _ => ?_)
      exact pw_bd (R := fun _ _ => True) (fun _ _ _ => trivial) (fun _ X18 _ => pw_ret rfl)
    · exact pw_ck (fun _ => pw_let (pw_ck (fun _ => pw_let (pw_let (ih _ _ _)))))
theorem x_read (hT : TXT ch n) (h0 : (X.1 0 0).toInt = (n : Int)) (hb : ∀ i, i < n → BY (vp_nar .byte (X.1 1 i)) (ch i)) : pw (f_read X) (fun r _ => RAq ch r) := by
  have l1 : (Int32.ofInt 1).toInt = 1 := by decide
  have hn := hT.1
  have loop : ∀ (M i : Nat) (a : Int32) (Z : St), a.toInt = (i : Int) → i ≤ n → (∀ k, Z.1 0 k = X.1 0 k ∨ k = 1) → (Z.1 0 1).toInt = (n : Int) → (∀ k, Z.1 1 k = X.1 1 k) → (∀ k, k < i → BY (Z.1 2 k) (ch k)) → pw (f_read_10 M a Z) (fun r _ => RAq ch r) := by
    intro M
    induction M with
    | zero => exact fun _ _ _ _ _ _ _ _ _ => pw_none
    | succ M ih =>
      intro i a Z ha hi hz h1 hr hB
      have e : f_read_10 (M + 1) = f_read_10_s (f_read_10 M) := by
        unfold f_read_10
        exact lp_succ _ _ _
      rw [e]
      unfold f_read_10_s
      have hz0 : Z.1 0 0 = X.1 0 0 := (hz 0).resolve_right (by omega)
      refine pw_let (pw_ite (fun c => ?_) (fun c => ?_))
      · rw [hz0] at c
        have ei : i = n := by omega
        refine pw_eq (fun X4 e4 => pw_let ?_)
        have T4 : TXR ch n X4 := ⟨hT, by rw [e4, wI_ne _ _ _ _ _ _ (by omega)]; exact h1, fun k hk => by rw [e4, wI_ne _ _ _ _ _ _ (by omega)]; exact hB k (by omega)⟩
        have rd : pw (f_reads X4) (fun _ Y => (∃ ps c, sParts ch 41 [] 0 [] = some (ps, c) ∧ sNames ch ps c ∧ (Y.1 0 9).toInt = 0 ∧ (Y.1 0 18).toInt = (ps.length : Int)) ∨ ((∀ ps c, sParts ch 41 [] 0 [] = some (ps, c) → ¬ sNames ch ps c) ∧ wrX Y)) := by
          refine x_reads T4 ⟨fun en _ Y hd => Or.inr ⟨fun ps c g => ?_, hd⟩, fun a ea => ⟨fun s Y z h9 h18 => Or.inl ⟨a.1, a.2, ea, s, h9, h18⟩, fun s _ Y hd => Or.inr ⟨fun ps c g => ?_, hd⟩⟩⟩
          · rw [en] at g
            exact absurd g.symm (Option.some_ne_none _)
          · rw [ea] at g
            have e1 := Option.some.inj g
            rw [show ps = a.1 from (congrArg Prod.fst e1).symm, show c = a.2 from (congrArg Prod.snd e1).symm]
            exact s
        refine pw_bd rd ?_
        intro _ X6 h6
        refine pw_let (pw_eq (fun X8 e8 => pw_let (pw_eq (fun X10 e10 => pw_let ?_))))
        have k9 : X10.1 0 9 = X6.1 0 9 := by rw [e10, wI_ne _ _ _ _ _ _ (by omega), e8, wI_ne _ _ _ _ _ _ (by omega)]
        have k18 : X10.1 0 18 = X6.1 0 18 := by rw [e10, wI_ne _ _ _ _ _ _ (by omega), e8, wI_ne _ _ _ _ _ _ (by omega)]
        rw [k9]
        rcases h6 with ⟨ps, cc, g1, g2, g3, g4⟩ | ⟨g1, hd⟩
        · refine pw_pos g3 (pw_eq (fun X22 e22 => pw_let (pw_eq (fun X24 e24 => ?_))))
          refine pw_mono (rd_88 X6 BIG 0 X24 ?_) (fun r _ er => Or.inl ⟨ps, cc, g1, g2, by rw [er]; exact g4⟩)
          rw [e24, wI_ne _ _ _ _ _ _ (by omega), e22, wI_ne _ _ _ _ _ _ (by omega)]
          exact k18
        · have fin : ∀ r : Int32, r = (-1 : Int32) → RAq ch r := fun r er => Or.inr ⟨g1, by rw [er]; decide⟩
          refine pw_neg hd (pw_eq (fun X12 e12 => pw_let ?_))
          refine pw_ite (fun _ => pw_ret (fin _ rfl)) (fun _ => pw_let (pw_let ?_))
          exact pw_mono (rd_169 _ _ _ _) (fun r _ er => fin r er)
      · rw [hz0] at c
        refine pw_ck (fun _ => pw_let ?_)
        rw [ixn ha]
        refine pw_ck (fun _ => pw_eq (fun X35 e35 => pw_let ?_))
        have stepv : (a + Int32.ofInt 1).toInt = ((i + 1 : Nat) : Int) := by rw [ti_add (by rw [ha, l1]; omega) (by rw [ha, l1]; omega), ha, l1]; omega
        refine ih (i + 1) _ X35 stepv (by omega) (fun k => by rw [e35, wI_ne _ _ _ _ _ _ (by omega)]; exact hz k) (by rw [e35, wI_ne _ _ _ _ _ _ (by omega)]; exact h1) (fun k => by rw [e35, wI_ne _ _ _ _ _ _ (by omega)]; exact hr k) (fun k hk => ?_)
        by_cases ek : k = i
        · rw [ek, e35, wI_at, hr]
          exact hb i (by omega)
        · rw [e35, wI_ne _ _ _ _ _ _ (by omega)]
          exact hB k (by omega)
  unfold f_read
  refine pw_let (pw_eq (fun X2 e2 => ?_))
  refine loop BIG 0 0 X2 (by decide) (Nat.zero_le _) (fun k => ?_) (by rw [e2, wI_at]; exact h0) (fun k => by rw [e2, wI_ne _ _ _ _ _ _ (by omega)]) (fun k hk => absurd hk (Nat.not_lt_zero _))
  by_cases ek : k = 1
  · exact Or.inr ek
  · exact Or.inl (by rw [e2, wI_ne _ _ _ _ _ _ (by omega)])
end RREAD
