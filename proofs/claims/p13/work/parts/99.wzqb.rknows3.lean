/-! the reference looks up all names -/
section RKNOWS3
variable {ch : Tx} {n q : Nat} {X Y Z X0 : St} {o : Int} {sc : List Nm} {j N N1 s N0 m : Nat} {Q : Int32 → St → Prop} {c c1 : List Ins} {ps : List Pt} {l : Nm}
theorem x_knows (hk : ps.length ≤ 41) (hR : RX ch n X q) (h19 : (X.1 0 19).toInt = (N : Int)) (hM : NMr ch X N c) (hP : PAq ch X ps) : pw (f_knows X) (fun _ Y => ((NG1 ps ∧ NG2 ch ps c) ∧ RX ch n Y q ∧ PAq ch Y ps ∧ KNw X Y ∧ ∀ m, m < N → RSm ch ps Y m) ∨ (¬ (NG1 ps ∧ NG2 ch ps c) ∧ wrX Y)) := by
  have l1 : (Int32.ofInt 1).toInt = 1 := by decide
  have k1 : (1 : Int32).toInt = 1 := by decide
  have l5 : (5 : Int32).toInt = 5 := by decide
  have l0 : (0 : Int32).toInt = 0 := by decide
  have hT := hR.1.1
  have hn := hT.1
  have h18 := hP.1
  have loop : ∀ (M i : Nat) (a1 a2 a3 : Int32), a3.toInt = (i : Int) → i ≤ ps.length → ((a2.toInt = 0 ∧ a1.toInt = (n : Int) + 1 ∧ ∀ k, k < i → partOf (nmsOf ps) ((nmsOf ps).getD k []) = some k) ∨ (1 ≤ a2.toInt ∧ ¬ (NG1 ps ∧ NG2 ch ps c))) → pw (f_knows_11 M a1 a2 a3 X) (fun _ Y => ((NG1 ps ∧ NG2 ch ps c) ∧ RX ch n Y q ∧ PAq ch Y ps ∧ KNw X Y ∧ ∀ m, m < N → RSm ch ps Y m) ∨ (¬ (NG1 ps ∧ NG2 ch ps c) ∧ wrX Y)) := by
    intro M
    induction M with
    | zero => exact fun _ _ _ _ _ _ _ => pw_none
    | succ M ih =>
      intro i a1 a2 a3 h3 hi inv
      have e : f_knows_11 (M + 1) = f_knows_11_s (f_knows_11 M) := by
        unfold f_knows_11
        exact lp_succ _ _ _
      rw [e]
      unfold f_knows_11_s
      refine pw_let (pw_ite (fun c3 => ?_) (fun c3 => ?_))
      · refine x_knows60 hk BIG 0 a1 a2 0 X (by decide) hR h19 hM hP ?_
        rcases inv with ⟨i1, i2, i3⟩ | inv
        · exact Or.inl ⟨i1, i2, fun k hk => i3 k (by omega), fun m hm => by omega⟩
        · exact Or.inr inv
      · have hin : i < ps.length := by omega
        obtain ⟨pi, hat⟩ : ∃ p, ps[i]? = some p := ⟨_, List.getElem?_eq_getElem hin⟩
        obtain ⟨⟨hx, hxl, hx8⟩, hplk, _⟩ := hP.2 i _ hat
        have hnm : (nmsOf ps)[i]? = some pi.2.2.1 := by rw [nms_at, hat]; rfl
        have hgd : (nmsOf ps).getD i [] = pi.2.2.1 := by rw [List.getD_eq_getElem?_getD, hnm]; rfl
        refine pw_ck (fun hc => pw_let ?_)
        rw [ixn h3, hx]
        refine pw_bd (x_partOf (l := pi.2.2.1) hP hk ⟨hxl, hx8⟩ rfl) ?_
        rintro x16 X17 ⟨e17, h16⟩
        rw [e17]
        have stepv : (a3 + Int32.ofInt 1).toInt = ((i + 1 : Nat) : Int) := by rw [ti_add (by rw [h3, l1]; omega) (by rw [h3, l1]; omega), h3, l1]; omega
        have fnd : ∃ m : Nat, partOf (nmsOf ps) pi.2.2.1 = some m ∧ x16.toInt = (m : Int) ∧ m ≤ i := by
          rcases partOf_sp (nmsOf ps) pi.2.2.1 with ⟨_, g⟩ | ⟨m, g1, g2, g3⟩
          · exact absurd hnm (g i)
          · rcases h16 with ⟨h16, _⟩ | ⟨k, h16, hx16, _⟩
            · rw [g1] at h16
              exact absurd h16 (Option.some_ne_none _)
            · rw [g1] at h16
              have h16 := Option.some.inj h16
              refine ⟨m, g1, by omega, ?_⟩
              exact Classical.byContradiction (fun z => g3 i (by omega) hnm)
        obtain ⟨m, f1, f2, f3⟩ := fnd
        have hlt := hplk.lt hT
        unfold f_knows_52
        refine pw_ite (fun c16 => ?_) (fun c16 => ?_)
        · refine pw_let (ih (i + 1) a1 a2 _ stepv (by omega) ?_)
          rcases inv with ⟨i1, i2, i3⟩ | inv
          · refine Or.inl ⟨i1, i2, fun k hk => ?_⟩
            by_cases ek : k = i
            · rw [ek, hgd, f1, show m = i by omega]
            · exact i3 k (by omega)
          · exact Or.inr inv
        · have bad : ¬ (NG1 ps ∧ NG2 ch ps c) := by
            rintro ⟨z, _⟩
            have := z i (by omega)
            rw [hgd, f1] at this
            have := Option.some.inj this
            omega
          refine pw_ck (fun _ => pw_let ?_)
          refine pw_ite (fun c19 => ?_) (fun c19 => ?_)
          · refine pw_let (ih (i + 1) a1 a2 _ stepv (by omega) (Or.inr ⟨?_, bad⟩))
            rcases inv with ⟨i1, i2, _⟩ | inv
            · omega
            · exact inv.1
          · exact pw_ck (fun _ => pw_let (pw_let (ih (i + 1) _ _ _ stepv (by omega) (Or.inr ⟨by omega, bad⟩))))
  have h1 : (X.1 0 1).toInt = (n : Int) := hR.1.2.1
  unfold f_knows
  refine pw_let (pw_eq (fun x2 e2 => ?_))
  exact loop BIG 0 x2 0 0 (by decide) (by omega) (Or.inl ⟨by decide, by rw [e2, ti_add (by rw [h1, k1]; omega) (by rw [h1, k1]; omega), h1, k1], fun k hk => by omega⟩)
end RKNOWS3
