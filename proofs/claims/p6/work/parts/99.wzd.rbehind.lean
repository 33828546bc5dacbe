/-! the reference reads what stands behind an operand: calls, places, stores -/
section RBEHIND
variable {ch : Tx} {n q : Nat} {X Y Z X0 : St} {o : Int} {sc : List Nm} {j N s N0 : Nat} {Q : Int32 → St → Prop} {c c1 : List Ins}
/-- behind an operand's part: how many calls and places in a row -/
def SFq (ch : Tx) (n : Nat) (X Y : St) (q : Nat) (o : Int) (sc : List Nm) (j N N1 t d : Nat) (c : List Ins) : Prop := XS ch n Y q o sc (j + 1) N1 ∧ (Y.1 0 23).toInt = 2 ∧ NMr ch Y N1 c ∧ KP X Y (j + 1) N sc.length ∧ (Y.1 0 24).toInt = (t : Int) ∧ (N ≤ t ∧ t < N1) ∧ ¬ (Y.1 20 t).toInt = 14 ∧ (((Y.1 20 t).toInt = 10 ∨ (Y.1 20 t).toInt = 11) ∧ (Y.1 39 t).toInt = (d : Int) ∧ 1 ≤ d ∨ ¬ (Y.1 20 t).toInt = 10 ∧ ¬ (Y.1 20 t).toInt = 11 ∧ d = 0)
/-- the node of a call or a place, up to where its bracket opens -/
theorem b_suff {t d N1 : Nat} (h : SFq ch n X Y q o sc j N N1 t d c) (ho : 0 ≤ o ∧ o ≤ 40) (hd : d ≤ 40) (hty : ty ch q = 40 ∨ ty ch q = 91) {a2 : Int32} (ha2 : (a2.toInt = 0 ↔ d = 0)) {a1 : Int32} (h1 : ix a1 = t) (dead : (d = 40 ∨ ¬ o < 40) → DQ Q) (live : ∀ (b0 r : Int32) (Z : St), (b0.toInt = if ty ch q = 40 then 11 else 10) → d < 40 → o < 40 → XS ch n Z (nx ch q) (o + 1) sc (j + 1) (N1 + 1) → NMr ch Z (N1 + 1) c → KP X Z (j + 1) N sc.length → r.toInt = (N1 : Int) → Z.1 20 N1 = b0 → (Z.1 39 N1).toInt = (d : Int) + 1 → (Z.1 27 N1).toInt = 0 → pw (if (if ty ch q = 40 then (1 : Int32) else 0).toInt = 0 then f_behind_201 r (if ty ch q = 40 then (1 : Int32) else 0) Z else bnd (f_isSign (41 : Int32) Z) fun x18 X19 => if x18.toInt = 0 then f_behind_201 r (if ty ch q = 40 then (1 : Int32) else 0) X19 else bnd (f_closes (41 : Int32) X19) fun _ X20 => bnd (f_done r X20) fun _ X21 => some ((0 : Int32), X21)) (fun _ Z => pr Z Q)) : pw (f_behind_51 a1 a2 Y) (fun _ Z => pr Z Q) := by
  obtain ⟨gY, mY, nY, kY, hY, ht, k14, kd⟩ := h
  have l1 : (1 : Int32).toInt = 1 := by decide
  have l40 : (40 : Int64).toInt = 40 := by decide
  have L : (lg_cmp (Y.2.1 0 47) 40).toInt = 0 ↔ ty ch q = 40 := by
    rw [cmp0, ← Int64.toInt_inj, l40]
    obtain ⟨_, _, tk⟩ := gY.tk
    omega
  have main : ∀ b0 : Int32, (b0.toInt = if ty ch q = 40 then 11 else 10) → pw (f_behind_70 a1 a2 b0 Y) (fun _ Z => pr Z Q) := by
    intro b0 hb
    have hb3 : ¬ b0.toInt = 3 := by
      rw [hb]
      split <;> decide
    have hv : (if ty ch q = 40 then (40 : Int32) else 91).toInt = ty ch q := by
      rcases hty with e | e <;> rw [e] <;> decide
    unfold f_behind_70
    refine pw_ck (fun _ => pw_let ?_)
    refine pw_bd (x_make gY b0 _) ?_
    rintro x8 X9 ⟨⟨hr, hi⟩, g9, m9⟩
    refine pw_let ?_
    rw [hi]
    refine pw_ck (fun _ => ?_)
    refine pw_eq (fun X11 e11 => ?_)
    refine pw_ck (fun _ => ?_)
    refine pw_eq (fun X12 e12 => ?_)
    have g12 : XS ch n X12 q o sc (j + 1) (N1 + 1) := by rw [e12, e11]; exact (g9.wI (by omega)).wI (by omega)
    have n12 : NMr ch X12 (N1 + 1) c := by rw [e12, e11]; exact ((nY.mk m9 hb3).wI (by omega)).wI (by omega)
    have k12 : KP X X12 (j + 1) N sc.length := by rw [e12, e11]; exact ((kY.mk m9 (by omega)).wI (by unfold KPs; omega)).wI (by unfold KPs; omega)
    have h20 : X12.1 20 N1 = b0 := by rw [e12, wI_ne _ _ _ _ _ _ (by omega), e11, wI_ne _ _ _ _ _ _ (by omega)]; exact m9.2.2.1
    have h27 : (X12.1 27 N1).toInt = 0 := by rw [e12, wI_ne _ _ _ _ _ _ (by omega), e11, wI_ne _ _ _ _ _ _ (by omega)]; exact m9.2.2.2.1
    have h39t : X12.1 39 t = Y.1 39 t := by rw [e12, wI_ne _ _ _ _ _ _ (by omega), e11, wI_ne _ _ _ _ _ _ (by omega)]; exact m9.1 39 t (by omega) (by omega)
    have c118 : ∀ v : Int32, v.toInt = (d : Int) + 1 → pw (f_behind_118 x8 v x8 X12) (fun _ Z => pr Z Q) := by
      intro v hv2
      unfold f_behind_118
      rw [hi]
      refine pw_ck (fun _ => ?_)
      refine pw_eq (fun X13 e13 => ?_)
      have g13 : XS ch n X13 q o sc (j + 1) (N1 + 1) := by rw [e13]; exact g12.wI (by omega)
      have n13 : NMr ch X13 (N1 + 1) c := by rw [e13]; exact n12.wI (by omega)
      have k13 : KP X X13 (j + 1) N sc.length := by rw [e13]; exact k12.wI (by unfold KPs; omega)
      have z20 : X13.1 20 N1 = b0 := by rw [e13, wI_ne _ _ _ _ _ _ (by omega)]; exact h20
      have z27 : (X13.1 27 N1).toInt = 0 := by rw [e13, wI_ne _ _ _ _ _ _ (by omega)]; exact h27
      have z39 : X13.1 39 N1 = v := by rw [e13, wI_at]
      refine pw_ck (fun _ => pw_let ?_)
      rw [z39]
      refine pw_ite (fun c1 => ?_) (fun c1 => ?_)
      · unfold f_behind_139
        rw [hi, z20]
        refine pw_ck (fun _ => pw_let ?_)
        have c170 : ∀ (v4 vs : Int32), v4 = (if ty ch q = 40 then (1 : Int32) else 0) → vs.toInt = ty ch q → pw (f_behind_170 x8 v4 vs X13) (fun _ Z => pr Z Q) := by
          intro v4 vs h4 hs
          unfold f_behind_170
          refine pw_bd (x_opens g13 ho (by omega)) ?_
          rintro _ X16 (⟨hop, g16, t16⟩ | ⟨hop, hdd⟩)
          · rw [h4]
            exact live b0 x8 X16 hb (by omega) hop.2 g16 (n13.tn t16) (k13.tn t16) hr (by rw [t16.r 20 N1 (by decide)]; exact z20) (by rw [t16.r 39 N1 (by decide), z39]; exact hv2) (by rw [t16.r 27 N1 (by decide)]; exact z27)
          · have hQ := dead (Or.inr (fun z => hop ⟨hs.symm, z⟩))
            have d201 : ∀ W, wrX W → pw (f_behind_201 x8 v4 W) (fun _ Z => pr Z Q) := fun W hW => pw_mono (uw_behind_201 hW) (fun _ _ d => pr_dd d hQ)
            refine pw_ite (fun _ => d201 _ hdd) (fun _ => ?_)
            refine pw_bd (uw_isSign hdd) (fun x18 X19 d19 => ?_)
            refine pw_ite (fun _ => d201 _ d19) (fun _ => ?_)
            exact pw_bd (uw_closes d19) (fun _ X20 d20 => pw_bd (uw_done d20) (fun _ X21 d21 => pw_ret (pr_dd d21 hQ)))
        by_cases e40 : ty ch q = 40
        · rw [if_pos e40] at hb
          refine pw_pos hb ?_
          unfold f_behind_155
          exact pw_neg (by decide) (c170 1 40 (by rw [if_pos e40]) (by rw [e40]; decide))
        · rw [if_neg e40] at hb
          refine pw_neg (by omega) ?_
          unfold f_behind_155
          exact pw_pos rfl (c170 0 91 (by rw [if_neg e40]) (by rw [hty.resolve_left e40]; decide))
      · have hQ := dead (Or.inl (by
          have l40i : (40 : Int32).toInt = 40 := by decide
          omega))
        refine pw_let ?_
        refine pw_bd (q_fails _ (by decide)) (fun _ X23 d23 => ?_)
        exact pw_mono (uw_behind_139 d23) (fun _ _ d => pr_dd d hQ)
    refine pw_ite (fun c1 => ?_) (fun c1 => ?_)
    · have e0 := ha2.mp c1
      exact c118 1 (by rw [e0, l1]; rfl)
    · rw [h1, h39t]
      refine pw_ck (fun _ => pw_let ?_)
      refine pw_eq (fun x25 e25 => ?_)
      have hd0 : ¬ d = 0 := fun z => c1 (ha2.mpr z)
      have h39 : (Y.1 39 t).toInt = (d : Int) := by
        rcases kd with g | g
        · exact g.2.1
        · exact absurd g.2.2 hd0
      refine c118 x25 ?_
      rw [e25, ti_add (by rw [h39, l1]; omega) (by rw [h39, l1]; omega), h39, l1]
  unfold f_behind_51
  refine pw_let (pw_let ?_)
  refine pw_ite (fun c1 => main 11 ?_) (fun c1 => main 10 ?_)
  · rw [if_pos (L.mp c1)]; decide
  · rw [if_neg (fun z => c1 (L.mpr z))]; decide
end RBEHIND
