/-! the reference's judge: kinds of parts, rows, calls -/
/-- params, kinds and whether told, of all parts -/
def PJq (X : St) (ps : List Pt) (told : Nat → Bool) : Prop := ∀ (k : Nat) (p : Pt), ps[k]? = some p → (X.1 15 k).toInt = (p.2.2.2.1.length : Int) ∧ KPn X k p.2.2.2.1 ∧ KOw X k p.2.2.2.2.1 ∧ ((X.1 19 k).toInt = 0 ↔ ¬ told k = true)
section RJ3S
variable {X0 X Y Z : St} {g j k : Nat} {J : JS} {d d1 w : List Int} {G : JG} {ps : List Pt} {told : Nat → Bool} {p : Pt}
theorem PJq.jb (h : PJq X ps told) (hJ : KJq X) (b : RJB X Y) : PJq Y ps told := fun k p hk => by
  obtain ⟨a, c, e, f⟩ := h k p hk
  have r : ∀ e k, 11 ≤ e ∧ e ≤ 28 → Y.1 e k = X.1 e k := fun e k q => b.1 e k (by unfold kpJ; omega)
  exact ⟨by rw [r 15 k (by omega)]; exact a, c.st hJ b.2.2.2 (fun i _ => r 16 _ (by omega)), e.of hJ b.2.2.2 (r 17 _ (by omega)), by rw [r 19 k (by omega)]; exact f⟩
theorem pt_getD (h : ps[k]? = some p) : ps.getD k (0, 0, [], [], [], 0) = p := by rw [List.getD_eq_getElem?_getD, h]; rfl
theorem x_ownK {p1 : Int32} (hP : PJq X ps told) (hJ : KJq X) (h1 : p1.toInt = (k : Int)) (hk : ps[k]? = some p) : pw (f_ownKindOf p1 X) (fun r Y => Y = X ∧ KTo X r (oks ps told k)) := by
  have i1 : ix p1 = k := ixn h1
  obtain ⟨_, _, ⟨z, z1, z2⟩, ht⟩ := hP k p hk
  unfold f_ownKindOf oks askd
  rw [pt_getD hk]
  refine pw_ck (fun _ => pw_eq (fun x1 e1 => ?_))
  rw [i1] at e1
  refine pw_ite (fun c => ?_) (fun c => ?_)
  · rw [e1] at c
    rw [if_neg (ht.mp c)]
    exact pw_ret ⟨rfl, (KTo.pl hJ).2.2⟩
  · rw [e1] at c
    rw [if_pos (Classical.byContradiction (fun y => c (ht.mpr y)))]
    refine pw_ck (fun _ => pw_eq (fun x2 e2 => pw_ret ⟨rfl, z, ?_, z2⟩))
    rw [e2, i1]
    exact z1
theorem pks_at {i : Nat} (hk : ps[k]? = some p) (hi : i < p.2.2.2.1.length) : (pks ps told k)[i]? = some (askd told k (p.2.2.2.1.reverse.getD i ([], [])).2) := by
  unfold pks prs
  rw [pt_getD hk, List.getElem?_map, List.getElem?_map, List.getD_eq_getElem?_getD, List.getElem?_eq_getElem (by rw [List.length_reverse]; exact hi)]
  rfl
theorem pks_ln (hk : ps[k]? = some p) : (pks ps told k).length = p.2.2.2.1.length := by
  unfold pks prs
  rw [pt_getD hk, List.length_map, List.length_map, List.length_reverse]
theorem x_paramK {p1 p2 : Int32} {i : Nat} (hP : PJq X ps told) (hJ : KJq X) (h1 : p1.toInt = (k : Int)) (hk : ps[k]? = some p) (hk4 : k ≤ 41) (h2 : p2.toInt = (i : Int)) (hi : i < p.2.2.2.1.length) : pw (f_paramKindOf p1 p2 X) (fun r Y => Y = X ∧ ∃ e, (pks ps told k)[i]? = some e ∧ KTo X r e) := by
  have l4 : (4 : Int32).toInt = 4 := by decide
  have i1 : ix p1 = k := ixn h1
  obtain ⟨_, hpn, _, ht⟩ := hP k p hk
  obtain ⟨z, z1, z2⟩ := hpn.2 i hi
  have hl4 := hpn.1
  unfold f_paramKindOf
  rw [pks_at hk hi]
  unfold askd
  refine pw_ck (fun _ => pw_eq (fun x1 e1 => ?_))
  rw [i1] at e1
  refine pw_ite (fun c => ?_) (fun c => ?_)
  · rw [e1] at c
    rw [if_neg (ht.mp c)]
    exact pw_ret ⟨rfl, _, rfl, (KTo.pl hJ).2.2⟩
  · rw [e1] at c
    rw [if_pos (Classical.byContradiction (fun y => c (ht.mpr y)))]
    refine pw_eq (fun x2 e2 => pw_eq (fun x3 e3 => pw_ck (fun _ => pw_eq (fun x4 e4 => pw_ret ⟨rfl, _, rfl, z, ?_, z2⟩))))
    have v2 : x2.toInt = 4 * (k : Int) := by rw [e2, ti_mul (by rw [l4, h1]; omega) (by rw [l4, h1]; omega), l4, h1]
    have i3 : ix x3 = 4 * k + i := by
      refine ixn ?_
      rw [e3, ti_add (by rw [v2, h2]; omega) (by rw [v2, h2]; omega), v2, h2]
      omega
    rw [e4, i3]
    exact z1
theorem x_funOf {p1 : Int32} (hP : PJq X ps told) (hJ : KJq X) (hU : KU X) (h1 : p1.toInt = (k : Int)) (hk : ps[k]? = some p) (hk4 : k ≤ 41) : pw (f_functionOf p1 X) (fun r Y => RKy X Y ∧ KTo Y r (fks ps told k)) := by
  have l1 : (1 : Int32).toInt = 1 := by decide
  have lo1 : (Int32.ofInt 1).toInt = 1 := by decide
  have l30 : (3000 : Int32).toInt = 3000 := by decide
  have i1 : ix p1 = k := ixn h1
  have hl4 := (hP k p hk).2.1.1
  have ln := pks_ln (told := told) hk
  have loop : ∀ (M i : Nat) (a2 : Int32) (Z : St), a2.toInt = (i : Int) → i ≤ p.2.2.2.1.length → RKy X Z → (∀ q e, q < i → (pks ps told k)[q]? = some e → KTo Z (Z.1 10 (3000 + q)) e) → pw (f_functionOf_2 M p1 a2 Z) (fun r Y => RKy X Y ∧ KTo Y r (fks ps told k)) := by
    intro M
    induction M with
    | zero => exact fun _ _ _ _ _ _ _ => pw_none
    | succ M ih =>
      intro i a2 Z h2 hi hZ h10
      have e : f_functionOf_2 (M + 1) = f_functionOf_2_s (f_functionOf_2 M) := by
        unfold f_functionOf_2
        exact lp_succ _ _ _
      rw [e]
      unfold f_functionOf_2_s
      have hJZ := hZ.1.2.1
      have hUZ := hZ.1.2.2.1
      have hPZ := hP.jb hJ hZ.1
      have h15 := (hPZ k p hk).1
      refine pw_ck (fun _ => pw_eq (fun x1 e1 => ?_))
      rw [i1] at e1
      refine pw_ite (fun c => ?_) (fun c => ?_)
      · rw [e1, h15, h2] at c
        have ei : i = p.2.2.2.1.length := by omega
        refine pw_ck (fun _ => pw_eq (fun x2 e2 => pw_eq (fun x3 e3 => pw_bd (x_ownK hPZ hJZ h1 hk) ?_)))
        rintro x4 X5 ⟨rfl, k4⟩
        rw [i1] at e2
        have i3 : ix x3 = 3000 + p.2.2.2.1.length := by
          refine ixn ?_
          rw [e3, e2, ti_add (by rw [h15, l30]; omega) (by rw [h15, l30]; omega), h15, l30]
          omega
        refine pw_ck (fun _ => pw_eq (fun X6 e6 => pw_ck (fun _ => pw_eq (fun x7 e7 => pw_eq (fun x8 e8 => ?_)))))
        rw [i3] at e6
        have k6 : RKy X5 X6 := by rw [e6]; exact RKy.w10 hJZ hUZ
        have v8 : x8.toInt = ((pks ps told k).length : Int) + 1 := by
          have c7 : x7 = X5.1 15 k := by rw [e7, i1, e6, wI_ne _ _ _ _ _ _ (by omega)]
          rw [e8, c7, ti_add (by rw [h15, l1]; omega) (by rw [h15, l1]; omega), h15, l1, ln]
        refine pw_bd (x_fun (ds := pks ps told k) (d1 := oks ps told k) k6.1.2.1 k6.1.2.2.1 v8 (by omega) (fun q e he => ?_) ?_) ?_
        · have hq := (List.getElem?_eq_some_iff.mp he).1
          have := k6.kt hJZ (h10 q e (by omega) he)
          rw [e6, wI_ne _ _ _ _ _ _ (by omega), ← e6]
          exact this
        · rw [ln]
          have := k6.kt hJZ k4
          rw [e6, wI_at, ← e6]
          exact this
        · rintro x9 X10 ⟨k9, t9⟩
          exact pw_ret ⟨(hZ.tr k6).tr k9, t9⟩
      · rw [e1, h15, h2] at c
        refine pw_eq (fun x11 e11 => pw_bd (x_paramK hPZ hJZ h1 hk hk4 h2 (by omega)) ?_)
        rintro x12 X13 ⟨rfl, e12, p12, k12⟩
        refine pw_ck (fun _ => pw_eq (fun X14 e14 => pw_let (ih (i + 1) _ X14 ?_ (by omega) ?_ (fun q e hq he => ?_))))
        · rw [ti_add (by rw [h2, lo1]; omega) (by rw [h2, lo1]; omega), h2, lo1]; omega
        · rw [e14]; exact hZ.tr (RKy.w10 hJZ hUZ)
        · have k14 : RKy X13 X14 := by rw [e14]; exact RKy.w10 hJZ hUZ
          have i11 : ix x11 = 3000 + i := by
            refine ixn ?_
            rw [e11, ti_add (by rw [h2, l30]; omega) (by rw [h2, l30]; omega), h2, l30]
            omega
          rw [i11] at e14
          by_cases z : q = i
          · rw [z] at he ⊢
            rw [p12] at he
            rw [← Option.some.inj he]
            have := k14.kt hJZ k12
            rw [e14, wI_at, ← e14]
            exact this
          · have := k14.kt hJZ (h10 q e (by omega) he)
            rw [e14, wI_ne _ _ _ _ _ _ (by omega), ← e14]
            exact this
  unfold f_functionOf
  exact loop BIG 0 0 X (by decide) (Nat.zero_le _) (RKy.rf hJ hU) (fun q e hq _ => absurd hq (Nat.not_lt_zero _))
end RJ3S
