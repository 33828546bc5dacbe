/-! the reference's fits() -/
section XFIT
variable {X Y Z : St} {k k1 : Nat} {d d1 x y : List Int}
theorem sot_le (d : List Int) : 0 ≤ sot d ∧ sot d ≤ 4 := by
  unfold sot
  split
  · decide
  · split
    · decide
    · split
      · decide
      · split
        · decide
        · split <;> decide
theorem tkn_3 (h : sot d = 3) : tkn d = 0 := by
  unfold sot at h
  unfold tkn
  split at h
  · rfl
  · split at h
    · exact absurd h (by decide)
    · split at h
      · exact absurd h (by decide)
      · split at h
        · exact absurd h (by decide)
        · split at h
          · show (_ - 5 : Int).toNat = 0
            omega
          · exact absurd h (by decide)
theorem FT.cp : FT x y ↔ x = y ∨ x = [3] ∨ y = [3] ∨ (sot x = sot y ∧ 3 ≤ sot x ∧ (cps x).length = (cps y).length ∧ ∀ (i : Nat) (u v : List Int), (cps x)[i]? = some u → (cps y)[i]? = some v → FT u v) := by
  rw [FT.iff]
  refine or_congr Iff.rfl (or_congr Iff.rfl (or_congr Iff.rfl ?_))
  constructor
  · rintro ⟨a, b, c, e, f⟩
    refine ⟨a, b, ?_, fun i u v hu hv => ?_⟩
    · have := sot_le x
      by_cases z : sot x = 3
      · rw [cps_3 z, cps_3 (a ▸ z)]; rfl
      · rw [cps_4 (by omega), cps_4 (by omega), List.length_append, List.length_append, List.length_map, List.length_map, List.length_range, List.length_range, c]
        rfl
    · have := sot_le x
      by_cases z : sot x = 3
      · rw [cps_3 z] at hu
        rw [cps_3 (a ▸ z)] at hv
        cases i with
        | zero =>
          have hu : gvs x = u := Option.some.inj hu
          have hv : gvs y = v := Option.some.inj hv
          rw [← hu, ← hv]; exact f
        | succ i => exact absurd hu.symm (Option.some_ne_none _)
      · rw [cps_4 (by omega)] at hu hv
        by_cases hi : i < tkn x
        · rw [List.getElem?_append_left (by rw [List.length_map, List.length_range]; exact hi), List.getElem?_map, List.getElem?_range hi] at hu
          rw [List.getElem?_append_left (by rw [List.length_map, List.length_range]; omega), List.getElem?_map, List.getElem?_range (by omega)] at hv
          have hu : prm x i = u := Option.some.inj hu
          have hv : prm y i = v := Option.some.inj hv
          rw [← hu, ← hv]; exact e i hi
        · have hi2 : i = tkn x := by
            have := (List.getElem?_eq_some_iff.mp hu).1
            rw [List.length_append, List.length_map, List.length_range, List.length_singleton] at this
            omega
          rw [List.getElem?_append_right (by rw [List.length_map, List.length_range]; omega), List.length_map, List.length_range, hi2, Nat.sub_self] at hu
          rw [List.getElem?_append_right (by rw [List.length_map, List.length_range]; omega), List.length_map, List.length_range, hi2, c, Nat.sub_self] at hv
          have hu : gvs x = u := Option.some.inj hu
          have hv : gvs y = v := Option.some.inj hv
          rw [← hu, ← hv]; exact f
  · rintro ⟨a, b, c, e⟩
    have := sot_le x
    by_cases z : sot x = 3
    · have z1 : sot y = 3 := a ▸ z
      rw [cps_3 z, cps_3 z1] at e
      have tx := tkn_3 z
      have ty := tkn_3 z1
      exact ⟨a, b, by omega, fun i hi => by omega, e 0 _ _ rfl rfl⟩
    · rw [cps_4 (by omega), cps_4 (by omega)] at c e
      rw [List.length_append, List.length_append, List.length_map, List.length_map, List.length_range, List.length_range, List.length_singleton, List.length_singleton] at c
      have ct : tkn x = tkn y := by omega
      refine ⟨a, b, ct, fun i hi => e i _ _ ?_ ?_, e (tkn x) _ _ ?_ ?_⟩
      · rw [List.getElem?_append_left (by rw [List.length_map, List.length_range]; exact hi), List.getElem?_map, List.getElem?_range hi]; rfl
      · rw [List.getElem?_append_left (by rw [List.length_map, List.length_range]; omega), List.getElem?_map, List.getElem?_range (by omega)]; rfl
      · rw [List.getElem?_append_right (by rw [List.length_map, List.length_range]; omega), List.length_map, List.length_range, Nat.sub_self]; rfl
      · rw [List.getElem?_append_right (by rw [List.length_map, List.length_range]; omega), List.length_map, List.length_range, ct, Nat.sub_self]; rfl
/-- pairs of kinds that wait, the last one first -/
def PRq (X Z : St) (L : List (List Int × List Int)) : Prop := ∀ i p, L[i]? = some p → ∃ k1 k2 : Nat, (Z.1 31 (L.length - 1 - i)).toInt = (k1 : Int) ∧ (Z.1 32 (L.length - 1 - i)).toInt = (k2 : Int) ∧ KD X k1 p.1 ∧ KD X k2 p.2
def FRfit (X Z : St) : Prop := (∀ e k, ¬ e = 31 → ¬ e = 32 → Z.1 e k = X.1 e k) ∧ Z.2 = X.2
theorem PRq.tl {p : List Int × List Int} {L : List (List Int × List Int)} (h : PRq X Z (p :: L)) : PRq X Z L := fun i q hq => by
  have := h (i + 1) q hq
  rw [List.length_cons, show L.length + 1 - 1 - (i + 1) = L.length - 1 - i by omega] at this
  exact this
theorem x_fits16 (hJ : KJq X) (hU : KU X) : ∀ (N : Nat) (L : List (List Int × List Int)) (a3 : Int32) (Z : St), a3.toInt = (L.length : Int) → PRq X Z L → FRfit X Z → pw (f_fits_16 N a3 Z) (fun r Y => (r.toInt = 0 ↔ ¬ ∀ p ∈ L, FT p.1 p.2) ∧ FRfit X Y) := by
  have l2 : (2 : Int32).toInt = 2 := by decide
  have l1 : (Int32.ofInt 1).toInt = 1 := by decide
  have m1 : (Int32.ofInt (-1)).toInt = -1 := by decide
  intro N
  induction N with
  | zero => exact fun _ _ _ _ _ _ => pw_none
  | succ N ih =>
    intro L a3 Z h3 hP hF
    have e : f_fits_16 (N + 1) = f_fits_16_s (f_fits_16 N) := by
      unfold f_fits_16
      exact lp_succ _ _ _
    rw [e]
    unfold f_fits_16_s
    cases L with
    | nil =>
      have h3 : a3.toInt = 0 := h3
      exact pw_pos (by omega) (pw_ret ⟨⟨fun z => absurd z (by decide), fun z => absurd (fun p hp => absurd hp (List.not_mem_nil)) z⟩, hF⟩)
    | cons p L =>
      rw [List.length_cons] at h3
      refine pw_neg (by omega) (pw_eq (fun x3 e3 => ?_))
      have b3' := a3.toInt_lt
      have v3 : x3.toInt = (L.length : Int) := by rw [e3, ti_add (by rw [m1]; omega) (by rw [m1]; omega), m1]; omega
      have i3 : ix x3 = L.length := ixn v3
      obtain ⟨k1, k2, p1, p2, d1, d2⟩ := hP 0 p rfl
      rw [List.length_cons, show L.length + 1 - 1 - 0 = L.length by omega] at p1 p2
      refine pw_ck (fun _ => pw_eq (fun x4 e4 => pw_ck (fun _ => pw_eq (fun x5 e5 => ?_))))
      rw [i3] at e4 e5
      have v4 : x4.toInt = (k1 : Int) := by rw [e4]; exact p1
      have v5 : x5.toInt = (k2 : Int) := by rw [e5]; exact p2
      have i4 : ix x4 = k1 := ixn v4
      have i5 : ix x5 = k2 := ixn v5
      have nxt : FT p.1 p.2 → pw (f_fits_16 N x3 Z) (fun r Y => (r.toInt = 0 ↔ ¬ ∀ q ∈ p :: L, FT q.1 q.2) ∧ FRfit X Y) := fun hf => by
        refine pw_mono (ih L x3 Z v3 hP.tl hF) (fun r Y g => ⟨g.1.trans (not_congr ⟨fun h q hq => ?_, fun h q hq => h q (List.mem_cons_of_mem _ hq)⟩), g.2⟩)
        rcases List.mem_cons.mp hq with z | z
        · rw [z]; exact hf
        · exact h q z
      have no : ¬ FT p.1 p.2 → pw (some ((0 : Int32), Z)) (fun r Y => (r.toInt = 0 ↔ ¬ ∀ q ∈ p :: L, FT q.1 q.2) ∧ FRfit X Y) := fun hf => pw_ret ⟨⟨fun _ h => hf (h p (List.mem_cons_self ..)), fun _ => by decide⟩, hF⟩
      have any : ∀ {k : Nat} {w : List Int}, KD X k w → (k = 2 ↔ w = [3]) := fun {k w} hk => by
        have := KD.iff hU hk (hJ.pl (i := 2) (by decide))
        exact this
      refine pw_ite (fun c => ?_) (fun c => ?_)
      · refine nxt (FT.cp.mpr (Or.inl ((KD.iff hU d1 d2).mp (by omega))))
      · have ne : ¬ p.1 = p.2 := fun z => c (by have := (KD.iff hU d1 d2).mpr z; omega)
        refine pw_ite (fun c4 => ?_) (fun c4 => ?_)
        · exact nxt (FT.cp.mpr (Or.inr (Or.inl ((any d1).mp (by omega)))))
        · have n1 : ¬ p.1 = [3] := fun z => c4 (by have := (any d1).mpr z; omega)
          refine pw_ite (fun c5 => ?_) (fun c5 => ?_)
          · exact nxt (FT.cp.mpr (Or.inr (Or.inr (Or.inl ((any d2).mp (by omega))))))
          · have n2 : ¬ p.2 = [3] := fun z => c5 (by have := (any d2).mpr z; omega)
            have s1 := d1.srt
            have s2 := d2.srt
            have c1 := d1.cps
            have c2 := d2.cps
            refine pw_ck (fun _ => pw_eq (fun x6 e6 => pw_ck (fun _ => pw_eq (fun x7 e7 => ?_))))
            rw [i4, hF.1 4 _ (by decide) (by decide)] at e6
            rw [i5, hF.1 4 _ (by decide) (by decide)] at e7
            refine pw_ite (fun c6 => ?_) (fun c6 => ?_)
            · rw [e6, e7] at c6
              refine pw_ck (fun _ => pw_eq (fun x8 e8 => ?_))
              rw [i4, hF.1 4 _ (by decide) (by decide)] at e8
              refine pw_ite (fun c8 => ?_) (fun c8 => ?_)
              · rw [e8] at c8
                refine no (fun z => ?_)
                rcases FT.cp.mp z with z | z | z | ⟨_, z, _⟩
                · exact ne z
                · exact n1 z
                · exact n2 z
                · omega
              · rw [e8] at c8
                refine pw_ck (fun _ => pw_eq (fun x9 e9 => pw_ck (fun _ => pw_eq (fun x10 e10 => ?_))))
                rw [i4, hF.1 5 _ (by decide) (by decide)] at e9
                rw [i5, hF.1 5 _ (by decide) (by decide)] at e10
                refine pw_ite (fun c9 => ?_) (fun c9 => ?_)
                · rw [e9, e10] at c9
                  have hl : (cps p.1).length = (cps p.2).length := by omega
                  have hz : ((cps p.1).zip (cps p.2)).length = (cps p.1).length := by rw [List.length_zip]; omega
                  have loop : ∀ (M i : Nat) (b3 b6 : Int32) (W : St), b6.toInt = (i : Int) → b3.toInt = (L.length : Int) + i → i ≤ (cps p.1).length → PRq X W ((((cps p.1).zip (cps p.2)).take i).reverse ++ L) → FRfit X W → pw (f_fits_111 (f_fits_16 N) M b3 x4 x5 b6 W) (fun r Y => (r.toInt = 0 ↔ ¬ ∀ q ∈ p :: L, FT q.1 q.2) ∧ FRfit X Y) := by
                    intro M
                    induction M with
                    | zero => exact fun _ _ _ _ _ _ _ _ _ => pw_none
                    | succ M ih2 =>
                      intro i b3 b6 W h6 hb hi hPW hFW
                      have e : f_fits_111 (f_fits_16 N) (M + 1) = f_fits_111_s (f_fits_16 N) (f_fits_111 (f_fits_16 N) M) := by
                        unfold f_fits_111
                        exact lp_succ _ _ _
                      rw [e]
                      unfold f_fits_111_s
                      refine pw_ck (fun _ => pw_eq (fun x11 e11 => ?_))
                      rw [i4, hFW.1 5 _ (by decide) (by decide)] at e11
                      have ll : ((((cps p.1).zip (cps p.2)).take i).reverse ++ L).length = L.length + i := by
                        rw [List.length_append, List.length_reverse, List.length_take, hz]
                        omega
                      refine pw_ite (fun c11 => ?_) (fun c11 => ?_)
                      · rw [e11] at c11
                        have ei : i = (cps p.1).length := by omega
                        refine pw_mono (ih _ b3 W (by rw [ll]; omega) hPW hFW) (fun r Y g => ⟨g.1.trans (not_congr ?_), g.2⟩)
                        rw [List.take_of_length_le (by rw [hz]; omega)]
                        constructor
                        · intro h q hq
                          rcases List.mem_cons.mp hq with z | z
                          · rw [z]
                            refine FT.cp.mpr (Or.inr (Or.inr (Or.inr ⟨by omega, by omega, hl, fun i u v hu hv => ?_⟩)))
                            refine h (u, v) (List.mem_append_left _ (List.mem_reverse.mpr (List.mem_of_getElem? (i := i) ?_)))
                            rw [List.getElem?_zip_eq_some]
                            exact ⟨hu, hv⟩
                          · exact h q (List.mem_append_right _ z)
                        · intro h q hq
                          rcases List.mem_append.mp hq with z | z
                          · obtain ⟨i, hi⟩ := List.getElem?_of_mem (List.mem_reverse.mp z)
                            rw [List.getElem?_zip_eq_some] at hi
                            rcases FT.cp.mp (h p (List.mem_cons_self ..)) with y | y | y | ⟨_, _, _, y⟩
                            · exact absurd y ne
                            · exact absurd y n1
                            · exact absurd y n2
                            · exact y i _ _ hi.1 hi.2
                          · exact h q (List.mem_cons_of_mem _ z)
                      · rw [e11] at c11
                        have hlt : i < (cps p.1).length := by omega
                        obtain ⟨u, hu⟩ : ∃ u, (cps p.1)[i]? = some u := ⟨_, List.getElem?_eq_getElem hlt⟩
                        obtain ⟨v, hv⟩ : ∃ v, (cps p.2)[i]? = some v := ⟨_, List.getElem?_eq_getElem (by omega)⟩
                        obtain ⟨ku, u1, u2⟩ := c1.2 i u hu
                        obtain ⟨kv, w1, w2⟩ := c2.2 i v hv
                        have hlow1 := (hJ.1.2 k1 s1.2)
                        have hlow2 := (hJ.1.2 k2 s2.2)
                        have hk20 := hJ.1.1.2.2
                        refine pw_ck (fun _ => pw_let (pw_eq (fun x13 e13 => pw_ck (fun _ => pw_let (pw_ck (fun _ => pw_eq (fun X15 e15 => ?_)))))))
                        refine pw_ck (fun _ => pw_let (pw_eq (fun x17 e17 => pw_ck (fun _ => pw_let (pw_ck (fun _ => pw_eq (fun X19 e19 => ?_)))))))
                        rw [i4, hFW.1 6 _ (by decide) (by decide)] at e13
                        have f15 : ∀ e k, ¬ e = 31 → X15.1 e k = W.1 e k := fun e k q => by rw [e15, wI_ne _ _ _ _ _ _ (by omega)]
                        rw [i5, f15 6 _ (by decide), hFW.1 6 _ (by decide) (by decide)] at e17
                        have x6a := ixc hlow1.1
                        have x6b := ixc hlow2.1
                        have i13 : ix x13 = ix (X.1 6 k1) + i := by
                          refine ixn ?_
                          rw [e13, ti_add (by rw [h6]; omega) (by rw [h6]; omega), h6]
                          omega
                        have i17 : ix x17 = ix (X.1 6 k2) + i := by
                          refine ixn ?_
                          rw [e17, ti_add (by rw [h6]; omega) (by rw [h6]; omega), h6]
                          omega
                        have ib : ix b3 = L.length + i := ixn (by omega)
                        rw [i13, ib, hFW.1 9 _ (by decide) (by decide)] at e15
                        rw [i17, ib, f15 9 _ (by decide), hFW.1 9 _ (by decide) (by decide)] at e19
                        have big : (L.length : Int) + i ≤ 2147483646 := by
                          have := (b3).toInt_le
                          have := (b3).toInt_lt
                          omega
                        refine pw_let (pw_let (ih2 (i + 1) _ _ X19 (by rw [ti_add (by rw [h6, l1]; omega) (by rw [h6, l1]; omega), h6, l1]; omega) (by rw [ti_add (by rw [hb, l1]; omega) (by rw [hb, l1]; omega), hb, l1]; omega) (by omega) ?_ ⟨fun e k q1 q2 => by rw [e19, wI_ne _ _ _ _ _ _ (by omega), e15, wI_ne _ _ _ _ _ _ (by omega)]; exact hFW.1 e k q1 q2, by rw [e19, e15]; exact hFW.2⟩))
                        have tk : (((cps p.1).zip (cps p.2)).take (i + 1)).reverse ++ L = (u, v) :: ((((cps p.1).zip (cps p.2)).take i).reverse ++ L) := by
                          rw [List.take_add_one, show ((cps p.1).zip (cps p.2))[i]? = some (u, v) from by rw [List.getElem?_zip_eq_some]; exact ⟨hu, hv⟩, List.reverse_append]
                          rfl
                        rw [tk]
                        intro j q hq
                        rw [List.length_cons, ll]
                        cases j with
                        | zero =>
                          have hq : (u, v) = q := Option.some.inj hq
                          rw [← hq, show L.length + i + 1 - 1 - 0 = L.length + i by omega]
                          refine ⟨ku, kv, ?_, ?_, u2, w2⟩
                          · rw [e19, wI_ne _ _ _ _ _ _ (by omega), e15, wI_at]; exact u1
                          · rw [e19, wI_at]; exact w1
                        | succ j =>
                          have := hPW j q hq
                          have hj := (List.getElem?_eq_some_iff.mp hq).1
                          rw [List.length_cons, ll] at hj
                          rw [ll] at this
                          rw [show L.length + i + 1 - 1 - (j + 1) = L.length + i - 1 - j by omega]
                          obtain ⟨q1, q2, g1, g2, g3⟩ := this
                          refine ⟨q1, q2, ?_, ?_, g3⟩
                          · rw [e19, wI_ne _ _ _ _ _ _ (by omega), e15, wI_ne _ _ _ _ _ _ (by omega)]; exact g1
                          · rw [e19, wI_ne _ _ _ _ _ _ (by omega), e15, wI_ne _ _ _ _ _ _ (by omega)]; exact g2
                  exact loop BIG 0 x3 0 Z (by decide) (by omega) (Nat.zero_le _) hP.tl hF
                · rw [e9, e10] at c9
                  refine no (fun z => ?_)
                  rcases FT.cp.mp z with z | z | z | ⟨_, _, z, _⟩
                  · exact ne z
                  · exact n1 z
                  · exact n2 z
                  · omega
            · rw [e6, e7] at c6
              refine no (fun z => ?_)
              rcases FT.cp.mp z with z | z | z | ⟨z, _⟩
              · exact ne z
              · exact n1 z
              · exact n2 z
              · omega
theorem x_fits {p1 p2 : Int32} (hJ : KJq X) (hU : KU X) (h1 : p1.toInt = (k : Int)) (h2 : p2.toInt = (k1 : Int)) (hx : KD X k x) (hy : KD X k1 y) : pw (f_fits p1 p2 X) (fun r Y => (r.toInt = 0 ↔ ¬ FT x y) ∧ FRfit X Y) := by
  unfold f_fits
  refine pw_ck (fun _ => pw_eq (fun X1 e1 => pw_ck (fun _ => pw_eq (fun X2 e2 => ?_))))
  have i0 : ix (0 : Int32) = 0 := ixn (by decide)
  rw [i0] at e1 e2
  refine pw_mono (x_fits16 hJ hU BIG [(x, y)] 1 X2 (show (1 : Int32).toInt = ((1 : Nat) : Int) from by decide) (fun i p hp => ?_) ⟨fun e k q1 q2 => by rw [e2, wI_ne _ _ _ _ _ _ (by omega), e1, wI_ne _ _ _ _ _ _ (by omega)], by rw [e2, e1]; rfl⟩) (fun r Y g => ⟨g.1.trans (not_congr ⟨fun h => h _ (List.mem_cons_self ..), fun h q hq => ?_⟩), g.2⟩)
  · cases i with
    | zero =>
      have hp : (x, y) = p := Option.some.inj hp
      rw [← hp]
      exact ⟨k, k1, by show (X2.1 31 0).toInt = _; rw [e2, wI_ne _ _ _ _ _ _ (by decide), e1, wI_at]; exact h1, by show (X2.1 32 0).toInt = _; rw [e2, wI_at]; exact h2, hx, hy⟩
    | succ i => exact absurd hp.symm (Option.some_ne_none _)
  · rw [List.mem_singleton.mp hq]
    exact h
end XFIT
