/-! kinds of the reference's table and what they are made of -/
section KDU
variable {X Y : St} {k k1 : Nat} {d d1 : List Int}
theorem KD.inv (h : KD X k d) : (k : Int) < (X.1 0 13).toInt ∧ (((X.1 4 k).toInt = 1 ∧ (X.1 5 k).toInt = 0 ∧ d = [1]) ∨ ((X.1 4 k).toInt = 2 ∧ (X.1 5 k).toInt = 0 ∧ d = [2]) ∨ ((X.1 4 k).toInt = 3 ∧ (X.1 5 k).toInt = 0 ∧ d = [3]) ∨
    ((X.1 4 k).toInt = 4 ∧ (X.1 5 k).toInt = 1 ∧ ∃ (k1 : Nat) (d1 : List Int), (X.1 9 (ix (X.1 6 k))).toInt = (k1 : Int) ∧ KD X k1 d1 ∧ d = 4 :: d1) ∨
    ((X.1 4 k).toInt = 5 ∧ ∃ ds : List (List Int), (X.1 5 k).toInt = (ds.length : Int) + 1 ∧ (∀ i e, ds[i]? = some e → ∃ k1 : Nat, (X.1 9 (ix (X.1 6 k) + i)).toInt = (k1 : Int) ∧ KD X k1 e) ∧ ∃ (k1 : Nat) (d1 : List Int), (X.1 9 (ix (X.1 6 k) + ds.length)).toInt = (k1 : Int) ∧ KD X k1 d1 ∧ d = (5 + (ds.length : Int)) :: (ds.flatten ++ d1))) := by
  obtain ⟨m, h⟩ := h
  cases m with
  | zero => exact h.elim
  | succ m =>
    rw [KDf] at h
    refine ⟨h.1, ?_⟩
    rcases h.2 with h | h | h | ⟨a, b, k1, d1, c, e, f⟩ | ⟨a, ds, b, c, k1, d1, e, f, g⟩
    · exact Or.inl h
    · exact Or.inr (Or.inl h)
    · exact Or.inr (Or.inr (Or.inl h))
    · exact Or.inr (Or.inr (Or.inr (Or.inl ⟨a, b, k1, d1, c, ⟨m, e⟩, f⟩)))
    · exact Or.inr (Or.inr (Or.inr (Or.inr ⟨a, ds, b, fun i x hx => by
        obtain ⟨k2, c1, c2⟩ := c i x hx
        exact ⟨k2, c1, ⟨m, c2⟩⟩, k1, d1, e, ⟨m, f⟩, g⟩)))
theorem KDf.pz : ∀ (m k : Nat) (d : List Int), KDf X m k d → ∀ r, _root_.Jvm.Pilot.CBlameCourtLaw_law_r8381_f30dd1.pz (d ++ r) = d :: _root_.Jvm.Pilot.CBlameCourtLaw_law_r8381_f30dd1.pz r := by
  intro m
  induction m with
  | zero => exact fun _ _ h => h.elim
  | succ m ih =>
    intro k d h r
    rw [KDf] at h
    rcases h.2 with ⟨_, _, rfl⟩ | ⟨_, _, rfl⟩ | ⟨_, _, rfl⟩ | ⟨a, b, k1, d1, c, e, rfl⟩ | ⟨a, ds, b, c, k1, d1, e, f, rfl⟩
    · rfl
    · rfl
    · rfl
    · show _root_.Jvm.Pilot.CBlameCourtLaw_law_r8381_f30dd1.pz (4 :: (d1 ++ r)) = _
      rw [_root_.Jvm.Pilot.CBlameCourtLaw_law_r8381_f30dd1.pz, if_pos rfl, ih _ _ e]
    · show _root_.Jvm.Pilot.CBlameCourtLaw_law_r8381_f30dd1.pz ((5 + (ds.length : Int)) :: ((ds.flatten ++ d1) ++ r)) = _
      have hp : ∀ e ∈ ds, ∀ r, _root_.Jvm.Pilot.CBlameCourtLaw_law_r8381_f30dd1.pz (e ++ r) = e :: _root_.Jvm.Pilot.CBlameCourtLaw_law_r8381_f30dd1.pz r := fun x hx => by
        obtain ⟨i, hi⟩ := List.getElem?_of_mem hx
        obtain ⟨k2, _, c2⟩ := c i x hi
        exact ih _ _ c2
      rw [_root_.Jvm.Pilot.CBlameCourtLaw_law_r8381_f30dd1.pz, if_neg (by omega), if_pos (by omega), List.append_assoc, pz_fl hp, ih _ _ f, len5]
      have e1 : (ds ++ d1 :: _root_.Jvm.Pilot.CBlameCourtLaw_law_r8381_f30dd1.pz r).take (ds.length + 1) = ds ++ [d1] := by
        rw [show ds ++ d1 :: _root_.Jvm.Pilot.CBlameCourtLaw_law_r8381_f30dd1.pz r = (ds ++ [d1]) ++ _root_.Jvm.Pilot.CBlameCourtLaw_law_r8381_f30dd1.pz r by simp, List.take_append_of_le_length (by simp), List.take_of_length_le (by simp)]
      have e2 : (ds ++ d1 :: _root_.Jvm.Pilot.CBlameCourtLaw_law_r8381_f30dd1.pz r).drop (ds.length + 1) = _root_.Jvm.Pilot.CBlameCourtLaw_law_r8381_f30dd1.pz r := by
        rw [show ds ++ d1 :: _root_.Jvm.Pilot.CBlameCourtLaw_law_r8381_f30dd1.pz r = (ds ++ [d1]) ++ _root_.Jvm.Pilot.CBlameCourtLaw_law_r8381_f30dd1.pz r by simp, List.drop_append_of_le_length (by simp), List.drop_of_length_le (by simp)]
        rfl
      rw [e1, e2, List.flatten_append]
      simp
theorem KD.pz (h : KD X k d) : ∀ r, _root_.Jvm.Pilot.CBlameCourtLaw_law_r8381_f30dd1.pz (d ++ r) = d :: _root_.Jvm.Pilot.CBlameCourtLaw_law_r8381_f30dd1.pz r := by
  obtain ⟨m, h⟩ := h
  exact KDf.pz m k d h
theorem KD.pz1 (h : KD X k d) : _root_.Jvm.Pilot.CBlameCourtLaw_law_r8381_f30dd1.pz d = [d] := by
  have := h.pz []
  rw [List.append_nil] at this
  exact this
theorem KD.srt (h : KD X k d) : (X.1 4 k).toInt = sot d + 1 ∧ (k : Int) < (X.1 0 13).toInt := by
  obtain ⟨h0, h⟩ := h.inv
  refine ⟨?_, h0⟩
  rcases h with ⟨a, _, rfl⟩ | ⟨a, _, rfl⟩ | ⟨a, _, rfl⟩ | ⟨a, b, k1, d1, c, e, rfl⟩ | ⟨a, ds, b, c, k1, d1, e, f, rfl⟩
  · rw [a]; rfl
  · rw [a]; rfl
  · rw [a]; rfl
  · rw [a]; rfl
  · rw [a, sot_fn]; rfl
/-- what a kind is made of -/
def cps (d : List Int) : List (List Int) := if sot d = 3 then [gvs d] else if sot d = 4 then (List.range (tkn d)).map (prm d) ++ [gvs d] else []
theorem KD.cps (h : KD X k d) : (X.1 5 k).toInt = ((_root_.Jvm.Pilot.CBlameCourtLaw_law_r8381_f30dd1.cps d).length : Int) ∧ ∀ i e, (_root_.Jvm.Pilot.CBlameCourtLaw_law_r8381_f30dd1.cps d)[i]? = some e → ∃ k1 : Nat, (X.1 9 (ix (X.1 6 k) + i)).toInt = (k1 : Int) ∧ KD X k1 e := by
  obtain ⟨h0, h⟩ := h.inv
  unfold _root_.Jvm.Pilot.CBlameCourtLaw_law_r8381_f30dd1.cps
  rcases h with ⟨a, b, rfl⟩ | ⟨a, b, rfl⟩ | ⟨a, b, rfl⟩ | ⟨a, b, k1, d1, c, e, rfl⟩ | ⟨a, ds, b, c, k1, d1, e, f, rfl⟩
  · exact ⟨by rw [b]; rfl, fun i e he => absurd he (by simp [sot])⟩
  · exact ⟨by rw [b]; rfl, fun i e he => absurd he (by simp [sot])⟩
  · exact ⟨by rw [b]; rfl, fun i e he => absurd he (by simp [sot])⟩
  · have s3 : sot (4 :: d1) = 3 := rfl
    rw [if_pos s3]
    have g : gvs (4 :: d1) = d1 := by
      show (_root_.Jvm.Pilot.CBlameCourtLaw_law_r8381_f30dd1.pz d1).getD 0 [3] = d1
      rw [e.pz1]
      rfl
    refine ⟨by rw [b]; rfl, fun i x hx => ?_⟩
    cases i with
    | zero =>
      have hx : gvs (4 :: d1) = x := Option.some.inj hx
      rw [← hx, g, Nat.add_zero]
      exact ⟨k1, c, e⟩
    | succ i => exact absurd hx.symm (Option.some_ne_none _)
  · rw [sot_fn, if_neg (by decide), if_pos rfl, tkn_fn]
    have hp : ∀ e ∈ ds, ∀ r, _root_.Jvm.Pilot.CBlameCourtLaw_law_r8381_f30dd1.pz (e ++ r) = e :: _root_.Jvm.Pilot.CBlameCourtLaw_law_r8381_f30dd1.pz r := fun x hx => by
      obtain ⟨i, hi⟩ := List.getElem?_of_mem hx
      obtain ⟨k2, _, c2⟩ := c i x hi
      exact c2.pz
    have hz : _root_.Jvm.Pilot.CBlameCourtLaw_law_r8381_f30dd1.pz (ds.flatten ++ d1) = ds ++ [d1] := by rw [pz_fl hp, f.pz1]
    have g : gvs ((5 + (ds.length : Int)) :: (ds.flatten ++ d1)) = d1 := by
      unfold gvs
      rw [tkn_fn]
      show (_root_.Jvm.Pilot.CBlameCourtLaw_law_r8381_f30dd1.pz (ds.flatten ++ d1)).getD ds.length [3] = d1
      rw [hz, List.getD_eq_getElem?_getD, List.getElem?_concat_length]
      rfl
    refine ⟨by rw [b, List.length_append, List.length_map, List.length_range]; rfl, fun i x hx => ?_⟩
    by_cases hi : i < ds.length
    · rw [List.getElem?_append_left (by rw [List.length_map, List.length_range]; exact hi), List.getElem?_map, List.getElem?_range hi] at hx
      have hx : prm _ i = x := Option.some.inj hx
      have px : ds[i]? = some x := by
        rw [← hx]
        show _ = some ((_root_.Jvm.Pilot.CBlameCourtLaw_law_r8381_f30dd1.pz (ds.flatten ++ d1)).getD i [3])
        rw [hz, List.getD_eq_getElem?_getD, List.getElem?_append_left hi, List.getElem?_eq_getElem hi]
        rfl
      exact c i x px
    · have hi2 : i = ds.length := by
        have := (List.getElem?_eq_some_iff.mp hx).1
        rw [List.length_append, List.length_map, List.length_range, List.length_singleton] at this
        omega
      rw [List.getElem?_append_right (by rw [List.length_map, List.length_range]; omega), List.length_map, List.length_range, hi2, Nat.sub_self] at hx
      have hx : gvs _ = x := Option.some.inj hx
      rw [hi2, ← hx, g]
      exact ⟨k1, e, f⟩
theorem cps_3 (h : sot d = 3) : cps d = [gvs d] := by unfold cps; rw [if_pos h]
theorem cps_4 (h : sot d = 4) : cps d = (List.range (tkn d)).map (prm d) ++ [gvs d] := by unfold cps; rw [if_neg (by omega), if_pos h]
/-- kinds that are made alike are alike -/
theorem KD.ex {k k1 : Nat} {Z : St} (h : KD X k d) (h1 : KD Z k1 d1) (hs : sot d = sot d1) (hc : _root_.Jvm.Pilot.CBlameCourtLaw_law_r8381_f30dd1.cps d = _root_.Jvm.Pilot.CBlameCourtLaw_law_r8381_f30dd1.cps d1) : d = d1 := by
  obtain ⟨_, h⟩ := h.inv
  obtain ⟨_, h1⟩ := h1.inv
  have s3 : ∀ x : List Int, sot (4 :: x) = 3 := fun _ => rfl
  have gr : ∀ {W : St} {q : Nat} {x : List Int}, KD W q x → gvs (4 :: x) = x := by
    intro W q x e
    show (_root_.Jvm.Pilot.CBlameCourtLaw_law_r8381_f30dd1.pz x).getD 0 [3] = x
    rw [e.pz1]
    rfl
  have fn : ∀ {W : St} {ds : List (List Int)} {x : List Int} {f q : Nat}, (∀ i e, ds[i]? = some e → ∃ k1 : Nat, (W.1 9 (f + i)).toInt = (k1 : Int) ∧ KD W k1 e) → KD W q x → _root_.Jvm.Pilot.CBlameCourtLaw_law_r8381_f30dd1.cps ((5 + (ds.length : Int)) :: (ds.flatten ++ x)) = ds ++ [x] := by
    intro W ds x f q c e
    have hp : ∀ e ∈ ds, ∀ r, _root_.Jvm.Pilot.CBlameCourtLaw_law_r8381_f30dd1.pz (e ++ r) = e :: _root_.Jvm.Pilot.CBlameCourtLaw_law_r8381_f30dd1.pz r := fun y hy => by
      obtain ⟨i, hi⟩ := List.getElem?_of_mem hy
      obtain ⟨k2, _, c2⟩ := c i y hi
      exact c2.pz
    have hz : _root_.Jvm.Pilot.CBlameCourtLaw_law_r8381_f30dd1.pz (ds.flatten ++ x) = ds ++ [x] := by rw [pz_fl hp, e.pz1]
    rw [cps_4 (sot_fn _ _), tkn_fn]
    refine List.ext_getElem? (fun i => ?_)
    by_cases hi : i < ds.length
    · rw [List.getElem?_append_left (by rw [List.length_map, List.length_range]; exact hi), List.getElem?_map, List.getElem?_range hi, List.getElem?_append_left hi]
      show some ((_root_.Jvm.Pilot.CBlameCourtLaw_law_r8381_f30dd1.pz (ds.flatten ++ x)).getD i [3]) = _
      rw [hz, List.getD_eq_getElem?_getD, List.getElem?_append_left hi, List.getElem?_eq_getElem hi]
      rfl
    · rw [List.getElem?_append_right (by rw [List.length_map, List.length_range]; omega), List.getElem?_append_right (by omega), List.length_map, List.length_range]
      have g : gvs ((5 + (ds.length : Int)) :: (ds.flatten ++ x)) = x := by
        unfold gvs
        rw [tkn_fn]
        show (_root_.Jvm.Pilot.CBlameCourtLaw_law_r8381_f30dd1.pz (ds.flatten ++ x)).getD ds.length [3] = x
        rw [hz, List.getD_eq_getElem?_getD, List.getElem?_concat_length]
        rfl
      rw [g]
  rcases h with ⟨_, _, rfl⟩ | ⟨_, _, rfl⟩ | ⟨_, _, rfl⟩ | ⟨_, _, q, x, _, hx, rfl⟩ | ⟨_, ds, _, c, q, x, _, hx, rfl⟩
  · rcases h1 with ⟨_, _, rfl⟩ | ⟨_, _, rfl⟩ | ⟨_, _, rfl⟩ | ⟨_, _, q1, y, _, hy, rfl⟩ | ⟨_, es, _, c1, q1, y, _, hy, rfl⟩
    · rfl
    · exact absurd hs (by decide)
    · exact absurd hs (by decide)
    · rw [s3] at hs; exact absurd hs (by decide)
    · rw [sot_fn] at hs; exact absurd hs (by decide)
  · rcases h1 with ⟨_, _, rfl⟩ | ⟨_, _, rfl⟩ | ⟨_, _, rfl⟩ | ⟨_, _, q1, y, _, hy, rfl⟩ | ⟨_, es, _, c1, q1, y, _, hy, rfl⟩
    · exact absurd hs (by decide)
    · rfl
    · exact absurd hs (by decide)
    · rw [s3] at hs; exact absurd hs (by decide)
    · rw [sot_fn] at hs; exact absurd hs (by decide)
  · rcases h1 with ⟨_, _, rfl⟩ | ⟨_, _, rfl⟩ | ⟨_, _, rfl⟩ | ⟨_, _, q1, y, _, hy, rfl⟩ | ⟨_, es, _, c1, q1, y, _, hy, rfl⟩
    · exact absurd hs (by decide)
    · exact absurd hs (by decide)
    · rfl
    · rw [s3] at hs; exact absurd hs (by decide)
    · rw [sot_fn] at hs; exact absurd hs (by decide)
  · rcases h1 with ⟨_, _, rfl⟩ | ⟨_, _, rfl⟩ | ⟨_, _, rfl⟩ | ⟨_, _, q1, y, _, hy, rfl⟩ | ⟨_, es, _, c1, q1, y, _, hy, rfl⟩
    · rw [s3] at hs; exact absurd hs (by decide)
    · rw [s3] at hs; exact absurd hs (by decide)
    · rw [s3] at hs; exact absurd hs (by decide)
    · rw [cps_3 (s3 x), cps_3 (s3 y), gr hx, gr hy] at hc
      rw [(List.cons.inj hc).1]
    · rw [sot_fn, s3] at hs; exact absurd hs (by decide)
  · rcases h1 with ⟨_, _, rfl⟩ | ⟨_, _, rfl⟩ | ⟨_, _, rfl⟩ | ⟨_, _, q1, y, _, hy, rfl⟩ | ⟨_, es, _, c1, q1, y, _, hy, rfl⟩
    · rw [sot_fn] at hs; exact absurd hs (by decide)
    · rw [sot_fn] at hs; exact absurd hs (by decide)
    · rw [sot_fn] at hs; exact absurd hs (by decide)
    · rw [sot_fn, s3] at hs; exact absurd hs (by decide)
    · rw [fn c hx, fn c1 hy] at hc
      have hl := congrArg List.length hc
      rw [List.length_append, List.length_append, List.length_singleton, List.length_singleton] at hl
      have := List.append_inj hc (by omega)
      rw [this.1, (List.cons.inj this.2).1]
theorem KDf.det : ∀ (m k : Nat) (d : List Int), KDf X m k d → ∀ d1, KD X k d1 → d = d1 := by
  intro m
  induction m with
  | zero => exact fun _ _ h => h.elim
  | succ m ih =>
    intro k d h d1 h1
    have hd : KD X k d := ⟨m + 1, h⟩
    have s1 := hd.srt.1
    have s2 := h1.srt.1
    have c1 := hd.cps
    have c2 := h1.cps
    refine hd.ex h1 (by omega) (List.ext_getElem? (fun i => ?_))
    have hl : (cps d).length = (cps d1).length := by omega
    by_cases hi : i < (cps d).length
    · obtain ⟨x, hx⟩ : ∃ x, (cps d)[i]? = some x := ⟨_, List.getElem?_eq_getElem hi⟩
      obtain ⟨y, hy⟩ : ∃ y, (cps d1)[i]? = some y := ⟨_, List.getElem?_eq_getElem (by omega)⟩
      obtain ⟨q1, e1, g1⟩ := c1.2 i x hx
      obtain ⟨q2, e2, g2⟩ := c2.2 i y hy
      have eq : q1 = q2 := by omega
      rw [hx, hy]
      rw [KDf] at h
      rcases h.2 with ⟨_, _, rfl⟩ | ⟨_, _, rfl⟩ | ⟨_, _, rfl⟩ | ⟨a, b, q3, x3, c, e, rfl⟩ | ⟨a, ds, b, c, q3, x3, e, f, rfl⟩
      · exact absurd hi (Nat.not_lt_zero _)
      · exact absurd hi (Nat.not_lt_zero _)
      · exact absurd hi (Nat.not_lt_zero _)
      · have i0 : i = 0 := by
          rw [cps_3 rfl] at hi
          have : i < 1 := hi
          omega
        subst i0
        have hx' : gvs (4 :: x3) = x := by
          rw [cps_3 rfl] at hx
          exact Option.some.inj hx
        have gx : gvs (4 :: x3) = x3 := by
          show (_root_.Jvm.Pilot.CBlameCourtLaw_law_r8381_f30dd1.pz x3).getD 0 [3] = x3
          rw [(show KD X q3 x3 from ⟨m, e⟩).pz1]
          rfl
        rw [Nat.add_zero] at e1 e2
        have q31 : q3 = q2 := by omega
        rw [← hx', gx, ih _ _ e y (by rw [q31]; exact g2)]
      · have hp : ∀ e ∈ ds, ∀ r, _root_.Jvm.Pilot.CBlameCourtLaw_law_r8381_f30dd1.pz (e ++ r) = e :: _root_.Jvm.Pilot.CBlameCourtLaw_law_r8381_f30dd1.pz r := fun y hy => by
          obtain ⟨i, hi⟩ := List.getElem?_of_mem hy
          obtain ⟨k2, _, c2⟩ := c i y hi
          exact KDf.pz _ _ _ c2
        have fz : _root_.Jvm.Pilot.CBlameCourtLaw_law_r8381_f30dd1.pz x3 = [x3] := (show KD X q3 x3 from ⟨m, f⟩).pz1
        have hz : _root_.Jvm.Pilot.CBlameCourtLaw_law_r8381_f30dd1.pz (ds.flatten ++ x3) = ds ++ [x3] := by rw [pz_fl hp, fz]
        rw [cps_4 (sot_fn _ _), tkn_fn] at hx hi
        by_cases hi2 : i < ds.length
        · rw [List.getElem?_append_left (by rw [List.length_map, List.length_range]; exact hi2), List.getElem?_map, List.getElem?_range hi2] at hx
          have hx : prm _ i = x := Option.some.inj hx
          have px : ds[i]? = some x := by
            rw [← hx]
            show _ = some ((_root_.Jvm.Pilot.CBlameCourtLaw_law_r8381_f30dd1.pz (ds.flatten ++ x3)).getD i [3])
            rw [hz, List.getD_eq_getElem?_getD, List.getElem?_append_left hi2, List.getElem?_eq_getElem hi2]
            rfl
          obtain ⟨q4, f1, f2⟩ := c i x px
          have q41 : q4 = q2 := by omega
          rw [ih _ _ f2 y (by rw [q41]; exact g2)]
        · have hi3 : i = ds.length := by
            rw [List.length_append, List.length_map, List.length_range, List.length_singleton] at hi
            omega
          rw [List.getElem?_append_right (by rw [List.length_map, List.length_range]; omega), List.length_map, List.length_range, hi3, Nat.sub_self] at hx
          have hx : gvs _ = x := Option.some.inj hx
          have g : gvs ((5 + (ds.length : Int)) :: (ds.flatten ++ x3)) = x3 := by
            unfold gvs
            rw [tkn_fn]
            show (_root_.Jvm.Pilot.CBlameCourtLaw_law_r8381_f30dd1.pz (ds.flatten ++ x3)).getD ds.length [3] = x3
            rw [hz, List.getD_eq_getElem?_getD, List.getElem?_concat_length]
            rfl
          rw [hi3] at e1 e2
          have q31 : q3 = q2 := by omega
          rw [← hx, g, ih _ _ f y (by rw [q31]; exact g2)]
    · rw [List.getElem?_eq_none (by omega), List.getElem?_eq_none (by omega)]
theorem KD.det (h : KD X k d) (h1 : KD X k d1) : d = d1 := by
  obtain ⟨m, h⟩ := h
  exact KDf.det m k d h d1 h1
/-- a kind stands once in the table -/
theorem KDf.unq (hU : KU X) : ∀ (m k : Nat) (d : List Int), KDf X m k d → ∀ k1, KD X k1 d → k = k1 := by
  intro m
  induction m with
  | zero => exact fun _ _ h => h.elim
  | succ m ih =>
    intro k d h k1 h1
    have hd : KD X k d := ⟨m + 1, h⟩
    have s1 := hd.srt
    have s2 := h1.srt
    have c1 := hd.cps
    have c2 := h1.cps
    refine hU k k1 s1.2 s2.2 (by omega) (by omega) (fun i hi => ?_)
    have hi : i < (cps d).length := by omega
    obtain ⟨x, hx⟩ : ∃ x, (cps d)[i]? = some x := ⟨_, List.getElem?_eq_getElem hi⟩
    obtain ⟨q1, e1, g1⟩ := c1.2 i x hx
    obtain ⟨q2, e2, g2⟩ := c2.2 i x hx
    have key : ∃ q3 : Nat, (X.1 9 (ix (X.1 6 k) + i)).toInt = (q3 : Int) ∧ ∃ y, KDf X m q3 y := by
      rw [KDf] at h
      rcases h.2 with ⟨_, _, rfl⟩ | ⟨_, _, rfl⟩ | ⟨_, _, rfl⟩ | ⟨a, b, q3, x3, c, e, rfl⟩ | ⟨a, ds, b, c, q3, x3, e, f, rfl⟩
      · exact absurd hi (Nat.not_lt_zero _)
      · exact absurd hi (Nat.not_lt_zero _)
      · exact absurd hi (Nat.not_lt_zero _)
      · have i0 : i = 0 := by
          rw [cps_3 rfl] at hi
          have : i < 1 := hi
          omega
        rw [i0, Nat.add_zero]
        exact ⟨q3, c, x3, e⟩
      · have hl : i < ds.length + 1 := by
          have := c1.1
          omega
        by_cases hi2 : i < ds.length
        · obtain ⟨q4, f1, f2⟩ := c i _ (List.getElem?_eq_getElem hi2)
          exact ⟨q4, f1, _, f2⟩
        · rw [show i = ds.length by omega]
          exact ⟨q3, e, x3, f⟩
    obtain ⟨q3, e3, y, g3⟩ := key
    have q31 : q3 = q1 := by omega
    rw [q31] at g3
    have yx : y = x := KDf.det m q1 y g3 x g1
    rw [yx] at g3
    have := ih q1 x g3 q2 g2
    omega
theorem KD.unq (hU : KU X) (h : KD X k d) (h1 : KD X k1 d) : k = k1 := by
  obtain ⟨m, h⟩ := h
  exact KDf.unq hU m k d h k1 h1
theorem KD.iff (hU : KU X) (h : KD X k d) (h1 : KD X k1 d1) : k = k1 ↔ d = d1 := by
  refine ⟨fun e => ?_, fun e => ?_⟩
  · rw [← e] at h1
    exact h.det h1
  · rw [← e] at h1
    exact KD.unq hU h h1
end KDU
