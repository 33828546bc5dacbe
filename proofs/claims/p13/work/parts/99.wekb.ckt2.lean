/-! two kinds fit -/
def ftF : Nat → List Int → List Int → Prop
  | 0, _, _ => False
  | m + 1, x, y => x = y ∨ x = [3] ∨ y = [3] ∨ (sot x = sot y ∧ 3 ≤ sot x ∧ tkn x = tkn y ∧ (∀ i, i < tkn x → ftF m (prm x i) (prm y i)) ∧ ftF m (gvs x) (gvs y))
def FT (x y : List Int) : Prop := ∃ m, ftF m x y
theorem ftF.up : ∀ (m : Nat) (x y : List Int), ftF m x y → ftF (m + 1) x y := by
  intro m
  induction m with
  | zero => exact fun _ _ h => h.elim
  | succ m ih =>
    intro x y h
    rw [ftF] at h ⊢
    exact h.imp (fun h => h) (fun h => h.imp (fun h => h) (fun h => h.imp (fun h => h) (fun ⟨a, b, c, d, e⟩ => ⟨a, b, c, fun i hi => ih _ _ (d i hi), ih _ _ e⟩)))
theorem ftF.le {m n : Nat} {x y : List Int} (h : ftF m x y) (g : m ≤ n) : ftF n x y := by
  induction g with
  | refl => exact h
  | step _ ih => exact ftF.up _ _ _ ih
theorem FT.all {P Q : Nat → List Int} : ∀ n : Nat, (∀ i, i < n → FT (P i) (Q i)) → ∃ m, ∀ i, i < n → ftF m (P i) (Q i) := by
  intro n
  induction n with
  | zero => exact fun _ => ⟨0, fun i hi => absurd hi (Nat.not_lt_zero _)⟩
  | succ n ih =>
    intro h
    obtain ⟨m1, g⟩ := ih (fun i hi => h i (by omega))
    obtain ⟨m2, g2⟩ := h n (by omega)
    refine ⟨max m1 m2, fun i hi => ?_⟩
    by_cases e : i = n
    · rw [e]; exact g2.le (Nat.le_max_right ..)
    · exact (g i (by omega)).le (Nat.le_max_left ..)
theorem FT.iff {x y : List Int} : FT x y ↔ x = y ∨ x = [3] ∨ y = [3] ∨ (sot x = sot y ∧ 3 ≤ sot x ∧ tkn x = tkn y ∧ (∀ i, i < tkn x → FT (prm x i) (prm y i)) ∧ FT (gvs x) (gvs y)) := by
  refine ⟨fun ⟨m, h⟩ => ?_, fun h => ?_⟩
  · cases m with
    | zero => exact h.elim
    | succ m =>
      rw [ftF] at h
      exact h.imp (fun h => h) (fun h => h.imp (fun h => h) (fun h => h.imp (fun h => h) (fun ⟨a, b, c, d, e⟩ => ⟨a, b, c, fun i hi => ⟨m, d i hi⟩, ⟨m, e⟩⟩)))
  · rcases h with h | h | h | ⟨a, b, c, d, m2, e⟩
    · exact ⟨1, by rw [ftF]; exact Or.inl h⟩
    · exact ⟨1, by rw [ftF]; exact Or.inr (Or.inl h)⟩
    · exact ⟨1, by rw [ftF]; exact Or.inr (Or.inr (Or.inl h))⟩
    · obtain ⟨m1, d⟩ := FT.all _ d
      exact ⟨max m1 m2 + 1, by rw [ftF]; exact Or.inr (Or.inr (Or.inr ⟨a, b, c, fun i hi => (d i hi).le (Nat.le_max_left ..), e.le (Nat.le_max_right ..)⟩))⟩
theorem WKd.pr {m : Nat} {d : List Int} (h : WKd m d) {i : Nat} (hi : i < tkn d) : 1 ≤ m ∧ WKd (m - 1) (prm d i) := by
  have z : ∀ x : List Int, tkn (4 :: x) = 0 := fun _ => by show ((4 : Int) - 5).toNat = 0; decide
  rcases h.inv with rfl | rfl | rfl | ⟨x, rfl, hx⟩ | ⟨ds, x, rfl, hl, hd, hx⟩
  · exact absurd hi (Nat.not_lt_zero _)
  · exact absurd hi (Nat.not_lt_zero _)
  · exact absurd hi (Nat.not_lt_zero _)
  · rw [z] at hi; exact absurd hi (Nat.not_lt_zero _)
  · rw [tkn_fn] at hi
    rw [prm_fn (WKd.hs hd) hx hi, List.getD_eq_getElem?_getD, List.getElem?_eq_getElem hi]
    exact hd _ (List.getElem_mem hi)
theorem WKd.gv {m : Nat} {d : List Int} (h : WKd m d) : WKd m (gvs d) := by
  rcases h.inv with rfl | rfl | rfl | ⟨x, rfl, hx⟩ | ⟨ds, x, rfl, hl, hd, hx⟩
  · exact WKd.i3 m
  · exact WKd.i3 m
  · exact WKd.i3 m
  · rw [gvs_row hx]; exact hx
  · rw [gvs_fn (WKd.hs hd) hx]; exact hx
section CKT2
variable {o : Nat} {X Y : St} {ks : List (List Int)} {d x y : List Int}
/-- the kinds that stand first in each table -/
def K9 : List (List Int) := [[1], [2], [3], [4, 3], [5, 3], [6, 3, 3], [7, 3, 3, 3], [8, 3, 3, 3, 3], [9, 3, 3, 3, 3, 3]]
theorem K9.at {i : Nat} {x : List Int} (h : K9 <+: ks) (hx : K9[i]? = some x) : ks[i]? = some x := by
  obtain ⟨l, rfl⟩ := h
  rw [List.getElem?_append_left (List.getElem?_eq_some_iff.mp hx).1]
  exact hx
theorem kk_sortOf (ho : o = 3 ∨ o = 25) {p : Int32} {j : Nat} (hT : TKS o X ks) (hj : p.toInt = (j : Int)) (hd : ks[j]? = some d) : pw (g_Kinds_sortOf o p X) (fun r Y => Y = X ∧ r.toInt = sot d) := by
  have hl := (List.getElem?_eq_some_iff.mp hd).1
  have hc := hT.1.1
  unfold g_Kinds_sortOf
  refine pw_neg (by omega) (pw_let (pw_neg (by omega) ?_))
  refine pw_to (kYk ho).1 (pw_ck (fun _ => pw_let (pw_ret ⟨rfl, ?_⟩)))
  rw [ixn hj]
  exact (hT.2.1 j d hd).1.1.1
theorem kk_takenBy (ho : o = 3 ∨ o = 25) {p : Int32} {j : Nat} (hT : TKS o X ks) (hj : p.toInt = (j : Int)) (hd : ks[j]? = some d) : pw (g_Kinds_takenBy o p X) (fun r Y => Y = X ∧ r.toInt = (tkn d : Int)) := by
  have hl := (List.getElem?_eq_some_iff.mp hd).1
  have hc := hT.1.1
  unfold g_Kinds_takenBy
  refine pw_neg (by omega) (pw_let (pw_neg (by omega) ?_))
  refine pw_to (kYk ho).2.1 (pw_ck (fun _ => pw_let (pw_ret ⟨rfl, ?_⟩)))
  rw [ixn hj]
  exact (hT.2.1 j d hd).1.1.2.1
/-- what it gives, or has -/
theorem kk_givesOf (ho : o = 3 ∨ o = 25) {p : Int32} {j : Nat} (hT : TKS o X ks) (h9 : K9 <+: ks) (hj : p.toInt = (j : Int)) (hd : ks[j]? = some d) : pw (g_Kinds_givesOf o p X) (fun r Y => Y = X ∧ ∃ q : Nat, r.toInt = (q : Int) ∧ ks[q]? = some (gvs d) ∧ (3 ≤ sot d → q < j)) := by
  have l5 : (5 : Int32).toInt = 5 := by decide
  have l4 : (4 : Int32).toInt = 4 := by decide
  have hl := (List.getElem?_eq_some_iff.mp hd).1
  have hc := hT.1.1
  have h5 := hT.1.2.1
  obtain ⟨hE, mw, hw⟩ := hT.2.1 j d hd
  unfold g_Kinds_givesOf
  refine pw_neg (by omega) (pw_let (pw_neg (by omega) ?_))
  refine pw_to (kYk ho).2.2.1 (pw_eq (fun x3 e3 => pw_eq (fun x4 e4 => pw_ck (fun _ => pw_let (pw_ret ⟨rfl, ?_⟩)))))
  have v3 : x3.toInt = (j : Int) * 5 := by rw [e3, ti_mul (by rw [hj, l5]; omega) (by rw [hj, l5]; omega), hj, l5]
  have v4 : x4.toInt = ((5 * j + 4 : Nat) : Int) := by rw [e4, ti_add (by rw [v3, l4]; omega) (by rw [v3, l4]; omega), v3, l4]; omega
  rw [ixn v4]
  by_cases z : 3 ≤ sot d
  · obtain ⟨q, h1, h2, h3⟩ := hE.2.1.2 z
    exact ⟨q, h2, h3, fun _ => h1⟩
  · refine ⟨2, hE.2.1.1 (by omega), ?_, fun y => absurd y z⟩
    rw [((sot5 hw).2.2.1 (by omega)).2]
    exact K9.at h9 rfl
theorem kk_paramOf (ho : o = 3 ∨ o = 25) {p p2 : Int32} {j i : Nat} (hT : TKS o X ks) (hj : p.toInt = (j : Int)) (hd : ks[j]? = some d) (h2 : p2.toInt = (i : Int)) (hi : i < tkn d) : pw (g_Kinds_paramOf o p p2 X) (fun r Y => Y = X ∧ ∃ q : Nat, r.toInt = (q : Int) ∧ ks[q]? = some (prm d i) ∧ q < j) := by
  have l5 : (5 : Int32).toInt = 5 := by decide
  have hl := (List.getElem?_eq_some_iff.mp hd).1
  have hc := hT.1.1
  have h5 := hT.1.2.1
  obtain ⟨hE, mw, hw⟩ := hT.2.1 j d hd
  have t4 := tkn4 hw
  have hE2 := hE.1.2.1
  unfold g_Kinds_paramOf
  refine pw_neg (by omega) (pw_let (pw_neg (by omega) (pw_neg (by omega) ?_)))
  refine pw_to (kYk ho).2.1 (pw_ck (fun _ => pw_let ?_))
  rw [ixn hj]
  refine pw_neg (by omega) ?_
  refine pw_to (kYk ho).2.2.1 (pw_eq (fun x3 e3 => pw_eq (fun x4 e4 => pw_ck (fun _ => pw_let (pw_ret ⟨rfl, ?_⟩)))))
  have v3 : x3.toInt = (j : Int) * 5 := by rw [e3, ti_mul (by rw [hj, l5]; omega) (by rw [hj, l5]; omega), hj, l5]
  have v4 : x4.toInt = ((5 * j + i : Nat) : Int) := by rw [e4, ti_add (by rw [v3, h2]; omega) (by rw [v3, h2]; omega), v3, h2]; omega
  rw [ixn v4]
  obtain ⟨q, h1, h2, h3⟩ := hE.2.2 i hi
  exact ⟨q, h2, h3, h1⟩
/-- a kind's code, and whether ANY stands in it -/
theorem TKS.code (hT : TKS o X ks) {j : Nat} (hd : ks[j]? = some d) : X.1 (o + 4) j = kco d := (hT.2.1 j d hd).1.1.2.2.1
theorem TKS.any (hT : TKS o X ks) {j : Nat} (hd : ks[j]? = some d) : (X.1 (o + 5) j).toInt = 0 ↔ ¬ (3 : Int) ∈ d := (hT.2.1 j d hd).1.1.2.2.2
/-- the same kind has the same number -/
theorem TKS.eq (hT : TKS o X ks) {j j1 : Nat} (h : ks[j]? = some x) (h1 : ks[j1]? = some y) : j = j1 ↔ x = y := by
  refine ⟨fun e => ?_, fun e => ?_⟩
  · rw [e, h1] at h
    exact (Option.some.inj h).symm
  · rw [e] at h
    exact hT.1.2.2 _ _ _ h h1
def FTc (o : Nat) (X : St) (ks : List (List Int)) (v : Nat → Int32 → Int32 → Int32 → St → Option (Int32 × St)) : Prop := ∀ (a b dp : Int32) (ja jb dl : Nat) (x y : List Int), a.toInt = (ja : Int) → b.toInt = (jb : Int) → dp.toInt = (dl : Int) → dl ≤ 40 → ks[ja]? = some x → ks[jb]? = some y → WKd (40 - dl) x → WKd (40 - dl) y → pw (v o a b dp X) (fun r Y => Y = X ∧ (r.toInt = 0 ↔ ¬ FT x y))
theorem kk_fitb (ho : o = 3 ∨ o = 25) (hT : TKS o X ks) (h9 : K9 <+: ks) {v : Nat → Int32 → Int32 → Int32 → St → Option (Int32 × St)} (hv : FTc o X ks v) : FTc o X ks (g_Kinds_fit_b v) := by
  have l0 : (0 : Int32).toInt = 0 := by decide
  have l1 : (1 : Int32).toInt = 1 := by decide
  have lo1 : (Int32.ofInt 1).toInt = 1 := by decide
  intro a b dp ja jb dl x y ha hb hdp hdl hx hy wx wy
  have h3 : ks[2]? = some [3] := K9.at h9 rfl
  have lk := hT.1.2.1
  have any2 : ∀ {p : Int32} {j : Nat} {z : List Int}, p.toInt = (j : Int) → ks[j]? = some z → (p.toInt = 2 ↔ z = [3]) := fun hp hz => by
    rw [← hT.eq hz h3]
    omega
  unfold g_Kinds_fit_b
  have loop : ∀ (M : Nat) (i ja jb : Nat) (a b a6 : Int32) (x y : List Int), a.toInt = (ja : Int) → b.toInt = (jb : Int) → a6.toInt = (i : Int) → i + ja < 1549 → ks[ja]? = some x → ks[jb]? = some y → WKd (40 - dl) x → WKd (40 - dl) y → pw (g_Kinds_fit_9 v M o dp a b a6 X) (fun r Y => Y = X ∧ (r.toInt = 0 ↔ ¬ FT x y)) := by
    intro M
    induction M with
    | zero => exact fun _ _ _ _ _ _ _ _ _ _ _ _ _ _ _ _ => pw_none
    | succ M ih =>
      intro i ja jb a b a6 x y ha hb h6 hi hx hy wx wy
      have e : g_Kinds_fit_9 v (M + 1) = g_Kinds_fit_9_s v (g_Kinds_fit_9 v M) := by
        unfold g_Kinds_fit_9
        exact lp_succ _ _ _
      rw [e]
      unfold g_Kinds_fit_9_s
      have yes : FT x y → pw (some ((1 : Int32), X)) (fun r Y => Y = X ∧ (r.toInt = 0 ↔ ¬ FT x y)) := fun h => pw_ret ⟨rfl, fun z => by omega, fun z => absurd h z⟩
      have no : ¬ FT x y → pw (some ((0 : Int32), X)) (fun r Y => Y = X ∧ (r.toInt = 0 ↔ ¬ FT x y)) := fun h => pw_ret ⟨rfl, fun _ => h, fun _ => l0⟩
      have hjl := (List.getElem?_eq_some_iff.mp hx).1
      refine pw_neg (by omega) ?_
      refine pw_ite (fun c => yes (FT.iff.mpr (Or.inl ((hT.eq hx hy).mp (by omega))))) (fun c => ?_)
      refine pw_ite (fun c1 => yes (FT.iff.mpr (Or.inr (Or.inl ((any2 ha hx).mp c1))))) (fun c1 => ?_)
      refine pw_ite (fun c2 => yes (FT.iff.mpr (Or.inr (Or.inr (Or.inl ((any2 hb hy).mp c2)))))) (fun c2 => ?_)
      have n1 : ¬ x = y := fun z => c (by have := (hT.eq hx hy).mpr z; omega)
      have n2 : ¬ x = [3] := fun z => c1 ((any2 ha hx).mpr z)
      have n3 : ¬ y = [3] := fun z => c2 ((any2 hb hy).mpr z)
      have only : FT x y ↔ (sot x = sot y ∧ 3 ≤ sot x ∧ tkn x = tkn y ∧ (∀ i, i < tkn x → FT (prm x i) (prm y i)) ∧ FT (gvs x) (gvs y)) := FT.iff.trans ⟨fun h => ((h.resolve_left n1).resolve_left n2).resolve_left n3, fun h => Or.inr (Or.inr (Or.inr h))⟩
      refine pw_bd (kk_sortOf ho hT ha hx) ?_
      rintro x1 X2 ⟨rfl, g1⟩
      refine pw_bd (kk_sortOf ho hT hb hy) ?_
      rintro x3 X4 ⟨rfl, g3⟩
      refine pw_ite (fun c3 => ?_) (fun c3 => no (fun z => c3 (by rw [g1, g3]; exact (only.mp z).1)))
      have hs : sot x = sot y := by omega
      have s3 : 3 ≤ sot x := by
        have q1 := sot5 wx
        have q2 := sot5 wy
        refine Classical.byContradiction (fun z => ?_)
        have : sot x = 0 ∨ sot x = 1 ∨ sot x = 2 := by omega
        rcases this with h | h | h
        · exact n1 ((q1.2.2.2.2.2.1 h).trans (q2.2.2.2.2.2.1 (by omega)).symm)
        · exact n1 ((q1.2.2.2.2.2.2 h).trans (q2.2.2.2.2.2.2 (by omega)).symm)
        · exact n2 (q1.2.2.2.1.mp h)
      refine pw_bd (kk_takenBy ho hT ha hx) ?_
      rintro x5 X6 ⟨rfl, g5⟩
      refine pw_bd (kk_takenBy ho hT hb hy) ?_
      rintro x7 X8 ⟨rfl, g7⟩
      refine pw_ite (fun c5 => ?_) (fun c5 => no (fun z => c5 (by have := (only.mp z).2.2.1; omega)))
      have ht : tkn x = tkn y := by omega
      refine pw_pos (by omega) ?_
      have t4 := tkn4 wx
      have inner : ∀ (M2 i2 : Nat) (a7 : Int32), a7.toInt = (i2 : Int) → i2 ≤ tkn x → (∀ j, j < i2 → FT (prm x j) (prm y j)) → pw (g_Kinds_fit_79 v (g_Kinds_fit_9 v M) M2 o dp a b a6 a7 X8) (fun r Y => Y = X8 ∧ (r.toInt = 0 ↔ ¬ FT x y)) := by
        intro M2
        induction M2 with
        | zero => exact fun _ _ _ _ _ => pw_none
        | succ M2 ih2 =>
          intro i2 a7 h7 hi2 hall
          have e : g_Kinds_fit_79 v (g_Kinds_fit_9 v M) (M2 + 1) = g_Kinds_fit_79_s v (g_Kinds_fit_9 v M) (g_Kinds_fit_79 v (g_Kinds_fit_9 v M) M2) := by
            unfold g_Kinds_fit_79
            exact lp_succ _ _ _
          rw [e]
          unfold g_Kinds_fit_79_s
          refine pw_bd (kk_takenBy ho hT ha hx) ?_
          rintro x9 X10 ⟨rfl, g9⟩
          refine pw_ite (fun c9 => ?_) (fun c9 => ?_)
          · refine pw_bd (kk_givesOf ho hT h9 ha hx) ?_
            rintro x11 X12 ⟨rfl, q1, g11, h11, l11⟩
            refine pw_bd (kk_givesOf ho hT h9 hb hy) ?_
            rintro x13 X14 ⟨rfl, q2, g13, h13, l13⟩
            have lt := l11 s3
            refine pw_let (pw_mono (ih (i + 1) q1 q2 x11 x13 _ (gvs x) (gvs y) g11 g13 (by rw [ti_add (by rw [h6, lo1]; omega) (by rw [h6, lo1]; omega), h6, lo1]; omega) (by omega) h11 h13 wx.gv wy.gv) ?_)
            rintro r Y ⟨h1, h2⟩
            refine ⟨h1, h2.trans ⟨fun z y => z (only.mp y).2.2.2.2, fun z y => z (only.mpr ⟨hs, s3, ht, fun j hj => hall j (by omega), y⟩)⟩⟩
          · have i2l : i2 < tkn x := by omega
            refine pw_bd (kk_paramOf ho hT ha hx h7 i2l) ?_
            rintro x16 X17 ⟨rfl, q1, g16, h16, _⟩
            refine pw_bd (kk_paramOf ho hT hb hy h7 (by omega)) ?_
            rintro x18 X19 ⟨rfl, q2, g18, h18, _⟩
            have p1 := wx.pr i2l
            have p2 := wy.pr (i := i2) (by omega)
            refine pw_eq (fun x20 e20 => ?_)
            have v20 : x20.toInt = ((dl + 1 : Nat) : Int) := by rw [e20, ti_add (by rw [hdp, l1]; omega) (by rw [hdp, l1]; omega), hdp, l1]; omega
            refine pw_bd (hv x16 x18 x20 q1 q2 (dl + 1) _ _ g16 g18 v20 (by omega) h16 h18 (by rw [show 40 - (dl + 1) = 40 - dl - 1 by omega]; exact p1.2) (by rw [show 40 - (dl + 1) = 40 - dl - 1 by omega]; exact p2.2)) ?_
            rintro x21 X22 ⟨rfl, g21⟩
            refine pw_ite (fun c21 => no (fun z => g21.mp c21 ((only.mp z).2.2.2.1 i2 i2l))) (fun c21 => ?_)
            refine pw_let (ih2 (i2 + 1) _ (by rw [ti_add (by rw [h7, lo1]; omega) (by rw [h7, lo1]; omega), h7, lo1]; omega) (by omega) (fun j hj => ?_))
            by_cases ej : j = i2
            · rw [ej]
              exact Classical.byContradiction (fun z => c21 (g21.mpr z))
            · exact hall j (by omega)
      exact inner BIG 0 0 l0 (Nat.zero_le _) (fun j hj => absurd hj (Nat.not_lt_zero _))
  have hjl := (List.getElem?_eq_some_iff.mp hx).1
  exact loop BIG 0 ja jb a b 0 x y ha hb l0 (by omega) hx hy wx wy
theorem kk_fit (ho : o = 3 ∨ o = 25) (hT : TKS o X ks) (h9 : K9 <+: ks) {a b : Int32} {ja jb : Nat} (ha : a.toInt = (ja : Int)) (hb : b.toInt = (jb : Int)) (hx : ks[ja]? = some x) (hy : ks[jb]? = some y) (wx : WKd 40 x) (wy : WKd 40 y) : pw (g_Kinds_fit o a b 0 X) (fun r Y => Y = X ∧ (r.toInt = 0 ↔ ¬ FT x y)) := by
  have h : ∀ N, FTc o X ks (rec_fit N) := by
    intro N
    unfold rec_fit
    exact lp_ind (P := fun r => FTc o X ks r) (fun _ _ _ _ _ _ _ _ _ _ _ _ _ _ _ _ => pw_none) (fun r ih => kk_fitb ho hT h9 ih) N
  exact h 64 a b 0 ja jb 0 x y ha hb (by decide) (by omega) hx hy wx wy
/-- the last kinds are taken out -/
theorem kk_cutTo (ho : o = 3 ∨ o = 25) {p : Int32} {m : Nat} (hT : TKS o X ks) (hp : p.toInt = (m : Int)) (hm : 9 ≤ m) (hml : m ≤ ks.length) : pw (g_Kinds_cutTo o p X) (fun _ Y => TKS o Y (ks.take m) ∧ Y.2 = X.2 ∧ ∀ e j, ¬ (o ≤ e ∧ e ≤ o + 7) → Y.1 e j = X.1 e j) := by
  have l1 : (1 : Int32).toInt = 1 := by decide
  have lom : (Int32.ofInt (-1)).toInt = -1 := by decide
  have hll := hT.1.2.1
  have loop : ∀ (M n : Nat) (a : Int32) (W : St), a.toInt = (n : Int) - 1 → m ≤ n → n ≤ ks.length → TKS o W (ks.take n) → W.2 = X.2 → (∀ e j, ¬ (o ≤ e ∧ e ≤ o + 7) → W.1 e j = X.1 e j) → pw (g_Kinds_cutTo_7 M o p a W) (fun _ Y => TKS o Y (ks.take m) ∧ Y.2 = X.2 ∧ ∀ e j, ¬ (o ≤ e ∧ e ≤ o + 7) → Y.1 e j = X.1 e j) := by
    intro M
    induction M with
    | zero => exact fun _ _ _ _ _ _ _ _ _ => pw_none
    | succ M ih =>
      intro n a W ha hn hnl hW h2 hF
      have e : g_Kinds_cutTo_7 (M + 1) = g_Kinds_cutTo_7_s (g_Kinds_cutTo_7 M) := by
        unfold g_Kinds_cutTo_7
        exact lp_succ _ _ _
      rw [e]
      unfold g_Kinds_cutTo_7_s
      have done : n = m → pw (some ((0 : Int32), W)) (fun _ Y => TKS o Y (ks.take m) ∧ Y.2 = X.2 ∧ ∀ e j, ¬ (o ≤ e ∧ e ≤ o + 7) → Y.1 e j = X.1 e j) := fun z => pw_ret ⟨by rw [← z]; exact hW, h2, hF⟩
      refine pw_ite (fun c => done (by omega)) (fun c => pw_ite (fun c1 => done (by omega)) (fun c1 => ?_))
      obtain ⟨n1, rfl⟩ : ∃ n1, n = n1 + 1 := ⟨n - 1, by omega⟩
      have ha : a.toInt = (n1 : Int) := by omega
      obtain ⟨d, hd⟩ : ∃ d, ks[n1]? = some d := ⟨_, List.getElem?_eq_getElem (by omega)⟩
      have htk : ks.take (n1 + 1) = ks.take n1 ++ [d] := by
        rw [List.take_succ, hd]
        rfl
      have hln : (ks.take n1).length = n1 := by rw [List.length_take]; omega
      have hln2 : (ks.take (n1 + 1)).length = n1 + 1 := by rw [List.length_take]; omega
      have hdn : (ks.take (n1 + 1))[n1]? = some d := by
        rw [htk]
        have := List.getElem?_concat_length (l := ks.take n1) (a := d)
        rw [hln] at this
        exact this
      obtain ⟨⟨a1, a2, a3⟩, hE, hB, hN⟩ := hW
      obtain ⟨hEn, mwn, hwn⟩ := hE n1 d hdn
      refine pw_to (kYk ho).2.2.2.2.2.1 ?_
      refine pw_to (kYk ho).2.2.2.1 ?_
      refine pw_ck (fun _ => pw_let ?_)
      rw [ixn ha, hEn.1.2.2.1]
      refine pw_bd (kk_bucketOf (kco d)) ?_
      rintro x6 X7 ⟨rfl, e6⟩
      refine pw_to (kYk ho).2.2.2.2.2.2 ?_
      refine pw_ck (fun _ => pw_let (pw_ck (fun hxr => pw_eq (fun X10 e10 => pw_eq (fun X11 e11 => pw_let ?_)))))
      have bb : x6.toInt = ((bk d : Nat) : Int) := by
        have := ixc hxr.1
        rw [e6] at this ⊢
        exact this.symm
      rw [ixn bb] at e10
      have rest : ∀ e j, ¬ (e = o ∧ j = 0) → ¬ (e = o + 6 ∧ j = bk d) → X11.1 e j = X7.1 e j := fun e j q1 q2 => by rw [e11, wI_ne _ _ _ _ _ _ (by omega), e10, wI_ne _ _ _ _ _ _ (by omega)]
      have up : ∀ {j : Nat} {x : List Int}, (ks.take n1)[j]? = some x → (ks.take (n1 + 1))[j]? = some x := fun h => by
        rw [htk, List.getElem?_append_left (List.getElem?_eq_some_iff.mp h).1]
        exact h
      have dn : ∀ {j : Nat} {x : List Int}, j < n1 → (ks.take (n1 + 1))[j]? = some x → (ks.take n1)[j]? = some x := fun hj h => by
        rw [htk, List.getElem?_append_left (by omega)] at h
        exact h
      refine ih n1 _ X11 (by rw [ti_add (by rw [ha, lom]; omega) (by rw [ha, lom]; omega), ha, lom]; omega) (by omega) (by omega) ⟨⟨?_, by omega, fun i j x hi hj => a3 i j x (up hi) (up hj)⟩, fun k x hk => ?_, fun b hb => ?_, fun k hk => ?_⟩ (by rw [e11, e10]; exact h2) (fun e j q => by rw [rest e j (by omega) (by omega)]; exact hF e j q)
      · rw [e11, wI_at, ha, hln]
      · have hkl := (List.getElem?_eq_some_iff.mp hk).1
        rw [hln] at hkl
        obtain ⟨g, mw, w⟩ := hE k x (up hk)
        have g2 := g.cg (Y := X11) (tkn4 w) (fun e h1 h2 h3 => rest e k (by omega) (by omega)) (fun i hi => rest _ _ (by omega) (by omega))
        refine ⟨⟨g2.1, ⟨g2.2.1.1, fun z => ?_⟩, fun i hi => ?_⟩, mw, w⟩
        · obtain ⟨j, q1, q2, q3⟩ := g2.2.1.2 z
          exact ⟨j, q1, q2, dn (by omega) q3⟩
        · obtain ⟨j, q1, q2, q3⟩ := g2.2.2 i hi
          exact ⟨j, q1, q2, dn (by omega) q3⟩
      · have hgd : (ks.take (n1 + 1)).getD n1 [] = d := by rw [List.getD_eq_getElem?_getD, hdn]; rfl
        have hap : lastB (ks.take (n1 + 1)) b n1 = lastB (ks.take n1) b n1 := by rw [htk, lastB_ap _ _ _ _ (by omega)]
        rw [hln]
        by_cases eb : b = bk d
        · have := hN n1 (by omega)
          rw [hgd] at this
          rw [e11, wI_ne _ _ _ _ _ _ (by omega), e10, eb, wI_at, this, ← eb, hap]
        · rw [rest _ _ (by omega) (by omega), hB b hb, hln2, lastB, hgd, if_neg (fun z => eb z.symm), hap]
      · rw [hln] at hk
        rw [rest _ _ (by omega) (by omega), hN k (by omega)]
        have e1 : (ks.take (n1 + 1)).getD k [] = (ks.take n1).getD k [] := by rw [htk, getD_ap _ (by omega)]
        rw [e1, htk, lastB_ap _ _ _ _ (by omega)]
  have hc := hT.1.1
  unfold g_Kinds_cutTo
  refine pw_let (pw_eq (fun x2 e2 => ?_))
  refine loop BIG ks.length x2 X ?_ hml (Nat.le_refl _) (by rw [List.take_length]; exact hT) rfl (fun _ _ _ => rfl)
  rw [e2, ti_sub (by rw [hc, l1]; omega) (by rw [hc, l1]; omega), hc, l1]
end CKT2
