/-! guards on both sides -/
/-- the reference's guards -/
def G8R (X : St) (G : List JG) : Prop := (X.1 0 28).toInt = (G.length : Int) ∧ ∀ (i : Nat) (G1 : JG), G[i]? = some G1 → RGd X i G1
/-- the class's -/
def G8C (e : Nat) (X : St) (G : List JG) : Prop := (X.1 55 5).toInt = (G.length : Int) ∧ ∃ ks, TKS (e + 1) X ks ∧ ∀ (i : Nat) (G1 : JG), G[i]? = some G1 → CGd X ks i G1
/-- a call of the reference that leaves them -/
def R8k (X Y : St) : Prop := Y.1 0 4 = X.1 0 4 ∧ Y.1 0 28 = X.1 0 28 ∧ (∀ e k, 52 ≤ e ∧ e ≤ 57 → Y.1 e k = X.1 e k) ∧ KXq X Y
/-- one of the class -/
def C8 (X Y : St) : Prop := Y.1 0 4 = X.1 0 4 ∧ Y.1 55 5 = X.1 55 5 ∧ ∀ i k, (56 ≤ i ∧ i ≤ 60) ∨ i = 62 → Y.1 i k = X.1 i k
/-- guard()'s answer -/
def gan (G : List JG) (p1 p2 r : Int32) : Prop := (¬ (0 ≤ p1.toInt ∧ p1.toInt < (G.length : Int)) → r = -1) ∧ ∀ G1 : JG, 0 ≤ p1.toInt → G[ix p1]? = some G1 → (p2.toInt = 0 → r.toInt = G1.2.1) ∧ (p2.toInt = 1 → r.toInt = (G1.2.2.1 : Int)) ∧ (p2.toInt = 2 → r.toInt = G1.2.2.2.1) ∧ (p2.toInt = 3 → r = kco G1.2.2.2.2.1) ∧ (p2.toInt = 4 → r = kco G1.2.2.2.2.2) ∧ (p2.toInt < 0 ∨ 4 < p2.toInt → r = -1)
section VG8
variable {X Y Z : St} {P : Prop} {e k : Nat} {v p1 p2 r r1 : Int32} {G : List JG}
theorem gan.one (h : gan G p1 p2 r) (h1 : gan G p1 p2 r1) : r = r1 := by
  by_cases c : 0 ≤ p1.toInt ∧ p1.toInt < (G.length : Int)
  · have e := ixc c.1
    have hl : ix p1 < G.length := by omega
    obtain ⟨a0, a1, a2, a3, a4, a5⟩ := h.2 _ c.1 (List.getElem?_eq_getElem hl)
    obtain ⟨b0, b1, b2, b3, b4, b5⟩ := h1.2 _ c.1 (List.getElem?_eq_getElem hl)
    by_cases c0 : p2.toInt = 0
    · exact Int32.toInt_inj.mp ((a0 c0).trans (b0 c0).symm)
    by_cases c1 : p2.toInt = 1
    · exact Int32.toInt_inj.mp ((a1 c1).trans (b1 c1).symm)
    by_cases c2 : p2.toInt = 2
    · exact Int32.toInt_inj.mp ((a2 c2).trans (b2 c2).symm)
    by_cases c3 : p2.toInt = 3
    · exact (a3 c3).trans (b3 c3).symm
    by_cases c4 : p2.toInt = 4
    · exact (a4 c4).trans (b4 c4).symm
    · have cc : p2.toInt < 0 ∨ 4 < p2.toInt := by omega
      exact (a5 cc).trans (b5 cc).symm
  · exact (h.1 c).trans (h1.1 c).symm
theorem R8k.rf : R8k X X := ⟨rfl, rfl, fun _ _ _ => rfl, KXq.rf⟩
theorem C8.rf : C8 X X := ⟨rfl, rfl, fun _ _ _ => rfl⟩
/-- kinds told before stay told -/
theorem KDf.kl (hI : KVl X (X.1 0 13).toInt (X.1 0 15).toInt) (h : KXq X Y) : ∀ (m k : Nat) (d : List Int), KDf X m k d → KDf Y m k d := by
  intro m
  induction m with
  | zero => exact fun _ _ g => g.elim
  | succ m ih =>
    intro k d g
    rw [KDf] at g ⊢
    obtain ⟨hk, g⟩ := g
    obtain ⟨a4, a5, a6⟩ := h.2.2.1 k hk
    have hb := hI k hk
    refine ⟨Int.lt_of_lt_of_le hk h.1, ?_⟩
    rw [a4, a5, a6]
    rcases g with g | g | g | ⟨s, n, k1, d1, g1, g2, g3⟩ | ⟨s, ds, g1, g2, k1, d1, g3, g4, g5⟩
    · exact Or.inl g
    · exact Or.inr (Or.inl g)
    · exact Or.inr (Or.inr (Or.inl g))
    · obtain ⟨y1, y2⟩ := hb 0 (by omega)
      have := ixc y1
      exact Or.inr (Or.inr (Or.inr (Or.inl ⟨s, n, k1, d1, by rw [h.2.2.2 _ (by omega)]; exact g1, ih _ _ g2, g3⟩)))
    · obtain ⟨y1, y2⟩ := hb ds.length (by omega)
      have := ixc y1
      refine Or.inr (Or.inr (Or.inr (Or.inr ⟨s, ds, g1, fun i e he => ?_, k1, d1, by rw [h.2.2.2 _ (by omega)]; exact g3, ih _ _ g4, g5⟩)))
      obtain ⟨k2, x1, x2⟩ := g2 i e he
      have hl := (List.getElem?_eq_some_iff.mp he).1
      exact ⟨k2, by rw [h.2.2.2 _ (by omega)]; exact x1, ih _ _ x2⟩
theorem G8R.kp (h : G8R X G) (hV : KVa P X) (g : R8k X Y) : G8R Y G := by
  obtain ⟨h1, h2⟩ := h
  obtain ⟨_, g2, g3, g4⟩ := g
  refine ⟨by rw [g2]; exact h1, fun i G1 hG => ?_⟩
  obtain ⟨a1, ⟨z1, b1, m1, c1⟩, ⟨z2, b2, m2, c2⟩, a4, a5⟩ := h2 i G1 hG
  exact ⟨by rw [g3 52 i (by omega)]; exact a1, ⟨z1, by rw [g3 53 i (by omega)]; exact b1, m1, KDf.kl hV.1.2.2.1 g4 _ _ _ c1⟩, ⟨z2, by rw [g3 54 i (by omega)]; exact b2, m2, KDf.kl hV.1.2.2.1 g4 _ _ _ c2⟩, by rw [g3 55 i (by omega)]; exact a4, by rw [g3 56 i (by omega)]; exact a5⟩
theorem G8C.kp (h : G8C e X G) (g : C8 X Y) (p : PGS e X Y) : G8C e Y G := by
  obtain ⟨h1, ks, h2, h3⟩ := h
  exact ⟨by rw [g.2.1]; exact h1, ks, h2.cg (fun j k q1 q2 q3 => p.1 j k ⟨by omega, by omega⟩ (fun z => by have := q3 (by omega); omega)), fun i G1 hG => (h3 i G1 hG).cg (fun j hj => g.2.2 j i (Or.inl hj))⟩
theorem cvF_fold {g : Nat → Nat} : ∀ (ds : List (List Int)) (j : Nat) (v : Int32), (∀ i x, ds[i]? = some x → X.1 7 (g (j + i)) = kco x) → cvF X g ds.length j v = (ds.map kco).foldl (fun v x => (31 : Int32) * v + x) v := by
  intro ds
  induction ds with
  | nil => exact fun _ _ _ => rfl
  | cons x ds ih =>
    intro j v h
    have h0 := h 0 x rfl
    rw [Nat.add_zero] at h0
    rw [List.length_cons, cvF, List.map_cons, List.foldl_cons, h0]
    exact ih (j + 1) _ (fun i y hy => by rw [show j + 1 + i = j + (i + 1) by omega]; exact h (i + 1) y hy)
theorem ofN4 {n : Nat} (h : n ≤ 4) : (Int32.ofInt (n : Int)).toInt = (n : Int) := by
  rcases (show n = 0 ∨ n = 1 ∨ n = 2 ∨ n = 3 ∨ n = 4 from by omega) with z | z | z | z | z <;> rw [z] <;> decide
/-- a kind's code -/
theorem v_code (hT : KT X) (hV : KVa P X) : ∀ (m k : Nat) (d : List Int), KDf X m k d → ∀ l, cz (d ++ l) = X.1 7 k :: cz l := by
  have l7 : (7 : Int32).toInt = 7 := by decide
  have l1 : (1 : Int32).toInt = 1 := by decide
  intro m
  induction m with
  | zero => exact fun _ _ g => g.elim
  | succ m ih =>
    intro k d g l
    rw [KDf] at g
    obtain ⟨hk, g⟩ := g
    obtain ⟨t1, t2, t3, t4, t5⟩ := hT.2.2 k hk
    have t6 := ixc t1
    have ol : ∀ i : Nat, (i : Int) < (X.1 5 k).toInt → kls X k i < k := fun i hi => by
      obtain ⟨y1, y2⟩ := t5 i hi
      have := ixc y1
      unfold kls
      omega
    have key : X.1 7 k = cv0 X (kls X k) (X.1 4 k) (X.1 5 k) := (hV.1.2.2.2 k hk (fun z => by
      rcases t4 with y | y | y
      · omega
      · omega
      · omega) ol).1
    have kq : ∀ (i k1 : Nat) (x : List Int), (X.1 9 (ix (X.1 6 k) + i)).toInt = (k1 : Int) → KDf X m k1 x → (∀ r, cz (x ++ r) = kco x :: cz r) ∧ X.1 7 (kls X k i) = kco x := by
      intro i k1 x h1 h2
      have e1 : kls X k i = k1 := by
        unfold kls
        exact ixn h1
      have z := ih k1 x h2
      have e2 : kco x = X.1 7 k1 := by
        have := z []
        rw [List.append_nil] at this
        unfold kco
        rw [this]
        rfl
      rw [e1, e2]
      exact ⟨z, rfl⟩
    rcases g with ⟨s, n, g⟩ | ⟨s, n, g⟩ | ⟨s, n, g⟩ | ⟨s, n, k1, d1, g1, g2, g3⟩ | ⟨s, ds, g1, g2, k1, d1, g3, g4, g5⟩
    · rw [key, g]
      unfold cv0
      rw [if_neg (by omega), if_neg (by omega), ofI (v := 1) s]
      rfl
    · rw [key, g]
      unfold cv0
      rw [if_neg (by omega), if_neg (by omega), ofI (v := 2) s]
      rfl
    · rw [key, g]
      unfold cv0
      rw [if_neg (by omega), if_neg (by omega), ofI (v := 3) s]
      rfl
    · obtain ⟨c1, c2⟩ := kq 0 k1 d1 (by rw [Nat.add_zero]; exact g1) g2
      rw [key, g3]
      unfold cv0
      rw [if_pos s, c2]
      show cz (4 :: (d1 ++ l)) = _
      rw [cz, if_pos rfl, c1]
    · obtain ⟨c1, c2⟩ := kq ds.length k1 d1 g3 g4
      have cs : ∀ i x, ds[i]? = some x → (∀ r, cz (x ++ r) = kco x :: cz r) ∧ X.1 7 (kls X k i) = kco x := fun i x hx => by
        obtain ⟨k2, x1, x2⟩ := g2 i x hx
        exact kq i k2 x x1 x2
      have cm : ∀ x ∈ ds, ∀ r, cz (x ++ r) = kco x :: cz r := fun x hx => by
        obtain ⟨i, hi⟩ := List.getElem?_of_mem hx
        exact (cs i x hi).1
      have n5 : ds.length ≤ 4 := by
        rcases t4 with y | y | y
        · omega
        · omega
        · omega
      have en : (X.1 5 k).toInt.toNat = (ds ++ [d1]).length := by rw [List.length_append, List.length_singleton]; omega
      have ev : (7 : Int32) + X.1 5 k - 1 = (7 : Int32) + Int32.ofInt (ds.length : Int) := by
        have o : (Int32.ofInt (ds.length : Int)).toInt = (ds.length : Int) := ofN4 n5
        have a1 : ((7 : Int32) + X.1 5 k).toInt = 7 + (X.1 5 k).toInt := by rw [ti_add (by rw [l7]; omega) (by rw [l7]; omega), l7]
        refine Int32.toInt_inj.mp ?_
        rw [ti_sub (by rw [a1, l1]; omega) (by rw [a1, l1]; omega), a1, l1, ti_add (by rw [o, l7]; omega) (by rw [o, l7]; omega), o, l7]
        omega
      have ef : cvF X (kls X k) (X.1 5 k).toInt.toNat 0 ((7 : Int32) + X.1 5 k - 1) = (ds.map kco ++ [kco d1]).foldl (fun v x => (31 : Int32) * v + x) ((7 : Int32) + Int32.ofInt (ds.length : Int)) := by
        rw [en, ev, cvF_fold (ds ++ [d1]) 0 _ (fun i x hx => ?_), List.map_append]
        · rfl
        · rw [Nat.zero_add]
          have hi := (List.getElem?_eq_some_iff.mp hx).1
          rw [List.length_append, List.length_singleton] at hi
          by_cases z : i < ds.length
          · rw [List.getElem?_append_left z] at hx
            exact (cs i x hx).2
          · have ez : i = ds.length := by omega
            rw [ez, List.getElem?_concat_length] at hx
            rw [ez, ← Option.some.inj hx]
            exact c2
      have s5 : (X.1 4 k).toInt = 5 := s
      rw [key, g5]
      unfold cv0
      rw [if_neg (by omega), if_pos s5, ef]
      show cz ((5 + (ds.length : Int)) :: ((ds.flatten ++ d1) ++ l)) = _
      rw [cz, if_neg (by omega), if_pos (by omega), List.append_assoc, cz_fl cm, c1, len5]
      have e0 : (5 + (ds.length : Int)) - 5 = (ds.length : Int) := by omega
      have e1 : (ds.map kco ++ kco d1 :: cz l).take (ds.length + 1) = ds.map kco ++ [kco d1] := by
        rw [show ds.map kco ++ kco d1 :: cz l = (ds.map kco ++ [kco d1]) ++ cz l by simp, List.take_append_of_le_length (by simp), List.take_of_length_le (by simp)]
      have e2 : (ds.map kco ++ kco d1 :: cz l).drop (ds.length + 1) = cz l := by
        rw [show ds.map kco ++ kco d1 :: cz l = (ds.map kco ++ [kco d1]) ++ cz l by simp, List.drop_append_of_le_length (by simp), List.drop_of_length_le (by simp)]
        rfl
      rw [e1, e2, e0]
theorem v_kco (hT : KT X) (hV : KVa P X) {d : List Int} (h : KTo X v d) : X.1 7 (ix v) = kco d := by
  obtain ⟨z, h1, m, h2⟩ := h
  have := v_code hT hV m z d h2 []
  rw [List.append_nil] at this
  rw [ixn h1]
  unfold kco
  rw [this]
  rfl
/-- the reference's guard() -/
theorem x_guard8 (h4 : ¬ (X.1 0 4).toInt = 0) (hT : KT X) (hV : KVa P X) (hb : (X.1 0 28).toInt ≤ 12000) (hG : G8R X G) : pw (f_guard p1 p2 X) (fun r _ => gan G p1 p2 r) := by
  have l1 : (1 : Int32).toInt = 1 := by decide
  have l0 : (0 : Int32).toInt = 0 := by decide
  obtain ⟨g1, g2⟩ := hG
  unfold f_guard
  refine pw_let (pw_neg h4 (pw_let (pw_eq (fun x3 e3 => ?_))))
  have v3 : x3.toInt = (G.length : Int) - 1 := by rw [e3, ti_sub (by rw [l1]; omega) (by rw [l1]; omega), l1, g1]
  refine pw_bd (R := fun r Y => Y = X ∧ ((r.toInt = 1 ∧ 0 ≤ p1.toInt ∧ p1.toInt < (G.length : Int)) ∨ (r.toInt = 0 ∧ ¬ (0 ≤ p1.toInt ∧ p1.toInt < (G.length : Int))))) ?_ ?_
  · unfold f_in
    rw [l0]
    refine pw_ite (fun h1 => pw_ret ⟨rfl, Or.inr ⟨l0, by omega⟩⟩) (fun h1 => ?_)
    exact pw_ite (fun h2 => pw_ret ⟨rfl, Or.inr ⟨l0, by omega⟩⟩) (fun h2 => pw_ret ⟨rfl, Or.inl ⟨l1, by omega, by omega⟩⟩)
  · rintro x4 X5 ⟨e5, h⟩
    rw [e5]
    refine pw_ite (fun c4 => ?_) (fun c4 => ?_)
    · rcases h with h | h
      · omega
      · refine pw_ret ⟨fun _ => rfl, fun G1 q0 q1 => ?_⟩
        have := (List.getElem?_eq_some_iff.mp q1).1
        have := ixc q0
        exact absurd h.2 (by omega)
    · rcases h with ⟨_, h1, h2⟩ | h
      · have ei := ixc h1
        have hl : ix p1 < G.length := by omega
        obtain ⟨G1, hG1⟩ : ∃ G1, G[ix p1]? = some G1 := ⟨_, List.getElem?_eq_getElem hl⟩
        obtain ⟨a1, a2, a3, a4, a5⟩ := g2 _ _ hG1
        have mk : ∀ rr : Int32, ((p2.toInt = 0 → rr.toInt = G1.2.1) ∧ (p2.toInt = 1 → rr.toInt = (G1.2.2.1 : Int)) ∧ (p2.toInt = 2 → rr.toInt = G1.2.2.2.1) ∧ (p2.toInt = 3 → rr = kco G1.2.2.2.2.1) ∧ (p2.toInt = 4 → rr = kco G1.2.2.2.2.2) ∧ (p2.toInt < 0 ∨ 4 < p2.toInt → rr = -1)) → gan G p1 p2 rr := fun rr z => ⟨fun c => absurd ⟨h1, h2⟩ c, fun G2 _ q2 => by
          rw [hG1] at q2
          rw [← Option.some.inj q2]
          exact z⟩
        refine pw_ite (fun c0 => pw_ck (fun _ => pw_eq (fun x7 e7 => pw_ret (mk _ ⟨fun _ => by rw [e7]; exact a1, fun z => absurd z (by omega), fun z => absurd z (by omega), fun z => absurd z (by omega), fun z => absurd z (by omega), fun z => absurd z (by omega)⟩)))) (fun c0 => ?_)
        refine pw_ite (fun c1 => pw_ck (fun _ => pw_eq (fun x7 e7 => pw_ret (mk _ ⟨fun z => absurd z (by omega), fun _ => by rw [e7]; exact a4, fun z => absurd z (by omega), fun z => absurd z (by omega), fun z => absurd z (by omega), fun z => absurd z (by omega)⟩)))) (fun c1 => ?_)
        refine pw_ite (fun c2 => pw_ck (fun _ => pw_eq (fun x7 e7 => pw_ret (mk _ ⟨fun z => absurd z (by omega), fun z => absurd z (by omega), fun _ => by rw [e7]; exact a5, fun z => absurd z (by omega), fun z => absurd z (by omega), fun z => absurd z (by omega)⟩)))) (fun c2 => ?_)
        refine pw_ite (fun c3 => pw_ck (fun _ => pw_let (pw_ck (fun _ => pw_eq (fun x7 e7 => pw_ret (mk _ ⟨fun z => absurd z (by omega), fun z => absurd z (by omega), fun z => absurd z (by omega), fun _ => by rw [e7]; exact v_kco hT hV a2, fun z => absurd z (by omega), fun z => absurd z (by omega)⟩)))))) (fun c3 => ?_)
        refine pw_ite (fun c4 => pw_ck (fun _ => pw_let (pw_ck (fun _ => pw_eq (fun x7 e7 => pw_ret (mk _ ⟨fun z => absurd z (by omega), fun z => absurd z (by omega), fun z => absurd z (by omega), fun z => absurd z (by omega), fun _ => by rw [e7]; exact v_kco hT hV a3, fun z => absurd z (by omega)⟩)))))) (fun c4 => ?_)
        exact pw_ret (mk _ ⟨fun z => absurd z c0, fun z => absurd z c1, fun z => absurd z c2, fun z => absurd z c3, fun z => absurd z c4, fun _ => rfl⟩)
      · omega
theorem x_guard0 (h4 : (X.1 0 4).toInt = 0) : pw (f_guard p1 p2 X) (fun r _ => r = -1) := by
  unfold f_guard
  exact pw_let (pw_pos h4 (pw_ret rfl))
/-- the class's guard() -/
theorem l_guard8 (he : e = 2 ∨ e = 24) (r9 : X.2.2 0 9 = e + 1) (h4 : ¬ (X.1 0 4).toInt = 0) (hG : G8C e X G) : pw (g_Court_guard p1 p2 X) (fun r _ => gan G p1 p2 r) := by
  have hk : kY YC e 0 - 3 = e + 1 := by
    rcases he with h | h <;> rw [h] <;> decide +kernel
  obtain ⟨g1, ks, hT, g2⟩ := hG
  unfold g_Court_guard
  have out : ¬ (0 ≤ p1.toInt ∧ p1.toInt < (G.length : Int)) → gan G p1 p2 (-1) := fun c => ⟨fun _ => rfl, fun G1 q0 q1 => by
    have := (List.getElem?_eq_some_iff.mp q1).1
    have := ixc q0
    exact absurd c (by omega)⟩
  refine pw_let (pw_neg h4 (pw_ite (fun c => pw_ret (out (by omega))) (fun c => pw_eq (fun x2 e2 => ?_))))
  have v2 : x2.toInt = (G.length : Int) := by rw [e2]; exact g1
  refine pw_ite (fun c2 => ?_) (fun c2 => pw_ret (out (by omega)))
  have h1 : 0 ≤ p1.toInt := by omega
  have h2 : p1.toInt < (G.length : Int) := by omega
  have ei := ixc h1
  have hl : ix p1 < G.length := by omega
  obtain ⟨G1, hG1⟩ : ∃ G1, G[ix p1]? = some G1 := ⟨_, List.getElem?_eq_getElem hl⟩
  obtain ⟨a1, ⟨z2, y2, w2⟩, ⟨z3, y3, w3⟩, a4, a5⟩ := g2 _ _ hG1
  have mk : ∀ rr : Int32, ((p2.toInt = 0 → rr.toInt = G1.2.1) ∧ (p2.toInt = 1 → rr.toInt = (G1.2.2.1 : Int)) ∧ (p2.toInt = 2 → rr.toInt = G1.2.2.2.1) ∧ (p2.toInt = 3 → rr = kco G1.2.2.2.2.1) ∧ (p2.toInt = 4 → rr = kco G1.2.2.2.2.2) ∧ (p2.toInt < 0 ∨ 4 < p2.toInt → rr = -1)) → gan G p1 p2 rr := fun rr z => ⟨fun c => absurd ⟨h1, h2⟩ c, fun G2 _ q2 => by
    rw [hG1] at q2
    rw [← Option.some.inj q2]
    exact z⟩
  have ho : e + 1 = 3 ∨ e + 1 = 25 := by omega
  refine pw_ite (fun c0 => pw_ck (fun _ => pw_eq (fun x7 e7 => pw_ret (mk _ ⟨fun _ => by rw [e7]; exact a1, fun z => absurd z (by omega), fun z => absurd z (by omega), fun z => absurd z (by omega), fun z => absurd z (by omega), fun z => absurd z (by omega)⟩)))) (fun c0 => ?_)
  refine pw_ite (fun c1 => pw_ck (fun _ => pw_eq (fun x7 e7 => pw_ret (mk _ ⟨fun z => absurd z (by omega), fun _ => by rw [e7]; exact a4, fun z => absurd z (by omega), fun z => absurd z (by omega), fun z => absurd z (by omega), fun z => absurd z (by omega)⟩)))) (fun c1 => ?_)
  refine pw_ite (fun c2 => pw_ck (fun _ => pw_eq (fun x7 e7 => pw_ret (mk _ ⟨fun z => absurd z (by omega), fun z => absurd z (by omega), fun _ => by rw [e7]; exact a5, fun z => absurd z (by omega), fun z => absurd z (by omega), fun z => absurd z (by omega)⟩)))) (fun c2 => ?_)
  refine pw_ite (fun c3 => ?_) (fun c3 => ?_)
  · refine pw_ck (fun _ => pw_to (w := e) (by rw [r9]; rfl) (pw_to hk (pw_ck (fun _ => pw_let (pw_bd (kk_codeOf ho hT.1.1 y2 w2 (hT.2.1 _ _ w2).1.1.2.2.1) ?_)))))
    rintro x13 X14 ⟨_, e13⟩
    exact pw_ret (mk _ ⟨fun z => absurd z (by omega), fun z => absurd z (by omega), fun z => absurd z (by omega), fun _ => e13, fun z => absurd z (by omega), fun z => absurd z (by omega)⟩)
  refine pw_ite (fun c4 => ?_) (fun c4 => ?_)
  · refine pw_ck (fun _ => pw_to (w := e) (by rw [r9]; rfl) (pw_to hk (pw_ck (fun _ => pw_let (pw_bd (kk_codeOf ho hT.1.1 y3 w3 (hT.2.1 _ _ w3).1.1.2.2.1) ?_)))))
    rintro x13 X14 ⟨_, e13⟩
    exact pw_ret (mk _ ⟨fun z => absurd z (by omega), fun z => absurd z (by omega), fun z => absurd z (by omega), fun z => absurd z (by omega), fun _ => e13, fun z => absurd z (by omega)⟩)
  exact pw_ret (mk _ ⟨fun z => absurd z c0, fun z => absurd z c1, fun z => absurd z c2, fun z => absurd z c3, fun z => absurd z c4, fun _ => rfl⟩)
theorem l_guard0 (h4 : (X.1 0 4).toInt = 0) : pw (g_Court_guard p1 p2 X) (fun r _ => r = -1) := by
  unfold g_Court_guard
  exact pw_let (pw_pos h4 (pw_ret rfl))
end VG8
