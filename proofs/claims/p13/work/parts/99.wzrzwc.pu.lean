/-! the judge's orders and where any stands -/
/-- the kind on top of the stack has come into part g -/
def PUp (X Y : St) (g : Nat) : Prop := (∀ q, ¬ q = g → Y.1 57 q = X.1 57 q) ∧ ((Y.1 57 g).toInt = 0 ↔ (X.1 57 g).toInt = 0 ∧ (Y.1 8 (ix (Y.1 58 (ix (Y.1 0 30 - 1))))).toInt = 0)
/-- orders that put a kind on the stack; instructions that do; those that don't -/
def pshq (o : Int) : Prop := (1 ≤ o ∧ o ≤ 4) ∨ (17 ≤ o ∧ o ≤ 28)
def pai (o : Int) : Prop := (1 ≤ o ∧ o ≤ 4) ∨ o = 8 ∨ (10 ≤ o ∧ o ≤ 16) ∨ (18 ≤ o ∧ o ≤ 26)
def nai (o : Int) : Prop := o = 0 ∨ (5 ≤ o ∧ o ≤ 7) ∨ o = 9 ∨ o = 17 ∨ (27 ≤ o ∧ o ≤ 33) ∨ 35 ≤ o
/-- what an order makes of row 57 -/
def PUqq (X Y : St) (g : Nat) (o : Int) : Prop := (pshq o → PUp X Y g) ∧ (¬ pshq o → ¬ o = 12 → ∀ q, Y.1 57 q = X.1 57 q)
/-- kinds are made of older ones -/
def CO (X : St) : Prop := ∀ k : Nat, (k : Int) < (X.1 0 13).toInt → ((X.1 4 k).toInt = 4 → 1 ≤ (X.1 5 k).toInt) ∧ ∀ i : Nat, (i : Int) < (X.1 5 k).toInt → kls X k i < k
/-- any stands in part g, or not -/
def AN (X : St) (g : Nat) (b : Bool) : Prop := CO X → ((X.1 57 g).toInt = 0 ↔ b = false)
section PU9
variable {X Y Z : St} {g k m : Nat} {v p1 p2 p3 p4 : Int32} {d w : List Int} {P : Prop} {b : Bool} {o : Int}
theorem CO.bk (c : CO Y) (h : KXq X Y) (hl : KVl X (X.1 0 13).toInt (X.1 0 15).toInt) : CO X := by
  intro k hk
  obtain ⟨a4, a5, a6⟩ := h.2.2.1 k hk
  obtain ⟨c1, c2⟩ := c k (Int.lt_of_lt_of_le hk h.1)
  rw [a4, a5] at c1
  refine ⟨c1, fun i hi => ?_⟩
  have := c2 i (by rw [a5]; exact hi)
  obtain ⟨y1, y2⟩ := hl k hk i hi
  have e := ixc y1
  unfold kls at this ⊢
  rw [a6, h.2.2.2 _ (by omega)] at this
  exact this
theorem CO.kt (h : KT X) : CO X := fun k hk => by
  obtain ⟨t1, t2, t3, t4, t5⟩ := h.2.2 k hk
  refine ⟨fun z => ?_, fun i hi => ?_⟩
  · rcases t4 with y | y | y
    · omega
    · omega
    · omega
  · obtain ⟨y1, y2⟩ := t5 i hi
    have := ixc y1
    unfold kls
    omega
/-- whether any stands in a kind -/
theorem any8 (hV : KVa P X) (hc : CO X) : ∀ (m k : Nat) (d : List Int), KDf X m k d → ((X.1 8 k).toInt = 0 ↔ ¬ (3 : Int) ∈ d) := by
  intro m
  induction m with
  | zero => exact fun _ _ g => g.elim
  | succ m ih =>
    intro k d g
    rw [KDf] at g
    obtain ⟨hk, g⟩ := g
    obtain ⟨c1, c2⟩ := hc k hk
    obtain ⟨_, key, _⟩ := hV.1.2.2.2 k hk c1 c2
    have kq : ∀ (i k1 : Nat) (x : List Int), (X.1 9 (ix (X.1 6 k) + i)).toInt = (k1 : Int) → KDf X m k1 x → ((X.1 8 (kls X k i)).toInt = 0 ↔ ¬ (3 : Int) ∈ x) := by
      intro i k1 x h1 h2
      have e1 : kls X k i = k1 := by
        unfold kls
        exact ixn h1
      rw [e1]
      exact ih k1 x h2
    rw [key]
    rcases g with ⟨s, n, g⟩ | ⟨s, n, g⟩ | ⟨s, n, g⟩ | ⟨s, n, k1, d1, g1, g2, g3⟩ | ⟨s, ds, g1, g2, k1, d1, g3, g4, g5⟩
    · rw [g]
      exact ⟨fun _ => by decide, fun _ => ⟨by omega, fun i hi => by omega⟩⟩
    · rw [g]
      exact ⟨fun _ => by decide, fun _ => ⟨by omega, fun i hi => by omega⟩⟩
    · rw [g]
      exact ⟨fun z => absurd s z.1, fun z => absurd (by decide) z⟩
    · have c0 := kq 0 k1 d1 (by rw [Nat.add_zero]; exact g1) g2
      rw [g3]
      constructor
      · rintro ⟨_, u⟩ z
        rcases List.mem_cons.mp z with z | z
        · exact absurd z (by decide)
        · exact c0.mp (u 0 (by omega)) z
      · intro z
        refine ⟨by omega, fun i hi => ?_⟩
        have ei : i = 0 := by omega
        rw [ei]
        exact c0.mpr (fun y => z (List.mem_cons_of_mem _ y))
    · have cl := kq ds.length k1 d1 g3 g4
      have cs : ∀ i x, ds[i]? = some x → ((X.1 8 (kls X k i)).toInt = 0 ↔ ¬ (3 : Int) ∈ x) := fun i x hx => by
        obtain ⟨k2, x1, x2⟩ := g2 i x hx
        exact kq i k2 x x1 x2
      rw [g5]
      constructor
      · rintro ⟨_, u⟩ z
        rcases List.mem_cons.mp z with z | z
        · omega
        · rcases List.mem_append.mp z with z | z
          · obtain ⟨x, hx, hz⟩ := List.mem_flatten.mp z
            obtain ⟨i, hi⟩ := List.getElem?_of_mem hx
            have hl := (List.getElem?_eq_some_iff.mp hi).1
            exact (cs i x hi).mp (u i (by omega)) hz
          · exact cl.mp (u ds.length (by omega)) z
      · intro z
        refine ⟨by omega, fun i hi => ?_⟩
        by_cases zi : i < ds.length
        · obtain ⟨x, hx⟩ : ∃ x, ds[i]? = some x := ⟨_, List.getElem?_eq_getElem zi⟩
          exact (cs i x hx).mpr (fun y => z (List.mem_cons_of_mem _ (List.mem_append_left _ (List.mem_flatten.mpr ⟨x, List.mem_of_getElem? hx, y⟩))))
        · have ei : i = ds.length := by omega
          rw [ei]
          exact cl.mpr (fun y => z (List.mem_cons_of_mem _ (List.mem_append_right _ y)))
theorem any8k (hV : KVa P X) (hc : CO X) (h : KTo X v d) : (X.1 8 (ix v)).toInt = 0 ↔ ¬ (3 : Int) ∈ d := by
  obtain ⟨z, h1, m, h2⟩ := h
  rw [ixn h1]
  exact any8 hV hc m z d h2
theorem bor_iff {A B : Prop} {b : Bool} (ha : A ↔ b = false) (hb : B ↔ ¬ (3 : Int) ∈ d) : (A ∧ B) ↔ (b || decide ((3 : Int) ∈ d)) = false := by
  rw [ha, hb, Bool.or_eq_false_iff, decide_eq_false_iff_not]
theorem AN.n (h : AN X g b) (hV : KVa True X) (hx : KXq X Y) (hr : Y.1 57 g = X.1 57 g) : AN Y g b := fun c => by
  rw [hr]
  exact h (c.bk hx hV.1.2.2.1)
theorem AN.push (h : AN X g b) (hV : KVa True X) (hx : KVx X Y) (hp : PUp X Y g) (ht : KTo Y (Y.1 58 (ix (Y.1 0 30 - 1))) d) : AN Y g (b || decide ((3 : Int) ∈ d)) := fun c => by
  rw [hp.2]
  exact bor_iff (h (c.bk hx.2 hV.1.2.2.1)) (any8k hx.1 c ht)
theorem AN.wr {b0 : Int32} (h : AN X g b) (hV : KVa True X) (hx : KVx X Z) (h57 : Z.1 57 g = X.1 57 g) (hk : KTo Z v w) (hb : (b0 = 0 ∧ (Z.1 57 g).toInt = 0 ∧ (Z.1 8 (ix v)).toInt = 0) ∨ (b0 = 1 ∧ ¬ ((Z.1 57 g).toInt = 0 ∧ (Z.1 8 (ix v)).toInt = 0))) : AN (wI Z 57 g (vp_nar .boolean b0)) g (b || decide ((3 : Int) ∈ w)) := fun c => by
  have cZ : CO Z := c.bk (KXq.of (fun e1 j q => wI_ne _ _ _ _ _ _ (by omega))) hx.1.1.2.2.1
  have hA := h (cZ.bk hx.2 hV.1.2.2.1)
  rw [← h57] at hA
  rw [← bor_iff hA (any8k hx.1 cZ hk), wI_at]
  rcases hb with ⟨z, y⟩ | ⟨z, y⟩
  · rw [z]
    exact ⟨fun _ => y, fun _ => nar8_0⟩
  · rw [z]
    exact ⟨fun u => absurd u nar8_1, fun u => absurd u y⟩
theorem PUp.pre (h : R57 X Z) (p : PUp Z Y g) : PUp X Y g := ⟨fun q hq => (p.1 q hq).trans (h.1 q), by rw [p.2, h.1 g]⟩
theorem PUqq.p (ho : pshq o) (h : PUp X Y g) : PUqq X Y g o := ⟨fun _ => h, fun z => absurd ho z⟩
theorem PUqq.n (ho : ¬ pshq o) (h : R57 X Y) : PUqq X Y g o := ⟨fun z => absurd z ho, fun _ _ => h.1⟩
theorem PUqq.t : PUqq X Y g 12 := ⟨fun z => absurd z (by unfold pshq; omega), fun _ z => absurd rfl z⟩
theorem pu_push (h29 : (X.1 0 29).toInt = (g : Int)) : pw (f_push p1 X) (fun _ Y => PUp X Y g) := by
  have l1 : (1 : Int32).toInt = 1 := by decide
  unfold f_push
  refine pw_eq (fun x1 e1 => pw_ck (fun hc => pw_eq (fun X2 e2 => pw_eq (fun x3 e3 => pw_eq (fun x4 e4 => pw_eq (fun X5 e5 => pw_eq (fun x6 e6 => pw_eq (fun x7 e7 => pw_ck (fun _ => pw_eq (fun x8 e8 => ?_))))))))))
  have hc1 := hc.1
  have hc2 := hc.2
  have c3 : x3 = x1 := by rw [e3, e2, wI_ne _ _ _ _ _ _ (by omega), e1]
  have r5 : ∀ e k, ¬ e = 58 → ¬ (e = 0 ∧ k = 30) → X5.1 e k = X.1 e k := fun e k q1 q2 => by rw [e5, wI_ne _ _ _ _ _ _ (by omega), e2, wI_ne _ _ _ _ _ _ (by omega)]
  have t5 : X5.1 58 (ix x1) = p1 := by rw [e5, wI_ne _ _ _ _ _ _ (by omega), e2, wI_at]
  have v4 : x4.toInt = x1.toInt + 1 := by rw [e4, c3, ti_add (by rw [l1]; omega) (by rw [l1]; omega), l1]
  have t30 : X5.1 0 30 - 1 = x1 := by
    rw [e5, wI_at]
    refine Int32.toInt_inj.mp ?_
    rw [ti_sub (by rw [l1]; omega) (by rw [l1]; omega), l1]
    omega
  have i6 : ix x6 = g := by rw [e6, r5 0 29 (by omega) (by omega)]; exact ixn h29
  have i7 : ix x7 = g := by rw [e7, r5 0 29 (by omega) (by omega)]; exact ixn h29
  have v8 : x8 = X.1 57 g := by rw [e8, i7, r5 57 g (by omega) (by omega)]
  have fin : ∀ b0 : Int32, ((b0 = 0 ∧ (X.1 57 g).toInt = 0 ∧ (X5.1 8 (ix p1)).toInt = 0) ∨ (b0 = 1 ∧ ¬ ((X.1 57 g).toInt = 0 ∧ (X5.1 8 (ix p1)).toInt = 0))) → pw (f_push_54 b0 x6 X5) (fun _ Y => PUp X Y g) := fun b0 hb => by
    unfold f_push_54
    refine pw_ck (fun _ => pw_eq (fun X9 e9 => pw_ret ?_))
    rw [i6] at e9
    have r9 : ∀ e k, ¬ (e = 57 ∧ k = g) → X9.1 e k = X5.1 e k := fun e k z => by rw [e9, wI_ne _ _ _ _ _ _ (by omega)]
    refine ⟨fun q hq => by rw [r9 57 q (by omega), r5 57 q (by omega) (by omega)], ?_⟩
    rw [r9 0 30 (by omega), t30, r9 58 _ (by omega), t5, r9 8 _ (by omega), e9, wI_at]
    rcases hb with ⟨z, y⟩ | ⟨z, y⟩
    · rw [z]
      exact ⟨fun _ => y, fun _ => nar8_0⟩
    · rw [z]
      exact ⟨fun u => absurd u nar8_1, fun u => absurd u y⟩
  have fin2 : ¬ ((X.1 57 g).toInt = 0 ∧ (X5.1 8 (ix p1)).toInt = 0) → pw (f_push_49 x6 X5) (fun _ Y => PUp X Y g) := fun z => by
    unfold f_push_49
    exact fin 1 (Or.inr ⟨rfl, z⟩)
  rw [v8]
  refine pw_ite (fun c => pw_ck (fun _ => pw_let (pw_ite (fun c1 => fin 0 (Or.inl ⟨rfl, c, c1⟩)) (fun c1 => fin2 (fun z => c1 z.2))))) (fun c => fin2 (fun z => c z.1))
theorem pu_join (h29 : (X.1 0 29).toInt = (g : Int)) : pw (f_judgeJoin p1 X) (fun _ Y => PUp X Y g) := by
  have p112 : ∀ (v : Int32) (Z : St), R57 X Z → pw (f_judgeJoin_112 v Z) (fun _ Y => PUp X Y g) := fun v Z h => by
    unfold f_judgeJoin_112
    exact pw_bd (pu_push (g := g) (by rw [h.2]; exact h29)) (fun _ Y hY => pw_ret (hY.pre h))
  have p101 : ∀ (v v1 : Int32) (Z : St), R57 X Z → pw (f_judgeJoin_101 v v1 Z) (fun _ Y => PUp X Y g) := fun v v1 Z h => by
    unfold f_judgeJoin_101
    exact pw_ite (fun _ => p112 _ _ h) (fun _ => p112 _ _ h)
  unfold f_judgeJoin
  refine pw_let (pw_let (pw_eq (fun X3 e3 => ?_)))
  have h3 : R57 X X3 := by rw [e3]; exact R57_w R57.rf (by omega)
  refine pw_let (pw_ck (fun _ => pw_let (pw_let (pw_let (pw_ck (fun _ => pw_let (pw_ite (fun _ => p101 _ _ _ h3) (fun _ => ?_))))))))
  refine pw_ck (fun _ => pw_let (pw_ck (fun _ => pw_let (pw_ck (fun _ => pw_let (pw_ck (fun _ => pw_let (pw_let (pw_bd (rs_guards h3) (fun _ X15 h15 => ?_))))))))))
  refine pw_ck (fun _ => pw_let (pw_ck (fun _ => pw_let (pw_ck (fun _ => pw_let (pw_ck (fun _ => pw_let (pw_let (pw_bd (rs_guards h15) (fun _ X21 h21 => p101 _ _ _ h21))))))))))
theorem pu_elems (h29 : (X.1 0 29).toInt = (g : Int)) : pw (f_judgeElements p1 X) (fun _ Y => PUp X Y g) := by
  have p168 : ∀ (v : Int32) (Z : St), R57 X Z → pw (f_judgeElements_168 v Z) (fun _ Y => PUp X Y g) := fun v Z h => by
    unfold f_judgeElements_168
    exact pw_bd (rs_rowOf h) (fun _ X9 h9 => pw_bd (pu_push (g := g) (by rw [h9.2]; exact h29)) (fun _ Y hY => pw_ret (hY.pre h9)))
  have p91 : ∀ (M : Nat) (a2 a3 a4 : Int32) (Z : St), R57 X Z → pw (f_judgeElements_91 M a2 a3 a4 Z) (fun _ Y => PUp X Y g) := by
    intro M
    induction M with
    | zero => exact fun _ _ _ _ _ => pw_none
    | succ M ih =>
      intro a2 a3 a4 Z h
      have e : f_judgeElements_91 (M + 1) = f_judgeElements_91_s (f_judgeElements_91 M) := by
        unfold f_judgeElements_91
        exact lp_succ _ _ _
      rw [e]
      unfold f_judgeElements_91_s f_judgeElements_134
      refine pw_ite (fun _ => pw_ite (fun _ => p168 _ _ h) (fun _ => pw_let (pw_ck (fun _ => pw_let (p168 _ _ h))))) (fun _ => pw_ite (fun _ => ?_) (fun _ => pw_let (pw_ck (fun _ => pw_let (ih _ _ _ _ h)))))
      exact pw_ck (fun _ => pw_let (pw_let (pw_let (pw_ck (fun _ => pw_let (pw_ck (fun _ => pw_let (pw_let (pw_bd (rs_guards h) (fun _ X21 h21 => pw_let (pw_ck (fun _ => pw_let (ih _ _ _ _ h21)))))))))))))
  have p32 : ∀ (M : Nat) (a1 a2 a3 : Int32) (Z : St), R57 X Z → pw (f_judgeElements_32 M a1 a2 a3 Z) (fun _ Y => PUp X Y g) := by
    intro M
    induction M with
    | zero => exact fun _ _ _ _ _ => pw_none
    | succ M ih =>
      intro a1 a2 a3 Z h
      have e : f_judgeElements_32 (M + 1) = f_judgeElements_32_s (f_judgeElements_32 M) := by
        unfold f_judgeElements_32
        exact lp_succ _ _ _
      rw [e]
      unfold f_judgeElements_32_s f_judgeElements_73 f_judgeElements_74
      refine pw_ck (fun _ => pw_let (pw_ite (fun _ => pw_ck (fun _ => pw_let (p91 _ _ _ _ _ h))) (fun _ => pw_ite (fun _ => pw_let (ih _ _ _ _ h)) (fun _ => ?_))))
      exact pw_let (pw_let (pw_ck (fun _ => pw_let (pw_let (pw_ck (fun _ => pw_let (pw_ite (fun _ => pw_let (ih _ _ _ _ h)) (fun _ => pw_let (ih _ _ _ _ h)))))))))
  unfold f_judgeElements f_judgeElements_29
  refine pw_let (pw_ck (fun _ => pw_let (pw_let (pw_eq (fun X4 e4 => ?_)))))
  have h4 : R57 X X4 := by rw [e4]; exact R57_w R57.rf (by omega)
  exact pw_ck (fun _ => pw_let (pw_ite (fun _ => p32 _ _ _ _ _ h4) (fun _ => p32 _ _ _ _ _ h4)))
theorem pu_more (h29 : (X.1 0 29).toInt = (g : Int)) (ho : (X.1 40 (ix p1)).toInt = o) (hn : ¬ (1 ≤ o ∧ o ≤ 4)) : pw (f_judgeMore p1 p2 X) (fun _ Y => PUqq X Y g o) := by
  have P : ∀ (v : Int32) (Z : St), pshq o → R57 X Z → pw (f_push v Z) (fun _ Y => PUqq X Y g o) := fun v Z hp h => pw_mono (pu_push (g := g) (by rw [h.2]; exact h29)) (fun _ Y hY => PUqq.p hp (hY.pre h))
  have p343 : ∀ (v : Int32) (Z : St), pshq o → R57 X Z → pw (f_judgeMore_343 v Z) (fun _ Y => PUqq X Y g o) := fun v Z hp h => by
    unfold f_judgeMore_343
    exact pw_bd (P v Z hp h) (fun _ Y hY => pw_ret hY)
  have p30 : ∀ v : Int32, R57 X (wI X 0 30 v) := fun v => R57_w R57.rf (by omega)
  unfold f_judgeMore
  refine pw_ck (fun _ => pw_let ?_)
  rw [ho]
  refine pw_ite (fun c => ?_) (fun c12 => ?_)
  · rw [c]
    exact fun _ _ _ => PUqq.t
  refine pw_ite (fun c => ?_) (fun c13 => ?_)
  · refine pw_let (pw_let (pw_eq (fun X22 e22 => pw_ck (fun _ => pw_let (pw_let (pw_ck (fun _ => pw_let (pw_ck (fun _ => pw_let (pw_ret (PUqq.n (by unfold pshq; omega) ?_)))))))))))
    rw [e22]
    exact R57_w (p30 _) (by omega)
  refine pw_ite (fun c => pw_let (pw_let (pw_let (pw_ret (PUqq.n (by unfold pshq; omega) (p30 _)))))) (fun c15 => ?_)
  refine pw_ite (fun c => pw_bd (pu_join h29) (fun _ Y hY => pw_ret (PUqq.p (by unfold pshq; omega) hY))) (fun c17 => ?_)
  refine pw_ite (fun c => pw_bd (pu_elems h29) (fun _ Y hY => pw_ret (PUqq.p (by unfold pshq; omega) hY))) (fun c18 => ?_)
  refine pw_ite (fun c => pw_let (pw_let (pw_let (pw_let (pw_let (pw_ck (fun _ => pw_let (pw_bd (rs_rowOf (p30 _)) (fun _ X43 h43 => pw_bd (P _ _ (by unfold pshq; omega) h43) (fun _ Y hY => pw_ret hY)))))))))) (fun c19 => ?_)
  refine pw_ite (fun c => pw_let (pw_let (pw_let (pw_bd (P _ _ (by unfold pshq; omega) (p30 _)) (fun _ Y hY => pw_ret hY))))) (fun c20 => ?_)
  refine pw_ite (fun c => pw_let (pw_let (pw_let (pw_bd (P _ _ (by unfold pshq; omega) (p30 _)) (fun _ Y hY => pw_ret hY))))) (fun c21 => ?_)
  refine pw_ite (fun c => pw_let (pw_let (pw_let (pw_bd (P _ _ (by unfold pshq; omega) (p30 _)) (fun _ Y hY => pw_ret hY))))) (fun c22 => ?_)
  refine pw_ite (fun c => pw_let (pw_let (pw_let (pw_bd (P _ _ (by unfold pshq; omega) (p30 _)) (fun _ Y hY => pw_ret hY))))) (fun c23 => ?_)
  refine pw_ite (fun c => pw_let (pw_let (pw_let (pw_ck (fun _ => pw_let (pw_ite (fun _ => p343 _ _ (by unfold pshq; omega) (p30 _)) (fun _ => p343 _ _ (by unfold pshq; omega) (p30 _)))))))) (fun c24 => ?_)
  refine pw_ite (fun c => pw_let (pw_let (pw_let (pw_ck (fun _ => pw_let (pw_ite (fun _ => p343 _ _ (by unfold pshq; omega) (p30 _)) (fun _ => p343 _ _ (by unfold pshq; omega) (p30 _)))))))) (fun c25 => ?_)
  refine pw_ite (fun c => pw_let (pw_let (pw_let (pw_let (pw_ck (fun _ => pw_let (pw_bd (rs_elementOf (p30 _)) (fun _ X83 h83 => pw_bd (P _ _ (by unfold pshq; omega) h83) (fun _ Y hY => pw_ret hY))))))))) (fun c26 => ?_)
  refine pw_ite (fun c => pw_let (pw_let (pw_let (pw_let (pw_ck (fun _ => pw_let (pw_bd (rs_elementOf (p30 _)) (fun _ X83 h83 => pw_bd (P _ _ (by unfold pshq; omega) h83) (fun _ Y hY => pw_ret hY))))))))) (fun c27 => ?_)
  refine pw_ite (fun c => pw_let (pw_ck (fun _ => pw_let (pw_let (pw_let (pw_let (pw_let (pw_ck (fun _ => pw_let (pw_bd (rs_resultOf (p30 _)) (fun _ X83 h83 => pw_bd (P _ _ (by unfold pshq; omega) h83) (fun _ Y hY => pw_ret hY)))))))))))) (fun c28 => ?_)
  refine pw_ite (fun c => pw_let (pw_let (pw_let (pw_ret (PUqq.n (by unfold pshq; omega) (p30 _)))))) (fun c29 => ?_)
  refine pw_ite (fun c => pw_let (pw_let (pw_let (pw_ret (PUqq.n (by unfold pshq; omega) (p30 _)))))) (fun c31 => ?_)
  exact pw_ret (PUqq.n (by unfold pshq; omega) R57.rf)
theorem pu_one (h29 : (X.1 0 29).toInt = (g : Int)) (ho : (X.1 40 (ix p1)).toInt = o) : pw (f_judgeOne p1 p2 X) (fun _ Y => PUqq X Y g o) := by
  have P : ∀ (v : Int32) (Z : St), pshq o → R57 X Z → pw (f_push v Z) (fun _ Y => PUqq X Y g o) := fun v Z hp h => pw_mono (pu_push (g := g) (by rw [h.2]; exact h29)) (fun _ Y hY => PUqq.p hp (hY.pre h))
  have p317 : ∀ (q1 q2 q3 q4 : Int32) (Z : St), ¬ pshq o → R57 X Z → pw (f_judgeOne_317 q1 q2 q3 q4 Z) (fun _ Y => PUqq X Y g o) := fun q1 q2 q3 q4 Z hp h => by
    unfold f_judgeOne_317
    exact pw_let (pw_let (pw_let (pw_ck (fun _ => pw_let (pw_bd (rs_paramOf h) (fun _ X44 h44 => pw_ck (fun _ => pw_let (pw_bd (rs_must h44) (fun _ Y hY => pw_ret (PUqq.n hp hY))))))))))
  unfold f_judgeOne
  refine pw_ck (fun _ => pw_let ?_)
  rw [ho]
  refine pw_ite (fun c => pw_bd (P _ _ (by unfold pshq; omega) R57.rf) (fun _ Y hY => pw_ret hY)) (fun c1 => ?_)
  refine pw_ite (fun c => pw_bd (P _ _ (by unfold pshq; omega) R57.rf) (fun _ Y hY => pw_ret hY)) (fun c2 => ?_)
  refine pw_ite (fun c => pw_ck (fun _ => pw_let (pw_ck (fun _ => pw_let (pw_bd (P _ _ (by unfold pshq; omega) R57.rf) (fun _ Y hY => pw_ret hY)))))) (fun c3 => ?_)
  refine pw_ite (fun c => pw_ck (fun _ => pw_let (pw_bd (rs_functionOf R57.rf) (fun _ X13 h13 => pw_bd (P _ _ (by unfold pshq; omega) h13) (fun _ Y hY => pw_ret hY))))) (fun c4 => ?_)
  refine pw_ite (fun c => pw_ck (fun _ => pw_let (pw_let (pw_bd (rs_must R57.rf) (fun _ Y hY => pw_ret (PUqq.n (by unfold pshq; omega) hY)))))) (fun c5 => ?_)
  refine pw_ite (fun c => pw_ck (fun _ => pw_let (pw_let (pw_bd (rs_must R57.rf) (fun _ Y hY => pw_ret (PUqq.n (by unfold pshq; omega) hY)))))) (fun c6 => ?_)
  refine pw_ite (fun c => pw_bd (rs_judgeCallee R57.rf) (fun _ Y hY => pw_ret (PUqq.n (by unfold pshq; omega) hY))) (fun c7 => ?_)
  refine pw_ite (fun c => pw_ck (fun _ => pw_let (pw_bd (rs_judgeRow R57.rf) (fun _ Y hY => pw_ret (PUqq.n (by unfold pshq; omega) hY))))) (fun c8 => ?_)
  refine pw_ite (fun c => pw_ck (fun _ => pw_let (pw_bd (rs_judgeRow R57.rf) (fun _ Y hY => pw_ret (PUqq.n (by unfold pshq; omega) hY))))) (fun c9 => ?_)
  refine pw_ite (fun c => ?_) (fun c10 => ?_)
  · refine pw_ck (fun _ => pw_let (pw_ck (fun _ => pw_let (pw_let (pw_ck (fun _ => pw_let (pw_ck (fun _ => pw_let (pw_ite (fun _ => ?_) (fun _ => pw_let (p317 _ _ _ _ _ (by unfold pshq; omega) R57.rf)))))))))))
    exact pw_ck (fun _ => pw_let (pw_ck (fun _ => pw_let (p317 _ _ _ _ _ (by unfold pshq; omega) R57.rf))))
  refine pw_ite (fun c => ?_) (fun c11 => ?_)
  · exact pw_let (pw_let (pw_ck (fun _ => pw_let (pw_bd (rs_elementOf R57.rf) (fun _ X54 h54 => pw_ck (fun _ => pw_let (pw_ck (fun _ => pw_let (pw_let (pw_bd (rs_must h54) (fun _ Y hY => pw_ret (PUqq.n (by unfold pshq; omega) hY))))))))))))
  refine pw_ite (fun c => ?_) (fun c30 => ?_)
  · exact pw_bd (rs_ownKindOf R57.rf) (fun _ X61 h61 => pw_ck (fun _ => pw_let (pw_ck (fun _ => pw_let (pw_let (pw_bd (rs_must h61) (fun _ Y hY => pw_ret (PUqq.n (by unfold pshq; omega) hY))))))))
  exact pw_bd (pu_more h29 ho (by omega)) (fun _ Y hY => pw_ret hY)
end PU9
