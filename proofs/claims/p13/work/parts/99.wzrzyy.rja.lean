/-! the reference's judge, and the orders that guards stand at -/
/-- v is the number of the last guard that P tells, -1 where there is none -/
def LI (P : JG → Prop) (G : List JG) (v : Int) : Prop := (v = -1 ∧ ∀ y ∈ G, ¬ P y) ∨ ∃ (i : Nat) (y : JG), v = (i : Int) ∧ G[i]? = some y ∧ P y ∧ ∀ (i' : Nat) (y' : JG), i < i' → G[i']? = some y' → ¬ P y'
/-- row 43 of the orders before N -/
def LR (N : Nat) (c : List Ins) (G : List JG) (X : St) : Prop := ∀ o, o < N → LI (fun y => opl c y.1 = o) G (X.1 43 o).toInt
def JG1 (j : Nat) (G G1 : List JG) : Prop := G1 = G ∨ ∃ y : JG, y.1 = j ∧ G1 = G ++ [y]
def RJA (N : Nat) (c : List Ins) (X0 X : St) (g : Nat) (J : JS) : Prop := RJ X0 X g J ∧ LR N c J.2.2.2 X
def RJrA (N : Nat) (c : List Ins) (X0 Y : St) (g : Nat) : Sum JS (Int × Int) → Prop
  | Sum.inl J => RJA N c X0 Y g J
  | Sum.inr f => RJr X0 Y g (Sum.inr f)
def JQA (N : Nat) (ch : Tx) (ps : List Pt) (told : Nat → Bool) (c : List Ins) (g j : Nat) (S : List SE) (a : Ins) (J : JS) (X0 Y : St) : Prop := ∃ r, JST ch ps told c g j S a J r ∧ RJrA N c X0 Y g r
section RJAS
variable {X0 X Y Z : St} {g j n m N o s k : Nat} {J J1 : JS} {d : List Int} {c : List Ins} {S S1 : List SE} {us : List (Nat × Nat)} {G G1 : List JG} {P : JG → Prop} {x : JG} {v : Int} {a : Ins} {ch : Tx} {ps : List Pt} {told : Nat → Bool} {p1 p2 : Int32}
theorem LI.no (h : LI P G v) (hx : ¬ P x) : LI P (G ++ [x]) v := by
  rcases h with ⟨h1, h2⟩ | ⟨i, y, h1, h2, h3, h4⟩
  · refine Or.inl ⟨h1, fun y hy => ?_⟩
    rcases List.mem_append.mp hy with q | q
    · exact h2 y q
    · rw [List.mem_singleton.mp q]
      exact hx
  · have hi := (List.getElem?_eq_some_iff.mp h2).1
    refine Or.inr ⟨i, y, h1, by rw [List.getElem?_append_left hi]; exact h2, h3, fun i' y' q1 q2 => ?_⟩
    by_cases z : i' < G.length
    · rw [List.getElem?_append_left z] at q2
      exact h4 i' y' q1 q2
    · rw [List.getElem?_append_right (by omega)] at q2
      have e : i' - G.length = 0 := by
        have := (List.getElem?_eq_some_iff.mp q2).1
        rw [List.length_singleton] at this
        omega
      rw [e] at q2
      rw [← Option.some.inj q2]
      exact hx
theorem LI.yes (hx : P x) (hv : v = (G.length : Int)) : LI P (G ++ [x]) v := by
  refine Or.inr ⟨G.length, x, hv, by rw [List.getElem?_append_right (Nat.le_refl _), Nat.sub_self]; rfl, hx, fun i' y' q1 q2 => ?_⟩
  have := (List.getElem?_eq_some_iff.mp q2).1
  rw [List.length_append, List.length_singleton] at this
  omega
theorem LR.cg (h : LR N c G X) (r : ∀ q, Y.1 43 q = X.1 43 q) : LR N c G Y := fun o ho => by rw [r o]; exact h o ho
theorem LR.one (h : LR N c G X) (hG : (X.1 0 28).toInt = (G.length : Int)) (r : ∀ q, ¬ q = o → Y.1 43 q = X.1 43 q) (h43 : (Y.1 43 o).toInt = (X.1 0 28).toInt) (hx : opl c x.1 = o) : LR N c (G ++ [x]) Y := by
  intro q hq
  by_cases z : q = o
  · rw [z]
    exact LI.yes hx (by rw [h43, hG])
  · rw [r q z]
    exact (h q hq).no (fun y => z (by rw [← y, hx]))
theorem LR.keep (h : LR N c G X) (hq : HQ X o Y) (h28 : (Y.1 0 28).toInt = (X.1 0 28).toInt) : LR N c G Y := by
  obtain ⟨m, h1, h2, h3⟩ := hq
  refine h.cg (fun q => ?_)
  by_cases z : q = o
  · rcases h3 with ⟨_, h3⟩ | ⟨h3, _⟩
    · rw [z]; exact h3
    · omega
  · exact h2 q z
/-- a step that lays at most one guard -/
theorem LR.step (h : LR N c G X) (hq : HQ X o Y) (hG : (X.1 0 28).toInt = (G.length : Int)) (hG1 : (Y.1 0 28).toInt = (G1.length : Int)) (hj : JG1 j G G1) (ho : opl c j = o) : LR N c G1 Y := by
  rcases hj with e | ⟨y, hy, e⟩
  · rw [e] at hG1 ⊢
    exact h.keep hq (by omega)
  · rw [e] at hG1 ⊢
    rw [List.length_append, List.length_singleton] at hG1
    obtain ⟨m, h1, h2, h3⟩ := hq
    rcases h3 with ⟨h3, _⟩ | ⟨_, h3⟩
    · omega
    · exact h.one hG h2 (by omega) (by rw [hy]; exact ho)
theorem RJA.kj (h : RJA N c X0 X g J) : KJq X := h.1.kj
theorem RJA.ku (h : RJA N c X0 X g J) : KU X := h.1.ku
theorem RJA.pop {m : Nat} {v : Int32} (h : RJA N c X0 X g J) (hm : m ≤ J.1.length) (hv : v.toInt = (J.1.length : Int) - m) : RJA N c X0 (wI X 0 30 v) g (jpop m J) := ⟨h.1.pop hm hv, h.2.cg (fun q => wI_ne _ _ _ _ _ _ (by omega))⟩
theorem x_pushA {p1 : Int32} (h : RJA N c X0 X g J) (hp : KTo X p1 d) : pw (f_push p1 X) (fun _ Y => RJA N c X0 Y g (jpush d J)) := pw_mono (pw_and (x_push h.1 hp) (hq_push (o := 0) HQ.rf)) (fun _ Y q => ⟨q.1, h.2.keep q.2 (by rw [h.1.2.1.2.2.2]; exact q.1.2.1.2.2.2)⟩)
theorem x_gaskA {p1 p2 p4 p5 : Int32} {pl : Int} (h : RJA N c X0 X g J) (hp1 : ix p1 = opl c j) (h2 : KTo X p2 d) (h4 : p4.toInt = pl) (h5 : p5 = X.1 0 29) : pw (f_guards p1 p2 (2 : Int32) p4 p5 X) (fun _ Y => RJA N c X0 Y g (jgd (if d = [3] then [] else [(j, pl, g, (g : Int), d, [3])]) J) ∧ RJB X Y ∧ ∀ e k, e = 58 ∨ e = 59 ∨ (e = 0 ∧ (k = 9 ∨ k = 29 ∨ k = 30)) → Y.1 e k = X.1 e k) := by
  refine pw_mono (pw_and (x_gask (j := j) h.1 h2 h4 h5) (hq_guards hp1 HQ.rf)) ?_
  rintro _ Y ⟨⟨q1, q2, q3⟩, q4⟩
  refine ⟨⟨q1, h.2.step q4 h.1.2.1.2.2.2 q1.2.1.2.2.2 ?_ rfl⟩, q2, q3⟩
  show JG1 j J.2.2.2 (J.2.2.2 ++ _)
  by_cases z : d = [3]
  · rw [if_pos z, List.append_nil]
    exact Or.inl rfl
  · rw [if_neg z]
    exact Or.inr ⟨_, rfl, rfl⟩
theorem jmeet_gl {p t : Int} {w : List Int} (h : jmeet g j p t w J (Sum.inl J1)) : JG1 j J.2.2.2 J1.2.2.2 := by
  rcases h with ⟨_, e⟩ | ⟨_, _, e⟩ | ⟨_, _, e⟩
  · cases e
  · rw [Sum.inl.inj e]
    exact Or.inl rfl
  · rw [Sum.inl.inj e]
    exact Or.inr ⟨_, rfl, rfl⟩
theorem JST.gl (h : JST ch ps told c g j S a J (Sum.inl J1)) (h8 : ¬ a.1 = 8) (h10 : ¬ a.1 = 10) : JG1 j J.2.2.2 J1.2.2.2 := by
  have ee : ∀ J2 : JS, (Sum.inl J1 : Sum JS (Int × Int)) = Sum.inl J2 → J2.2.2.2 = J.2.2.2 → JG1 j J.2.2.2 J1.2.2.2 := fun J2 e q => by
    rw [Sum.inl.inj e, q]
    exact Or.inl rfl
  have jc : ∀ n : Nat, jcall g j a.2.2.1 n J (Sum.inl J1) → JG1 j J.2.2.2 J1.2.2.2 := by
    intro n h
    rcases h with ⟨_, e⟩ | ⟨_, ⟨_, ⟨_, e⟩ | ⟨_, e⟩⟩ | ⟨_, e⟩⟩
    · rw [Sum.inl.inj e]
      exact Or.inr ⟨_, rfl, rfl⟩
    · exact ee _ e rfl
    · cases e
    · cases e
  rcases h with ⟨_, h⟩ | ⟨_, h⟩ | ⟨_, h⟩ | ⟨_, d, _, h⟩ | ⟨_, h⟩ | ⟨_, h⟩ | ⟨_, h⟩ | ⟨_, h⟩ | ⟨g1_, k, J2, h2, h⟩ | ⟨_, h⟩ | ⟨g1_, k, J2, h2, h⟩ | ⟨_, h⟩ | ⟨_, h⟩ | ⟨_, h⟩ | ⟨_, h⟩ | ⟨_, h⟩ | ⟨_, h⟩ | ⟨_, h⟩ | ⟨_, h⟩ | ⟨_, h⟩ | ⟨_, h⟩ | ⟨_, h⟩ | ⟨_, h⟩ | ⟨_, h⟩ | ⟨_, h⟩ | ⟨_, h⟩ | ⟨_, w, _, h⟩ | ⟨_, h⟩ | ⟨_, h⟩ | ⟨_, h⟩ | ⟨_, h⟩
  · exact ee _ h rfl
  · exact ee _ h rfl
  · exact ee _ h rfl
  · exact ee _ h rfl
  · exact ee _ h rfl
  · exact ee _ h rfl
  · exact ee _ h rfl
  · exact ee _ h rfl
  · exact absurd g1_ h8
  · exact ee _ h rfl
  · exact absurd g1_ h10
  · exact ee _ h rfl
  · exact ee _ h rfl
  · exact ee _ h rfl
  · exact ee _ h rfl
  · exact ee _ h rfl
  · exact ee _ h rfl
  · exact ee _ h rfl
  · exact ee _ h rfl
  · exact ee _ h rfl
  · exact ee _ h rfl
  · exact jmeet_gl h
  · exact jmeet_gl h
  · rcases h with ⟨_, e⟩ | ⟨_, _, e⟩ | ⟨_, _, e⟩
    · rw [Sum.inl.inj e]
      exact Or.inr ⟨_, rfl, rfl⟩
    · exact ee _ e rfl
    · cases e
  · exact jc _ h
  · exact jc _ h
  · exact jmeet_gl h
  · exact jmeet_gl h
  · exact jmeet_gl (J := jany (askd told g a.2.2.2) J) h
  · exact jmeet_gl h
  · exact ee _ h rfl
theorem x_joinA {p1 : Int32} {m j1 j2 : Nat} {S1 : List SE} (h : RJA N c X0 X g J) (hl : 2 ≤ J.1.length) (hm : ix p1 = m) (hS : S = (some j2, none, 0) :: (some j1, none, 0) :: S1) (h24 : GAT X0 c (ix (X.1 24 m)) j1) (h25 : GAT X0 c (ix (X.1 25 m)) j2) : pw (f_judgeJoin p1 X) (fun _ Y => ∃ k J1, jmix c g 2 S J k J1 ∧ RJA N c X0 Y g (jpush k J1)) := by
  have l1 : (1 : Int32).toInt = 1 := by decide
  have l2 : (2 : Int32).toInt = 2 := by decide
  have h30 := h.1.2.1.2.2.1
  have b30 := (X.1 0 30).toInt_lt
  obtain ⟨K, L⟩ := J
  match K, hl, h, h30 with
  | y :: x :: K, _, h, h30 =>
    have h30 : (X.1 0 30).toInt = ((K.length + 1 + 1 : Nat) : Int) := h30
    have kx := h.1.2.2.1 1 x rfl
    have ky := h.1.2.2.1 0 y rfl
    have kx : KTo X (X.1 58 K.length) x := kx
    have ky : KTo X (X.1 58 (K.length + 1)) y := ky
    unfold f_judgeJoin
    refine pw_eq (fun x1 e1 => pw_eq (fun x2 e2 => pw_eq (fun X3 e3 => pw_eq (fun x4 e4 => pw_ck (fun _ => pw_eq (fun x5 e5 => pw_eq (fun x6 e6 => pw_eq (fun x7 e7 => pw_ck (fun _ => pw_eq (fun x8 e8 => ?_))))))))))
    have v2 : x2.toInt = (K.length : Int) := by rw [e2, e1, ti_sub (by rw [h30, l2]; omega) (by rw [h30, l2]; omega), h30, l2]; omega
    have h3 : RJA N c X0 X3 g (jpop 2 (y :: x :: K, L)) := by
      rw [e3]
      exact h.pop (by show 2 ≤ K.length + 1 + 1; omega) (by rw [v2]; show _ = ((K.length + 1 + 1 : Nat) : Int) - ((2 : Nat) : Int); omega)
    have r3 : ∀ e k, ¬ (e = 0 ∧ k = 30) → X3.1 e k = X.1 e k := fun e k q => by rw [e3, wI_ne _ _ _ _ _ _ (by omega)]
    have c4 : x4.toInt = (K.length : Int) := by rw [e4, e3, wI_at]; exact v2
    have c6 : x6.toInt = (K.length : Int) := by rw [e6, e3, wI_at]; exact v2
    have i7 : ix x7 = K.length + 1 := by
      refine ixn ?_
      rw [e7, ti_add (by rw [c6, l1]; omega) (by rw [c6, l1]; omega), c6, l1]
      omega
    have b3 : RJB X X3 := by rw [e3]; exact RJB.wr h.kj h.ku (by unfold kpJ; omega) (by omega) (by omega)
    have k5 : KTo X3 x5 x := by rw [e5, ixn c4, r3 58 _ (by omega)]; exact kx.kx h.kj b3.2.2.2
    have k8 : KTo X3 x8 y := by rw [e8, i7, r3 58 _ (by omega)]; exact ky.kx h.kj b3.2.2.2
    have i58 := KTo.iff h3.ku k5 k8
    have tk : ((y :: x :: K).take 2) = [y, x] := rfl
    have ba : jbase 2 (y :: x :: K) = x := rfl
    have fin : ∀ (Z : St) (a : Int32) (k : List Int) (J1 : JS), RJA N c X0 Z g J1 → KTo Z a k → jmix c g 2 S (y :: x :: K, L) k J1 → pw (f_judgeJoin_112 a Z) (fun _ Y => ∃ k J1, jmix c g 2 S (y :: x :: K, L) k J1 ∧ RJA N c X0 Y g (jpush k J1)) := by
      intro Z a k J1 hZ hk hm
      unfold f_judgeJoin_112
      exact pw_bd (x_pushA hZ hk) (fun _ X9 h9 => pw_ret ⟨k, J1, hm, h9⟩)
    refine pw_ite (fun c5 => ?_) (fun c5 => ?_)
    · have exy := i58.mp c5
      unfold f_judgeJoin_101
      refine pw_pos c5 (fin X3 x5 x _ h3 k5 (Or.inl ⟨?_, ba.symm, rfl⟩))
      intro z hz
      have hz : z ∈ [y, x] := hz
      rw [ba]
      simp only [List.mem_cons, List.not_mem_nil, or_false] at hz
      rcases hz with e | e
      · rw [e, exy]
      · exact e
    · have nxy : ¬ x = y := fun z => c5 (i58.mpr z)
      have nl : ¬ jlike 2 (y :: x :: K) := fun z => nxy (z y (List.mem_cons_self ..)).symm
      have q0 : ∀ {e k : Nat}, kpJ e k → X3.1 e k = X.1 e k := fun q => b3.1 _ _ q
      refine pw_ck (fun _ => pw_eq (fun x10 e10 => pw_ck (fun _ => pw_eq (fun x11 e11 => pw_ck (fun _ => pw_eq (fun x12 e12 => pw_ck (fun _ => pw_eq (fun x13 e13 => pw_eq (fun x14 e14 => ?_)))))))))
      rw [hm, r3 24 _ (by omega)] at e10 e12
      have p13 : x13.toInt = plc c j1 := by
        rw [e13, e12, r3 21 _ (by omega), h.1.1.1 21 _ (by unfold kpJ; omega), h24.2]
        rfl
      have q11 : ix x11 = opl c j1 := ixn (by rw [e11, e10, r3 45 _ (by omega), h.1.1.1 45 _ (by unfold kpJ; omega)]; exact h24.1)
      refine pw_bd (x_gaskA (j := j1) h3 q11 k5 p13 e14) ?_
      rintro _ X15 ⟨h15, b15, r15⟩
      have k815 : KTo X15 x8 y := k8.kx h3.kj b15.2.2.2
      have r16 : ∀ e k, kpJ e k → X15.1 e k = X.1 e k := fun e k q => (b15.1 e k q).trans (b3.1 e k q)
      refine pw_ck (fun _ => pw_eq (fun x16 e16 => pw_ck (fun _ => pw_eq (fun x17 e17 => pw_ck (fun _ => pw_eq (fun x18 e18 => pw_ck (fun _ => pw_eq (fun x19 e19 => pw_eq (fun x20 e20 => ?_)))))))))
      rw [hm, r16 25 _ (by unfold kpJ; omega)] at e16 e18
      have p19 : x19.toInt = plc c j2 := by
        rw [e19, e18, r16 21 _ (by unfold kpJ; omega), h.1.1.1 21 _ (by unfold kpJ; omega), h25.2]
        rfl
      have q17 : ix x17 = opl c j2 := ixn (by rw [e17, e16, r16 45 _ (by unfold kpJ; omega), h.1.1.1 45 _ (by unfold kpJ; omega)]; exact h25.1)
      refine pw_bd (x_gaskA (j := j2) h15 q17 k815 p19 e20) ?_
      rintro _ X21 ⟨h21, b21, r21⟩
      unfold f_judgeJoin_101
      rw [jgd_gd] at h21
      refine pw_neg c5 (fin X21 2 [3] _ h21 (KTo.pl h21.kj).2.2 (Or.inr ⟨nl, rfl, ?_⟩))
      rw [hS]
      rfl
theorem x_elemsA {p1 : Int32} (h : RJA N c X0 X g J) (hl : n ≤ J.1.length) (hm : ix p1 = m) (h27 : (X0.1 27 m).toInt = (n : Int)) (hu : us.length = n) (hS : S = us.reverse.map (fun w => ((some w.2, none, 0) : SE)) ++ S1) (hE : ECH X0 c (iv X0 24 m) us) : pw (f_judgeElements p1 X) (fun _ Y => ∃ k J1, jmix c g n S J k J1 ∧ RJA N c X0 Y g (jpush (4 :: k) J1)) := by
  have lo1 : (Int32.ofInt 1).toInt = 1 := by decide
  have l1 : (1 : Int32).toInt = 1 := by decide
  have l0 : (0 : Int32).toInt = 0 := by decide
  have h30 := h.1.2.1.2.2.1
  have b30 := (X.1 0 30).toInt_lt
  unfold f_judgeElements
  refine pw_eq (fun x1 e1 => pw_ck (fun _ => pw_eq (fun x2 e2 => pw_eq (fun x3 e3 => pw_eq (fun X4 e4 => pw_ck (fun _ => pw_eq (fun x5 e5 => ?_)))))))
  rw [hm, h.1.1.1 27 m (by unfold kpJ; omega)] at e2
  have v3 : x3.toInt = (J.1.length : Int) - n := by rw [e3, e1, e2, ti_sub (by rw [h30, h27]; omega) (by rw [h30, h27]; omega), h30, h27]
  have h4 : RJA N c X0 X4 g (jpop n J) := by rw [e4]; exact h.pop hl v3
  have b4 : RJB X X4 := by rw [e4]; exact RJB.wr h.kj h.ku (by unfold kpJ; omega) (by omega) (by omega)
  have v5 : x5.toInt = (n : Int) := by rw [e5, hm, h4.1.1.1 27 m (by unfold kpJ; omega)]; exact h27
  have d4 : (X4.1 0 30).toInt = ((J.1.length - n : Nat) : Int) := by rw [e4, wI_at, v3]; omega
  have el : ∀ i, i < n → KTo X4 (X4.1 58 (J.1.length - n + i)) (elJ J n i) := by
    intro i hi
    have := h.1.2.2.1 (n - 1 - i) (elJ J n i) (by
      unfold elJ
      rw [List.getD_eq_getElem?_getD, List.getElem?_eq_getElem (by omega)]
      rfl)
    rw [show J.1.length - 1 - (n - 1 - i) = J.1.length - n + i by omega] at this
    have := this.kx h.kj b4.2.2.2
    rw [e4, wI_ne _ _ _ _ _ _ (by omega), ← e4]
    exact this
  have fin : ∀ (W : St) (a : Int32) (k : List Int) (J1 : JS), RJA N c X0 W g J1 → KTo W a k → jmix c g n S J k J1 → pw (f_judgeElements_168 a W) (fun _ Y => ∃ k J1, jmix c g n S J k J1 ∧ RJA N c X0 Y g (jpush (4 :: k) J1)) := by
    intro W a k J1 hW hk hj
    unfold f_judgeElements_168
    refine pw_bd (pw_and (x_row2 hW.kj hW.ku hk) (hq_rowOf (o := 0) HQ.rf)) ?_
    rintro x8 X9 ⟨⟨k9, t8⟩, q9⟩
    exact pw_bd (x_pushA ⟨hW.1.ky k9, hW.2.keep q9 (by rw [hW.1.2.1.2.2.2]; exact (hW.1.ky k9).2.1.2.2.2)⟩ t8) (fun _ X10 h10 => pw_ret ⟨k, J1, hj, h10⟩)
  -- the guards are laid
  have lay : ∀ (f : Int32), (¬ f.toInt = 0 ↔ (0 < n ∧ ∀ q, q < n → elJ J n q = elJ J n 0)) → ∀ (M i : Nat) (a3 a4 : Int32) (W : St), a3.toInt = (i : Int) → i ≤ n → ECH X0 c a4.toInt (us.drop i) → RJA N c X0 W g (jgd (if f.toInt = 0 then jgF c g (((J.1.take n).zip (S.take n)).reverse.take i) else []) (jpop n J)) → RJB X4 W → (∀ k, W.1 58 k = X4.1 58 k) → W.1 0 30 = X4.1 0 30 → pw (f_judgeElements_91 M f a3 a4 W) (fun _ Y => ∃ k J1, jmix c g n S J k J1 ∧ RJA N c X0 Y g (jpush (4 :: k) J1)) := by
    intro f hf M
    induction M with
    | zero => exact fun _ _ _ _ _ _ _ _ _ _ _ => pw_none
    | succ M ih =>
      intro i a3 a4 W h3 hi hC hW bW w58 w30
      have e : f_judgeElements_91 (M + 1) = f_judgeElements_91_s (f_judgeElements_91 M) := by
        unfold f_judgeElements_91
        exact lp_succ _ _ _
      rw [e]
      unfold f_judgeElements_91_s
      by_cases hin : i < n
      · obtain ⟨w, hw, hz⟩ := zip_at (S1 := S1) hl hu hS hin
        have hd : us.drop i = w :: us.drop (i + 1) := by
          have := List.getElem?_eq_some_iff.mp hw
          rw [List.drop_eq_getElem_cons this.1, this.2]
        rw [hd] at hC
        obtain ⟨c1, c2, c3⟩ := hC
        have i4 : ix a4 = w.1 := ixn c1
        have step : ∀ V : St, RJA N c X0 V g (jgd (if f.toInt = 0 then jgF c g (((J.1.take n).zip (S.take n)).reverse.take (i + 1)) else []) (jpop n J)) → RJB X4 V → (∀ k, V.1 58 k = X4.1 58 k) → V.1 0 30 = X4.1 0 30 → pw (f_judgeElements_134 (f_judgeElements_91 M) f a3 a4 V) (fun _ Y => ∃ k J1, jmix c g n S J k J1 ∧ RJA N c X0 Y g (jpush (4 :: k) J1)) := by
          intro V hV bV v58 v30
          unfold f_judgeElements_134
          refine pw_let (pw_ck (fun _ => pw_eq (fun x14 e14 => ih (i + 1) _ x14 V (by rw [ti_add (by rw [h3, lo1]; omega) (by rw [h3, lo1]; omega), h3, lo1]; omega) (by omega) ?_ hV bV v58 v30)))
          rw [e14, i4, hV.1.1.1 28 _ (by unfold kpJ; omega)]
          exact c3
        refine pw_neg (by omega) (pw_ite (fun cf => ?_) (fun cf => ?_))
        · rw [if_pos cf] at hW
          refine pw_ck (fun _ => pw_eq (fun x15 e15 => pw_eq (fun x16 e16 => pw_eq (fun x17 e17 => pw_ck (fun _ => pw_eq (fun x18 e18 => pw_ck (fun _ => pw_eq (fun x19 e19 => pw_eq (fun x20 e20 => ?_)))))))))
          have i17 : ix x17 = J.1.length - n + i := by
            refine ixn ?_
            rw [e17, e16, w30, ti_add (by rw [d4, h3]; omega) (by rw [d4, h3]; omega), d4, h3]
            omega
          have k18 : KTo W x18 (elJ J n i) := by
            rw [e18, i17, w58]
            exact (el i hin).kx h4.kj bW.2.2.2
          have p19 : x19.toInt = plc c w.2 := by
            rw [e19, i4, hW.1.1.1 21 _ (by unfold kpJ; omega), c2.2]
            rfl
          refine pw_bd (x_gaskA (j := w.2) hW (ixn (by rw [e15, i4, hW.1.1.1 45 _ (by unfold kpJ; omega)]; exact c2.1)) k18 p19 e20) ?_
          rintro _ X21 ⟨h21, b21, r21⟩
          refine step X21 ?_ (bW.tr b21) (fun k => (r21 58 k (by omega)).trans (w58 k)) ((r21 0 30 (by omega)).trans w30)
          rw [if_pos cf, List.take_add_one, hz, jgF_app]
          rw [jgd_gd] at h21
          have e2 : ∀ u : List Int, jgF c g (some (u, ((some w.2, none, 0) : SE))).toList = (if u = [3] then [] else [(w.2, plc c w.2, g, (g : Int), u, [3])]) := fun u => by
            show _ ++ [] = _
            rw [List.append_nil]
            rfl
          rw [e2]
          exact h21
        · rw [if_neg cf] at hW
          exact step W (by rw [if_neg cf]; exact hW) bW w58 w30
      · have ei : i = n := by omega
        rw [ei, ← hu, List.drop_length] at hC
        have hC : a4.toInt < 0 := hC
        have tk : ((J.1.take n).zip (S.take n)).reverse.take i = ((J.1.take n).zip (S.take n)).reverse := List.take_of_length_le (by rw [List.length_reverse, List.length_zip, List.length_take]; omega)
        refine pw_pos hC (pw_ite (fun cf => ?_) (fun cf => ?_))
        · rw [if_pos cf, tk, ← jmg_rev] at hW
          by_cases n0 : n = 0
          · have bs := base_0 (J := J) n0
            have e0 : jmg c g ((J.1.take n).zip (S.take n)) = [] := by rw [n0]; rfl
            rw [e0, jgd_nil] at hW
            exact fin W 2 [3] _ hW (KTo.pl hW.kj).2.2 (Or.inl ⟨bs.1, bs.2.symm, rfl⟩)
          · refine fin W 2 [3] _ hW (KTo.pl hW.kj).2.2 (Or.inr ⟨fun z => ?_, rfl, rfl⟩)
            exact (hf.mpr ⟨by omega, (like_iff hl (by omega)).mp z⟩) cf
        · rw [if_neg cf, jgd_nil] at hW
          have hn := hf.mp cf
          refine pw_eq (fun x11 e11 => pw_ck (fun _ => pw_eq (fun x12 e12 => ?_)))
          have k12 : KTo W x12 (elJ J n 0) := by
            have i11 : ix x11 = J.1.length - n + 0 := ixn (by rw [e11, w30, d4]; omega)
            rw [e12, i11, w58]
            exact (el 0 hn.1).kx h4.kj bW.2.2.2
          exact fin W x12 _ _ hW k12 (Or.inl ⟨(like_iff hl hn.1).mpr hn.2, (base_n hl hn.1).symm, rfl⟩)
  -- are all alike
  have look : ∀ (M i : Nat) (f a3 : Int32), a3.toInt = (i : Int) → 1 ≤ i → (¬ f.toInt = 0 ↔ (0 < n ∧ ∀ q, q < i → q < n → elJ J n q = elJ J n 0)) → pw (f_judgeElements_32 M p1 f a3 X4) (fun _ Y => ∃ k J1, jmix c g n S J k J1 ∧ RJA N c X0 Y g (jpush (4 :: k) J1)) := by
    intro M
    induction M with
    | zero => exact fun _ _ _ _ _ _ => pw_none
    | succ M ih =>
      intro i f a3 h3 hi hf
      have e : f_judgeElements_32 (M + 1) = f_judgeElements_32_s (f_judgeElements_32 M) := by
        unfold f_judgeElements_32
        exact lp_succ _ _ _
      rw [e]
      unfold f_judgeElements_32_s
      refine pw_ck (fun _ => pw_eq (fun x6 e6 => ?_))
      rw [hm, h4.1.1.1 27 m (by unfold kpJ; omega)] at e6
      refine pw_ite (fun c6 => ?_) (fun c6 => ?_)
      · rw [e6, h27, h3] at c6
        refine pw_ck (fun _ => pw_eq (fun x7 e7 => ?_))
        rw [hm, h4.1.1.1 24 m (by unfold kpJ; omega)] at e7
        refine lay f (hf.trans ⟨fun ⟨a, b⟩ => ⟨a, fun q hq => b q (by omega) hq⟩, fun ⟨a, b⟩ => ⟨a, fun q _ hq => b q hq⟩⟩) BIG 0 0 x7 X4 (by decide) (Nat.zero_le _) (by rw [e7]; exact hE) ?_ (RJB.rf h4.kj h4.ku) (fun _ => rfl) rfl
        have z : (if f.toInt = 0 then jgF c g (((J.1.take n).zip (S.take n)).reverse.take 0) else []) = ([] : List JG) := by split <;> rfl
        rw [z, jgd_nil]
        exact h4
      · rw [e6, h27, h3] at c6
        have nx : (a3 + Int32.ofInt 1).toInt = ((i + 1 : Nat) : Int) := by rw [ti_add (by rw [h3, lo1]; omega) (by rw [h3, lo1]; omega), h3, lo1]; omega
        have go : ∀ b : Int32, (¬ b.toInt = 0 ↔ (0 < n ∧ ∀ q, q < i + 1 → q < n → elJ J n q = elJ J n 0)) → pw (f_judgeElements_74 (f_judgeElements_32 M) p1 a3 b X4) (fun _ Y => ∃ k J1, jmix c g n S J k J1 ∧ RJA N c X0 Y g (jpush (4 :: k) J1)) := by
          intro b hb
          unfold f_judgeElements_74
          exact pw_let (ih (i + 1) b _ nx (by omega) hb)
        have no : ¬ (0 < n ∧ ∀ q, q < i + 1 → q < n → elJ J n q = elJ J n 0) → pw (f_judgeElements_73 (f_judgeElements_32 M) p1 a3 X4) (fun _ Y => ∃ k J1, jmix c g n S J k J1 ∧ RJA N c X0 Y g (jpush (4 :: k) J1)) := by
          intro hb
          unfold f_judgeElements_73
          exact go 0 ⟨fun z => absurd l0 z, fun z => absurd z hb⟩
        refine pw_ite (fun cf => ?_) (fun cf => ?_)
        · refine no (fun z => ?_)
          exact hf.mpr ⟨z.1, fun q hq hn => z.2 q (by omega) hn⟩ cf
        · have hf1 := hf.mp cf
          refine pw_eq (fun x23 e23 => pw_eq (fun x24 e24 => pw_ck (fun _ => pw_eq (fun x25 e25 => pw_eq (fun x26 e26 => pw_ck (fun _ => pw_eq (fun x27 e27 => ?_)))))))
          have i24 : ix x24 = J.1.length - n + i := by
            refine ixn ?_
            rw [e24, e23, ti_add (by rw [d4, h3]; omega) (by rw [d4, h3]; omega), d4, h3]
            omega
          have i26 : ix x26 = J.1.length - n + 0 := ixn (by rw [e26, d4]; omega)
          have k25 : KTo X4 x25 (elJ J n i) := by rw [e25, i24]; exact el i (by omega)
          have k27 : KTo X4 x27 (elJ J n 0) := by rw [e27, i26]; exact el 0 (by omega)
          have ie := KTo.iff h4.ku k25 k27
          refine pw_ite (fun c25 => ?_) (fun c25 => ?_)
          · refine go 1 ⟨fun _ => ⟨hf1.1, fun q hq hn => ?_⟩, fun _ => by decide⟩
            by_cases z : q = i
            · rw [z]; exact ie.mp c25
            · exact hf1.2 q (by omega) hn
          · exact no (fun z => c25 (ie.mpr (z.2 i (by omega) (by omega))))
  refine pw_ite (fun c5 => ?_) (fun c5 => ?_)
  · rw [v5] at c5
    unfold f_judgeElements_29
    exact look BIG 1 0 1 (by decide) (Nat.le_refl _) ⟨fun z => absurd l0 z, fun z => by omega⟩
  · rw [v5] at c5
    unfold f_judgeElements_29
    refine look BIG 1 1 1 (by decide) (Nat.le_refl _) ⟨fun _ => ⟨by omega, fun q hq _ => ?_⟩, fun _ => by decide⟩
    rw [show q = 0 by omega]
end RJAS
