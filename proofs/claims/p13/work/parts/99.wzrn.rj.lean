/-! the reference's judge: what stands in its rows, its small steps -/
/-- rows and cells that judging a part leaves as they are -/
def kpJ (e k : Nat) : Prop := (e = 0 ∧ k < 100 ∧ ¬ (k = 4 ∨ k = 9 ∨ k = 10 ∨ k = 13 ∨ k = 15 ∨ k = 28 ∨ k = 29 ∨ k = 30)) ∨ (1 ≤ e ∧ e ≤ 3) ∨ (11 ≤ e ∧ e ≤ 28) ∨ (40 ≤ e ∧ e ≤ 42) ∨ (44 ≤ e ∧ e ≤ 51)
def RJB (X Y : St) : Prop := (∀ e k, kpJ e k → Y.1 e k = X.1 e k) ∧ KJq Y ∧ KU Y ∧ KXq X Y
/-- the number v tells the kind d -/
def KTo (X : St) (v : Int32) (d : List Int) : Prop := ∃ z : Nat, v.toInt = (z : Int) ∧ KD X z d
def RGd (X : St) (i : Nat) (G : JG) : Prop := (X.1 52 i).toInt = G.2.1 ∧ KTo X (X.1 53 i) G.2.2.2.2.1 ∧ KTo X (X.1 54 i) G.2.2.2.2.2 ∧ (X.1 55 i).toInt = (G.2.2.1 : Int) ∧ (X.1 56 i).toInt = G.2.2.2.1
/-- the judge at work in part g -/
def RJ (X0 X : St) (g : Nat) (J : JS) : Prop := RJB X0 X ∧ ((X.1 0 9).toInt = 0 ∧ (X.1 0 29).toInt = (g : Int) ∧ (X.1 0 30).toInt = (J.1.length : Int) ∧ (X.1 0 28).toInt = (J.2.2.2.length : Int)) ∧ (∀ (i : Nat) (d : List Int), J.1[i]? = some d → KTo X (X.1 58 (J.1.length - 1 - i)) d) ∧ (∀ (x : Nat) (d : List Int), J.2.1 x = some d → KTo X (X.1 59 x) d) ∧ ∀ (i : Nat) (G : JG), J.2.2.2[i]? = some G → RGd X i G
/-- kinds grow, nothing else of the judge's changes -/
def RKy (X Y : St) : Prop := RJB X Y ∧ ∀ e k, (52 ≤ e ∧ e ≤ 56) ∨ e = 58 ∨ e = 59 ∨ (e = 0 ∧ (k = 9 ∨ k = 28 ∨ k = 29 ∨ k = 30)) → Y.1 e k = X.1 e k
/-- after an order: it goes on, or there is a fault -/
def RJr (X0 Y : St) (g : Nat) : Sum JS (Int × Int) → Prop
  | Sum.inl J => RJ X0 Y g J
  | Sum.inr f => RJB X0 Y ∧ (Y.1 0 9).toInt = f.1 ∧ (Y.1 0 10).toInt = f.2 ∧ ¬ f.1 = 0
section RJS
variable {X0 X Y Z : St} {g j : Nat} {J : JS} {d d1 : List Int} {G : JG} {v : Int32}
theorem RJB.rf (h : KJq X) (u : KU X) : RJB X X := ⟨fun _ _ _ => rfl, h, u, KXq.rf⟩
theorem RJB.tr (h : RJB X Y) (h1 : RJB Y Z) : RJB X Z := ⟨fun e k q => (h1.1 e k q).trans (h.1 e k q), h1.2.1, h1.2.2.1, h.2.2.2.tr h1.2.2.2⟩
theorem KTo.kx (h : KTo X v d) (hJ : KJq X) (hx : KXq X Y) : KTo Y v d := by
  obtain ⟨z, h1, h2⟩ := h
  exact ⟨z, h1, KDk.oj hJ hx _ _ h2⟩
theorem KTo.eq {v : Int32} (h : KTo X v d) (e : Y.1 = X.1) : KTo Y v d := by
  obtain ⟨z, h1, h2⟩ := h
  obtain ⟨m, h2⟩ := h2
  refine ⟨z, h1, m, ?_⟩
  have : ∀ (m k : Nat) (d : List Int), KDf X m k d → KDf Y m k d := by
    intro m
    induction m with
    | zero => exact fun _ _ h => h
    | succ m ih =>
      intro k d h
      rw [KDf] at h ⊢
      rw [e]
      refine ⟨h.1, ?_⟩
      rcases h.2 with h | h | h | ⟨a, b, k1, d1, c, e, f⟩ | ⟨a, ds, b, c, k1, d1, e, f, g⟩
      · exact Or.inl h
      · exact Or.inr (Or.inl h)
      · exact Or.inr (Or.inr (Or.inl h))
      · exact Or.inr (Or.inr (Or.inr (Or.inl ⟨a, b, k1, d1, c, ih _ _ e, f⟩)))
      · exact Or.inr (Or.inr (Or.inr (Or.inr ⟨a, ds, b, fun i x hx => by
          obtain ⟨k2, c1, c2⟩ := c i x hx
          exact ⟨k2, c1, ih _ _ c2⟩, k1, d1, e, ih _ _ f, g⟩)))
  exact this m z d h2
theorem KTo.iff {v v1 : Int32} (hU : KU X) (h : KTo X v d) (h1 : KTo X v1 d1) : v.toInt = v1.toInt ↔ d = d1 := by
  obtain ⟨z, a, b⟩ := h
  obtain ⟨z1, a1, b1⟩ := h1
  rw [← KD.iff hU b b1]
  omega
theorem KTo.pl (h : KJq X) : KTo X (0 : Int32) [1] ∧ KTo X (1 : Int32) [2] ∧ KTo X (2 : Int32) [3] := ⟨⟨0, by decide, h.pl (i := 0) (by decide)⟩, ⟨1, by decide, h.pl (i := 1) (by decide)⟩, ⟨2, by decide, h.pl (i := 2) (by decide)⟩⟩
theorem RJ.kj (h : RJ X0 X g J) : KJq X := h.1.2.1
theorem RJ.ku (h : RJ X0 X g J) : KU X := h.1.2.2.1
theorem RGd.kx {i : Nat} (h : RGd X i G) (hJ : KJq X) (hx : KXq X Y) (e : ∀ e, 52 ≤ e ∧ e ≤ 56 → Y.1 e i = X.1 e i) : RGd Y i G := by
  obtain ⟨a, b, c, d, f⟩ := h
  exact ⟨by rw [e 52 (by omega)]; exact a, by rw [e 53 (by omega)]; exact b.kx hJ hx, by rw [e 54 (by omega)]; exact c.kx hJ hx, by rw [e 55 (by omega)]; exact d, by rw [e 56 (by omega)]; exact f⟩
theorem RJ.ky (h : RJ X0 X g J) (b : RKy X Y) : RJ X0 Y g J := by
  obtain ⟨h1, ⟨h9, h29, h30, h28⟩, h3, h4, h5⟩ := h
  obtain ⟨b1, b2⟩ := b
  have hJ := h1.2.1
  have hx := b1.2.2.2
  refine ⟨h1.tr b1, ⟨by rw [b2 0 9 (by omega)]; exact h9, by rw [b2 0 29 (by omega)]; exact h29, by rw [b2 0 30 (by omega)]; exact h30, by rw [b2 0 28 (by omega)]; exact h28⟩, fun i d hd => by rw [b2 58 _ (by omega)]; exact (h3 i d hd).kx hJ hx, fun x d hd => by rw [b2 59 _ (by omega)]; exact (h4 x d hd).kx hJ hx, fun i G hG => (h5 i G hG).kx hJ hx (fun e he => b2 e i (by omega))⟩
theorem RKy.kt {v : Int32} (h : RKy X Y) (hJ : KJq X) (k : KTo X v d) : KTo Y v d := k.kx hJ h.1.2.2.2
theorem RKy.rf (h : KJq X) (u : KU X) : RKy X X := ⟨RJB.rf h u, fun _ _ _ => rfl⟩
theorem RKy.tr (h : RKy X Y) (h1 : RKy Y Z) : RKy X Z := ⟨h.1.tr h1.1, fun e k q => (h1.2 e k q).trans (h.2 e k q)⟩
theorem RKy.fit (hJ : KJq X) (hU : KU X) (h : FRfit X Y) : RKy X Y := ⟨⟨fun e k q => h.1 e k (by unfold kpJ at q; omega) (by unfold kpJ at q; omega), hJ.cg (fun e k q => h.1 e k (by omega) (by omega)), (KGq.of (fun e k q => h.1 e k (by omega) (by omega))).2 hU, KXq.of (fun e k q => h.1 e k (by omega) (by omega))⟩, fun e k q => h.1 e k (by omega) (by omega)⟩
theorem fq19 {e k : Nat} (h : kpJ e k ∨ (52 ≤ e ∧ e ≤ 56) ∨ e = 58 ∨ e = 59 ∨ (e = 0 ∧ (k = 9 ∨ k = 28 ∨ k = 29 ∨ k = 30))) : cq e k ∉ Lw19 := by
  unfold kpJ at h
  unfold cq Lw19
  by_cases h0 : e = 0
  · rw [if_pos h0]
    intro m
    simp only [List.mem_cons, List.not_mem_nil, or_false] at m
    omega
  · rw [if_neg h0]
    intro m
    simp only [List.mem_cons, List.not_mem_nil, or_false] at m
    omega
theorem x_row2 {p1 : Int32} (h : KJq X) (u : KU X) (hp : KTo X p1 d) : pw (f_rowOf p1 X) (fun r Y => RKy X Y ∧ KTo Y r (4 :: d)) := by
  obtain ⟨z, z1, z2⟩ := hp
  refine pw_mono (pw_and (x_rowk h.1) fw_rowOf) ?_
  rintro r Y ⟨⟨⟨a1, a2, a3⟩, a4, a5⟩, b⟩
  have := ixc a4
  exact ⟨⟨⟨fun e k q => b.1 e k (fq19 (Or.inl q)), h.kx a1 a2, a3 u, a2⟩, fun e k q => b.1 e k (fq19 (Or.inr q))⟩, ix r, by omega, a5 z d z1 z2⟩
/-- on the judge's stack -/
theorem RJ.top (h : RJ X0 X g J) {v x2 : Int32} (hl : 1 ≤ J.1.length) (hv : v.toInt = (X.1 0 30).toInt - 1) (h2 : x2 = X.1 58 (ix v)) : KTo X x2 (hdK J.1) ∧ ix v = J.1.length - 1 := by
  have h30 := h.2.1.2.2.1
  have iv : ix v = J.1.length - 1 := ixn (by omega)
  refine ⟨?_, iv⟩
  obtain ⟨K, r⟩ := J
  cases K with
  | nil => exact absurd hl (by show ¬ 1 ≤ 0; decide)
  | cons d K =>
    have := h.2.2.1 0 d rfl
    rw [h2, iv]
    exact this
theorem x_push {p1 : Int32} (h : RJ X0 X g J) (hp : KTo X p1 d) : pw (f_push p1 X) (fun _ Y => RJ X0 Y g (jpush d J)) := by
  have l1 : (1 : Int32).toInt = 1 := by decide
  obtain ⟨h1, ⟨h9, h29, h30, h28⟩, h3, h4, h5⟩ := h
  unfold f_push
  refine pw_eq (fun x1 e1 => pw_ck (fun hc => pw_eq (fun X2 e2 => pw_eq (fun x3 e3 => pw_eq (fun x4 e4 => pw_eq (fun X5 e5 => ?_))))))
  have i1 : ix x1 = J.1.length := ixn (by rw [e1]; exact h30)
  rw [i1] at e2
  have c3 : x3 = X.1 0 30 := by rw [e3, e2, wI_ne _ _ _ _ _ _ (by omega)]
  have v4 : x4.toInt = (J.1.length : Int) + 1 := by
    have := hc.2
    rw [e1, h30] at this
    rw [e4, c3, ti_add (by rw [h30, l1]; omega) (by rw [h30, l1]; omega), h30, l1]
  have r5 : ∀ e k, ¬ e = 58 → ¬ (e = 0 ∧ k = 30) → X5.1 e k = X.1 e k := fun e k q1 q2 => by rw [e5, wI_ne _ _ _ _ _ _ (by omega), e2, wI_ne _ _ _ _ _ _ (by omega)]
  have fin : ∀ Y : St, (∀ e k, ¬ e = 57 → Y.1 e k = X5.1 e k) → RJ X0 Y g (jpush d J) := by
    intro Y hY
    have rY : ∀ e k, ¬ e = 57 → ¬ e = 58 → ¬ (e = 0 ∧ k = 30) → Y.1 e k = X.1 e k := fun e k q1 q2 q3 => (hY e k q1).trans (r5 e k q2 q3)
    have kx : KXq X Y := KXq.of (fun e k q => rY e k (by omega) (by omega) (by omega))
    have hJ := h1.2.1
    refine ⟨h1.tr ⟨fun e k q => rY e k (by unfold kpJ at q; omega) (by unfold kpJ at q; omega) (by unfold kpJ at q; omega), hJ.cg (fun e k q => rY e k (by omega) (by omega) (by omega)), (KGq.of (fun e k q => rY e k (by omega) (by omega) (by omega))).2 h1.2.2.1, kx⟩, ⟨by rw [rY 0 9 (by omega) (by omega) (by omega)]; exact h9, by rw [rY 0 29 (by omega) (by omega) (by omega)]; exact h29, ?_, by rw [rY 0 28 (by omega) (by omega) (by omega)]; exact h28⟩, fun i d1 hd => ?_, fun x d1 hd => by rw [rY 59 _ (by omega) (by omega) (by omega)]; exact (h4 x d1 hd).kx hJ kx, fun i G hG => (h5 i G hG).kx hJ kx (fun e he => rY e i (by omega) (by omega) (by omega))⟩
    · rw [hY 0 30 (by omega), e5, wI_at]
      exact v4
    · show KTo Y (Y.1 58 (J.1.length + 1 - 1 - i)) d1
      have hi := (List.getElem?_eq_some_iff.mp hd).1
      have hi : i < J.1.length + 1 := hi
      cases i with
      | zero =>
        have hd : d = d1 := Option.some.inj hd
        rw [show J.1.length + 1 - 1 - 0 = J.1.length by omega, hY 58 _ (by omega), e5, wI_ne _ _ _ _ _ _ (by omega), e2, wI_at, ← hd]
        exact hp.kx hJ kx
      | succ i =>
        have := (h3 i d1 hd).kx hJ kx
        rw [show J.1.length + 1 - 1 - (i + 1) = J.1.length - 1 - i by omega, hY 58 _ (by omega), e5, wI_ne _ _ _ _ _ _ (by omega), e2, wI_ne _ _ _ _ _ _ (by omega)]
        exact this
  have f54 : ∀ b0 b1 : Int32, pw (f_push_54 b0 b1 X5) (fun _ Y => RJ X0 Y g (jpush d J)) := fun b0 b1 => by
    unfold f_push_54
    exact pw_ck (fun _ => pw_eq (fun X9 e9 => pw_ret (fin X9 (fun e k q => by rw [e9, wI_ne _ _ _ _ _ _ (by omega)]))))
  have f49 : ∀ b0 : Int32, pw (f_push_49 b0 X5) (fun _ Y => RJ X0 Y g (jpush d J)) := fun b0 => by
    unfold f_push_49
    exact f54 _ _
  refine pw_let (pw_let (pw_ck (fun _ => pw_let (pw_ite (fun _ => pw_ck (fun _ => pw_let (pw_ite (fun _ => f54 _ _) (fun _ => f49 _)))) (fun _ => f49 _)))))
/-- a guard is laid where the kinds differ -/
theorem x_guards {p1 p2 p3 p4 p5 : Int32} {t : Int} (h : RJ X0 X g J) (h2 : KTo X p2 d) (h3 : KTo X p3 d1) (h5 : p5.toInt = t) : pw (f_guards p1 p2 p3 p4 p5 X) (fun _ Y => ((d = d1 ∧ Y = X) ∨ (¬ d = d1 ∧ RJ X0 Y g (jgd [(j, p4.toInt, g, t, d, d1)] J))) ∧ RJB X Y ∧ ∀ e k, e = 58 ∨ e = 59 ∨ (e = 0 ∧ (k = 9 ∨ k = 29 ∨ k = 30)) → Y.1 e k = X.1 e k) := by
  have l1 : (1 : Int32).toInt = 1 := by decide
  unfold f_guards
  refine pw_ite (fun c => ?_) (fun c => ?_)
  · exact pw_ret ⟨Or.inl ⟨(KTo.iff h.ku h2 h3).mp c, rfl⟩, RJB.rf h.kj h.ku, fun _ _ _ => rfl⟩
  have ne : ¬ d = d1 := fun z => c ((KTo.iff h.ku h2 h3).mpr z)
  obtain ⟨h1, ⟨h9, h29, h30, h28⟩, h6, h7, h8⟩ := h
  have hJ := h1.2.1
  refine pw_eq (fun x1 e1 => pw_ck (fun hc => pw_eq (fun X2 e2 => pw_eq (fun x3 e3 => pw_ck (fun _ => pw_eq (fun X4 e4 => pw_eq (fun x5 e5 => pw_ck (fun _ => pw_eq (fun X6 e6 => ?_)))))))))
  have hc := hc.2
  rw [e1, h28] at hc
  have i1 : ix x1 = J.2.2.2.length := ixn (by rw [e1]; exact h28)
  rw [i1] at e2
  have r2 : ∀ e k, ¬ e = 52 → X2.1 e k = X.1 e k := fun e k q => by rw [e2, wI_ne _ _ _ _ _ _ (by omega)]
  have i3 : ix x3 = J.2.2.2.length := ixn (by rw [e3, r2 0 28 (by omega)]; exact h28)
  rw [i3] at e4
  have r4 : ∀ e k, ¬ e = 53 → X4.1 e k = X2.1 e k := fun e k q => by rw [e4, wI_ne _ _ _ _ _ _ (by omega)]
  have i5 : ix x5 = J.2.2.2.length := ixn (by rw [e5, r4 0 28 (by omega), r2 0 28 (by omega)]; exact h28)
  rw [i5] at e6
  have r6 : ∀ e k, ¬ e = 54 → X6.1 e k = X4.1 e k := fun e k q => by rw [e6, wI_ne _ _ _ _ _ _ (by omega)]
  refine pw_eq (fun x7 e7 => pw_eq (fun x8 e8 => pw_ck (fun _ => pw_eq (fun X9 e9 => pw_eq (fun x10 e10 => pw_ck (fun _ => pw_eq (fun X11 e11 => pw_eq (fun x12 e12 => pw_ck (fun _ => pw_eq (fun X13 e13 => ?_))))))))))
  have i7 : ix x7 = J.2.2.2.length := ixn (by rw [e7, r6 0 28 (by omega), r4 0 28 (by omega), r2 0 28 (by omega)]; exact h28)
  have v8 : x8 = X.1 0 29 := by rw [e8, r6 0 29 (by omega), r4 0 29 (by omega), r2 0 29 (by omega)]
  rw [i7] at e9
  have r9 : ∀ e k, ¬ e = 55 → X9.1 e k = X6.1 e k := fun e k q => by rw [e9, wI_ne _ _ _ _ _ _ (by omega)]
  have i10 : ix x10 = J.2.2.2.length := ixn (by rw [e10, r9 0 28 (by omega), r6 0 28 (by omega), r4 0 28 (by omega), r2 0 28 (by omega)]; exact h28)
  rw [i10] at e11
  have r11 : ∀ e k, ¬ e = 56 → X11.1 e k = X9.1 e k := fun e k q => by rw [e11, wI_ne _ _ _ _ _ _ (by omega)]
  have r13 : ∀ e k, ¬ e = 43 → X13.1 e k = X11.1 e k := fun e k q => by rw [e13, wI_ne _ _ _ _ _ _ (by omega)]
  refine pw_eq (fun x14 e14 => pw_eq (fun x15 e15 => pw_eq (fun X16 e16 => pw_ret ?_)))
  have rc : ∀ e k, ¬ (52 ≤ e ∧ e ≤ 56) → ¬ e = 43 → X13.1 e k = X.1 e k := fun e k q1 q2 => by rw [r13 e k q2, r11 e k (by omega), r9 e k (by omega), r6 e k (by omega), r4 e k (by omega), r2 e k (by omega)]
  have v15 : x15.toInt = (J.2.2.2.length : Int) + 1 := by
    have c14 : x14 = X.1 0 28 := by rw [e14, rc 0 28 (by omega) (by omega)]
    rw [e15, c14, ti_add (by rw [h28, l1]; omega) (by rw [h28, l1]; omega), h28, l1]
  have rY : ∀ e k, ¬ (52 ≤ e ∧ e ≤ 56) → ¬ e = 43 → ¬ (e = 0 ∧ k = 28) → X16.1 e k = X.1 e k := fun e k q1 q2 q3 => by rw [e16, wI_ne _ _ _ _ _ _ (by omega)]; exact rc e k q1 q2
  have kx : KXq X X16 := KXq.of (fun e k q => rY e k (by omega) (by omega) (by omega))
  have B : RJB X X16 := ⟨fun e k q => rY e k (by unfold kpJ at q; omega) (by unfold kpJ at q; omega) (by unfold kpJ at q; omega), hJ.cg (fun e k q => rY e k (by omega) (by omega) (by omega)), (KGq.of (fun e k q => rY e k (by omega) (by omega) (by omega))).2 h1.2.2.1, kx⟩
  refine ⟨Or.inr ⟨ne, h1.tr B, ⟨by rw [rY 0 9 (by omega) (by omega) (by omega)]; exact h9, by rw [rY 0 29 (by omega) (by omega) (by omega)]; exact h29, by rw [rY 0 30 (by omega) (by omega) (by omega)]; exact h30, ?_⟩, fun i d2 hd => by rw [rY 58 _ (by omega) (by omega) (by omega)]; exact (h6 i d2 hd).kx hJ kx, fun x d2 hd => by rw [rY 59 _ (by omega) (by omega) (by omega)]; exact (h7 x d2 hd).kx hJ kx, fun i G hG => ?_⟩, B, fun e k q => rY e k (by omega) (by omega) (by omega)⟩
  · rw [e16, wI_at, v15]
    show _ = ((J.2.2.2 ++ [_]).length : Int)
    rw [List.length_append, List.length_singleton]
    omega
  · have hG : (J.2.2.2 ++ [(j, p4.toInt, g, t, d, d1)])[i]? = some G := hG
    by_cases hi : i < J.2.2.2.length
    · rw [List.getElem?_append_left hi] at hG
      refine (h8 i G hG).kx hJ kx (fun e he => ?_)
      rw [e16, wI_ne _ _ _ _ _ _ (by omega), r13 e i (by omega)]
      have a56 : X11.1 e i = X9.1 e i := by rw [e11, wI_ne _ _ _ _ _ _ (by omega)]
      have a55 : X9.1 e i = X6.1 e i := by rw [e9, wI_ne _ _ _ _ _ _ (by omega)]
      have a54 : X6.1 e i = X4.1 e i := by rw [e6, wI_ne _ _ _ _ _ _ (by omega)]
      have a53 : X4.1 e i = X2.1 e i := by rw [e4, wI_ne _ _ _ _ _ _ (by omega)]
      have a52 : X2.1 e i = X.1 e i := by rw [e2, wI_ne _ _ _ _ _ _ (by omega)]
      rw [a56, a55, a54, a53, a52]
    · have hi2 : i = J.2.2.2.length := by
        have := (List.getElem?_eq_some_iff.mp hG).1
        rw [List.length_append, List.length_singleton] at this
        omega
      rw [hi2, List.getElem?_append_right (Nat.le_refl _), Nat.sub_self] at hG
      have hG : (j, p4.toInt, g, t, d, d1) = G := Option.some.inj hG
      rw [hi2, ← hG]
      have q : ∀ e, 52 ≤ e ∧ e ≤ 56 → X16.1 e J.2.2.2.length = X11.1 e J.2.2.2.length := fun e he => by rw [e16, wI_ne _ _ _ _ _ _ (by omega), r13 e _ (by omega)]
      refine ⟨?_, ?_, ?_, ?_, ?_⟩
      · rw [q 52 (by omega), r11 52 _ (by omega), r9 52 _ (by omega), r6 52 _ (by omega), r4 52 _ (by omega), e2, wI_at]
      · rw [q 53 (by omega), r11 53 _ (by omega), r9 53 _ (by omega), r6 53 _ (by omega), e4, wI_at]
        exact h2.kx hJ kx
      · rw [q 54 (by omega), r11 54 _ (by omega), r9 54 _ (by omega), e6, wI_at]
        exact h3.kx hJ kx
      · rw [q 55 (by omega), r11 55 _ (by omega), e9, wI_at, v8]
        exact h29
      · rw [q 56 (by omega), e11, wI_at]
        exact h5
end RJS
