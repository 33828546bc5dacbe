/-! the reference's judgeOne, order by order -/
/-- it goes on as the judge does -/
def JQ (ch : Tx) (ps : List Pt) (told : Nat → Bool) (c : List Ins) (g j : Nat) (S : List SE) (a : Ins) (J : JS) (X0 Y : St) : Prop := ∃ r, JST ch ps told c g j S a J r ∧ RJr X0 Y g r
section ONES
variable {X0 X Y Z : St} {g j D s n m k : Nat} {J J1 : JS} {d w : List Int} {c : List Ins} {S : List SE} {a : Ins} {ch : Tx} {ps : List Pt} {told : Nat → Bool} {p1 p2 : Int32} {b : Bool}
theorem dv8 {x : Int32} {i : Int} (h : x.toInt = 8 * i) (h0 : 0 ≤ i) : (x / (8 : Int32)).toInt = i := by
  rw [Int32.toInt_div_of_ne_right _ _ (by decide), h, show (8 : Int32).toInt = 8 by decide, Int.tdiv_eq_ediv_of_nonneg (by omega)]
  omega
theorem RJ.an (h : RJ X0 X g J) : RJ X0 X g (jany w J) := h
theorem RJ.po {x x1 v : Int32} {J : JS} (h : RJ X0 X g J) (m : Nat) (hm : m ≤ J.1.length) (e : x = X.1 0 30) (e1 : x1 = x - v) (hv : v.toInt = (m : Int)) : RJ X0 (wI X 0 30 x1) g (jpop m J) := by
  have h30 := h.2.1.2.2.1
  have b30 := (X.1 0 30).toInt_lt
  refine h.pop hm ?_
  rw [e1, e, ti_sub (by rw [h30, hv]; omega) (by rw [h30, hv]; omega), h30, hv]
/-- what stands below the top -/
theorem RJ.low {J : JS} (h : RJ X0 X g J) {v x2 : Int32} {i : Nat} (hO : J.1[i]? = some d) (hv : v.toInt = (J.1.length : Int) - 1 - i) (h2 : x2 = X.1 58 (ix v)) : KTo X x2 d := by
  have hi := (List.getElem?_eq_some_iff.mp hO).1
  have iv : ix v = J.1.length - 1 - i := ixn (by omega)
  rw [h2, iv]
  exact h.2.2.1 i d hO
theorem RJr.w57 {r : Sum JS (Int × Int)} {v : Int32} (h : RJr X0 X g r) : RJr X0 (wI X 57 k v) g r := by
  have rr : ∀ e q, ¬ e = 57 → (wI X 57 k v).1 e q = X.1 e q := fun e q z => wI_ne _ _ _ _ _ _ (by omega)
  cases r with
  | inl J =>
    have h : RJ X0 X g J := h
    have b : RJB X (wI X 57 k v) := RJB.wr h.kj h.ku (by unfold kpJ; omega) (by omega) (by omega)
    exact h.ky ⟨b, fun e q z => rr e q (by omega)⟩
  | inr f =>
    obtain ⟨h1, h2, h3, h4⟩ := h
    have b : RJB X (wI X 57 k v) := RJB.wr h1.2.1 h1.2.2.1 (by unfold kpJ; omega) (by omega) (by omega)
    exact ⟨h1.tr b, by rw [rr 0 9 (by omega)]; exact h2, by rw [rr 0 10 (by omega)]; exact h3, h4⟩
/-- made of -/
theorem KTo.cp {v : Int32} {i : Nat} {u : List Int} (hJ : KJq X) (h : KTo X v d) (hu : (cps d)[i]? = some u) : 0 ≤ (X.1 6 (ix v)).toInt ∧ (X.1 6 (ix v)).toInt + (X.1 5 (ix v)).toInt ≤ 20000 ∧ (X.1 5 (ix v)).toInt = ((cps d).length : Int) ∧ KTo X (X.1 9 (ix (X.1 6 (ix v)) + i)) u := by
  obtain ⟨z, z1, z2⟩ := h
  have low := hJ.1.2 z z2.srt.2
  have top := hJ.1.1.2.2
  have c := z2.cps
  rw [ixn z1]
  obtain ⟨k, k1, k2⟩ := c.2 i u hu
  exact ⟨low.1, by omega, c.1, k, k1, k2⟩
theorem x_elem {p : Int32} (hJ : KJq X) (h : KTo X p d) (hs : sot d = 3) : pw (f_elementOf p X) (fun r Y => Y = X ∧ KTo X r (gvs d)) := by
  have cp := h.cp hJ (i := 0) (u := gvs d) (by rw [cps_3 hs]; rfl)
  unfold f_elementOf
  refine pw_ck (fun _ => pw_eq (fun x1 e1 => pw_ck (fun _ => pw_eq (fun x2 e2 => pw_ret ⟨rfl, ?_⟩))))
  rw [e2, e1]
  exact cp.2.2.2
theorem x_res {p : Int32} (hJ : KJq X) (h : KTo X p d) (hs : sot d = 4) : pw (f_resultOf p X) (fun r Y => Y = X ∧ KTo X r (gvs d)) := by
  have l1 : (1 : Int32).toInt = 1 := by decide
  have ll : (cps d).length = tkn d + 1 := by rw [cps_4 hs, List.length_append, List.length_map, List.length_range]; rfl
  have cp := h.cp hJ (i := tkn d) (u := gvs d) (by rw [cps_4 hs, List.getElem?_append_right (by rw [List.length_map, List.length_range]; omega), List.length_map, List.length_range, Nat.sub_self]; rfl)
  obtain ⟨c1, c2, c3, c4⟩ := cp
  have c5 := ixc c1
  unfold f_resultOf
  refine pw_ck (fun _ => pw_eq (fun x1 e1 => pw_ck (fun _ => pw_eq (fun x2 e2 => pw_eq (fun x3 e3 => pw_eq (fun x4 e4 => pw_ck (fun _ => pw_eq (fun x5 e5 => pw_ret ⟨rfl, ?_⟩))))))))
  have v3 : x3.toInt = (X.1 6 (ix p)).toInt + (X.1 5 (ix p)).toInt := by rw [e3, e1, e2, ti_add (by omega) (by omega)]
  have i4 : ix x4 = ix (X.1 6 (ix p)) + tkn d := by
    refine ixn ?_
    rw [e4, ti_sub (by rw [v3, l1]; omega) (by rw [v3, l1]; omega), v3, l1]
    omega
  rw [e5, i4]
  exact c4
theorem x_prm {p q : Int32} {i : Nat} (hJ : KJq X) (h : KTo X p d) (hs : sot d = 4) (hq : q.toInt = (i : Int)) (hi : i < tkn d) : pw (f_paramOf p q X) (fun r Y => Y = X ∧ KTo X r (prm d i)) := by
  have ll : (cps d).length = tkn d + 1 := by rw [cps_4 hs, List.length_append, List.length_map, List.length_range]; rfl
  have cp := h.cp hJ (i := i) (u := prm d i) (by rw [cps_4 hs, List.getElem?_append_left (by rw [List.length_map, List.length_range]; exact hi), List.getElem?_map, List.getElem?_range hi]; rfl)
  obtain ⟨c1, c2, c3, c4⟩ := cp
  have c5 := ixc c1
  unfold f_paramOf
  refine pw_ck (fun _ => pw_eq (fun x1 e1 => pw_eq (fun x2 e2 => pw_ck (fun _ => pw_eq (fun x3 e3 => pw_ret ⟨rfl, ?_⟩)))))
  have i2 : ix x2 = ix (X.1 6 (ix p)) + i := by
    refine ixn ?_
    rw [e2, e1, ti_add (by rw [hq]; omega) (by rw [hq]; omega), hq]
    omega
  rw [e3, i2]
  exact c4
theorem x_tol {p : Int32} : pw (f_toldKind p X) (fun _ Y => Y = X) := by
  unfold f_toldKind
  exact pw_eq (fun _ _ => pw_ck (fun _ => pw_eq (fun _ _ => pw_ite (fun _ => pw_ret rfl) (fun _ => pw_ret rfl))))
theorem x_told {p : Int32} {kd : List Int} (h : RJ X0 X g J) (hP : PJq X0 ps told) (hg : g < ps.length) (hp : KTo X p kd) : pw (f_toldKind p X) (fun r Y => Y = X ∧ KTo X r (askd told g kd)) := by
  obtain ⟨pt, hpt⟩ : ∃ pt, ps[g]? = some pt := ⟨_, List.getElem?_eq_getElem hg⟩
  have ht := (hP g pt hpt).2.2.2
  have h29 := h.2.1.2.1
  unfold f_toldKind askd
  refine pw_eq (fun x1 e1 => pw_ck (fun _ => pw_eq (fun x2 e2 => ?_)))
  have i1 : ix x1 = g := ixn (by rw [e1]; exact h29)
  rw [i1, h.1.1 19 g (by unfold kpJ; omega)] at e2
  refine pw_ite (fun c => ?_) (fun c => ?_)
  · rw [e2] at c
    rw [if_neg (ht.mp c)]
    exact pw_ret ⟨rfl, (KTo.pl h.kj).2.2⟩
  · rw [e2] at c
    rw [if_pos (Classical.byContradiction (fun y => c (ht.mpr y)))]
    exact pw_ret ⟨rfl, hp⟩
/-- a name is bound -/
theorem RJ.bind {v : Int32} {x : Nat} (h : RJ X0 X g (jpop 1 J)) (hv : KTo X v d) : RJ X0 (wI X 59 x v) g (J.1.tail, (fun k => if k = x then some d else J.2.1 k), J.2.2) := by
  obtain ⟨h1, ⟨h9, h29, h30, h28⟩, h3, h4, h5⟩ := h
  have hJ := h1.2.1
  have b : RJB X (wI X 59 x v) := RJB.wr hJ h1.2.2.1 (by unfold kpJ; omega) (by omega) (by omega)
  have kx := b.2.2.2
  have r : ∀ e k, ¬ (e = 59 ∧ k = x) → (wI X 59 x v).1 e k = X.1 e k := fun e k z => wI_ne _ _ _ _ _ _ (by omega)
  have dt : J.1.drop 1 = J.1.tail := List.drop_one
  have h30 : (X.1 0 30).toInt = ((J.1.drop 1).length : Int) := h30
  have h3 : ∀ (i : Nat) (d : List Int), (J.1.drop 1)[i]? = some d → KTo X (X.1 58 ((J.1.drop 1).length - 1 - i)) d := h3
  rw [dt] at h30 h3
  refine ⟨h1.tr b, ⟨by rw [r 0 9 (by omega)]; exact h9, by rw [r 0 29 (by omega)]; exact h29, by rw [r 0 30 (by omega)]; exact h30, by rw [r 0 28 (by omega)]; exact h28⟩, fun i d hd => ?_, fun k e he => ?_, fun i G hG => (h5 i G hG).kx hJ kx (fun e he => r e i (by omega))⟩
  · rw [r 58 _ (by omega)]
    exact (h3 i d hd).kx hJ kx
  · have he : (if k = x then some d else J.2.1 k) = some e := he
    by_cases z : k = x
    · rw [if_pos z] at he
      rw [z, wI_at, ← Option.some.inj he]
      exact hv.kx hJ kx
    · rw [if_neg z] at he
      rw [r 59 _ (by omega)]
      exact (h4 k e he).kx hJ kx

theorem xo_0 (h : RJ X0 X g J) (h1 : ix p1 = s) (h2 : p2.toInt = (n : Int)) (hA : OA X0 s 0 n) : pw (f_judgeOne p1 p2 X) (fun _ Y => Y = X) := by
  have i2 : ix p2 = n := ixn h2
  unfold f_judgeOne
  refine pw_ck (fun _ => pw_eq (fun y1 ye => ?_))
  have yv : y1.toInt = 0 := by
    have := hA.1
    rw [ye, h1, h.1.1 40 s (by unfold kpJ; omega)]
    omega
  refine pw_neg (by omega) (pw_neg (by omega) (pw_neg (by omega) (pw_neg (by omega) (pw_neg (by omega) (pw_neg (by omega) (pw_neg (by omega) (pw_neg (by omega) (pw_neg (by omega) (pw_neg (by omega) (pw_neg (by omega) (pw_neg (by omega) (pw_bd ?_ (fun _ _ h66 => pw_ret h66)))))))))))))
  unfold f_judgeMore
  refine pw_ck (fun _ => pw_eq (fun z1 ze => ?_))
  have zv : z1.toInt = 0 := by
    have := hA.1
    rw [ze, h1, h.1.1 40 s (by unfold kpJ; omega)]
    omega
  refine pw_neg (by omega) (pw_neg (by omega) (pw_neg (by omega) (pw_neg (by omega) (pw_neg (by omega) (pw_neg (by omega) (pw_neg (by omega) (pw_neg (by omega) (pw_neg (by omega) (pw_neg (by omega) (pw_neg (by omega) (pw_neg (by omega) (pw_neg (by omega) (pw_neg (by omega) (pw_neg (by omega) (pw_neg (by omega) (pw_neg (by omega) (?_)))))))))))))))))
  exact pw_ret rfl
theorem xo_1 (h : RJ X0 X g J) (h1 : ix p1 = s) (h2 : p2.toInt = (n : Int)) (hA : OA X0 s 1 n) (e : a.1 = 1) : pw (f_judgeOne p1 p2 X) (fun _ Y => JQ ch ps told c g j S a J X0 Y) := by
  have i2 : ix p2 = n := ixn h2
  unfold f_judgeOne
  refine pw_ck (fun _ => pw_eq (fun y1 ye => ?_))
  have yv : y1.toInt = 1 := by
    have := hA.1
    rw [ye, h1, h.1.1 40 s (by unfold kpJ; omega)]
    omega
  refine pw_pos (by omega) ?_
  exact pw_bd (x_push h (KTo.pl h.kj).1) (fun _ X3 h3 => pw_ret ⟨_, JST.i1 e rfl, h3⟩)
theorem xo_2 (h : RJ X0 X g J) (h1 : ix p1 = s) (h2 : p2.toInt = (n : Int)) (hA : OA X0 s 2 n) (e : a.1 = 2) : pw (f_judgeOne p1 p2 X) (fun _ Y => JQ ch ps told c g j S a J X0 Y) := by
  have i2 : ix p2 = n := ixn h2
  unfold f_judgeOne
  refine pw_ck (fun _ => pw_eq (fun y1 ye => ?_))
  have yv : y1.toInt = 2 := by
    have := hA.1
    rw [ye, h1, h.1.1 40 s (by unfold kpJ; omega)]
    omega
  refine pw_neg (by omega) (pw_pos (by omega) ?_)
  exact pw_bd (x_push h (KTo.pl h.kj).2.1) (fun _ X3 h3 => pw_ret ⟨_, JST.i2 e rfl, h3⟩)
theorem xo_3 (h : RJ X0 X g J) (h1 : ix p1 = s) (h2 : p2.toInt = (n : Int)) (hA : OA X0 s 3 n) (e : a.1 = 3) (hO : JOK D S J) (g26 : iv X0 26 n = a.2.1) (hD : 0 ≤ a.2.1 ∧ a.2.1 < (D : Int)) : pw (f_judgeOne p1 p2 X) (fun _ Y => JQ ch ps told c g j S a J X0 Y) := by
  have i2 : ix p2 = n := ixn h2
  unfold f_judgeOne
  refine pw_ck (fun _ => pw_eq (fun y1 ye => ?_))
  have yv : y1.toInt = 3 := by
    have := hA.1
    rw [ye, h1, h.1.1 40 s (by unfold kpJ; omega)]
    omega
  refine pw_neg (by omega) (pw_neg (by omega) (pw_pos (by omega) ?_))
  refine pw_ck (fun _ => pw_eq (fun x7 e7 => pw_ck (fun _ => pw_eq (fun x8 e8 => ?_))))
  have v7 : x7.toInt = a.2.1 := by rw [e7, i2, h.1.1 26 n (by unfold kpJ; omega)]; exact g26
  have i7 : ix x7 = a.2.1.toNat := ixn (by omega)
  obtain ⟨d, hd⟩ := hO.2.2.2.1 a.2.1.toNat (by omega)
  rw [i7] at e8
  have k8 : KTo X x8 d := by rw [e8]; exact h.2.2.2.1 _ d hd
  exact pw_bd (x_push h k8) (fun _ X9 h9 => pw_ret ⟨_, JST.i3 e ⟨d, hd, rfl⟩, h9⟩)
theorem xo_4 (h : RJ X0 X g J) (h1 : ix p1 = s) (h2 : p2.toInt = (n : Int)) (hA : OA X0 s 4 n) (e : a.1 = 4) (g26 : iv X0 26 n = nrp ch ps a.2.2.1) (hP : PJq X0 ps told) (hJ0 : KJq X0) (hp : 0 < ps.length ∧ ps.length ≤ 41) : pw (f_judgeOne p1 p2 X) (fun _ Y => JQ ch ps told c g j S a J X0 Y) := by
  have i2 : ix p2 = n := ixn h2
  unfold f_judgeOne
  refine pw_ck (fun _ => pw_eq (fun y1 ye => ?_))
  have yv : y1.toInt = 4 := by
    have := hA.1
    rw [ye, h1, h.1.1 40 s (by unfold kpJ; omega)]
    omega
  refine pw_neg (by omega) (pw_neg (by omega) (pw_neg (by omega) (pw_pos (by omega) ?_)))
  refine pw_ck (fun _ => pw_eq (fun x11 e11 => ?_))
  have g0 : 0 ≤ nrp ch ps a.2.2.1 := by unfold nrp; exact Int.natCast_nonneg _
  have v11 : x11.toInt = (((nrp ch ps a.2.2.1).toNat : Nat) : Int) := by
    rw [e11, i2, h.1.1 26 n (by unfold kpJ; omega)]
    have g26 : (X0.1 26 n).toInt = nrp ch ps a.2.2.1 := g26
    omega
  have hlt := nrp_lt (ch := ch) hp.1 a.2.2.1
  obtain ⟨p, hpt⟩ : ∃ p, ps[(nrp ch ps a.2.2.1).toNat]? = some p := ⟨_, List.getElem?_eq_getElem hlt⟩
  refine pw_bd (x_funOf (hP.jb hJ0 h.1) h.kj h.ku v11 hpt (by omega)) ?_
  rintro x12 X13 ⟨k13, t12⟩
  exact pw_bd (x_push (h.ky k13) t12) (fun _ X14 h14 => pw_ret ⟨_, JST.i4 e rfl, h14⟩)
theorem xo_5b (h : RJ X0 X g J) (h1 : ix p1 = s) (h2 : p2.toInt = (n : Int)) (hA : OA X0 s 12 n) (g25 : iv X0 25 n = -1) : pw (f_judgeOne p1 p2 X) (fun _ Y => Y = X) := by
  have i2 : ix p2 = n := ixn h2
  unfold f_judgeOne
  refine pw_ck (fun _ => pw_eq (fun y1 ye => ?_))
  have yv : y1.toInt = 12 := by
    have := hA.1
    rw [ye, h1, h.1.1 40 s (by unfold kpJ; omega)]
    omega
  refine pw_neg (by omega) (pw_neg (by omega) (pw_neg (by omega) (pw_neg (by omega) (pw_neg (by omega) (pw_neg (by omega) (pw_neg (by omega) (pw_neg (by omega) (pw_neg (by omega) (pw_neg (by omega) (pw_neg (by omega) (pw_neg (by omega) (pw_bd ?_ (fun _ _ h66 => pw_ret h66)))))))))))))
  unfold f_judgeMore
  refine pw_ck (fun _ => pw_eq (fun z1 ze => ?_))
  have zv : z1.toInt = 12 := by
    have := hA.1
    rw [ze, h1, h.1.1 40 s (by unfold kpJ; omega)]
    omega
  refine pw_pos (by omega) ?_
  refine pw_ck (fun _ => pw_eq (fun x3 e3 => pw_pos ?_ (pw_ret rfl)))
  rw [e3, i2, h.1.1 25 n (by unfold kpJ; omega)]
  have g25 : (X0.1 25 n).toInt = -1 := g25
  omega
theorem xo_5 (h : RJ X0 X g J) (h1 : ix p1 = s) (h2 : p2.toInt = (n : Int)) (hA : OA X0 s 13 n) (e : a.1 = 5) (hO : JOK D S J) (hN : NQ a S) (g26 : iv X0 26 n = a.2.1) (h0 : 0 ≤ a.2.1) : pw (f_judgeOne p1 p2 X) (fun _ Y => JQ ch ps told c g j S a J X0 Y) := by
  have i2 : ix p2 = n := ixn h2
  have l1 : (1 : Int32).toInt = 1 := by decide
  have h30 := h.2.1.2.2.1
  have b30 := (X.1 0 30).toInt_lt
  have nl := ned_5 e hN
  have hl := hO.1
  unfold f_judgeOne
  refine pw_ck (fun _ => pw_eq (fun y1 ye => ?_))
  have yv : y1.toInt = 13 := by
    have := hA.1
    rw [ye, h1, h.1.1 40 s (by unfold kpJ; omega)]
    omega
  refine pw_neg (by omega) (pw_neg (by omega) (pw_neg (by omega) (pw_neg (by omega) (pw_neg (by omega) (pw_neg (by omega) (pw_neg (by omega) (pw_neg (by omega) (pw_neg (by omega) (pw_neg (by omega) (pw_neg (by omega) (pw_neg (by omega) (pw_bd ?_ (fun _ _ h66 => pw_ret h66)))))))))))))
  unfold f_judgeMore
  refine pw_ck (fun _ => pw_eq (fun z1 ze => ?_))
  have zv : z1.toInt = 13 := by
    have := hA.1
    rw [ze, h1, h.1.1 40 s (by unfold kpJ; omega)]
    omega
  refine pw_neg (by omega) (pw_pos (by omega) ?_)
  refine pw_eq (fun x20 e20 => pw_eq (fun x21 e21 => pw_eq (fun X22 e22 => pw_ck (fun _ => pw_eq (fun x23 e23 => pw_eq (fun x24 e24 => pw_ck (fun _ => pw_eq (fun x25 e25 => pw_ck (fun _ => pw_eq (fun X26 e26 => pw_ret ?_))))))))))
  have hp := h.po 1 (by omega) e20 e21 l1
  rw [← e22] at hp
  have r22 : ∀ e k, ¬ (e = 0 ∧ k = 30) → X22.1 e k = X.1 e k := fun e k q => by rw [e22, wI_ne _ _ _ _ _ _ (by omega)]
  have b22 : RJB X X22 := by rw [e22]; exact RJB.wr h.kj h.ku (by unfold kpJ; omega) (by omega) (by omega)
  have v21 : x21.toInt = (X.1 0 30).toInt - 1 := by rw [e21, e20, ti_sub (by rw [h30, l1]; omega) (by rw [h30, l1]; omega), l1]
  have c24 : x24 = x21 := by rw [e24, e22, wI_at]
  obtain ⟨kt, _⟩ := h.top (by omega) v21 (x2 := X.1 58 (ix x21)) rfl
  have k25 : KTo X22 x25 (hdK J.1) := by rw [e25, c24, r22 58 _ (by omega)]; exact kt.kx h.kj b22.2.2.2
  have i23 : ix x23 = a.2.1.toNat := by
    refine ixn ?_
    rw [e23, i2, r22 26 _ (by omega), h.1.1 26 n (by unfold kpJ; omega)]
    have g26 : (X0.1 26 n).toInt = a.2.1 := g26
    omega
  refine ⟨_, JST.i5 e rfl, ?_⟩
  rw [e26, i23]
  exact hp.bind k25
theorem xo_6 (h : RJ X0 X g J) (h1 : ix p1 = s) (h2 : p2.toInt = (n : Int)) (hA : OA X0 s 15 n) (e : a.1 = 6) (hO : JOK D S J) (hN : NQ a S) : pw (f_judgeOne p1 p2 X) (fun _ Y => JQ ch ps told c g j S a J X0 Y) := by
  have i2 : ix p2 = n := ixn h2
  have l1 : (1 : Int32).toInt = 1 := by decide
  have nl := ned_6 e hN
  have hl := hO.1
  unfold f_judgeOne
  refine pw_ck (fun _ => pw_eq (fun y1 ye => ?_))
  have yv : y1.toInt = 15 := by
    have := hA.1
    rw [ye, h1, h.1.1 40 s (by unfold kpJ; omega)]
    omega
  refine pw_neg (by omega) (pw_neg (by omega) (pw_neg (by omega) (pw_neg (by omega) (pw_neg (by omega) (pw_neg (by omega) (pw_neg (by omega) (pw_neg (by omega) (pw_neg (by omega) (pw_neg (by omega) (pw_neg (by omega) (pw_neg (by omega) (pw_bd ?_ (fun _ _ h66 => pw_ret h66)))))))))))))
  unfold f_judgeMore
  refine pw_ck (fun _ => pw_eq (fun z1 ze => ?_))
  have zv : z1.toInt = 15 := by
    have := hA.1
    rw [ze, h1, h.1.1 40 s (by unfold kpJ; omega)]
    omega
  refine pw_neg (by omega) (pw_neg (by omega) (pw_pos (by omega) ?_))
  refine pw_eq (fun x1 e1 => pw_eq (fun x2 e2 => pw_eq (fun X3 e3 => pw_ret ⟨_, JST.i6 e rfl, ?_⟩)))
  rw [e3]
  exact h.po 1 (by omega) e1 e2 l1
theorem xo_9 (h : RJ X0 X g J) (h1 : ix p1 = s) (h2 : p2.toInt = (n : Int)) (hA : OA X0 s 29 n) (e : a.1 = 9) (hO : JOK D S J) (hN : NQ a S) : pw (f_judgeOne p1 p2 X) (fun _ Y => JQ ch ps told c g j S a J X0 Y) := by
  have i2 : ix p2 = n := ixn h2
  have l1 : (1 : Int32).toInt = 1 := by decide
  have nl := ned_9 e hN
  have hl := hO.1
  unfold f_judgeOne
  refine pw_ck (fun _ => pw_eq (fun y1 ye => ?_))
  have yv : y1.toInt = 29 := by
    have := hA.1
    rw [ye, h1, h.1.1 40 s (by unfold kpJ; omega)]
    omega
  refine pw_neg (by omega) (pw_neg (by omega) (pw_neg (by omega) (pw_neg (by omega) (pw_neg (by omega) (pw_neg (by omega) (pw_neg (by omega) (pw_neg (by omega) (pw_neg (by omega) (pw_neg (by omega) (pw_neg (by omega) (pw_neg (by omega) (pw_bd ?_ (fun _ _ h66 => pw_ret h66)))))))))))))
  unfold f_judgeMore
  refine pw_ck (fun _ => pw_eq (fun z1 ze => ?_))
  have zv : z1.toInt = 29 := by
    have := hA.1
    rw [ze, h1, h.1.1 40 s (by unfold kpJ; omega)]
    omega
  refine pw_neg (by omega) (pw_neg (by omega) (pw_neg (by omega) (pw_neg (by omega) (pw_neg (by omega) (pw_neg (by omega) (pw_neg (by omega) (pw_neg (by omega) (pw_neg (by omega) (pw_neg (by omega) (pw_neg (by omega) (pw_neg (by omega) (pw_neg (by omega) (pw_neg (by omega) (pw_neg (by omega) (pw_pos (by omega) ?_)))))))))))))))
  refine pw_eq (fun x1 e1 => pw_eq (fun x2 e2 => pw_eq (fun X3 e3 => pw_ret ⟨_, JST.i9 e rfl, ?_⟩)))
  rw [e3]
  exact h.po 1 (by omega) e1 e2 l1
theorem xo_17 (h : RJ X0 X g J) (h1 : ix p1 = s) (h2 : p2.toInt = (n : Int)) (hA : OA X0 s 31 n) (e : a.1 = 17) (hO : JOK D S J) (hN : NQ a S) : pw (f_judgeOne p1 p2 X) (fun _ Y => JQ ch ps told c g j S a J X0 Y) := by
  have i2 : ix p2 = n := ixn h2
  have l1 : (1 : Int32).toInt = 1 := by decide
  have nl := ned_17 e hN
  have hl := hO.1
  unfold f_judgeOne
  refine pw_ck (fun _ => pw_eq (fun y1 ye => ?_))
  have yv : y1.toInt = 31 := by
    have := hA.1
    rw [ye, h1, h.1.1 40 s (by unfold kpJ; omega)]
    omega
  refine pw_neg (by omega) (pw_neg (by omega) (pw_neg (by omega) (pw_neg (by omega) (pw_neg (by omega) (pw_neg (by omega) (pw_neg (by omega) (pw_neg (by omega) (pw_neg (by omega) (pw_neg (by omega) (pw_neg (by omega) (pw_neg (by omega) (pw_bd ?_ (fun _ _ h66 => pw_ret h66)))))))))))))
  unfold f_judgeMore
  refine pw_ck (fun _ => pw_eq (fun z1 ze => ?_))
  have zv : z1.toInt = 31 := by
    have := hA.1
    rw [ze, h1, h.1.1 40 s (by unfold kpJ; omega)]
    omega
  refine pw_neg (by omega) (pw_neg (by omega) (pw_neg (by omega) (pw_neg (by omega) (pw_neg (by omega) (pw_neg (by omega) (pw_neg (by omega) (pw_neg (by omega) (pw_neg (by omega) (pw_neg (by omega) (pw_neg (by omega) (pw_neg (by omega) (pw_neg (by omega) (pw_neg (by omega) (pw_neg (by omega) (pw_neg (by omega) (pw_pos (by omega) ?_))))))))))))))))
  refine pw_eq (fun x1 e1 => pw_eq (fun x2 e2 => pw_eq (fun X3 e3 => pw_ret ⟨_, JST.i17 e rfl, ?_⟩)))
  rw [e3]
  exact h.po 1 (by omega) e1 e2 l1
theorem xo_7 (h : RJ X0 X g J) (h1 : ix p1 = s) (h2 : p2.toInt = (n : Int)) (hA : OA X0 s 16 n) (e : a.1 = 7) : pw (f_judgeOne p1 p2 X) (fun _ Y => JQ ch ps told c g j S a J X0 Y) := by
  have i2 : ix p2 = n := ixn h2
  unfold f_judgeOne
  refine pw_ck (fun _ => pw_eq (fun y1 ye => ?_))
  have yv : y1.toInt = 16 := by
    have := hA.1
    rw [ye, h1, h.1.1 40 s (by unfold kpJ; omega)]
    omega
  refine pw_neg (by omega) (pw_neg (by omega) (pw_neg (by omega) (pw_neg (by omega) (pw_neg (by omega) (pw_neg (by omega) (pw_neg (by omega) (pw_neg (by omega) (pw_neg (by omega) (pw_neg (by omega) (pw_neg (by omega) (pw_neg (by omega) (pw_bd ?_ (fun _ _ h66 => pw_ret h66)))))))))))))
  unfold f_judgeMore
  refine pw_ck (fun _ => pw_eq (fun z1 ze => ?_))
  have zv : z1.toInt = 16 := by
    have := hA.1
    rw [ze, h1, h.1.1 40 s (by unfold kpJ; omega)]
    omega
  refine pw_neg (by omega) (pw_neg (by omega) (pw_neg (by omega) (pw_neg (by omega) (pw_neg (by omega) (pw_neg (by omega) (pw_neg (by omega) (pw_neg (by omega) (pw_neg (by omega) (pw_neg (by omega) (pw_neg (by omega) (pw_neg (by omega) (pw_neg (by omega) (pw_neg (by omega) (pw_neg (by omega) (pw_neg (by omega) (pw_neg (by omega) (?_)))))))))))))))))
  exact pw_ret ⟨_, JST.i7 e rfl, h⟩
theorem xo_36 (h : RJ X0 X g J) (h1 : ix p1 = s) (h2 : p2.toInt = (n : Int)) (hA : OA X0 s 14 n) (e : a.1 = 36) : pw (f_judgeOne p1 p2 X) (fun _ Y => JQ ch ps told c g j S a J X0 Y) := by
  have i2 : ix p2 = n := ixn h2
  unfold f_judgeOne
  refine pw_ck (fun _ => pw_eq (fun y1 ye => ?_))
  have yv : y1.toInt = 14 := by
    have := hA.1
    rw [ye, h1, h.1.1 40 s (by unfold kpJ; omega)]
    omega
  refine pw_neg (by omega) (pw_neg (by omega) (pw_neg (by omega) (pw_neg (by omega) (pw_neg (by omega) (pw_neg (by omega) (pw_neg (by omega) (pw_neg (by omega) (pw_neg (by omega) (pw_neg (by omega) (pw_neg (by omega) (pw_neg (by omega) (pw_bd ?_ (fun _ _ h66 => pw_ret h66)))))))))))))
  unfold f_judgeMore
  refine pw_ck (fun _ => pw_eq (fun z1 ze => ?_))
  have zv : z1.toInt = 14 := by
    have := hA.1
    rw [ze, h1, h.1.1 40 s (by unfold kpJ; omega)]
    omega
  refine pw_neg (by omega) (pw_neg (by omega) (pw_neg (by omega) (pw_neg (by omega) (pw_neg (by omega) (pw_neg (by omega) (pw_neg (by omega) (pw_neg (by omega) (pw_neg (by omega) (pw_neg (by omega) (pw_neg (by omega) (pw_neg (by omega) (pw_neg (by omega) (pw_neg (by omega) (pw_neg (by omega) (pw_neg (by omega) (pw_neg (by omega) (?_)))))))))))))))))
  exact pw_ret ⟨_, JST.i36 e rfl, h⟩
theorem xo_8 (h : RJ X0 X g J) (h1 : ix p1 = s) (h2 : p2.toInt = (n : Int)) (hA : OA X0 s 17 n) (e : a.1 = 8) (hO : JOK D S J) (hN : NQ a S) (hS : ∃ (S1 : List SE) (j1 j2 : Nat), S = (some j2, none, 0) :: (some j1, none, 0) :: S1 ∧ GAT X0 c (ix (X0.1 24 n)) j1 ∧ GAT X0 c (ix (X0.1 25 n)) j2) : pw (f_judgeOne p1 p2 X) (fun _ Y => JQ ch ps told c g j S a J X0 Y) := by
  have i2 : ix p2 = n := ixn h2
  have nl := ned_8 e hN
  have hl := hO.1
  unfold f_judgeOne
  refine pw_ck (fun _ => pw_eq (fun y1 ye => ?_))
  have yv : y1.toInt = 17 := by
    have := hA.1
    rw [ye, h1, h.1.1 40 s (by unfold kpJ; omega)]
    omega
  refine pw_neg (by omega) (pw_neg (by omega) (pw_neg (by omega) (pw_neg (by omega) (pw_neg (by omega) (pw_neg (by omega) (pw_neg (by omega) (pw_neg (by omega) (pw_neg (by omega) (pw_neg (by omega) (pw_neg (by omega) (pw_neg (by omega) (pw_bd ?_ (fun _ _ h66 => pw_ret h66)))))))))))))
  unfold f_judgeMore
  refine pw_ck (fun _ => pw_eq (fun z1 ze => ?_))
  have zv : z1.toInt = 17 := by
    have := hA.1
    rw [ze, h1, h.1.1 40 s (by unfold kpJ; omega)]
    omega
  refine pw_neg (by omega) (pw_neg (by omega) (pw_neg (by omega) (pw_pos (by omega) ?_)))
  obtain ⟨S1, j1, j2, hS, q1, q2⟩ := hS
  refine pw_bd (x_join (c := c) h (by omega) i2 hS (by rw [h.1.1 24 n (by unfold kpJ; omega)]; exact q1) (by rw [h.1.1 25 n (by unfold kpJ; omega)]; exact q2)) ?_
  rintro _ X32 ⟨k, J1, hm, hR⟩
  exact pw_ret ⟨_, JST.i8 e ⟨k, J1, hm, rfl⟩, hR⟩
theorem xo_10 (h : RJ X0 X g J) (h1 : ix p1 = s) (h2 : p2.toInt = (n : Int)) (hA : OA X0 s 18 n) (e : a.1 = 10) (hO : JOK D S J) (hN : NQ a S) (g27 : iv X0 27 n = a.2.1) (hS : ∃ (S1 : List SE) (us : List (Nat × Nat)), a.2.1 = (us.length : Int) ∧ S = us.reverse.map (fun w => ((some w.2, none, 0) : SE)) ++ S1 ∧ ECH X0 c (iv X0 24 n) us) : pw (f_judgeOne p1 p2 X) (fun _ Y => JQ ch ps told c g j S a J X0 Y) := by
  have i2 : ix p2 = n := ixn h2
  have nl := ned_10 e hN
  have hl := hO.1
  unfold f_judgeOne
  refine pw_ck (fun _ => pw_eq (fun y1 ye => ?_))
  have yv : y1.toInt = 18 := by
    have := hA.1
    rw [ye, h1, h.1.1 40 s (by unfold kpJ; omega)]
    omega
  refine pw_neg (by omega) (pw_neg (by omega) (pw_neg (by omega) (pw_neg (by omega) (pw_neg (by omega) (pw_neg (by omega) (pw_neg (by omega) (pw_neg (by omega) (pw_neg (by omega) (pw_neg (by omega) (pw_neg (by omega) (pw_neg (by omega) (pw_bd ?_ (fun _ _ h66 => pw_ret h66)))))))))))))
  unfold f_judgeMore
  refine pw_ck (fun _ => pw_eq (fun z1 ze => ?_))
  have zv : z1.toInt = 18 := by
    have := hA.1
    rw [ze, h1, h.1.1 40 s (by unfold kpJ; omega)]
    omega
  refine pw_neg (by omega) (pw_neg (by omega) (pw_neg (by omega) (pw_neg (by omega) (pw_pos (by omega) ?_))))
  obtain ⟨S1, us, ul, hS, q1⟩ := hS
  have nu : a.2.1.toNat = us.length := by omega
  refine pw_bd (x_elems (n := a.2.1.toNat) (c := c) h (by omega) i2 (by have g27 : (X0.1 27 n).toInt = a.2.1 := g27; omega) nu.symm hS q1) ?_
  rintro _ X34 ⟨k, J1, hm, hR⟩
  exact pw_ret ⟨_, JST.i10 e ⟨k, J1, hm, rfl⟩, hR⟩
theorem xo_11 (h : RJ X0 X g J) (h1 : ix p1 = s) (h2 : p2.toInt = (n : Int)) (hA : OA X0 s 19 n) (e : a.1 = 11) (hO : JOK D S J) (hN : NQ a S) : pw (f_judgeOne p1 p2 X) (fun _ Y => JQ ch ps told c g j S a J X0 Y) := by
  have i2 : ix p2 = n := ixn h2
  have l1 : (1 : Int32).toInt = 1 := by decide
  have l2 : (2 : Int32).toInt = 2 := by decide
  have h30 := h.2.1.2.2.1
  have b30 := (X.1 0 30).toInt_lt
  have nl := ned_11 e hN
  have hl := hO.1
  unfold f_judgeOne
  refine pw_ck (fun _ => pw_eq (fun y1 ye => ?_))
  have yv : y1.toInt = 19 := by
    have := hA.1
    rw [ye, h1, h.1.1 40 s (by unfold kpJ; omega)]
    omega
  refine pw_neg (by omega) (pw_neg (by omega) (pw_neg (by omega) (pw_neg (by omega) (pw_neg (by omega) (pw_neg (by omega) (pw_neg (by omega) (pw_neg (by omega) (pw_neg (by omega) (pw_neg (by omega) (pw_neg (by omega) (pw_neg (by omega) (pw_bd ?_ (fun _ _ h66 => pw_ret h66)))))))))))))
  unfold f_judgeMore
  refine pw_ck (fun _ => pw_eq (fun z1 ze => ?_))
  have zv : z1.toInt = 19 := by
    have := hA.1
    rw [ze, h1, h.1.1 40 s (by unfold kpJ; omega)]
    omega
  refine pw_neg (by omega) (pw_neg (by omega) (pw_neg (by omega) (pw_neg (by omega) (pw_neg (by omega) (pw_pos (by omega) ?_)))))
  refine pw_eq (fun x36 e36 => pw_eq (fun x37 e37 => pw_eq (fun X38 e38 => pw_eq (fun x39 e39 => pw_eq (fun x40 e40 => pw_ck (fun _ => pw_eq (fun x41 e41 => ?_)))))))
  have hp := h.po 2 (by omega) e36 e37 l2
  rw [← e38] at hp
  have r38 : ∀ e k, ¬ (e = 0 ∧ k = 30) → X38.1 e k = X.1 e k := fun e k q => by rw [e38, wI_ne _ _ _ _ _ _ (by omega)]
  have b38 : RJB X X38 := by rw [e38]; exact RJB.wr h.kj h.ku (by unfold kpJ; omega) (by omega) (by omega)
  have v39 : x39.toInt = (J.1.length : Int) - 2 := by rw [e39, e38, wI_at, e37, e36, ti_sub (by rw [h30, l2]; omega) (by rw [h30, l2]; omega), h30, l2]
  have v40 : x40.toInt = (X.1 0 30).toInt - 1 := by rw [e40, ti_add (by rw [v39, l1]; omega) (by rw [v39, l1]; omega), v39, l1]; omega
  obtain ⟨kt, _⟩ := h.top (by omega) v40 (x2 := X.1 58 (ix x40)) rfl
  have k41 : KTo X38 x41 (hdK J.1) := by rw [e41, r38 58 _ (by omega)]; exact kt.kx h.kj b38.2.2.2
  refine pw_bd (x_row2 hp.kj hp.ku k41) ?_
  rintro x42 X43 ⟨k43, t42⟩
  exact pw_bd (x_push (hp.ky k43) t42) (fun _ X44 h44 => pw_ret ⟨_, JST.i11 e rfl, h44⟩)
theorem xo_12 (h : RJ X0 X g J) (h1 : ix p1 = s) (h2 : p2.toInt = (n : Int)) (hA : OA X0 s 20 n) (e : a.1 = 12) (hO : JOK D S J) (hN : NQ a S) : pw (f_judgeOne p1 p2 X) (fun _ Y => JQ ch ps told c g j S a J X0 Y) := by
  have i2 : ix p2 = n := ixn h2
  have l1 : (1 : Int32).toInt = 1 := by decide
  have nl := ned_12 e hN
  have hl := hO.1
  unfold f_judgeOne
  refine pw_ck (fun _ => pw_eq (fun y1 ye => ?_))
  have yv : y1.toInt = 20 := by
    have := hA.1
    rw [ye, h1, h.1.1 40 s (by unfold kpJ; omega)]
    omega
  refine pw_neg (by omega) (pw_neg (by omega) (pw_neg (by omega) (pw_neg (by omega) (pw_neg (by omega) (pw_neg (by omega) (pw_neg (by omega) (pw_neg (by omega) (pw_neg (by omega) (pw_neg (by omega) (pw_neg (by omega) (pw_neg (by omega) (pw_bd ?_ (fun _ _ h66 => pw_ret h66)))))))))))))
  unfold f_judgeMore
  refine pw_ck (fun _ => pw_eq (fun z1 ze => ?_))
  have zv : z1.toInt = 20 := by
    have := hA.1
    rw [ze, h1, h.1.1 40 s (by unfold kpJ; omega)]
    omega
  refine pw_neg (by omega) (pw_neg (by omega) (pw_neg (by omega) (pw_neg (by omega) (pw_neg (by omega) (pw_neg (by omega) (pw_pos (by omega) ?_))))))
  refine pw_eq (fun x1 e1 => pw_eq (fun x2 e2 => pw_eq (fun X3 e3 => ?_)))
  have hp := h.po 1 (by omega) e1 e2 l1
  rw [← e3] at hp
  exact pw_bd (x_push hp (KTo.pl hp.kj).1) (fun _ X4 h4 => pw_ret ⟨_, JST.i12 e rfl, h4⟩)
theorem xo_13 (h : RJ X0 X g J) (h1 : ix p1 = s) (h2 : p2.toInt = (n : Int)) (hA : OA X0 s 21 n) (e : a.1 = 13) (hO : JOK D S J) (hN : NQ a S) : pw (f_judgeOne p1 p2 X) (fun _ Y => JQ ch ps told c g j S a J X0 Y) := by
  have i2 : ix p2 = n := ixn h2
  have l1 : (1 : Int32).toInt = 1 := by decide
  have nl := ned_13 e hN
  have hl := hO.1
  unfold f_judgeOne
  refine pw_ck (fun _ => pw_eq (fun y1 ye => ?_))
  have yv : y1.toInt = 21 := by
    have := hA.1
    rw [ye, h1, h.1.1 40 s (by unfold kpJ; omega)]
    omega
  refine pw_neg (by omega) (pw_neg (by omega) (pw_neg (by omega) (pw_neg (by omega) (pw_neg (by omega) (pw_neg (by omega) (pw_neg (by omega) (pw_neg (by omega) (pw_neg (by omega) (pw_neg (by omega) (pw_neg (by omega) (pw_neg (by omega) (pw_bd ?_ (fun _ _ h66 => pw_ret h66)))))))))))))
  unfold f_judgeMore
  refine pw_ck (fun _ => pw_eq (fun z1 ze => ?_))
  have zv : z1.toInt = 21 := by
    have := hA.1
    rw [ze, h1, h.1.1 40 s (by unfold kpJ; omega)]
    omega
  refine pw_neg (by omega) (pw_neg (by omega) (pw_neg (by omega) (pw_neg (by omega) (pw_neg (by omega) (pw_neg (by omega) (pw_neg (by omega) (pw_pos (by omega) ?_)))))))
  refine pw_eq (fun x1 e1 => pw_eq (fun x2 e2 => pw_eq (fun X3 e3 => ?_)))
  have hp := h.po 1 (by omega) e1 e2 l1
  rw [← e3] at hp
  exact pw_bd (x_push hp (KTo.pl hp.kj).1) (fun _ X4 h4 => pw_ret ⟨_, JST.i13 e rfl, h4⟩)
theorem xo_18 (h : RJ X0 X g J) (h1 : ix p1 = s) (h2 : p2.toInt = (n : Int)) (hA : OA X0 s 22 n) (e : a.1 = 18) (hO : JOK D S J) (hN : NQ a S) : pw (f_judgeOne p1 p2 X) (fun _ Y => JQ ch ps told c g j S a J X0 Y) := by
  have i2 : ix p2 = n := ixn h2
  have l1 : (1 : Int32).toInt = 1 := by decide
  have nl := ned_18 e hN
  have hl := hO.1
  unfold f_judgeOne
  refine pw_ck (fun _ => pw_eq (fun y1 ye => ?_))
  have yv : y1.toInt = 22 := by
    have := hA.1
    rw [ye, h1, h.1.1 40 s (by unfold kpJ; omega)]
    omega
  refine pw_neg (by omega) (pw_neg (by omega) (pw_neg (by omega) (pw_neg (by omega) (pw_neg (by omega) (pw_neg (by omega) (pw_neg (by omega) (pw_neg (by omega) (pw_neg (by omega) (pw_neg (by omega) (pw_neg (by omega) (pw_neg (by omega) (pw_bd ?_ (fun _ _ h66 => pw_ret h66)))))))))))))
  unfold f_judgeMore
  refine pw_ck (fun _ => pw_eq (fun z1 ze => ?_))
  have zv : z1.toInt = 22 := by
    have := hA.1
    rw [ze, h1, h.1.1 40 s (by unfold kpJ; omega)]
    omega
  refine pw_neg (by omega) (pw_neg (by omega) (pw_neg (by omega) (pw_neg (by omega) (pw_neg (by omega) (pw_neg (by omega) (pw_neg (by omega) (pw_neg (by omega) (pw_pos (by omega) ?_))))))))
  refine pw_eq (fun x1 e1 => pw_eq (fun x2 e2 => pw_eq (fun X3 e3 => ?_)))
  have hp := h.po 1 (by omega) e1 e2 l1
  rw [← e3] at hp
  exact pw_bd (x_push hp (KTo.pl hp.kj).1) (fun _ X4 h4 => pw_ret ⟨_, JST.i18 e rfl, h4⟩)
theorem xo_19 (h : RJ X0 X g J) (h1 : ix p1 = s) (h2 : p2.toInt = (n : Int)) (hA : OA X0 s 23 n) (e : a.1 = 19) (hO : JOK D S J) (hN : NQ a S) : pw (f_judgeOne p1 p2 X) (fun _ Y => JQ ch ps told c g j S a J X0 Y) := by
  have i2 : ix p2 = n := ixn h2
  have l1 : (1 : Int32).toInt = 1 := by decide
  have nl := ned_19 e hN
  have hl := hO.1
  unfold f_judgeOne
  refine pw_ck (fun _ => pw_eq (fun y1 ye => ?_))
  have yv : y1.toInt = 23 := by
    have := hA.1
    rw [ye, h1, h.1.1 40 s (by unfold kpJ; omega)]
    omega
  refine pw_neg (by omega) (pw_neg (by omega) (pw_neg (by omega) (pw_neg (by omega) (pw_neg (by omega) (pw_neg (by omega) (pw_neg (by omega) (pw_neg (by omega) (pw_neg (by omega) (pw_neg (by omega) (pw_neg (by omega) (pw_neg (by omega) (pw_bd ?_ (fun _ _ h66 => pw_ret h66)))))))))))))
  unfold f_judgeMore
  refine pw_ck (fun _ => pw_eq (fun z1 ze => ?_))
  have zv : z1.toInt = 23 := by
    have := hA.1
    rw [ze, h1, h.1.1 40 s (by unfold kpJ; omega)]
    omega
  refine pw_neg (by omega) (pw_neg (by omega) (pw_neg (by omega) (pw_neg (by omega) (pw_neg (by omega) (pw_neg (by omega) (pw_neg (by omega) (pw_neg (by omega) (pw_neg (by omega) (pw_pos (by omega) ?_)))))))))
  refine pw_eq (fun x1 e1 => pw_eq (fun x2 e2 => pw_eq (fun X3 e3 => ?_)))
  have hp := h.po 1 (by omega) e1 e2 l1
  rw [← e3] at hp
  exact pw_bd (x_push hp (KTo.pl hp.kj).2.1) (fun _ X4 h4 => pw_ret ⟨_, JST.i19 e rfl, h4⟩)
theorem xo_20t (h : RJ X0 X g J) (h1 : ix p1 = s) (h2 : p2.toInt = (n : Int)) (hA : OA X0 s 25 n) (e : 20 ≤ a.1 ∧ a.1 ≤ 21) (hO : JOK D S J) (hN : NQ a S) : pw (f_judgeOne p1 p2 X) (fun _ Y => JQ ch ps told c g j S a J X0 Y) := by
  have i2 : ix p2 = n := ixn h2
  have l2 : (2 : Int32).toInt = 2 := by decide
  have nl := ned_20 (by omega) hN
  have hl := hO.1
  unfold f_judgeOne
  refine pw_ck (fun _ => pw_eq (fun y1 ye => ?_))
  have yv : y1.toInt = 25 := by
    have := hA.1
    rw [ye, h1, h.1.1 40 s (by unfold kpJ; omega)]
    omega
  refine pw_neg (by omega) (pw_neg (by omega) (pw_neg (by omega) (pw_neg (by omega) (pw_neg (by omega) (pw_neg (by omega) (pw_neg (by omega) (pw_neg (by omega) (pw_neg (by omega) (pw_neg (by omega) (pw_neg (by omega) (pw_neg (by omega) (pw_bd ?_ (fun _ _ h66 => pw_ret h66)))))))))))))
  unfold f_judgeMore
  refine pw_ck (fun _ => pw_eq (fun z1 ze => ?_))
  have zv : z1.toInt = 25 := by
    have := hA.1
    rw [ze, h1, h.1.1 40 s (by unfold kpJ; omega)]
    omega
  refine pw_neg (by omega) (pw_neg (by omega) (pw_neg (by omega) (pw_neg (by omega) (pw_neg (by omega) (pw_neg (by omega) (pw_neg (by omega) (pw_neg (by omega) (pw_neg (by omega) (pw_neg (by omega) (pw_neg (by omega) (pw_pos (by omega) ?_)))))))))))
  refine pw_eq (fun x1 e1 => pw_eq (fun x2 e2 => pw_eq (fun X3 e3 => pw_ck (fun _ => pw_eq (fun x5 e5 => ?_)))))
  have hp := h.po 2 (by omega) e1 e2 l2
  rw [← e3] at hp
  have v5 : x5.toInt = 25 := by
    have := hA.1
    rw [e5, e3, wI_ne _ _ _ _ _ _ (by omega), h1, h.1.1 40 s (by unfold kpJ; omega)]
    omega
  have w1 : (if a.1 ≤ 21 then ([2] : List Int) else [1]) = [2] := by rw [if_pos e.2]
  refine pw_neg (by omega) ?_
  unfold f_judgeMore_343
  refine pw_bd (x_push hp (KTo.pl hp.kj).2.1) (fun _ X4 h4 => pw_ret ⟨_, JST.i20 (by omega) rfl, ?_⟩)
  rw [w1]
  exact h4
theorem xo_20n (h : RJ X0 X g J) (h1 : ix p1 = s) (h2 : p2.toInt = (n : Int)) (hA : OA X0 s 24 n) (e : 22 ≤ a.1 ∧ a.1 ≤ 26) (hO : JOK D S J) (hN : NQ a S) : pw (f_judgeOne p1 p2 X) (fun _ Y => JQ ch ps told c g j S a J X0 Y) := by
  have i2 : ix p2 = n := ixn h2
  have l2 : (2 : Int32).toInt = 2 := by decide
  have nl := ned_20 (by omega) hN
  have hl := hO.1
  unfold f_judgeOne
  refine pw_ck (fun _ => pw_eq (fun y1 ye => ?_))
  have yv : y1.toInt = 24 := by
    have := hA.1
    rw [ye, h1, h.1.1 40 s (by unfold kpJ; omega)]
    omega
  refine pw_neg (by omega) (pw_neg (by omega) (pw_neg (by omega) (pw_neg (by omega) (pw_neg (by omega) (pw_neg (by omega) (pw_neg (by omega) (pw_neg (by omega) (pw_neg (by omega) (pw_neg (by omega) (pw_neg (by omega) (pw_neg (by omega) (pw_bd ?_ (fun _ _ h66 => pw_ret h66)))))))))))))
  unfold f_judgeMore
  refine pw_ck (fun _ => pw_eq (fun z1 ze => ?_))
  have zv : z1.toInt = 24 := by
    have := hA.1
    rw [ze, h1, h.1.1 40 s (by unfold kpJ; omega)]
    omega
  refine pw_neg (by omega) (pw_neg (by omega) (pw_neg (by omega) (pw_neg (by omega) (pw_neg (by omega) (pw_neg (by omega) (pw_neg (by omega) (pw_neg (by omega) (pw_neg (by omega) (pw_neg (by omega) (pw_pos (by omega) ?_))))))))))
  refine pw_eq (fun x1 e1 => pw_eq (fun x2 e2 => pw_eq (fun X3 e3 => pw_ck (fun _ => pw_eq (fun x5 e5 => ?_)))))
  have hp := h.po 2 (by omega) e1 e2 l2
  rw [← e3] at hp
  have v5 : x5.toInt = 24 := by
    have := hA.1
    rw [e5, e3, wI_ne _ _ _ _ _ _ (by omega), h1, h.1.1 40 s (by unfold kpJ; omega)]
    omega
  have w1 : (if a.1 ≤ 21 then ([2] : List Int) else [1]) = [1] := by rw [if_neg (by omega)]
  refine pw_pos (by omega) ?_
  unfold f_judgeMore_343
  refine pw_bd (x_push hp (KTo.pl hp.kj).1) (fun _ X4 h4 => pw_ret ⟨_, JST.i20 (by omega) rfl, ?_⟩)
  rw [w1]
  exact h4
theorem xo_14 (h : RJ X0 X g J) (h1 : ix p1 = s) (h2 : p2.toInt = (n : Int)) (hA : OA X0 s 26 n) (e : a.1 = 14) (hO : JOK D S J) (hN : NQ a S) (hF : FM S 1 1) : pw (f_judgeOne p1 p2 X) (fun _ Y => JQ ch ps told c g j S a J X0 Y) := by
  have i2 : ix p2 = n := ixn h2
  have lm : (2 : Int32).toInt = 2 := by decide
  have h30 := h.2.1.2.2.1
  have b30 := (X.1 0 30).toInt_lt
  have nl := ned_14 e hN
  have hl := hO.1
  unfold f_judgeOne
  refine pw_ck (fun _ => pw_eq (fun y1 ye => ?_))
  have yv : y1.toInt = 26 := by
    have := hA.1
    rw [ye, h1, h.1.1 40 s (by unfold kpJ; omega)]
    omega
  refine pw_neg (by omega) (pw_neg (by omega) (pw_neg (by omega) (pw_neg (by omega) (pw_neg (by omega) (pw_neg (by omega) (pw_neg (by omega) (pw_neg (by omega) (pw_neg (by omega) (pw_neg (by omega) (pw_neg (by omega) (pw_neg (by omega) (pw_bd ?_ (fun _ _ h66 => pw_ret h66)))))))))))))
  unfold f_judgeMore
  refine pw_ck (fun _ => pw_eq (fun z1 ze => ?_))
  have zv : z1.toInt = 26 := by
    have := hA.1
    rw [ze, h1, h.1.1 40 s (by unfold kpJ; omega)]
    omega
  refine pw_neg (by omega) (pw_neg (by omega) (pw_neg (by omega) (pw_neg (by omega) (pw_neg (by omega) (pw_neg (by omega) (pw_neg (by omega) (pw_neg (by omega) (pw_neg (by omega) (pw_neg (by omega) (pw_neg (by omega) (pw_neg (by omega) (pw_pos (by omega) ?_))))))))))))
  refine pw_eq (fun x1 e1 => pw_eq (fun x2 e2 => pw_eq (fun X3 e3 => pw_eq (fun x4 e4 => pw_ck (fun _ => pw_eq (fun x5 e5 => ?_))))))
  have hp := h.po 2 (by omega) e1 e2 lm
  rw [← e3] at hp
  have b3 : RJB X X3 := by rw [e3]; exact RJB.wr h.kj h.ku (by unfold kpJ; omega) (by omega) (by omega)
  have at1 := hO.at (i := 1) (by omega)
  have s3 := (at1.2.2 1 hF).1 rfl
  have v4 : x4.toInt = (J.1.length : Int) - 1 - ((1 : Nat) : Int) := by
    rw [e4, e3, wI_at, e2, e1, ti_sub (by rw [h30, lm]; omega) (by rw [h30, lm]; omega), h30, lm]
    omega
  have k5 : KTo X3 x5 (J.1.getD 1 [3]) := by
    have := (h.low at1.2.1 v4 (x2 := X.1 58 (ix x4)) rfl).kx h.kj b3.2.2.2
    rw [e5, e3, wI_ne _ _ _ _ _ _ (by omega), ← e3]
    exact this
  refine pw_bd (x_elem hp.kj k5 s3) ?_
  rintro x6 X7 ⟨e7, k6⟩
  rw [e7]
  exact pw_bd (x_push hp k6) (fun _ X8 h8 => pw_ret ⟨_, JST.i14 e rfl, h8⟩)
theorem xo_15 (h : RJ X0 X g J) (h1 : ix p1 = s) (h2 : p2.toInt = (n : Int)) (hA : OA X0 s 27 n) (e : a.1 = 15) (hO : JOK D S J) (hN : NQ a S) (hF : FM S 2 1) : pw (f_judgeOne p1 p2 X) (fun _ Y => JQ ch ps told c g j S a J X0 Y) := by
  have i2 : ix p2 = n := ixn h2
  have lm : (3 : Int32).toInt = 3 := by decide
  have h30 := h.2.1.2.2.1
  have b30 := (X.1 0 30).toInt_lt
  have nl := ned_15 e hN
  have hl := hO.1
  unfold f_judgeOne
  refine pw_ck (fun _ => pw_eq (fun y1 ye => ?_))
  have yv : y1.toInt = 27 := by
    have := hA.1
    rw [ye, h1, h.1.1 40 s (by unfold kpJ; omega)]
    omega
  refine pw_neg (by omega) (pw_neg (by omega) (pw_neg (by omega) (pw_neg (by omega) (pw_neg (by omega) (pw_neg (by omega) (pw_neg (by omega) (pw_neg (by omega) (pw_neg (by omega) (pw_neg (by omega) (pw_neg (by omega) (pw_neg (by omega) (pw_bd ?_ (fun _ _ h66 => pw_ret h66)))))))))))))
  unfold f_judgeMore
  refine pw_ck (fun _ => pw_eq (fun z1 ze => ?_))
  have zv : z1.toInt = 27 := by
    have := hA.1
    rw [ze, h1, h.1.1 40 s (by unfold kpJ; omega)]
    omega
  refine pw_neg (by omega) (pw_neg (by omega) (pw_neg (by omega) (pw_neg (by omega) (pw_neg (by omega) (pw_neg (by omega) (pw_neg (by omega) (pw_neg (by omega) (pw_neg (by omega) (pw_neg (by omega) (pw_neg (by omega) (pw_neg (by omega) (pw_neg (by omega) (pw_pos (by omega) ?_)))))))))))))
  refine pw_eq (fun x1 e1 => pw_eq (fun x2 e2 => pw_eq (fun X3 e3 => pw_eq (fun x4 e4 => pw_ck (fun _ => pw_eq (fun x5 e5 => ?_))))))
  have hp := h.po 3 (by omega) e1 e2 lm
  rw [← e3] at hp
  have b3 : RJB X X3 := by rw [e3]; exact RJB.wr h.kj h.ku (by unfold kpJ; omega) (by omega) (by omega)
  have at1 := hO.at (i := 2) (by omega)
  have s3 := (at1.2.2 1 hF).1 rfl
  have v4 : x4.toInt = (J.1.length : Int) - 1 - ((2 : Nat) : Int) := by
    rw [e4, e3, wI_at, e2, e1, ti_sub (by rw [h30, lm]; omega) (by rw [h30, lm]; omega), h30, lm]
    omega
  have k5 : KTo X3 x5 (J.1.getD 2 [3]) := by
    have := (h.low at1.2.1 v4 (x2 := X.1 58 (ix x4)) rfl).kx h.kj b3.2.2.2
    rw [e5, e3, wI_ne _ _ _ _ _ _ (by omega), ← e3]
    exact this
  refine pw_bd (x_elem hp.kj k5 s3) ?_
  rintro x6 X7 ⟨e7, k6⟩
  rw [e7]
  exact pw_bd (x_push hp k6) (fun _ X8 h8 => pw_ret ⟨_, JST.i15 e rfl, h8⟩)
theorem xo_16 (h : RJ X0 X g J) (h1 : ix p1 = s) (h2 : p2.toInt = (n : Int)) (hA : OA X0 s 28 n) (e : a.1 = 16) (hO : JOK D S J) (hN : NQ a S) (g27 : iv X0 27 n = a.2.1) (h0 : 0 ≤ a.2.1) (hF : FM S a.2.1.toNat (2 + a.2.1.toNat)) : pw (f_judgeOne p1 p2 X) (fun _ Y => JQ ch ps told c g j S a J X0 Y) := by
  have i2 : ix p2 = n := ixn h2
  have l1 : (1 : Int32).toInt = 1 := by decide
  have h30 := h.2.1.2.2.1
  have b30 := (X.1 0 30).toInt_lt
  have n40 : a.2.1.toNat + 1 ≤ S.length := ned_16 e hN
  have hl := hO.1
  unfold f_judgeOne
  refine pw_ck (fun _ => pw_eq (fun y1 ye => ?_))
  have yv : y1.toInt = 28 := by
    have := hA.1
    rw [ye, h1, h.1.1 40 s (by unfold kpJ; omega)]
    omega
  refine pw_neg (by omega) (pw_neg (by omega) (pw_neg (by omega) (pw_neg (by omega) (pw_neg (by omega) (pw_neg (by omega) (pw_neg (by omega) (pw_neg (by omega) (pw_neg (by omega) (pw_neg (by omega) (pw_neg (by omega) (pw_neg (by omega) (pw_bd ?_ (fun _ _ h66 => pw_ret h66)))))))))))))
  unfold f_judgeMore
  refine pw_ck (fun _ => pw_eq (fun z1 ze => ?_))
  have zv : z1.toInt = 28 := by
    have := hA.1
    rw [ze, h1, h.1.1 40 s (by unfold kpJ; omega)]
    omega
  refine pw_neg (by omega) (pw_neg (by omega) (pw_neg (by omega) (pw_neg (by omega) (pw_neg (by omega) (pw_neg (by omega) (pw_neg (by omega) (pw_neg (by omega) (pw_neg (by omega) (pw_neg (by omega) (pw_neg (by omega) (pw_neg (by omega) (pw_neg (by omega) (pw_neg (by omega) (pw_pos (by omega) ?_))))))))))))))
  refine pw_eq (fun x1 e1 => pw_ck (fun _ => pw_eq (fun x6 e6 => pw_eq (fun x7 e7 => pw_eq (fun x2 e2 => pw_eq (fun X3 e3 => pw_eq (fun x4 e4 => pw_ck (fun _ => pw_eq (fun x5 e5 => ?_)))))))))
  have v6 : x6.toInt = a.2.1 := by rw [e6, i2, h.1.1 27 n (by unfold kpJ; omega)]; exact g27
  have v7 : x7.toInt = ((a.2.1.toNat + 1 : Nat) : Int) := by rw [e7, ti_add (by rw [v6, l1]; omega) (by rw [v6, l1]; omega), v6, l1]; omega
  have hp := h.po (a.2.1.toNat + 1) (by omega) e1 e2 v7
  rw [← e3] at hp
  have b3 : RJB X X3 := by rw [e3]; exact RJB.wr h.kj h.ku (by unfold kpJ; omega) (by omega) (by omega)
  have at1 := hO.at (i := a.2.1.toNat) (by omega)
  have s4 := ((at1.2.2 _ hF).2 _ rfl).1
  have v4 : x4.toInt = (J.1.length : Int) - 1 - (a.2.1.toNat : Int) := by
    rw [e4, e3, wI_at, e2, e1, ti_sub (by rw [h30, v7]; omega) (by rw [h30, v7]; omega), h30, v7]
    omega
  have k5 : KTo X3 x5 (J.1.getD a.2.1.toNat [3]) := by
    have := (h.low at1.2.1 v4 (x2 := X.1 58 (ix x4)) rfl).kx h.kj b3.2.2.2
    rw [e5, e3, wI_ne _ _ _ _ _ _ (by omega), ← e3]
    exact this
  refine pw_bd (x_res hp.kj k5 s4) ?_
  rintro x8 X9 ⟨e9, k8⟩
  rw [e9]
  exact pw_bd (x_push hp k8) (fun _ X8 h8 => pw_ret ⟨_, JST.i16 e rfl, h8⟩)
theorem xo_27 (h : RJ X0 X g J) (h1 : ix p1 = s) (h2 : p2.toInt = (n : Int)) (hA : OA X0 s 5 n) (e : a.1 = 27) (hO : JOK D S J) (hN : NQ a S) (g21 : iv X0 21 n = a.2.2.1) : pw (f_judgeOne p1 p2 X) (fun _ Y => JQ ch ps told c g j S a J X0 Y) := by
  have i2 : ix p2 = n := ixn h2
  have nl := ned_27 e hN
  have hl := hO.1
  unfold f_judgeOne
  refine pw_ck (fun _ => pw_eq (fun y1 ye => ?_))
  have yv : y1.toInt = 5 := by
    have := hA.1
    rw [ye, h1, h.1.1 40 s (by unfold kpJ; omega)]
    omega
  refine pw_neg (by omega) (pw_neg (by omega) (pw_neg (by omega) (pw_neg (by omega) (pw_pos (by omega) ?_))))
  refine pw_ck (fun _ => pw_eq (fun x16 e16 => pw_eq (fun x17 e17 => pw_bd (x_must (j := j) (t := (g : Int)) h (by omega) (KTo.pl h.kj).1 (by rw [e17]; exact h.2.1.2.1)) ?_)))
  rintro _ X18 ⟨r, m, q⟩
  rw [show x16.toInt = a.2.2.1 from by rw [e16, i2, h.1.1 21 n (by unfold kpJ; omega)]; exact g21] at m
  exact pw_ret ⟨r, JST.i27 e m, q⟩
theorem xo_28 (h : RJ X0 X g J) (h1 : ix p1 = s) (h2 : p2.toInt = (n : Int)) (hA : OA X0 s 6 n) (e : a.1 = 28) (hO : JOK D S J) (hN : NQ a S) (g21 : iv X0 21 n = a.2.2.1) : pw (f_judgeOne p1 p2 X) (fun _ Y => JQ ch ps told c g j S a J X0 Y) := by
  have i2 : ix p2 = n := ixn h2
  have nl := ned_28 e hN
  have hl := hO.1
  unfold f_judgeOne
  refine pw_ck (fun _ => pw_eq (fun y1 ye => ?_))
  have yv : y1.toInt = 6 := by
    have := hA.1
    rw [ye, h1, h.1.1 40 s (by unfold kpJ; omega)]
    omega
  refine pw_neg (by omega) (pw_neg (by omega) (pw_neg (by omega) (pw_neg (by omega) (pw_neg (by omega) (pw_pos (by omega) ?_)))))
  refine pw_ck (fun _ => pw_eq (fun x16 e16 => pw_eq (fun x17 e17 => pw_bd (x_must (j := j) (t := (g : Int)) h (by omega) (KTo.pl h.kj).2.1 (by rw [e17]; exact h.2.1.2.1)) ?_)))
  rintro _ X18 ⟨r, m, q⟩
  rw [show x16.toInt = a.2.2.1 from by rw [e16, i2, h.1.1 21 n (by unfold kpJ; omega)]; exact g21] at m
  exact pw_ret ⟨r, JST.i28 e m, q⟩
theorem xo_29a (h : RJ X0 X g J) (h1 : ix p1 = s) (h2 : p2.toInt = (n : Int)) (hA : OA X0 s 8 n) (e : a.1 = 29) (hO : JOK D S J) (hN : NQ a S) (gp : iv X0 22 n = a.2.2.1) : pw (f_judgeOne p1 p2 X) (fun _ Y => JQ ch ps told c g j S a J X0 Y) := by
  have i2 : ix p2 = n := ixn h2
  have nl := ned_29 e hN
  have hl := hO.1
  unfold f_judgeOne
  refine pw_ck (fun _ => pw_eq (fun y1 ye => ?_))
  have yv : y1.toInt = 8 := by
    have := hA.1
    rw [ye, h1, h.1.1 40 s (by unfold kpJ; omega)]
    omega
  refine pw_neg (by omega) (pw_neg (by omega) (pw_neg (by omega) (pw_neg (by omega) (pw_neg (by omega) (pw_neg (by omega) (pw_neg (by omega) (pw_pos (by omega) ?_)))))))
  refine pw_ck (fun _ => pw_eq (fun x16 e16 => pw_bd (x_jrow (j := j) h (by omega)) ?_))
  rintro _ X18 ⟨r, m, q⟩
  rw [show x16.toInt = a.2.2.1 from by rw [e16, i2, h.1.1 22 n (by unfold kpJ; omega)]; exact gp] at m
  exact pw_ret ⟨r, JST.i29 e m, q⟩
theorem xo_29b (h : RJ X0 X g J) (h1 : ix p1 = s) (h2 : p2.toInt = (n : Int)) (hA : OA X0 s 9 n) (e : a.1 = 29) (hO : JOK D S J) (hN : NQ a S) (gp : iv X0 21 n = a.2.2.1) : pw (f_judgeOne p1 p2 X) (fun _ Y => JQ ch ps told c g j S a J X0 Y) := by
  have i2 : ix p2 = n := ixn h2
  have nl := ned_29 e hN
  have hl := hO.1
  unfold f_judgeOne
  refine pw_ck (fun _ => pw_eq (fun y1 ye => ?_))
  have yv : y1.toInt = 9 := by
    have := hA.1
    rw [ye, h1, h.1.1 40 s (by unfold kpJ; omega)]
    omega
  refine pw_neg (by omega) (pw_neg (by omega) (pw_neg (by omega) (pw_neg (by omega) (pw_neg (by omega) (pw_neg (by omega) (pw_neg (by omega) (pw_neg (by omega) (pw_pos (by omega) ?_))))))))
  refine pw_ck (fun _ => pw_eq (fun x16 e16 => pw_bd (x_jrow (j := j) h (by omega)) ?_))
  rintro _ X18 ⟨r, m, q⟩
  rw [show x16.toInt = a.2.2.1 from by rw [e16, i2, h.1.1 21 n (by unfold kpJ; omega)]; exact gp] at m
  exact pw_ret ⟨r, JST.i29 e m, q⟩
theorem xo_30 (h : RJ X0 X g J) (h1 : ix p1 = s) (h2 : p2.toInt = (n : Int)) (hA : OA X0 s 7 n) (e : a.1 = 30) (hO : JOK D S J) (hN : NQ a S) (g22 : iv X0 22 n = a.2.2.1) (g27 : iv X0 27 n = a.2.1) (h0 : 0 ≤ a.2.1 ∧ a.2.1 ≤ 4) : pw (f_judgeOne p1 p2 X) (fun _ Y => JQ ch ps told c g j S a J X0 Y) := by
  have i2 : ix p2 = n := ixn h2
  have nl := ned_30 e hN
  have hl := hO.1
  unfold f_judgeOne
  refine pw_ck (fun _ => pw_eq (fun y1 ye => ?_))
  have yv : y1.toInt = 7 := by
    have := hA.1
    rw [ye, h1, h.1.1 40 s (by unfold kpJ; omega)]
    omega
  refine pw_neg (by omega) (pw_neg (by omega) (pw_neg (by omega) (pw_neg (by omega) (pw_neg (by omega) (pw_neg (by omega) (pw_pos (by omega) ?_))))))
  refine pw_bd (x_jcall (j := j) (n := a.2.1.toNat) (pl := a.2.2.1) h (by omega) i2 ?_ (by omega) ?_) ?_
  · rw [h.1.1 27 n (by unfold kpJ; omega)]
    have g27 : (X0.1 27 n).toInt = a.2.1 := g27
    omega
  · rw [h.1.1 22 n (by unfold kpJ; omega)]
    exact g22
  · rintro _ X24 ⟨r, m, q⟩
    exact pw_ret ⟨r, JST.i30 e m, q⟩
theorem xo_31 (h : RJ X0 X g J) (h1 : ix p1 = s) (h2 : p2.toInt = (n : Int)) (hA : OA X0 s 7 n) (e : a.1 = 31) (hO : JOK D S J) (hN : NQ a S) (g22 : iv X0 22 n = a.2.2.1) (g27 : iv X0 27 n = a.2.1) (h0 : 0 ≤ a.2.1 ∧ a.2.1 ≤ 4) : pw (f_judgeOne p1 p2 X) (fun _ Y => JQ ch ps told c g j S a J X0 Y) := by
  have i2 : ix p2 = n := ixn h2
  have nl := ned_31 e hN
  have hl := hO.1
  unfold f_judgeOne
  refine pw_ck (fun _ => pw_eq (fun y1 ye => ?_))
  have yv : y1.toInt = 7 := by
    have := hA.1
    rw [ye, h1, h.1.1 40 s (by unfold kpJ; omega)]
    omega
  refine pw_neg (by omega) (pw_neg (by omega) (pw_neg (by omega) (pw_neg (by omega) (pw_neg (by omega) (pw_neg (by omega) (pw_pos (by omega) ?_))))))
  refine pw_bd (x_jcall (j := j) (n := a.2.1.toNat) (pl := a.2.2.1) h (by omega) i2 ?_ (by omega) ?_) ?_
  · rw [h.1.1 27 n (by unfold kpJ; omega)]
    have g27 : (X0.1 27 n).toInt = a.2.1 := g27
    omega
  · rw [h.1.1 22 n (by unfold kpJ; omega)]
    exact g22
  · rintro _ X24 ⟨r, m, q⟩
    exact pw_ret ⟨r, JST.i31 e m, q⟩
theorem xo_32 (h : RJ X0 X g J) (h1 : ix p1 = s) (h2 : p2.toInt = (n : Int)) (hA : OA X0 s 10 n) (e : a.1 = 32) (hO : JOK D S J) (hN : NQ a S) (g21 : iv X0 21 n = a.2.2.1) (g42 : iv X0 42 s = 8 * a.2.1) (h0 : 0 ≤ a.2.1) (hX : ∃ (m : Nat) (q : Option Nat) (t : Option Nat) (h : Nat), iv X0 51 n = (m : Int) ∧ S[a.2.1.toNat + 1]? = some (q, t, 2 + h) ∧ a.2.1.toNat < h ∧ ((iv X0 20 (ix (X0.1 23 m)) = 3 ∧ ∃ t1 a1, t = some t1 ∧ iv X0 26 (ix (X0.1 23 m)) = nrp ch ps (plc c t1) ∧ c[t1]? = some a1 ∧ a1.1 = 4) ∨ (¬ iv X0 20 (ix (X0.1 23 m)) = 3 ∧ t = none))) : pw (f_judgeOne p1 p2 X) (fun _ Y => JQ ch ps told c g j S a J X0 Y) := by
  have i2 : ix p2 = n := ixn h2
  have l2 : (2 : Int32).toInt = 2 := by decide
  have h30 := h.2.1.2.2.1
  have b30 := (X.1 0 30).toInt_lt
  have n40 : a.2.1.toNat + 2 ≤ S.length := ned_32 e hN
  have hl := hO.1
  unfold f_judgeOne
  refine pw_ck (fun _ => pw_eq (fun y1 ye => ?_))
  have yv : y1.toInt = 10 := by
    have := hA.1
    rw [ye, h1, h.1.1 40 s (by unfold kpJ; omega)]
    omega
  refine pw_neg (by omega) (pw_neg (by omega) (pw_neg (by omega) (pw_neg (by omega) (pw_neg (by omega) (pw_neg (by omega) (pw_neg (by omega) (pw_neg (by omega) (pw_neg (by omega) (pw_pos (by omega) ?_)))))))))
  refine pw_ck (fun _ => pw_eq (fun x32 e32 => pw_ck (fun _ => pw_eq (fun x33 e33 => pw_eq (fun x34 e34 => pw_ck (fun _ => pw_eq (fun x36 e36 => pw_ck (fun _ => pw_eq (fun x37 e37 => ?_)))))))))
  obtain ⟨m, q, t, f, g51, gS, glt, gt⟩ := hX
  have i32 : ix x32 = m := ixn (by rw [e32, i2, h.1.1 51 n (by unfold kpJ; omega)]; exact g51)
  have v33 : x33.toInt = 8 * a.2.1 := by rw [e33, h1, h.1.1 42 s (by unfold kpJ; omega)]; exact g42
  have v34 : x34.toInt = a.2.1 := by rw [e34]; exact dv8 v33 h0
  rw [i32, h.1.1 23 m (by unfold kpJ; omega)] at e36
  rw [e36, h.1.1 20 _ (by unfold kpJ; omega)] at e37
  have at1 := hO.at (i := a.2.1.toNat + 1) (by omega)
  have tk := (at1.2.2 (2 + f) ⟨_, gS, rfl⟩).2 f rfl
  have par : ∀ b0 : Int32, b0.toInt = tkr ch ps c g t → pw (f_judgeOne_317 p1 p2 x34 b0 X) (fun _ Y => JQ ch ps told c g j S a J X0 Y) := by
    clear gt
    intro b0 hb
    unfold f_judgeOne_317
    refine pw_eq (fun x39 e39 => pw_eq (fun x40 e40 => pw_eq (fun x41 e41 => pw_ck (fun _ => pw_eq (fun x42 e42 => ?_)))))
    have v40 : x40.toInt = (J.1.length : Int) - 2 := by rw [e40, e39, ti_sub (by rw [h30, l2]; omega) (by rw [h30, l2]; omega), h30, l2]
    have v41 : x41.toInt = (J.1.length : Int) - 1 - ((a.2.1.toNat + 1 : Nat) : Int) := by
      rw [e41, ti_sub (by rw [v40, v34]; omega) (by rw [v40, v34]; omega), v40, v34]
      omega
    have k42 := h.low at1.2.1 v41 e42
    refine pw_bd (x_prm (i := a.2.1.toNat) h.kj k42 tk.1 (by omega) (by omega)) ?_
    rintro x43 X44 ⟨e44, k43⟩
    rw [e44]
    refine pw_ck (fun _ => pw_eq (fun x45 e45 => pw_bd (x_must (j := j) (t := tkr ch ps c g t) h (by omega) k43 hb) ?_))
    rintro _ X46 ⟨r, mm, qq⟩
    rw [show x45.toInt = a.2.2.1 from by rw [e45, i2, h.1.1 21 n (by unfold kpJ; omega)]; exact g21] at mm
    exact pw_ret ⟨r, JST.i32 e ⟨_, gS, mm⟩, qq⟩
  rcases gt with ⟨k3, t1, a1, et, g26, _, _⟩ | ⟨k3, et⟩
  · refine pw_pos (by rw [e37]; exact k3) (pw_ck (fun _ => pw_eq (fun x47 e47 => pw_ck (fun _ => pw_eq (fun x48 e48 => par x48 ?_)))))
    rw [i32, h.1.1 23 m (by unfold kpJ; omega)] at e47
    rw [e48, e47, h.1.1 26 _ (by unfold kpJ; omega), et]
    exact g26
  · refine pw_neg (by rw [e37]; exact k3) (pw_eq (fun x38 e38 => par x38 ?_))
    rw [e38, et]
    exact h.2.1.2.1
theorem xo_33 (h : RJ X0 X g J) (h1 : ix p1 = s) (h2 : p2.toInt = (n : Int)) (hA : OA X0 s 11 n) (e : a.1 = 33) (hO : JOK D S J) (hN : NQ a S) (g21 : iv X0 21 (ix (X0.1 25 n)) = a.2.2.1) (hF : FM S 2 1) : pw (f_judgeOne p1 p2 X) (fun _ Y => JQ ch ps told c g j S a J X0 Y) := by
  have i2 : ix p2 = n := ixn h2
  have l3 : (3 : Int32).toInt = 3 := by decide
  have h30 := h.2.1.2.2.1
  have b30 := (X.1 0 30).toInt_lt
  have nl := ned_33 e hN
  have hl := hO.1
  unfold f_judgeOne
  refine pw_ck (fun _ => pw_eq (fun y1 ye => ?_))
  have yv : y1.toInt = 11 := by
    have := hA.1
    rw [ye, h1, h.1.1 40 s (by unfold kpJ; omega)]
    omega
  refine pw_neg (by omega) (pw_neg (by omega) (pw_neg (by omega) (pw_neg (by omega) (pw_neg (by omega) (pw_neg (by omega) (pw_neg (by omega) (pw_neg (by omega) (pw_neg (by omega) (pw_neg (by omega) (pw_pos (by omega) ?_))))))))))
  refine pw_eq (fun x50 e50 => pw_eq (fun x51 e51 => pw_ck (fun _ => pw_eq (fun x52 e52 => ?_))))
  have at1 := hO.at (i := 2) (by omega)
  have s3 := (at1.2.2 1 hF).1 rfl
  have v51 : x51.toInt = (J.1.length : Int) - 1 - ((2 : Nat) : Int) := by
    rw [e51, e50, ti_sub (by rw [h30, l3]; omega) (by rw [h30, l3]; omega), h30, l3]
    omega
  have k52 := h.low at1.2.1 v51 e52
  refine pw_bd (x_elem h.kj k52 s3) ?_
  rintro x53 X54 ⟨e54, k53⟩
  rw [e54]
  refine pw_ck (fun _ => pw_eq (fun x55 e55 => pw_ck (fun _ => pw_eq (fun x56 e56 => pw_eq (fun x57 e57 => pw_bd (x_must (j := j) (t := (g : Int)) h (by omega) k53 (by rw [e57]; exact h.2.1.2.1)) ?_)))))
  rintro _ X58 ⟨r, m, q⟩
  rw [show x56.toInt = a.2.2.1 from by rw [e56, e55, i2, h.1.1 25 n (by unfold kpJ; omega), h.1.1 21 _ (by unfold kpJ; omega)]; exact g21] at m
  exact pw_ret ⟨r, JST.i33 e m, q⟩
theorem xo_35 (h : RJ X0 X g J) (h1 : ix p1 = s) (h2 : p2.toInt = (n : Int)) (hA : OA X0 s 30 n) (e : a.1 = 35) (hO : JOK D S J) (hN : NQ a S) (g21 : iv X0 21 (ix (X0.1 18 n)) = a.2.2.1) (hP : PJq X0 ps told) (hJ0 : KJq X0) (hg : g < ps.length) (ng : n = g) : pw (f_judgeOne p1 p2 X) (fun _ Y => JQ ch ps told c g j S a J X0 Y) := by
  have i2 : ix p2 = n := ixn h2
  have nl := ned_35 e hN
  have hl := hO.1
  unfold f_judgeOne
  refine pw_ck (fun _ => pw_eq (fun y1 ye => ?_))
  have yv : y1.toInt = 30 := by
    have := hA.1
    rw [ye, h1, h.1.1 40 s (by unfold kpJ; omega)]
    omega
  refine pw_neg (by omega) (pw_neg (by omega) (pw_neg (by omega) (pw_neg (by omega) (pw_neg (by omega) (pw_neg (by omega) (pw_neg (by omega) (pw_neg (by omega) (pw_neg (by omega) (pw_neg (by omega) (pw_neg (by omega) (pw_pos (by omega) ?_)))))))))))
  obtain ⟨pt, hpt⟩ : ∃ pt, ps[g]? = some pt := ⟨_, List.getElem?_eq_getElem hg⟩
  refine pw_bd (x_ownK (k := g) (hP.jb hJ0 h.1) h.kj (by rw [h2, ng]) hpt) ?_
  rintro x60 X61 ⟨e61, k60⟩
  rw [e61]
  refine pw_ck (fun _ => pw_eq (fun x62 e62 => pw_ck (fun _ => pw_eq (fun x63 e63 => pw_eq (fun x64 e64 => pw_bd (x_must (j := j) (t := (g : Int)) h (by omega) k60 (by rw [e64]; exact h.2.1.2.1)) ?_)))))
  rintro _ X58 ⟨r, m, q⟩
  rw [show x63.toInt = a.2.2.1 from by rw [e63, e62, i2, h.1.1 18 n (by unfold kpJ; omega), h.1.1 21 _ (by unfold kpJ; omega)]; exact g21] at m
  exact pw_ret ⟨r, JST.i35 e m, q⟩
theorem xo_34 (h : RJ X0 X g J) (h1 : ix p1 = s) (h2 : p2.toInt = (n : Int)) (hA : OA X0 s 12 n) (e : a.1 = 34) (hO : JOK D S J) (hN : NQ a S) (g21 : iv X0 21 (ix (X0.1 23 n)) = a.2.2.1) (hK : ∃ k : Nat, iv X0 25 n = (k : Int) ∧ KD X0 k a.2.2.2) (hP : PJq X0 ps told) (hJ0 : KJq X0) (hg : g < ps.length) : pw (f_judgeOne p1 p2 X) (fun _ Y => JQ ch ps told c g j S a J X0 Y) := by
  have i2 : ix p2 = n := ixn h2
  have nl := ned_34 e hN
  have hl := hO.1
  unfold f_judgeOne
  refine pw_ck (fun _ => pw_eq (fun y1 ye => ?_))
  have yv : y1.toInt = 12 := by
    have := hA.1
    rw [ye, h1, h.1.1 40 s (by unfold kpJ; omega)]
    omega
  refine pw_neg (by omega) (pw_neg (by omega) (pw_neg (by omega) (pw_neg (by omega) (pw_neg (by omega) (pw_neg (by omega) (pw_neg (by omega) (pw_neg (by omega) (pw_neg (by omega) (pw_neg (by omega) (pw_neg (by omega) (pw_neg (by omega) (pw_bd ?_ (fun _ _ h66 => pw_ret h66)))))))))))))
  unfold f_judgeMore
  refine pw_ck (fun _ => pw_eq (fun z1 ze => ?_))
  have zv : z1.toInt = 12 := by
    have := hA.1
    rw [ze, h1, h.1.1 40 s (by unfold kpJ; omega)]
    omega
  refine pw_pos (by omega) ?_
  obtain ⟨kn, g25, kd⟩ := hK
  have g25 : (X0.1 25 n).toInt = (kn : Int) := g25
  have c25 : X.1 25 n = X0.1 25 n := h.1.1 25 n (by unfold kpJ; omega)
  refine pw_ck (fun _ => pw_eq (fun x3 e3 => pw_neg (by rw [e3, i2, c25]; omega) (pw_ck (fun _ => pw_eq (fun x4 e4 => ?_)))))
  have k4 : KTo X x4 a.2.2.2 := ⟨kn, by rw [e4, i2, c25]; exact g25, KDk.oj hJ0 h.1.2.2.2 _ _ kd⟩
  refine pw_bd (x_told h hP hg k4) ?_
  rintro x5 X6 ⟨e6, k5⟩
  rw [e6]
  refine pw_ck (fun _ => pw_eq (fun x7 e7 => pw_ck (fun _ => pw_eq (fun x8 e8 => pw_eq (fun x9 e9 => pw_bd (x_must (j := j) (t := (g : Int)) (h.an (w := askd told g a.2.2.2)) (show 1 ≤ J.1.length by omega) k5 (by rw [e9]; exact h.2.1.2.1)) ?_)))))
  rintro _ X10 ⟨r, m, q⟩
  rw [show x8.toInt = a.2.2.1 from by rw [e8, e7, i2, h.1.1 23 n (by unfold kpJ; omega), h.1.1 21 _ (by unfold kpJ; omega)]; exact g21] at m
  have fin : ∀ (Z : St) (b0 b1 : Int32), Z = X10 → pw (f_judgeMore_182 b0 b1 Z) (fun _ Y => JQ ch ps told c g j S a J X0 Y) := fun Z b0 b1 z => by
    rw [z]
    unfold f_judgeMore_182
    exact pw_ck (fun _ => pw_eq (fun X14 e14 => pw_ret ⟨r, JST.i34 e m, by rw [e14]; exact q.w57⟩))
  have fin2 : ∀ (Z : St) (b0 : Int32), Z = X10 → pw (f_judgeMore_177 b0 Z) (fun _ Y => JQ ch ps told c g j S a J X0 Y) := fun Z b0 z => by
    unfold f_judgeMore_177
    exact fin Z _ _ z
  refine pw_eq (fun x11 e11 => pw_eq (fun x12 e12 => pw_ck (fun _ => pw_eq (fun x13 e13 => pw_ite (fun _ => pw_ck (fun _ => pw_eq (fun x15 e15 => pw_bd x_tol (fun x16 X17 e17 => pw_ck (fun _ => pw_eq (fun x18 e18 => pw_ite (fun _ => fin X17 _ _ e17) (fun _ => fin2 X17 _ e17))))))) (fun _ => fin2 X10 _ rfl)))))
end ONES
