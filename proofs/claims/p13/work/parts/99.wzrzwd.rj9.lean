/-! the reference's judge, and where any stands -/
/-- the judge at work in part g; any in earlier parts: B -/
def RJ9 (X0 X : St) (g : Nat) (B : List Bool) (J : JS) : Prop := RJ X0 X g J ∧ KVa True X ∧ (B.length = g ∧ ∀ q b, B[q]? = some b → AN X q b) ∧ AN X g J.2.2.1
def RJr9 (X0 Y : St) (g : Nat) (B : List Bool) : Sum JS (Int × Int) → Prop
  | Sum.inl J => RJ9 X0 Y g B J
  | Sum.inr f => RJr X0 Y g (Sum.inr f)
def JQ9 (ch : Tx) (ps : List Pt) (told : Nat → Bool) (c : List Ins) (g j : Nat) (S : List SE) (a : Ins) (J : JS) (B : List Bool) (X0 Y : St) : Prop := ∃ r, JST ch ps told c g j S a J r ∧ RJr9 X0 Y g B r
/-- between parts -/
def RG9 (X0 X : St) (G : List JG × List Bool) : Prop := RG X0 X G.1 ∧ KVa True X ∧ ∀ q b, G.2[q]? = some b → AN X q b
/-- what judging leaves -/
def RJf9 (X0 Y : St) : Sum (List JG × List Bool) (Int × Int) → Prop
  | Sum.inl G => RG9 X0 Y G ∧ (Y.1 0 4).toInt = 1
  | Sum.inr f => RJf X0 Y (Sum.inr f)
section RJ9S
variable {X0 X Y Z : St} {g j D s n m k : Nat} {J J1 : JS} {d w : List Int} {c : List Ins} {S : List SE} {a : Ins} {ch : Tx} {ps : List Pt} {told : Nat → Bool} {b : Bool} {r37 : Int32 → St → Option (Int32 × St)} {a1 a2 p1 p2 : Int32} {Q : Int32 → St → Prop} {R : St → Prop} {B : List Bool} {r : Sum JS (Int × Int)} {G : List JG × List Bool} {an : Bool} {l : List (List Int)} {po : Nat → Nat}
theorem JST.psh9 (h : JST ch ps told c g j S a J r) (e : pai a.1) : ∃ k J1, r = Sum.inl (jpush k J1) ∧ J1.2.2.1 = J.2.2.1 := by
  unfold pai at e
  rcases h with ⟨g, h⟩ | ⟨g, h⟩ | ⟨g, h⟩ | ⟨g, h⟩ | ⟨g, h⟩ | ⟨g, h⟩ | ⟨g, h⟩ | ⟨g, h⟩ | ⟨g, h⟩ | ⟨g, h⟩ | ⟨g, h⟩ | ⟨g, h⟩ | ⟨g, h⟩ | ⟨g, h⟩ | ⟨g, h⟩ | ⟨g, h⟩ | ⟨g, h⟩ | ⟨g, h⟩ | ⟨g, h⟩ | ⟨g, h⟩ | ⟨g, h⟩ | ⟨g, h⟩ | ⟨g, h⟩ | ⟨g, h⟩ | ⟨g, h⟩ | ⟨g, h⟩ | ⟨g, h⟩ | ⟨g, h⟩ | ⟨g, h⟩ | ⟨g, h⟩ | ⟨g, h⟩
  · exfalso; omega
  · exact ⟨_, _, h, rfl⟩
  · exact ⟨_, _, h, rfl⟩
  · obtain ⟨d, _, h⟩ := h
    exact ⟨_, _, h, rfl⟩
  · exact ⟨_, _, h, rfl⟩
  · exfalso; omega
  · exfalso; omega
  · exfalso; omega
  · obtain ⟨k, J1, hm, h⟩ := h
    refine ⟨_, _, h, ?_⟩
    rcases hm with ⟨_, _, z⟩ | ⟨_, _, z⟩
    · rw [z]; rfl
    · rw [z]; rfl
  · exfalso; omega
  · obtain ⟨k, J1, hm, h⟩ := h
    refine ⟨_, _, h, ?_⟩
    rcases hm with ⟨_, _, z⟩ | ⟨_, _, z⟩
    · rw [z]; rfl
    · rw [z]; rfl
  · exact ⟨_, _, h, rfl⟩
  · exact ⟨_, _, h, rfl⟩
  · exact ⟨_, _, h, rfl⟩
  · exact ⟨_, _, h, rfl⟩
  · exact ⟨_, _, h, rfl⟩
  · exact ⟨_, _, h, rfl⟩
  · exfalso; omega
  · exact ⟨_, _, h, rfl⟩
  · exact ⟨_, _, h, rfl⟩
  · exact ⟨_, _, h, rfl⟩
  · exfalso; omega
  · exfalso; omega
  · exfalso; omega
  · exfalso; omega
  · exfalso; omega
  · exfalso; omega
  · exfalso; omega
  · exfalso; omega
  · exfalso; omega
  · exfalso; omega
theorem JST.nps {J1 : JS} (h : JST ch ps told c g j S a J r) (e : nai a.1) (hr : r = Sum.inl J1) : J1.2.2.1 = J.2.2.1 := by
  unfold nai at e
  have mt : ∀ (p t : Int) (w : List Int), jmeet g j p t w J r → J1.2.2.1 = J.2.2.1 := fun p t w h => by
    rw [hr] at h
    rcases h with ⟨_, h⟩ | ⟨_, _, h⟩ | ⟨_, _, h⟩
    · exact absurd h (by simp)
    · rw [Sum.inl.inj h]
    · rw [Sum.inl.inj h]; rfl
  rcases h with ⟨g, h⟩ | ⟨g, h⟩ | ⟨g, h⟩ | ⟨g, h⟩ | ⟨g, h⟩ | ⟨g, h⟩ | ⟨g, h⟩ | ⟨g, h⟩ | ⟨g, h⟩ | ⟨g, h⟩ | ⟨g, h⟩ | ⟨g, h⟩ | ⟨g, h⟩ | ⟨g, h⟩ | ⟨g, h⟩ | ⟨g, h⟩ | ⟨g, h⟩ | ⟨g, h⟩ | ⟨g, h⟩ | ⟨g, h⟩ | ⟨g, h⟩ | ⟨g, h⟩ | ⟨g, h⟩ | ⟨g, h⟩ | ⟨g, h⟩ | ⟨g, h⟩ | ⟨g, h⟩ | ⟨g, h⟩ | ⟨g, h⟩ | ⟨g, h⟩ | ⟨g, h⟩
  · rw [hr] at h
    rw [Sum.inl.inj h]
  · exfalso; omega
  · exfalso; omega
  · exfalso; omega
  · exfalso; omega
  · rw [hr] at h
    rw [Sum.inl.inj h]
    try rfl
  · rw [hr] at h
    rw [Sum.inl.inj h]
    try rfl
  · rw [hr] at h
    rw [Sum.inl.inj h]
  · exfalso; omega
  · rw [hr] at h
    rw [Sum.inl.inj h]
    try rfl
  · exfalso; omega
  · exfalso; omega
  · exfalso; omega
  · exfalso; omega
  · exfalso; omega
  · exfalso; omega
  · exfalso; omega
  · rw [hr] at h
    rw [Sum.inl.inj h]
    try rfl
  · exfalso; omega
  · exfalso; omega
  · exfalso; omega
  · exact mt _ _ _ h
  · exact mt _ _ _ h
  · rw [hr] at h
    rcases h with ⟨_, h⟩ | ⟨_, _, h⟩ | ⟨_, _, h⟩
    · rw [Sum.inl.inj h]; rfl
    · rw [Sum.inl.inj h]
    · exact absurd h (by simp)
  · rw [hr] at h
    rcases h with ⟨_, h⟩ | ⟨_, ⟨_, ⟨_, h⟩ | ⟨_, h⟩⟩ | ⟨_, h⟩⟩
    · rw [Sum.inl.inj h]; rfl
    · rw [Sum.inl.inj h]
    · exact absurd h (by simp)
    · exact absurd h (by simp)
  · rw [hr] at h
    rcases h with ⟨_, h⟩ | ⟨_, ⟨_, ⟨_, h⟩ | ⟨_, h⟩⟩ | ⟨_, h⟩⟩
    · rw [Sum.inl.inj h]; rfl
    · rw [Sum.inl.inj h]
    · exact absurd h (by simp)
    · exact absurd h (by simp)
  · obtain ⟨w, _, h⟩ := h
    exact mt _ _ _ h
  · exact mt _ _ _ h
  · exfalso; omega
  · exact mt _ _ _ h
  · rw [hr] at h
    rw [Sum.inl.inj h]
/-- an order that isn't a let's -/
theorem xo9 {o : Int} (h : RJ9 X0 X g B J) (h1 : ix p1 = s) (h40 : (X0.1 40 s).toInt = o) (hc : (pshq o ∧ pai a.1) ∨ (¬ pshq o ∧ ¬ o = 12 ∧ nai a.1)) (hq : pw (f_judgeOne p1 p2 X) (fun _ Y => JQ ch ps told c g j S a J X0 Y)) : pw (f_judgeOne p1 p2 X) (fun _ Y => JQ9 ch ps told c g j S a J B X0 Y) := by
  obtain ⟨h2, hV, ⟨hB, hA⟩, hN⟩ := h
  have h29 := h2.2.1.2.1
  refine pw_mono (pw_and hq (pw_and (pu_one (g := g) (o := o) h29 (by rw [h1, h2.1.1 40 s (by unfold kpJ; omega)]; exact h40)) (kx9_judgeOne (X0 := X) ⟨hV, KXq.rf⟩))) ?_
  rintro _ Y ⟨⟨r, q1, q2⟩, ⟨u1, u2⟩, kx⟩
  refine ⟨r, q1, ?_⟩
  cases r with
  | inr f => exact q2
  | inl J1 =>
    have q2 : RJ X0 Y g J1 := q2
    rcases hc with ⟨c1, c2⟩ | ⟨c1, c2, c3⟩
    · have up := u1 c1
      obtain ⟨k, J2, e1, e2⟩ := q1.psh9 c2
      have e1 : J1 = jpush k J2 := Sum.inl.inj e1
      have h30 := q2.2.1.2.2.1
      have t1 : 1 ≤ J1.1.length := by rw [e1]; exact Nat.succ_pos _
      have lm : (1 : Int32).toInt = 1 := by decide
      obtain ⟨tp, _⟩ := q2.top (v := Y.1 0 30 - 1) (x2 := Y.1 58 (ix (Y.1 0 30 - 1))) t1 (by rw [ti_sub (by rw [lm]; have := (Y.1 0 30).toInt_lt; omega) (by rw [lm]; have := (Y.1 0 30).toInt_lt; omega), lm]) rfl
      refine ⟨q2, kx.1, ⟨hB, fun q b hb => (hA q b hb).n hV kx.2 (up.1 q (by have := (List.getElem?_eq_some_iff.mp hb).1; omega))⟩, ?_⟩
      have := hN.push hV kx up tp
      rw [e1] at this ⊢
      show AN Y g (J2.2.2.1 || decide ((3 : Int) ∈ k))
      rw [e2]
      exact this
    · have hr := u2 c1 c2
      refine ⟨q2, kx.1, ⟨hB, fun q b hb => (hA q b hb).n hV kx.2 (hr q)⟩, ?_⟩
      rw [q1.nps c3 rfl]
      exact hN.n hV kx.2 (hr g)
theorem xo9_34 (h9 : RJ9 X0 X g B J) (h1 : ix p1 = s) (h2 : p2.toInt = (n : Int)) (hA : OA X0 s 12 n) (e : a.1 = 34) (hO : JOK D S J) (hN : NQ a S) (g21 : iv X0 21 (ix (X0.1 23 n)) = a.2.2.1) (hK : ∃ k : Nat, iv X0 25 n = (k : Int) ∧ KD X0 k a.2.2.2) (hP : PJq X0 ps told) (hJ0 : KJq X0) (hg : g < ps.length) : pw (f_judgeOne p1 p2 X) (fun _ Y => JQ9 ch ps told c g j S a J B X0 Y) := by
  obtain ⟨h, hV, ⟨hB, hA9⟩, hN9⟩ := h9
  have i2 : ix p2 = n := ixn h2
  have nl := ned_34 e hN
  have hl := hO.1
  unfold f_judgeOne
  refine pw_ck (fun _ => pw_eq (fun y1 ye => ?_))
  have yv : y1.toInt = 12 := by
    have := hA.1
    rw [ye, h1, h.1.1 40 s (by unfold kpJ; omega)]
    omega
  refine pw_neg (by omega) (pw_neg (by omega) (pw_neg (by omega) (pw_neg (by omega) (pw_neg (by omega) (pw_neg (by omega) (pw_neg (by omega) (pw_neg (by omega) (pw_neg (by omega) (pw_neg (by omega) (pw_neg (by omega) (pw_neg (by omega) (pw_bd ?_ (fun _ _ h66 => pw_ret h66)))))))))))))
  unfold f_judgeMore
  refine pw_ck (fun _ => pw_eq (fun z1 ze => ?_))
  have zv : z1.toInt = 12 := by
    have := hA.1
    rw [ze, h1, h.1.1 40 s (by unfold kpJ; omega)]
    omega
  refine pw_pos (by omega) ?_
  obtain ⟨kn, g25, kd⟩ := hK
  have g25 : (X0.1 25 n).toInt = (kn : Int) := g25
  have c25 : X.1 25 n = X0.1 25 n := h.1.1 25 n (by unfold kpJ; omega)
  refine pw_ck (fun _ => pw_eq (fun x3 e3 => pw_neg (by rw [e3, i2, c25]; omega) (pw_ck (fun _ => pw_eq (fun x4 e4 => ?_)))))
  have k4 : KTo X x4 a.2.2.2 := ⟨kn, by rw [e4, i2, c25]; exact g25, KDk.oj hJ0 h.1.2.2.2 _ _ kd⟩
  refine pw_bd (x_told h hP hg k4) ?_
  rintro x5 X6 ⟨e6, k5⟩
  rw [e6]
  refine pw_ck (fun _ => pw_eq (fun x7 e7 => pw_ck (fun _ => pw_eq (fun x8 e8 => pw_eq (fun x9 e9 => pw_bd (pw_and (x_must (j := j) (t := (g : Int)) (h.an (w := askd told g a.2.2.2)) (show 1 ≤ J.1.length by omega) k5 (by rw [e9]; exact h.2.1.2.1)) (pw_and (rs_must (X0 := X) R57.rf) (kx9_must (X0 := X) ⟨hV, KXq.rf⟩))) ?_)))))
  rintro _ X10 ⟨⟨r, m, q⟩, s57, kx⟩
  rw [show x8.toInt = a.2.2.1 from by rw [e8, e7, i2, h.1.1 23 n (by unfold kpJ; omega), h.1.1 21 _ (by unfold kpJ; omega)]; exact g21] at m
  cases r with
  | inr f =>
    have fin : ∀ (Z : St) (b0 b1 : Int32), Z = X10 → pw (f_judgeMore_182 b0 b1 Z) (fun _ Y => JQ9 ch ps told c g j S a J B X0 Y) := fun Z b0 b1 z => by
      rw [z]
      unfold f_judgeMore_182
      exact pw_ck (fun _ => pw_eq (fun X14 e14 => pw_ret ⟨Sum.inr f, JST.i34 e m, by rw [e14]; exact RJr.w57 (r := Sum.inr f) q⟩))
    have fin2 : ∀ (Z : St) (b0 : Int32), Z = X10 → pw (f_judgeMore_177 b0 Z) (fun _ Y => JQ9 ch ps told c g j S a J B X0 Y) := fun Z b0 z => by
      unfold f_judgeMore_177
      exact fin Z _ _ z
    refine pw_eq (fun x11 e11 => pw_eq (fun x12 e12 => pw_ck (fun _ => pw_eq (fun x13 e13 => pw_ite (fun _ => pw_ck (fun _ => pw_eq (fun x15 e15 => pw_bd x_tol (fun x16 X17 e17 => pw_ck (fun _ => pw_eq (fun x18 e18 => pw_ite (fun _ => fin X17 _ _ e17) (fun _ => fin2 X17 _ e17))))))) (fun _ => fin2 X10 _ rfl)))))
  | inl J1 =>
    have q : RJ X0 X10 g J1 := q
    have e3 : J1.2.2.1 = (J.2.2.1 || decide ((3 : Int) ∈ askd told g a.2.2.2)) := by
      rcases m with ⟨_, m⟩ | ⟨_, _, m⟩ | ⟨_, _, m⟩
      · exact absurd m (by simp)
      · rw [Sum.inl.inj m]; rfl
      · rw [Sum.inl.inj m]; rfl
    have g29 : (X10.1 0 29).toInt = (g : Int) := q.2.1.2.1
    have k15 : KTo X10 (X10.1 25 (ix p2)) a.2.2.2 := ⟨kn, by rw [i2, q.1.1 25 n (by unfold kpJ; omega)]; exact g25, KDk.oj hJ0 q.1.2.2.2 _ _ kd⟩
    have fin : ∀ (v b0 b1 : Int32), ix b1 = g → KTo X10 v (askd told g a.2.2.2) → ((b0 = 0 ∧ (X10.1 57 g).toInt = 0 ∧ (X10.1 8 (ix v)).toInt = 0) ∨ (b0 = 1 ∧ ¬ ((X10.1 57 g).toInt = 0 ∧ (X10.1 8 (ix v)).toInt = 0))) → pw (f_judgeMore_182 b0 b1 X10) (fun _ Y => JQ9 ch ps told c g j S a J B X0 Y) := fun v b0 b1 i1 kv hb => by
      unfold f_judgeMore_182
      refine pw_ck (fun _ => pw_eq (fun X14 e14 => pw_ret ⟨Sum.inl J1, JST.i34 e m, ?_⟩))
      rw [i1] at e14
      have kx14 : KXq X X14 := by rw [e14]; exact kx.2.tr (KXq.of (fun e1 j q => wI_ne _ _ _ _ _ _ (by omega)))
      refine ⟨by rw [e14]; exact RJr.w57 (r := Sum.inl J1) q, by rw [e14]; exact KVa_w kx.1 (by omega), ⟨hB, fun q b hb => (hA9 q b hb).n hV kx14 ?_⟩, ?_⟩
      · have := (List.getElem?_eq_some_iff.mp hb).1
        rw [e14, wI_ne _ _ _ _ _ _ (by omega)]
        exact s57.1 q
      · rw [e3, e14]
        exact hN9.wr hV kx (s57.1 g) kv hb
    -- the kind's number, once more
    have g15 : ∀ b1 : Int32, ix b1 = g → ¬ (X10.1 57 g).toInt = 0 → pw (f_judgeMore_177 b1 X10) (fun _ Y => JQ9 ch ps told c g j S a J B X0 Y) := fun b1 i1 z => by
      unfold f_judgeMore_177
      exact fin x5 1 b1 i1 (k5.kx h.kj kx.2) (Or.inr ⟨rfl, fun y => z y.1⟩)
    refine pw_eq (fun x11 e11 => pw_eq (fun x12 e12 => pw_ck (fun _ => pw_eq (fun x13 e13 => ?_))))
    have i11 : ix x11 = g := by rw [e11]; exact ixn g29
    have i12 : ix x12 = g := by rw [e12]; exact ixn g29
    rw [i12] at e13
    refine pw_ite (fun c13 => ?_) (fun c13 => g15 x11 i11 (by rw [← e13]; exact c13))
    rw [e13] at c13
    refine pw_ck (fun _ => pw_eq (fun x15 e15 => pw_bd (x_told (kd := a.2.2.2) q hP hg (by rw [e15]; exact k15)) ?_))
    rintro x16 X17 ⟨e17, k16⟩
    rw [e17]
    refine pw_ck (fun _ => pw_eq (fun x18 e18 => pw_ite (fun c18 => fin x16 0 x11 i11 k16 (Or.inl ⟨rfl, c13, by rw [← e18]; exact c18⟩)) (fun c18 => ?_)))
    unfold f_judgeMore_177
    exact fin x16 1 x11 i11 k16 (Or.inr ⟨rfl, fun y => c18 (by rw [e18]; exact y.2)⟩)
theorem x_instr9 (h : RJ9 X0 X g B J) (hO : JOK D S J) (hP : PJq X0 ps told) (hJ0 : KJq X0) (hg : g < ps.length) (hp : ps.length ≤ 41) (hA : AO X0 (nrp ch ps) c j b s S a) (hN : NQ a S) (h3 : a.1 = 3 → 0 ≤ a.2.1 ∧ a.2.1 < (D : Int)) (h5 : a.1 = 5 → 0 ≤ a.2.1 ∧ a.2.1 ≤ (D : Int)) (hI : PIq g a) (hE : ((s + wgt b a : Nat) : Int) ≤ a2.toInt) (hQ : ∀ Y r, JST ch ps told c g j S a J r → RJr9 X0 Y g B r → WJ r37 a1 a2 Q (s + wgt b a) Y) : WJ r37 a1 a2 Q s X := by
  have h9 := h.1.2.1.1
  obtain ⟨h30, h35, _⟩ := hI
  have c41 : ∀ q, X.1 41 q = X0.1 41 q := fun q => h.1.1.1 41 q (by unfold kpJ; omega)
  have one : ∀ o : Int, wgt b a = 1 → (X0.1 40 s).toInt = o → ((pshq o ∧ pai a.1) ∨ (¬ pshq o ∧ ¬ o = 12 ∧ nai a.1)) → (∀ p1 p2 : Int32, ix p1 = s → p2 = X.1 41 s → pw (f_judgeOne p1 p2 X) (fun _ Y => JQ ch ps told c g j S a J X0 Y)) → WJ r37 a1 a2 Q s X := fun o hw h40 hc hone => by
    rw [hw] at hQ hE
    exact WJ.stp (by omega) h9 (fun p1 p2 i1 i2 => xo9 h i1 h40 hc (hone p1 p2 i1 i2)) (fun Y ⟨r, q1, q2⟩ => hQ Y r q1 q2)
  have w1 : ¬ a.1 = 0 → ¬ a.1 = 5 → wgt b a = 1 := fun z z5 => by unfold wgt; rw [if_neg z, if_neg (fun y => z5 y.1)]
  have two : ∀ {p2 : Int32} {n : Nat}, p2 = X.1 41 s → (X0.1 41 s).toInt = (n : Int) → p2.toInt = (n : Int) := fun e e1 => by rw [e, c41]; exact e1
  obtain ⟨n, hA⟩ := hA
  rcases hA with ⟨e, hx, hm⟩ | ⟨e, hA, _⟩ | ⟨e, hA, _⟩ | ⟨e, hA, g26, _⟩ | ⟨e, hA, g26, _⟩ | ⟨e, hX⟩ | ⟨e, hA, _⟩ | ⟨e, hA, _⟩ | ⟨e, hA, _, hS⟩ | ⟨e, hA⟩ | ⟨e, hA, _, g27, hS⟩ | ⟨e, hA, _⟩ | ⟨e, hA, _⟩ | ⟨e, hA, _⟩ | ⟨e, hA, _, hF⟩ | ⟨e, hA, _, hF⟩ | ⟨e, hA, _, g27, h0, hF⟩ | ⟨e, hA⟩ | ⟨e, hA, _⟩ | ⟨e, hA, _⟩ | ⟨e, hA, _⟩ | ⟨e, hA, g21⟩ | ⟨e, hA, g21⟩ | ⟨e, hX⟩ | ⟨e, hA, g22, g27, _⟩ | ⟨e, hA, g22, g27, _⟩ | ⟨e, hA, g21, g42, h0, hX⟩ | ⟨e, hA, g21, hF⟩ | ⟨e, hA, g21, hK⟩ | ⟨e, hA, gx, g21⟩ | ⟨e, hA, _⟩
  · have hw : wgt b a = a.2.1.toNat := by unfold wgt; rw [if_pos e]
    have fin := hQ X (Sum.inl J) (JST.i0 e rfl) h
    rw [hw] at fin hE
    have st : ∀ q, q ≤ a.2.1.toNat → WJ r37 a1 a2 Q (s + q) X → WJ r37 a1 a2 Q s X := by
      intro q
      induction q with
      | zero => exact fun _ z => z
      | succ q ih =>
        intro hq z
        obtain ⟨n1, hA1, _⟩ := hm q (by omega)
        refine ih (by omega) (WJ.stp (R := fun Y => Y = X) (by omega) h9 (fun p1 p2 i1 i2 => xo_0 (n := n1) h.1 i1 (by rw [i2, c41]; exact hA1.2) hA1) (fun Y hY => ?_))
        rw [hY]
        exact z
    exact st _ (Nat.le_refl _) fin
  · exact one 1 (w1 (by omega) (by omega)) hA.1 (by unfold pshq pai nai; omega) (fun p1 p2 i1 i2 => xo_1 h.1 i1 (two i2 hA.2) hA e)
  · exact one 2 (w1 (by omega) (by omega)) hA.1 (by unfold pshq pai nai; omega) (fun p1 p2 i1 i2 => xo_2 h.1 i1 (two i2 hA.2) hA e)
  · exact one 3 (w1 (by omega) (by omega)) hA.1 (by unfold pshq pai nai; omega) (fun p1 p2 i1 i2 => xo_3 h.1 i1 (two i2 hA.2) hA e hO g26 (h3 e))
  · exact one 4 (w1 (by omega) (by omega)) hA.1 (by unfold pshq pai nai; omega) (fun p1 p2 i1 i2 => xo_4 h.1 i1 (two i2 hA.2) hA e g26 hP hJ0 ⟨by omega, hp⟩)
  · rcases hX with ⟨hb, hA, g26⟩ | ⟨hb, hA, g25, hA2, g26⟩
    · exact one 13 (by unfold wgt; rw [if_neg (by omega), if_neg (fun y => absurd (hb.symm.trans y.2) (by decide))]) hA.1 (by unfold pshq pai nai; omega) (fun p1 p2 i1 i2 => xo_5 h.1 i1 (two i2 hA.2) hA e hO hN g26 (h5 e).1)
    · have hw : wgt b a = 2 := by unfold wgt; rw [if_neg (by omega), if_pos ⟨e, hb⟩]
      rw [hw] at hQ hE
      refine WJ.stp (R := fun Y => Y = X) (by omega) h9 (fun p1 p2 i1 i2 => xo_5b h.1 i1 (two i2 hA.2) hA g25) (fun Y hY => ?_)
      rw [hY]
      exact WJ.stp (by omega) h9 (fun p1 p2 i1 i2 => xo9 h i1 hA2.1 (by unfold pshq pai nai; omega) (xo_5 h.1 i1 (by rw [i2, c41]; exact hA2.2) hA2 e hO hN g26 (h5 e).1)) (fun Y ⟨r, q1, q2⟩ => hQ Y r q1 q2)
  · exact one 15 (w1 (by omega) (by omega)) hA.1 (by unfold pshq pai nai; omega) (fun p1 p2 i1 i2 => xo_6 h.1 i1 (two i2 hA.2) hA e hO hN)
  · exact one 16 (w1 (by omega) (by omega)) hA.1 (by unfold pshq pai nai; omega) (fun p1 p2 i1 i2 => xo_7 h.1 i1 (two i2 hA.2) hA e)
  · exact one 17 (w1 (by omega) (by omega)) hA.1 (by unfold pshq pai nai; omega) (fun p1 p2 i1 i2 => xo_8 h.1 i1 (two i2 hA.2) hA e hO hN hS)
  · exact one 29 (w1 (by omega) (by omega)) hA.1 (by unfold pshq pai nai; omega) (fun p1 p2 i1 i2 => xo_9 h.1 i1 (two i2 hA.2) hA e hO hN)
  · exact one 18 (w1 (by omega) (by omega)) hA.1 (by unfold pshq pai nai; omega) (fun p1 p2 i1 i2 => xo_10 h.1 i1 (two i2 hA.2) hA e hO hN g27 hS)
  · exact one 19 (w1 (by omega) (by omega)) hA.1 (by unfold pshq pai nai; omega) (fun p1 p2 i1 i2 => xo_11 h.1 i1 (two i2 hA.2) hA e hO hN)
  · exact one 20 (w1 (by omega) (by omega)) hA.1 (by unfold pshq pai nai; omega) (fun p1 p2 i1 i2 => xo_12 h.1 i1 (two i2 hA.2) hA e hO hN)
  · exact one 21 (w1 (by omega) (by omega)) hA.1 (by unfold pshq pai nai; omega) (fun p1 p2 i1 i2 => xo_13 h.1 i1 (two i2 hA.2) hA e hO hN)
  · exact one 26 (w1 (by omega) (by omega)) hA.1 (by unfold pshq pai nai; omega) (fun p1 p2 i1 i2 => xo_14 h.1 i1 (two i2 hA.2) hA e hO hN hF)
  · exact one 27 (w1 (by omega) (by omega)) hA.1 (by unfold pshq pai nai; omega) (fun p1 p2 i1 i2 => xo_15 h.1 i1 (two i2 hA.2) hA e hO hN hF)
  · exact one 28 (w1 (by omega) (by omega)) hA.1 (by unfold pshq pai nai; omega) (fun p1 p2 i1 i2 => xo_16 h.1 i1 (two i2 hA.2) hA e hO hN g27 h0 hF)
  · exact one 31 (w1 (by omega) (by omega)) hA.1 (by unfold pshq pai nai; omega) (fun p1 p2 i1 i2 => xo_17 h.1 i1 (two i2 hA.2) hA e hO hN)
  · exact one 22 (w1 (by omega) (by omega)) hA.1 (by unfold pshq pai nai; omega) (fun p1 p2 i1 i2 => xo_18 h.1 i1 (two i2 hA.2) hA e hO hN)
  · exact one 23 (w1 (by omega) (by omega)) hA.1 (by unfold pshq pai nai; omega) (fun p1 p2 i1 i2 => xo_19 h.1 i1 (two i2 hA.2) hA e hO hN)
  · by_cases z : a.1 ≤ 21
    · rw [if_pos z] at hA
      exact one 25 (w1 (by omega) (by omega)) hA.1 (by unfold pshq pai nai; omega) (fun p1 p2 i1 i2 => xo_20t h.1 i1 (two i2 hA.2) hA ⟨e.1, z⟩ hO hN)
    · rw [if_neg z] at hA
      exact one 24 (w1 (by omega) (by omega)) hA.1 (by unfold pshq pai nai; omega) (fun p1 p2 i1 i2 => xo_20n h.1 i1 (two i2 hA.2) hA ⟨by omega, e.2⟩ hO hN)
  · exact one 5 (w1 (by omega) (by omega)) hA.1 (by unfold pshq pai nai; omega) (fun p1 p2 i1 i2 => xo_27 h.1 i1 (two i2 hA.2) hA e hO hN g21)
  · exact one 6 (w1 (by omega) (by omega)) hA.1 (by unfold pshq pai nai; omega) (fun p1 p2 i1 i2 => xo_28 h.1 i1 (two i2 hA.2) hA e hO hN g21)
  · rcases hX with ⟨hA, g22⟩ | ⟨hA, g21⟩
    · exact one 8 (w1 (by omega) (by omega)) hA.1 (by unfold pshq pai nai; omega) (fun p1 p2 i1 i2 => xo_29a h.1 i1 (two i2 hA.2) hA e hO hN g22)
    · exact one 9 (w1 (by omega) (by omega)) hA.1 (by unfold pshq pai nai; omega) (fun p1 p2 i1 i2 => xo_29b h.1 i1 (two i2 hA.2) hA e hO hN g21)
  · exact one 7 (w1 (by omega) (by omega)) hA.1 (by unfold pshq pai nai; omega) (fun p1 p2 i1 i2 => xo_30 h.1 i1 (two i2 hA.2) hA e hO hN g22 g27 (h30 (Or.inl e)))
  · exact one 7 (w1 (by omega) (by omega)) hA.1 (by unfold pshq pai nai; omega) (fun p1 p2 i1 i2 => xo_31 h.1 i1 (two i2 hA.2) hA e hO hN g22 g27 (h30 (Or.inr e)))
  · exact one 10 (w1 (by omega) (by omega)) hA.1 (by unfold pshq pai nai; omega) (fun p1 p2 i1 i2 => xo_32 h.1 i1 (two i2 hA.2) hA e hO hN g21 g42 h0 hX)
  · exact one 11 (w1 (by omega) (by omega)) hA.1 (by unfold pshq pai nai; omega) (fun p1 p2 i1 i2 => xo_33 h.1 i1 (two i2 hA.2) hA e hO hN g21 hF)
  · have hw := w1 (by omega) (by omega)
    rw [hw] at hQ hE
    exact WJ.stp (by omega) h9 (fun p1 p2 i1 i2 => xo9_34 h i1 (two i2 hA.2) hA e hO hN g21 hK hP hJ0 hg) (fun Y ⟨r, q1, q2⟩ => hQ Y r q1 q2)
  · exact one 30 (w1 (by omega) (by omega)) hA.1 (by unfold pshq pai nai; omega) (fun p1 p2 i1 i2 => xo_35 h.1 i1 (two i2 hA.2) hA e hO hN g21 hP hJ0 hg (by have := h35 e; omega))
  · exact one 14 (w1 (by omega) (by omega)) hA.1 (by unfold pshq pai nai; omega) (fun p1 p2 i1 i2 => xo_36 h.1 i1 (two i2 hA.2) hA e)
theorem x_seg9 (hP : PJq X0 ps told) (hW : PWd ps) (hJ0 : KJq X0) (hg : g < ps.length) (hp : ps.length ≤ 41) : ∀ (d : List Ins) (j : Nat) (b : Bool) (s : Nat) (S : List SE) (D : Nat) (J : JS) (X : St), RJ9 X0 X g B J → JOK D S J → AOL X0 (nrp ch ps) c j b s S d → DLk D d → (∀ a ∈ d, PIq g a) → ((s + owt b d : Nat) : Int) = a2.toInt → (∀ Y r, JRN ch ps told c g j S J d r → RJr9 X0 Y g B r → pw (f_judges_204 r37 a1 Y) Q) → WJ r37 a1 a2 Q s X := by
  intro d
  induction d with
  | nil =>
    intro j b s S D J X h _ _ _ _ hE hend
    have hE : ((s + 0 : Nat) : Int) = a2.toInt := hE
    exact WJ.fin (by omega) (hend X (Sum.inl J) rfl h)
  | cons a d ih =>
    intro j b s S D J X h hO hA hD hI hE hend
    obtain ⟨⟨hA1, hN⟩, hA2⟩ := hA
    obtain ⟨hD3, hD5, hD2⟩ := hD
    have hE : ((s + (wgt b a + owt (decide (a.1 = 34)) d) : Nat) : Int) = a2.toInt := hE
    have hIa := hI a (List.mem_cons_self ..)
    refine x_instr9 h hO hP hJ0 hg hp hA1 hN hD3 hD5 hIa (by omega) (fun Y r hr hY => ?_)
    cases r with
    | inl J1 =>
      exact ih (j + 1) _ _ _ (dnx D a) J1 Y hY (JOK.step hW hg hIa.2.2 (fun z => by have := hIa.1 z; omega) hA1 hN hD5 hO hr) hA2 hD2 (fun q hq => hI q (List.mem_cons_of_mem _ hq)) (by omega) (fun Y1 r1 q1 q2 => hend Y1 r1 (Or.inl ⟨J1, hr, q1⟩) q2)
    | inr f =>
      have hY1 : RJB X0 Y ∧ (Y.1 0 9).toInt = f.1 ∧ (Y.1 0 10).toInt = f.2 ∧ ¬ f.1 = 0 := hY
      exact WJ.bad (by rw [hY1.2.1]; exact hY1.2.2.2) (hend Y (Sum.inr f) (Or.inr ⟨f, hr, rfl⟩) hY)
theorem RJ9.rg (h : RJ9 X0 X g G.2 J) : RG9 X0 X (J.2.2.2, G.2 ++ [J.2.2.1]) := by
  obtain ⟨h1, h2, ⟨h3, h4⟩, h5⟩ := h
  refine ⟨h1.rg, h2, fun q b hb => ?_⟩
  have hb : (G.2 ++ [J.2.2.1])[q]? = some b := hb
  have hl := (List.getElem?_eq_some_iff.mp hb).1
  rw [List.length_append, List.length_singleton] at hl
  by_cases z : q < G.2.length
  · rw [List.getElem?_append_left z] at hb
    exact h4 q b hb
  · have e : q = G.2.length := by omega
    rw [e, List.getElem?_concat_length] at hb
    rw [e, h3, ← Option.some.inj hb]
    exact h5
theorem RG9.w0 {v : Int32} (h : RG9 X0 X G) (hk : k = 29 ∨ k = 30 ∨ k = 4) : RG9 X0 (wI X 0 k v) G := ⟨h.1.w0 hk, KVa_w h.2.1 (by omega), fun q b hb => (h.2.2 q b hb).n h.2.1 (KXq.of (fun e1 j q => wI_ne _ _ _ _ _ _ (by omega))) (wI_ne _ _ _ _ _ _ (by omega))⟩
/-- any in the params so far -/
def anp (ps : List Pt) (told : Nat → Bool) (k i : Nat) : Bool := decide ((3 : Int) ∈ oks ps told k) || ((pks ps told k).take i).any (fun d => decide ((3 : Int) ∈ d))
theorem anp_s {i : Nat} (h : (pks ps told k)[i]? = some d) : anp ps told k (i + 1) = (anp ps told k i || decide ((3 : Int) ∈ d)) := by
  unfold anp
  rw [List.take_add_one, h]
  show (_ || ((pks ps told k).take i ++ [d]).any _) = _
  rw [List.any_append, List.any_cons, List.any_nil, Bool.or_false, Bool.or_assoc]
theorem anp_e (G : List JG) : (js0 ps told k G).2.2.1 = anp ps told k (pks ps told k).length := by
  unfold anp
  rw [List.take_length]
  rfl
theorem x_2109 {P : St → Prop} (hr : (∃ G, RG9 X0 X G ∧ ∀ Y, RG9 X0 Y G → (Y.1 0 4).toInt = 1 → P Y) ∨ ∃ f : Int × Int, (RJB X0 X ∧ (X.1 0 9).toInt = f.1 ∧ (X.1 0 10).toInt = f.2 ∧ ¬ f.1 = 0) ∧ ∀ Y, RJf X0 Y (Sum.inr f) → P Y) : pw (f_judges_210 X) (fun _ Y => P Y) := by
  unfold f_judges_210
  refine pw_bd x_well ?_
  rintro x10 X11 ⟨e11, w, w2⟩
  rw [e11]
  refine pw_ck (fun _ => pw_eq (fun X12 e12 => pw_ret ?_))
  rcases hr with ⟨G, hG, hP⟩ | ⟨f, ⟨f1, f2, f3, f4⟩, hP⟩
  · have h9 := hG.1.2.1
    refine hP X12 (by rw [e12]; exact hG.w0 (by omega)) ?_
    rw [e12, wI_at]
    rcases w2 with z | z
    · exact absurd h9 (w.mp z)
    · exact z
  · refine hP X12 ?_
    have b : RJB X X12 := by rw [e12]; exact RJB.wr f1.2.1 f1.2.2.1 (by unfold kpJ; omega) (by omega) (by omega)
    exact ⟨f1.tr b, by rw [e12, wI_ne _ _ _ _ _ _ (by omega)]; exact f2, by rw [e12, wI_ne _ _ _ _ _ _ (by omega)]; exact f3, f4, by rw [e12, wI_at]; exact w.mpr (by rw [f2]; exact f4)⟩
theorem x_part79 {G1 : List JG} (hp : JPRE ch X0 ps told c po) (hk : k < ps.length) (h1 : a1.toInt = (k : Int)) (h : RJ9 X0 X k B (js0 ps told k G1)) (hQ : ∀ Y r, JRN ch ps told c k (pst ps k) [] (js0 ps told k G1) (pcd ps c k) r → RJr9 X0 Y k B r → pw (f_judges_204 r37 a1 Y) Q) (e2 : a2.toInt = (po (k + 1) : Int)) : pw (f_judges_167 r37 a1 a2 X) Q := by
  obtain ⟨hP, hW, hJ, hl, p18, p26, p44, hR⟩ := hp
  obtain ⟨p, hpt⟩ : ∃ p, ps[k]? = some p := ⟨_, List.getElem?_eq_getElem hk⟩
  obtain ⟨r1, r2⟩ := hR k p hpt
  obtain ⟨q1, q2, q3⟩ := pcd_at hpt r1
  have h15 := (hP k p hpt).1
  unfold f_judges_167
  refine pw_ck (fun _ => pw_eq (fun x26 e26 => ?_))
  have v26 : x26.toInt = (po k : Int) := by rw [e26, ixn h1, h.1.1.1 44 k (by unfold kpJ; omega)]; exact p44 k hk
  have hO : JOK p.2.2.2.1.length [] (js0 ps told k G1) := by
    have f := wk_fks (told := told) hW hk
    refine ⟨rfl, fun d hd => absurd hd List.not_mem_nil, fun i w k1 hw => absurd hw.symm (Option.some_ne_none _), fun x hx => ?_, fun x d hd => ?_⟩
    · exact ⟨_, List.getElem?_eq_getElem (by rw [pks_ln hpt]; exact hx)⟩
    · have hd : (pks ps told k)[x]? = some d := hd
      exact (f.2.1 d (List.mem_of_getElem? hd)).up (by omega)
  have hD : DLk p.2.2.2.1.length (pcd ps c k) := by
    have := q3 p.2.2.2.1.length [] (by omega) (fun _ _ => trivial)
    rw [List.append_nil] at this
    exact this
  exact x_seg9 hP hW hJ hk (by omega) _ _ _ _ _ _ _ X h hO q1 hD r2 (by rw [q2, e2]) hQ BIG x26 v26
theorem x_params9 {G1 : List JG} (hp : JPRE ch X0 ps told c po) (hk : k < ps.length) (h1 : a1.toInt = (k : Int)) (hQ : ∀ Y r, JRN ch ps told c k (pst ps k) [] (js0 ps told k G1) (pcd ps c k) r → RJr9 X0 Y k B r → pw (f_judges_204 r37 a1 Y) Q) : ∀ (M i : Nat) (b2 : Int32) (X : St), b2.toInt = (i : Int) → i ≤ (pks ps told k).length → RJ9 X0 X k B ([], (fun x => ((pks ps told k).take i)[x]?), anp ps told k i, G1) → pw (f_judges_80 r37 M a1 b2 X) Q := by
  have lo1 : (Int32.ofInt 1).toInt = 1 := by decide
  have l1 : (1 : Int32).toInt = 1 := by decide
  obtain ⟨p, hpt⟩ : ∃ p, ps[k]? = some p := ⟨_, List.getElem?_eq_getElem hk⟩
  have hp0 := hp
  obtain ⟨hP, hW, hJ, hl, p18, p26, p44, hR⟩ := hp
  have h15 := (hP k p hpt).1
  have ln := pks_ln (told := told) hpt
  intro M
  induction M with
  | zero => exact fun _ _ _ _ _ _ => pw_none
  | succ M ih =>
    intro i b2 X h2 hi h
    have e : f_judges_80 r37 (M + 1) = f_judges_80_s r37 (f_judges_80 r37 M) := by
      unfold f_judges_80
      exact lp_succ _ _ _
    rw [e]
    unfold f_judges_80_s
    refine pw_ck (fun _ => pw_eq (fun x22 e22 => ?_))
    have v22 : x22.toInt = ((pks ps told k).length : Int) := by rw [e22, ixn h1, h.1.1.1 15 k (by unfold kpJ; omega), h15, ln]
    refine pw_ite (fun c22 => ?_) (fun c22 => ?_)
    · have ei : i = (pks ps told k).length := by omega
      have h0 : RJ9 X0 X k B (js0 ps told k G1) := by
        rw [ei, ← anp_e G1, List.take_length] at h
        exact h
      refine pw_eq (fun x23 e23 => pw_eq (fun x24 e24 => ?_))
      have v23 : x23.toInt = (k : Int) + 1 := by rw [e23, ti_add (by rw [h1, l1]; omega) (by rw [h1, l1]; omega), h1, l1]
      have v24 : x24.toInt = (ps.length : Int) := by rw [e24, h.1.1.1 0 18 (by unfold kpJ; omega)]; exact p18
      refine pw_ite (fun c24 => ?_) (fun c24 => ?_)
      · have ek : k + 1 = ps.length := by omega
        refine pw_eq (fun x25 e25 => x_part79 hp0 hk h1 h0 hQ ?_)
        rw [e25, h.1.1.1 0 26 (by unfold kpJ; omega), p26, ek]
      · refine pw_eq (fun x33 e33 => pw_ck (fun _ => pw_eq (fun x34 e34 => x_part79 hp0 hk h1 h0 hQ ?_)))
        have i33 : ix x33 = k + 1 := ixn (by rw [e33, ti_add (by rw [h1, l1]; omega) (by rw [h1, l1]; omega), h1, l1]; omega)
        rw [e34, i33, h.1.1.1 44 _ (by unfold kpJ; omega)]
        exact p44 (k + 1) (by omega)
    · obtain ⟨h8, hV, ⟨hB, hA⟩, hN⟩ := h
      refine pw_bd (x_paramK (hP.jb hJ h8.1) h8.kj h1 hpt (by omega) h2 (by omega)) ?_
      rintro x35 X36 ⟨e36, e0, p35, k35⟩
      rw [e36]
      refine pw_ck (fun _ => pw_eq (fun X37 e37 => ?_))
      have h37 := h8.par k35 p35
      rw [← ixn h2, ← e37, ixn h2] at h37
      have kx37 : KVx X X37 := by rw [e37]; exact KVx_w ⟨hV, KXq.rf⟩ (by omega)
      have s37 : ∀ q, X37.1 57 q = X.1 57 q := fun q => by rw [e37, wI_ne _ _ _ _ _ _ (by omega)]
      have k37 : KTo X37 x35 e0 := k35.kx h8.kj kx37.2
      have ik : ix a1 = k := ixn h1
      have f135 : ∀ b0 : Int32, ((b0 = 0 ∧ (X37.1 57 k).toInt = 0 ∧ (X37.1 8 (ix x35)).toInt = 0) ∨ (b0 = 1 ∧ ¬ ((X37.1 57 k).toInt = 0 ∧ (X37.1 8 (ix x35)).toInt = 0))) → pw (f_judges_135 r37 (f_judges_80 r37 M) a1 b2 b0 a1 X37) Q := fun b0 hb => by
        unfold f_judges_135
        refine pw_ck (fun _ => pw_eq (fun X39 e39 => pw_let (ih (i + 1) _ X39 ?_ (by omega) ?_)))
        · rw [ti_add (by rw [h2, lo1]; omega) (by rw [h2, lo1]; omega), h2, lo1]; omega
        · rw [ik] at e39
          have kx39 : KXq X X39 := by rw [e39]; exact kx37.2.tr (KXq.of (fun e1 j q => wI_ne _ _ _ _ _ _ (by omega)))
          refine ⟨by rw [e39]; exact RJr.w57 (r := Sum.inl _) h37, by rw [e39]; exact KVa_w kx37.1 (by omega), ⟨hB, fun q b hb => (hA q b hb).n hV kx39 ?_⟩, ?_⟩
          · have := (List.getElem?_eq_some_iff.mp hb).1
            rw [e39, wI_ne _ _ _ _ _ _ (by omega)]
            exact s37 q
          · show AN X39 k (anp ps told k (i + 1))
            rw [anp_s p35, e39]
            exact hN.wr hV kx37 (s37 k) k37 hb
      have f130 : ¬ ((X37.1 57 k).toInt = 0 ∧ (X37.1 8 (ix x35)).toInt = 0) → pw (f_judges_130 r37 (f_judges_80 r37 M) a1 b2 a1 X37) Q := fun z => by
        unfold f_judges_130
        exact f135 1 (Or.inr ⟨rfl, z⟩)
      refine pw_ck (fun _ => ?_)
      rw [ik]
      refine pw_eq (fun x38 e38 => pw_ite (fun c38 => pw_ck (fun _ => pw_eq (fun x41 e41 => pw_ck (fun _ => pw_eq (fun x42 e42 => ?_))))) (fun c38 => f130 (fun z => c38 (by rw [e38]; exact z.1))))
      have v41 : x41 = x35 := by rw [e41, e37, wI_at]
      rw [v41] at e42
      rw [e38] at c38
      exact pw_ite (fun c42 => f135 0 (Or.inl ⟨rfl, c38, by rw [← e42]; exact c42⟩)) (fun c42 => f130 (fun z => c42 (by rw [e42]; exact z.2)))
theorem x_parts9 (hp : JPRE ch X0 ps told c po) : ∀ (M k : Nat) (G : List JG × List Bool) (a1 : Int32) (X : St) (P : Sum (List JG × List Bool) (Int × Int) → Prop), a1.toInt = (k : Int) → k ≤ ps.length → G.2.length = k → RG9 X0 X G → (∀ r, JALL ch ps told c (ps.length - k) k G r → P r) → pw (f_judges_37 M a1 X) (fun _ Y => ∃ r, P r ∧ RJf9 X0 Y r) := by
  have lo1 : (Int32.ofInt 1).toInt = 1 := by decide
  have hp0 := hp
  obtain ⟨hP, hW, hJ, hl, p18, p26, p44, hR⟩ := hp
  intro M
  induction M with
  | zero => exact fun _ _ _ _ _ _ _ _ _ _ => pw_none
  | succ M ih =>
    intro k G a1 X P h1 hk hGl hG hr
    have e : f_judges_37 (M + 1) = f_judges_37_s (f_judges_37 M) := by
      unfold f_judges_37
      exact lp_succ _ _ _
    rw [e]
    unfold f_judges_37_s
    refine pw_eq (fun x9 e9 => ?_)
    have v9 : x9.toInt = (ps.length : Int) := by rw [e9, hG.1.1.1 0 18 (by unfold kpJ; omega)]; exact p18
    refine pw_ite (fun c9 => ?_) (fun c9 => ?_)
    · have ek : ps.length - k = 0 := by omega
      rw [ek] at hr
      exact x_2109 (Or.inl ⟨G, hG, fun Y hY h4 => ⟨Sum.inl G, hr _ rfl, hY, h4⟩⟩)
    · have hlt : k < ps.length := by omega
      obtain ⟨m, hm⟩ : ∃ m, ps.length - k = m + 1 := ⟨ps.length - k - 1, by omega⟩
      rw [hm] at hr
      obtain ⟨p, hpt⟩ : ∃ p, ps[k]? = some p := ⟨_, List.getElem?_eq_getElem hlt⟩
      refine pw_bd x_well ?_
      rintro x14 X15 ⟨e15, w, _⟩
      rw [e15]
      refine pw_neg (fun z => (w.mp z) hG.1.2.1) (pw_eq (fun X16 e16 => pw_eq (fun X17 e17 => ?_)))
      have g16 : RG9 X0 X16 G := by rw [e16]; exact hG.w0 (by omega)
      have g17 : RG9 X0 X17 G := by rw [e17]; exact g16.w0 (by omega)
      refine pw_bd (x_ownK (hP.jb hJ g17.1.1) g17.1.1.2.1 h1 hpt) ?_
      rintro x18 X19 ⟨e19, k18⟩
      rw [e19]
      have j17 : RJ X0 X17 k ([], (fun x => ((pks ps told k).take 0)[x]?), anp ps told k 0, G.1) := g17.1.rj (by rw [e17, wI_ne _ _ _ _ _ _ (by omega), e16, wI_at]; exact h1) (by rw [e17, wI_at]; decide)
      refine pw_ck (fun _ => pw_eq (fun x20 e20 => pw_ck (fun _ => pw_eq (fun X21 e21 => ?_))))
      rw [ixn h1] at e21
      have j21 : RJ9 X0 X21 k G.2 ([], (fun x => ((pks ps told k).take 0)[x]?), anp ps told k 0, G.1) := by
        refine ⟨by rw [e21]; exact RJr.w57 (r := Sum.inl _) j17, by rw [e21]; exact KVa_w g17.2.1 (by omega), ⟨hGl, fun q b hb => (g17.2.2 q b hb).n g17.2.1 (by rw [e21]; exact KXq.of (fun e1 j q => wI_ne _ _ _ _ _ _ (by omega))) ?_⟩, ?_⟩
        · have := (List.getElem?_eq_some_iff.mp hb).1
          rw [e21, wI_ne _ _ _ _ _ _ (by omega)]
        · show AN X21 k (anp ps told k 0)
          intro cY
          have cX : CO X17 := cY.bk (by rw [e21]; exact KXq.of (fun e1 j q => wI_ne _ _ _ _ _ _ (by omega))) g17.2.1.1.2.2.1
          have a8 := any8k g17.2.1 cX k18
          have ez : anp ps told k 0 = decide ((3 : Int) ∈ oks ps told k) := by unfold anp; rw [List.take_zero, List.any_nil, Bool.or_false]
          rw [ez, decide_eq_false_iff_not, ← a8, e21, wI_at, ← e20]
          obtain ⟨zk, zk1, mk, zk2⟩ := k18
          have hlt18 : ((ix x18 : Nat) : Int) < (X17.1 0 13).toInt := by
            rw [ixn zk1]
            cases mk with
            | zero => exact zk2.elim
            | succ mk => rw [KDf] at zk2; exact zk2.1
          obtain ⟨cc1, cc2⟩ := cX _ hlt18
          obtain ⟨_, _, z8⟩ := g17.2.1.1.2.2.2 _ hlt18 cc1 cc2
          rw [← e20] at z8
          rcases z8 with z | z
          · rw [z]; exact ⟨fun _ => by decide, fun _ => nar8_0⟩
          · rw [z]; exact ⟨fun y => absurd y nar8_1, fun y => absurd y (by decide)⟩
      refine x_params9 (G1 := G.1) (B := G.2) hp0 hlt h1 (fun Y r hJR hY => ?_) BIG 0 0 X21 (by decide) (Nat.zero_le _) j21
      unfold f_judges_204
      refine pw_let ?_
      have nx : (a1 + Int32.ofInt 1).toInt = ((k + 1 : Nat) : Int) := by rw [ti_add (by rw [h1, lo1]; omega) (by rw [h1, lo1]; omega), h1, lo1]; omega
      cases r with
      | inl J =>
        have hY : RJ9 X0 Y k G.2 J := hY
        refine ih (k + 1) (J.2.2.2, G.2 ++ [J.2.2.1]) _ Y P nx (by omega) (by show (G.2 ++ [_]).length = k + 1; rw [List.length_append, List.length_singleton, hGl]) hY.rg (fun r h => hr r (Or.inl ⟨J, hJR, ?_⟩))
        rw [show ps.length - (k + 1) = m by omega] at h
        exact h
      | inr f =>
        have hY : RJB X0 Y ∧ (Y.1 0 9).toInt = f.1 ∧ (Y.1 0 10).toInt = f.2 ∧ ¬ f.1 = 0 := hY
        have hr1 := hr (Sum.inr f) (Or.inr ⟨f, hJR, rfl⟩)
        cases M with
        | zero => exact pw_none
        | succ M =>
          have e : f_judges_37 (M + 1) = f_judges_37_s (f_judges_37 M) := by
            unfold f_judges_37
            exact lp_succ _ _ _
          rw [e]
          unfold f_judges_37_s
          have bad : pw (f_judges_210 Y) (fun _ Y => ∃ r, P r ∧ RJf9 X0 Y r) := x_2109 (Or.inr ⟨f, hY, fun Z hZ => ⟨_, hr1, hZ⟩⟩)
          refine pw_eq (fun x9 e9 => pw_ite (fun _ => bad) (fun _ => pw_bd x_well ?_))
          rintro x14 X15 ⟨e15, w, _⟩
          rw [e15]
          exact pw_pos (w.mpr (by rw [hY.2.1]; exact hY.2.2.2)) bad
end RJ9S
