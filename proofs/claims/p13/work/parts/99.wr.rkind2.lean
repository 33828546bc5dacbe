/-! the reference reads a kind -/
/-- what is left of the text's own reading: none, or where it goes on -/
def HH {α : Type} (D : Prop) (C : α → Prop) (S : Option α) : Prop := (S = none → D) ∧ ∀ a, S = some a → C a
section HHS
variable {α β : Type} {D : Prop} {C C1 : α → Prop} {S : Option α}
theorem HH.n (h : HH D C none) : D := h.1 rfl
theorem HH.s {a : α} (h : HH D C (some a)) : C a := h.2 a rfl
theorem HH.b {A : Option β} {K : β → Option α} (h : HH D C (A.bind K)) : HH D (fun b => HH D C (K b)) A := by
  refine ⟨fun e => ?_, fun b e => ?_⟩
  · rw [e] at h
    exact h.1 rfl
  · rw [e] at h
    exact h
theorem HH.j {A : Option β} {K : β → Option α} (h : HH D (fun b => HH D C (K b)) A) : HH D C (A.bind K) := by
  cases A with
  | none => exact ⟨fun _ => h.1 rfl, fun a e => absurd e.symm (Option.some_ne_none _)⟩
  | some b => exact h.2 b rfl
theorem HH.m (h : HH D C S) (g : ∀ a, C a → C1 a) : HH D C1 S := ⟨h.1, fun a e => g a (h.2 a e)⟩
theorem HH.p {c : Prop} [Decidable c] {A B : Option α} (h : HH D C (if c then A else B)) (g : c) : HH D C A := by rw [if_pos g] at h; exact h
theorem HH.q {c : Prop} [Decidable c] {A B : Option α} (h : HH D C (if c then A else B)) (g : ¬ c) : HH D C B := by rw [if_neg g] at h; exact h
variable {ch : Tx} {o : Int} {q : Nat} {E : Nat → Prop} {t : Int}
theorem HH.en (h : HH D E (sEnter ch t o q)) (g : ty ch q = t ∧ o < 40) : E (nx ch q) := by
  unfold sEnter at h
  exact ((h.p g.1).p g.2).s
theorem HH.en0 (h : HH D E (sEnter ch t o q)) (g : ¬ (ty ch q = t ∧ o < 40)) : D := by
  unfold sEnter at h
  by_cases h1 : ty ch q = t
  · exact ((h.p h1).q (fun z => g ⟨h1, z⟩)).n
  · exact (h.q h1).n
theorem HH.wa (h : HH D E (sWant ch t q)) (g : ty ch q = t) : E (nx ch q) := by
  unfold sWant at h
  exact (h.p g).s
theorem HH.wa0 (h : HH D E (sWant ch t q)) (g : ¬ ty ch q = t) : D := by
  unfold sWant at h
  exact (h.q g).n
end HHS
section RKIND2
variable {ch : Tx} {n q : Nat} {X Y Z X0 : St} {o : Int} {sc : List Nm} {j N s : Nat}
/-- the kinds begun below stay -/
def KSt (d : Nat) (Y Z : St) : Prop := Z.1 0 17 = Y.1 0 17 ∧ (∀ k, k < d → Z.1 33 k = Y.1 33 k ∧ Z.1 34 k = Y.1 34 k) ∧ ∀ k : Nat, (k : Int) < (Y.1 0 17).toInt → Z.1 10 k = Y.1 10 k
theorem KSt.tn {d : Nat} (h : KSt d X Y) (t : TNq Y Z) : KSt d X Z := ⟨(t.c 17 (by decide)).trans h.1, fun k hk => ⟨(t.r 33 k (by decide)).trans (h.2.1 k hk).1, (t.r 34 k (by decide)).trans (h.2.1 k hk).2⟩, fun k hk => (t.r 10 k (by decide)).trans (h.2.2 k hk)⟩
def DQ (Q : Int32 → St → Prop) : Prop := ∀ r Z, wrX Z → Q r Z
def CKd (ch : Tx) (n : Nat) (sc : List Nm) (j N : Nat) (o : Int) (d : Nat) (a1 : Int32) (Y : St) (Q : Int32 → St → Prop) (a : Nat × List Int) : Prop := ∀ (z : Int32) (Z : St), 0 ≤ z.toInt → XS ch n Z a.1 o sc j N → KSt d Y Z → KGq Y Z → KD Z (ix z) a.2 → prK a1 z 0 Z Q
theorem XS.at17 (h : XS ch n X q o sc j N) {v : Int32} : XS ch n (_root_.Jvm.Pilot.CBlameCourtLaw_law_r8381_f30dd1.wI X 0 17 v) q o sc j N := h.wz (by decide)
theorem XS.kj (h : XS ch n X q o sc j N) : KJq X := h.2.2.2.1.2
theorem rowk_10 {p1 : Int32} : pw (f_rowOf p1 X) (fun _ Y => ∀ k, k < 3000 → Y.1 10 k = X.1 10 k) := by
  have i3 : ix (3000 : Int32) = 3000 := ixn (by decide)
  unfold f_rowOf
  rw [i3]
  refine pw_ck (fun _ => pw_eq (fun X1 e1 => ?_))
  refine pw_bd fw_kindOf (fun r Y g => pw_ret (fun k hk => ?_))
  rw [g.1 10 k (show (2000 : Nat) ∉ Lw18 from by decide), e1, wI_ne _ _ _ _ _ _ (by omega)]
theorem rk (sc : List Nm) (j N : Nat) : ∀ (m : Nat) (o : Int) (q d : Nat) (a1 : Int32) (Y : St) (Q : Int32 → St → Prop), XS ch n Y q o sc j N → a1.toInt = (d : Int) → (d : Int) ≤ o → 0 ≤ (Y.1 0 17).toInt ∧ (Y.1 0 17).toInt ≤ 5 * d → 0 ≤ o → o ≤ 40 → 41 ≤ o + m → HH (DQ Q) (CKd ch n sc j N o d a1 Y Q) (sK ch m o q) → prK a1 (-1) 0 Y Q := by
  intro m
  induction m with
  | zero => intro o q d a1 Y Q _ _ _ _ _ h40 hm; omega
  | succ m ih =>
  intro o q d a1 Y Q h ha hdo h17 ho h40 hm H
  have i17 := ixc h17.1
  have l1 : (1 : Int32).toInt = 1 := by decide
  have lm1 : (Int32.ofInt (-1)).toInt = -1 := by decide
  have lp1 : (Int32.ofInt 1).toInt = 1 := by decide
  have l41 : (41 : Int32).toInt = 41 := by decide
  have l40 : (40 : Int32).toInt = 40 := by decide
  have l44 : (44 : Int32).toInt = 44 := by decide
  have l91 : (91 : Int32).toInt = 91 := by decide
  have l93 : (93 : Int32).toInt = 93 := by decide
  have l14 : (14 : Int32).toInt = 14 := by decide
  have dead : DQ Q → ∀ M b1 b2 b3 W, wrX W → pw (f_kind_11 M b1 b2 b3 W) Q := fun hQ M b1 b2 b3 W hd => pw_mono (uw_kind_11 M b1 b2 b3 W hd) hQ
  -- what it gives
  have res : ∀ (ds : List (List Int)) (x : Int32) (q3 : Nat) (W : St), x.toInt = (d : Int) + 1 → o + 1 ≤ 40 → XS ch n W q3 (o + 1) sc j N → (W.1 33 d).toInt = 2 → W.1 34 d = Y.1 0 17 → (W.1 0 17).toInt = (Y.1 0 17).toInt + ds.length → ds.length ≤ 4 → (∀ k, k < d → W.1 33 k = Y.1 33 k ∧ W.1 34 k = Y.1 34 k) → (∀ k : Nat, (k : Int) < (Y.1 0 17).toInt → W.1 10 k = Y.1 10 k) → (∀ i e, ds[i]? = some e → ∃ k1 : Nat, (W.1 10 (ix (Y.1 0 17) + i)).toInt = (k1 : Int) ∧ KD W k1 e) → KGq Y W → HH (DQ Q) (CKd ch n sc j N o d a1 Y Q) ((sK ch m (o + 1) q3).bind fun g => some (g.1, (5 + (ds.length : Int)) :: (ds.flatten ++ g.2))) → prK x (-1) 0 W Q := by
    intro ds x q3 W hx ho1 hW w33 w34 w17 hds4 hlow hl10 hds hG H
    have hxl := Int32.toInt_lt x
    refine ih (o + 1) q3 (d + 1) x W Q hW (by omega) (by omega) (by omega) (by omega) ho1 (by omega) (H.b.m (fun g H => ?_))
    intro z Z hz hZ hK hGZ hDz
    refine prK_st (fun M => ?_)
    unfold f_kind_11_s
    refine pw_bd (q_well hZ.w0) ?_
    rintro x2 X3 ⟨rfl, h2⟩
    refine pw_neg h2 (pw_pos rfl (pw_pos hz (pw_neg (by omega) ?_)))
    refine pw_eq (fun x4 e4 => ?_)
    have v4 : x4.toInt = (d : Int) := by rw [e4, ti_sub (by rw [hx, l1]; omega) (by rw [hx, l1]; omega), hx, l1]; omega
    have i4 : ix x4 = d := ixn v4
    rw [i4]
    obtain ⟨k33, k34⟩ := hK.2.1 d (by omega)
    refine pw_ck (fun hc => pw_let ?_)
    rw [k33]
    refine pw_neg (by omega) ?_
    refine pw_ck (fun _ => pw_let ?_)
    refine pw_neg (by omega) ?_
    refine pw_let ?_
    refine pw_ck (fun hc17 => ?_)
    refine pw_eq (fun X8 e8 => ?_)
    refine pw_let (pw_let ?_)
    refine pw_eq (fun X11 e11 => ?_)
    have g8 : XS ch n X8 g.1 (o + 1) sc j N := by rw [e8]; exact hZ.wI (by omega)
    have g11 : XS ch n X11 g.1 (o + 1) sc j N := by rw [e11]; exact g8.at17
    refine pw_let ?_
    refine pw_eq (fun x13 e13 => ?_)
    have v13 : x13.toInt = o := by rw [e13, ti_sub (by rw [g11.2.1, l1]; omega) (by rw [g11.2.1, l1]; omega), g11.2.1, l1]; omega
    refine pw_eq (fun X14 e14 => ?_)
    have g14 : XS ch n X14 g.1 o sc j N := by rw [e14]; exact g11.w21 v13
    have r14 : ∀ k, X14.1 33 k = X3.1 33 k ∧ X14.1 34 k = X3.1 34 k := fun k => by
      rw [e14, wI_ne _ _ _ _ _ _ (by omega), wI_ne _ _ _ _ _ _ (by omega), e11, wI_ne _ _ _ _ _ _ (by omega), wI_ne _ _ _ _ _ _ (by omega), e8, wI_ne _ _ _ _ _ _ (by omega), wI_ne _ _ _ _ _ _ (by omega)]
      exact ⟨rfl, rfl⟩
    have z17 : (X3.1 0 17).toInt = (Y.1 0 17).toInt + ds.length := by rw [hK.1]; exact w17
    have c14 : (X14.1 0 17).toInt = (Y.1 0 17).toInt + ds.length + 1 := by
      rw [e14, wI_ne _ _ _ _ _ _ (by omega), e11, wI_at, e8, wI_ne _ _ _ _ _ _ (by omega), ti_add (by rw [z17, l1]; omega) (by rw [z17, l1]; omega), z17, l1]
    have iz : ix (X3.1 0 17) = ix (Y.1 0 17) + ds.length := by
      have := ixc (z := X3.1 0 17) (by omega)
      omega
    have t14 : ∀ k, ¬ k = ix (X3.1 0 17) → X14.1 10 k = X3.1 10 k := fun k hk => by rw [e14, wI_ne _ _ _ _ _ _ (by omega), e11, wI_ne _ _ _ _ _ _ (by omega), e8, wI_ne _ _ _ _ _ _ (by omega)]
    have t14z : X14.1 10 (ix (X3.1 0 17)) = z := by rw [e14, wI_ne _ _ _ _ _ _ (by omega), e11, wI_ne _ _ _ _ _ _ (by omega), e8, wI_at]
    have G14 : KGq X3 X14 := KGq.of (fun e k q => by rw [e14, wI_ne _ _ _ _ _ _ (by omega), e11, wI_ne _ _ _ _ _ _ (by omega), e8, wI_ne _ _ _ _ _ _ (by omega)])
    have a34 : X14.1 34 d = Y.1 0 17 := by rw [(r14 d).2, k34, w34]
    refine pw_ck (fun _ => pw_let (pw_let (pw_ck (fun _ => pw_let (pw_eq (fun x18 e18 => ?_))))))
    rw [a34] at e18
    have v18 : x18.toInt = (ds.length : Int) + 1 := by rw [e18, ti_sub (by rw [c14]; omega) (by rw [c14]; omega), c14]; omega
    rw [a34]
    have l5 : (5 : Int32).toInt = 5 := by decide
    refine pw_bd (pw_and (x_kof g14.kj.1 h17.1 (by omega) (by omega)) fw_kindOf) ?_
    rintro x19 X20 ⟨k19, f20⟩
    have h19 := k19.1.1
    have G20 : KGq X14 X20 := ⟨k19.2.2.2.1, k19.2.2.2.2⟩
    have t20 : ∀ k, X20.1 10 k = X14.1 10 k := fun k => f20.1 10 k (show (2000 : Nat) ∉ Lw18 from by decide)
    have g20 : XS ch n X20 g.1 o sc j N := g14.fq f20 (by decide) (G20.kj g14.kj k19.2.2.1)
    have G3 : KGq X3 X20 := G14.tr G20
    have kzn : ix z = ix z := rfl
    have zc := ixc hz
    have D20 : KD X20 (ix x19) ((5 + (ds.length : Int)) :: (ds.flatten ++ g.2)) := by
      rw [v18, l5] at k19
      refine KD.fun k19 (fun i e he => ?_) (k1 := ix z) (by rw [t20, ← iz, t14z]; omega) (KDk.oj hZ.kj G3.1 _ _ hDz)
      have hl := (List.getElem?_eq_some_iff.mp he).1
      obtain ⟨k1, y1, y2⟩ := hds i e he
      exact ⟨k1, by rw [t20, t14 _ (by omega), hK.2.2 _ (by omega)]; exact y1, KDk.oj hW.kj (hGZ.tr G3).1 _ _ y2⟩
    have r20 : ∀ k, X20.1 33 k = X3.1 33 k ∧ X20.1 34 k = X3.1 34 k := fun k => ⟨(f20.1 33 k (show (6600 : Nat) ∉ _ from by decide)).trans (r14 k).1, (f20.1 34 k (show (6800 : Nat) ∉ _ from by decide)).trans (r14 k).2⟩
    refine pw_ck (fun _ => pw_let ?_)
    refine pw_eq (fun X22 e22 => ?_)
    refine pw_eq (fun x23 e23 => ?_)
    have v23 : x23.toInt = (d : Int) := by rw [e23, ti_add (by rw [hx, lm1]; omega) (by rw [hx, lm1]; omega), hx, lm1]; omega
    have e1 : x23 = a1 := Int32.toInt_inj.mp (by rw [v23, ha])
    unfold f_kind_343
    rw [e1]
    have G22 : KGq X20 X22 := KGq.of (fun e k q => by rw [e22, wI_ne _ _ _ _ _ _ (by omega)])
    refine H.s x19 X22 h19 (by rw [e22]; exact g20.at17) ⟨?_, fun k hk => ?_, fun k hk => ?_⟩ ((hG.tr hGZ).tr (G3.tr G22)) (KDk.oj g20.kj G22.1 _ _ D20) M
    · rw [e22, wI_at, (r20 d).2, k34, w34]
    · rw [e22, wI_ne _ _ _ _ _ _ (by omega), wI_ne _ _ _ _ _ _ (by omega), (r20 k).1, (r20 k).2, (hK.2.1 k (by omega)).1, (hK.2.1 k (by omega)).2]
      exact hlow k hk
    · rw [e22, wI_ne _ _ _ _ _ _ (by omega), t20, t14 _ (by omega), hK.2.2 k (by omega)]
      exact hl10 k hk
  -- its params
  have args : ∀ (jj : Nat) (i : Nat) (ds : List (List Int)) (x : Int32) (q2 : Nat) (W : St), x.toInt = (d : Int) + 1 → o + 2 ≤ 40 → jj + i = 4 → ds.length = i → (jj = 0 → bgK (ty ch q2) = false) → XS ch n W q2 (o + 2) sc j N → (W.1 33 d).toInt = 1 → W.1 34 d = Y.1 0 17 → (W.1 0 17).toInt = (Y.1 0 17).toInt + i → (∀ k, k < d → W.1 33 k = Y.1 33 k ∧ W.1 34 k = Y.1 34 k) → (∀ k : Nat, (k : Int) < (Y.1 0 17).toInt → W.1 10 k = Y.1 10 k) → (∀ i e, ds[i]? = some e → ∃ k1 : Nat, (W.1 10 (ix (Y.1 0 17) + i)).toInt = (k1 : Int) ∧ KD W k1 e) → KGq Y W → HH (DQ Q) (CKd ch n sc j N o d a1 Y Q) ((sKL ch (sK ch m (o + 2)) jj q2).bind fun s => (sWant ch 41 s.1).bind fun q3 => (sK ch m (o + 1) q3).bind fun g => some (g.1, (5 + ((ds ++ s.2).length : Int)) :: ((ds ++ s.2).flatten ++ g.2))) → prK x (-1) 0 W Q := by
    intro jj
    induction jj with
    | zero =>
      intro i ds x q2 W hx ho2 hj hdl hb hW w33 w34 w17 hlow hl10 hds hG H
      refine ih (o + 2) q2 (d + 1) x W Q hW (by omega) (by omega) (by omega) (by omega) ho2 (by omega) ?_
      rw [sK_nb m (o + 2) q2 (hb rfl)]
      rw [sKL] at H
      exact ⟨fun _ => H.n, fun a e => absurd e.symm (Option.some_ne_none _)⟩
    | succ jj ihj =>
      intro i ds x q2 W hx ho2 hj hdl hb hW w33 w34 w17 hlow hl10 hds hG H
      have hxl := Int32.toInt_lt x
      rw [sKL] at H
      refine ih (o + 2) q2 (d + 1) x W Q hW (by omega) (by omega) (by omega) (by omega) ho2 (by omega) (H.b.b.m (fun g H => ?_))
      intro z Z hz hZ hK hGZ hDz
      refine prK_st (fun M => ?_)
      unfold f_kind_11_s
      refine pw_bd (q_well hZ.w0) ?_
      rintro x2 X3 ⟨rfl, h2⟩
      refine pw_neg h2 (pw_pos rfl (pw_pos hz (pw_neg (by omega) ?_)))
      refine pw_eq (fun x4 e4 => ?_)
      have v4 : x4.toInt = (d : Int) := by rw [e4, ti_sub (by rw [hx, l1]; omega) (by rw [hx, l1]; omega), hx, l1]; omega
      have i4 : ix x4 = d := ixn v4
      rw [i4]
      obtain ⟨k33, k34⟩ := hK.2.1 d (by omega)
      refine pw_ck (fun hc => pw_let ?_)
      rw [k33]
      refine pw_neg (by omega) ?_
      refine pw_ck (fun _ => pw_let ?_)
      refine pw_pos w33 ?_
      refine pw_let ?_
      refine pw_ck (fun hc17 => ?_)
      have hb1 := hc17.1
      have hb2 := hc17.2
      refine pw_eq (fun X25 e25 => ?_)
      refine pw_let ?_
      refine pw_eq (fun x27 e27 => ?_)
      refine pw_eq (fun X28 e28 => ?_)
      have g25 : XS ch n X25 g.1 (o + 2) sc j N := by rw [e25]; exact hZ.wI (by omega)
      have g28 : XS ch n X28 g.1 (o + 2) sc j N := by rw [e28]; exact g25.at17
      have r28 : ∀ k, X28.1 33 k = X3.1 33 k ∧ X28.1 34 k = X3.1 34 k := fun k => by
        rw [e28, wI_ne _ _ _ _ _ _ (by omega), wI_ne _ _ _ _ _ _ (by omega), e25, wI_ne _ _ _ _ _ _ (by omega), wI_ne _ _ _ _ _ _ (by omega)]
        exact ⟨rfl, rfl⟩
      have c25 : X25.1 0 17 = X3.1 0 17 := by rw [e25, wI_ne _ _ _ _ _ _ (by omega)]
      have v28 : (X28.1 0 17).toInt = (Y.1 0 17).toInt + (i + 1 : Nat) := by
        rw [e28, wI_at, e27, c25, ti_add (by rw [l1]; omega) (by rw [l1]; omega), l1, hK.1, w17]
        omega
      have iz : ix (X3.1 0 17) = ix (Y.1 0 17) + i := by
        have z17 : (X3.1 0 17).toInt = (Y.1 0 17).toInt + i := by rw [hK.1]; exact w17
        have := ixc (z := X3.1 0 17) (by omega)
        omega
      have t28 : ∀ k, ¬ k = ix (X3.1 0 17) → X28.1 10 k = X3.1 10 k := fun k hk => by rw [e28, wI_ne _ _ _ _ _ _ (by omega), e25, wI_ne _ _ _ _ _ _ (by omega)]
      have t28z : X28.1 10 (ix (X3.1 0 17)) = z := by rw [e28, wI_ne _ _ _ _ _ _ (by omega), e25, wI_at]
      have G28 : KGq X3 X28 := KGq.of (fun e k q => by rw [e28, wI_ne _ _ _ _ _ _ (by omega), e25, wI_ne _ _ _ _ _ _ (by omega)])
      have zc := ixc hz
      have l28 : ∀ k : Nat, (k : Int) < (Y.1 0 17).toInt → X28.1 10 k = Y.1 10 k := fun k hk => by
        rw [t28 _ (by omega), hK.2.2 k (by omega)]
        exact hl10 k hk
      have ds28 : ∀ i e, (ds ++ [g.2])[i]? = some e → ∃ k1 : Nat, (X28.1 10 (ix (Y.1 0 17) + i)).toInt = (k1 : Int) ∧ KD X28 k1 e := by
        intro i1 e he
        by_cases hl : i1 < ds.length
        · rw [List.getElem?_append_left hl] at he
          obtain ⟨k1, y1, y2⟩ := hds i1 e he
          exact ⟨k1, by rw [t28 _ (by omega), hK.2.2 _ (by omega)]; exact y1, KDk.oj hW.kj (hGZ.tr G28).1 _ _ y2⟩
        · have e2 : i1 = ds.length := by
            have := (List.getElem?_eq_some_iff.mp he).1
            rw [List.length_append, List.length_singleton] at this
            omega
          rw [e2, List.getElem?_append_right (Nat.le_refl _), Nat.sub_self] at he
          rw [← show g.2 = e from Option.some.inj he, e2, hdl, ← iz, t28z]
          exact ⟨ix z, by omega, KDk.oj hZ.kj G28.1 _ _ hDz⟩
      have G30 : KGq Y X28 := (hG.tr hGZ).tr G28
      have hlen : (ds ++ [g.2]).length = i + 1 := by rw [List.length_append, List.length_singleton]; omega
      refine pw_bd (q_isSign g28.1 (by decide)) ?_
      rintro x29 X30 ⟨rfl, h29⟩
      rw [l44] at h29
      refine pw_ite (fun c => ?_) (fun c => ?_)
      · have hn44 := h29.mp c
        have H := ((H.q hn44).s)
        refine pw_bd (x_closes g28 (by omega) (by decide)) ?_
        rintro _ X31 (⟨ht, g31, t31⟩ | ⟨ht, hd⟩)
        · refine pw_ck (fun _ => ?_)
          refine pw_eq (fun X32 e32 => ?_)
          unfold f_kind_343
          rw [show o + 2 - 1 = o + 1 by omega] at g31
          have G32 : KGq X30 X32 := (KGq.tn t31).tr (KGq.of (fun e k q => by rw [e32, wI_ne _ _ _ _ _ _ (by omega)]))
          have t32 : ∀ k, X32.1 10 k = X30.1 10 k := fun k => by rw [e32, wI_ne _ _ _ _ _ _ (by omega)]; exact t31.r 10 k (by decide)
          refine res (ds ++ [g.2]) x (nx ch g.1) X32 hx (by omega) (by rw [e32]; exact g31.wI (by omega)) (by rw [e32, wI_at]; decide) ?_ ?_ (by omega) (fun k hk => ?_) (fun k hk => by rw [t32]; exact l28 k hk) (fun i e he => ?_) (G30.tr G32) (H.b.wa ht) M
          · rw [e32, wI_ne _ _ _ _ _ _ (by omega), t31.r 34 d (by decide), (r28 d).2, k34, w34]
          · rw [e32, wI_ne _ _ _ _ _ _ (by omega), t31.c 17 (by decide), v28, hlen]
          · rw [e32, wI_ne _ _ _ _ _ _ (by omega), wI_ne _ _ _ _ _ _ (by omega), t31.r 34 k (by decide), t31.r 33 k (by decide), (r28 k).1, (r28 k).2, (hK.2.1 k (by omega)).1, (hK.2.1 k (by omega)).2]
            exact hlow k hk
          · obtain ⟨k1, y1, y2⟩ := ds28 i e he
            exact ⟨k1, by rw [t32]; exact y1, KDk.oj g28.kj G32.1 _ _ y2⟩
        · have hQ := H.b.wa0 ht
          refine pw_ck (fun _ => ?_)
          refine pw_eq (fun X32 e32 => ?_)
          exact dead hQ M _ _ _ X32 (by rw [e32]; exact wrX_w hd (by omega))
      · have h44 : ty ch g.1 = 44 := Classical.byContradiction (fun z => c (h29.mpr z))
        have H := (H.p h44)
        refine pw_bd (x_next g28) ?_
        rintro _ X33 ⟨g33, t33⟩
        refine pw_let ?_
        refine pw_ck (fun _ => pw_let ?_)
        refine pw_eq (fun x36 e36 => ?_)
        have r33 : ∀ k, X33.1 33 k = X3.1 33 k ∧ X33.1 34 k = X3.1 34 k := fun k => ⟨(t33.r 33 k (by decide)).trans (r28 k).1, (t33.r 34 k (by decide)).trans (r28 k).2⟩
        have v33 : (X33.1 0 17).toInt = (Y.1 0 17).toInt + (i + 1 : Nat) := by rw [t33.c 17 (by decide), v28]
        have w34' : X33.1 34 d = Y.1 0 17 := by rw [(r33 d).2, k34, w34]
        have v36 : x36.toInt = (i : Int) + 1 := by
          rw [e36, w34', ti_sub (by rw [v33]; omega) (by rw [v33]; omega), v33]
          omega
        refine pw_bd (x_fifth g33 x36) ?_
        unfold f_kind_343
        rintro _ X37 (⟨rfl, h5⟩ | ⟨h5, hd⟩)
        · have t37 : ∀ k, X37.1 10 k = X30.1 10 k := fun k => t33.r 10 k (by decide)
          refine ihj (i + 1) (ds ++ [g.2]) x (nx ch g.1) X37 hx ho2 (by omega) hlen (fun e => ?_) g33 (by rw [(r33 d).1, k33]; exact w33) w34' v33 (fun k hk => by rw [(r33 k).1, (r33 k).2, (hK.2.1 k (by omega)).1, (hK.2.1 k (by omega)).2]; exact hlow k hk) (fun k hk => by rw [t37]; exact l28 k hk) (fun i e he => by
            obtain ⟨k1, y1, y2⟩ := ds28 i e he
            exact ⟨k1, by rw [t37]; exact y1, KDk.oj g28.kj (KGq.tn t33).1 _ _ y2⟩) (G30.tr (KGq.tn t33)) ?_ M
          · refine nb.mpr (fun g1 => h5 ⟨?_, g1⟩)
            rw [v36]
            omega
          · refine (H.b.m (fun s H => ?_)).j
            have H := H.s
            rw [List.append_assoc, List.singleton_append]
            exact H
        · have e0 : jj = 0 := by omega
          rw [e0, sKL] at H
          exact dead H.n M _ _ _ X37 hd
  -- the kind itself
  refine prK_st (fun M => ?_)
  unfold f_kind_11_s
  refine pw_bd (q_well h.w0) ?_
  rintro x2 X3 ⟨rfl, h2⟩
  refine pw_neg h2 (pw_pos rfl (pw_neg (by decide) ?_))
  rw [sK] at H
  have hal := Int32.toInt_lt a1
  have deadq : ∀ W, wrX W → DQ Q → pw (f_kind_84 (f_kind_11 M) a1 (-1) 0 W) Q := fun W hd hQ => pw_mono (uw_kind_84 (fun q0 q1 q2 X hX => uw_kind_11 M q0 q1 q2 X hX) hd) hQ
  refine pw_bd (q_isSign h.1 (by decide)) ?_
  rintro x44 X45 ⟨rfl, h44⟩
  rw [l91] at h44
  refine pw_ite (fun c44 => ?_) (fun c44 => ?_)
  · have n91 := h44.mp c44
    refine pw_bd (q_isWord h.1 (by decide)) ?_
    rintro x46 X47 ⟨rfl, h46⟩
    rw [l14] at h46
    refine pw_ite (fun c46 => ?_) (fun c46 => ?_)
    · have n275 := h46.mp c46
      have H := (H.q (by omega)).q n91
      refine pw_bd (x_plain h) ?_
      rintro x48 X49 (⟨ht, h0, g, t⟩ | ⟨ht, hd⟩)
      · have ip : ix x48 = (ty ch q - 272).toNat := ixn (by omega)
        refine (H.p ht).s x48 X49 (by omega) g ⟨t.c 17 (by decide), fun k _ => ⟨t.r 33 k (by decide), t.r 34 k (by decide)⟩, fun k _ => t.r 10 k (by decide)⟩ (KGq.tn t) ?_ M
        have hp := g.kj.pl (i := (ty ch q - 272).toNat) (by omega)
        rw [ip]
        rw [show (((ty ch q - 272).toNat : Nat) : Int) + 1 = ty ch q - 271 by omega] at hp
        exact hp
      · exact dead (H.q ht).n M _ _ _ X49 hd
    · have y275 : ty ch q = 275 := by
        have := Classical.byContradiction (fun z => c46 (h46.mpr z))
        omega
      have H := H.p y275
      refine pw_bd (x_nests h ⟨ho, h40⟩) ?_
      rintro _ X50 (⟨ho1, g50, t50⟩ | ⟨ho1, hd⟩)
      · have H := H.b.en ⟨y275, ho1⟩
        refine pw_bd (q_well g50.w0) ?_
        rintro x51 X52 ⟨rfl, h51⟩
        refine pw_neg h51 ?_
        refine pw_bd (x_next g50) ?_
        rintro _ X62 ⟨g62, t62⟩
        refine pw_bd (x_opens g62 ⟨by omega, by omega⟩ (by decide)) ?_
        rintro _ X63 (⟨ht, g63, t63⟩ | ⟨ht, hd⟩)
        · have H := H.b.en ht
          have t := (t50.tr t62).tr t63
          rw [show o + 1 + 1 = o + 2 by omega] at g63
          unfold f_kind_84
          refine pw_ck (fun hc => ?_)
          have hc1 := hc.2
          rw [ixn ha]
          refine pw_eq (fun X53 e53 => ?_)
          refine pw_let ?_
          refine pw_ck (fun _ => ?_)
          refine pw_eq (fun X55 e55 => ?_)
          refine pw_eq (fun x56 e56 => ?_)
          have v56 : x56.toInt = (d : Int) + 1 := by rw [e56, ti_add (by rw [ha, lp1]; omega) (by rw [ha, lp1]; omega), ha, lp1]
          have g55 : XS ch n X55 (nx ch (nx ch q)) (o + 2) sc j N := by rw [e55, e53]; exact (g63.wI (by omega)).wI (by omega)
          have c17 : X55.1 0 17 = X47.1 0 17 := by rw [e55, wI_ne _ _ _ _ _ _ (by omega), e53, wI_ne _ _ _ _ _ _ (by omega)]; exact t.c 17 (by decide)
          have c33 : (X55.1 33 d).toInt = 1 := by rw [e55, wI_ne _ _ _ _ _ _ (by omega), e53, wI_at]; decide
          have c34 : X55.1 34 d = X47.1 0 17 := by rw [e55, wI_at, e53, wI_ne _ _ _ _ _ _ (by omega)]; exact t.c 17 (by decide)
          have low : ∀ k, k < d → X55.1 33 k = X47.1 33 k ∧ X55.1 34 k = X47.1 34 k := fun k hk => by
            rw [e55, wI_ne _ _ _ _ _ _ (by omega), wI_ne _ _ _ _ _ _ (by omega), e53, wI_ne _ _ _ _ _ _ (by omega), wI_ne _ _ _ _ _ _ (by omega)]
            exact ⟨t.r 33 k (by decide), t.r 34 k (by decide)⟩
          have G55 : KGq X47 X55 := (KGq.tn t).tr (KGq.of (fun e k q => by rw [e55, wI_ne _ _ _ _ _ _ (by omega), e53, wI_ne _ _ _ _ _ _ (by omega)]))
          have low10 : ∀ k : Nat, (k : Int) < (X47.1 0 17).toInt → X55.1 10 k = X47.1 10 k := fun k _ => by rw [e55, wI_ne _ _ _ _ _ _ (by omega), e53, wI_ne _ _ _ _ _ _ (by omega)]; exact t.r 10 k (by decide)
          refine pw_bd (q_isSign g55.1 (by decide)) ?_
          rintro x57 X58 ⟨rfl, h57⟩
          rw [l41] at h57
          refine pw_ite (fun c57 => ?_) (fun c57 => ?_)
          · have n41 := h57.mp c57
            rw [if_neg n41] at H
            exact args 4 0 [] x56 _ X58 v56 (by omega) rfl rfl (fun e => absurd e (by decide)) g55 c33 c34 (by rw [c17]; omega) low low10 (fun i e he => by rw [List.getElem?_nil] at he; exact absurd he.symm (Option.some_ne_none _)) G55 H M
          · have y41 : ty ch (nx ch (nx ch q)) = 41 := Classical.byContradiction (fun z => c57 (h57.mpr z))
            rw [if_pos y41] at H
            have H := (show HH _ _ ((sWant ch 41 (nx ch (nx ch q))).bind _) from H).b.wa y41
            refine pw_bd (x_closes g55 ⟨by omega, by omega⟩ (by decide)) ?_
            rintro _ X59 (⟨ht2, g59, t59⟩ | ⟨ht2, hd⟩)
            · refine pw_eq (fun x60 e60 => ?_)
              have v60 : x60.toInt = (d : Int) := by rw [e60, ti_sub (by rw [v56, l1]; omega) (by rw [v56, l1]; omega), v56, l1]; omega
              rw [ixn v60]
              refine pw_ck (fun _ => ?_)
              refine pw_eq (fun X61 e61 => ?_)
              rw [show o + 2 - 1 = o + 1 by omega] at g59
              have G61 : KGq X58 X61 := (KGq.tn t59).tr (KGq.of (fun e k q => by rw [e61, wI_ne _ _ _ _ _ _ (by omega)]))
              refine res [] x56 _ X61 v56 (by omega) (by rw [e61]; exact g59.wI (by omega)) (by rw [e61, wI_at]; decide) ?_ ?_ (by decide) (fun k hk => ?_) (fun k hk => by rw [e61, wI_ne _ _ _ _ _ _ (by omega), t59.r 10 k (by decide)]; exact low10 k hk) (fun i e he => by rw [List.getElem?_nil] at he; exact absurd he.symm (Option.some_ne_none _)) (G55.tr G61) H M
              · rw [e61, wI_ne _ _ _ _ _ _ (by omega), t59.r 34 d (by decide), c34]
              · rw [e61, wI_ne _ _ _ _ _ _ (by omega), t59.c 17 (by decide), c17, List.length_nil]
                omega
              · rw [e61, wI_ne _ _ _ _ _ _ (by omega), wI_ne _ _ _ _ _ _ (by omega), t59.r 33 k (by decide), t59.r 34 k (by decide)]
                exact low k hk
            · exact absurd (by rw [l41]; exact y41) ht2
        · exact deadq X63 hd (H.b.en0 ht)
      · refine pw_bd (q_isWell X50) ?_
        rintro x51 X52 ⟨rfl, h51⟩
        refine pw_pos (h51.mpr hd) ?_
        exact deadq X52 hd (H.b.en0 (fun z => ho1 z.2))
  · have y91 : ty ch q = 91 := Classical.byContradiction (fun z => c44 (h44.mpr z))
    have H := (H.q (by omega)).p y91
    refine pw_bd (x_opens h ⟨ho, h40⟩ (by decide)) ?_
    rintro _ X64 (⟨ht, g64, t64⟩ | ⟨ht, hd⟩)
    · have H := H.b.en ht
      refine pw_ck (fun hc => ?_)
      have hc1 := hc.2
      rw [ixn ha]
      refine pw_eq (fun X65 e65 => ?_)
      refine pw_eq (fun x66 e66 => ?_)
      have v66 : x66.toInt = (d : Int) + 1 := by rw [e66, ti_add (by rw [ha, lp1]; omega) (by rw [ha, lp1]; omega), ha, lp1]
      have g65 : XS ch n X65 (nx ch q) (o + 1) sc j N := by rw [e65]; exact g64.wI (by omega)
      have c65 : X65.1 0 17 = X45.1 0 17 := by rw [e65, wI_ne _ _ _ _ _ _ (by omega), t64.c 17 (by decide)]
      refine ih (o + 1) (nx ch q) (d + 1) x66 X65 Q g65 (by omega) (by omega) (by rw [c65]; omega) (by omega) (by omega) (by omega) (H.b.m (fun g H => ?_)) M
      intro z Z hz hZ hK hGZ hDz
      refine prK_st (fun M => ?_)
      unfold f_kind_11_s
      refine pw_bd (q_well hZ.w0) ?_
      rintro x2 X3 ⟨rfl, h2⟩
      refine pw_neg h2 (pw_pos rfl (pw_pos hz (pw_neg (by omega) ?_)))
      refine pw_eq (fun x4 e4 => ?_)
      have v4 : x4.toInt = (d : Int) := by rw [e4, ti_sub (by rw [v66, l1]; omega) (by rw [v66, l1]; omega), v66, l1]; omega
      rw [ixn v4]
      have k33 := (hK.2.1 d (by omega)).1
      refine pw_ck (fun hc => pw_let ?_)
      have w33 : (X3.1 33 d).toInt = 0 := by rw [k33, e65, wI_at]; decide
      refine pw_pos w33 ?_
      refine pw_bd (x_closes hZ ⟨by omega, by omega⟩ (by decide)) ?_
      rintro _ X38 (⟨ht2, g38, t38⟩ | ⟨ht2, hd⟩)
      · have H := (H.b.wa ht2).s
        refine pw_bd (q_well g38.w0) ?_
        rintro x39 X40 ⟨rfl, h39⟩
        refine pw_neg h39 ?_
        refine pw_bd (pw_and (x_rowk g38.kj.1) (pw_and fw_rowOf (rowk_10 (X := X40)))) ?_
        rintro x42 X43 ⟨⟨⟨q1, q2, q3⟩, h42, hrow⟩, f43, t43⟩
        rw [show o + 1 - 1 = o by omega] at g38
        have G43 : KGq X40 X43 := ⟨q2, q3⟩
        have g43 : XS ch n X43 _ o sc j N := g38.fq f43 (by decide) (G43.kj g38.kj q1)
        have zc := ixc hz
        have D43 : KD X43 (ix x42) (4 :: g.2) := hrow (ix z) g.2 (by omega) (KDk.oj hZ.kj (KGq.tn t38).1 _ _ hDz)
        have G65 : KGq X45 X65 := (KGq.tn t64).tr (KGq.of (fun e k q => by rw [e65, wI_ne _ _ _ _ _ _ (by omega)]))
        unfold f_kind_185 f_kind_343
        refine pw_eq (fun x41 e41 => ?_)
        have v41 : x41.toInt = (d : Int) := by rw [e41, ti_add (by rw [v66, lm1]; omega) (by rw [v66, lm1]; omega), v66, lm1]; omega
        have e1 : x41 = a1 := Int32.toInt_inj.mp (by rw [v41, ha])
        rw [e1]
        refine H x42 X43 h42 g43 ⟨?_, fun k hk => ?_, fun k hk => ?_⟩ ((G65.tr hGZ).tr ((KGq.tn t38).tr G43)) D43 M
        · rw [f43.1 0 17 (show (17 : Nat) ∉ _ from by decide), t38.c 17 (by decide), hK.1, e65, wI_ne _ _ _ _ _ _ (by omega), t64.c 17 (by decide)]
        · rw [f43.1 33 k (show (6600 : Nat) ∉ _ from by decide), f43.1 34 k (show (6800 : Nat) ∉ _ from by decide), t38.r 33 k (by decide), t38.r 34 k (by decide), (hK.2.1 k (by omega)).1, (hK.2.1 k (by omega)).2, e65, wI_ne _ _ _ _ _ _ (by omega), wI_ne _ _ _ _ _ _ (by omega), t64.r 33 k (by decide), t64.r 34 k (by decide)]
          exact ⟨rfl, rfl⟩
        · rw [t43 k (by omega), t38.r 10 k (by decide), hK.2.2 k (by rw [c65]; exact hk), e65, wI_ne _ _ _ _ _ _ (by omega), t64.r 10 k (by decide)]
      · have hQ := H.b.wa0 ht2
        refine pw_bd (q_isWell X38) ?_
        rintro x39 X40 ⟨rfl, h39⟩
        refine pw_pos (h39.mpr hd) ?_
        unfold f_kind_185 f_kind_343
        exact pw_let (dead hQ M _ _ _ _ hd)
    · have hQ := H.b.en0 ht
      refine pw_ck (fun hc => ?_)
      refine pw_eq (fun X65 e65 => ?_)
      refine pw_let ?_
      exact dead hQ M _ _ _ X65 (by rw [e65]; exact wrX_w hd (by omega))
/-- a kind -/
theorem x_kind (h : XS ch n X q o sc j N) (ho : 0 ≤ o ∧ o ≤ 40) : pw (f_kind X) (fun r Y => (∃ a, sK ch 64 o q = some a ∧ 0 ≤ r.toInt ∧ XS ch n Y a.1 o sc j N ∧ KGq X Y ∧ KD Y (ix r) a.2) ∨ (sK ch 64 o q = none ∧ wrX Y)) := by
  unfold f_kind
  refine pw_eq (fun X1 e1 => ?_)
  have g1 : XS ch n X1 q o sc j N := by rw [e1]; exact h.at17
  have G1 : KGq X X1 := KGq.of (fun e k q => by rw [e1, wI_ne _ _ _ _ _ _ (by omega)])
  have c17 : (X1.1 0 17).toInt = 0 := by rw [e1, wI_at]; rfl
  refine rk sc j N 64 o q 0 0 X1 _ g1 rfl (by omega) (by omega) ho.1 ho.2 (by omega) ⟨fun e r Z hd => Or.inr ⟨e, hd⟩, fun a ea => ?_⟩ BIG
  intro z Z hz hZ _ hGZ hDz
  have stop : ∀ W, XS ch n W a.1 o sc j N → KGq X W → KD W (ix z) a.2 → prK 0 z 1 W (fun r Y => (∃ a, sK ch 64 o q = some a ∧ 0 ≤ r.toInt ∧ XS ch n Y a.1 o sc j N ∧ KGq X Y ∧ KD Y (ix r) a.2) ∨ (sK ch 64 o q = none ∧ wrX Y)) := by
    intro W hW hGW hDW
    refine prK_st (fun M => ?_)
    unfold f_kind_11_s
    refine pw_bd (q_well hW.w0) ?_
    rintro x2 X3 ⟨rfl, h2⟩
    refine pw_neg h2 (pw_neg (by decide) ?_)
    unfold f_kind_346
    exact pw_pos hz (pw_ret (Or.inl ⟨a, ea, hz, hW, hGW, hDW⟩))
  refine prK_st (fun M => ?_)
  unfold f_kind_11_s
  refine pw_bd (q_well hZ.w0) ?_
  rintro x2 X3 ⟨rfl, h2⟩
  refine pw_neg h2 (pw_pos rfl (pw_pos hz (pw_pos rfl ?_)))
  exact stop X3 hZ (G1.tr hGZ) hDz M
end RKIND2
