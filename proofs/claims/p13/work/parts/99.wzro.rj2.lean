/-! the reference's judge: faults, what must fit, functions of kinds -/
section RJ2S
variable {X0 X Y Z : St} {g j : Nat} {J : JS} {d d1 w : List Int} {G : JG}
theorem RJB.wr {e k : Nat} {v : Int32} (h : KJq X) (u : KU X) (q : ¬ kpJ e k) (q2 : ¬ (4 ≤ e ∧ e ≤ 9)) (q3 : ¬ (e = 0 ∧ (k = 13 ∨ k = 15))) : RJB X (wI X e k v) := by
  have r : ∀ e1 k1, ¬ (e1 = e ∧ k1 = k) → (wI X e k v).1 e1 k1 = X.1 e1 k1 := fun e1 k1 z => wI_ne _ _ _ _ _ _ (by omega)
  refine ⟨fun e1 k1 z => r e1 k1 (fun y => q (by rw [← y.1, ← y.2]; exact z)), h.cg (fun e1 k1 z => r e1 k1 (by omega)), (KGq.of (fun e1 k1 z => r e1 k1 (by omega))).2 u, KXq.of (fun e1 k1 z => r e1 k1 (by omega))⟩
theorem x_fail {p1 p2 : Int32} (h : RJ X0 X g J) (h1 : ¬ p1.toInt = 0) : pw (f_fails p1 p2 X) (fun _ Y => RJr X0 Y g (Sum.inr (p1.toInt, p2.toInt))) := by
  unfold f_fails
  refine pw_let (pw_pos h.2.1.1 (pw_eq (fun X2 e2 => pw_eq (fun X3 e3 => pw_ret ?_))))
  have b2 : RJB X X2 := by rw [e2]; exact RJB.wr h.kj h.ku (by unfold kpJ; omega) (by omega) (by omega)
  have b3 : RJB X2 X3 := by rw [e3]; exact RJB.wr b2.2.1 b2.2.2.1 (by unfold kpJ; omega) (by omega) (by omega)
  refine ⟨h.1.tr (b2.tr b3), ?_, ?_, h1⟩
  · rw [e3, wI_ne _ _ _ _ _ _ (by omega), e2, wI_at]
  · rw [e3, wI_at]
theorem RJ.set {v : Int32} {p : Nat} (h : RJ X0 X g J) (hl : 1 ≤ J.1.length) (hv : KTo X v w) (hp : p = J.1.length - 1) : RJ X0 (wI X 58 p v) g (jset w J) := by
  obtain ⟨h1, ⟨h9, h29, h30, h28⟩, h3, h4, h5⟩ := h
  have hJ := h1.2.1
  have b : RJB X (wI X 58 p v) := RJB.wr hJ h1.2.2.1 (by unfold kpJ; omega) (by omega) (by omega)
  have kx := b.2.2.2
  have r : ∀ e k, ¬ (e = 58 ∧ k = p) → (wI X 58 p v).1 e k = X.1 e k := fun e k z => wI_ne _ _ _ _ _ _ (by omega)
  have jl : (w :: J.1.tail).length = J.1.length := by rw [List.length_cons, List.length_tail]; omega
  refine ⟨h1.tr b, ⟨by rw [r 0 9 (by omega)]; exact h9, by rw [r 0 29 (by omega)]; exact h29, ?_, by rw [r 0 28 (by omega)]; exact h28⟩, fun i d hd => ?_, fun x d hd => by rw [r 59 _ (by omega)]; exact (h4 x d hd).kx hJ kx, fun i G hG => (h5 i G hG).kx hJ kx (fun e he => r e i (by omega))⟩
  · rw [r 0 30 (by omega)]
    show _ = ((w :: J.1.tail).length : Int)
    rw [jl]
    exact h30
  · show KTo (wI X 58 p v) ((wI X 58 p v).1 58 ((w :: J.1.tail).length - 1 - i)) d
    rw [jl]
    have hd : (w :: J.1.tail)[i]? = some d := hd
    have hi := (List.getElem?_eq_some_iff.mp hd).1
    rw [jl] at hi
    cases i with
    | zero =>
      have hd : w = d := Option.some.inj hd
      rw [Nat.sub_zero, ← hp, wI_at, ← hd]
      exact hv.kx hJ kx
    | succ i =>
      have hd : J.1.tail[i]? = some d := hd
      rw [List.getElem?_tail] at hd
      rw [r 58 _ (by omega)]
      exact (h3 (i + 1) d hd).kx hJ kx
theorem jset_hd (hl : 1 ≤ J.1.length) : jset (hdK J.1) J = J := by
  obtain ⟨K, r⟩ := J
  cases K with
  | nil => exact absurd hl (by show ¬ 1 ≤ 0; omega)
  | cons d K => rfl
theorem x_must {p1 p2 p3 p4 : Int32} {t : Int} (h : RJ X0 X g J) (hl : 1 ≤ J.1.length) (hw : KTo X p2 w) (h4 : p4.toInt = t) : pw (f_must p1 p2 p3 p4 X) (fun _ Y => ∃ r, jmeet g j p3.toInt t w J r ∧ RJr X0 Y g r) := by
  have l1 : (1 : Int32).toInt = 1 := by decide
  have l9 : (9 : Int32).toInt = 9 := by decide
  have h30 := h.2.1.2.2.1
  unfold f_must
  refine pw_eq (fun x1 e1 => pw_eq (fun x2 e2 => pw_ck (fun hc => pw_eq (fun x3 e3 => ?_))))
  have hc := hc.2
  have v2 : x2.toInt = (X.1 0 30).toInt - 1 := by
    have := (X.1 0 30).toInt_lt
    rw [e2, e1, ti_sub (by rw [h30, l1]; omega) (by rw [h30, l1]; omega), l1]
  obtain ⟨k3, i2⟩ := h.top hl v2 e3
  obtain ⟨z3, a3, b3⟩ := k3
  obtain ⟨zw, aw, bw⟩ := hw
  refine pw_bd (x_fits h.kj h.ku a3 aw b3 bw) ?_
  rintro x4 X5 ⟨f4, f5⟩
  have ky := RKy.fit h.kj h.ku f5
  have h5 := h.ky ky
  refine pw_ite (fun c => ?_) (fun c => ?_)
  · refine pw_bd (x_fail (p1 := 9) (p2 := p3) h5 (by decide)) (fun _ X10 h10 => pw_ret ⟨_, Or.inl ⟨f4.mp c, rfl⟩, ?_⟩)
    rw [l9] at h10
    exact h10
  · have ft : FT (hdK J.1) w := Classical.byContradiction (fun z => c (f4.mpr z))
    have k35 : KTo X5 x3 (hdK J.1) := ky.kt h.kj ⟨z3, a3, b3⟩
    have kw5 : KTo X5 p2 w := ky.kt h.kj ⟨zw, aw, bw⟩
    refine pw_bd (x_guards (j := j) h5 k35 kw5 h4) ?_
    rintro _ X6 ⟨hg, b6, r6⟩
    refine pw_eq (fun x7 e7 => pw_eq (fun x8 e8 => pw_ck (fun _ => pw_eq (fun X9 e9 => pw_ret ?_))))
    have i8 : ix x8 = J.1.length - 1 := by
      have c7 : x7 = X.1 0 30 := by rw [e7, r6 0 30 (by omega), ky.2 0 30 (by omega)]
      refine ixn ?_
      rw [e8, c7, ti_sub (by rw [h30, l1]; have := (X.1 0 30).toInt_lt; omega) (by rw [h30, l1]; omega), h30, l1]
      omega
    rw [i8] at e9
    have kw6 : KTo X6 p2 w := kw5.kx h5.kj b6.2.2.2
    rcases hg with ⟨he, hX⟩ | ⟨hn, hR⟩
    · refine ⟨Sum.inl J, Or.inr (Or.inl ⟨ft, he, rfl⟩), ?_⟩
      have hj : jset w J = J := by rw [← he]; exact jset_hd hl
      have : RJ X0 X9 g (jset w J) := by
        rw [e9]
        rw [hX] at kw6 ⊢
        exact h5.set hl kw6 rfl
      rw [hj] at this
      exact this
    · refine ⟨_, Or.inr (Or.inr ⟨ft, hn, rfl⟩), ?_⟩
      show RJ X0 X9 g _
      rw [e9]
      exact hR.set hl kw6 rfl
/-- a function of the kinds that stand in a row -/
theorem x_fun {ds : List (List Int)} {p3 : Int32} (hJ : KJq X) (hU : KU X) (h3 : p3.toInt = (ds.length : Int) + 1) (hl : ds.length ≤ 50) (hd : ∀ i e, ds[i]? = some e → KTo X (X.1 10 (3000 + i)) e) (h1 : KTo X (X.1 10 (3000 + ds.length)) d1) : pw (f_kindOf (5 : Int32) (3000 : Int32) p3 X) (fun r Y => RKy X Y ∧ KTo Y r ((5 + (ds.length : Int)) :: (ds.flatten ++ d1))) := by
  have l5 : (5 : Int32).toInt = 5 := by decide
  have l30 : (3000 : Int32).toInt = 3000 := by decide
  have i30 : ix (3000 : Int32) = 3000 := ixn (by decide)
  refine pw_mono (pw_and (x_kof hJ.1 (by decide) (by omega) (by rw [l30]; omega)) fw_kindOf) ?_
  rintro r Y ⟨hk, b⟩
  rw [l5, h3, i30] at hk
  have r10 : ∀ k, Y.1 10 k = X.1 10 k := fun k => b.1 10 k (show (2000 : Nat) ∉ Lw18 from by decide)
  have kx := hk.2.2.2.1
  have q18 : ∀ e k, cq e k ∉ Lw19 → cq e k ∉ Lw18 := fun e k z y => z (by
    unfold Lw18 at y
    unfold Lw19
    simp only [List.mem_cons, List.not_mem_nil, or_false] at y ⊢
    omega)
  have D : KD Y (ix r) ((5 + (ds.length : Int)) :: (ds.flatten ++ d1)) := by
    obtain ⟨z, a, c⟩ := h1
    refine KD.fun hk (fun i e he => ?_) (by rw [r10]; exact a) (KDk.oj hJ kx _ _ c)
    obtain ⟨z1, a1, c1⟩ := hd i e he
    exact ⟨z1, by rw [r10]; exact a1, KDk.oj hJ kx _ _ c1⟩
  refine ⟨⟨⟨fun e k q => b.1 e k (q18 e k (fq19 (Or.inl q))), hJ.kx hk.2.2.1 kx, hk.2.2.2.2 hU, kx⟩, fun e k q => b.1 e k (q18 e k (fq19 (Or.inr q)))⟩, ix r, (ixc hk.1.1).symm, D⟩
theorem RKy.w10 {k : Nat} {v : Int32} (h : KJq X) (u : KU X) : RKy X (wI X 10 k v) := ⟨RJB.wr h u (by unfold kpJ; omega) (by omega) (by omega), fun e1 k1 q => wI_ne _ _ _ _ _ _ (by omega)⟩
theorem anf_eq (n : Nat) : anf n = (5 + ((List.replicate n ([3] : List Int)).length : Int)) :: ((List.replicate n [3]).flatten ++ [3]) := by
  unfold anf
  rw [List.length_replicate]
  congr 1
  induction n with
  | zero => rfl
  | succ n ih =>
    rw [List.replicate_succ, ih, List.replicate_succ, List.flatten_cons, List.append_assoc]
    rfl
theorem x_anyF {p1 : Int32} {n : Nat} (hJ : KJq X) (hU : KU X) (h1 : p1.toInt = (n : Int)) (hn : n ≤ 40) : pw (f_anyFunction p1 X) (fun r Y => RKy X Y ∧ KTo Y r (anf n)) := by
  have l1 : (1 : Int32).toInt = 1 := by decide
  have lo1 : (Int32.ofInt 1).toInt = 1 := by decide
  have l30 : (3000 : Int32).toInt = 3000 := by decide
  have loop : ∀ (M i : Nat) (a2 : Int32) (Z : St), a2.toInt = (i : Int) → i ≤ n + 1 → RKy X Z → (∀ q, q < i → Z.1 10 (3000 + q) = (2 : Int32)) → pw (f_anyFunction_2 M p1 a2 Z) (fun r Y => RKy X Y ∧ KTo Y r (anf n)) := by
    intro M
    induction M with
    | zero => exact fun _ _ _ _ _ _ _ => pw_none
    | succ M ih =>
      intro i a2 Z h2 hi hZ h10
      have e : f_anyFunction_2 (M + 1) = f_anyFunction_2_s (f_anyFunction_2 M) := by
        unfold f_anyFunction_2
        exact lp_succ _ _ _
      rw [e]
      unfold f_anyFunction_2_s
      have hJZ := hZ.1.2.1
      have hUZ := hZ.1.2.2.1
      refine pw_ite (fun c => ?_) (fun c => ?_)
      · refine pw_eq (fun x1 e1 => ?_)
        have v1 : x1.toInt = ((List.replicate n ([3] : List Int)).length : Int) + 1 := by rw [e1, ti_add (by rw [h1, l1]; omega) (by rw [h1, l1]; omega), h1, l1, List.length_replicate]
        have t2 : KTo Z (2 : Int32) [3] := (KTo.pl hJZ).2.2
        refine pw_bd (x_fun (d1 := [3]) hJZ hUZ v1 (by rw [List.length_replicate]; omega) (fun q e he => ?_) (by rw [List.length_replicate, h10 n (by omega)]; exact t2)) ?_
        · have hq := (List.getElem?_eq_some_iff.mp he).1
          rw [List.length_replicate] at hq
          rw [h10 q (by omega), List.eq_of_mem_replicate (List.mem_of_getElem? he)]
          exact t2
        · rintro x2 X3 ⟨k3, t3⟩
          refine pw_ret ⟨hZ.tr k3, ?_⟩
          rw [anf_eq]
          exact t3
      · refine pw_eq (fun x4 e4 => pw_ck (fun _ => pw_eq (fun X5 e5 => pw_let (ih (i + 1) _ X5 ?_ (by omega) ?_ (fun q hq => ?_)))))
        · rw [ti_add (by rw [h2, lo1]; omega) (by rw [h2, lo1]; omega), h2, lo1]; omega
        · rw [e5]; exact hZ.tr (RKy.w10 hJZ hUZ)
        · have i4 : ix x4 = 3000 + i := by
            refine ixn ?_
            rw [e4, ti_add (by rw [h2, l30]; omega) (by rw [h2, l30]; omega), h2, l30]
            omega
          rw [i4] at e5
          by_cases z : q = i
          · rw [z, e5, wI_at]
          · rw [e5, wI_ne _ _ _ _ _ _ (by omega)]
            exact h10 q (by omega)
  unfold f_anyFunction
  exact loop BIG 0 0 X (by decide) (Nat.zero_le _) (RKy.rf hJ hU) (fun q hq => absurd hq (Nat.not_lt_zero _))
end RJ2S
