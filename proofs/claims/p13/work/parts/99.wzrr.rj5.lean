/-! the reference's judge: both branches of an if -/
section RJ5S
variable {X0 X Y Z : St} {g j k n : Nat} {J J1 : JS} {d d1 w : List Int} {c : List Ins} {S : List SE}
theorem RJ.pop {m : Nat} {v : Int32} (h : RJ X0 X g J) (hm : m ≤ J.1.length) (hv : v.toInt = (J.1.length : Int) - m) : RJ X0 (wI X 0 30 v) g (jpop m J) := by
  obtain ⟨h1, ⟨h9, h29, h30, h28⟩, h3, h4, h5⟩ := h
  have hJ := h1.2.1
  have b : RJB X (wI X 0 30 v) := RJB.wr hJ h1.2.2.1 (by unfold kpJ; omega) (by omega) (by omega)
  have kx := b.2.2.2
  have r : ∀ e k, ¬ (e = 0 ∧ k = 30) → (wI X 0 30 v).1 e k = X.1 e k := fun e k z => wI_ne _ _ _ _ _ _ (by omega)
  have jl : (J.1.drop m).length = J.1.length - m := List.length_drop
  refine ⟨h1.tr b, ⟨by rw [r 0 9 (by omega)]; exact h9, by rw [r 0 29 (by omega)]; exact h29, ?_, by rw [r 0 28 (by omega)]; exact h28⟩, fun i d hd => ?_, fun x d hd => by rw [r 59 _ (by omega)]; exact (h4 x d hd).kx hJ kx, fun i G hG => (h5 i G hG).kx hJ kx (fun e he => r e i (by omega))⟩
  · rw [wI_at, hv]
    show _ = ((J.1.drop m).length : Int)
    rw [jl]
    omega
  · have hd : (J.1.drop m)[i]? = some d := hd
    rw [List.getElem?_drop] at hd
    have hi := (List.getElem?_eq_some_iff.mp hd).1
    have := (h3 (m + i) d hd).kx hJ kx
    show KTo (wI X 0 30 v) ((wI X 0 30 v).1 58 ((J.1.drop m).length - 1 - i)) d
    rw [jl, show J.1.length - m - 1 - i = J.1.length - 1 - (m + i) by omega, r 58 _ (by omega)]
    exact this
theorem jgd_nil : jgd [] J = J := by
  obtain ⟨a, b, c, d⟩ := J
  show (a, b, c, d ++ []) = _
  rw [List.append_nil]
/-- a guard to any, where it is not any already -/
theorem x_gask {p1 p2 p4 p5 : Int32} {pl : Int} (h : RJ X0 X g J) (h2 : KTo X p2 d) (h4 : p4.toInt = pl) (h5 : p5 = X.1 0 29) : pw (f_guards p1 p2 (2 : Int32) p4 p5 X) (fun _ Y => RJ X0 Y g (jgd (if d = [3] then [] else [(j, pl, g, (g : Int), d, [3])]) J) ∧ RJB X Y ∧ ∀ e k, e = 58 ∨ e = 59 ∨ (e = 0 ∧ (k = 9 ∨ k = 29 ∨ k = 30)) → Y.1 e k = X.1 e k) := by
  refine pw_mono (x_guards (j := j) (t := (g : Int)) h h2 (KTo.pl h.kj).2.2 (by rw [h5]; exact h.2.1.2.1)) ?_
  rintro _ Y ⟨hg, b, r⟩
  refine ⟨?_, b, r⟩
  rcases hg with ⟨he, hX⟩ | ⟨hn, hR⟩
  · rw [if_pos he, jgd_nil, hX]
    exact h
  · rw [if_neg hn, ← h4]
    exact hR
theorem jgd_gd {G G1 : List JG} : jgd G1 (jgd G J) = jgd (G ++ G1) J := by
  obtain ⟨a, b, c, d⟩ := J
  show (a, b, c, (d ++ G) ++ G1) = (a, b, c, d ++ (G ++ G1))
  rw [List.append_assoc]
theorem x_join {p1 : Int32} {m j1 j2 : Nat} {S1 : List SE} (h : RJ X0 X g J) (hl : 2 ≤ J.1.length) (hm : ix p1 = m) (hS : S = (some j2, none, 0) :: (some j1, none, 0) :: S1) (h24 : GAT X0 c (ix (X.1 24 m)) j1) (h25 : GAT X0 c (ix (X.1 25 m)) j2) : pw (f_judgeJoin p1 X) (fun _ Y => ∃ k J1, jmix c g 2 S J k J1 ∧ RJ X0 Y g (jpush k J1)) := by
  have l1 : (1 : Int32).toInt = 1 := by decide
  have l2 : (2 : Int32).toInt = 2 := by decide
  have h30 := h.2.1.2.2.1
  have b30 := (X.1 0 30).toInt_lt
  obtain ⟨K, L⟩ := J
  match K, hl, h, h30 with
  | y :: x :: K, _, h, h30 =>
    have h30 : (X.1 0 30).toInt = ((K.length + 1 + 1 : Nat) : Int) := h30
    have kx := h.2.2.1 1 x rfl
    have ky := h.2.2.1 0 y rfl
    have kx : KTo X (X.1 58 K.length) x := kx
    have ky : KTo X (X.1 58 (K.length + 1)) y := ky
    unfold f_judgeJoin
    refine pw_eq (fun x1 e1 => pw_eq (fun x2 e2 => pw_eq (fun X3 e3 => pw_eq (fun x4 e4 => pw_ck (fun _ => pw_eq (fun x5 e5 => pw_eq (fun x6 e6 => pw_eq (fun x7 e7 => pw_ck (fun _ => pw_eq (fun x8 e8 => ?_))))))))))
    have v2 : x2.toInt = (K.length : Int) := by rw [e2, e1, ti_sub (by rw [h30, l2]; omega) (by rw [h30, l2]; omega), h30, l2]; omega
    have h3 : RJ X0 X3 g (jpop 2 (y :: x :: K, L)) := by
      rw [e3]
      exact h.pop (by show 2 ≤ K.length + 1 + 1; omega) (by rw [v2]; show _ = ((K.length + 1 + 1 : Nat) : Int) - ((2 : Nat) : Int); omega)
    have r3 : ∀ e k, ¬ (e = 0 ∧ k = 30) → X3.1 e k = X.1 e k := fun e k q => by rw [e3, wI_ne _ _ _ _ _ _ (by omega)]
    have c4 : x4.toInt = (K.length : Int) := by rw [e4, e3, wI_at]; exact v2
    have c6 : x6.toInt = (K.length : Int) := by rw [e6, e3, wI_at]; exact v2
    have i7 : ix x7 = K.length + 1 := by
      refine ixn ?_
      rw [e7, ti_add (by rw [c6, l1]; omega) (by rw [c6, l1]; omega), c6, l1]
      omega
    have b3 : RJB X X3 := by rw [e3]; exact RJB.wr h.kj h.ku (by unfold kpJ; omega) (by omega) (by omega)
    have k5 : KTo X3 x5 x := by rw [e5, ixn c4, r3 58 _ (by omega)]; exact kx.kx h.kj b3.2.2.2
    have k8 : KTo X3 x8 y := by rw [e8, i7, r3 58 _ (by omega)]; exact ky.kx h.kj b3.2.2.2
    have i58 := KTo.iff h3.ku k5 k8
    have tk : ((y :: x :: K).take 2) = [y, x] := rfl
    have ba : jbase 2 (y :: x :: K) = x := rfl
    have fin : ∀ (Z : St) (a : Int32) (k : List Int) (J1 : JS), RJ X0 Z g J1 → KTo Z a k → jmix c g 2 S (y :: x :: K, L) k J1 → pw (f_judgeJoin_112 a Z) (fun _ Y => ∃ k J1, jmix c g 2 S (y :: x :: K, L) k J1 ∧ RJ X0 Y g (jpush k J1)) := by
      intro Z a k J1 hZ hk hm
      unfold f_judgeJoin_112
      exact pw_bd (x_push hZ hk) (fun _ X9 h9 => pw_ret ⟨k, J1, hm, h9⟩)
    refine pw_ite (fun c5 => ?_) (fun c5 => ?_)
    · have exy := i58.mp c5
      unfold f_judgeJoin_101
      refine pw_pos c5 (fin X3 x5 x _ h3 k5 (Or.inl ⟨?_, ba.symm, rfl⟩))
      intro z hz
      have hz : z ∈ [y, x] := hz
      rw [ba]
      simp only [List.mem_cons, List.not_mem_nil, or_false] at hz
      rcases hz with e | e
      · rw [e, exy]
      · exact e
    · have nxy : ¬ x = y := fun z => c5 (i58.mpr z)
      have nl : ¬ jlike 2 (y :: x :: K) := fun z => nxy (z y (List.mem_cons_self ..)).symm
      have q0 : ∀ {e k : Nat}, kpJ e k → X3.1 e k = X.1 e k := fun q => b3.1 _ _ q
      refine pw_ck (fun _ => pw_eq (fun x10 e10 => pw_ck (fun _ => pw_eq (fun x11 e11 => pw_ck (fun _ => pw_eq (fun x12 e12 => pw_ck (fun _ => pw_eq (fun x13 e13 => pw_eq (fun x14 e14 => ?_)))))))))
      rw [hm, r3 24 _ (by omega)] at e10 e12
      have p13 : x13.toInt = plc c j1 := by
        rw [e13, e12, r3 21 _ (by omega), h.1.1 21 _ (by unfold kpJ; omega), h24.2]
        rfl
      refine pw_bd (x_gask (j := j1) h3 k5 p13 e14) ?_
      rintro _ X15 ⟨h15, b15, r15⟩
      have k815 : KTo X15 x8 y := k8.kx h3.kj b15.2.2.2
      have r16 : ∀ e k, kpJ e k → X15.1 e k = X.1 e k := fun e k q => (b15.1 e k q).trans (b3.1 e k q)
      refine pw_ck (fun _ => pw_eq (fun x16 e16 => pw_ck (fun _ => pw_eq (fun x17 e17 => pw_ck (fun _ => pw_eq (fun x18 e18 => pw_ck (fun _ => pw_eq (fun x19 e19 => pw_eq (fun x20 e20 => ?_)))))))))
      rw [hm, r16 25 _ (by unfold kpJ; omega)] at e16 e18
      have p19 : x19.toInt = plc c j2 := by
        rw [e19, e18, r16 21 _ (by unfold kpJ; omega), h.1.1 21 _ (by unfold kpJ; omega), h25.2]
        rfl
      refine pw_bd (x_gask (j := j2) h15 k815 p19 e20) ?_
      rintro _ X21 ⟨h21, b21, r21⟩
      unfold f_judgeJoin_101
      rw [jgd_gd] at h21
      refine pw_neg c5 (fin X21 2 [3] _ h21 (KTo.pl h21.kj).2.2 (Or.inr ⟨nl, rfl, ?_⟩))
      rw [hS]
      rfl
end RJ5S
