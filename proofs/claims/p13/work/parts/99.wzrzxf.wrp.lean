/-! an asking is counted; a value is wrapped -/
section WRPS
variable {X Y Z X1 Y1 X2 Y2 : St} {r r1 r2 : Nat → Int32} {s w k k1 a b p g t p1 p2 dp : Int32} {y y1 : Int64} {ks : List (List Int)} {e c m n : Nat} {d d1 : List Int}
theorem fq19k (h : fq Lw19 X X1) : (∀ e k, 11 ≤ e → X1.1 e k = X.1 e k) ∧ (∀ e k, 1 ≤ e → e ≤ 3 → X1.1 e k = X.1 e k) ∧ (∀ k, k < 100 → ¬ k = 13 → ¬ k = 15 → X1.1 0 k = X.1 0 k) ∧ X1.2.2 = X.2.2 := by
  refine ⟨fun e k q => h.1 e k ?_, fun e k q q2 => h.1 e k ?_, fun k q q2 q3 => h.1 0 k ?_, h.2.2⟩
  · unfold cq Lw19
    rw [if_neg (by omega)]
    simp only [List.mem_cons, List.not_mem_nil, or_false]
    omega
  · unfold cq Lw19
    rw [if_neg (by omega)]
    simp only [List.mem_cons, List.not_mem_nil, or_false]
    omega
  · unfold cq Lw19
    rw [if_pos rfl]
    simp only [List.mem_cons, List.not_mem_nil, or_false]
    omega
theorem fq19_XF (h : fq Lw19 X X1) : XF X X1 c := by
  obtain ⟨a1, a2, a3, _⟩ := fq19k h
  intro e k q1 q2 q3 q4 q5 q6 q7
  by_cases z : e = 0
  · rw [z] at q1 q2 ⊢
    exact a3 k (q1 rfl) (by omega) (by omega)
  · by_cases z2 : e ≤ 3
    · exact a2 e k (by omega) z2
    · exact a1 e k (by omega)
theorem fw_anyF : pw (f_anyFunction p1 X) (fun _ Y => fq Lw19 X Y) := by
  have rf : fq Lw19 X X := ⟨fun _ _ _ => rfl, fun _ _ _ => rfl, rfl⟩
  have q18 : ∀ e k, cq e k ∉ Lw19 → cq e k ∉ Lw18 := fun e k z y => z (by
    unfold Lw18 at y
    unfold Lw19
    simp only [List.mem_cons, List.not_mem_nil, or_false] at y ⊢
    omega)
  have loop : ∀ (M : Nat) (a2 : Int32) (Z : St), fq Lw19 X Z → pw (f_anyFunction_2 M p1 a2 Z) (fun _ Y => fq Lw19 X Y) := by
    intro M
    induction M with
    | zero => exact fun _ _ _ => pw_none
    | succ M ih =>
      intro a2 Z hZ
      have e : f_anyFunction_2 (M + 1) = f_anyFunction_2_s (f_anyFunction_2 M) := by
        unfold f_anyFunction_2
        exact lp_succ _ _ _
      rw [e]
      unfold f_anyFunction_2_s
      refine pw_ite (fun _ => pw_let (pw_bd fw_kindOf ?_)) (fun _ => pw_let (pw_ck (fun _ => pw_eq (fun X5 e5 => pw_let (ih _ X5 ?_)))))
      · intro z Y h
        exact pw_ret ⟨fun e k q => (h.1 e k (q18 e k q)).trans (hZ.1 e k q), fun e k q => (h.2.1 e k (q18 e k q)).trans (hZ.2.1 e k q), h.2.2.trans hZ.2.2⟩
      · refine ⟨fun e k q => ?_, fun e k q => by rw [e5]; exact hZ.2.1 e k q, by rw [e5]; exact hZ.2.2⟩
        by_cases z : e = 10
        · rw [z] at q
          exact absurd (show cq 10 k ∈ Lw19 by unfold cq Lw19; rw [if_neg (by decide)]; decide) q
        · rw [e5, wI_ne _ _ _ _ _ _ (by omega)]
          exact hZ.1 e k q
  unfold f_anyFunction
  exact loop BIG 0 X rf
theorem n_row2 (hJ : KJq X) (hU : KU X) : pw (f_rowOf (2 : Int32) X) (fun z Y => fq Lw19 X Y ∧ (KJq Y ∧ KU Y ∧ KXq X Y) ∧ KTo Y z [4, 3]) := pw_mono (pw_and (x_row2 hJ hU (KTo.pl hJ).2.2) fw_rowOf) (fun z Y h => ⟨h.2, ⟨h.1.1.1.2.1, h.1.1.1.2.2.1, h.1.1.1.2.2.2⟩, h.1.2⟩)
theorem n_anyF (hJ : KJq X) (hU : KU X) (h1 : p1.toInt = (n : Int)) (hn : n ≤ 40) : pw (f_anyFunction p1 X) (fun z Y => fq Lw19 X Y ∧ (KJq Y ∧ KU Y ∧ KXq X Y) ∧ KTo Y z (anf n)) := pw_mono (pw_and (x_anyF hJ hU h1 hn) fw_anyF) (fun z Y h => ⟨h.2, ⟨h.1.1.1.2.1, h.1.1.1.2.2.1, h.1.1.1.2.2.2⟩, h.1.2⟩)
/-- one asking more -/
theorem SCr.count {i j : Nat} (hS : SCr X Y) (hg : 0 ≤ g.toInt ∧ g.toInt ≤ 39) (ht : 0 ≤ t.toInt ∧ t.toInt ≤ 39) (hi : (i : Int) = 41 * g.toInt + t.toInt) (hj : (j : Int) = 40 * g.toInt + t.toInt) : SCr (wI X 80 i (X.1 80 i + 1)) (wI Y 87 j (Y.1 87 j + 1)) := by
  obtain ⟨⟨a1, a2, a3, a4⟩, ⟨b1, b2⟩, c1, c2⟩ := hS
  have rx : ∀ e k, ¬ e = 80 → (wI X 80 i (X.1 80 i + 1)).1 e k = X.1 e k := fun e k z => wI_ne _ _ _ _ _ _ (by omega)
  have ry : ∀ e k, ¬ e = 87 → (wI Y 87 j (Y.1 87 j + 1)).1 e k = Y.1 e k := fun e k z => wI_ne _ _ _ _ _ _ (by omega)
  unfold SCr
  rw [rx 0 _ (by omega), rx 0 _ (by omega), rx 0 _ (by omega), rx 0 _ (by omega), rx 0 _ (by omega), rx 0 _ (by omega), ry 70 _ (by omega), ry 70 _ (by omega), ry 70 _ (by omega), ry 70 _ (by omega), ry 71 _ (by omega), ry 71 _ (by omega)]
  refine ⟨⟨a1, a2, a3, a4⟩, ⟨b1, b2⟩, fun i hi => by rw [ry 86 _ (by omega), rx 79 _ (by omega)]; exact c1 i hi, fun g1 t1 hg1 ht1 => ?_⟩
  by_cases z : 41 * g1 + t1 = i
  · have z2 : 40 * g1 + t1 = j := by omega
    rw [z, z2, wI_at, wI_at, ← z, ← z2, c2 g1 t1 hg1 ht1]
  · have z2 : ¬ 40 * g1 + t1 = j := by omega
    rw [wI_ne _ _ _ _ _ _ (by omega), wI_ne _ _ _ _ _ _ (by omega)]
    exact c2 g1 t1 hg1 ht1
/-- how many wrappings are around -/
theorem n_deep (hH : HR X Y r ks) (hs : s.toInt = 3 ∨ s.toInt = 4) (hv : VR X r s w y) : pw (f_deep s w X) (fun z X1 => X1 = X ∧ (0 ≤ z.toInt ∧ z.toInt ≤ 20) ∧ pw (g_Heap_wrappingOf y Y) (fun x Y1 => Y1 = Y ∧ ((x = -1 ∧ z = 0) ∨ (0 ≤ x.toInt ∧ Y.1 81 (ix x) = z)))) := by
  have l100 : (100 : Int32).toInt = 100 := by decide
  obtain ⟨⟨_, _, _, h36⟩, hT, _⟩ := hH
  unfold f_deep
  refine pw_ite (fun c3 => pw_ck (fun _ => pw_eq (fun x3 e3 => ?_))) (fun c3 => pw_pos (by omega) ?_)
  · obtain ⟨⟨v1, v2⟩, v3⟩ := (hv.to3 c3).i3
    have ev := ixc v1
    refine pw_ite (fun c => pw_ret ⟨rfl, by decide, ?_⟩) (fun c => pw_ck (fun _ => pw_eq (fun x4 e4 => pw_ret ⟨rfl, ?_⟩)))
    · rw [v3]
      unfold tvl
      rw [if_pos (by rw [← e3]; exact c)]
      exact pw_mono (l_wrapOfN (by decide)) (fun x Y1 q => ⟨q.1, Or.inl ⟨q.2, rfl⟩⟩)
    · have hw : wrp X (ix w) := by
        unfold wrp
        rw [← e3]
        exact c
      obtain ⟨b1, ⟨_, _, _, b5⟩, ⟨_, _, b6, b7⟩, _⟩ := (hT (ix w) (by omega)).2 hw
      rw [v3]
      unfold tvl
      rw [if_neg hw]
      rw [← h36] at b1
      exact ⟨by rw [e4]; omega, pw_mono (l_wrapOf2 b1) (fun x Y1 q => ⟨q.1, Or.inr ⟨by rw [q.2]; exact b1.1, by rw [q.2, b5, e4]⟩⟩)⟩
  · obtain ⟨v1, v2, v3⟩ := (hv.to4 (by omega)).i4
    refine pw_ite (fun c => pw_ret ⟨rfl, by decide, ?_⟩) (fun c => pw_eq (fun x1 e1 => pw_ck (fun _ => pw_eq (fun x2 e2 => pw_ret ⟨rfl, ?_⟩))))
    · rw [v1]
      unfold fvl
      rw [if_pos c]
      exact pw_mono (l_wrapOfN (by decide)) (fun x Y1 q => ⟨q.1, Or.inl ⟨q.2, rfl⟩⟩)
    · obtain ⟨v4, v5⟩ := v3 (by omega)
      have ev := ixc v2
      have i1 : ix x1 = ix w - 100 := by
        have := w.toInt_lt
        refine ixn ?_
        rw [e1, ti_sub (by rw [l100]; omega) (by rw [l100]; omega), l100]
        omega
      rw [i1] at e2
      obtain ⟨b1, ⟨_, _, _, b5⟩, ⟨_, _, b6, b7⟩, _⟩ := (hT (ix w - 100) (by omega)).2 v5
      rw [v1]
      unfold fvl
      rw [if_neg c]
      rw [← h36] at b1
      exact ⟨by rw [e2]; omega, pw_mono (l_wrapOf2 b1) (fun x Y1 q => ⟨q.1, Or.inr ⟨by rw [q.2]; exact b1.1, by rw [q.2, b5, e2]⟩⟩)⟩
end WRPS
