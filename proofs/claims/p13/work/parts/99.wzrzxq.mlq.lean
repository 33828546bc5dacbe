/-! several cells are asked one after another: the arguments of a call -/
def XFm (X X1 : St) (lo hi : Nat) : Prop := ∀ e k, (e = 0 → k < 100) → ¬ (e = 0 ∧ (k = 13 ∨ k = 15 ∨ k = 33 ∨ k = 36 ∨ k = 37 ∨ k = 43 ∨ k = 44 ∨ k = 45)) → ¬ (4 ≤ e ∧ e ≤ 10) → ¬ (e = 61 ∧ lo ≤ k ∧ k < hi) → ¬ e = 64 → ¬ (67 ≤ e ∧ e ≤ 73) → ¬ (e = 76 ∨ e = 80) → X1.1 e k = X.1 e k
def CFm (Y Y1 : St) (lo hi : Nat) : Prop := Y1.2.2 = Y.2.2 ∧ (∀ j k, ¬ (j = 70 ∧ (4 ≤ k ∧ k ≤ 7)) → ¬ (j = 71 ∧ k = 2) → ¬ (76 ≤ j ∧ j ≤ 81) → ¬ j = 87 → Y1.1 j k = Y.1 j k) ∧ ∀ j k, ¬ j = 75 → ¬ (j = 84 ∧ lo ≤ k ∧ k < hi) → Y1.2.1 j k = Y.2.1 j k
/-- cells lo .. hi - 1 of the reference; q further in the class -/
def MLQ (X Y : St) (r : Nat → Int32) (ks : List (List Int)) (lo hi q : Nat) (Z V : St) : Prop := (XFm X Z lo hi ∧ CFm Y V (lo + q) (hi + q)) ∧ (KJq Z ∧ KU Z ∧ KXq X Z) ∧ SCr Z V ∧ (OFr Z V ∨ (ONr Z V ∧ ∃ r1, HG X Z r r1 ∧ HR Z V r1 ks ∧ ∀ j, lo ≤ j → j < hi → VR Z r1 (Z.1 60 j) (Z.1 61 j) (V.2.1 84 (j + q))))
section MLQS
variable {X Y Z X1 Y1 X2 Y2 V V1 Z1 : St} {r r1 r2 : Nat → Int32} {s w k a b p p1 p2 v : Int32} {y y1 : Int64} {ks : List (List Int)} {e c m n i j lo hi q : Nat} {d d1 : List Int}
theorem RBk.cfm (h : RBk e X Y ks) (hx : KJq X1 ∧ KU X1) (g : CFm Y Y1 lo hi) : RBk e X1 Y1 ks := by
  obtain ⟨a1, a2, ⟨a3, a4⟩, a5⟩ := h
  exact ⟨a1, hx, ⟨a3.cg (fun i k q1 q2 _ => g.2.1 i k (by omega) (by omega) (by omega) (by omega)), a4⟩, by rw [g.1]; exact a5⟩
theorem PRm.tom (h : PRm e X Y) (he : e = 2 ∨ e = 24) (hX : XFm X X1 lo hi) (hC : CFm Y Y1 m n) : PRm e X1 Y1 := by
  obtain ⟨h1, h2, h3⟩ := h
  have r18 : X1.1 0 18 = X.1 0 18 := hX 0 18 (fun _ => by omega) (by omega) (by omega) (by omega) (by omega) (by omega) (by omega)
  unfold PRm
  rw [r18]
  refine ⟨h1, ?_, fun k hk => ?_⟩
  · rw [hC.2.1 e 1 (by rcases he with z | z <;> omega) (by rcases he with z | z <;> omega) (by rcases he with z | z <;> omega) (by rcases he with z | z <;> omega)]
    exact h2
  · rw [hC.2.1 (e + 13) k (by rcases he with z | z <;> omega) (by rcases he with z | z <;> omega) (by rcases he with z | z <;> omega) (by rcases he with z | z <;> omega), hX 15 k (fun q => by omega) (by omega) (by omega) (by omega) (by omega) (by omega) (by omega)]
    exact h3 k hk
theorem MLQ.apr (hB : RBk e X Y ks) (h : MLQ X Y r ks lo hi q Z V) (hO : ONr Z V) : ∃ r1, HG X Z r r1 ∧ ∀ i, lo ≤ i → i < hi → APR e Z V r1 ks i (V.2.1 84 (i + q)) := by
  obtain ⟨⟨a1, a2⟩, ⟨a3, a4, a5⟩, a6, a7⟩ := h
  rcases a7 with a7 | ⟨_, r1, b1, b2, b3⟩
  · exact absurd a7.2.1 hO.2.1
  · exact ⟨r1, b1, fun i h1 h2 => ⟨hB.cfm ⟨a3, a4⟩ a2, a6, hO, b2, b3 i h1 h2⟩⟩
theorem MLQ.on (h : MLQ X Y r ks lo hi q Z V) (hz : (Z.1 0 43).toInt < 0) : ONr Z V := by
  rcases h.2.2.2 with q | q
  · have := q.1
    omega
  · exact q.1
theorem MLQ.of (h : MLQ X Y r ks lo hi q Z V) (hz : ¬ (Z.1 0 43).toInt < 0) : OFr Z V := by
  rcases h.2.2.2 with q | q
  · exact q
  · exact absurd q.1.1.1 hz
/-- one of the cells has been asked, and the class has put the value back -/
theorem MLQ.step (hB : RBk e X Y ks) (h : MLQ X Y r ks lo hi q Z V) (hG : HG X Z r r1) (hA : ∀ i, lo ≤ i → i < hi → APR e Z V r1 ks i (V.2.1 84 (i + q))) (hi1 : lo ≤ i) (hi2 : i < hi) (g : ASQ Z V r1 ks i y1 Z1 V1) : MLQ X Y r ks lo hi q Z1 (wL V1 84 (i + q) y1) := by
  obtain ⟨⟨a1, a2⟩, ⟨a3, a4, a5⟩, a6, a7⟩ := h
  obtain ⟨⟨b1, b2⟩, ⟨b3, b4, b5⟩, b6, b7⟩ := g
  refine ⟨⟨fun e k q1 q2 q3 q4 q5 q6 q7 => ?_, b2.1.trans a2.1, fun j k q1 q2 q3 q4 => (b2.2.1 j k q1 q2 q3 q4).trans (a2.2.1 j k q1 q2 q3 q4), fun j k q1 q2 => ?_⟩, ⟨b3, b4, a5.tr b5⟩, b6.cg ⟨fun _ _ => rfl, fun _ => rfl, fun _ => rfl⟩ ⟨fun _ _ => rfl, fun _ _ => rfl, fun _ => rfl, fun _ => rfl⟩, ?_⟩
  · exact (b1 e k q1 q2 q3 (by omega) q5 q6 q7).trans (a1 e k q1 q2 q3 q4 q5 q6 q7)
  · rw [wL_ne _ _ _ _ _ _ (by omega)]
    exact (b2.2.2 j k q1).trans (a2.2.2 j k q1 q2)
  · rcases b7 with b7 | ⟨c1, r2, c2, c3, c4⟩
    · exact Or.inl b7
    · refine Or.inr ⟨c1.cg rfl rfl (fun _ _ => rfl), r2, hG.tr c2, c3.cg b3 KXq.rf ⟨fun _ _ => rfl, fun _ _ _ => rfl⟩ ⟨fun _ _ _ => rfl, fun e k z => wL_ne _ _ _ _ _ _ (by omega)⟩, fun j h1 h2 => ?_⟩
      by_cases z : j = i
      · rw [z, wL_at]
        exact c4
      · rw [wL_ne _ _ _ _ _ _ (by omega), b1 60 j (fun q => by omega) (by omega) (by omega) (by omega) (by omega) (by omega) (by omega), b1 61 j (fun q => by omega) (by omega) (by omega) (by omega) (by omega) (by omega) (by omega), b2.2.2 84 (j + q) (by omega)]
        exact (hA j h1 h2).2.2.2.2.up c2
/-- kinds of params on both sides -/
theorem KC.pm (hB : RBk e X Y ks) (h : KC ks a d) (h2 : p2.toInt = (i : Int)) (hi : i < tkn d) : pw (g_Kinds_paramOf (e + 1) a p2 Y) (fun z Y1 => Y1 = Y ∧ KC ks z (prm d i)) := by
  obtain ⟨z, h1, h3⟩ := h
  refine pw_mono (kk_paramOf hB.o3 hB.2.2.1.1 h1 h3 h2 hi) (fun x Y1 q => ⟨q.1, ?_⟩)
  obtain ⟨_, j, j1, j2, _⟩ := q
  exact ⟨j, j1, j2⟩
theorem MLQ.stepO (h : MLQ X Y r ks lo hi q Z V) (hO : OFr Z V) (hi1 : lo ≤ i) (hi2 : i < hi) : MLQ X Y r ks lo hi q Z (wL V 84 (i + q) y1) := by
  obtain ⟨⟨a1, a2⟩, a3, a6, a7⟩ := h
  refine ⟨⟨a1, a2.1, a2.2.1, fun j k q1 q2 => ?_⟩, a3, a6.cg ⟨fun _ _ => rfl, fun _ => rfl, fun _ => rfl⟩ ⟨fun _ _ => rfl, fun _ _ => rfl, fun _ => rfl, fun _ => rfl⟩, Or.inl hO⟩
  rw [wL_ne _ _ _ _ _ _ (by omega)]
  exact a2.2.2 j k q1 q2
theorem l_parId {o : Nat} : pw (g_Kinds_paramOf o p p2 X) (fun _ Y => Y = X) := by
  unfold g_Kinds_paramOf
  exact pw_ite (fun _ => pw_ret rfl) (fun _ => pw_let (pw_ite (fun _ => pw_ret rfl) (fun _ => pw_ite (fun _ => pw_ret rfl) (fun _ => pw_let (pw_ck (fun _ => pw_let (pw_ite (fun _ => pw_ret rfl) (fun _ => pw_let (pw_let (pw_let (pw_ck (fun _ => pw_let (pw_ret rfl)))))))))))))
theorem l_askOffP (h : (Y.1 70 4).toInt = 0) (hp : ¬ p2.toInt = -1) : pw (g_Running_askInto w p2 y Y) (fun _ Y1 => Y1 = Y) := by
  have q : ∀ (kk : Int32) (v : Int32), pw (g_Running_askInto_85 w y kk v Y) (fun _ Y1 => Y1 = Y) := by
    intro kk v
    unfold g_Running_askInto_85
    refine pw_ck (fun _ => pw_let (pw_ck (fun _ => pw_let (pw_ck (fun _ => pw_let (pw_bd (l_askOff h) ?_))))))
    rintro y12 X13 ⟨e13, _⟩
    rw [e13]
    exact pw_ret rfl
  unfold g_Running_askInto
  refine pw_ck (fun _ => pw_let (pw_let (pw_neg hp (pw_ck (fun _ => pw_let (pw_bd l_parId ?_))))))
  intro x18 X19 e19
  rw [e19]
  unfold g_Running_askInto_46
  refine pw_neg hp (pw_ck (fun _ => pw_let (pw_bd l_parId ?_)))
  intro x15 X16 e16
  rw [e16]
  exact q _ _
theorem l_intoP (hB : RBk e X Y ks) (hp : p2.toInt = (i : Int)) (kd : KC ks (Y.1 76 (ix w)) d) (kd1 : KC ks (Y.1 77 (ix w)) d1) (h1 : i < tkn d) (h2 : i < tkn d1) : pw (g_Running_askInto w p2 y Y) (fun y1 Y1 => ∃ q : Int32 × Int32, KC ks q.1 (prm d1 i) ∧ KC ks q.2 (prm d i) ∧ g_Running_ask y q.1 q.2 (Y.1 79 (ix w)) (Y.1 78 (ix w)) (Y.1 80 (ix w)) Y = some (y1, Y1)) := by
  have h3 : ∀ (kk vv : Int32), KC ks kk (prm d1 i) → KC ks vv (prm d i) → pw (g_Running_askInto_85 w y kk vv Y) (fun y1 Y1 => ∃ q : Int32 × Int32, KC ks q.1 (prm d1 i) ∧ KC ks q.2 (prm d i) ∧ g_Running_ask y q.1 q.2 (Y.1 79 (ix w)) (Y.1 78 (ix w)) (Y.1 80 (ix w)) Y = some (y1, Y1)) := by
    intro kk vv k1 k2
    unfold g_Running_askInto_85
    refine pw_ck (fun _ => pw_let (pw_ck (fun _ => pw_let (pw_ck (fun _ => pw_let (pw_bd (R := fun y1 Y1 => g_Running_ask y kk vv (Y.1 79 (ix w)) (Y.1 78 (ix w)) (Y.1 80 (ix w)) Y = some (y1, Y1)) (fun _ _ q => q) (fun y12 X13 hq => pw_ret ⟨(kk, vv), k1, k2, hq⟩)))))))
  unfold g_Running_askInto
  refine pw_ck (fun _ => pw_to hB.pe (pw_to (kYp hB.1).1 (pw_neg (by omega) (pw_ck (fun _ => pw_let (pw_bd (kd1.pm hB hp h2) ?_))))))
  rintro x18 X19 ⟨e19, k18⟩
  rw [e19]
  unfold g_Running_askInto_46
  refine pw_neg (by omega) (pw_ck (fun _ => pw_let (pw_bd (kd.pm hB hp h1) ?_)))
  rintro x15 X16 ⟨e16, k15⟩
  rw [e16]
  exact h3 x18 x15 k18 k15
end MLQS
