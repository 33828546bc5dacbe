/-! the first go of an asking; the whole of it -/
section ASK1S
variable {X Y Z X1 Y1 X2 Y2 : St} {r r1 r2 : Nat → Int32} {s w k k1 a b p g t p1 p2 ai b0 : Int32} {y y1 : Int64} {ks : List (List Int)} {e c m n i j : Nat} {d d1 : List Int} {u : Bool} {G : Nat → Int32}
/-- the asked kind is told no more: kinds may still be made -/
theorem n_167off (hJ : KJq X) (hU : KU X) (kd : KTo X k1 d1) (h40 : tkn d1 ≤ 40) (N : Nat) : pw (f_asks_167 (f_asks_9 N) p1 g t p k k1 (0 : Int32) X) (fun _ X1 => fq Lw19 X X1 ∧ KJq X1 ∧ KU X1 ∧ KXq X X1) := by
  have l1 : (1 : Int32).toInt = 1 := by decide
  have rf : fq Lw19 X X := ⟨fun _ _ _ => rfl, fun _ _ _ => rfl, rfl⟩
  obtain ⟨w1, w2⟩ := kd.srt
  have e217 : ∀ (b : Int32) (V : St), fq Lw19 X V ∧ KJq V ∧ KU V ∧ KXq X V → pw (f_asks_217 (f_asks_9 N) p1 g t p k1 (0 : Int32) b V) (fun _ X1 => fq Lw19 X X1 ∧ KJq X1 ∧ KU X1 ∧ KXq X X1) := by
    intro b V hV
    unfold f_asks_217
    exact pw_mono (n_ask0 N) (fun _ X1 e1 => by rw [e1]; exact hV)
  unfold f_asks_167
  refine pw_ck (fun _ => pw_eq (fun x10 e10 => pw_ite (fun c4 => pw_bd (n_row2 hJ hU) ?_) (fun c4 => pw_ck (fun _ => pw_eq (fun x11 e11 => pw_ite (fun c5 => pw_ck (fun _ => pw_eq (fun x12 e12 => pw_eq (fun x13 e13 => pw_bd (n_anyF (n := tkn d1) hJ hU ?_ h40) ?_)))) (fun c5 => e217 k X ⟨rf, hJ, hU, KXq.rf⟩))))))
  · rintro z V ⟨h1, ⟨h2, h3, h4⟩, _⟩
    exact e217 z V ⟨h1, h2, h3, h4⟩
  · have s4 : sot d1 = 4 := by
      rw [← e11] at w1
      omega
    rw [← e12, cps4 s4] at w2
    have := x12.toInt_lt
    rw [e13, ti_sub (by rw [l1]; omega) (by rw [l1]; omega), l1]
    omega
  · rintro z V ⟨h1, ⟨h2, h3, h4⟩, _⟩
    exact e217 z V ⟨h1, h2, h3, h4⟩
/-- both failed; kinds may still be made -/
theorem ASQ.fq (h : ASQ X Y r ks c y1 X1 Y1) (hO : OFr X1 Y1) (g1 : fq Lw19 X1 X2) (g2 : KJq X2 ∧ KU X2 ∧ KXq X1 X2) : ASQ X Y r ks c y1 X2 Y1 := by
  obtain ⟨⟨a1, a2⟩, ⟨a3, a4, a5⟩, a6, _⟩ := h
  obtain ⟨q1, q2, q3, q4⟩ := fq19k g1
  refine ⟨⟨a1.tr (fq19_XF g1), a2⟩, ⟨g2.1, g2.2.1, a5.tr g2.2.2⟩, a6.cg ⟨fun k hk => q3 k (by omega) (by omega) (by omega), fun k => q1 79 k (by omega), fun k => q1 80 k (by omega)⟩ ⟨fun _ _ => rfl, fun _ _ => rfl, fun _ => rfl, fun _ => rfl⟩, Or.inl ?_⟩
  unfold OFr
  rw [q3 43 (by omega) (by omega) (by omega), q3 44 (by omega) (by omega) (by omega)]
  exact hO
/-- kinds have been made meanwhile -/
theorem APR.fq (h : APR e X Y r ks c y) (g1 : fq Lw19 X X1) (g2 : KJq X1 ∧ KU X1 ∧ KXq X X1) : APR e X1 Y r ks c y ∧ XF X X1 c ∧ HG X X1 r r ∧ X1.1 60 c = X.1 60 c := by
  obtain ⟨hB, hS, hO, hH, hv⟩ := h
  obtain ⟨q1, q2, q3, q4⟩ := fq19k g1
  have hX : HXc X X1 := ⟨fun k hk => q3 k (by omega) (by omega) (by omega), fun e k q => q1 e k (by omega)⟩
  refine ⟨⟨hB.cf ⟨g2.1, g2.2.1⟩ CF.rf, hS.cg ⟨fun k hk => q3 k (by omega) (by omega) (by omega), fun k => q1 79 k (by omega), fun k => q1 80 k (by omega)⟩ ⟨fun _ _ => rfl, fun _ _ => rfl, fun _ => rfl, fun _ => rfl⟩, hO.cg (q3 43 (by omega) (by omega) (by omega)) (q3 44 (by omega) (by omega) (by omega)) (fun _ _ => rfl), hH.cg hB.2.1.1 g2.2.2 hX ⟨fun _ _ _ => rfl, fun _ _ _ => rfl⟩, ?_⟩, fq19_XF g1, HG.of hX, q1 60 c (by omega)⟩
  rw [q1 60 c (by omega), q1 61 c (by omega)]
  exact hv.up (HG.of hX)
theorem sot_anf (n : Nat) : sot (anf n) = 4 ∧ tkn (anf n) = n := by
  rw [anf_eq]
  refine ⟨?_, ?_⟩
  · show (if (5 + ((List.replicate n ([3] : List Int)).length : Int)) = 1 then (0 : Int) else if (5 + ((List.replicate n ([3] : List Int)).length : Int)) = 2 then 1 else if (5 + ((List.replicate n ([3] : List Int)).length : Int)) = 3 then 2 else if (5 + ((List.replicate n ([3] : List Int)).length : Int)) = 4 then 3 else 4) = 4
    rw [if_neg (by omega), if_neg (by omega), if_neg (by omega), if_neg (by omega)]
  · rw [tkn_fn, List.length_replicate]
/-- the class: to any -/
theorem l_askA (hB : ∀ Z, CF Y Z → RBk e X Z ks) (hO : ONr X Y) (hai : ai.toInt < 2) (h0 : 0 ≤ ai.toInt) (ka : KC ks a d) (ne : ¬ a.toInt = b.toInt) (nb : b.toInt = 2) (hg : 0 ≤ g.toInt ∧ g.toInt ≤ 39) (ht : 0 ≤ t.toInt ∧ t.toInt ≤ 39) (M : Nat) {Q : Int64 → St → Prop} (h : ∀ j : Nat, (j : Int) = 40 * g.toInt + t.toInt → (¬ sot d = 3 → ¬ sot d = 4 → Q y (wI Y 87 j (Y.1 87 j + 1))) ∧ ∀ (z a2 : Int32) (M1 : Nat), ((sot d = 3 ∧ z = 3) ∨ (sot d = 4 ∧ z.toInt = 4 + (tkn d : Int) ∧ tkn d ≤ 4)) → a2.toInt < 3 → pw (g_Running_ask_10 M1 y g t p a z a2 (wI Y 87 j (Y.1 87 j + 1))) Q) : pw (g_Running_ask_10 M y g t p a b ai Y) Q := by
  have l3 : (3 : Int32).toInt = 3 := by decide
  have l2 : (2 : Int32).toInt = 2 := by decide
  have lo1 : (Int32.ofInt 1).toInt = 1 := by decide
  cases M with
  | zero => exact pw_none
  | succ M =>
    have e1 : g_Running_ask_10 (M + 1) = g_Running_ask_10_s (g_Running_ask_10 M) := by
      unfold g_Running_ask_10
      exact lp_succ _ _ _
    rw [e1]
    unfold g_Running_ask_10_s
    refine pw_neg (by omega) (pw_let (pw_neg hO.2.1 (pw_neg ne (pw_bd (l_count hg ht) ?_))))
    rintro _ Y2 ⟨j, hj, e2⟩
    have hC : CF Y Y2 := by
      rw [e2]
      exact ⟨rfl, fun j k _ _ _ q => wI_ne _ _ _ _ _ _ (by omega), fun _ _ _ => rfl⟩
    have hB2 := hB Y2 hC
    obtain ⟨h1, h2⟩ := h j hj
    rw [← e2] at h1 h2
    refine pw_pos nb (pw_ck (fun _ => pw_to hB2.pe (pw_to (kYp hB2.1).1 (pw_bd (l_withAnys hB2 ka) ?_))))
    rintro x26 X27 ⟨e27, hx⟩
    rw [e27]
    rcases hx with ⟨q1, q2⟩ | ⟨q1, q2, q3⟩ | ⟨q1, q2, q3⟩
    · refine pw_neg (by rw [q2]; decide) ?_
      unfold g_Running_ask_162
      refine pw_eq (fun x21 e21 => h2 x26 x21 M (Or.inl ⟨q1, q2⟩) ?_)
      rw [e21, ti_add (by rw [lo1]; omega) (by rw [lo1]; omega), lo1]
      omega
    · refine pw_neg (by omega) ?_
      unfold g_Running_ask_162
      refine pw_eq (fun x21 e21 => h2 x26 x21 M (Or.inr ⟨q1, q2, q3⟩) ?_)
      rw [e21, ti_add (by rw [lo1]; omega) (by rw [lo1]; omega), lo1]
      omega
    · exact pw_pos (by rw [q3]; decide) (pw_ret (h1 q1 q2))
/-- the class: behind the look at a value from any -/
theorem l_ask124 (hB : RBk e X Y ks) (h0 : 0 ≤ ai.toInt) (hai : ai.toInt < 2) (kb : KC ks b d1) (M : Nat) {Q : Int64 → St → Prop} (h : (¬ sot d1 = 3 → ¬ sot d1 = 4 → Q y Y) ∧ ∀ (z a2 : Int32), ((sot d1 = 3 ∧ z = 3) ∨ (sot d1 = 4 ∧ z.toInt = 4 + (tkn d1 : Int) ∧ tkn d1 ≤ 4)) → a2.toInt < 3 → pw (g_Running_ask_10 M y g t p z b a2 Y) Q) : pw (g_Running_ask_124 (g_Running_ask_10 M) y g t p b ai Y) Q := by
  have l2 : (2 : Int32).toInt = 2 := by decide
  have lo1 : (Int32.ofInt 1).toInt = 1 := by decide
  obtain ⟨h1, h2⟩ := h
  unfold g_Running_ask_124
  refine pw_ck (fun _ => pw_to hB.pe (pw_to (kYp hB.1).1 (pw_bd (l_withAnys hB kb) ?_)))
  rintro x26 X27 ⟨e27, hx⟩
  rw [e27]
  rcases hx with ⟨q1, q2⟩ | ⟨q1, q2, q3⟩ | ⟨q1, q2, q3⟩
  · refine pw_neg (by rw [q2]; decide) ?_
    unfold g_Running_ask_162
    refine pw_eq (fun x21 e21 => h2 x26 x21 (Or.inl ⟨q1, q2⟩) ?_)
    rw [e21, ti_add (by rw [lo1]; omega) (by rw [lo1]; omega), lo1]
    omega
  · refine pw_neg (by omega) ?_
    unfold g_Running_ask_162
    refine pw_eq (fun x21 e21 => h2 x26 x21 (Or.inr ⟨q1, q2, q3⟩) ?_)
    rw [e21, ti_add (by rw [lo1]; omega) (by rw [lo1]; omega), lo1]
    omega
  · exact pw_pos (by rw [q3]; decide) (pw_ret (h1 q1 q2))
end ASK1S
