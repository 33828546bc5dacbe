/-! a value is asked, on both sides -/
section ASKS
variable {X Y Z X1 Y1 X2 Y2 : St} {r r1 r2 : Nat → Int32} {s w k k1 a b p g t p1 p2 ai b0 : Int32} {y y1 : Int64} {ks : List (List Int)} {e c m n i j : Nat} {d d1 : List Int} {u : Bool} {G : Nat → Int32}
/-- what both sides hold before an asking -/
def APR (e : Nat) (X Y : St) (r : Nat → Int32) (ks : List (List Int)) (c : Nat) (y : Int64) : Prop := RBk e X Y ks ∧ SCr X Y ∧ ONr X Y ∧ HR X Y r ks ∧ VR X r (X.1 60 c) (X.1 61 c) y
theorem n_ask0 : ∀ (N : Nat), pw (f_asks_9 N p1 g t p k k1 (0 : Int32) X) (fun _ X1 => X1 = X) := by
  intro N
  cases N with
  | zero => exact pw_none
  | succ N =>
    have e : f_asks_9 (N + 1) = f_asks_9_s (f_asks_9 N) := by
      unfold f_asks_9
      exact lp_succ _ _ _
    rw [e]
    unfold f_asks_9_s
    exact pw_pos (by decide) (pw_ret rfl)
/-- an asking is counted on both sides -/
theorem APR.cnt (h : APR e X Y r ks c y) (hg : 0 ≤ g.toInt ∧ g.toInt ≤ 39) (ht : 0 ≤ t.toInt ∧ t.toInt ≤ 39) (hi : (i : Int) = 41 * g.toInt + t.toInt) (hj : (j : Int) = 40 * g.toInt + t.toInt) : APR e (wI X 80 i (X.1 80 i + 1)) (wI Y 87 j (Y.1 87 j + 1)) r ks c y ∧ XF X (wI X 80 i (X.1 80 i + 1)) c ∧ CF Y (wI Y 87 j (Y.1 87 j + 1)) ∧ KXq X (wI X 80 i (X.1 80 i + 1)) ∧ HG X (wI X 80 i (X.1 80 i + 1)) r r := by
  obtain ⟨hB, hS, hO, hH, hv⟩ := h
  have rx : ∀ e k, ¬ e = 80 → (wI X 80 i (X.1 80 i + 1)).1 e k = X.1 e k := fun e k z => wI_ne _ _ _ _ _ _ (by omega)
  have ry : ∀ e k, ¬ e = 87 → (wI Y 87 j (Y.1 87 j + 1)).1 e k = Y.1 e k := fun e k z => wI_ne _ _ _ _ _ _ (by omega)
  have hK : KXq X (wI X 80 i (X.1 80 i + 1)) := KXq.of (fun e k q => rx e k (by omega))
  have hJ : KJq (wI X 80 i (X.1 80 i + 1)) := hB.2.1.1.cg (fun e k q => rx e k (by omega))
  have hU : KU (wI X 80 i (X.1 80 i + 1)) := (KGq.of (fun e k q => rx e k (by omega))).2 hB.2.1.2
  have hX : HXc X (wI X 80 i (X.1 80 i + 1)) := ⟨fun k _ => rx 0 k (by omega), fun e k q => rx e k (by omega)⟩
  have hC : CF Y (wI Y 87 j (Y.1 87 j + 1)) := ⟨rfl, fun j k _ _ _ q => ry j k q, fun _ _ _ => rfl⟩
  refine ⟨⟨hB.cf ⟨hJ, hU⟩ hC, hS.count hg ht hi hj, hO.cg (rx 0 43 (by omega)) (rx 0 44 (by omega)) (fun k _ => ry 70 k (by omega)), hH.cg hB.2.1.1 hK hX ⟨fun e k q => ry e k (by omega), fun _ _ _ => rfl⟩, ?_⟩, fun e k _ _ _ _ _ _ q => rx e k (by omega), hC, hK, HG.of hX⟩
  rw [rx 60 c (by omega), rx 61 c (by omega)]
  exact hv.up (HG.of hX)
theorem l_count (hg : 0 ≤ g.toInt ∧ g.toInt ≤ 39) (ht : 0 ≤ t.toInt ∧ t.toInt ≤ 39) : pw (g_Running_count g t Y) (fun _ Y1 => ∃ j : Nat, (j : Int) = 40 * g.toInt + t.toInt ∧ Y1 = wI Y 87 j (Y.1 87 j + 1)) := by
  have l40 : (40 : Int32).toInt = 40 := by decide
  unfold g_Running_count
  refine pw_eq (fun x1 e1 => pw_eq (fun x2 e2 => ?_))
  have v1 : x1.toInt = g.toInt * 40 := by rw [e1, ti_mul (by rw [l40]; omega) (by rw [l40]; omega), l40]
  have v2 : x2.toInt = 40 * g.toInt + t.toInt := by rw [e2, ti_add (by rw [v1]; omega) (by rw [v1]; omega), v1]; omega
  refine pw_neg (by omega) (pw_neg (by omega) (pw_ck (fun _ => pw_eq (fun x3 e3 => pw_eq (fun x4 e4 => pw_ck (fun _ => pw_eq (fun X5 e5 => pw_ret ⟨ix x2, ?_, ?_⟩)))))))
  · have := ixc (z := x2) (by omega)
    omega
  · rw [e5, e4, e3]
/-- kinds are the same on one side iff on the other -/
theorem KR.same (hB : RBk e X Y ks) (h : KR X ks k a d) (h1 : KR X ks k1 b d1) : (k.toInt = k1.toInt ↔ d = d1) ∧ (a.toInt = b.toInt ↔ d = d1) := by
  refine ⟨h.1.iff hB.2.1.2 h1.1, ?_⟩
  obtain ⟨z, a1, a2⟩ := h.2
  obtain ⟨z1, b1, b2⟩ := h1.2
  have q := hB.2.2.1.1.eq a2 b2
  constructor
  · intro g
    exact q.mp (by omega)
  · intro g
    have := q.mpr g
    omega
theorem KR.any (hB : RBk e X Y ks) (h : KR X ks k a d) : (k.toInt = 2 ↔ d = [3]) ∧ (a.toInt = 2 ↔ d = [3]) := by
  have l2 : (2 : Int32).toInt = 2 := by decide
  have h2 : KR X ks (2 : Int32) (2 : Int32) [3] := ⟨(KTo.pl hB.2.1.1).2.2, (KC.pl hB.2.2.1.2).2.2.1⟩
  have q := h.same hB h2
  rw [l2] at q
  exact q
theorem l_askE (hO : ONr X Y) (hab : a.toInt = b.toInt) (hai : ai.toInt < 3) (M : Nat) {Q : Int64 → St → Prop} (h : Q y Y) : pw (g_Running_ask_10 M y g t p a b ai Y) Q := by
  have l3 : (3 : Int32).toInt = 3 := by decide
  cases M with
  | zero => exact pw_none
  | succ M =>
    have e : g_Running_ask_10 (M + 1) = g_Running_ask_10_s (g_Running_ask_10 M) := by
      unfold g_Running_ask_10
      exact lp_succ _ _ _
    rw [e]
    unfold g_Running_ask_10_s
    exact pw_neg (by omega) (pw_let (pw_neg hO.2.1 (pw_pos hab (pw_ret h))))
theorem l_askO (hO : OFr X Y) (M : Nat) {Q : Int64 → St → Prop} (h : Q y Y) : pw (g_Running_ask_10 M y g t p a b ai Y) Q := by
  cases M with
  | zero => exact pw_none
  | succ M =>
    have e : g_Running_ask_10 (M + 1) = g_Running_ask_10_s (g_Running_ask_10 M) := by
      unfold g_Running_ask_10
      exact lp_succ _ _ _
    rw [e]
    unfold g_Running_ask_10_s
    exact pw_ite (fun _ => pw_ret h) (fun _ => pw_let (pw_pos hO.2.1 (pw_ret h)))
theorem l_ask2 (hO : ONr X Y) (hai : ai.toInt < 3) (ne : ¬ a.toInt = b.toInt) (na : ¬ a.toInt = 2) (nb : ¬ b.toInt = 2) (hg : 0 ≤ g.toInt ∧ g.toInt ≤ 39) (ht : 0 ≤ t.toInt ∧ t.toInt ≤ 39) (M : Nat) {Q : Int64 → St → Prop} (h : ∀ j : Nat, (j : Int) = 40 * g.toInt + t.toInt → pw (g_Running_wrap y a b g t p (wI Y 87 j (Y.1 87 j + 1))) Q) : pw (g_Running_ask_10 M y g t p a b ai Y) Q := by
  have l3 : (3 : Int32).toInt = 3 := by decide
  cases M with
  | zero => exact pw_none
  | succ M =>
    have e : g_Running_ask_10 (M + 1) = g_Running_ask_10_s (g_Running_ask_10 M) := by
      unfold g_Running_ask_10
      exact lp_succ _ _ _
    rw [e]
    unfold g_Running_ask_10_s
    refine pw_neg (by omega) (pw_let (pw_neg hO.2.1 (pw_neg ne (pw_bd (l_count hg ht) ?_))))
    rintro _ Y2 ⟨j, hj, e2⟩
    rw [e2]
    exact pw_neg nb (pw_neg na (pw_bd (h j hj) (fun y3 Y4 q => pw_ret q)))
/-- the second go: rows or functions on both sides -/
theorem n_ask2 (h : APR e X Y r ks c y) (hi : ix p1 = c) (kd : KR X ks k a d) (kd1 : KR X ks k1 b d1) (hs : sot d = sot d1 ∧ ((sot d = 3 ∧ (X.1 60 c).toInt = 3) ∨ (sot d = 4 ∧ tkn d = tkn d1 ∧ (X.1 60 c).toInt = 4))) (hg : 0 ≤ g.toInt ∧ g.toInt ≤ 39) (ht : 0 ≤ t.toInt ∧ t.toInt ≤ 39) (hai : ai.toInt < 3) (M N : Nat) : pw (f_asks_9 N p1 g t p k k1 (1 : Int32) X) (fun _ X1 => pw (g_Running_ask_10 M y g t p a b ai Y) (fun y1 Y1 => ASQ X Y r ks c y1 X1 Y1)) := by
  have l41 : (41 : Int32).toInt = 41 := by decide
  have s3 : sot ([3] : List Int) = 2 := rfl
  cases N with
  | zero => exact pw_none
  | succ N =>
    have e : f_asks_9 (N + 1) = f_asks_9_s (f_asks_9 N) := by
      unfold f_asks_9
      exact lp_succ _ _ _
    rw [e]
    have h0 := h
    obtain ⟨hB, hS, hO, hH, hv⟩ := h
    obtain ⟨q1, q2⟩ := kd.same hB kd1
    obtain ⟨q3, q4⟩ := kd.any hB
    obtain ⟨q5, q6⟩ := kd1.any hB
    have n3 : ¬ d = [3] := fun z => by rw [z, s3] at hs; omega
    have n13 : ¬ d1 = [3] := fun z => by rw [z, s3] at hs; omega
    unfold f_asks_9_s
    refine pw_neg (by decide) (pw_ite (fun c0 => pw_ret (l_askE hO (q2.mpr (q1.mp c0)) hai M (ASQ.id hB hS hO hH hv))) (fun c0 => ?_))
    have nd : ¬ d = d1 := fun z => c0 (q1.mpr z)
    refine pw_eq (fun x1 e1 => pw_eq (fun x2 e2 => pw_ck (fun _ => pw_eq (fun x3 e3 => pw_eq (fun x4 e4 => pw_ck (fun _ => pw_eq (fun X5 e5 => ?_)))))))
    have v1 : x1.toInt = 41 * g.toInt := by rw [e1, ti_mul (by rw [l41]; omega) (by rw [l41]; omega), l41]
    have v2 : x2.toInt = 41 * g.toInt + t.toInt := by rw [e2, ti_add (by rw [v1]; omega) (by rw [v1]; omega), v1]
    have f5 : X5 = wI X 80 (ix x2) (X.1 80 (ix x2) + 1) := by rw [e5, e4, e3]
    have i2 := ixc (z := x2) (by omega)
    obtain ⟨j, hj⟩ : ∃ j : Nat, (j : Int) = 40 * g.toInt + t.toInt := ⟨(40 * g.toInt + t.toInt).toNat, by omega⟩
    obtain ⟨⟨hB5, hS5, hO5, hH5, hv5⟩, hXF, hCF, hKX, hHG⟩ := h0.cnt hg ht (i := ix x2) (j := j) (by omega) hj
    rw [← f5] at hB5 hS5 hO5 hH5 hv5 hXF hKX hHG
    have r5 : X5.1 60 c = X.1 60 c := by rw [f5, wI_ne _ _ _ _ _ _ (by omega)]
    refine pw_neg (fun z => n13 (q5.mp z)) (pw_neg (fun z => n3 (q3.mp z)) (pw_bd (n_wraps (p := p) hB5 hS5 hO5 hH5 hi hv5 (kd.kx hB.2.1.1 hKX) (kd1.kx hB.2.1.1 hKX) (by rw [r5]; exact hs) hg ht) ?_))
    rintro _ X6 h6
    refine pw_mono (n_ask0 N) (fun _ X1 eX => ?_)
    rw [eX]
    refine l_ask2 hO hai (fun z => nd (q2.mp z)) (fun z => n3 (q4.mp z)) (fun z => n13 (q6.mp z)) hg ht M (fun j1 hj1 => ?_)
    have ej : j1 = j := by omega
    rw [ej]
    exact pw_mono h6 (fun y1 Y1 q => q.pre hXF hCF hKX hHG)
end ASKS
