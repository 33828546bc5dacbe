/-! the arguments of a call, asked for one wrapping, on both sides -/
section ARGSS
variable {X Y Z X1 Y1 X2 Y2 V V1 Z1 W : St} {r r1 r2 : Nat → Int32} {s w k a b p p1 p2 v a1 a2 a3 a4 a5 a6 an pl am c3 c5 : Int32} {y y1 : Int64} {ks : List (List Int)} {e c m n i j lo hi q A k0 t0 cell : Nat} {d d1 : List Int} {G : Nat → Int32} {R : Int32 → Int32 → Int32 → Int32 → Int32 → St → Option (Int32 × St)} {r17 : Int32 → Int32 → Int32 → Int32 → St → Option (Int32 × St)}
theorem add1_i {n : Nat} (h : a.toInt = (n : Int)) (hn : n < 100000) : (a + 1).toInt = ((n + 1 : Nat) : Int) := by
  have l1 : (1 : Int32).toInt = 1 := by decide
  rw [ti_add (by rw [h, l1]; omega) (by rw [h, l1]; omega), h, l1]
  omega
theorem add_i {n m : Nat} (h : a.toInt = (n : Int)) (h2 : b.toInt = (m : Int)) (hn : n + m < 100000) : ix (a + b) = n + m := by
  refine ixn ?_
  rw [ti_add (by rw [h, h2]; omega) (by rw [h, h2]; omega), h, h2]
  omega
theorem l_arg1 (hB : RBk e X Y ks) (h6 : a6.toInt = (i : Int)) (hn : (i : Int) < an.toInt) (hi : i < 1000) (h3 : c3.toInt = (A : Int)) (hA : A < 50000) (h5 : c5.toInt = (k0 : Int)) (h85 : Y.1 85 k0 = w) (kd : KC ks (Y.1 76 (ix w)) d) (kd1 : KC ks (Y.1 77 (ix w)) d1) (h1 : i < tkn d) (h2 : i < tkn d1) (M : Nat) {Q : Int32 → St → Prop} (h : ∀ (M1 : Nat) (q : Int32 × Int32) (y1 : Int64) (Y1 : St) (x : Int32), KC ks q.1 (prm d1 i) → KC ks q.2 (prm d i) → g_Running_ask (Y.2.1 84 (A + 1 + i)) q.1 q.2 (Y.1 79 (ix w)) (Y.1 78 (ix w)) (Y.1 80 (ix w)) Y = some (y1, Y1) → x.toInt = ((i + 1 : Nat) : Int) → pw (g_Running_callWith_44 R M1 an pl c3 am c5 x (wL Y1 84 (A + 1 + i) y1)) Q) : pw (g_Running_callWith_44 R M an pl c3 am c5 a6 Y) Q := by
  cases M with
  | zero => exact pw_none
  | succ M =>
    have e1 : g_Running_callWith_44 R (M + 1) = g_Running_callWith_44_s R (g_Running_callWith_44 R M) := by
      unfold g_Running_callWith_44
      exact lp_succ _ _ _
    rw [e1]
    unfold g_Running_callWith_44_s
    have g1 := add1_i h3 (by omega)
    have g2 : ix (c3 + 1 + a6) = A + 1 + i := add_i g1 h6 (by omega)
    refine pw_neg (by omega) (pw_let (pw_eq (fun x16 e16 => pw_ck (fun _ => pw_to (show Y.1 85 (ix c5) = w by rw [ixn h5]; exact h85) (pw_let (pw_eq (fun x19 e19 => pw_ck (fun _ => pw_to (show Y.2.1 84 (ix x19) = Y.2.1 84 (A + 1 + i) by rw [e19, g2]) (pw_bd (l_intoP hB h6 kd kd1 h1 h2) ?_)))))))))
    rintro y21 X22 ⟨q, k1, k2, hq⟩
    refine pw_ck (fun _ => pw_eq (fun X23 e23 => pw_eq (fun x24 e24 => ?_)))
    rw [e16, g2] at e23
    rw [e23]
    exact h M q y21 X22 x24 k1 k2 hq (by rw [e24]; exact inc_i h6 hi)
/-- a failed run: the class's loop goes on without effect -/
theorem l_argsO (hAq : A = cell + q) (hA : A < 50000) (h3 : c3.toInt = (A : Int)) (hn : an.toInt = (m : Int)) (hm : m ≤ 4) {Q : Int32 → St → Prop} (h : ∀ (V : St) (x : Int32), MLQ X Y r ks (cell + 1) (cell + 1 + m) q Z V → OFr Z V → x = c5 + Int32.ofInt 1 → pw (R an pl c3 am x V) Q) : ∀ (M i : Nat) (V : St) (a6 : Int32), a6.toInt = (i : Int) → i ≤ m → MLQ X Y r ks (cell + 1) (cell + 1 + m) q Z V → OFr Z V → pw (g_Running_callWith_44 R M an pl c3 am c5 a6 V) Q := by
  intro M
  induction M with
  | zero => exact fun _ _ _ _ _ _ _ => pw_none
  | succ M ih =>
    intro i V a6 h6 hi hQ hO
    have e1 : g_Running_callWith_44 R (M + 1) = g_Running_callWith_44_s R (g_Running_callWith_44 R M) := by
      unfold g_Running_callWith_44
      exact lp_succ _ _ _
    rw [e1]
    unfold g_Running_callWith_44_s
    refine pw_ite (fun _ => pw_eq (fun x14 e14 => h V x14 hQ hO e14)) (fun cn => ?_)
    have hi2 : i < m := by omega
    have g1 := add1_i h3 (by omega)
    have g2 : ix (c3 + 1 + a6) = A + 1 + i := add_i g1 h6 (by omega)
    have g3 : A + 1 + i = cell + 1 + i + q := by omega
    have hp : ¬ a6.toInt = -1 := by omega
    refine pw_let (pw_eq (fun x16 e16 => pw_ck (fun _ => pw_let (pw_let (pw_let (pw_ck (fun _ => pw_let (pw_bd (l_askOffP hO.2.1 hp) ?_))))))))
    intro y21 X22 e22
    rw [e22]
    refine pw_ck (fun _ => pw_eq (fun X23 e23 => pw_eq (fun x24 e24 => ?_)))
    rw [e16, g2, g3] at e23
    have hO2 : OFr Z X23 := by
      rw [e23]
      exact hO
    refine ih (i + 1) X23 x24 (by rw [e24]; exact inc_i h6 (by omega)) (by omega) ?_ hO2
    rw [e23]
    exact hQ.stepO hO (by omega) (by omega)
end ARGSS
