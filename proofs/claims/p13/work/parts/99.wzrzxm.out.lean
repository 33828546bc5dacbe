/-! what comes out of a wrapped row is asked, on both sides -/
section OUTS
variable {X Y Z X1 Y1 X2 Y2 V V1 : St} {r r1 r2 : Nat → Int32} {s w k k1 a b p g t p1 p2 ai b0 cell a7 : Int32} {y y1 : Int64} {ks : List (List Int)} {e c m n i j D : Nat} {d d1 : List Int} {u : Bool} {G : Nat → Int32} {f : Nat → Int32}
/-- kinds that fit: the same sort, as many taken -/
theorem fit_of (hB : RBk e X Y ks) (hF : FIT X k k1) (kd : KR X ks k a d) (kd1 : KR X ks k1 b d1) : ¬ d = d1 → ¬ d = [3] → ¬ d1 = [3] → sot d = sot d1 ∧ 3 ≤ sot d ∧ tkn d = tkn d1 := by
  intro h1 h2 h3
  obtain ⟨q1, _⟩ := kd.same hB kd1
  obtain ⟨q3, _⟩ := kd.any hB
  obtain ⟨q5, _⟩ := kd1.any hB
  obtain ⟨t1, t2, t3, t4⟩ := hB.wk kd.2
  obtain ⟨z1, z2, z3, _⟩ := hF.deep (fun z => h1 (q1.mp (by rw [z]))) (fun z => h2 (q3.mp z)) (fun z => h3 (q5.mp z))
  obtain ⟨w1, w2⟩ := kd.1.srt
  obtain ⟨w3, w4⟩ := kd1.1.srt
  have hs : sot d = sot d1 := by omega
  refine ⟨hs, by omega, ?_⟩
  by_cases z : sot d = 3
  · rw [tkn_3 z, tkn_3 (hs.symm.trans z)]
  · have z4 : sot d = 4 := by omega
    rw [cps4 z4] at w2
    rw [cps4 (hs.symm.trans z4)] at w4
    omega
/-- a value of a kind -/
theorem vv_ty (h : VV false X G k s w) (kd : KTo X k d) : (sot d = 3 → s.toInt = 3) ∧ (sot d = 4 → s.toInt = 4) ∧ (s.toInt = 3 → RV X w) ∧ (s.toInt = 4 → FV X w) := by
  have q := kd.so
  rcases h with ⟨_, h⟩ | ⟨h, _⟩
  · obtain ⟨h1, h2, h3, h4⟩ := h
    refine ⟨fun z => ?_, fun z => ?_, h2, h3⟩
    · rcases h4 with ⟨c, _⟩ | ⟨c, _⟩ | ⟨c, c2, _⟩ | ⟨c, _⟩
      · omega
      · omega
      · exact c2
      · omega
    · rcases h4 with ⟨c, _⟩ | ⟨c, _⟩ | ⟨c, _⟩ | ⟨c, c2, _⟩
      · omega
      · omega
      · omega
      · exact c2
  · exact absurd h (by decide)
theorem l_givesId {o : Nat} : pw (g_Kinds_givesOf o p X) (fun _ Y => Y = X) := by
  unfold g_Kinds_givesOf
  exact pw_ite (fun _ => pw_ret rfl) (fun _ => pw_let (pw_ite (fun _ => pw_ret rfl) (fun _ => pw_let (pw_let (pw_let (pw_ck (fun _ => pw_let (pw_ret rfl))))))))
theorem l_askOff (h : (Y.1 70 4).toInt = 0) : pw (g_Running_ask y a b g t p Y) (fun y1 Y1 => Y1 = Y ∧ y1 = y) := by
  unfold g_Running_ask
  obtain ⟨N, hN⟩ : ∃ N, BIG = N + 1 := ⟨BIG - 1, by decide⟩
  rw [hN]
  have e10 : g_Running_ask_10 (N + 1) = g_Running_ask_10_s (g_Running_ask_10 N) := by
    unfold g_Running_ask_10
    exact lp_succ _ _ _
  rw [e10]
  unfold g_Running_ask_10_s
  exact pw_ite (fun _ => pw_ret ⟨rfl, rfl⟩) (fun _ => pw_let (pw_pos h (pw_ret ⟨rfl, rfl⟩)))
/-- where the run has failed the class's loop does nothing -/
theorem l_outOff (h : (Y.1 70 4).toInt = 0) : ∀ (M : Nat) (y : Int64) (a7 : Int32), pw (g_Running_askOutward_12 M y a7 Y) (fun y1 Y1 => Y1 = Y ∧ y1 = y) := by
  intro M
  induction M with
  | zero => exact fun _ _ => pw_none
  | succ M ih =>
    intro y a7
    have e : g_Running_askOutward_12 (M + 1) = g_Running_askOutward_12_s (g_Running_askOutward_12 M) := by
      unfold g_Running_askOutward_12
      exact lp_succ _ _ _
    rw [e]
    unfold g_Running_askOutward_12_s
    refine pw_ite (fun _ => pw_ret ⟨rfl, rfl⟩) (fun _ => pw_ck (fun _ => pw_let (pw_ck (fun _ => pw_let (pw_let (pw_ck (fun _ => pw_let (pw_bd l_givesId ?_))))))))
    intro x8 X9 e9
    rw [e9]
    refine pw_ck (fun _ => pw_let (pw_let (pw_ck (fun _ => pw_let (pw_bd l_givesId ?_)))))
    intro x13 X14 e14
    rw [e14]
    refine pw_ck (fun _ => pw_let (pw_ck (fun _ => pw_let (pw_ck (fun _ => pw_let (pw_bd (l_askOff h) ?_))))))
    rintro y18 X19 ⟨e19, ey⟩
    rw [e19, ey]
    exact pw_let (ih y _)
theorem PRm.to (h : PRm e X Y) (he : e = 2 ∨ e = 24) (hX : XF X X1 c) (hC : CF Y Y1) : PRm e X1 Y1 := by
  obtain ⟨h1, h2, h3⟩ := h
  have r18 : X1.1 0 18 = X.1 0 18 := hX 0 18 (fun _ => by omega) (by omega) (by omega) (by omega) (by omega) (by omega) (by omega)
  unfold PRm
  rw [r18]
  refine ⟨h1, ?_, fun k hk => ?_⟩
  · rw [hC.2.1 e 1 (by rcases he with z | z <;> omega) (by rcases he with z | z <;> omega) (by rcases he with z | z <;> omega) (by rcases he with z | z <;> omega)]
    exact h2
  · rw [hC.2.1 (e + 13) k (by rcases he with z | z <;> omega) (by rcases he with z | z <;> omega) (by rcases he with z | z <;> omega) (by rcases he with z | z <;> omega), hX 15 k (fun q => by omega) (by omega) (by omega) (by omega) (by omega) (by omega) (by omega)]
    exact h3 k hk
/-- from where a chain of askings began to where it stands -/
theorem ASQ.apr (hB : RBk e X Y ks) (h : ASQ X Y r ks c y Z V) (hO : ONr Z V) : ∃ r1, HG X Z r r1 ∧ APR e Z V r1 ks c y := by
  obtain ⟨⟨a1, a2⟩, ⟨a3, a4, a5⟩, a6, a7⟩ := h
  rcases a7 with a7 | ⟨_, r1, b1, b2, b3⟩
  · exact absurd a7.2.1 hO.2.1
  · exact ⟨r1, b1, hB.cf ⟨a3, a4⟩ a2, a6, hO, b2, b3⟩
theorem ASQ.on (h : ASQ X Y r ks c y Z V) (hz : (Z.1 0 43).toInt < 0) : ONr Z V := by
  rcases h.2.2.2 with q | q
  · have := q.1
    omega
  · exact q.1
theorem ASQ.of (h : ASQ X Y r ks c y Z V) (hz : ¬ (Z.1 0 43).toInt < 0) : OFr Z V := by
  rcases h.2.2.2 with q | q
  · exact q
  · exact absurd q.1.1.1 hz
/-- failed: the value is of no account -/
theorem ASQ.any (h : ASQ X Y r ks c y Z V) (hO : OFr Z V) : ASQ X Y r ks c y1 Z V := ⟨h.1, h.2.1, h.2.2.1, Or.inl hO⟩
end OUTS
