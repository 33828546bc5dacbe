/-! all signs between operands -/
section RSIGN4
variable {ch : Tx} {n q : Nat} {X Y Z X0 : St} {o : Int} {sc : List Nm} {j N N1 s N0 : Nat} {Q : Int32 → St → Prop} {c c0 c1 : List Ins} {cn : Int → Int}
def cnf (sm p : Int) : Int → Int := fun l => if l = 2 then sm else p
/-- from here on the signs are read, with so much fuel -/
def SGI (ch : Tx) (n : Nat) (X : St) (o : Int) (sc : List Nm) (j N : Nat) (c0 : List Ins) (Q : Int32 → St → Prop) (U : Nat → List Ins → Option Out) (k : Nat) : Prop := ∀ (sm p a : Int) (cmp : Bool) (f : Nat) (A B C : List Wt) (q : Nat) (c : List Ins) (Y : St) (N1 t : Nat), 3000 ≤ k + pl ch q → WAq a sm p A B C → (a = 1 ↔ cmp = true) → (sm ≤ 40 ∧ p ≤ 40) → SGq ch n X Y q o sc j N N1 (cnf sm p) c0 f c (A ++ (B ++ C)) none t → HH (DQ Q) (CEq ch n X o sc j N c0 Q) (sC1 ch U k sm p cmp f (A ++ (B ++ C)) q c) → prS Y Q
theorem sPop_tr {lv lv1 : Int} (hl : lv1 ≤ lv) : ∀ (ws : List Wt) (f : Nat) (c : List Ins), sPop lv1 (sPop lv ws f c).1 (sPop lv ws f c).2.1 (sPop lv ws f c).2.2 = sPop lv1 ws f c := by
  intro ws
  induction ws with
  | nil => exact fun f c => rfl
  | cons w ws ih =>
    intro f c
    by_cases g : lvl w.1 < lv
    · have e : sPop lv (w :: ws) f c = (w :: ws, f, c) := by rw [sPop, if_pos g]
      rw [e]
    · have e : sPop lv (w :: ws) f c = sPop lv ws w.2.2 (addx ((c ++ [(27, 0, plc c f, [])]) ++ [(opc w.1, 0, w.2.1, [])]) w.2.2 1) := by rw [sPop, if_neg g]
      have e1 : sPop lv1 (w :: ws) f c = sPop lv1 ws w.2.2 (addx ((c ++ [(27, 0, plc c f, [])]) ++ [(opc w.1, 0, w.2.1, [])]) w.2.2 1) := by rw [sPop, if_neg (by omega)]
      rw [e, e1]
      exact ih _ _
theorem sg_go {U : Int → List Nm → Nat → List Ins → Option Out} (hU : SUq ch n o U) (mU : ∀ q c, HH True (fun a => pl ch q + 1 ≤ pl ch a.1) (U o sc q c)) (ho : 0 ≤ o ∧ o ≤ 40) {k : Nat} (ih : SGI ch n X o sc j N c0 Q (U o sc) k) {sm p a : Int} {cmp : Bool} {f : Nat} {A B C ws : List Wt} {w : Wt} (ew : w :: ws = A ++ (B ++ C)) (hq : 3000 ≤ k + 1 + pl ch q) (hq2 : ¬ ty ch q = 257) (hW : WAq a sm p A B C) (ha : a = 1 ↔ cmp = true) (hle : sm ≤ 40 ∧ p ≤ 40) (h1 : XS ch n Z (nx ch q) o sc (j + 1 + ws.length + 1) (N1 + 1)) (h2 : (Z.1 0 23).toInt = 1) (h3 : NMr ch Z (N1 + 1) c) (h4 : KP X Z (j + 1) N sc.length) (hN : N ≤ N1) (h5 : WTq Z (j + 1) N (N1 + 1) (cnf sm p) (w :: ws)) (h6 : ¬ (Z.1 35 j).toInt = 15 ∧ ¬ (Z.1 35 j).toInt = 16) (h7 : WTo ch Z (j + 1) c0 N (w :: ws) c1 (N1 + 1)) (hf7 : f = c1.length) (hc : ∀ p, NPl c1 p ↔ NPl c p) (H : HH (DQ Q) (fun r => HH (DQ Q) (CEq ch n X o sc j N c0 Q) (sC1 ch (U o sc) k sm p cmp f (w :: ws) r.1 r.2)) (U o sc (nx ch q) c1)) : pr Z Q := by
  refine hU sc (nx ch q) c1 (j + 1 + ws.length) (N1 + 1) Z Q h1 h2 (h3.cd hc) ho.1 ho.2 ((H.an (mU _ _)).m (fun r Hr => ?_))
  obtain ⟨Hr, hmv⟩ := Hr
  rintro V ⟨N3, t3, gV, mV, kV, hV, g1, g2, e, ee, eo⟩ h14
  rw [ixn hV] at h14
  have hp := pl_nx h1.tx hq2
  rw [ew] at Hr
  have hl : (A ++ (B ++ C)).length = ws.length + 1 := by rw [← ew]; exact List.length_cons
  refine ih sm p a cmp f A B C r.1 r.2 V N3 t3 (by omega) hW ha hle ⟨⟨?_, mV, h4.tr (kV.mono (by omega) (by omega) (Nat.le_refl _))⟩, ?_, ⟨hV, by omega, g2⟩, h14, ?_, ?_⟩ Hr
  · rw [hl]; exact gV
  · rw [← ew]
    have hl2 : (w :: ws).length = ws.length + 1 := List.length_cons
    exact WTq.fr _ h5 (by omega) (fun k hk => ⟨kV.1 35 k (by unfold KPs; omega), kV.1 36 k (by unfold KPs; omega)⟩) (fun k _ hk => ⟨kV.1 20 k (by unfold KPs; omega), kV.1 26 k (by unfold KPs; omega), kV.1 39 k (by unfold KPs; omega)⟩)
  · rw [kV.1 35 j (by unfold KPs; omega)]
    exact h6
  · rw [← ew]
    have hl2 : (w :: ws).length = ws.length + 1 := List.length_cons
    exact ⟨c1, N1 + 1, e, WTo.fr h1.kj kV.2.2.2 _ _ _ h7 (fun a k ha hk => kV.1 a k (by unfold KPs; omega)) (fun k hk => kV.2.1 k hk) (fun k hk => kV.1 36 k (by unfold KPs; omega)), ee, hf7, eo⟩
theorem sg_all {U : Int → List Nm → Nat → List Ins → Option Out} (hU : SUq ch n o U) (mU : ∀ q c, HH True (fun a => pl ch q + 1 ≤ pl ch a.1) (U o sc q c)) (ho : 0 ≤ o ∧ o ≤ 40) : ∀ k : Nat, SGI ch n X o sc j N c0 Q (U o sc) k := by
  intro k
  induction k with
  | zero =>
    intro sm p a cmp f A B C q c Y N1 t hk hW ha hle h H
    have hT := h.1.1.tx
    have l0 : lvl (ty ch q) = 0 := by
      have e : ty ch q = 257 := Classical.byContradiction (fun z => by
        have := pl_lt hT z
        have := hT.1
        omega)
      rw [e]; decide
    rw [sC1] at H
    exact sg_lv h (fun b0 hb => sg_off (by omega) h hW.w1 H.s)
  | succ k ih =>
    intro sm p a cmp f A B C q c Y N1 t hk hW ha hle h H
    rw [sC1] at H
    refine sg_lv h (fun b0 hb => ?_)
    by_cases l0 : lvl (ty ch q) = 0
    · exact sg_off (by omega) h hW.w1 (H.p (Or.inl l0)).s
    have lr := lvl_in (ty ch q)
    have hq2 : ¬ ty ch q = 257 := by
      have := lvl_sg l0
      omega
    have nn := h.2.2.1
    have p0 : 0 ≤ p := by
      rcases hW.1 with ⟨_, e⟩ | ⟨_, _, _, e⟩ <;> omega
    have s0 : 0 ≤ sm := by
      rcases hW.2.1 with ⟨_, e⟩ | ⟨_, _, _, e⟩ <;> omega
    by_cases l1 : lvl (ty ch q) = 1
    · unfold f_signs_90
      refine pw_neg (by omega) (pw_pos (by omega) ?_)
      unfold f_signs_106 f_second
      refine pw_bd (x_sec (show (2 : Int32).toInt = 2 by decide) _ none f c BIG t Y h) ?_
      rintro _ Z ⟨t1, hZ⟩
      rw [hW.w2.1] at hZ
      have tr := sPop_tr (show (1 : Int) ≤ 2 by decide) (A ++ (B ++ C)) f c
      rw [sPop_1, hW.w2.1] at tr
      have nz := hZ.2.2.1
      unfold f_signs_109
      refine pw_pos (by omega) ?_
      refine pw_let (pw_eq (fun x33 e33 => ?_))
      have gt : XS ch n Z q o sc (j + C.length + 1) N1 := by rw [show j + C.length + 1 = j + 1 + C.length by omega]; exact hZ.1.1
      rw [(gt.tp e33).2]
      refine pw_ck (fun _ => pw_let ?_)
      rcases hW.2.2 with ⟨eC, ea⟩ | ⟨w1, eC, hw1, ea⟩
      · have cm : ¬ cmp = true := fun z => by
          have := ha.mpr z
          omega
        have H := H.q (fun z => z.elim l0 (fun y => cm y.2))
        have e2 : (if lvl (ty ch q) = 2 then sm + 1 else if lvl (ty ch q) = 1 then 0 else sm) = 0 := by rw [if_neg (by omega), if_pos l1]
        have e3 : (if lvl (ty ch q) = 3 then p + 1 else 0) = 0 := by rw [if_neg (by omega)]
        rw [e2, e3, l1, sPop_1, hW.w1] at H
        have H := (H.q (by omega)).b
        have z0 : ∀ (x : Nat) (y : List Ins), sPop 1 C x y = ([], x, y) := fun x y => by rw [eC]; rfl
        have tr2 : sPop 1 (A ++ (B ++ C)) f c = ([], (sPop 2 (A ++ (B ++ C)) f c).2.1, (sPop 2 (A ++ (B ++ C)) f c).2.2) := by rw [← tr]; exact z0 _ _
        rw [tr2] at H
        rw [eC] at hZ ⊢
        rw [eC] at H
        refine pw_neg hZ.2.2.2.2.1.2 ?_
        unfold f_signs_134 f_signs_135
        refine pw_neg (by omega) (pw_pos (by decide) (pw_let (pw_pos (by omega) ?_)))
        refine sg_new (lv := 1) (m := 1) hZ (by omega) l1 (by omega) rfl (by rw [if_pos rfl]; decide) (by omega) ⟨fun _ => rfl, fun z => by omega⟩ (fun z => by omega) (fun _ Z2 g1 g2 g3 g4 g5 g6 g7 => ?_)
        refine sg_go (k := k) (A := []) (B := []) (C := [(ty ch q, ((pl ch q : Nat) : Int), _)]) (a := 1) (sm := 0) (p := 0) hU mU ho ih rfl hk hq2 ⟨Or.inl ⟨rfl, rfl⟩, Or.inl ⟨rfl, rfl⟩, Or.inr ⟨_, rfl, l1, rfl⟩⟩ ⟨fun _ => ?_, fun _ => rfl⟩ (by omega) g1 g2 g3 g4 (by omega) (g5 (cnf 0 0) (fun w hw => by cases hw) (fun z => by omega) _ _) g6 g7 (by rw [List.length_append, List.length_singleton]) ?_ H
        · rw [Bool.or_eq_true]; exact Or.inr rfl
        · exact fun p => NPl.snoc (show ¬ (27 : Int) = 4 by decide)
      · have cm : cmp = true := ha.mp ea
        have wt : (Z.1 35 (j + C.length)).toInt = 16 := by
          have W := hZ.2.1
          rw [eC] at W ⊢
          exact W.1.1
        refine pw_pos wt ?_
        unfold f_signs_135
        refine pw_neg (by omega) (pw_neg (by decide) ?_)
        exact sg_end hZ (hW.low.w1) (by rw [tr]; exact (H.p (Or.inr ⟨l1, cm⟩)).s)
    · have H := H.q (fun z => z.elim l0 (fun y => l1 y.1))
      unfold f_signs_90
      refine pw_neg (by omega) (pw_neg (by omega) ?_)
      unfold f_signs_106 f_second
      refine pw_bd (x_sec hb _ none f c BIG t Y h) ?_
      rintro _ Z ⟨t1, hZ⟩
      have nz := hZ.2.2.1
      unfold f_signs_109
      refine pw_neg (by omega) ?_
      unfold f_signs_134 f_signs_135
      refine pw_neg (by omega) (pw_pos (by decide) (pw_let (pw_neg (by omega) ?_)))
      have C1 : ∀ w ∈ C, ¬ 2 ≤ lvl w.1 := by
        intro w hw
        rcases hW.2.2 with ⟨eC, ea⟩ | ⟨w1, eC, hw1, ea⟩
        · rw [eC] at hw; cases hw
        · rw [eC] at hw; rw [List.mem_singleton.mp hw]; omega
      by_cases l2 : lvl (ty ch q) = 2
      · have e2 : (if lvl (ty ch q) = 2 then sm + 1 else if lvl (ty ch q) = 1 then 0 else sm) = sm + 1 := by rw [if_pos l2]
        have e3 : (if lvl (ty ch q) = 3 then p + 1 else 0) = 0 := by rw [if_neg (by omega)]
        rw [e2, e3, l2, sPop_1, hW.w2.1] at H
        rw [l2, hW.w2.1, hW.w2.2] at hZ
        refine sg_new (lv := 2) (m := sm + 1) hZ (by omega) l2 (by omega) rfl (by rw [if_neg (by decide)]; decide) (by omega) ⟨fun z => by omega, fun _ => ?_⟩ (fun z => (H.p (by omega)).n) (fun z Z2 g1 g2 g3 g4 g5 g6 g7 => ?_)
        · rcases hW.2.1 with ⟨eB, es⟩ | ⟨w2, eB, hw2, es⟩
          · refine Or.inr ⟨?_, by omega⟩
            intro w hw
            rcases hW.1 with ⟨eA, ep⟩ | ⟨w3, eA, hw3, ep⟩
            · rw [eA, eB] at hw; cases hw
            · rw [eA, eB] at hw
              have : w3 = w := Option.some.inj hw
              rw [← this]; omega
          · refine Or.inl ⟨w2, by rw [eB]; rfl, hw2, ?_⟩
            show sm + 1 = cnf sm p 2 + 1
            rfl
        · have H := (H.q (by omega)).b
          refine sg_go (k := k) (A := []) (B := [(ty ch q, ((pl ch q : Nat) : Int), _)]) (C := C) (a := a) (sm := sm + 1) (p := 0) hU mU ho ih rfl hk hq2 ⟨Or.inl ⟨rfl, rfl⟩, Or.inr ⟨_, rfl, l2, by omega⟩, hW.2.2⟩ ?_ (by omega) g1 g2 g3 g4 (by omega) (g5 (cnf (sm + 1) 0) (fun w hw z => absurd z (C1 w hw)) (fun z => rfl) _ _) g6 g7 (by rw [List.length_append, List.length_singleton]) ?_ H
          · rw [Bool.or_eq_true]; exact ha.trans ⟨Or.inl, fun z => z.resolve_right (by decide)⟩
          · exact fun p => NPl.snoc (show ¬ (27 : Int) = 4 by decide)
      · have l3 : lvl (ty ch q) = 3 := by omega
        have e2 : (if lvl (ty ch q) = 2 then sm + 1 else if lvl (ty ch q) = 1 then 0 else sm) = sm := by rw [if_neg l2, if_neg l1]
        have e3 : (if lvl (ty ch q) = 3 then p + 1 else 0) = p + 1 := by rw [if_pos l3]
        rw [e2, e3, l3, sPop_1, hW.w3.1] at H
        rw [l3, hW.w3.1, hW.w3.2] at hZ
        refine sg_new (lv := 3) (m := p + 1) hZ (by omega) l3 (by omega) rfl (by rw [if_neg (by decide)]; decide) (by omega) ⟨fun z => by omega, fun _ => ?_⟩ (fun z => (H.p (by omega)).n) (fun z Z2 g1 g2 g3 g4 g5 g6 g7 => ?_)
        · rcases hW.1 with ⟨eA, ep⟩ | ⟨w3, eA, hw3, ep⟩
          · refine Or.inr ⟨fun w hw => ?_, by omega⟩
            rw [eA] at hw; cases hw
          · refine Or.inl ⟨w3, by rw [eA]; rfl, hw3, ?_⟩
            show p + 1 = cnf sm p 3 + 1
            rfl
        · have H := (H.q (by omega)).b
          have B1 : ∀ w ∈ B ++ C, 2 ≤ lvl w.1 → cnf sm (p + 1) (lvl w.1) = cnf sm p (lvl w.1) := by
            intro w hw z
            rcases List.mem_append.mp hw with hw | hw
            · rcases hW.2.1 with ⟨eB, es⟩ | ⟨w2, eB, hw2, es⟩
              · rw [eB] at hw; cases hw
              · rw [eB] at hw; rw [List.mem_singleton.mp hw, hw2]; rfl
            · exact absurd z (C1 w hw)
          refine sg_go (k := k) (A := [(ty ch q, ((pl ch q : Nat) : Int), _)]) (B := B) (C := C) (a := a) (sm := sm) (p := p + 1) hU mU ho ih rfl hk hq2 ⟨Or.inr ⟨_, rfl, l3, by omega⟩, hW.2.1, hW.2.2⟩ ?_ (by omega) g1 g2 g3 g4 (by omega) (g5 (cnf sm (p + 1)) B1 (fun z => rfl) _ _) g6 g7 (by rw [List.length_append, List.length_singleton]) ?_ H
          · rw [Bool.or_eq_true]; exact ha.trans ⟨Or.inl, fun z => z.resolve_right (by decide)⟩
          · exact fun p => NPl.snoc (show ¬ (27 : Int) = 4 by decide)
end RSIGN4
