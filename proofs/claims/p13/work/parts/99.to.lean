/-! asks -/
section CONV
variable {X : St} {G : Nat → Int32} {s w x y : Int32}
theorem K3.two (h : K3 X) : VK X 2 ∧ so X 2 = 3 := by
  have i2 : ix (2 : Int32) = 2 := by decide
  have z2 : (2 : Int32).toInt = 2 := rfl
  have h1 := h.1
  refine ⟨⟨by omega, by omega⟩, ?_⟩
  unfold so
  rw [i2, h.2.2.2]
  rfl
theorem vv_any_prim (h3 : K3 X) (h : VV false X G x s w) (hx : so X x ≤ 3) : VV false X G 2 s w := by
  obtain ⟨k1, k2⟩ := h3.two
  rcases h with ⟨-, a, b, c, d⟩ | ⟨q, -⟩
  · refine Or.inl ⟨rfl, k1, b, c, Or.inr (Or.inl ⟨k2, ?_⟩)⟩
    rcases d with ⟨d1, d2, d3⟩ | ⟨d1, d2, d3⟩ | ⟨d1, -⟩ | ⟨d1, -⟩
    · exact ⟨fun q => by omega, fun q => by omega⟩
    · exact ⟨d2, d3⟩
    · omega
    · omega
  · exact absurd q (by decide)
theorem vv_any_row (h3 : K3 X) (h : VV false X G x s w) (hx : ROWK X x 2) : VV false X G 2 s w := by
  obtain ⟨k1, k2⟩ := h3.two
  obtain ⟨r1, r2, r3, r4⟩ := hx.vk
  rcases h with ⟨-, a, b, c, d⟩ | ⟨q, -⟩
  · refine Or.inl ⟨rfl, k1, b, c, Or.inr (Or.inl ⟨k2, ?_⟩)⟩
    rcases d with ⟨d1, d2, d3⟩ | ⟨d1, d2, d3⟩ | ⟨d1, d2, d3⟩ | ⟨d1, -⟩
    · omega
    · omega
    · exact ⟨fun _ => by rw [d3, r4], fun q => by omega⟩
    · omega
  · exact absurd q (by decide)
theorem vv_any_fn {m : Int} (h3 : K3 X) (h : VV false X G x s w) (hx : FNK X x m) (hc : ∀ i : Nat, (i : Int) ≤ m → cmpK X x i = 2) : VV false X G 2 s w := by
  obtain ⟨k1, k2⟩ := h3.two
  obtain ⟨r1, r2, r3⟩ := hx.vk
  rcases h with ⟨-, a, b, c, d⟩ | ⟨q, -⟩
  · refine Or.inl ⟨rfl, k1, b, c, Or.inr (Or.inl ⟨k2, ?_⟩)⟩
    rcases d with ⟨d1, d2, d3⟩ | ⟨d1, d2, d3⟩ | ⟨d1, d2, d3⟩ | ⟨d1, d2, d3, d4⟩
    · omega
    · omega
    · omega
    · exact ⟨fun q => by omega, fun q i hi => by rw [d4 i hi]; exact hc i (by omega)⟩
  · exact absurd q (by decide)
theorem vv_any_inv (h3 : K3 X) (h : VV false X G 2 s w) : (s.toInt = 3 → RV X w ∧ EK X G w = 2) ∧ (s.toInt = 4 → FV X w ∧ ∀ i : Nat, (i : Int) ≤ FA X w → FC false X w i = 2) := by
  obtain ⟨k1, k2⟩ := h3.two
  rcases h with ⟨-, a, b, c, d⟩ | ⟨q, -⟩
  · rcases d with ⟨d1, d2, d3⟩ | ⟨d1, d2, d3⟩ | ⟨d1, d2, d3⟩ | ⟨d1, d2, d3, d4⟩
    · omega
    · exact ⟨fun q => ⟨b q, d2 q⟩, fun q => ⟨c q, d3 q⟩⟩
    · omega
    · omega
  · exact absurd q (by decide)
theorem vv_row_any (h3 : K3 X) (h : VV false X G 2 s w) (hs : s.toInt = 3) (hx : ROWK X x 2) : VV false X G x s w := by
  obtain ⟨r1, r2, r3, r4⟩ := hx.vk
  obtain ⟨a, b⟩ := (vv_any_inv h3 h).1 hs
  exact Or.inl ⟨rfl, r1, fun _ => a, fun q => by omega, Or.inr (Or.inr (Or.inl ⟨r2, hs, by rw [r4]; exact b⟩))⟩
theorem vv_fn_any {m : Int} (h3 : K3 X) (h : VV false X G 2 s w) (hs : s.toInt = 4) (hx : FNK X x m) (hc : ∀ i : Nat, (i : Int) ≤ m → cmpK X x i = 2) (hm : FA X w = m) : VV false X G x s w := by
  obtain ⟨r1, r2, r3⟩ := hx.vk
  obtain ⟨a, b⟩ := (vv_any_inv h3 h).2 hs
  exact Or.inl ⟨rfl, r1, fun q => by omega, fun _ => a, Or.inr (Or.inr (Or.inr ⟨r2, hs, by omega, fun i hi => by rw [b i hi, hc i (by omega)]⟩))⟩
theorem vv_prim_any (h3 : K3 X) (h : VV false X G 2 s w) (hy : VK X y) (hs : (so X y = s.toInt + 1 ∧ 0 ≤ s.toInt ∧ s.toInt ≤ 1) ∨ so X y = 3) : VV false X G y s w := by
  obtain ⟨a, b⟩ := vv_any_inv h3 h
  refine Or.inl ⟨rfl, hy, fun q => (a q).1, fun q => (b q).1, ?_⟩
  rcases hs with hs | hs
  · exact Or.inl hs
  · exact Or.inr (Or.inl ⟨hs, fun q => (a q).2, fun q => (b q).2⟩)
theorem fit_row2 {e : Int32} (h : ROWK X x e) (g : ROWK X y 2) : FIT X x y := by
  obtain ⟨a1, a2, a3, a4, a5⟩ := h
  obtain ⟨b1, b2, b3, b4, b5⟩ := g
  refine FIT.intro (Or.inr (Or.inr (Or.inr ⟨Int32.toInt_inj.mp (by omega), by omega, Int32.toInt_inj.mp (by omega), fun i hi => ?_⟩)))
  have : i = 0 := by omega
  subst this
  rw [b5]
  exact FIT.intro (Or.inr (Or.inr (Or.inl rfl)))
theorem fit_fn2 {m : Int} (h : FNK X x m) (g : FNK X y m) (hc : ∀ i : Nat, (i : Int) ≤ m → cmpK X y i = 2) : FIT X x y := by
  obtain ⟨a1, a2, a3, a4⟩ := h
  obtain ⟨b1, b2, b3, b4⟩ := g
  refine FIT.intro (Or.inr (Or.inr (Or.inr ⟨Int32.toInt_inj.mp (by omega), by omega, Int32.toInt_inj.mp (by omega), fun i hi => ?_⟩)))
  rw [hc i (by omega)]
  exact FIT.intro (Or.inr (Or.inr (Or.inl rfl)))
end CONV
theorem new_wrap {X Y : St} {G : Nat → Int32} {cell k k1 g t d : Int32} (hH : HP false X G) (hT : KT X) (hW : NEWW X Y cell k k1 g t d) (h33 : (X.1 0 33).toInt < 1000) (hk : VK X k) (hk1 : VK X k1) (hne : ¬ k = k1) (hs : so X k = so X k1 ∧ 4 ≤ so X k ∧ km X k = km X k1) (hf : FIT X k k1) (hp : (0 ≤ g.toInt ∧ g.toInt ≤ 40) ∧ 0 ≤ t.toInt ∧ t.toInt ≤ 40) (hd : 0 ≤ d.toInt ∧ d.toInt < 20) (hd3 : (X.1 60 (ix cell)).toInt = 3 → (wrp X (ix (X.1 61 (ix cell))) ∧ d = X.1 73 (ix (X.1 61 (ix cell)))) ∨ (¬ wrp X (ix (X.1 61 (ix cell))) ∧ d = 0)) (hd4 : (X.1 60 (ix cell)).toInt = 4 → (100 ≤ (X.1 61 (ix cell)).toInt ∧ d = X.1 73 (ix (X.1 61 (ix cell)) - 100)) ∨ ((X.1 61 (ix cell)).toInt < 100 ∧ d = 0)) (hv : VV false X G k (X.1 60 (ix cell)) (X.1 61 (ix cell))) : HX X Y G G ∧ HP false Y G ∧ VV false Y G k1 (Y.1 60 (ix cell)) (Y.1 61 (ix cell)) := by
  obtain ⟨hF, e33, hold, ⟨w64, w67, w68, w69, w70, w71, w73⟩, w61, hoth⟩ := hW
  have hth := hH.1.1
  have eT := ixc hth
  have hK : KX X Y := KX.fr hF (by decide)
  have z0 : (0 : Int32).toInt = 0 := rfl
  have hX : HX X Y G G := ⟨hK, by omega, fun j hj => by
    obtain ⟨⟨a1, a2, a3⟩, a4, a5, a6, a7⟩ := hold j (by omega)
    exact ⟨⟨a1, hF.1 65 j (show (13000 : Nat) ∉ [33, 36, 12200, 12800, 13400, 13600, 13800, 14000, 14200, 14400, 14600] from by decide), hF.1 66 j (show (13200 : Nat) ∉ [33, 36, 12200, 12800, 13400, 13600, 13800, 14000, 14200, 14400, 14600] from by decide)⟩, ⟨a2, a3, a4, a5, a6, a7⟩, rfl⟩, fun i => ⟨hF.1 15 i (show (3000 : Nat) ∉ [33, 36, 12200, 12800, 13400, 13600, 13800, 14000, 14200, 14400, 14600] from by decide), hF.1 16 i (show (3200 : Nat) ∉ [33, 36, 12200, 12800, 13400, 13600, 13800, 14000, 14200, 14400, 14600] from by decide), hF.1 17 i (show (3400 : Nat) ∉ [33, 36, 12200, 12800, 13400, 13600, 13800, 14000, 14200, 14400, 14600] from by decide), hF.1 19 i (show (3800 : Nat) ∉ [33, 36, 12200, 12800, 13400, 13600, 13800, 14000, 14200, 14400, 14600] from by decide)⟩, hF.1 0 18 (by decide)⟩
  have f34 : Y.1 0 34 = X.1 0 34 := hF.1 0 34 (by decide)
  have f60 : Y.1 60 (ix cell) = X.1 60 (ix cell) := hF.1 60 _ (show (12000 : Nat) ∉ [33, 36, 12200, 12800, 13400, 13600, 13800, 14000, 14200, 14400, 14600] from by decide)
  obtain ⟨s1, s2⟩ := hk.so_kx hK
  obtain ⟨t1, t2⟩ := hk1.so_kx hK
  have kc := hk.cases hT
  have vY := hk1.kx hK
  have key : (WR1 Y G (ix (X.1 0 33)) ∨ WR2 Y (ix (X.1 0 33))) ∧ VV false Y G k1 (Y.1 60 (ix cell)) (Y.1 61 (ix cell)) := by
    rcases hv with ⟨-, v1, v2, v3, v4⟩ | ⟨q, -⟩
    · rcases v4 with v4 | v4 | ⟨v4, v5, v6⟩ | ⟨v4, v5, v6, v7⟩
      · omega
      · omega
      · have rv := v2 v5
        have er := ixc rv.1
        have rv2 := rv.2.1
        obtain ⟨⟨o1, -⟩, -, -, -, o7⟩ := hold (ix (X.1 61 (ix cell))) (by omega)
        refine ⟨Or.inl ?_, ?_⟩
        · unfold WR1 wrp
          rw [w67, w68, w69, s1, t1, EK.hx rv hT hX, cmpK_kx hT hK hk.1 hk.2 (show ((0 : Nat) : Int) < km X k by omega), o1, o7]
          refine ⟨v4, by omega, rv.hx hX, by omega, v6, ?_⟩
          rcases hd3 v5 with ⟨a, b⟩ | ⟨a, b⟩
          · exact Or.inl ⟨a, by rw [w73, b]⟩
          · exact Or.inr ⟨a, by rw [w73, b, z0]; rfl⟩
        · have e61 : (Y.1 61 (ix cell)).toInt = (X.1 0 33).toInt := by omega
          have i61 : ix (Y.1 61 (ix cell)) = ix (X.1 0 33) := by
            have := ixc (z := Y.1 61 (ix cell)) (by omega)
            omega
          refine Or.inl ⟨rfl, vY, fun _ => ⟨by omega, by omega, fun _ => ?_⟩, fun q => ?_, Or.inr (Or.inr (Or.inl ⟨by omega, by rw [f60]; exact v5, ?_⟩))⟩
          · rw [i61, w69]
            exact ⟨vY, by omega⟩
          · rw [f60] at q
            omega
          · unfold EK
            rw [i61, if_neg w64, w69]
      · have fv := v3 v5
        have hn3 : ¬ (X.1 60 (ix cell)).toInt = 3 := by omega
        refine ⟨Or.inr ?_, ?_⟩
        · unfold WR2
          rw [w67, w68, w69, s1, t1, s2, t2, FA.hx fv hX]
          refine ⟨v4, by omega, hs.2.2, fv.hx hX, ?_, v6, fun i hi => ?_, ?_⟩
          · rcases fv with q | q <;> omega
          · rw [FC.hx fv hT hX hi, cmpK_kx hT hK hk.1 hk.2 (show (i : Int) < km X k by omega)]
            exact v7 i hi
          · rcases hd4 v5 with ⟨a, b⟩ | ⟨a, b⟩
            · refine Or.inl ⟨a, ?_⟩
              have ew := ixc (z := X.1 61 (ix cell)) (by omega)
              rw [(hold (ix (X.1 61 (ix cell)) - 100) (by rcases fv with q | q <;> omega)).2.2.2.2, w73, b]
            · exact Or.inr ⟨a, by rw [w73, b, z0]; rfl⟩
        · have e61 : (Y.1 61 (ix cell)).toInt = 100 + (X.1 0 33).toInt := by omega
          have i61 : ix (Y.1 61 (ix cell)) - 100 = ix (X.1 0 33) := by
            have := ixc (z := Y.1 61 (ix cell)) (by omega)
            omega
          have fa : FA Y (Y.1 61 (ix cell)) = km Y k1 - 1 := by
            unfold FA
            rw [if_neg (by omega), i61, w69]
          refine Or.inl ⟨rfl, vY, fun q => ?_, fun _ => Or.inr ⟨by omega, by omega, ?_, ?_, ?_⟩, Or.inr (Or.inr (Or.inr ⟨by omega, by rw [f60]; exact v5, by omega, fun i hi => ?_⟩))⟩
          · rw [f60] at q
            omega
          · rw [i61]
            exact w64
          · rw [i61, w69]
            exact vY
          · rw [i61, w69]
            omega
          · unfold FC
            rw [if_neg (by decide), if_neg (by omega), i61, w69]
    · exact absurd q (by decide)
  refine ⟨hX, hH.hx hT hX (by omega) (by rw [f34]; exact ⟨Int.le_refl _, hH.1.2.2.2⟩) (fun c _ => ⟨hF.1 74 c (show (14800 : Nat) ∉ [33, 36, 12200, 12800, 13400, 13600, 13800, 14000, 14200, 14400, 14600] from by decide), hF.1 75 c (show (15000 : Nat) ∉ [33, 36, 12200, 12800, 13400, 13600, 13800, 14000, 14200, 14400, 14600] from by decide)⟩) (fun j j1 j2 => ?_), key.2⟩
  have : j = ix (X.1 0 33) := by omega
  subst this
  refine ⟨fun q => absurd w64 q, fun _ => ⟨rfl, ?_⟩⟩
  have k1' := key.1
  unfold WRP
  rw [w68, w69, w70, w71]
  exact ⟨hk.kx hK, vY, hf.kx hT hK hk hk1, hp, by omega, hne, k1'⟩
/-- what asks leaves while the run is on -/
def ASKQ (X Y : St) (G : Nat → Int32) (cell k1 : Int32) : Prop := (Y.1 0 43).toInt < 0 → HX X Y G G ∧ HP false Y G ∧ VV false Y G k1 (Y.1 60 (ix cell)) (Y.1 61 (ix cell)) ∧ ∀ j, j ≠ ix cell → Y.1 61 j = X.1 61 j
/-- all that asks wants of a state -/
def ASKH (X : St) (G : Nat → Int32) (cell : Int32) : Prop := HP false X G ∧ KT X ∧ K3 X ∧ PBD X ∧ (X.1 0 18).toInt ≤ 40 ∧ 0 ≤ cell.toInt ∧ cell.toInt < 20400
theorem ASKH.to {X Y : St} {G : Nat → Int32} {cell : Int32} {L : List Nat} (h : ASKH X G cell) (hP : PER L X Y) (hl : 33 ∉ L ∧ 12800 ∉ L ∧ 13000 ∉ L ∧ 13200 ∉ L ∧ 13400 ∉ L ∧ 13600 ∉ L ∧ 13800 ∉ L ∧ 14000 ∉ L ∧ 14200 ∉ L ∧ 14600 ∉ L ∧ 3000 ∉ L ∧ 3200 ∉ L ∧ 3400 ∉ L ∧ 3800 ∉ L ∧ 18 ∉ L) (hl2 : 34 ∉ L ∧ 14800 ∉ L ∧ 15000 ∉ L) : ASKH Y G cell ∧ HX X Y G G := by
  obtain ⟨a, b, c, d, e, f⟩ := h
  obtain ⟨p1, p2, p3, p4⟩ := hP
  refine ⟨⟨a.same b p1 p3 hl hl2, p2, c.kx p3, d.pot p4, ?_, f⟩, HX.fr p1 p3 hl⟩
  rw [p1.1 0 18 hl.2.2.2.2.2.2.2.2.2.2.2.2.2.2]
  exact e
theorem asks_off {N : Nat} {cell g t at1 x y m : Int32} {X : St} {Q : Int32 → St → Prop} (hm : m.toInt = 0) (h : Q 0 X) : ok (f_asks_9 (N + 1) cell g t at1 x y m X) Q := by
  show ok (f_asks_9_s (f_asks_9 N) cell g t at1 x y m X) Q
  unfold f_asks_9_s
  exact ok.ite (fun _ => ok.ret h) (fun c => absurd hm c)
theorem asks_same {N : Nat} {cell g t at1 x y m : Int32} {X : St} {Q : Int32 → St → Prop} (hm : x.toInt = y.toInt) (h : Q 0 X) : ok (f_asks_9 (N + 1) cell g t at1 x y m X) Q := by
  show ok (f_asks_9_s (f_asks_9 N) cell g t at1 x y m X) Q
  unfold f_asks_9_s
  exact ok.ite (fun _ => ok.ret h) (fun c => ok.ite (fun _ => ok.ret h) (fun c => absurd hm c))
/-- a turn counts, and goes on -/
theorem asks_turn {N : Nat} {cell g t at1 x y m : Int32} {X : St} {Q : Int32 → St → Prop} (hm : ¬ m.toInt = 0) (hne : ¬ x.toInt = y.toInt) (hp : (0 ≤ g.toInt ∧ g.toInt ≤ 40) ∧ 0 ≤ t.toInt ∧ t.toInt ≤ 40) (h : ∀ W : St, Fr YR [16000] X W → ok (if y.toInt = 2 then chk (inR x 6000) (letV (W.1 4 (ix x)) fun x22 => if x22.toInt ≤ 3 then f_asks_60 (f_asks_9 N) cell g t at1 x y (0 : Int32) W else f_asks_60 (f_asks_9 N) cell g t at1 x y (1 : Int32) W) else if x.toInt = 2 then bnd (f_isOfSort cell y W) fun x7 X8 => if x7.toInt = 0 then letV (wI X8 0 45 g) fun X20 => bnd (f_ends (3 : Int32) at1 X20) fun _ X21 => f_asks_144 (f_asks_9 N) cell g t at1 x y X21 else f_asks_144 (f_asks_9 N) cell g t at1 x y X8 else bnd (f_wraps cell x y g t at1 W) fun _ X6 => f_asks_9 N cell g t at1 x y (0 : Int32) X6) Q) : ok (f_asks_9 (N + 1) cell g t at1 x y m X) Q := by
  have z : (41 : Int32).toInt = 41 := rfl
  show ok (f_asks_9_s (f_asks_9 N) cell g t at1 x y m X) Q
  unfold f_asks_9_s
  refine ok.ite (fun c => absurd c hm) (fun _ => ok.ite (fun c => absurd c hne) (fun _ => ?_))
  refine ok.mul (by rw [z]; omega) (fun x1 hx1 => ?_)
  rw [z] at hx1
  refine ok.add (by omega) (fun x2 hx2 => ?_)
  refine ok.ck (show 0 ≤ x2.toInt ∧ x2.toInt < ((1681 : Nat) : Int) by omega) (ok.letV (ok.any (fun x4 => ?_)))
  refine ok.ck (show 0 ≤ x2.toInt ∧ x2.toInt < ((1681 : Nat) : Int) by omega) (ok.letV ?_)
  exact h _ (Fr.rf.wI 80 _ _ (show (16000 : Nat) ∈ [16000] from by decide))
theorem asks_wrap {N : Nat} {cell g t at1 x y m : Int32} {X : St} {G : Nat → Int32} (hA : ASKH X G cell) (hm : ¬ m.toInt = 0) (hp : (0 ≤ g.toInt ∧ g.toInt ≤ 40) ∧ 0 ≤ t.toInt ∧ t.toInt ≤ 40) (hx : VK X x) (hy : VK X y) (hne : ¬ x = y) (hx2 : ¬ x.toInt = 2) (hy2 : ¬ y.toInt = 2) (hf : FIT X x y) (hv : VV false X G x (X.1 60 (ix cell)) (X.1 61 (ix cell))) : ok (f_asks_9 (N + 2) cell g t at1 x y m X) (fun _ Y => PER [13, 15, 33, 36, 43, 44, 45, 800, 1000, 1200, 1400, 1600, 1800, 2000, 12200, 12800, 13400, 13600, 13800, 14000, 14200, 14400, 14600, 16000] X Y ∧ ASKQ X Y G cell y) := by
  refine asks_turn hm (ti_ne hne) hp (fun W hW => ?_)
  have hPW : PER [16000] X W := PER.fr hA.2.1 hW (by decide)
  obtain ⟨hB, hXW⟩ := hA.to hPW (by decide) (by decide)
  refine ok.ite (fun c => absurd c hy2) (fun _ => ok.ite (fun c => absurd c hx2) (fun _ => ?_))
  have r60 : W.1 60 (ix cell) = X.1 60 (ix cell) := hW.1 60 _ (show (12000 : Nat) ∉ [16000] from by decide)
  have r61 : ∀ j, W.1 61 j = X.1 61 j := fun j => hW.1 61 j (show (12200 : Nat) ∉ [16000] from by decide)
  have hvW := hv.hx hA.2.1 hXW
  rw [← r60, ← r61] at hvW
  have hxW := hx.kx hPW.2.2.1
  have hyW := hy.kx hPW.2.2.1
  have hfW := hf.kx hA.2.1 hPW.2.2.1 hx hy
  obtain ⟨d1, d2, d3, -⟩ := hfW.deep hne hx2 hy2
  refine ok.bd (r_wraps (G := G) hB.1 hB.2.2.2.2.2 hvW.base.1 hvW.base.2) ?_
  rintro r1 Z ⟨hF, hZ⟩
  have hPZ : PER [33, 36, 43, 44, 12200, 12800, 13400, 13600, 13800, 14000, 14200, 14400, 14600] W Z := PER.fr hB.2.1 hF (by decide)
  refine asks_off rfl ⟨(hPW.mono (by decide)).tr hPZ (by decide), fun hon => ?_⟩
  rcases hZ with hZ | ⟨h33, d, e1, e2, e3, hN⟩
  · omega
  · obtain ⟨g1, g2, g3⟩ := new_wrap hB.1 hB.2.1 hN h33 hxW hyW hne ⟨d1, d2, d3⟩ hfW hp e1 e2 e3 hvW
    exact ⟨hXW.tr g1, g2, g3, fun j hj => (hN.2.2.2.2.2 j hj).trans (r61 j)⟩
/-- two kinds neither of which is ANY, or alike -/
theorem asks_two {N : Nat} {cell g t at1 x y m : Int32} {X : St} {G : Nat → Int32} (hA : ASKH X G cell) (hm : ¬ m.toInt = 0) (hp : (0 ≤ g.toInt ∧ g.toInt ≤ 40) ∧ 0 ≤ t.toInt ∧ t.toInt ≤ 40) (hx : VK X x) (hy : VK X y) (hx2 : ¬ x.toInt = 2) (hy2 : ¬ y.toInt = 2) (hf : FIT X x y) (hv : VV false X G x (X.1 60 (ix cell)) (X.1 61 (ix cell))) : ok (f_asks_9 (N + 2) cell g t at1 x y m X) (fun _ Y => PER [13, 15, 33, 36, 43, 44, 45, 800, 1000, 1200, 1400, 1600, 1800, 2000, 12200, 12800, 13400, 13600, 13800, 14000, 14200, 14400, 14600, 16000] X Y ∧ ASKQ X Y G cell y) := by
  by_cases hne : x = y
  · subst hne
    exact asks_same rfl ⟨PER.rf hA.2.1, fun _ => ⟨HX.rf, hA.1, hv, fun _ _ => rfl⟩⟩
  · exact asks_wrap hA hm hp hx hy hne hx2 hy2 hf hv
theorem PER.ask {L : List Nat} {X W Y : St} {G : Nat → Int32} {cell y k : Int32} (hP : PER L X W) (hX : HX X W G G) (h61 : ∀ j, W.1 61 j = X.1 61 j) (hs : ∀ k ∈ L, k ∈ [13, 15, 33, 36, 43, 44, 45, 800, 1000, 1200, 1400, 1600, 1800, 2000, 12200, 12800, 13400, 13600, 13800, 14000, 14200, 14400, 14600, 16000]) (h : PER [13, 15, 33, 36, 43, 44, 45, 800, 1000, 1200, 1400, 1600, 1800, 2000, 12200, 12800, 13400, 13600, 13800, 14000, 14200, 14400, 14600, 16000] W Y ∧ ASKQ W Y G cell y) (hv : (Y.1 0 43).toInt < 0 → VV false Y G y (Y.1 60 (ix cell)) (Y.1 61 (ix cell)) → VV false Y G k (Y.1 60 (ix cell)) (Y.1 61 (ix cell))) : PER [13, 15, 33, 36, 43, 44, 45, 800, 1000, 1200, 1400, 1600, 1800, 2000, 12200, 12800, 13400, 13600, 13800, 14000, 14200, 14400, 14600, 16000] X Y ∧ ASKQ X Y G cell k := by
  obtain ⟨h1, h2⟩ := h
  refine ⟨(hP.mono hs).tr h1 (fun _ q => q), fun hon => ?_⟩
  obtain ⟨a, b, c, d⟩ := h2 hon
  exact ⟨hX.tr a, b, hv hon c, fun j hj => (d j hj).trans (h61 j)⟩
