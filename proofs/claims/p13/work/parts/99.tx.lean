/-! a place written -/
theorem HP.store {u : Bool} {X Y : St} {G : Nat → Int32} {tt c : Nat} (hH : HP u X G) (hT : KT X) (hF : Fr YR [14800, 15000] X Y) (ht : (tt : Int) < (X.1 0 33).toInt) (hr : ¬ wrp X tt) (hc : (X.1 65 tt).toInt ≤ (c : Int) ∧ (c : Int) < (X.1 65 tt).toInt + (X.1 66 tt).toInt) (ho : ∀ j, j ≠ c → Y.1 74 j = X.1 74 j ∧ Y.1 75 j = X.1 75 j) (hv : VV u X G (G tt) (Y.1 74 c) (Y.1 75 c)) : HP u Y G ∧ HX X Y G G := by
  have hK : KX X Y := KX.fr hF (by decide)
  have hX : HX X Y G G := HX.fr hF hK (by decide)
  refine ⟨⟨?_, fun t h => ?_⟩, hX⟩
  · rw [hF.1 0 33 (by decide), hF.1 0 34 (by decide)]
    exact hH.1
  · rw [hF.1 0 33 (by decide)] at h
    obtain ⟨f1, f2⟩ := hH.2 t h
    have e64 : ∀ j, Y.1 64 j = X.1 64 j := fun j => hF.1 64 j (show (12800 : Nat) ∉ [14800, 15000] from by decide)
    have e65 : ∀ j, Y.1 65 j = X.1 65 j := fun j => hF.1 65 j (show (13000 : Nat) ∉ [14800, 15000] from by decide)
    have e66 : ∀ j, Y.1 66 j = X.1 66 j := fun j => hF.1 66 j (show (13200 : Nat) ∉ [14800, 15000] from by decide)
    unfold wrp
    rw [e64]
    refine ⟨fun q => ?_, fun q => ⟨(f2 q).1, (f2 q).2.hx hT hX h⟩⟩
    obtain ⟨p1, p2, p3, p4, pd, p5⟩ := f1 q
    unfold RAW
    rw [e65, e66, hF.1 0 34 (by decide)]
    refine ⟨p1, p2, p3, p4, fun j hj => ?_, fun j j1 j2 => ?_⟩
    · unfold wrp
      rw [e64, e65, e66]
      exact pd j hj
    · by_cases g : j = c
      · subst g
        obtain ⟨-, -, -, -, qd, -⟩ := (hH.2 tt ht).1 hr
        have : t = tt := by
          rcases Nat.lt_trichotomy t tt with z | z | z
          · have := qd t z q
            omega
          · exact z
          · have := pd tt z hr
            omega
        subst this
        exact hv.hx hT hX
      · obtain ⟨o1, o2⟩ := ho j g
        rw [o1, o2]
        exact (p5 j j1 j2).hx hT hX
theorem wr_loop {u : Bool} {G : Nat → Int32} {cell : Int32} {f : Nat → Int32} {d : Nat} (hd : d ≤ 20) {Z0 : St} (h0 : PRE Z0 cell f d) (h31 : (Z0.1 0 31).toInt = cell.toInt + 1) {a2 a4 a5 a6 a7 a8 : Int32} (h8 : a8.toInt = (d : Int)) {Q : Int32 → St → Prop} (K : ∀ Z, PER [13, 15, 33, 36, 43, 44, 45, 800, 1000, 1200, 1400, 1600, 1800, 2000, 12200, 12800, 13400, 13600, 13800, 14000, 14200, 14400, 14600, 16000] Z0 Z → WAYQ u Z0 Z G f d d cell → ok (f_writes_183 a2 a4 a5 a6 a7 Z) Q) : ∀ (e i : Nat) (Z : St) (a9 : Int32) (N : Nat), i + e = d → e < N → a9.toInt = (i : Int) → PER [13, 15, 33, 36, 43, 44, 45, 800, 1000, 1200, 1400, 1600, 1800, 2000, 12200, 12800, 13400, 13600, 13800, 14000, 14200, 14400, 14600, 16000] Z0 Z → WAYQ u Z0 Z G f d i cell → ok (f_writes_101 N a2 a4 a5 a6 a7 a8 a9 Z) Q := by
  have z1 : (1 : Int32).toInt = 1 := rfl
  intro e
  induction e with
  | zero =>
    intro i Z a9 N hi hN ha hP hQ
    obtain ⟨N, rfl⟩ : ∃ k, N = k + 1 := ⟨N - 1, by omega⟩
    obtain rfl : i = d := by omega
    show ok (f_writes_101_s (f_writes_101 N) a2 a4 a5 a6 a7 a8 a9 Z) _
    unfold f_writes_101_s
    exact ok.ite (fun _ => K Z hP hQ) (fun g => absurd (show a8.toInt ≤ a9.toInt by omega) g)
  | succ e ih =>
    intro i Z a9 N hi hN ha hP hQ
    obtain ⟨N, rfl⟩ : ∃ k, N = k + 1 := ⟨N - 1, by omega⟩
    show ok (f_writes_101_s (f_writes_101 N) a2 a4 a5 a6 a7 a8 a9 Z) _
    unfold f_writes_101_s
    refine ok.ite (fun g => absurd g (by omega)) (fun _ => ok.bd r_isOn ?_)
    rintro r1 Z' ⟨rfl, h1⟩
    refine ok.ite (fun g => K Z hP (fun q => by omega)) (fun g => ?_)
    have hz : (Z.1 0 43).toInt < 0 := by omega
    obtain ⟨hz0, hxz, ⟨w1, w2, w3⟩, ho⟩ := hQ hz
    have hPZ := h0.to hP
    obtain ⟨⟨p1, p2, p3⟩, ⟨p4, p5⟩, p6⟩ := id hPZ
    obtain ⟨rfl, ⟨v8, v9⟩, ⟨m8, m9⟩, ⟨c8, c9⟩, ⟨vk, vk1⟩, fit, prt, fb⟩ := chain_ask (i := i) w1 p1 p2 w2 (by omega)
    have i9 : ix a9 = i := ixn ha
    have hfb : 0 ≤ (f i).toInt ∧ (f i).toInt < ((1000 : Nat) : Int) := fb
    refine ok.ck (show 0 ≤ a9.toInt ∧ a9.toInt < ((21 : Nat) : Int) by omega) (ok.letE (v1 := f i) (by rw [i9]; exact p6 i (by omega)) ?_)
    refine ok.letE (v1 := Z0.1 0 31) (hP.1.1 0 31 (by decide)) (ok.sub (by rw [z1]; omega) (fun x41 hx41 => ?_))
    rw [z1] at hx41
    obtain rfl : x41 = cell := Int32.toInt_inj.mp (by omega)
    refine ok.ck hfb (ok.letV (ok.bd (j_elementOf p1 (by have := p3.1; omega) (by have := p3.2; omega) v9 (show 1 ≤ km Z (Z.1 69 (ix (f i))) by omega)) ?_))
    rintro r2 Z' ⟨rfl, rfl⟩
    refine ok.ck hfb (ok.letV (ok.bd (j_elementOf p1 (by have := p3.1; omega) (by have := p3.2; omega) v8 (show 1 ≤ km Z (Z.1 68 (ix (f i))) by omega)) ?_))
    rintro r3 Z' ⟨rfl, rfl⟩
    refine ok.ck hfb (ok.letV (ok.ck hfb (ok.letV (ok.ck hfb (ok.letV ?_)))))
    rw [c8, c9]
    refine ok.bd (r_asks (G := G) ⟨w1, p1, p2, p3, p4, p5⟩ ⟨prt.2, prt.1⟩ vk vk1 fit.symm w3) ?_
    rintro r4 Y ⟨hPY, hQY⟩
    refine ok.inc (by decide) (by omega) (fun x hx => ?_)
    refine ih (i + 1) Y x N (by omega) (by omega) (by omega) (hP.tr hPY (fun _ q => q)) (fun q => ?_)
    obtain ⟨y1, y2, y3, y4⟩ := hQY q
    exact ⟨hz0, hxz.tr y1, ⟨y2, w2.hx y1, by rw [EK.hx (w2.1 (i + 1) (by omega)) p1 y1]; exact y3⟩, fun j hj => (y4 j hj).trans (ho j hj)⟩
section WR
variable {u : Bool} {X : St} {G : Nat → Int32} {t : Ty} {sb lb n : Nat} {n1 : Int32}
theorem wr_242 {Z : St} {a2 a6 a7 : Int32} {i : Nat} (h2 : a2.toInt = (i : Int)) (hi : i < 20400) : ok (f_writes_242 a2 a6 a7 Z) (fun _ Y => Fr YR [31, 12000, 12200] Z Y ∧ (Y.1 0 31).toInt = (i : Int) + 1 ∧ Y.1 60 i = a6 ∧ Y.1 61 i = a7 ∧ ∀ j, j ≠ i → Y.1 60 j = Z.1 60 j ∧ Y.1 61 j = Z.1 61 j) := by
  unfold f_writes_242
  refine ok.letV ?_
  have hFw : Fr YR [31, 12000, 12200] Z (wI Z 0 31 a2) := Fr.rf.wI 0 31 _ (show (31 : Nat) ∈ [31, 12000, 12200] from by decide)
  have w31 : (wI Z 0 31 a2).1 0 31 = a2 := wI_at _ _ _ _
  have w60 : ∀ j, (wI Z 0 31 a2).1 60 j = Z.1 60 j := fun j => wI_ne _ _ _ _ _ _ (fun g => absurd g.1 (by decide))
  have w61 : ∀ j, (wI Z 0 31 a2).1 61 j = Z.1 61 j := fun j => wI_ne _ _ _ _ _ _ (fun g => absurd g.1 (by decide))
  obtain ⟨V, hV⟩ : ∃ V : St, wI Z 0 31 a2 = V := ⟨_, rfl⟩
  rw [hV] at hFw w31 w60 w61 ⊢
  refine ok.bd (r_value (i := i) (by rw [w31]; exact h2) hi) ?_
  rintro r Y ⟨y1, y2, y3, y4, y5⟩
  exact ok.ret ⟨hFw.tr y1 (fun _ q => q), y2, y3, y4, fun j hj => ⟨(y5 j hj).1.trans (w60 j), (y5 j hj).2.trans (w61 j)⟩⟩
theorem w_assign (h : FIN u X G t sb lb) (hn1 : n1.toInt = (n : Int)) (hn : n < 3100) (hmt : 3 ≤ t.1) (hk : TK u X (tp t 2) (tp t 0)) : ok (f_writes n1 X) (fun _ Y => INF u X Y G (psh (pps t 3) (tp t 0)) sb lb) := by
  have hall := h
  obtain ⟨⟨a1, a2, a3, a4⟩, ⟨b1, b2, b3⟩, a6, ⟨c1, c2, c3, c4, c5⟩, a8⟩ := h
  have z1 : (1 : Int32).toInt = 1 := rfl
  have z2 : (2 : Int32).toInt = 2 := rfl
  have z3 : (3 : Int32).toInt = 3 := rfl
  have en := ixn hn1
  have hb : 0 ≤ n1.toInt ∧ n1.toInt < ((3100 : Nat) : Int) := by omega
  have h33 := a1.1.2.1
  have h34 := a1.1.2.2.2
  unfold f_writes
  refine ok.letV (ok.sub (by rw [z3]; omega) (fun x2 hx2 => ?_))
  rw [z3] at hx2
  have e2 : ix x2 = sb + (t.1 - 3) := ixn (by omega)
  have hb2 : 0 ≤ x2.toInt ∧ x2.toInt < ((20400 : Nat) : Int) := by omega
  have hv := a6.tp (i := 2) (by omega)
  rw [show sb + (t.1 - 1 - 2) = ix x2 by omega] at hv
  obtain ⟨s3, rv, ek⟩ := vv_take a1 hk hv
  obtain ⟨f, d, f0, hc, -, hd⟩ := r_chain a1 1001 (X.1 61 (ix x2)) (by have := rv.2.1; omega) rv
  refine ok.ck hb2 (ok.letE (v1 := f 0) f0.symm ?_)
  unfold f_within
  refine ok.bd (r_within3 h33 rfl d BIG f hc (ltBIG (by omega))) ?_
  rintro r4 X' ⟨rfl, rfl⟩
  have rvd := hc.1 d (Nat.le_refl _)
  have ed := ixc rvd.1
  have rd2 := rvd.2.1
  obtain ⟨q1, q2, q3, q4, qd, q5⟩ := (a1.2 (ix (f d)) (by omega)).1 hc.2.2
  have hbd : 0 ≤ (f d).toInt ∧ (f d).toInt < ((1000 : Nat) : Int) := by omega
  refine ok.letV (ok.sub (by rw [z2]; omega) (fun x7 hx7 => ?_))
  rw [z2] at hx7
  refine ok.ck (show 0 ≤ x7.toInt ∧ x7.toInt < ((20400 : Nat) : Int) by omega) (ok.letV (ok.ck hbd (ok.letV (ok.sub (by rw [z1]; omega) (fun x10 hx10 => ?_)))))
  rw [z1] at hx10
  refine ok.bd (s_f_in _ _ _ _) ?_
  rintro r0 X' ⟨hF0, hin⟩
  obtain rfl : X = X' := (Fr.nil hF0).symm
  have hin : (r0.toInt = 1 ∧ 0 ≤ (X.1 61 (ix x7)).toInt ∧ (X.1 61 (ix x7)).toInt ≤ x10.toInt) ∨ (r0.toInt = 0 ∧ ((X.1 61 (ix x7)).toInt < 0 ∨ x10.toInt < (X.1 61 (ix x7)).toInt)) := hin
  obtain ⟨ii, hii⟩ : ∃ z : Int32, X.1 61 (ix x7) = z := ⟨_, rfl⟩
  rw [hii] at hin ⊢
  refine ok.ite (fun c => ?_) (fun c => ?_)
  · refine ok.ck hb (ok.letV (ok.bd r_ends ?_))
    rintro r2 E ⟨hE, hE2, -⟩
    exact ok.ret (INF.off (PER.fr a2 hE (by decide)) (by decide) a8 (by decide) (hE2 (by decide)))
  · refine ok.letV (ok.sub (by rw [z1]; omega) (fun x14 hx14 => ?_))
    rw [z1] at hx14
    have e14 : ix x14 = sb + (t.1 - 1) := ixn (by omega)
    have hb14 : 0 ≤ x14.toInt ∧ x14.toInt < ((20400 : Nat) : Int) := by omega
    refine ok.ck hb14 (ok.letV (ok.letV (ok.sub (by rw [z1]; omega) (fun x17 hx17 => ?_))))
    rw [z1] at hx17
    obtain rfl : x17 = x14 := Int32.toInt_inj.mp (by omega)
    refine ok.ck hb14 (ok.letV ?_)
    have hv0 := a6.tp (i := 0) (by omega)
    rw [show sb + (t.1 - 1 - 0) = ix x17 by omega] at hv0
    refine ok.bd (r_aroundOf hc hd h33) ?_
    rintro r24 Z ⟨hFZ, hr24, h81⟩
    have hKZ : KX X Z := KX.fr hFZ (by decide)
    have hHZ : HX X Z G G := HX.fr hFZ hKZ (by decide)
    have hPZ : PER [16200] X Z := PER.fr a2 hFZ (by decide)
    have y60 : ∀ c, Z.1 60 c = X.1 60 c := fun c => hFZ.1 60 c (show (12000 : Nat) ∉ [16200] from by decide)
    have y61 : ∀ c, Z.1 61 c = X.1 61 c := fun c => hFZ.1 61 c (show (12200 : Nat) ∉ [16200] from by decide)
    have y31 : Z.1 0 31 = X.1 0 31 := hFZ.1 0 31 (by decide)
    have hway : WAY u Z G f d 0 x17 := by
      refine ⟨a1.same a2 hFZ hKZ (by decide) (by decide), hc.hx hHZ, ?_⟩
      rw [y60, y61, EK.hx (hc.1 0 (Nat.zero_le _)) a2 hHZ, f0, ek]
      exact hv0.hx a2 hHZ
    have hpre : PRE Z x17 f d := ⟨⟨hPZ.2.1, a3.kx hKZ, a4.pot hPZ.2.2.2⟩, ⟨by rw [hFZ.1 0 18 (by decide)]; exact b1, by omega, by omega⟩, h81⟩
    -- what the last step leaves
    have fin : ∀ W Y : St, PER [13, 15, 31, 33, 34, 35, 36, 43, 44, 45, 46, 800, 1000, 1200, 1400, 1600, 1800, 2000, 12000, 12200, 12400, 12600, 12800, 13000, 13200, 13400, 13600, 13800, 14000, 14200, 14400, 14600, 14800, 15000, 15800, 16000, 16200] X W → (∀ c, W.1 60 c = X.1 60 c) → (∀ c, W.1 62 c = X.1 62 c ∧ W.1 63 c = X.1 63 c) → (0 ≤ (W.1 0 46).toInt ∧ (W.1 0 46).toInt ≤ 200) → ((W.1 0 43).toInt < 0 → HX X W G G ∧ HP u W G ∧ ∀ c, c ≠ sb + (t.1 - 1) → W.1 61 c = X.1 61 c) → (Fr YR [31, 12000, 12200] W Y ∧ (Y.1 0 31).toInt = ((sb + (t.1 - 3) : Nat) : Int) + 1 ∧ Y.1 60 (sb + (t.1 - 3)) = X.1 60 (ix x17) ∧ Y.1 61 (sb + (t.1 - 3)) = X.1 61 (ix x17) ∧ ∀ j, j ≠ sb + (t.1 - 3) → Y.1 60 j = W.1 60 j ∧ Y.1 61 j = W.1 61 j) → INF u X Y G (psh (pps t 3) (tp t 0)) sb lb := by
      rintro W Y hPW hw60 hw62 hw46 hW ⟨y1, y2, y3, y4, y5⟩
      have hPY : PER [31, 12000, 12200] W Y := PER.fr hPW.2.1 y1 (by decide)
      refine ⟨hPW.tr hPY (by decide), by rw [y1.1 0 46 (by decide)]; exact hw46, fun hon => ?_⟩
      rw [y1.1 0 43 (by decide)] at hon
      obtain ⟨g1, g2, g3⟩ := hW hon
      have hWY : HX W Y G G := HX.fr y1 hPY.2.2.1 (by decide)
      have hXY := g1.tr hWY
      have u60 : ∀ c, c < sb + (t.1 - 3) → Y.1 60 c = X.1 60 c ∧ Y.1 61 c = X.1 61 c := fun c hcn => ⟨by rw [(y5 c (by omega)).1, hw60], by rw [(y5 c (by omega)).2, g3 c (by omega)]⟩
      have u62 : ∀ c, Y.1 62 c = X.1 62 c ∧ Y.1 63 c = X.1 63 c := fun c => ⟨(y1.1 62 c (show (12400 : Nat) ∉ [31, 12000, 12200] from by decide)).trans (hw62 c).1, (y1.1 63 c (show (12600 : Nat) ∉ [31, 12000, 12200] from by decide)).trans (hw62 c).2⟩
      refine ⟨G, hXY, g2.same hPW.2.1 y1 hPY.2.2.1 (by decide) (by decide), FRT.psh ((a6.pps 3).hx a2 hXY (fun j j1 j2 => u60 j j2) (fun j _ _ => u62 j)) ?_, ?_, fun j hj => u60 j (by omega), fun j _ => u62 j⟩
      · show VV u Y G (tp t 0) (Y.1 60 (sb + (t.1 - 3))) (Y.1 61 (sb + (t.1 - 3)))
        rw [y3, y4]
        exact hv0.hx a2 hXY
      · rw [y2]
        show _ = ((sb + (t.1 - 3 + 1) : Nat) : Int)
        omega
    refine wr_loop (u := u) (G := G) (cell := x17) hd hpre (by rw [y31]; omega) hr24 (fun W hPW hQ => ?_) d 0 Z 0 BIG (by omega) (ltBIG (by omega)) rfl (PER.rf hPZ.2.1) (fun q => ⟨q, HX.rf, hway, fun _ _ => rfl⟩)
    have hXW : PER [13, 15, 31, 33, 34, 35, 36, 43, 44, 45, 46, 800, 1000, 1200, 1400, 1600, 1800, 2000, 12000, 12200, 12400, 12600, 12800, 13000, 13200, 13400, 13600, 13800, 14000, 14200, 14400, 14600, 14800, 15000, 15800, 16000, 16200] X W := (hPZ.mono (by decide)).tr (hPW.mono (by decide)) (fun _ q => q)
    have w60 : ∀ c, W.1 60 c = X.1 60 c := fun c => (hPW.1.1 60 c (show (12000 : Nat) ∉ [13, 15, 33, 36, 43, 44, 45, 800, 1000, 1200, 1400, 1600, 1800, 2000, 12200, 12800, 13400, 13600, 13800, 14000, 14200, 14400, 14600, 16000] from by decide)).trans (y60 c)
    have w62 : ∀ c, W.1 62 c = X.1 62 c ∧ W.1 63 c = X.1 63 c := fun c => ⟨(hPW.1.1 62 c (show (12400 : Nat) ∉ [13, 15, 33, 36, 43, 44, 45, 800, 1000, 1200, 1400, 1600, 1800, 2000, 12200, 12800, 13400, 13600, 13800, 14000, 14200, 14400, 14600, 16000] from by decide)).trans (hFZ.1 62 c (show (12400 : Nat) ∉ [16200] from by decide)), (hPW.1.1 63 c (show (12600 : Nat) ∉ [13, 15, 33, 36, 43, 44, 45, 800, 1000, 1200, 1400, 1600, 1800, 2000, 12200, 12800, 13400, 13600, 13800, 14000, 14200, 14400, 14600, 16000] from by decide)).trans (hFZ.1 63 c (show (12600 : Nat) ∉ [16200] from by decide))⟩
    have w31 : W.1 0 31 = X.1 0 31 := (hPW.1.1 0 31 (by decide)).trans y31
    have w46 : 0 ≤ (W.1 0 46).toInt ∧ (W.1 0 46).toInt ≤ 200 := by
      rw [hPW.1.1 0 46 (by decide), hFZ.1 0 46 (by decide)]
      exact a8
    unfold f_writes_183
    refine ok.bd r_isOn ?_
    rintro r21 W' ⟨rfl, h21⟩
    refine ok.ite (fun g => ?_) (fun g => ?_)
    · exact (wr_242 (i := sb + (t.1 - 3)) (by omega) (by omega)).mono (fun _ Y hY => fin W Y hXW w60 w62 w46 (fun q => by omega) hY)
    · have hon : (W.1 0 43).toInt < 0 := by omega
      obtain ⟨o1, o2, ⟨o3, o4, o5⟩, o6⟩ := hQ hon
      have hHW : HX X W G G := hHZ.tr o2
      obtain ⟨⟨t4, t5, t6⟩, -, tg⟩ := hHW.2.2.1 (ix (f d)) (by omega)
      refine ok.ck hbd (ok.letE (v1 := X.1 65 (ix (f d))) t5 (ok.add (by omega) (fun x26 hx26 => ?_)))
      have hb26 : 0 ≤ x26.toInt ∧ x26.toInt < ((4000 : Nat) : Int) := by omega
      have e26 := ixc (z := x26) (by omega)
      refine ok.letE (v1 := X.1 0 31) w31 (ok.sub (by rw [z1]; omega) (fun x28 hx28 => ?_))
      rw [z1] at hx28
      obtain rfl : x28 = x17 := Int32.toInt_inj.mp (by omega)
      refine ok.ck hb14 (ok.letV (ok.ck hb26 (ok.letV ?_)))
      have hF1 : Fr YR [14800, 15000] W (wI W 74 (ix x26) (W.1 60 (ix x28))) := Fr.rf.wI 74 _ _ (show (14800 : Nat) ∈ [14800, 15000] from by decide)
      have p74 : (wI W 74 (ix x26) (W.1 60 (ix x28))).1 74 (ix x26) = W.1 60 (ix x28) := wI_at _ _ _ _
      have q74 : ∀ c, c ≠ ix x26 → (wI W 74 (ix x26) (W.1 60 (ix x28))).1 74 c = W.1 74 c := fun c hcn => wI_ne _ _ _ _ _ _ (fun g => hcn g.2)
      have q75 : ∀ c, (wI W 74 (ix x26) (W.1 60 (ix x28))).1 75 c = W.1 75 c := fun c => wI_ne _ _ _ _ _ _ (fun g => absurd g.1 (by decide))
      obtain ⟨V, hV⟩ : ∃ V : St, wI W 74 (ix x26) (W.1 60 (ix x28)) = V := ⟨_, rfl⟩
      rw [hV] at hF1 p74 q74 q75 ⊢
      refine ok.ck hbd (ok.letE (v1 := X.1 65 (ix (f d))) ((hF1.1 65 _ (show (13000 : Nat) ∉ [14800, 15000] from by decide)).trans t5) (ok.add (by omega) (fun x32 hx32 => ?_)))
      obtain rfl : x32 = x26 := Int32.toInt_inj.mp (by omega)
      refine ok.letE (v1 := X.1 0 31) ((hF1.1 0 31 (by decide)).trans w31) (ok.sub (by rw [z1]; omega) (fun x34 hx34 => ?_))
      rw [z1] at hx34
      obtain rfl : x34 = x28 := Int32.toInt_inj.mp (by omega)
      refine ok.ck hb14 (ok.letE (v1 := W.1 61 (ix x34)) (hF1.1 61 _ (show (12200 : Nat) ∉ [14800, 15000] from by decide)) (ok.ck hb26 (ok.letV ?_)))
      have hF2 : Fr YR [14800, 15000] W (wI V 75 (ix x32) (W.1 61 (ix x34))) := hF1.wI 75 _ _ (show (15000 : Nat) ∈ [14800, 15000] from by decide)
      have p75 : (wI V 75 (ix x32) (W.1 61 (ix x34))).1 75 (ix x32) = W.1 61 (ix x34) := wI_at _ _ _ _
      have r75 : ∀ c, c ≠ ix x32 → (wI V 75 (ix x32) (W.1 61 (ix x34))).1 75 c = W.1 75 c := fun c hcn => (wI_ne _ _ _ _ _ _ (fun g => hcn g.2)).trans (q75 c)
      have r74 : ∀ c, (wI V 75 (ix x32) (W.1 61 (ix x34))).1 74 c = V.1 74 c := fun c => wI_ne _ _ _ _ _ _ (fun g => absurd g.1 (by decide))
      obtain ⟨V2, hV2⟩ : ∃ V2 : St, wI V 75 (ix x32) (W.1 61 (ix x34)) = V2 := ⟨_, rfl⟩
      rw [hV2] at hF2 p75 r75 r74 ⊢
      have hKW2 : KX W V2 := KX.fr hF2 (by decide)
      have hPV : PER [14800, 15000] W V2 := PER.fr hXW.2.1 hF2 (by decide)
      have hst : HP u V2 G ∧ HX W V2 G G := by
        refine HP.store (tt := ix (f d)) (c := ix x32) o3 hXW.2.1 hF2 (by have := hHW.2.1; omega) (by unfold wrp; rw [t4]; exact hc.2.2) (by rw [t5, t6]; omega) (fun j hj => ⟨by rw [r74, q74 j hj], r75 j hj⟩) ?_
        rw [r74, p74, p75]
        rw [EK.raw (hc.hx hHW)] at o5
        exact o5
      exact (wr_242 (i := sb + (t.1 - 3)) (by omega) (by omega)).mono (fun _ Y hY => fin V2 Y (hXW.tr (hPV.mono (by decide)) (fun _ q => q)) (fun c => (hF2.1 60 c (show (12000 : Nat) ∉ [14800, 15000] from by decide)).trans (w60 c)) (fun c => ⟨(hF2.1 62 c (show (12400 : Nat) ∉ [14800, 15000] from by decide)).trans (w62 c).1, (hF2.1 63 c (show (12600 : Nat) ∉ [14800, 15000] from by decide)).trans (w62 c).2⟩) (by rw [hF2.1 0 46 (by decide)]; exact w46) (fun q => ⟨hHW.tr hst.2, hst.1, fun c hcn => by rw [hF2.1 61 c (show (12200 : Nat) ∉ [14800, 15000] from by decide), o6 c (by omega), y61]⟩) hY)
end WR
