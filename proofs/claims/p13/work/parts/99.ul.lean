/-! judge(), run(), runUntold(), read() -/
theorem m_judges {X : St} (h : PGM X) : ok (f_judges X) (fun _ Y => Fr YR [4, 9, 10, 13, 15, 26, 27, 28, 29, 30, 800, 1000, 1200, 1400, 1600, 1800, 2000, 6200, 6400, 8000, 8200, 8400, 8600, 8800, 9000, 9200, 9400, 9600, 9800, 10000, 10200, 10400, 10600, 10800, 11000, 11200, 11400, 11600, 11800] X Y ∧ (KT Y ∧ KX (TX X) Y ∧ PBD Y) ∧ (0 ≤ (Y.1 0 28).toInt ∧ (Y.1 0 28).toInt ≤ 3000) ∧ GNA Y ∧ (¬ (Y.1 0 4).toInt = 0 → JUD Y)) := by
  obtain ⟨⟨h1, h2, h3⟩, h4, -⟩ := h
  refine (t_f_judges h1 h2 h3 h4).mono ?_
  rintro r Y ⟨a, b, c, ⟨d1, d2, d3, d4⟩, e, f⟩
  have hm := miss_le Y
  refine ⟨a, ⟨b, c, by unfold PBD; omega⟩, ⟨d3, d4⟩, e, fun q => ?_⟩
  rcases f with ⟨-, -, f⟩ | ⟨f, -⟩
  · exact f
  · exact absurd f q
theorem m_judge {X : St} (h : JM X) : ok (f_judge X) (fun _ Y => JM Y ∧ (Y.1 0 0).toInt = (X.1 0 0).toInt) := by
  unfold f_judge
  refine ok.letV (ok.ite (fun _ => ok.ret ⟨h, rfl⟩) (fun c => ?_))
  refine ok.bd (m_judges (h.2.1 c).1) ?_
  rintro r Y ⟨a, ⟨b1, b2, b3⟩, d, e, f⟩
  refine ok.letV (ok.letV (ok.letV (ok.letV (ok.letV ?_))))
  have hF : Fr YR [11, 12] Y (wI (wI Y 0 11 (Y.1 0 9)) 0 12 ((wI Y 0 11 (Y.1 0 9)).1 0 10)) := (Fr.rf.wI 0 11 _ (show (11 : Nat) ∈ [11, 12] from by decide)).wI 0 12 _ (show (12 : Nat) ∈ [11, 12] from by decide)
  obtain ⟨W, hW⟩ : ∃ W : St, wI (wI Y 0 11 (Y.1 0 9)) 0 12 ((wI Y 0 11 (Y.1 0 9)).1 0 10) = W := ⟨_, rfl⟩
  rw [hW] at hF ⊢
  have hXW : Fr YR [4, 9, 10, 11, 12, 13, 15, 26, 27, 28, 29, 30, 800, 1000, 1200, 1400, 1600, 1800, 2000, 6200, 6400, 8000, 8200, 8400, 8600, 8800, 9000, 9200, 9400, 9600, 9800, 10000, 10200, 10400, 10600, 10800, 11000, 11200, 11400, 11600, 11800] X W := (a.mono (by decide)).tr hF (by decide)
  have w0 : W.1 0 0 = X.1 0 0 := hXW.1 0 0 (by decide)
  have hK : KX Y W := KX.fr hF (by decide)
  have fin : JM W ∧ (W.1 0 0).toInt = (X.1 0 0).toInt := by
    refine ⟨h.to hXW ⟨by decide, by unfold NOL; exact ⟨by decide, by decide, by decide⟩⟩ (by rw [w0]; exact h.1.1) (by rw [hF.1 0 28 (by decide)]; exact d) (fun _ => ⟨b1.fr hF (by decide), b2.tr hK, b3.pot (POT.fr b1 hF (by decide))⟩) (fun q => absurd q c) (fun q => ?_) (fun q => ?_), by rw [w0]⟩
    · rw [hF.1 0 4 (by decide)] at q
      exact ⟨(f q).to b1 hF hK (by decide) (by decide) (by decide), e.to hF hK (by decide), by rw [hF.1 0 28 (by decide)]; exact d⟩
    · rw [hXW.1 0 41 (by decide)] at q
      rw [hXW.1 0 46 (by decide), hXW.1 0 43 (by decide)]
      exact ⟨(h.2.2.2.2 q).1, fun z => ((h.2.2.2.2 q).2 z).fr hXW (by decide)⟩
  exact ok.ite (fun _ => ok.ret fin) (fun _ => ok.letV (ok.ret fin))
theorem PGR.fr {X Y : St} {L : List Nat} (h : PGR X) (hF : Fr YR L X Y) (hl : 18 ∉ L ∧ 19 ∉ L ∧ 3000 ∉ L ∧ 4000 ∉ L ∧ 5200 ∉ L) : PGR Y := by
  obtain ⟨n18, n19, n15, n20, n26⟩ := hl
  obtain ⟨a, b, c, d⟩ := h
  have y18 := hF.1 0 18 n18
  have y19 := hF.1 0 19 n19
  have y15 : ∀ i, Y.1 15 i = X.1 15 i := fun i => hF.1 15 i n15
  have y20 : ∀ i, Y.1 20 i = X.1 20 i := fun i => hF.1 20 i n20
  have y26 : ∀ i, Y.1 26 i = X.1 26 i := fun i => hF.1 26 i n26
  unfold PGR
  rw [y18, y19]
  refine ⟨a, fun p hp => ?_, fun i hi h3 => ?_, fun i hi h14 => ?_⟩
  · rw [y15]
    exact b p hp
  · rw [y20] at h3
    rw [y26]
    exact c i hi h3
  · rw [y20] at h14
    rw [y26]
    exact d i hi h14
theorem PGM.pgr {X : St} (h : PGM X) : PGR X := by
  obtain ⟨⟨h1, h2, h3⟩, ⟨h4, h5, h6, h7⟩, -⟩ := h
  refine (h3.pgr ?_).fr TX.fr.sy (by decide)
  rw [TX.fr.1 0 18 (by decide), TX.fr.1 0 19 (by decide)]
  exact ⟨h4, h5, h6⟩
/-- a run begins -/
theorem m_go {X Z : St} {u : Bool} (h : JM X) (h3 : ¬ (X.1 0 3).toInt = 0) (hF : Fr YR [26, 27, 39, 42, 8000, 8200, 8400, 8600, 8800, 9000, 9200, 9400, 9600, 9800, 10000, 10200] X Z) (hR : ∃ po PTs, RUNC u Z po PTs) (h39 : 0 ≤ (Z.1 0 39).toInt ∧ (Z.1 0 39).toInt ≤ 20000) (h42 : u = true ↔ (Z.1 0 42).toInt = 0) (hJ : ¬ (Z.1 0 4).toInt = 0 → JUD Z ∧ GNA Z) : ok (f_starts (Z.1 0 25) Z) (fun _ Y => JM Y ∧ (Y.1 0 0).toInt = (X.1 0 0).toInt) := by
  obtain ⟨po, PTs, hR⟩ := hR
  obtain ⟨⟨⟨g1, g2, g3⟩, g4, g5, g6, g7⟩, -⟩ := h.2.1 h3
  have hK : KX X Z := KX.fr hF (by decide)
  have hKT : KX (TX X) Z := g5.tr hK
  have hTZ : KT Z := g6.fr hF (by decide)
  obtain ⟨m1, m2, m3⟩ := g3.2.2.2.2
  rw [TX.fr.1 0 25 (by decide)] at m1 m2 m3
  rw [TX.fr.1 0 18 (by decide)] at m2
  rw [TX.fr.1 15 _ (show (3000 : Nat) ∉ [13, 15] from by decide)] at m3
  have z28 : Z.1 0 28 = X.1 0 28 := hF.1 0 28 (by decide)
  have z25 : Z.1 0 25 = X.1 0 25 := hF.1 0 25 (by decide)
  have z18 : Z.1 0 18 = X.1 0 18 := hF.1 0 18 (by decide)
  refine (r_starts (u := u) hTZ (g2.kx hKT) (g7.pot (POT.fr g6 hF (by decide))) hR h39 (by rw [z28]; have := h.1.2.2.2; omega) h42 (by rw [z25, z18]; exact ⟨m1, m2⟩) (by rw [z25, hF.1 15 _ (show (3000 : Nat) ∉ [26, 27, 39, 42, 8000, 8200, 8400, 8600, 8800, 9000, 9200, 9400, 9600, 9800, 10000, 10200] from by decide)]; exact m3)).mono ?_
  rintro r Y ⟨p1, p2, p3⟩
  have hXY : Fr YR [13, 15, 26, 27, 31, 32, 33, 34, 35, 36, 37, 38, 39, 40, 41, 42, 43, 44, 45, 46, 800, 1000, 1200, 1400, 1600, 1800, 2000, 8000, 8200, 8400, 8600, 8800, 9000, 9200, 9400, 9600, 9800, 10000, 10200, 12000, 12200, 12400, 12600, 12800, 13000, 13200, 13400, 13600, 13800, 14000, 14200, 14400, 14600, 14800, 15000, 15200, 15400, 15600, 15800, 16000, 16200] X Y := (hF.mono (by decide)).tr p1.1 (by decide)
  have y0 : Y.1 0 0 = X.1 0 0 := hXY.1 0 0 (by decide)
  have y28 : Y.1 0 28 = X.1 0 28 := hXY.1 0 28 (by decide)
  refine ⟨h.to hXY ⟨by decide, by unfold NOL; exact ⟨by decide, by decide, by decide⟩⟩ (by rw [y0]; exact h.1.1) (by rw [y28]; exact h.1.2.2.2) (fun _ => ⟨p1.2.1, hKT.tr p1.2.2.1, (g7.pot (POT.fr g6 hF (by decide))).pot p1.2.2.2⟩) (fun q => absurd q h3) (fun q => ?_) (fun _ => ⟨p2, fun z => ?_⟩), by rw [y0]⟩
  · rw [p1.1.1 0 4 (by decide)] at q
    obtain ⟨j1, j2⟩ := hJ q
    exact ⟨j1.to hTZ p1.1 p1.2.2.1 (by decide) (by decide) (by decide), j2.to p1.1 p1.2.2.1 (by decide), by rw [y28]; exact h.1.2.2.2⟩
  · rcases p3 with p3 | ⟨-, p3⟩
    · omega
    · exact p3.tv
theorem m_run {X : St} (h : JM X) (p1 : Int32) : ok (f_run p1 X) (fun _ Y => JM Y ∧ (Y.1 0 0).toInt = (X.1 0 0).toInt) := by
  unfold f_run
  refine ok.letV (ok.ite (fun _ => ok.ret ⟨h, rfl⟩) (fun c => ok.bd (s_f_in _ _ _ _) ?_))
  rintro r0 X' ⟨hF0, hin⟩
  obtain rfl : X = X' := (Fr.nil hF0).symm
  have hin : (r0.toInt = 1 ∧ 0 ≤ p1.toInt ∧ p1.toInt ≤ 20000) ∨ (r0.toInt = 0 ∧ (p1.toInt < 0 ∨ 20000 < p1.toInt)) := hin
  refine ok.ite (fun _ => ok.ret ⟨h, rfl⟩) (fun c2 => ok.letV (ok.letV ?_))
  have h3 : ¬ (X.1 0 3).toInt = 0 := fun q => c (h.2.2.1 q).1
  obtain ⟨j1, j2, j3⟩ := h.2.2.2.1 c
  have hF : Fr YR [39, 42] X (wI (wI X 0 39 p1) 0 42 1) := (Fr.rf.wI 0 39 _ (show (39 : Nat) ∈ [39, 42] from by decide)).wI 0 42 _ (show (42 : Nat) ∈ [39, 42] from by decide)
  have v42 : (wI (wI X 0 39 p1) 0 42 1).1 0 42 = 1 := wI_at _ _ _ _
  have v39 : (wI (wI X 0 39 p1) 0 42 1).1 0 39 = p1 := by rw [wI_ne _ 0 _ _ 0 _ (by decide), wI_at]
  obtain ⟨Z, hZ⟩ : ∃ Z : St, wI (wI X 0 39 p1) 0 42 1 = Z := ⟨_, rfl⟩
  rw [hZ] at hF v42 v39 ⊢
  have hP := (h.2.1 h3).1
  have hK : KX X Z := KX.fr hF (by decide)
  have hJZ : JUD Z := j1.to hP.2.2.2.1 hF hK (by decide) (by decide) (by decide)
  refine ok.letV (ok.bd (m_go (u := false) h h3 (hF.mono (by decide)) (hJZ.run (hP.1.2.1.kx (hP.2.2.1.tr hK)) (hP.pgr.fr hF (by decide))) (by rw [v39]; omega) (by rw [v42]; decide) (fun _ => ⟨hJZ, j2.to hF hK (by decide)⟩)) ?_)
  rintro r Y hY
  exact ok.ret hY
theorem m_untold {X Z : St} {p1 : Int32} (h : JM X) (h3 : ¬ (X.1 0 3).toInt = 0) (hp : 0 ≤ p1.toInt ∧ p1.toInt ≤ 20000) (hF : Fr YR [26, 27, 39, 42, 8000, 8200, 8400, 8600, 8800, 9000, 9200, 9400, 9600, 9800, 10000, 10200] X Z) (hC : CODP Z) (hJ : ¬ (Z.1 0 4).toInt = 0 → JUD Z ∧ GNA Z) : ok (f_runUntold_31 p1 Z) (fun _ Y => JM Y ∧ (Y.1 0 0).toInt = (X.1 0 0).toInt) := by
  have hP := (h.2.1 h3).1
  unfold f_runUntold_31
  refine ok.letV (ok.letV ?_)
  have hG : Fr YR [39, 42] Z (wI (wI Z 0 39 p1) 0 42 0) := (Fr.rf.wI 0 39 _ (show (39 : Nat) ∈ [39, 42] from by decide)).wI 0 42 _ (show (42 : Nat) ∈ [39, 42] from by decide)
  have v42 : (wI (wI Z 0 39 p1) 0 42 0).1 0 42 = 0 := wI_at _ _ _ _
  have v39 : (wI (wI Z 0 39 p1) 0 42 0).1 0 39 = p1 := by rw [wI_ne _ 0 _ _ 0 _ (by decide), wI_at]
  obtain ⟨W, hW⟩ : ∃ W : St, wI (wI Z 0 39 p1) 0 42 0 = W := ⟨_, rfl⟩
  rw [hW] at hG v42 v39 ⊢
  have hXW : Fr YR [26, 27, 39, 42, 8000, 8200, 8400, 8600, 8800, 9000, 9200, 9400, 9600, 9800, 10000, 10200] X W := hF.tr hG (by decide)
  have hTZ : KT Z := hP.2.2.2.1.fr hF (by decide)
  have hK : KX Z W := KX.fr hG (by decide)
  have hCW : CODP W := by
    obtain ⟨lo, po, a, b, c, d⟩ := hC
    unfold CODP
    rw [hG.1 0 18 (by decide), hG.1 0 19 (by decide)]
    exact ⟨lo, po, a, b, c, d.fr hG (by decide)⟩
  refine ok.letV (ok.bd (m_go (u := true) h h3 hXW (hCW.run (hP.pgr.fr hXW (by decide))) (by rw [v39]; exact hp) (by rw [v42]; decide) (fun q => ?_)) ?_)
  · rw [hG.1 0 4 (by decide)] at q
    obtain ⟨j1, j2⟩ := hJ q
    exact ⟨j1.to hTZ hG hK (by decide) (by decide) (by decide), j2.to hG hK (by decide)⟩
  · rintro r Y hY
    exact ok.ret hY
theorem m_runUntold {X : St} (h : JM X) (p1 : Int32) : ok (f_runUntold p1 X) (fun _ Y => JM Y ∧ (Y.1 0 0).toInt = (X.1 0 0).toInt) := by
  unfold f_runUntold
  refine ok.letV (ok.ite (fun _ => ok.ret ⟨h, rfl⟩) (fun c => ok.bd (s_f_in _ _ _ _) ?_))
  rintro r0 X' ⟨hF0, hin⟩
  obtain rfl : X = X' := (Fr.nil hF0).symm
  have hin : (r0.toInt = 1 ∧ 0 ≤ p1.toInt ∧ p1.toInt ≤ 20000) ∨ (r0.toInt = 0 ∧ (p1.toInt < 0 ∨ 20000 < p1.toInt)) := hin
  refine ok.ite (fun _ => ok.ret ⟨h, rfl⟩) (fun c2 => ok.letV (ok.ite (fun c4 => ?_) (fun c4 => ?_)))
  · obtain ⟨⟨g1, g2, g3⟩, ⟨g4, g5, g6, g7⟩, gk, gt, gb⟩ := (h.2.1 c).1
    have hF : Fr YR [13, 15] (TX X) X := TX.fr.sy
    have hA : ALLP X := g3.2.1.ns g1 gt gk (hF.1 0 1 (by decide)) (hF.1 0 18 (by decide)) (hF.1 0 19 (by decide)) (fun i => ⟨hF.1 12 i (show (2400 : Nat) ∉ [13, 15] from by decide), hF.1 13 i (show (2600 : Nat) ∉ [13, 15] from by decide), hF.1 15 i (show (3000 : Nat) ∉ [13, 15] from by decide), hF.1 16 i (show (3200 : Nat) ∉ [13, 15] from by decide), hF.1 17 i (show (3400 : Nat) ∉ [13, 15] from by decide), hF.1 18 i (show (3600 : Nat) ∉ [13, 15] from by decide)⟩) (fun n lo hi i _ _ => ⟨hF.1 20 i (show (4000 : Nat) ∉ [13, 15] from by decide), hF.1 23 i (show (4600 : Nat) ∉ [13, 15] from by decide), hF.1 24 i (show (4800 : Nat) ∉ [13, 15] from by decide), hF.1 25 i (show (5000 : Nat) ∉ [13, 15] from by decide), Or.inr (hF.1 26 i (show (5200 : Nat) ∉ [13, 15] from by decide)), hF.1 27 i (show (5400 : Nat) ∉ [13, 15] from by decide), fun _ => hF.1 28 i (show (5600 : Nat) ∉ [13, 15] from by decide)⟩)
    have h19 : (X.1 0 19).toInt ≤ 3000 := by
      have := g3.2.2.1.1
      rw [TX.fr.1 0 19 (by decide)] at this
      exact this
    refine ok.bd (t_f_compiles hA ⟨g4, g5⟩ ⟨g6, h19⟩) ?_
    rintro r Z ⟨hZ, hC⟩
    exact m_untold h c (by omega) (hZ.mono (by decide)) hC.codp (fun q => absurd (by rw [hZ.1 0 4 (by decide)]; exact c4) q)
  · obtain ⟨j1, j2, j3⟩ := h.2.2.2.1 c4
    exact m_untold h c (by omega) Fr.rf j1.codp (fun _ => ⟨j1, j2⟩)
/-! read() -/
theorem nar_nar (x : Int32) : vp_nar .byte (vp_nar .byte x) = vp_nar .byte x := by
  show x.toInt8.toInt32.toInt8.toInt32 = x.toInt8.toInt32
  rw [Int8.toInt8_toInt32]
/-- a text read without a fault is a program -/
theorem RGOOD.pgm {X : St} (h : RGOOD X) (hw : (X.1 0 9).toInt = 0) : PGM X := by
  obtain ⟨a, b, ⟨c1, c2, c3, c4, c5, c6, c7, c8⟩, d⟩ := h
  have e : TX X = X := TX.self (Int32.toInt_inj.mp c7) (Int32.toInt_inj.mp c8)
  have hm := miss_le X
  unfold PGM
  rw [e]
  exact ⟨⟨a, b, d hw⟩, ⟨c1, c2, c3, by omega⟩, KX.rf, a, by unfold PBD; omega⟩
theorem m_reads {X : St} (hl : 0 ≤ (X.1 0 1).toInt ∧ (X.1 0 1).toInt ≤ 3000) : ok (f_reads X) (fun r Y => f_reads X = some (r, Y) ∧ Fr YR [4, 5, 6, 7, 8, 9, 10, 13, 14, 15, 16, 17, 18, 19, 20, 21, 22, 23, 24, 25, 47, 800, 1000, 1200, 1400, 1600, 1800, 2000, 2200, 2400, 2600, 2800, 3000, 3200, 3400, 3600, 4000, 4200, 4400, 4600, 4800, 5000, 5200, 5400, 5600, 5800, 6000, 6600, 6800, 7000, 7200, 7400, 7600, 7800] X Y ∧ RGOOD Y ∧ (Y.1 0 4).toInt = 0) := by
  obtain ⟨r, Y, Y1, e1, e2, q1, q2, q3, q4⟩ := t_f_reads X X rfl (fun _ _ => rfl) hl
  exact ⟨r, Y, e1, e1, q1, q4, nj_reads r Y e1⟩
/-- the former text is read again -/
theorem m_reread {X F : St} {was : Int32} (h : JM X) (h3 : ¬ (X.1 0 3).toInt = 0) (hF : Fr YR [0, 1, 4, 5, 6, 7, 8, 9, 10, 11, 12, 13, 14, 15, 16, 17, 18, 19, 20, 21, 22, 23, 24, 25, 47, 400, 800, 1000, 1200, 1400, 1600, 1800, 2000, 2200, 2400, 2600, 2800, 3000, 3200, 3400, 3600, 4000, 4200, 4400, 4600, 4800, 5000, 5200, 5400, 5600, 5800, 6000, 6600, 6800, 7000, 7200, 7400, 7600, 7800] X F) (h0 : (F.1 0 0).toInt = 0) (h1 : F.1 0 1 = X.1 0 2) (ht : ∀ i : Nat, (i : Int) < (X.1 0 2).toInt → F.1 2 i = vp_nar .byte (X.1 3 i)) : ok (bnd (f_reads F) fun _ X17 => if was.toInt = 0 then some ((-1 : Int32), X17) else bnd (f_judges X17) fun _ X18 => some ((-1 : Int32), X18)) (fun _ Y => JM Y ∧ (Y.1 0 0).toInt = 0) := by
  obtain ⟨a1, a2, a3, a4⟩ := h.1
  obtain ⟨Z, r, Y, b1, b2, b3, b4⟩ := (h.2.1 h3).2
  have hz : ok2 (f_reads Z) (f_reads F) (RQ Z F) := t_f_reads Z F (h1.trans b1.symm) (fun i hi => by
    rw [b1] at hi
    obtain ⟨c1, c2⟩ := b2 i hi
    rw [ht i hi, c2, c1]) (by rw [b1]; exact a3)
  obtain ⟨r1, Y1, G, e1, e2, -, -, q3, -⟩ := hz
  rw [b3] at e1
  injection e1 with e1
  injection e1 with e0 e1
  refine ok.bd (m_reads (X := F) (by rw [h1]; exact a3)) ?_
  rintro r2 G2 ⟨f1, f2, f3, f4⟩
  rw [e2] at f1
  injection f1 with f1
  injection f1 with _ f1
  subst f1
  have hw : (G.1 0 9).toInt = 0 := by rw [q3, ← e1]; exact b4
  have hP := f3.pgm hw
  have hXG : Fr YR [0, 1, 4, 5, 6, 7, 8, 9, 10, 11, 12, 13, 14, 15, 16, 17, 18, 19, 20, 21, 22, 23, 24, 25, 47, 400, 800, 1000, 1200, 1400, 1600, 1800, 2000, 2200, 2400, 2600, 2800, 3000, 3200, 3400, 3600, 4000, 4200, 4400, 4600, 4800, 5000, 5200, 5400, 5600, 5800, 6000, 6600, 6800, 7000, 7200, 7400, 7600, 7800] X G := hF.tr f2 (by decide)
  have g0 : (G.1 0 0).toInt = 0 := by rw [f2.1 0 0 (by decide)]; exact h0
  have g1 : G.1 0 1 = X.1 0 2 := (f2.1 0 1 (by decide)).trans h1
  have g2 : G.1 0 2 = X.1 0 2 := hXG.1 0 2 (by decide)
  have g3 : G.1 0 3 = X.1 0 3 := hXG.1 0 3 (by decide)
  have g28 : G.1 0 28 = X.1 0 28 := hXG.1 0 28 (by decide)
  have hR := (h.2.1 h3).2.fr hXG (by decide)
  have hT : ∀ W : St, Fr YR [0, 1, 4, 5, 6, 7, 8, 9, 10, 11, 12, 13, 14, 15, 16, 17, 18, 19, 20, 21, 22, 23, 24, 25, 26, 27, 28, 29, 30, 47, 400, 800, 1000, 1200, 1400, 1600, 1800, 2000, 2200, 2400, 2600, 2800, 3000, 3200, 3400, 3600, 4000, 4200, 4400, 4600, 4800, 5000, 5200, 5400, 5600, 5800, 6000, 6200, 6400, 6600, 6800, 7000, 7200, 7400, 7600, 7800, 8000, 8200, 8400, 8600, 8800, 9000, 9200, 9400, 9600, 9800, 10000, 10200, 10400, 10600, 10800, 11000, 11200, 11400, 11600, 11800] X W → ¬ (W.1 0 41).toInt = 0 → (0 ≤ (W.1 0 46).toInt ∧ (W.1 0 46).toInt ≤ 200) ∧ ((W.1 0 43).toInt = 0 → TV W) := fun W hW q => by
    rw [hW.1 0 41 (by decide)] at q
    rw [hW.1 0 46 (by decide), hW.1 0 43 (by decide)]
    exact ⟨(h.2.2.2.2 q).1, fun z => ((h.2.2.2.2 q).2 z).fr hW (by decide)⟩
  refine ok.ite (fun _ => ok.ret ?_) (fun _ => ?_)
  · refine ⟨⟨⟨by omega, by rw [g1]; exact a3, by rw [g2]; exact a3, by rw [g28]; exact a4⟩, fun _ => ⟨hP, hR⟩, fun q => absurd (by rw [← g3]; exact q) h3, fun q => absurd f4 q, hT G (hXG.mono (by decide))⟩, g0⟩
  · refine ok.bd (m_judges hP) ?_
    rintro r3 W ⟨w1, ⟨w2, w3, w4⟩, w5, w6, w7⟩
    have hXW : Fr YR [0, 1, 4, 5, 6, 7, 8, 9, 10, 11, 12, 13, 14, 15, 16, 17, 18, 19, 20, 21, 22, 23, 24, 25, 26, 27, 28, 29, 30, 47, 400, 800, 1000, 1200, 1400, 1600, 1800, 2000, 2200, 2400, 2600, 2800, 3000, 3200, 3400, 3600, 4000, 4200, 4400, 4600, 4800, 5000, 5200, 5400, 5600, 5800, 6000, 6200, 6400, 6600, 6800, 7000, 7200, 7400, 7600, 7800, 8000, 8200, 8400, 8600, 8800, 9000, 9200, 9400, 9600, 9800, 10000, 10200, 10400, 10600, 10800, 11000, 11200, 11400, 11600, 11800] X W := (hXG.mono (by decide)).tr w1 (by decide)
    have v0 : (W.1 0 0).toInt = 0 := by rw [w1.1 0 0 (by decide)]; exact g0
    refine ok.ret ⟨⟨⟨by omega, by rw [w1.1 0 1 (by decide), g1]; exact a3, by rw [w1.1 0 2 (by decide), g2]; exact a3, w5⟩, fun _ => ⟨hP.to w1 (by unfold NOL; exact ⟨by decide, by decide, by decide⟩) w2 w3 w4, hR.fr w1 (by decide)⟩, fun q => absurd (by rw [← g3, ← w1.1 0 3 (by decide)]; exact q) h3, fun q => ⟨w7 q, w6, w5⟩, hT W hXW⟩, v0⟩
theorem rd169 {X : St} {was : Int32} (h : JM X) (h3 : ¬ (X.1 0 3).toInt = 0) {n : Nat} (hn : (X.1 0 2).toInt = (n : Int)) : ∀ (d i : Nat) (Z : St) (a : Int32) (N : Nat), i + d = n → d < N → a.toInt = (i : Int) → Fr YR [0, 1, 4, 5, 6, 7, 8, 9, 10, 11, 12, 13, 14, 15, 16, 17, 18, 19, 20, 21, 22, 23, 24, 25, 47, 400, 800, 1000, 1200, 1400, 1600, 1800, 2000, 2200, 2400, 2600, 2800, 3000, 3200, 3400, 3600, 4000, 4200, 4400, 4600, 4800, 5000, 5200, 5400, 5600, 5800, 6000, 6600, 6800, 7000, 7200, 7400, 7600, 7800] X Z → (Z.1 0 0).toInt = 0 → Z.1 0 1 = X.1 0 2 → (∀ j, j < i → Z.1 2 j = vp_nar .byte (X.1 3 j)) → ok (f_read_169 N was a Z) (fun _ Y => JM Y ∧ (Y.1 0 0).toInt = 0) := by
  have a3 := h.1.2.2.1
  intro d
  induction d with
  | zero =>
    intro i Z a N hi hN ha hF h0 h1 ht
    obtain ⟨N, rfl⟩ : ∃ k, N = k + 1 := ⟨N - 1, by omega⟩
    unfold f_read_169
    rw [lp_succ]
    unfold f_read_169_s
    refine ok.letE (v1 := X.1 0 2) h1 (ok.ite (fun _ => ?_) (fun c => absurd (show (X.1 0 2).toInt ≤ a.toInt by omega) c))
    exact m_reread h h3 hF h0 h1 (fun j hj => ht j (by omega))
  | succ d ih =>
    intro i Z a N hi hN ha hF h0 h1 ht
    obtain ⟨N, rfl⟩ : ∃ k, N = k + 1 := ⟨N - 1, by omega⟩
    have ea : ix a = i := ixn ha
    have hb : 0 ≤ a.toInt ∧ a.toInt < ((3000 : Nat) : Int) := by omega
    unfold f_read_169
    rw [lp_succ]
    unfold f_read_169_s
    refine ok.letE (v1 := X.1 0 2) h1 (ok.ite (fun c => absurd c (by omega)) (fun _ => ok.ck hb (ok.letE (v1 := X.1 3 i) (by rw [ea]; exact hF.1 3 i (show (600 : Nat) ∉ [0, 1, 4, 5, 6, 7, 8, 9, 10, 11, 12, 13, 14, 15, 16, 17, 18, 19, 20, 21, 22, 23, 24, 25, 47, 400, 800, 1000, 1200, 1400, 1600, 1800, 2000, 2200, 2400, 2600, 2800, 3000, 3200, 3400, 3600, 4000, 4200, 4400, 4600, 4800, 5000, 5200, 5400, 5600, 5800, 6000, 6600, 6800, 7000, 7200, 7400, 7600, 7800] from by decide)) (ok.ck hb (ok.letV (ok.inc (by decide) (by omega) (fun x hx => ?_)))))))
    rw [ea]
    have key := ih (i + 1) (wI Z 2 i (vp_nar .byte (X.1 3 i))) x N (by omega) (by omega) (by omega) (hF.wI 2 _ _ (show (400 : Nat) ∈ [0, 1, 4, 5, 6, 7, 8, 9, 10, 11, 12, 13, 14, 15, 16, 17, 18, 19, 20, 21, 22, 23, 24, 25, 47, 400, 800, 1000, 1200, 1400, 1600, 1800, 2000, 2200, 2400, 2600, 2800, 3000, 3200, 3400, 3600, 4000, 4200, 4400, 4600, 4800, 5000, 5200, 5400, 5600, 5800, 6000, 6600, 6800, 7000, 7200, 7400, 7600, 7800] from by decide)) (by rw [wI_ne _ 2 _ _ 0 _ (by rintro ⟨a_, -⟩; exact absurd a_ (by decide))]; exact h0) (by rw [wI_ne _ 2 _ _ 0 _ (by rintro ⟨a_, -⟩; exact absurd a_ (by decide))]; exact h1) (fun j hj => ?_)
    · unfold f_read_169 at key
      exact key
    · by_cases g : j = i
      · rw [g, wI_at]
      · rw [wI_ne _ 2 _ _ 2 _ (by rintro ⟨-, a_⟩; exact g a_)]
        exact ht j (by omega)
/-- what a text read without a fault leaves -/
def RWD (X A B W : St) : Prop := Fr YR [2, 3, 11, 12, 41, 600, 3800] B W ∧ ¬ (W.1 0 3).toInt = 0 ∧ W.1 0 2 = A.1 0 1
theorem rd116 {B W0 : St} {Q : Int32 → St → Prop} {n : Nat} (hn : (B.1 0 18).toInt = (n : Int)) (hn40 : n ≤ 40) (K : ∀ W r, Fr YR [41, 3800] W0 W → (W.1 0 41).toInt = 0 → Q r W) (hB : W0.1 0 18 = B.1 0 18) : ∀ (d i : Nat) (Z : St) (a : Int32) (N : Nat), i + d = n → d < N → a.toInt = (i : Int) → Fr YR [41, 3800] W0 Z → ok (f_read_116 N a Z) Q := by
  intro d
  induction d with
  | zero =>
    intro i Z a N hi hN ha hF
    obtain ⟨N, rfl⟩ : ∃ k, N = k + 1 := ⟨N - 1, by omega⟩
    unfold f_read_116
    rw [lp_succ]
    unfold f_read_116_s
    refine ok.letE (v1 := B.1 0 18) ((hF.1 0 18 (by decide)).trans hB) (ok.ite (fun _ => ok.letV (ok.letV (ok.ret (K _ _ (hF.wI 0 41 _ (show (41 : Nat) ∈ [41, 3800] from by decide)) (by rw [wI_at]; rfl))))) (fun c => absurd (show (B.1 0 18).toInt ≤ a.toInt by omega) c))
  | succ d ih =>
    intro i Z a N hi hN ha hF
    obtain ⟨N, rfl⟩ : ∃ k, N = k + 1 := ⟨N - 1, by omega⟩
    unfold f_read_116
    rw [lp_succ]
    unfold f_read_116_s
    refine ok.letE (v1 := B.1 0 18) ((hF.1 0 18 (by decide)).trans hB) (ok.ite (fun c => absurd c (by omega)) (fun _ => ok.ck (show 0 ≤ a.toInt ∧ a.toInt < ((41 : Nat) : Int) by omega) (ok.letV (ok.inc (by decide) (by omega) (fun x hx => ?_)))))
    have key := ih (i + 1) (wI Z 19 (ix a) (vp_nar .boolean (1 : Int32))) x N (by omega) (by omega) (by omega) (hF.wI 19 _ _ (show (3800 : Nat) ∈ [41, 3800] from by decide))
    unfold f_read_116 at key
    exact key
theorem rd88 {A : St} {Q : Int32 → St → Prop} {n : Nat} (hn : (A.1 0 1).toInt = (n : Int)) (hn3 : n ≤ 3000) (K : ∀ Z, Fr YR [600] A Z → (∀ j, j < n → Z.1 3 j = vp_nar .byte (A.1 2 j)) → ok (f_read_116 BIG 0 Z) Q) : ∀ (d i : Nat) (Z : St) (a : Int32) (N : Nat), i + d = n → d < N → a.toInt = (i : Int) → Fr YR [600] A Z → (∀ j, j < i → Z.1 3 j = vp_nar .byte (A.1 2 j)) → ok (f_read_88 N a Z) Q := by
  intro d
  induction d with
  | zero =>
    intro i Z a N hi hN ha hF ht
    obtain ⟨N, rfl⟩ : ∃ k, N = k + 1 := ⟨N - 1, by omega⟩
    unfold f_read_88
    rw [lp_succ]
    unfold f_read_88_s
    exact ok.letE (v1 := A.1 0 1) (hF.1 0 1 (by decide)) (ok.ite (fun _ => K Z hF (fun j hj => ht j (by omega))) (fun c => absurd (show (A.1 0 1).toInt ≤ a.toInt by omega) c))
  | succ d ih =>
    intro i Z a N hi hN ha hF ht
    obtain ⟨N, rfl⟩ : ∃ k, N = k + 1 := ⟨N - 1, by omega⟩
    have ea : ix a = i := ixn ha
    have hb : 0 ≤ a.toInt ∧ a.toInt < ((3000 : Nat) : Int) := by omega
    unfold f_read_88
    rw [lp_succ]
    unfold f_read_88_s
    refine ok.letE (v1 := A.1 0 1) (hF.1 0 1 (by decide)) (ok.ite (fun c => absurd c (by omega)) (fun _ => ok.ck hb (ok.letE (v1 := A.1 2 i) (by rw [ea]; exact hF.1 2 i (show (400 : Nat) ∉ [600] from by decide)) (ok.ck hb (ok.letV (ok.inc (by decide) (by omega) (fun x hx => ?_)))))))
    rw [ea]
    have key := ih (i + 1) (wI Z 3 i (vp_nar .byte (A.1 2 i))) x N (by omega) (by omega) (by omega) (hF.wI 3 _ _ (show (600 : Nat) ∈ [600] from by decide)) (fun j hj => ?_)
    · unfold f_read_88 at key
      exact key
    · by_cases g : j = i
      · rw [g, wI_at]
      · rw [wI_ne _ 3 _ _ 3 _ (by rintro ⟨-, a_⟩; exact g a_)]
        exact ht j (by omega)
set_option maxHeartbeats 4000000 in
/-- the text is copied; it is read -/
theorem rd10_end {X Z : St} {a : Int32} {r : Int32 → St → Option (Int32 × St)} {n : Nat} (h : JM X) (hn : (X.1 0 0).toInt = (n : Int)) (ha : a.toInt = (n : Int)) (hF : Fr YR [1, 400] X Z) (h1 : Z.1 0 1 = X.1 0 0) (ht : ∀ j, j < n → Z.1 2 j = vp_nar .byte (X.1 1 j)) : ok (f_read_10_s r a Z) (fun _ Y => JM Y ∧ (Y.1 0 0).toInt = 0) := by
  obtain ⟨a1, a2, a3, a4⟩ := h.1
  have z0 : Z.1 0 0 = X.1 0 0 := hF.1 0 0 (by decide)
  unfold f_read_10_s
  refine ok.letE (v1 := X.1 0 0) z0 (ok.ite (fun _ => ?_) (fun c => absurd (show (X.1 0 0).toInt ≤ a.toInt by omega) c))
  refine ok.letV ?_
  have hA : Fr YR [0, 1, 400] X (wI Z 0 0 0) := (hF.mono (by decide)).wI 0 0 _ (show (0 : Nat) ∈ [0, 1, 400] from by decide)
  have v0 : (wI Z 0 0 0).1 0 0 = 0 := wI_at _ _ _ _
  have v1 : (wI Z 0 0 0).1 0 1 = X.1 0 0 := (wI_ne _ 0 _ _ 0 _ (by decide)).trans h1
  have v2 : ∀ j, j < n → (wI Z 0 0 0).1 2 j = vp_nar .byte (X.1 1 j) := fun j hj => (wI_ne _ 0 _ _ 2 _ (by rintro ⟨a_, -⟩; exact absurd a_ (by decide))).trans (ht j hj)
  obtain ⟨A, hAe⟩ : ∃ A : St, wI Z 0 0 0 = A := ⟨_, rfl⟩
  rw [hAe] at hA v0 v1 v2 ⊢
  refine ok.letV (ok.bd (m_reads (X := A) (by rw [v1]; exact a1)) ?_)
  rintro r1 B ⟨b1, b2, b3, b4⟩
  refine ok.letV (ok.letV (ok.letV (ok.letV ?_)))
  have hC : Fr YR [11, 12] B (wI (wI B 0 11 (B.1 0 9)) 0 12 ((wI B 0 11 (B.1 0 9)).1 0 10)) := (Fr.rf.wI 0 11 _ (show (11 : Nat) ∈ [11, 12] from by decide)).wI 0 12 _ (show (12 : Nat) ∈ [11, 12] from by decide)
  obtain ⟨C, hCe⟩ : ∃ C : St, wI (wI B 0 11 (B.1 0 9)) 0 12 ((wI B 0 11 (B.1 0 9)).1 0 10) = C := ⟨_, rfl⟩
  rw [hCe] at hC ⊢
  have hXC : Fr YR [0, 1, 4, 5, 6, 7, 8, 9, 10, 11, 12, 13, 14, 15, 16, 17, 18, 19, 20, 21, 22, 23, 24, 25, 47, 400, 800, 1000, 1200, 1400, 1600, 1800, 2000, 2200, 2400, 2600, 2800, 3000, 3200, 3400, 3600, 4000, 4200, 4400, 4600, 4800, 5000, 5200, 5400, 5600, 5800, 6000, 6600, 6800, 7000, 7200, 7400, 7600, 7800] X C := ((hA.mono (by decide)).tr b2 (by decide)).tr hC (by decide)
  have c9 : C.1 0 9 = B.1 0 9 := hC.1 0 9 (by decide)
  have c0 : (C.1 0 0).toInt = 0 := by
    rw [hC.1 0 0 (by decide), b2.1 0 0 (by decide), v0]
    rfl
  refine ok.letE (v1 := B.1 0 9) c9 (ok.ite (fun hw => ?_) (fun hw => ?_))
  · have hP := b3.pgm hw
    refine ok.letV ?_
    have hD : Fr YR [3] C (wI C 0 3 1) := Fr.rf.wI 0 3 _ (show (3 : Nat) ∈ [3] from by decide)
    have d3 : (wI C 0 3 1).1 0 3 = 1 := wI_at _ _ _ _
    obtain ⟨D, hDe⟩ : ∃ D : St, wI C 0 3 1 = D := ⟨_, rfl⟩
    rw [hDe] at hD d3 ⊢
    have d1 : D.1 0 1 = A.1 0 1 := (hD.1 0 1 (by decide)).trans ((hC.1 0 1 (by decide)).trans (b2.1 0 1 (by decide)))
    refine ok.letE (v1 := A.1 0 1) d1 (ok.letV ?_)
    have hE : Fr YR [2] D (wI D 0 2 (A.1 0 1)) := Fr.rf.wI 0 2 _ (show (2 : Nat) ∈ [2] from by decide)
    have e2 : (wI D 0 2 (A.1 0 1)).1 0 2 = A.1 0 1 := wI_at _ _ _ _
    obtain ⟨E, hEe⟩ : ∃ E : St, wI D 0 2 (A.1 0 1) = E := ⟨_, rfl⟩
    rw [hEe] at hE e2 ⊢
    have hBE : Fr YR [2, 3, 11, 12] B E := ((hC.mono (by decide)).tr hD (by decide)).tr hE (by decide)
    have e1 : E.1 0 1 = A.1 0 1 := (hE.1 0 1 (by decide)).trans d1
    have n1 : (E.1 0 1).toInt = (n : Int) := by rw [e1, v1]; exact hn
    have et : ∀ j, E.1 2 j = A.1 2 j := fun j => (hBE.1 2 j (show (400 : Nat) ∉ [2, 3, 11, 12] from by decide)).trans (b2.1 2 j (show (400 : Nat) ∉ [4, 5, 6, 7, 8, 9, 10, 13, 14, 15, 16, 17, 18, 19, 20, 21, 22, 23, 24, 25, 47, 800, 1000, 1200, 1400, 1600, 1800, 2000, 2200, 2400, 2600, 2800, 3000, 3200, 3400, 3600, 4000, 4200, 4400, 4600, 4800, 5000, 5200, 5400, 5600, 5800, 6000, 6600, 6800, 7000, 7200, 7400, 7600, 7800] from by decide))
    have e18 : E.1 0 18 = B.1 0 18 := hBE.1 0 18 (by decide)
    obtain ⟨-, -, ⟨p1, p2, -⟩, -⟩ := b3
    refine rd88 (A := E) n1 (by omega) (fun G hG hg => ?_) n 0 E 0 BIG (by omega) (ltBIG (by omega)) rfl Fr.rf (fun j hj => absurd hj (Nat.not_lt_zero _))
    refine rd116 (B := B) (W0 := G) (n := ix (B.1 0 18)) (ixc p1).symm (by have := ixc p1; omega) (fun W r2 hW hW41 => ?_) ((hG.1 0 18 (by decide)).trans e18) (ix (B.1 0 18)) 0 G 0 BIG (by omega) (ltBIG (by have := ixc p1; omega)) rfl Fr.rf
    have hBW : Fr YR [2, 3, 11, 12, 41, 600, 3800] B W := ((hBE.mono (by decide)).tr hG (by decide)).tr hW (by decide)
    have hEW : Fr YR [41, 600, 3800] E W := (hG.mono (by decide)).tr hW (by decide)
    have w2 : W.1 0 2 = X.1 0 0 := by rw [hEW.1 0 2 (by decide), e2, v1]
    have w1 : W.1 0 1 = X.1 0 0 := by rw [hEW.1 0 1 (by decide), e1, v1]
    have w3 : (W.1 0 3).toInt = 1 := by
      rw [hEW.1 0 3 (by decide), hE.1 0 3 (by decide), d3]
      rfl
    have w0 : (W.1 0 0).toInt = 0 := by
      rw [hBW.1 0 0 (by decide), b2.1 0 0 (by decide), v0]
      rfl
    have w28 : W.1 0 28 = X.1 0 28 := by rw [hBW.1 0 28 (by decide), b2.1 0 28 (by decide), hA.1 0 28 (by decide)]
    have w4 : (W.1 0 4).toInt = 0 := by
      rw [hBW.1 0 4 (by decide)]
      exact b4
    have hPW : PGM W := hP.to hBW (by unfold NOL; exact ⟨by decide, by decide, by decide⟩) (hP.2.2.2.1.fr hBW (by decide)) (hP.2.2.1.tr (KX.fr hBW (by decide))) (hP.2.2.2.2.pot (POT.fr hP.2.2.2.1 hBW (by decide)))
    have hRW : RRD W := by
      refine ⟨A, r1, B, by rw [v1, w2], fun i hi => ?_, b1, hw⟩
      rw [w2] at hi
      have hin : i < n := by omega
      have w3i : W.1 3 i = vp_nar .byte (A.1 2 i) := by
        rw [hW.1 3 i (show (600 : Nat) ∉ [41, 3800] from by decide), hg i hin, et]
      rw [w3i, v2 i hin, nar_nar, nar_nar]
      exact ⟨rfl, rfl⟩
    exact ⟨⟨⟨by omega, by rw [w1]; exact a1, by rw [w2]; exact a1, by rw [w28]; exact a4⟩, fun _ => ⟨hPW, hRW⟩, fun q => by omega, fun q => absurd w4 q, fun q => absurd hW41 q⟩, w0⟩
  · refine ok.letV ?_
    have hD : Fr YR [18] C (wI C 0 18 0) := Fr.rf.wI 0 18 _ (show (18 : Nat) ∈ [18] from by decide)
    obtain ⟨D, hDe⟩ : ∃ D : St, wI C 0 18 0 = D := ⟨_, rfl⟩
    rw [hDe] at hD ⊢
    have hXD : Fr YR [0, 1, 4, 5, 6, 7, 8, 9, 10, 11, 12, 13, 14, 15, 16, 17, 18, 19, 20, 21, 22, 23, 24, 25, 47, 400, 800, 1000, 1200, 1400, 1600, 1800, 2000, 2200, 2400, 2600, 2800, 3000, 3200, 3400, 3600, 4000, 4200, 4400, 4600, 4800, 5000, 5200, 5400, 5600, 5800, 6000, 6600, 6800, 7000, 7200, 7400, 7600, 7800] X D := hXC.tr hD (by decide)
    have d0 : (D.1 0 0).toInt = 0 := by rw [hD.1 0 0 (by decide)]; exact c0
    have d3 : D.1 0 3 = X.1 0 3 := hXD.1 0 3 (by decide)
    have d2 : D.1 0 2 = X.1 0 2 := hXD.1 0 2 (by decide)
    refine ok.letE (v1 := X.1 0 3) d3 (ok.ite (fun c3 => ok.ret ?_) (fun c3 => ?_))
    · have d1 : D.1 0 1 = X.1 0 0 := (hD.1 0 1 (by decide)).trans ((hC.1 0 1 (by decide)).trans ((b2.1 0 1 (by decide)).trans v1))
      have d4 : (D.1 0 4).toInt = 0 := by
        rw [hD.1 0 4 (by decide), hC.1 0 4 (by decide)]
        exact b4
      have d41 : (D.1 0 41).toInt = 0 := by
        rw [hXD.1 0 41 (by decide)]
        exact (h.2.2.1 c3).2
      exact ⟨⟨⟨by omega, by rw [d1]; exact a1, by rw [d2]; exact a3, by rw [hXD.1 0 28 (by decide)]; exact a4⟩, fun q => absurd (by rw [d3]; exact c3) q, fun _ => ⟨d4, d41⟩, fun q => absurd d4 q, fun q => absurd d41 q⟩, d0⟩
    · obtain ⟨m, hm⟩ : ∃ m : Nat, (X.1 0 2).toInt = (m : Int) := ⟨ix (X.1 0 2), (ixc a3.1).symm⟩
      refine ok.letE (v1 := X.1 0 2) d2 (ok.letV ?_)
      exact rd169 h c3 hm m 0 _ 0 BIG (by omega) (ltBIG (by omega)) rfl (hXD.wI 0 1 _ (show (1 : Nat) ∈ [0, 1, 4, 5, 6, 7, 8, 9, 10, 11, 12, 13, 14, 15, 16, 17, 18, 19, 20, 21, 22, 23, 24, 25, 47, 400, 800, 1000, 1200, 1400, 1600, 1800, 2000, 2200, 2400, 2600, 2800, 3000, 3200, 3400, 3600, 4000, 4200, 4400, 4600, 4800, 5000, 5200, 5400, 5600, 5800, 6000, 6600, 6800, 7000, 7200, 7400, 7600, 7800] from by decide)) (by rw [wI_ne _ 0 _ _ 0 _ (by decide)]; exact d0) (wI_at _ _ _ _) (fun j hj => absurd hj (Nat.not_lt_zero _))
theorem rd10 {X : St} {n : Nat} (h : JM X) (hn : (X.1 0 0).toInt = (n : Int)) : ∀ (d i : Nat) (Z : St) (a : Int32) (N : Nat), i + d = n → d < N → a.toInt = (i : Int) → Fr YR [1, 400] X Z → Z.1 0 1 = X.1 0 0 → (∀ j, j < i → Z.1 2 j = vp_nar .byte (X.1 1 j)) → ok (f_read_10 N a Z) (fun _ Y => JM Y ∧ (Y.1 0 0).toInt = 0) := by
  have a1 := h.1.1
  intro d
  induction d with
  | zero =>
    intro i Z a N hi hN ha hF h1 ht
    obtain ⟨N, rfl⟩ : ∃ k, N = k + 1 := ⟨N - 1, by omega⟩
    unfold f_read_10
    rw [lp_succ]
    exact rd10_end h hn (by omega) hF h1 (fun j hj => ht j (by omega))
  | succ d ih =>
    intro i Z a N hi hN ha hF h1 ht
    obtain ⟨N, rfl⟩ : ∃ k, N = k + 1 := ⟨N - 1, by omega⟩
    have ea : ix a = i := ixn ha
    have hb : 0 ≤ a.toInt ∧ a.toInt < ((3000 : Nat) : Int) := by omega
    unfold f_read_10
    rw [lp_succ]
    unfold f_read_10_s
    refine ok.letE (v1 := X.1 0 0) (hF.1 0 0 (by decide)) (ok.ite (fun c => absurd c (by omega)) (fun _ => ok.ck hb (ok.letE (v1 := X.1 1 i) (by rw [ea]; exact hF.1 1 i (show (200 : Nat) ∉ [1, 400] from by decide)) (ok.ck hb (ok.letV (ok.inc (by decide) (by omega) (fun x hx => ?_)))))))
    rw [ea]
    have key := ih (i + 1) (wI Z 2 i (vp_nar .byte (X.1 1 i))) x N (by omega) (by omega) (by omega) (hF.wI 2 _ _ (show (400 : Nat) ∈ [1, 400] from by decide)) (by rw [wI_ne _ 2 _ _ 0 _ (by rintro ⟨a_, -⟩; exact absurd a_ (by decide))]; exact h1) (fun j hj => ?_)
    · unfold f_read_10 at key
      exact key
    · by_cases g : j = i
      · rw [g, wI_at]
      · rw [wI_ne _ 2 _ _ 2 _ (by rintro ⟨-, a_⟩; exact g a_)]
        exact ht j (by omega)
theorem m_read {X : St} (h : JM X) : ok (f_read X) (fun _ Y => JM Y ∧ (Y.1 0 0).toInt = 0) := by
  have a1 := h.1.1
  obtain ⟨n, hn⟩ : ∃ n : Nat, (X.1 0 0).toInt = (n : Int) := ⟨ix (X.1 0 0), (ixc a1.1).symm⟩
  unfold f_read
  refine ok.letV (ok.letV ?_)
  exact rd10 h hn n 0 _ 0 BIG (by omega) (ltBIG (by omega)) rfl (Fr.rf.wI 0 1 _ (show (1 : Nat) ∈ [1, 400] from by decide)) (wI_at _ _ _ _) (fun j hj => absurd hj (Nat.not_lt_zero _))
