/-! the reference between its calls -/
theorem wI_self {X : St} {e k : Nat} {v : Int32} (h : X.1 e k = v) : wI X e k v = X := by
  refine Prod.ext (funext (fun j => funext (fun i => ?_))) rfl
  by_cases g : j = e ∧ i = k
  · rw [g.1, g.2, wI_at]
    exact h.symm
  · exact wI_ne _ _ _ _ _ _ g
theorem TX.self {X : St} (h1 : X.1 0 14 = X.1 0 13) (h2 : X.1 0 16 = X.1 0 15) : TX X = X := by
  show wI (wI X 0 13 (X.1 0 14)) 0 15 (X.1 0 16) = X
  rw [wI_self (e := 0) (k := 13) h1.symm, wI_self h2.symm]
theorem Fr.sy {L : List Nat} {X Y : St} (h : Fr YR L X Y) : Fr YR L Y X := ⟨fun e k q => (h.1 e k q).symm, fun e k q => (h.2.1 e k q).symm, fun e k q => (h.2.2 e k q).symm⟩
theorem nm2 {a b c : Nat} {L : List Nat} (h : a ∉ L) (h1 : a ≠ b) (h2 : a ≠ c) : a ∉ b :: c :: L := fun q => by
  rcases List.mem_cons.mp q with q | q
  · exact h1 q
  · rcases List.mem_cons.mp q with q | q
    · exact h2 q
    · exact h q
theorem KT.cut {A B : St} (hT : KT A) (hK : KX A B) (e13 : B.1 0 13 = A.1 0 13) (e15 : B.1 0 15 = A.1 0 15) : KT B := by
  obtain ⟨a, b, c⟩ := hT
  refine ⟨by rw [e13]; exact a, by rw [e15]; exact b, fun k hk => ?_⟩
  rw [e13] at hk
  obtain ⟨r4, r5, r6⟩ := hK.2.2.1 k hk
  obtain ⟨c1, c2, c3, c4, c5⟩ := c k hk
  have e6 := ixc c1
  unfold KTk
  rw [r4, r5, r6, e15]
  refine ⟨c1, c2, c3, c4, fun i hi => ?_⟩
  rw [hK.2.2.2 (ix (A.1 6 k) + i) (by omega)]
  exact c5 i hi
/-- a program that has been read -/
def PGM (X : St) : Prop := (KT (TX X) ∧ K3 (TX X) ∧ PROG (TX X)) ∧ (0 ≤ (X.1 0 18).toInt ∧ (X.1 0 18).toInt ≤ 40 ∧ 0 ≤ (X.1 0 19).toInt ∧ (X.1 0 16).toInt ≤ 3000) ∧ KX (TX X) X ∧ KT X ∧ PBD X
def NOL (L : List Nat) : Prop := ((14 ∉ L ∧ 16 ∉ L ∧ 1 ∉ L ∧ 18 ∉ L ∧ 19 ∉ L ∧ 25 ∉ L) ∧ (2400 ∉ L ∧ 2600 ∉ L ∧ 3000 ∉ L ∧ 3200 ∉ L ∧ 3400 ∉ L ∧ 3600 ∉ L) ∧ (4000 ∉ L ∧ 4200 ∉ L ∧ 4600 ∉ L ∧ 4800 ∉ L ∧ 5000 ∉ L ∧ 5200 ∉ L ∧ 5400 ∉ L ∧ 5600 ∉ L))
theorem PGM.to {X Y : St} {L : List Nat} (h : PGM X) (hF : Fr YR L X Y) (hl : NOL L) (hT : KT Y) (hK : KX (TX X) Y) (hB : PBD Y) : PGM Y := by
  obtain ⟨⟨n14, n16, n1, n18, n19, n25⟩, ⟨n12, n13, n15, nr16, n17, nr18⟩, n20, n21, n23, n24, nr25, n26, n27, n28⟩ := hl
  obtain ⟨⟨h1, h2, h3, h4, h5, h6⟩, ⟨h7, h8, h9, h10⟩, h11⟩ := h
  have y14 : Y.1 0 14 = X.1 0 14 := hF.1 0 14 n14
  have y16 : Y.1 0 16 = X.1 0 16 := hF.1 0 16 n16
  have e13 : (TX Y).1 0 13 = (TX X).1 0 13 := by rw [TX.c13, TX.c13, y14]
  have e15 : (TX Y).1 0 15 = (TX X).1 0 15 := by rw [TX.c15, TX.c15, y16]
  have ty : ∀ e k, cod YR e k ∉ [13, 15] → (TX Y).1 e k = Y.1 e k := fun e k q => TX.fr.1 e k q
  have hAB : KX (TX X) (TX Y) := by
    refine ⟨by rw [e13]; exact Int.le_refl _, by rw [e15]; exact Int.le_refl _, fun j hj => ?_, fun j hj => ?_⟩
    · rw [ty 4 j (show (800 : Nat) ∉ [13, 15] from by decide), ty 5 j (show (1000 : Nat) ∉ [13, 15] from by decide), ty 6 j (show (1200 : Nat) ∉ [13, 15] from by decide)]
      exact hK.2.2.1 j hj
    · rw [ty 9 j (show (1800 : Nat) ∉ [13, 15] from by decide)]
      exact hK.2.2.2 j hj
  have hTB := h1.cut hAB e13 e15
  have hFA : Fr YR (13 :: 15 :: L) (TX X) (TX Y) := ((TX.fr.sy.mono (fun k hk => List.mem_append_left L hk : ∀ k ∈ [13, 15], k ∈ [13, 15] ++ L)).tr (hF.mono (fun k hk => List.mem_append_right [13, 15] hk : ∀ k ∈ L, k ∈ [13, 15] ++ L)) (fun _ q => q)).tr (TX.fr.mono (fun k hk => List.mem_append_left L hk : ∀ k ∈ [13, 15], k ∈ [13, 15] ++ L)) (fun _ q => q)
  have rw1 : ∀ r i, 200 * r ∉ L → r ≠ 0 → cod YR r i = 200 * r → (TX Y).1 r i = (TX X).1 r i := fun r i q _ hc => hFA.1 r i (by rw [hc]; exact nm2 q (by omega) (by omega))
  have c18 : (TX Y).1 0 18 = (TX X).1 0 18 := hFA.1 0 18 (nm2 n18 (by decide) (by decide))
  have c19 : (TX Y).1 0 19 = (TX X).1 0 19 := hFA.1 0 19 (nm2 n19 (by decide) (by decide))
  have c25 : (TX Y).1 0 25 = (TX X).1 0 25 := hFA.1 0 25 (nm2 n25 (by decide) (by decide))
  have c1 : (TX Y).1 0 1 = (TX X).1 0 1 := hFA.1 0 1 (nm2 n1 (by decide) (by decide))
  have q12 : ∀ i, (TX Y).1 12 i = (TX X).1 12 i := fun i => rw1 12 i n12 (by decide) rfl
  have q13 : ∀ i, (TX Y).1 13 i = (TX X).1 13 i := fun i => rw1 13 i n13 (by decide) rfl
  have q15 : ∀ i, (TX Y).1 15 i = (TX X).1 15 i := fun i => rw1 15 i n15 (by decide) rfl
  have q16 : ∀ i, (TX Y).1 16 i = (TX X).1 16 i := fun i => rw1 16 i nr16 (by decide) rfl
  have q17 : ∀ i, (TX Y).1 17 i = (TX X).1 17 i := fun i => rw1 17 i n17 (by decide) rfl
  have q18 : ∀ i, (TX Y).1 18 i = (TX X).1 18 i := fun i => rw1 18 i nr18 (by decide) rfl
  have q20 : ∀ i, (TX Y).1 20 i = (TX X).1 20 i := fun i => rw1 20 i n20 (by decide) rfl
  have q23 : ∀ i, (TX Y).1 23 i = (TX X).1 23 i := fun i => rw1 23 i n23 (by decide) rfl
  have q24 : ∀ i, (TX Y).1 24 i = (TX X).1 24 i := fun i => rw1 24 i n24 (by decide) rfl
  have q25 : ∀ i, (TX Y).1 25 i = (TX X).1 25 i := fun i => rw1 25 i nr25 (by decide) rfl
  have q26 : ∀ i, (TX Y).1 26 i = (TX X).1 26 i := fun i => rw1 26 i n26 (by decide) rfl
  have q27 : ∀ i, (TX Y).1 27 i = (TX X).1 27 i := fun i => rw1 27 i n27 (by decide) rfl
  have q28 : ∀ i, (TX Y).1 28 i = (TX X).1 28 i := fun i => rw1 28 i n28 (by decide) rfl
  have y18 : Y.1 0 18 = X.1 0 18 := hF.1 0 18 n18
  have y19 : Y.1 0 19 = X.1 0 19 := hF.1 0 19 n19
  refine ⟨⟨hTB, h2.kx hAB, h3.kx h1 hTB hAB hFA ⟨⟨nm2 n1 (by decide) (by decide), nm2 n19 (by decide) (by decide), nm2 n20 (by decide) (by decide), nm2 n21 (by decide) (by decide), nm2 nr25 (by decide) (by decide)⟩, nm2 n26 (by decide) (by decide)⟩, ?_, ?_, ?_, ?_⟩, ⟨by rw [y18]; exact h7, by rw [y18]; exact h8, by rw [y19]; exact h9, by rw [y16]; exact h10⟩, ?_, hT, hB⟩
  · exact h4.ns h1 hTB hAB c1 c18 c19 (fun i => ⟨q12 i, q13 i, q15 i, q16 i, q17 i, q18 i⟩) (fun n lo hi i _ _ => ⟨q20 i, q23 i, q24 i, q25 i, Or.inr (q26 i), q27 i, fun _ => q28 i⟩)
  · rw [c19, e13]
    exact h5
  · intro i hi h20
    rw [c19] at hi
    rw [q20] at h20
    rw [q26, c18]
    exact h6.1 i hi h20
  · rw [c25, c18, q15]
    exact h6.2
  · refine ⟨?_, ?_, fun j hj => ?_, fun j hj => ?_⟩
    · rw [e13]
      exact hK.1
    · rw [e15]
      exact hK.2.1
    · rw [ty 4 j (show (800 : Nat) ∉ [13, 15] from by decide), ty 5 j (show (1000 : Nat) ∉ [13, 15] from by decide), ty 6 j (show (1200 : Nat) ∉ [13, 15] from by decide)]
      exact ⟨rfl, rfl, rfl⟩
    · rw [ty 9 j (show (1800 : Nat) ∉ [13, 15] from by decide)]
theorem JUD.to {X Y : St} {L : List Nat} (h : JUD X) (hT : KT X) (hF : Fr YR L X Y) (hK : KX X Y) (hl : 18 ∉ L ∧ 19 ∉ L ∧ 26 ∉ L) (hc : (4000 ∉ L ∧ 4600 ∉ L ∧ 4800 ∉ L ∧ 5000 ∉ L ∧ 5200 ∉ L ∧ 5400 ∉ L ∧ 5600 ∉ L ∧ 8000 ∉ L ∧ 8200 ∉ L ∧ 8400 ∉ L ∧ 9000 ∉ L ∧ 9200 ∉ L ∧ 9400 ∉ L ∧ 10200 ∉ L) ∧ 8800 ∉ L ∧ 3600 ∉ L ∧ 3000 ∉ L) (hw : 3000 ∉ L ∧ 3200 ∉ L ∧ 3400 ∉ L ∧ 3800 ∉ L ∧ 5200 ∉ L ∧ 5400 ∉ L ∧ 9200 ∉ L ∧ 9400 ∉ L ∧ 8000 ∉ L ∧ 8200 ∉ L ∧ 18 ∉ L ∧ 28 ∉ L ∧ 8600 ∉ L ∧ 10600 ∉ L ∧ 10800 ∉ L ∧ 11000 ∉ L ∧ 11200 ∉ L) : JUD Y := by
  obtain ⟨lo, po, a, b, c, d, e, f, g, i⟩ := h
  unfold JUD
  rw [hF.1 0 18 hl.1, hF.1 0 19 hl.2.1, hF.1 0 26 hl.2.2]
  exact ⟨lo, po, a, b, c, d, e, f, g.fr hF hc, fun q hq => (i q hq).jw hT (JW.fr hF hK hw (fun _ => False)) (fun _ _ _ w => w)⟩
theorem GNA.to {X Y : St} {L : List Nat} (h : GNA X) (hF : Fr YR L X Y) (hK : KX X Y) (hl : 28 ∉ L ∧ 10600 ∉ L ∧ 10800 ∉ L) : GNA Y := by
  intro i hi
  rw [hF.1 0 28 hl.1] at hi
  rw [hF.1 53 i hl.2.1, hF.1 54 i hl.2.2]
  obtain ⟨⟨a, b⟩, c, d⟩ := h i hi
  have := hK.1
  exact ⟨⟨a, by omega⟩, c, by omega⟩
/-- the former text was read without a fault -/
def RRD (X : St) : Prop := ∃ (Z : St) (r : Int32) (Y : St), Z.1 0 1 = X.1 0 2 ∧ (∀ i : Nat, (i : Int) < (X.1 0 2).toInt → Z.1 2 i = X.1 3 i ∧ vp_nar .byte (X.1 3 i) = X.1 3 i) ∧ f_reads Z = some (r, Y) ∧ (Y.1 0 9).toInt = 0
theorem RRD.fr {X Y : St} {L : List Nat} (h : RRD X) (hF : Fr YR L X Y) (hl : 2 ∉ L ∧ 600 ∉ L) : RRD Y := by
  obtain ⟨Z, r, W, a, b, c, d⟩ := h
  refine ⟨Z, r, W, by rw [hF.1 0 2 hl.1]; exact a, fun i hi => ?_, c, d⟩
  rw [hF.1 0 2 hl.1] at hi
  rw [hF.1 3 i hl.2]
  exact b i hi
def JM (X : St) : Prop := ((0 ≤ (X.1 0 0).toInt ∧ (X.1 0 0).toInt ≤ 3000) ∧ (0 ≤ (X.1 0 1).toInt ∧ (X.1 0 1).toInt ≤ 3000) ∧ (0 ≤ (X.1 0 2).toInt ∧ (X.1 0 2).toInt ≤ 3000) ∧ 0 ≤ (X.1 0 28).toInt ∧ (X.1 0 28).toInt ≤ 3000) ∧ (¬ (X.1 0 3).toInt = 0 → PGM X ∧ RRD X) ∧ ((X.1 0 3).toInt = 0 → (X.1 0 4).toInt = 0 ∧ (X.1 0 41).toInt = 0) ∧ (¬ (X.1 0 4).toInt = 0 → JUD X ∧ GNA X ∧ 0 ≤ (X.1 0 28).toInt ∧ (X.1 0 28).toInt ≤ 3000) ∧ (¬ (X.1 0 41).toInt = 0 → (0 ≤ (X.1 0 46).toInt ∧ (X.1 0 46).toInt ≤ 200) ∧ ((X.1 0 43).toInt = 0 → TV X))
/-- a call that reads nothing -/
theorem JM.to {X Y : St} {L : List Nat} (h : JM X) (hF : Fr YR L X Y) (hl : (1 ∉ L ∧ 2 ∉ L ∧ 3 ∉ L ∧ 600 ∉ L) ∧ NOL L) (h0 : 0 ≤ (Y.1 0 0).toInt ∧ (Y.1 0 0).toInt ≤ 3000) (h28 : 0 ≤ (Y.1 0 28).toInt ∧ (Y.1 0 28).toInt ≤ 3000) (hP : ¬ (X.1 0 3).toInt = 0 → KT Y ∧ KX (TX X) Y ∧ PBD Y) (hN : (X.1 0 3).toInt = 0 → (Y.1 0 4).toInt = 0 ∧ (Y.1 0 41).toInt = 0) (hJ : ¬ (Y.1 0 4).toInt = 0 → JUD Y ∧ GNA Y ∧ 0 ≤ (Y.1 0 28).toInt ∧ (Y.1 0 28).toInt ≤ 3000) (hR : ¬ (Y.1 0 41).toInt = 0 → (0 ≤ (Y.1 0 46).toInt ∧ (Y.1 0 46).toInt ≤ 200) ∧ ((Y.1 0 43).toInt = 0 → TV Y)) : JM Y := by
  obtain ⟨⟨a1, a2, a3, a4⟩, b, c, d, e⟩ := h
  obtain ⟨⟨n1, n2, n3, n600⟩, hnol⟩ := hl
  refine ⟨⟨h0, by rw [hF.1 0 1 n1]; exact a2, by rw [hF.1 0 2 n2]; exact a3, h28⟩, fun q => ?_, fun q => ?_, hJ, hR⟩
  · rw [hF.1 0 3 n3] at q
    obtain ⟨p1, p2, p3⟩ := hP q
    obtain ⟨g1, g2⟩ := b q
    exact ⟨g1.to hF hnol p1 p2 p3, g2.fr hF ⟨n2, n600⟩⟩
  · rw [hF.1 0 3 n3] at q
    exact hN q
/-- .. and leaves the kinds as they are -/
theorem JM.fr {X Y : St} {L : List Nat} (h : JM X) (hF : Fr YR L X Y) (hl : (1 ∉ L ∧ 2 ∉ L ∧ 3 ∉ L ∧ 600 ∉ L) ∧ NOL L) (hk : 13 ∉ L ∧ 15 ∉ L ∧ 800 ∉ L ∧ 1000 ∉ L ∧ 1200 ∉ L ∧ 1800 ∉ L) (h28 : 28 ∉ L) (h0 : 0 ≤ (Y.1 0 0).toInt ∧ (Y.1 0 0).toInt ≤ 3000) (hN : (X.1 0 3).toInt = 0 → (Y.1 0 4).toInt = 0 ∧ (Y.1 0 41).toInt = 0) (hJ : ¬ (Y.1 0 4).toInt = 0 → JUD Y ∧ GNA Y ∧ 0 ≤ (Y.1 0 28).toInt ∧ (Y.1 0 28).toInt ≤ 3000) (hR : ¬ (Y.1 0 41).toInt = 0 → (0 ≤ (Y.1 0 46).toInt ∧ (Y.1 0 46).toInt ≤ 200) ∧ ((Y.1 0 43).toInt = 0 → TV Y)) : JM Y := by
  refine h.to hF hl h0 (by rw [hF.1 0 28 h28]; exact h.1.2.2.2) (fun q => ?_) hN hJ hR
  obtain ⟨⟨-, -, g3, g4, g5⟩, -⟩ := h.2.1 q
  exact ⟨g4.fr hF hk, g3.tr (KX.fr hF hk), g5.pot (POT.fr g4 hF hk)⟩
/-- the tape alone changes -/
theorem JM.tape {X Y : St} (h : JM X) (hF : Fr YR [0, 200] X Y) (h0 : 0 ≤ (Y.1 0 0).toInt ∧ (Y.1 0 0).toInt ≤ 3000) : JM Y := by
  have hK : KX X Y := KX.fr hF (by decide)
  refine h.fr hF ⟨by decide, by unfold NOL; exact ⟨by decide, by decide, by decide⟩⟩ (by decide) (by decide) h0 (fun q => ?_) (fun q => ?_) (fun q => ?_)
  · rw [hF.1 0 4 (by decide), hF.1 0 41 (by decide)]
    exact h.2.2.1 q
  · rw [hF.1 0 4 (by decide)] at q
    obtain ⟨j1, j2, j3⟩ := h.2.2.2.1 q
    by_cases g : (X.1 0 3).toInt = 0
    · exact absurd (h.2.2.1 g).1 q
    · obtain ⟨⟨-, -, -, hT, -⟩, -⟩ := h.2.1 g
      exact ⟨j1.to hT hF hK (by decide) (by decide) (by decide), j2.to hF hK (by decide), by rw [hF.1 0 28 (by decide)]; exact j3⟩
  · rw [hF.1 0 41 (by decide)] at q
    rw [hF.1 0 46 (by decide), hF.1 0 43 (by decide)]
    exact ⟨(h.2.2.2.2 q).1, fun z => ((h.2.2.2.2 q).2 z).fr hF (by decide)⟩
/-! the easy calls -/
theorem m_put {X : St} {p1 : Int32} {n : Nat} (h : (X.1 0 0).toInt = (n : Int)) (hn : n + 4 ≤ 3000) : ok (f_put p1 X) (fun _ Y => Fr YR [0, 200] X Y ∧ (Y.1 0 0).toInt = ((n + 4 : Nat) : Int)) := by
  have z1 : (1 : Int32).toInt = 1 := rfl
  have z2 : (2 : Int32).toInt = 2 := rfl
  have z3 : (3 : Int32).toInt = 3 := rfl
  have z4 : (4 : Int32).toInt = 4 := rfl
  unfold f_put
  refine ok.letV (ok.letV (ok.letV (ok.ck (show 0 ≤ (X.1 0 0).toInt ∧ (X.1 0 0).toInt < ((3000 : Nat) : Int) by omega) (ok.letV ?_))))
  have r1 : ∀ i v, (wI X 1 i v).1 0 0 = X.1 0 0 := fun i v => wI_ne _ 1 _ _ 0 _ (by rintro ⟨a_, -⟩; exact absurd a_ (by decide))
  refine ok.letE (v1 := X.1 0 0) (r1 _ _) (ok.add (by rw [z1]; omega) (fun x6 h6 => ok.letV (ok.letV (ok.ck (show 0 ≤ x6.toInt ∧ x6.toInt < ((3000 : Nat) : Int) by rw [z1] at h6; omega) (ok.letV ?_)))))
  refine ok.letE (v1 := X.1 0 0) (by rw [wI_ne _ 1 _ _ 0 _ (by rintro ⟨a_, -⟩; exact absurd a_ (by decide)), r1]) (ok.add (by rw [z2]; omega) (fun x11 h11 => ok.letV (ok.letV (ok.ck (show 0 ≤ x11.toInt ∧ x11.toInt < ((3000 : Nat) : Int) by rw [z2] at h11; omega) (ok.letV ?_)))))
  refine ok.letE (v1 := X.1 0 0) (by rw [wI_ne _ 1 _ _ 0 _ (by rintro ⟨a_, -⟩; exact absurd a_ (by decide)), wI_ne _ 1 _ _ 0 _ (by rintro ⟨a_, -⟩; exact absurd a_ (by decide)), r1]) (ok.add (by rw [z3]; omega) (fun x16 h16 => ok.letV (ok.ck (show 0 ≤ x16.toInt ∧ x16.toInt < ((3000 : Nat) : Int) by rw [z3] at h16; omega) (ok.letV ?_))))
  refine ok.letE (v1 := X.1 0 0) (by rw [wI_ne _ 1 _ _ 0 _ (by rintro ⟨a_, -⟩; exact absurd a_ (by decide)), wI_ne _ 1 _ _ 0 _ (by rintro ⟨a_, -⟩; exact absurd a_ (by decide)), wI_ne _ 1 _ _ 0 _ (by rintro ⟨a_, -⟩; exact absurd a_ (by decide)), r1]) (ok.add (by rw [z4]; omega) (fun x20 h20 => ok.letV (ok.ret ⟨?_, ?_⟩)))
  · have m2 : (200 : Nat) ∈ [0, 200] := by decide
    exact ((((Fr.rf.wI 1 _ _ (show (200 : Nat) ∈ [0, 200] from m2)).wI 1 _ _ (show (200 : Nat) ∈ [0, 200] from m2)).wI 1 _ _ (show (200 : Nat) ∈ [0, 200] from m2)).wI 1 _ _ (show (200 : Nat) ∈ [0, 200] from m2)).wI 0 0 _ (show (0 : Nat) ∈ [0, 200] from by decide)
  · rw [wI_at]
    rw [z4] at h20
    omega
theorem m_feed {X : St} (h : JM X) (p1 p2 p3 p4 p5 : Int32) : ok (f_feed p1 p2 p3 p4 p5 X) (fun r Y => JM Y ∧ ((X.1 0 0).toInt + 20 ≤ 3000 → (Y.1 0 0).toInt = (X.1 0 0).toInt + 20 ∧ r = Y.1 0 0) ∧ (¬ (X.1 0 0).toInt + 20 ≤ 3000 → (Y.1 0 0).toInt = (X.1 0 0).toInt ∧ r = -1)) := by
  have z20 : (20 : Int32).toInt = 20 := rfl
  have h0 := h.1.1
  obtain ⟨n, hn⟩ : ∃ n : Nat, (X.1 0 0).toInt = (n : Int) := ⟨ix (X.1 0 0), (ixc h0.1).symm⟩
  unfold f_feed
  refine ok.letV (ok.add (by rw [z20]; omega) (fun x hx => ?_))
  rw [z20] at hx
  refine ok.ite (fun c => ?_) (fun c => ok.ret ⟨h, fun q => by exfalso; omega, fun _ => ⟨rfl, rfl⟩⟩)
  refine ok.bd (m_put hn (by omega)) ?_
  rintro r1 Y1 ⟨f1, e1⟩
  refine ok.bd (m_put e1 (by omega)) ?_
  rintro r2 Y2 ⟨f2, e2⟩
  refine ok.bd (m_put e2 (by omega)) ?_
  rintro r3 Y3 ⟨f3, e3⟩
  refine ok.bd (m_put e3 (by omega)) ?_
  rintro r4 Y4 ⟨f4, e4⟩
  refine ok.bd (m_put e4 (by omega)) ?_
  rintro r5 Y5 ⟨f5, e5⟩
  have hs : ∀ k ∈ [0, 200], k ∈ [0, 200] := fun _ q => q
  refine ok.letV (ok.ret ⟨h.tape ((((f1.tr f2 hs).tr f3 hs).tr f4 hs).tr f5 hs) (by omega), fun _ => ⟨by omega, rfl⟩, fun q => by exfalso; omega⟩)
theorem m_end {X : St} (h : JM X) (p1 : Int32) : ok (f_end p1 X) (fun r Y => JM Y ∧ ((0 ≤ p1.toInt ∧ p1.toInt ≤ (X.1 0 0).toInt → r = p1 ∧ (Y.1 0 0).toInt = p1.toInt) ∧ (¬ (0 ≤ p1.toInt ∧ p1.toInt ≤ (X.1 0 0).toInt) → r = -1 ∧ (Y.1 0 0).toInt = (X.1 0 0).toInt))) := by
  have h0 := h.1.1
  unfold f_end
  refine ok.letV (ok.bd (s_f_in _ _ _ _) ?_)
  rintro r0 X' ⟨hF0, hin⟩
  obtain rfl : X = X' := (Fr.nil hF0).symm
  have hin : (r0.toInt = 1 ∧ 0 ≤ p1.toInt ∧ p1.toInt ≤ (X.1 0 0).toInt) ∨ (r0.toInt = 0 ∧ (p1.toInt < 0 ∨ (X.1 0 0).toInt < p1.toInt)) := hin
  refine ok.ite (fun c => ok.ret ⟨h, fun q => by omega, fun _ => ⟨rfl, rfl⟩⟩) (fun c => ok.letV (ok.ret ?_))
  have hF : Fr YR [0, 200] X (wI X 0 0 p1) := Fr.rf.wI 0 0 _ (show (0 : Nat) ∈ [0, 200] from by decide)
  have v0 : (wI X 0 0 p1).1 0 0 = p1 := wI_at _ _ _ _
  exact ⟨h.tape hF (by rw [v0]; omega), fun _ => ⟨rfl, by rw [v0]⟩, fun q => by omega⟩
theorem m_fault {X : St} (h : JM X) (p1 : Int32) : ok (f_fault p1 X) (fun _ Y => JM Y ∧ (Y.1 0 0).toInt = (X.1 0 0).toInt) := by
  unfold f_fault
  exact ok.ite (fun _ => ok.letV (ok.ret ⟨h, rfl⟩)) (fun _ => ok.ite (fun _ => ok.letV (ok.ret ⟨h, rfl⟩)) (fun _ => ok.ret ⟨h, rfl⟩))
theorem m_about {X : St} (h : JM X) (p1 : Int32) : ok (f_about p1 X) (fun _ Y => JM Y ∧ (Y.1 0 0).toInt = (X.1 0 0).toInt) := by
  unfold f_about
  exact ok.ite (fun _ => ok.letV (ok.ret ⟨h, rfl⟩)) (fun _ => ok.ite (fun _ => ok.letV (ok.ret ⟨h, rfl⟩)) (fun _ => ok.ite (fun _ => ok.letV (ok.ite (fun _ => ok.ret ⟨h, rfl⟩) (fun _ => ok.ret ⟨h, rfl⟩))) (fun _ => ok.ite (fun _ => ok.letV (ok.ite (fun _ => ok.ret ⟨h, rfl⟩) (fun _ => ok.letV (ok.ret ⟨h, rfl⟩)))) (fun _ => ok.ret ⟨h, rfl⟩))))
theorem m_told {X : St} (h : JM X) (p1 : Int32) : ok (f_told p1 X) (fun _ Y => JM Y ∧ (Y.1 0 0).toInt = (X.1 0 0).toInt) := by
  refine (r_told (fun q1 q2 => (h.2.2.2.2 q1).2 q2)).mono ?_
  rintro r Y rfl
  exact ⟨h, rfl⟩
theorem m_out {X : St} (h : JM X) (p1 : Int32) : ok (f_out p1 X) (fun _ Y => JM Y ∧ (Y.1 0 0).toInt = (X.1 0 0).toInt) := by
  have z1 : (1 : Int32).toInt = 1 := rfl
  unfold f_out
  refine ok.letV (ok.ite (fun _ => ok.ret ⟨h, rfl⟩) (fun c => ?_))
  obtain ⟨h46, -⟩ := h.2.2.2.2 c
  refine ok.letV (ok.sub (by rw [z1]; omega) (fun x hx => ok.bd (s_f_in _ _ _ _) ?_))
  rw [z1] at hx
  rintro r0 X' ⟨hF0, hin⟩
  obtain rfl : X = X' := (Fr.nil hF0).symm
  have hin : (r0.toInt = 1 ∧ 0 ≤ p1.toInt ∧ p1.toInt ≤ x.toInt) ∨ (r0.toInt = 0 ∧ (p1.toInt < 0 ∨ x.toInt < p1.toInt)) := hin
  exact ok.ite (fun _ => ok.ret ⟨h, rfl⟩) (fun c2 => ok.ck (show 0 ≤ p1.toInt ∧ p1.toInt < ((200 : Nat) : Int) by omega) (ok.letV (ok.ret ⟨h, rfl⟩)))
theorem JM.parts {X : St} (h : JM X) (hr : ¬ (X.1 0 3).toInt = 0) : 0 ≤ (X.1 0 18).toInt ∧ (X.1 0 18).toInt ≤ 40 := ⟨(h.2.1 hr).1.2.1.1, (h.2.1 hr).1.2.1.2.1⟩
theorem m_asked {X : St} (h : JM X) (p1 p2 : Int32) : ok (f_asked p1 p2 X) (fun _ Y => JM Y ∧ (Y.1 0 0).toInt = (X.1 0 0).toInt) := by
  have z1 : (1 : Int32).toInt = 1 := rfl
  have z41 : (41 : Int32).toInt = 41 := rfl
  unfold f_asked
  refine ok.letV (ok.ite (fun _ => ok.ret ⟨h, rfl⟩) (fun c => ?_))
  have h3 : ¬ (X.1 0 3).toInt = 0 := fun q => c (h.2.2.1 q).2
  have hp := h.parts h3
  refine ok.letV (ok.sub (by rw [z1]; omega) (fun x hx => ok.bd (s_f_in _ _ _ _) ?_))
  rw [z1] at hx
  rintro r0 X' ⟨hF0, hin⟩
  obtain rfl : X = X' := (Fr.nil hF0).symm
  have hin : (r0.toInt = 1 ∧ 0 ≤ p1.toInt ∧ p1.toInt ≤ x.toInt) ∨ (r0.toInt = 0 ∧ (p1.toInt < 0 ∨ x.toInt < p1.toInt)) := hin
  refine ok.ite (fun _ => ok.ret ⟨h, rfl⟩) (fun c2 => ok.letV (ok.sub (by rw [z1]; omega) (fun y hy => ok.bd (s_f_in _ _ _ _) ?_)))
  rw [z1] at hy
  rintro r1 X' ⟨hF1, hin1⟩
  obtain rfl : X = X' := (Fr.nil hF1).symm
  have hin1 : (r1.toInt = 1 ∧ 0 ≤ p2.toInt ∧ p2.toInt ≤ y.toInt) ∨ (r1.toInt = 0 ∧ (p2.toInt < 0 ∨ y.toInt < p2.toInt)) := hin1
  refine ok.ite (fun _ => ok.ret ⟨h, rfl⟩) (fun c3 => ok.mul (by rw [z41]; omega) (fun z hz => ok.add (by rw [z41] at hz; omega) (fun w hw => ?_)))
  rw [z41] at hz
  exact ok.ck (show 0 ≤ w.toInt ∧ w.toInt < ((1681 : Nat) : Int) by omega) (ok.letV (ok.ret ⟨h, rfl⟩))
theorem m_tell {X : St} (h : JM X) (p1 p2 : Int32) : ok (f_tell p1 p2 X) (fun _ Y => JM Y ∧ (Y.1 0 0).toInt = (X.1 0 0).toInt) := by
  have z1 : (1 : Int32).toInt = 1 := rfl
  unfold f_tell
  refine ok.letV (ok.ite (fun _ => ok.ret ⟨h, rfl⟩) (fun c => ?_))
  have hp := h.parts c
  refine ok.letV (ok.sub (by rw [z1]; omega) (fun x hx => ok.bd (s_f_in _ _ _ _) ?_))
  rw [z1] at hx
  rintro r0 X' ⟨hF0, hin⟩
  obtain rfl : X = X' := (Fr.nil hF0).symm
  have hin : (r0.toInt = 1 ∧ 0 ≤ p1.toInt ∧ p1.toInt ≤ x.toInt) ∨ (r0.toInt = 0 ∧ (p1.toInt < 0 ∨ x.toInt < p1.toInt)) := hin
  refine ok.ite (fun _ => ok.ret ⟨h, rfl⟩) (fun c2 => ok.ck (show 0 ≤ p1.toInt ∧ p1.toInt < ((41 : Nat) : Int) by omega) (ok.letV (ok.letV (ok.ret ?_))))
  have hF : Fr YR [4, 3800] X (wI (wI X 19 (ix p1) (vp_nar .boolean p2)) 0 4 0) := (Fr.rf.wI 19 _ _ (show (3800 : Nat) ∈ [4, 3800] from by decide)).wI 0 4 _ (show (4 : Nat) ∈ [4, 3800] from by decide)
  have v4 : (wI (wI X 19 (ix p1) (vp_nar .boolean p2)) 0 4 0).1 0 4 = 0 := wI_at _ _ _ _
  obtain ⟨Y, hY⟩ : ∃ Y : St, wI (wI X 19 (ix p1) (vp_nar .boolean p2)) 0 4 0 = Y := ⟨_, rfl⟩
  rw [hY] at hF v4 ⊢
  have y0 : Y.1 0 0 = X.1 0 0 := hF.1 0 0 (by decide)
  refine ⟨h.fr hF ⟨by decide, by unfold NOL; exact ⟨by decide, by decide, by decide⟩⟩ (by decide) (by decide) (by rw [y0]; exact h.1.1) (fun q => absurd q c) (fun q => absurd (by rw [v4]; rfl) q) (fun q => ?_), by rw [y0]⟩
  rw [hF.1 0 41 (by decide)] at q
  rw [hF.1 0 46 (by decide), hF.1 0 43 (by decide)]
  exact ⟨(h.2.2.2.2 q).1, fun z => ((h.2.2.2.2 q).2 z).fr hF (by decide)⟩
theorem m_guard {X : St} (h : JM X) (p1 p2 : Int32) : ok (f_guard p1 p2 X) (fun _ Y => JM Y ∧ (Y.1 0 0).toInt = (X.1 0 0).toInt) := by
  have z1 : (1 : Int32).toInt = 1 := rfl
  unfold f_guard
  refine ok.letV (ok.ite (fun _ => ok.ret ⟨h, rfl⟩) (fun c => ?_))
  obtain ⟨j1, j2, j3⟩ := h.2.2.2.1 c
  have h3 : ¬ (X.1 0 3).toInt = 0 := fun q => c (h.2.2.1 q).1
  obtain ⟨⟨-, -, -, hT, hB⟩, -⟩ := h.2.1 h3
  have hB1 := hB.1
  refine ok.letV (ok.sub (by rw [z1]; omega) (fun x hx => ok.bd (s_f_in _ _ _ _) ?_))
  rw [z1] at hx
  rintro r0 X' ⟨hF0, hin⟩
  obtain rfl : X = X' := (Fr.nil hF0).symm
  have hin : (r0.toInt = 1 ∧ 0 ≤ p1.toInt ∧ p1.toInt ≤ x.toInt) ∨ (r0.toInt = 0 ∧ (p1.toInt < 0 ∨ x.toInt < p1.toInt)) := hin
  refine ok.ite (fun _ => ok.ret ⟨h, rfl⟩) (fun c2 => ?_)
  have ep := ixc (z := p1) (by omega)
  obtain ⟨⟨g1, g2⟩, g3, g4⟩ := j2 (ix p1) (by omega)
  have hb : 0 ≤ p1.toInt ∧ p1.toInt < ((12000 : Nat) : Int) := by omega
  refine ok.ite (fun _ => ok.ck hb (ok.letV (ok.ret ⟨h, rfl⟩))) (fun _ => ok.ite (fun _ => ok.ck hb (ok.letV (ok.ret ⟨h, rfl⟩))) (fun _ => ok.ite (fun _ => ok.ck hb (ok.letV (ok.ret ⟨h, rfl⟩))) (fun _ => ok.ite (fun _ => ok.ck hb (ok.letV (ok.ck ?_ (ok.letV (ok.ret ⟨h, rfl⟩))))) (fun _ => ok.ite (fun _ => ok.ck hb (ok.letV (ok.ck ?_ (ok.letV (ok.ret ⟨h, rfl⟩))))) (fun _ => ok.ret ⟨h, rfl⟩)))))
  · exact (⟨g1, by show (X.1 53 (ix p1)).toInt < ((6000 : Nat) : Int); omega⟩ : inR _ _)
  · exact (⟨g3, by show (X.1 54 (ix p1)).toInt < ((6000 : Nat) : Int); omega⟩ : inR _ _)
theorem m_part {X : St} (h : JM X) (p1 p2 : Int32) : ok (f_part_II_I p1 p2 X) (fun _ Y => JM Y ∧ (Y.1 0 0).toInt = (X.1 0 0).toInt) := by
  have z1 : (1 : Int32).toInt = 1 := rfl
  have z99 : (99 : Int32).toInt = 99 := rfl
  have z100 : (100 : Int32).toInt = 100 := rfl
  unfold f_part_II_I
  refine ok.letV (ok.ite (fun _ => ok.ret ⟨h, rfl⟩) (fun c => ?_))
  have hp := h.parts c
  have hlen := h.1.2.1
  obtain ⟨⟨⟨-, -, hG⟩, -⟩, -⟩ := h.2.1 c
  refine ok.letV (ok.sub (by rw [z1]; omega) (fun x hx => ok.bd (s_f_in _ _ _ _) ?_))
  rw [z1] at hx
  rintro r0 X' ⟨hF0, hin⟩
  obtain rfl : X = X' := (Fr.nil hF0).symm
  have hin : (r0.toInt = 1 ∧ 0 ≤ p1.toInt ∧ p1.toInt ≤ x.toInt) ∨ (r0.toInt = 0 ∧ (p1.toInt < 0 ∨ x.toInt < p1.toInt)) := hin
  refine ok.ite (fun _ => ok.ret ⟨h, rfl⟩) (fun c2 => ?_)
  have ep := ixc (z := p1) (by omega)
  have e18 := ixc hp.1
  have hb : 0 ≤ p1.toInt ∧ p1.toInt < ((41 : Nat) : Int) := by omega
  obtain ⟨lo, -, -, hall, -⟩ := hG.2.1
  have t18 : (TX X).1 0 18 = X.1 0 18 := TX.fr.1 0 18 (by decide)
  have t1 : (TX X).1 0 1 = X.1 0 1 := TX.fr.1 0 1 (by decide)
  obtain ⟨-, -, g3, g4, g5⟩ := hall (ix p1) (by rw [t18]; omega)
  rw [TX.fr.1 12 (ix p1) (show (2400 : Nat) ∉ [13, 15] from by decide)] at g3 g5
  rw [TX.fr.1 13 (ix p1) (show (2600 : Nat) ∉ [13, 15] from by decide)] at g4 g5
  rw [t1] at g5
  refine ok.ite (fun _ => ok.ck hb (ok.letV (ok.ite (fun _ => ok.ret ⟨h, rfl⟩) (fun _ => ok.ret ⟨h, rfl⟩)))) (fun _ => ok.ite (fun _ => ok.ck hb (ok.letV (ok.ret ⟨h, rfl⟩))) (fun _ => ok.ite (fun _ => ok.ck hb (ok.letV (ok.ret ⟨h, rfl⟩))) (fun _ => ok.ite (fun _ => ok.letV (ok.ite (fun _ => ok.ret ⟨h, rfl⟩) (fun _ => ok.ck hb (ok.letV (ok.ite (fun _ => ok.ret ⟨h, rfl⟩) (fun _ => ok.ret ⟨h, rfl⟩)))))) (fun _ => ok.ite (fun _ => ok.ck hb (ok.letV (ok.ret ⟨h, rfl⟩))) (fun _ => ok.ck hb (ok.letV (ok.add (by rw [z99]; omega) (fun y hy => ok.bd (s_f_in _ _ _ _) ?_))))))))
  rw [z99] at hy
  rintro r1 X' ⟨hF1, hin1⟩
  obtain rfl : X = X' := (Fr.nil hF1).symm
  have hin1 : (r1.toInt = 1 ∧ 100 ≤ p2.toInt ∧ p2.toInt ≤ y.toInt) ∨ (r1.toInt = 0 ∧ (p2.toInt < 100 ∨ y.toInt < p2.toInt)) := hin1
  refine ok.ite (fun _ => ok.ret ⟨h, rfl⟩) (fun c3 => ok.ck hb (ok.letV (ok.add (by omega) (fun w hw => ok.sub (by rw [z100]; omega) (fun v hv => ?_)))))
  rw [z100] at hv
  exact ok.ck (show 0 ≤ v.toInt ∧ v.toInt < ((3000 : Nat) : Int) by omega) (ok.letV (ok.ret ⟨h, rfl⟩))
