/-! runUntold() on both sides -/
/-- a text that has been read and compiled, for a run that tells nothing of kinds -/
def CDP (X : St) (lo po : Nat → Nat) : Prop := lo (ix (X.1 0 18)) = ix (X.1 0 19) ∧ (∀ p q, p ≤ q → q ≤ ix (X.1 0 18) → lo p ≤ lo q) ∧ po 0 = 0 ∧ (X.1 0 26).toInt = (po (ix (X.1 0 18)) : Int) ∧ (∀ q, q ≤ ix (X.1 0 18) → po q ≤ 5 * lo q) ∧ CODE X lo po (ix (X.1 0 18))
/-- each part's orders, as they stand -/
def PRU (ch : Tx) (ps : List Pt) (c : List Ins) (po : Nat → Nat) (Z : St) : Prop := ∃ X8 : St, (∀ e k, 18 ≤ e → e < 52 → ¬ (e = 43 ∨ (29 ≤ e ∧ e ≤ 39)) → Z.1 e k = X8.1 e k) ∧ (∀ k kd, KD X8 k kd → KD Z k kd) ∧ ∀ k p, ps[k]? = some p → PRT X8 (nrp ch ps) c po k p.2.2.2.2.2 (pend ps c k)
section RUNU
variable {e f n m p1 N : Nat} {ch : Tx} {ps : List Pt} {told : Nat → Bool} {c : List Ins} {X Y Z : St} {lo po : Nat → Nat} {ks kt : List (List Int)} {q1 : Int32} {G : List JG × List Bool}
theorem CDP.runT (h : CDP X lo po) (hG : PGR X) : ∃ PTs, RUNC true X po PTs := by
  obtain ⟨h1, h2, _, _, h3, h4⟩ := h
  have e19 := ixc hG.1.2.2.1
  have h19 := hG.1.2.2.2
  refine runc_of hG (fun q hq => ?_) (fun q hq => ?_)
  · have := h3 q hq
    have := h2 q _ hq (Nat.le_refl _)
    omega
  · obtain ⟨e, a, b, c, -, PT, d1, d2, d3⟩ := code_ug hG h1 h2 h4 hq
    refine ⟨e, PT, 2, a, b, c, d1, d2, d3, Or.inr ⟨rfl, Or.inl ?_⟩⟩
    unfold okk
    exact if_pos rfl
theorem CDP.fr {L : List Nat} (h : CDP X lo po) (hF : Fr YR L X Y) (hl : 18 ∉ L ∧ 19 ∉ L ∧ 26 ∉ L) (hc : (4000 ∉ L ∧ 4600 ∉ L ∧ 4800 ∉ L ∧ 5000 ∉ L ∧ 5200 ∉ L ∧ 5400 ∉ L ∧ 5600 ∉ L ∧ 8000 ∉ L ∧ 8200 ∉ L ∧ 8400 ∉ L ∧ 9000 ∉ L ∧ 9200 ∉ L ∧ 9400 ∉ L ∧ 10200 ∉ L) ∧ 8800 ∉ L ∧ 3600 ∉ L ∧ 3000 ∉ L) : CDP Y lo po := by
  obtain ⟨h1, h2, h3, h4, h5, h6⟩ := h
  unfold CDP
  rw [hF.1 0 18 hl.1, hF.1 0 19 hl.2.1, hF.1 0 26 hl.2.2]
  exact ⟨h1, h2, h3, h4, h5, h6.fr hF hc⟩
theorem JUD.cdp (h : JUD X) : ∃ lo po, CDP X lo po := by
  obtain ⟨lo, po, -, a, b, p0, p26, c, d, -⟩ := h
  exact ⟨lo, po, a, b, p0, p26, c, d⟩
theorem ALLC.cdp (h : ALLC X) : ∃ lo po, CDP X lo po := by
  obtain ⟨lo, po, -, a, b, p0, p26, c, d, -⟩ := h
  exact ⟨lo, po, a, b, p0, p26, c, d⟩
theorem JM.allp (h : JM X) (c : ¬ (X.1 0 3).toInt = 0) : ALLP X ∧ (0 ≤ (X.1 0 18).toInt ∧ (X.1 0 18).toInt ≤ 40) ∧ 0 ≤ (X.1 0 19).toInt ∧ (X.1 0 19).toInt ≤ 3000 := by
  obtain ⟨⟨g1, g2, g3⟩, ⟨g4, g5, g6, g7⟩, gk, gt, gb⟩ := (h.2.1 c).1
  have hF : Fr YR [13, 15] (TX X) X := TX.fr.sy
  have hA : ALLP X := g3.2.1.ns g1 gt gk (hF.1 0 1 (by decide)) (hF.1 0 18 (by decide)) (hF.1 0 19 (by decide)) (fun i => ⟨hF.1 12 i (show (2400 : Nat) ∉ [13, 15] from by decide), hF.1 13 i (show (2600 : Nat) ∉ [13, 15] from by decide), hF.1 15 i (show (3000 : Nat) ∉ [13, 15] from by decide), hF.1 16 i (show (3200 : Nat) ∉ [13, 15] from by decide), hF.1 17 i (show (3400 : Nat) ∉ [13, 15] from by decide), hF.1 18 i (show (3600 : Nat) ∉ [13, 15] from by decide)⟩) (fun n lo hi i _ _ => ⟨hF.1 20 i (show (4000 : Nat) ∉ [13, 15] from by decide), hF.1 23 i (show (4600 : Nat) ∉ [13, 15] from by decide), hF.1 24 i (show (4800 : Nat) ∉ [13, 15] from by decide), hF.1 25 i (show (5000 : Nat) ∉ [13, 15] from by decide), Or.inr (hF.1 26 i (show (5200 : Nat) ∉ [13, 15] from by decide)), hF.1 27 i (show (5400 : Nat) ∉ [13, 15] from by decide), fun _ => hF.1 28 i (show (5600 : Nat) ∉ [13, 15] from by decide)⟩)
  have h19 : (X.1 0 19).toInt ≤ 3000 := by
    have := g3.2.2.1.1
    rw [TX.fr.1 0 19 (by decide)] at this
    exact this
  exact ⟨hA, ⟨g4, g5⟩, g6, h19⟩
theorem n_u31 (he : e = 2 ∨ e = 24) (h : JM X) (h3 : ¬ (X.1 0 3).toInt = 0) (hF : Fr YR [26, 27, 8000, 8200, 8400, 8600, 8800, 9000, 9200, 9400, 9600, 9800, 10000, 10200] X Z) (hk : KJq X ∧ KU X) (hC : CDP Z lo po) (hS : PRU ch ps c po Z) (e18 : (X.1 0 18).toInt = (ps.length : Int)) (e15 : ∀ k p, ps[k]? = some p → (X.1 15 k).toInt = (p.2.2.2.1.length : Int)) (hCP : CP7 e ch ps told c Y) (hT : TKS (e + 1) Y ks ∧ K9 <+: ks) (h6 : (Y.1 e 6).toInt = (c.length : Int)) (h2 : Y.1 e 2 = X.1 0 25) (hp40 : ps.length ≤ 40) (hcl : c.length ≤ 1000000) (hq : 0 ≤ q1.toInt ∧ q1.toInt ≤ 20000) : pw (f_runUntold_31 q1 Z) (fun z Z1 => ENDq true Z1 ∧ pw (g_Running_runAll e 55 (0 : Int32) q1 (wI Y 0 5 1)) (fun z' V1 => FNr ks z Z1 z' V1)) := by
  obtain ⟨hP, -⟩ := h.2.1 h3
  have hPG := hP.pgr
  obtain ⟨⟨g1, g2, g3⟩, g4, g5, g6, g7⟩ := hP
  unfold f_runUntold_31
  refine pw_let (pw_let ?_)
  have hG : Fr YR [39, 42] Z (wI (wI Z 0 39 q1) 0 42 0) := (Fr.rf.wI 0 39 _ (show (39 : Nat) ∈ [39, 42] from by decide)).wI 0 42 _ (show (42 : Nat) ∈ [39, 42] from by decide)
  have v42 : (wI (wI Z 0 39 q1) 0 42 0).1 0 42 = 0 := wI_at _ _ _ _
  have v39 : (wI (wI Z 0 39 q1) 0 42 0).1 0 39 = q1 := by rw [wI_ne _ 0 _ _ 0 _ (by decide), wI_at]
  have rZ : ∀ i k, ¬ (i = 0 ∧ (k = 39 ∨ k = 42)) → (wI (wI Z 0 39 q1) 0 42 0).1 i k = Z.1 i k := fun i k q => by rw [wI_ne _ _ _ _ _ _ (by omega), wI_ne _ _ _ _ _ _ (by omega)]
  obtain ⟨W, hW⟩ : ∃ W : St, wI (wI Z 0 39 q1) 0 42 0 = W := ⟨_, rfl⟩
  rw [hW] at hG v42 v39 rZ ⊢
  have hXW : Fr YR [26, 27, 39, 42, 8000, 8200, 8400, 8600, 8800, 9000, 9200, 9400, 9600, 9800, 10000, 10200] X W := (hF.mono (by decide)).tr hG (by decide)
  have hCW : CDP W lo po := hC.fr hG (by decide) (by decide)
  obtain ⟨PTs, hR⟩ := hCW.runT (hPG.fr hXW (by decide))
  have hK : KX X W := KX.fr hXW (by decide)
  have hKT : KX (TX X) W := g5.tr hK
  have hTW : KT W := g6.fr hXW (by decide)
  have hBW : PBD W := g7.pot (POT.fr g6 hXW (by decide))
  obtain ⟨m1, m2, m3⟩ := g3.2.2.2.2
  rw [TX.fr.1 0 25 (by decide)] at m1 m2 m3
  rw [TX.fr.1 0 18 (by decide)] at m2
  rw [TX.fr.1 15 _ (show (3000 : Nat) ∉ [13, 15] from by decide)] at m3
  have m4 : (X.1 15 (ix (X.1 0 25))).toInt = 0 := by
    have := (hPG.2.1 (ix (X.1 0 25)) (by rw [ixc m1]; exact m2)).1
    omega
  have z28 : W.1 0 28 = X.1 0 28 := hXW.1 0 28 (by decide)
  have z25 : W.1 0 25 = X.1 0 25 := hXW.1 0 25 (by decide)
  have z18 : W.1 0 18 = X.1 0 18 := hXW.1 0 18 (by decide)
  have z15 : ∀ k, W.1 15 k = X.1 15 k := fun k => hXW.1 15 k (show (3000 : Nat) ∉ [26, 27, 39, 42, 8000, 8200, 8400, 8600, 8800, 9000, 9200, 9400, 9600, 9800, 10000, 10200] from by decide)
  have kq : ∀ e k, (e = 0 ∧ (k = 13 ∨ k = 15)) ∨ e = 4 ∨ e = 5 ∨ e = 6 ∨ e = 9 → W.1 e k = X.1 e k := fun e k q => by
    rcases q with ⟨rfl, rfl | rfl⟩ | rfl | rfl | rfl | rfl
    · exact hXW.1 0 13 (by decide)
    · exact hXW.1 0 15 (by decide)
    · exact hXW.1 4 k (show (800 : Nat) ∉ [26, 27, 39, 42, 8000, 8200, 8400, 8600, 8800, 9000, 9200, 9400, 9600, 9800, 10000, 10200] from by decide)
    · exact hXW.1 5 k (show (1000 : Nat) ∉ [26, 27, 39, 42, 8000, 8200, 8400, 8600, 8800, 9000, 9200, 9400, 9600, 9800, 10000, 10200] from by decide)
    · exact hXW.1 6 k (show (1200 : Nat) ∉ [26, 27, 39, 42, 8000, 8200, 8400, 8600, 8800, 9000, 9200, 9400, 9600, 9800, 10000, 10200] from by decide)
    · exact hXW.1 9 k (show (1800 : Nat) ∉ [26, 27, 39, 42, 8000, 8200, 8400, 8600, 8800, 9000, 9200, 9400, 9600, 9800, 10000, 10200] from by decide)
  have kjW : KJq W := hk.1.cg (fun e k q => kq e k (by omega))
  have kuW : KU W := (KGq.of kq).2 hk.2
  have i18 : ix (W.1 0 18) = ps.length := ixn (by rw [z18]; exact e18)
  obtain ⟨X8, t1, t2, t3⟩ := hS
  obtain ⟨c1, c2, c3, c4, c5, hCO⟩ := hCW
  rw [i18] at hCO c4
  obtain ⟨mm, kt, ksP, a1, a2, _⟩ := hCP
  obtain ⟨V, hV⟩ : ∃ V : St, V = wI Y 0 5 1 := ⟨_, rfl⟩
  rw [← hV]
  have rV : ∀ i k, ¬ i = 0 → V.1 i k = Y.1 i k := fun i k q => by rw [hV, wI_ne _ _ _ _ _ _ (by omega)]
  have tV : TKS (e + 1) V ks := hT.1.cg (fun i k q1 q2 _ => rV i k (by omega))
  have hPR : PRm e W V := by
    refine ⟨by rw [z18]; omega, ?_, fun k hk => ?_⟩
    · have h1 := a2.2.2.1
      rw [rV e 1 (by omega), z18]
      exact Int32.toInt_inj.mp (h1.trans e18.symm)
    · rw [z18, e18] at hk
      have hk' : ps[k]? = some ps[k] := List.getElem?_eq_getElem (by omega)
      have h1 := (a2.1 k _ hk').1
      have h2 := e15 k _ hk'
      rw [rV (e + 13) k (by omega), z15 k]
      exact Int32.toInt_inj.mp (h1.trans h2.symm)
  have tW : ∀ k kd, KD Z k kd → KD W k kd := fun k kd hd => by
    have kz : KJq Z := hk.1.cg (fun e k q => by
      rcases q with ⟨rfl, rfl | rfl⟩ | rfl | rfl | rfl
      · exact hF.1 0 13 (by decide)
      · exact hF.1 0 15 (by decide)
      · exact hF.1 4 k (show (800 : Nat) ∉ [26, 27, 8000, 8200, 8400, 8600, 8800, 9000, 9200, 9400, 9600, 9800, 10000, 10200] from by decide)
      · exact hF.1 5 k (show (1000 : Nat) ∉ [26, 27, 8000, 8200, 8400, 8600, 8800, 9000, 9200, 9400, 9600, 9800, 10000, 10200] from by decide)
      · exact hF.1 6 k (show (1200 : Nat) ∉ [26, 27, 8000, 8200, 8400, 8600, 8800, 9000, 9200, 9400, 9600, 9800, 10000, 10200] from by decide))
    exact KDk.oj kz (KXq.of (fun e k q => rZ e k (by omega))) k kd hd
  obtain ⟨Wt, hST⟩ := stat_of (u := true) (X0 := W) (Y0 := V) (ks := ks) (e := e) kjW (fun q => Bool.noConfusion q) hcl (by rw [z18]; exact e18) (fun p hp => by
      obtain ⟨_, _, e', d1, d2, d3, d4⟩ := hCO p hp
      exact ⟨lo p, lo (p + 1), e', d1, d2, d3, d4⟩) t3 (fun e k q1 q2 q3 => (rZ e k (by omega)).trans (t1 e k q1 q2 q3)) (fun k kd q => tW k kd (t2 k kd q)) (fun i a ha => by
      obtain ⟨b1, b2, b3, b4, _⟩ := a1.1 i a ha
      rw [rV (e + 18) i (by omega), rV (e + 21) i (by omega), rV (e + 19) i (by omega)]
      exact ⟨b1, b2, b3, b4⟩) (fun k p hk => by rw [rV (e + 17) k (by omega)]; exact (a2.1 k p hk).2) (by rw [rV e 6 (by omega)]; exact h6) (fun q => Bool.noConfusion q)
  have main := n_start (u := true) (p3 := 0) (p4 := q1) (a1 := W.1 0 25) hST hTW (g2.kx hKT) hBW hR (by rw [v39]; exact hq) (by rw [z28]; have := h.1.2.2.2; omega) ⟨fun _ => by rw [v42]; decide, fun _ => rfl⟩ ⟨fun _ => by decide, fun _ => rfl⟩ (by rw [z25, z18]; exact ⟨m1, m2⟩) (by rw [z25, z15]; exact m4) kuW ⟨tV, hT.2⟩ hPR he (by rw [rV e 2 (by omega), z25]; exact h2) v39.symm
  exact pw_let (pw_bd main (fun z Z1 hz => pw_ret hz))
/-- what is kept where the table of kinds is cut -/
theorem RDk.txk (h : RDk X Z) (hl : (X.1 0 14).toInt ≤ (X.1 0 13).toInt ∧ (X.1 0 16).toInt ≤ (X.1 0 15).toInt) : RDk (TX X) (TX Z) := by
  obtain ⟨h1, h2, h3, h4⟩ := h
  have a13 : ∀ A : St, (TX A).1 0 13 = A.1 0 14 := fun A => by
    unfold TX
    rw [wI_ne _ _ _ _ _ _ (by omega), wI_at]
  have a15 : ∀ A : St, (TX A).1 0 15 = A.1 0 16 := fun A => by
    unfold TX
    rw [wI_at]
  refine ⟨fun e k q => ?_, h2, fun k hk => ?_, fun k hk => ?_⟩
  · by_cases z : e = 0 ∧ (k = 13 ∨ k = 15)
    · obtain ⟨rfl, rfl | rfl⟩ := z
      · rw [a13, a13]; exact h1 0 14 (by omega)
      · rw [a15, a15]; exact h1 0 16 (by omega)
    · rw [tx_ne z, tx_ne z]
      exact h1 e k q
  · rw [a13] at hk
    rw [tx_ne (by omega), tx_ne (by omega), tx_ne (by omega), tx_ne (by omega), tx_ne (by omega), tx_ne (by omega)]
    exact h3 k (by omega)
  · rw [a15] at hk
    rw [tx_ne (by omega), tx_ne (by omega)]
    exact h4 k (by omega)
theorem n_runU (he : e = 2 ∨ e = 24) (h : JM X) (h3 : ¬ (X.1 0 3).toInt = 0) (hk : KJq X ∧ KU X) (hG7 : PG7 ch n ps c told X) (hw : PWd ps ∧ ∀ a ∈ c, a.1 = 34 → WKd 40 a.2.2.2) (hj : ¬ (X.1 0 4).toInt = 0 → ∃ G, J10R ch ps c X (Sum.inl G)) (y3 : ¬ (Y.1 0 3).toInt = 0) (hCP : CP7 e ch ps told c Y) (hT : TOK (e + 1) Y) (r9 : Y.2.2 0 9 = e + 1) (h6 : (Y.1 e 6).toInt = (c.length : Int)) (h2 : Y.1 e 2 = X.1 0 25) (h00 : psx ps c 0 = 0) (hp40 : ps.length ≤ 40) (hcl : c.length ≤ 1000000) : pw (f_runUntold q1 X) (fun z Z1 => pw (g_Court_runUntold q1 Y) (fun z' V1 => z' = z ∧ RNQ X Y z Z1 V1)) := by
  obtain ⟨d1, d2, d3, ⟨d4, d5⟩, ⟨N, hRD⟩, d7⟩ := hG7
  have hRD : RDs ch n ps c N (TX X) := hRD
  obtain ⟨ks, hT⟩ := hT
  have t18 : (TX X).1 0 18 = X.1 0 18 := tx_ne (by omega)
  have e18 : (X.1 0 18).toInt = (ps.length : Int) := by rw [← t18]; exact hRD.2.1.1
  have e15 : ∀ k p, ps[k]? = some p → (X.1 15 k).toInt = (p.2.2.2.1.length : Int) := fun k p q => by
    have := (hRD.2.1.2 k p q).2.2
    rw [tx_ne (by omega)] at this
    exact this
  -- the class
  have cls : ∀ (Q : Int32 → St → Prop), (¬ (0 ≤ q1.toInt ∧ q1.toInt ≤ 20000) → Q (-1) Y) → (0 ≤ q1.toInt ∧ q1.toInt ≤ 20000 → pw (g_Running_runAll e 55 (0 : Int32) q1 (wI Y 0 5 1)) Q) → pw (g_Court_runUntold q1 Y) Q := by
    intro Q k1 k2
    unfold g_Court_runUntold
    refine pw_let (pw_neg y3 (pw_bd l_isFuel ?_))
    rintro r1 Y' ⟨rfl, hr⟩
    refine pw_ite (fun q => pw_ret (k1 ?_)) (fun q => ?_)
    · rcases hr with ⟨_, a⟩ | ⟨a, _⟩
      · omega
      · exact absurd q a
    · rcases hr with ⟨a, _⟩ | ⟨_, a, b⟩
      · exact absurd a q
      · refine pw_let (pw_ck (fun _ => pw_to (w := e) ?_ (pw_bd (k2 ⟨a, b⟩) (fun _ _ q => pw_ret q))))
        show Y'.2.2 0 9 - 1 = e
        rw [r9]
        rfl
  have fin : ∀ Z lo po, Fr YR [26, 27, 8000, 8200, 8400, 8600, 8800, 9000, 9200, 9400, 9600, 9800, 10000, 10200] X Z → CDP Z lo po → PRU ch ps c po Z → 0 ≤ q1.toInt ∧ q1.toInt ≤ 20000 → pw (f_runUntold_31 q1 Z) (fun z Z1 => pw (g_Court_runUntold q1 Y) (fun z' V1 => z' = z ∧ RNQ X Y z Z1 V1)) := by
    intro Z lo po hF hC hS hq
    refine pw_mono (n_u31 he h h3 hF hk hC hS e18 e15 hCP hT h6 h2 hp40 hcl hq) (fun z Z1 hz => ?_)
    exact cls _ (fun q => absurd hq q) (fun _ => pw_mono hz.2 (fun z' V1 q => ⟨q.1, Or.inr ⟨ks, true, hz.1, q.1 ▸ q⟩⟩))
  obtain ⟨hPM, -⟩ := h.2.1 h3
  unfold f_runUntold
  refine pw_let (pw_neg h3 (pw_bd (pw_ok (s_f_in _ _ _ _)) ?_))
  rintro r0 X' ⟨hF0, hin⟩
  obtain rfl : X = X' := (Fr.nil hF0).symm
  have hin : (r0.toInt = 1 ∧ 0 ≤ q1.toInt ∧ q1.toInt ≤ 20000) ∨ (r0.toInt = 0 ∧ (q1.toInt < 0 ∨ 20000 < q1.toInt)) := hin
  refine pw_ite (fun z => pw_ret (cls _ (fun _ => ⟨rfl, Or.inl ⟨rfl, rfl, rfl⟩⟩) (fun q => by omega))) (fun z => ?_)
  have hq : 0 ≤ q1.toInt ∧ q1.toInt ≤ 20000 := by omega
  refine pw_let (pw_ite (fun c4 => ?_) (fun c4 => ?_))
  · obtain ⟨hA, h18, h19⟩ := h.allp h3
    have gk := hPM.2.2.1
    refine pw_bd (pw_ok (t_f_compiles hA h18 h19)) ?_
    rintro r Z ⟨hZ, hC⟩
    have hZ : Fr YR [26, 27, 8000, 8200, 8400, 8600, 8800, 9000, 9200, 9400, 9600, 9800, 10000, 10200] X Z := hZ.mono (by decide)
    obtain ⟨lo, po, hCD⟩ := hC.cdp
    refine fin Z lo po hZ hCD ⟨TX Z, fun e k q1 q2 q3 => (tx_ne (by omega)).symm, ?_, ?_⟩ hq
    · have k13 : KXq (TX X) X := gk
      have q8 := RDk.txk (RDk.of hZ (by decide)).1 (by
        have a := gk.1
        have b := gk.2.1
        have a13 : (TX X).1 0 13 = X.1 0 14 := by unfold TX; rw [wI_ne _ _ _ _ _ _ (by omega), wI_at]
        have a15 : (TX X).1 0 15 = X.1 0 16 := by unfold TX; rw [wI_at]
        rw [a13] at a
        rw [a15] at b
        exact ⟨a, b⟩)
      have R8 := hRD.fr q8
      have gx : KXq (TX Z) Z := by
        have e13 : Z.1 0 13 = X.1 0 13 := hZ.1 0 13 (by decide)
        have e15 : Z.1 0 15 = X.1 0 15 := hZ.1 0 15 (by decide)
        have e14 : Z.1 0 14 = X.1 0 14 := hZ.1 0 14 (by decide)
        have e16 : Z.1 0 16 = X.1 0 16 := hZ.1 0 16 (by decide)
        have a13 : ∀ A : St, (TX A).1 0 13 = A.1 0 14 := fun A => by unfold TX; rw [wI_ne _ _ _ _ _ _ (by omega), wI_at]
        have a15 : ∀ A : St, (TX A).1 0 15 = A.1 0 16 := fun A => by unfold TX; rw [wI_at]
        have b13 := k13.1
        have b15 := k13.2.1
        rw [a13] at b13
        rw [a15] at b15
        refine ⟨by rw [a13, e14, e13]; exact b13, by rw [a15, e16, e15]; exact b15, fun k _ => ⟨(tx_ne (by omega)).symm, (tx_ne (by omega)).symm, (tx_ne (by omega)).symm⟩, fun k _ => (tx_ne (by omega)).symm⟩
      exact fun k kd q => KDk.oj R8.2.2.2.2.2.1 gx k kd q
    · have q8 := RDk.txk (RDk.of hZ (by decide)).1 (by
        have a := gk.1
        have b := gk.2.1
        have a13 : (TX X).1 0 13 = X.1 0 14 := by unfold TX; rw [wI_ne _ _ _ _ _ _ (by omega), wI_at]
        have a15 : (TX X).1 0 15 = X.1 0 16 := by unfold TX; rw [wI_at]
        rw [a13] at a
        rw [a15] at b
        exact ⟨a, b⟩)
      have R8 := hRD.fr q8
      have hCZ : CDP (TX Z) lo po := hCD.fr TX.fr (by decide) (by decide)
      have e18Z : ix ((TX Z).1 0 18) = ps.length := ixn R8.2.1.1
      obtain ⟨b1, b2, b3, b4, b5, b6⟩ := hCZ
      rw [e18Z] at b4 b6
      have hCD : CDq (TX Z) po ps.length := ⟨b3, fun p hp => by
        obtain ⟨q1, q2, e, q3, q4, q5, q6⟩ := b6 p hp
        exact ⟨q1, q2, lo p, lo (p + 1), e, q3, q4, q5, q6⟩⟩
      exact fun k p hk => ((R8.jpre (told := told) d5 hw.1 hw.2 (fun k hk => by rw [tx_ne (by omega), hZ.1 19 k (show (3800 : Nat) ∉ [26, 27, 8000, 8200, 8400, 8600, 8800, 9000, 9200, 9400, 9600, 9800, 10000, 10200] from by decide)]; exact d7 k hk) hp40 hCD b4).2 k p hk).1.1
  · obtain ⟨j1, j2, j3⟩ := h.2.2.2.1 c4
    obtain ⟨lo, po, hCD⟩ := j1.cdp
    obtain ⟨G, hJ⟩ := hj c4
    obtain ⟨X8, po8, ⟨s1, s2, s3, s4, s5⟩, ⟨t1, t2, t3, t4, t5, t6⟩, _⟩ : ∃ X8 po8, SRf ch ps c po8 X8 ∧ TBX X8 X ∧ G8R X G.1 ∧ LR (po8 ps.length) c G.1 X := by
      rcases hJ with ⟨G1, a, b, X8, po8, d1, d2, d3, d4⟩ | ⟨ff, a, b⟩
      · obtain rfl := Sum.inl.inj a
        exact ⟨X8, po8, d1, d2, d3, d4⟩
      · exact nomatch a
    have i18 : ix (X.1 0 18) = ps.length := ixn e18
    have hc2 := hCD
    obtain ⟨_, _, _, b4, _, b6⟩ := hc2
    rw [i18] at b4 b6
    have epo : ∀ p, p ≤ ps.length → po p = po8 p := by
      intro p hp
      by_cases z : p = ps.length
      · rw [z]
        have : (X.1 0 26).toInt = (po8 ps.length : Int) := by rw [t6]; exact s4
        omega
      · have a1 := (b6 p (by omega)).1
        have a2 := (s1.2 p (by omega)).1
        rw [t1 44 p (by omega)] at a1
        omega
    refine fin X lo po Fr.rf hCD ⟨X8, fun e k q1 q2 q3 => t1 e k (by omega), fun k kd q => KDk.oj s3 t4 k kd q, fun k p hk => ?_⟩ hq
    have hkl := (List.getElem?_eq_some_iff.mp hk).1
    exact (s2 k p hk).1.pq (epo k (by omega)) (epo (k + 1) (by omega))
end RUNU
