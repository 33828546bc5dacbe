/-! judging, running and reading, and the guards -/
/-- the reference's guards after a judge that ends so -/
def J8R (Y : St) (rr : Sum (List JG × List Bool) (Int × Int)) : Prop := (∃ G, rr = Sum.inl G ∧ ¬ (Y.1 0 4).toInt = 0 ∧ G8R Y G.1) ∨ ∃ f, rr = Sum.inr f ∧ (Y.1 0 4).toInt = 0
/-- the class's -/
def J8C (e : Nat) (Y : St) (rr : Sum (List JG × List Bool) (Int × Int)) : Prop := (∃ G, rr = Sum.inl G ∧ ¬ (Y.1 0 4).toInt = 0 ∧ G8C e Y G.1) ∨ ∃ f, rr = Sum.inr f ∧ (Y.1 0 4).toInt = 0
/-- what the reference's read leaves, where this program stood -/
def RD8 (ch : Tx) (ps : List Pt) (c : List Ins) (told : Nat → Bool) (X : St) (r : Int32) (Y : St) : Prop := (¬ r.toInt = -1 ∧ KVa True Y ∧ (Y.1 0 4).toInt = 0) ∨ (r.toInt = -1 ∧ ((X.1 0 3).toInt = 0 → (Y.1 0 18).toInt = 0) ∧ (¬ (X.1 0 3).toInt = 0 → KVa True Y ∧ ((X.1 0 4).toInt = 0 → (Y.1 0 4).toInt = 0) ∧ (¬ (X.1 0 4).toInt = 0 → ∃ rr, JALL ch ps told c ps.length 0 ([], []) rr ∧ J8R Y rr)))
def N9 : List Nat := [4, 28, 10400, 10600, 10800, 11000, 11200, 11400]
section RD8S
variable {e f w n N : Nat} {ch : Tx} {ps : List Pt} {told : Nat → Bool} {c : List Ins} {X Y Z W A : St} {po : Nat → Nat} {L : List Nat} {rr : Sum (List JG × List Bool) (Int × Int)} {P : Prop}
theorem pw_im {ρ : Type} {H : Prop} {B : Option (ρ × St)} {Q : ρ → St → Prop} (h : H → pw B Q) : pw B (fun r X => H → Q r X) := fun r X e k => h k r X e
theorem J8R.of {X8 : St} (h : RJf X8 Y rr) : J8R Y rr := by
  cases rr with
  | inl G =>
    have h : RG X8 Y G.1 ∧ (Y.1 0 4).toInt = 1 := h
    exact Or.inl ⟨G, rfl, by rw [h.2]; decide, h.1.2.2.1, h.1.2.2.2⟩
  | inr f =>
    have h : RJB X8 Y ∧ (Y.1 0 9).toInt = f.1 ∧ (Y.1 0 10).toInt = f.2 ∧ ¬ f.1 = 0 ∧ (Y.1 0 4).toInt = 0 := h
    exact Or.inr ⟨f, rfl, h.2.2.2.2⟩
theorem J8R.kp (h : J8R X rr) (hV : KVa P X) (g : R8k X Y) : J8R Y rr := by
  rcases h with ⟨G, a, b, d⟩ | ⟨ff, a, b⟩
  · exact Or.inl ⟨G, a, by rw [g.1]; exact b, d.kp hV g⟩
  · exact Or.inr ⟨ff, a, by rw [g.1]; exact b⟩
/-- the reference judges -/
theorem x_judge8 (hJ : JM X) (h3 : ¬ (X.1 0 3).toInt = 0) (hR : RDs ch n ps c N (TX X)) (hn : sNames ch ps c) (hW : PWd ps) (h34 : ∀ a ∈ c, a.1 = 34 → WKd 40 a.2.2.2) (hl : ps.length ≤ 40) (ht : ∀ k, k < ps.length → ((X.1 19 k).toInt = 0 ↔ ¬ told k = true)) (hV : KVa True X) : pw (f_judge X) (fun _ Y => ∃ rr, JALL ch ps told c ps.length 0 ([], []) rr ∧ J8R Y rr) := by
  unfold f_judge
  refine pw_let (pw_neg h3 (pw_bd (pw_and (x_judges7 (hJ.2.1 h3).1 hR hn hW h34 hl ht) (v_judges hV)) ?_))
  rintro _ X2 ⟨⟨X8, rr, q1, q2⟩, v2⟩
  refine pw_eq (fun x3 e3 => pw_eq (fun X4 e4 => pw_eq (fun x5 e5 => pw_eq (fun X6 e6 => ?_))))
  have r6 : ∀ i k, ¬ (i = 0 ∧ (k = 11 ∨ k = 12)) → X6.1 i k = X2.1 i k := fun i k z => by rw [e6, wI_ne _ _ _ _ _ _ (by omega), e4, wI_ne _ _ _ _ _ _ (by omega)]
  have g6 : R8k X2 X6 := by
    refine ⟨r6 0 4 (by omega), r6 0 28 (by omega), fun i k q => r6 i k (by omega), ?_, ?_, fun k _ => ⟨r6 4 k (by omega), r6 5 k (by omega), r6 6 k (by omega)⟩, fun k _ => r6 9 k (by omega)⟩
    · rw [r6 0 13 (by omega)]; exact Int.le_refl _
    · rw [r6 0 15 (by omega)]; exact Int.le_refl _
  have fin : ∃ rr, JALL ch ps told c ps.length 0 ([], []) rr ∧ J8R X6 rr := ⟨rr, q1, (J8R.of q2).kp v2 g6⟩
  exact pw_let (pw_ite (fun _ => pw_ret fin) (fun _ => pw_let (pw_ret fin)))
/-- runs of the reference -/
theorem R8k.of (hF : Fr YR L X Y) (hl : ∀ x ∈ N9, x ∉ L) (hK : KX X Y) : R8k X Y := by
  have n : ∀ x, x ∈ N9 → x ∉ L := fun x hx => hl x hx
  obtain ⟨k1, k2, k3, k4⟩ := hK
  refine ⟨hF.1 0 4 (show (4 : Nat) ∉ L from n _ (by decide)), hF.1 0 28 (show (28 : Nat) ∉ L from n _ (by decide)), fun i k q => ?_, k1, k2, k3, k4⟩
  have cs : i = 52 ∨ i = 53 ∨ i = 54 ∨ i = 55 ∨ i = 56 ∨ i = 57 := by omega
  rcases cs with z | z | z | z | z | z
  · subst z; exact hF.1 52 k (show (10400 : Nat) ∉ L from n _ (by decide))
  · subst z; exact hF.1 53 k (show (10600 : Nat) ∉ L from n _ (by decide))
  · subst z; exact hF.1 54 k (show (10800 : Nat) ∉ L from n _ (by decide))
  · subst z; exact hF.1 55 k (show (11000 : Nat) ∉ L from n _ (by decide))
  · subst z; exact hF.1 56 k (show (11200 : Nat) ∉ L from n _ (by decide))
  · subst z; exact hF.1 57 k (show (11400 : Nat) ∉ L from n _ (by decide))
theorem k_go8 {u : Bool} (h : JM X) (h3 : ¬ (X.1 0 3).toInt = 0) (hF : Fr YR [26, 27, 39, 42, 8000, 8200, 8400, 8600, 8800, 9000, 9200, 9400, 9600, 9800, 10000, 10200] X Z) (hR : ∃ po PTs, RUNC u Z po PTs) (h39 : 0 ≤ (Z.1 0 39).toInt ∧ (Z.1 0 39).toInt ≤ 20000) (h42 : u = true ↔ (Z.1 0 42).toInt = 0) : pw (f_starts (Z.1 0 25) Z) (fun _ Y => R8k X Y) := by
  obtain ⟨po, PTs, hR⟩ := hR
  obtain ⟨⟨⟨g1, g2, g3⟩, g4, g5, g6, g7⟩, -⟩ := h.2.1 h3
  have hK : KX X Z := KX.fr hF (by decide)
  have hKT : KX (TX X) Z := g5.tr hK
  have hTZ : KT Z := g6.fr hF (by decide)
  obtain ⟨m1, m2, m3⟩ := g3.2.2.2.2
  rw [TX.fr.1 0 25 (by decide)] at m1 m2 m3
  rw [TX.fr.1 0 18 (by decide)] at m2
  rw [TX.fr.1 15 _ (show (3000 : Nat) ∉ [13, 15] from by decide)] at m3
  have z28 : Z.1 0 28 = X.1 0 28 := hF.1 0 28 (by decide)
  have z25 : Z.1 0 25 = X.1 0 25 := hF.1 0 25 (by decide)
  have z18 : Z.1 0 18 = X.1 0 18 := hF.1 0 18 (by decide)
  refine pw_mono (pw_ok (r_starts (u := u) hTZ (g2.kx hKT) (g7.pot (POT.fr g6 hF (by decide))) hR h39 (by rw [z28]; have := h.1.2.2.2; omega) h42 (by rw [z25, z18]; exact ⟨m1, m2⟩) (by rw [z25, hF.1 15 _ (show (3000 : Nat) ∉ [26, 27, 39, 42, 8000, 8200, 8400, 8600, 8800, 9000, 9200, 9400, 9600, 9800, 10000, 10200] from by decide)]; exact m3))) ?_
  rintro r Y ⟨p1, p2, p3⟩
  have hXY : Fr YR [13, 15, 26, 27, 31, 32, 33, 34, 35, 36, 37, 38, 39, 40, 41, 42, 43, 44, 45, 46, 800, 1000, 1200, 1400, 1600, 1800, 2000, 8000, 8200, 8400, 8600, 8800, 9000, 9200, 9400, 9600, 9800, 10000, 10200, 12000, 12200, 12400, 12600, 12800, 13000, 13200, 13400, 13600, 13800, 14000, 14200, 14400, 14600, 14800, 15000, 15200, 15400, 15600, 15800, 16000, 16200] X Y := (hF.mono (by decide)).tr p1.1 (by decide)
  exact R8k.of hXY (by decide) (hK.tr p1.2.2.1)
theorem k_run8 (h : JM X) (p1 : Int32) : pw (f_run p1 X) (fun _ Y => R8k X Y) := by
  unfold f_run
  refine pw_let (pw_ite (fun _ => pw_ret R8k.rf) (fun c => pw_bd (pw_ok (s_f_in _ _ _ _)) ?_))
  rintro r0 X' ⟨hF0, hin⟩
  obtain rfl : X = X' := (Fr.nil hF0).symm
  have hin : (r0.toInt = 1 ∧ 0 ≤ p1.toInt ∧ p1.toInt ≤ 20000) ∨ (r0.toInt = 0 ∧ (p1.toInt < 0 ∨ 20000 < p1.toInt)) := hin
  refine pw_ite (fun _ => pw_ret R8k.rf) (fun c2 => pw_let (pw_let ?_))
  have h3 : ¬ (X.1 0 3).toInt = 0 := fun q => c (h.2.2.1 q).1
  obtain ⟨j1, j2, j3⟩ := h.2.2.2.1 c
  have hF : Fr YR [39, 42] X (wI (wI X 0 39 p1) 0 42 1) := (Fr.rf.wI 0 39 _ (show (39 : Nat) ∈ [39, 42] from by decide)).wI 0 42 _ (show (42 : Nat) ∈ [39, 42] from by decide)
  have v42 : (wI (wI X 0 39 p1) 0 42 1).1 0 42 = 1 := wI_at _ _ _ _
  have v39 : (wI (wI X 0 39 p1) 0 42 1).1 0 39 = p1 := by rw [wI_ne _ 0 _ _ 0 _ (by decide), wI_at]
  obtain ⟨Z, hZ⟩ : ∃ Z : St, wI (wI X 0 39 p1) 0 42 1 = Z := ⟨_, rfl⟩
  rw [hZ] at hF v42 v39 ⊢
  have hP := (h.2.1 h3).1
  have hK : KX X Z := KX.fr hF (by decide)
  have hJZ : JUD Z := j1.to hP.2.2.2.1 hF hK (by decide) (by decide) (by decide)
  exact pw_let (pw_bd (k_go8 (u := false) h h3 (hF.mono (by decide)) (hJZ.run (hP.1.2.1.kx (hP.2.2.1.tr hK)) (hP.pgr.fr hF (by decide))) (by rw [v39]; omega) (by rw [v42]; decide)) (fun _ Y hY => pw_ret hY))
theorem k_untold8 {p1 : Int32} (h : JM X) (h3 : ¬ (X.1 0 3).toInt = 0) (hp : 0 ≤ p1.toInt ∧ p1.toInt ≤ 20000) (hF : Fr YR [26, 27, 39, 42, 8000, 8200, 8400, 8600, 8800, 9000, 9200, 9400, 9600, 9800, 10000, 10200] X Z) (hC : CODP Z) : pw (f_runUntold_31 p1 Z) (fun _ Y => R8k X Y) := by
  have hP := (h.2.1 h3).1
  unfold f_runUntold_31
  refine pw_let (pw_let ?_)
  have hG : Fr YR [39, 42] Z (wI (wI Z 0 39 p1) 0 42 0) := (Fr.rf.wI 0 39 _ (show (39 : Nat) ∈ [39, 42] from by decide)).wI 0 42 _ (show (42 : Nat) ∈ [39, 42] from by decide)
  have v42 : (wI (wI Z 0 39 p1) 0 42 0).1 0 42 = 0 := wI_at _ _ _ _
  have v39 : (wI (wI Z 0 39 p1) 0 42 0).1 0 39 = p1 := by rw [wI_ne _ 0 _ _ 0 _ (by decide), wI_at]
  obtain ⟨W, hW⟩ : ∃ W : St, wI (wI Z 0 39 p1) 0 42 0 = W := ⟨_, rfl⟩
  rw [hW] at hG v42 v39 ⊢
  have hXW : Fr YR [26, 27, 39, 42, 8000, 8200, 8400, 8600, 8800, 9000, 9200, 9400, 9600, 9800, 10000, 10200] X W := hF.tr hG (by decide)
  have hCW : CODP W := by
    obtain ⟨lo, po, a, b, c, d⟩ := hC
    unfold CODP
    rw [hG.1 0 18 (by decide), hG.1 0 19 (by decide)]
    exact ⟨lo, po, a, b, c, d.fr hG (by decide)⟩
  exact pw_let (pw_bd (k_go8 (u := true) h h3 hXW (hCW.run (hP.pgr.fr hXW (by decide))) (by rw [v39]; exact hp) (by rw [v42]; decide)) (fun _ Y hY => pw_ret hY))
theorem k_runUntold8 (h : JM X) (p1 : Int32) : pw (f_runUntold p1 X) (fun _ Y => R8k X Y) := by
  unfold f_runUntold
  refine pw_let (pw_ite (fun _ => pw_ret R8k.rf) (fun c => pw_bd (pw_ok (s_f_in _ _ _ _)) ?_))
  rintro r0 X' ⟨hF0, hin⟩
  obtain rfl : X = X' := (Fr.nil hF0).symm
  have hin : (r0.toInt = 1 ∧ 0 ≤ p1.toInt ∧ p1.toInt ≤ 20000) ∨ (r0.toInt = 0 ∧ (p1.toInt < 0 ∨ 20000 < p1.toInt)) := hin
  refine pw_ite (fun _ => pw_ret R8k.rf) (fun c2 => pw_let (pw_ite (fun c4 => ?_) (fun c4 => ?_)))
  · obtain ⟨⟨g1, g2, g3⟩, ⟨g4, g5, g6, g7⟩, gk, gt, gb⟩ := (h.2.1 c).1
    have hF : Fr YR [13, 15] (TX X) X := TX.fr.sy
    have hA : ALLP X := g3.2.1.ns g1 gt gk (hF.1 0 1 (by decide)) (hF.1 0 18 (by decide)) (hF.1 0 19 (by decide)) (fun i => ⟨hF.1 12 i (show (2400 : Nat) ∉ [13, 15] from by decide), hF.1 13 i (show (2600 : Nat) ∉ [13, 15] from by decide), hF.1 15 i (show (3000 : Nat) ∉ [13, 15] from by decide), hF.1 16 i (show (3200 : Nat) ∉ [13, 15] from by decide), hF.1 17 i (show (3400 : Nat) ∉ [13, 15] from by decide), hF.1 18 i (show (3600 : Nat) ∉ [13, 15] from by decide)⟩) (fun n lo hi i _ _ => ⟨hF.1 20 i (show (4000 : Nat) ∉ [13, 15] from by decide), hF.1 23 i (show (4600 : Nat) ∉ [13, 15] from by decide), hF.1 24 i (show (4800 : Nat) ∉ [13, 15] from by decide), hF.1 25 i (show (5000 : Nat) ∉ [13, 15] from by decide), Or.inr (hF.1 26 i (show (5200 : Nat) ∉ [13, 15] from by decide)), hF.1 27 i (show (5400 : Nat) ∉ [13, 15] from by decide), fun _ => hF.1 28 i (show (5600 : Nat) ∉ [13, 15] from by decide)⟩)
    have h19 : (X.1 0 19).toInt ≤ 3000 := by
      have := g3.2.2.1.1
      rw [TX.fr.1 0 19 (by decide)] at this
      exact this
    refine pw_bd (pw_ok (t_f_compiles hA ⟨g4, g5⟩ ⟨g6, h19⟩)) ?_
    rintro r Z ⟨hZ, hC⟩
    exact k_untold8 h c (by omega) (hZ.mono (by decide)) hC.codp
  · obtain ⟨j1, j2, j3⟩ := h.2.2.2.1 c4
    exact k_untold8 h c (by omega) Fr.rf j1.codp
/-- the former text is read and judged again -/
theorem rd_169d (hT : TXT ch n) (hb : ∀ i, i < n → BY (vp_nar .byte (A.1 3 i)) (ch i)) (hs : sParts ch 41 [] 0 [] = some (ps, c)) (hsn : sNames ch ps c) (hW : PWd ps) (h34 : ∀ a ∈ c, a.1 = 34 → WKd 40 a.2.2.2) (hl : ps.length ≤ 40) (ht : ∀ k, k < ps.length → ((A.1 19 k).toInt = 0 ↔ ¬ told k = true)) : ∀ (M i : Nat) (a b : Int32) (Z : St), b.toInt = (i : Int) → i ≤ n → (Z.1 0 1).toInt = (n : Int) → (Z.1 3 = A.1 3 ∧ Z.1 19 = A.1 19) → (∀ k, k < i → Z.1 2 k = vp_nar .byte (A.1 3 k)) → pw (f_read_169 M a b Z) (fun r Y => r = (-1 : Int32) ∧ KVa True Y ∧ (a.toInt = 0 → (Y.1 0 4).toInt = 0) ∧ (¬ a.toInt = 0 → ∃ rr, JALL ch ps told c ps.length 0 ([], []) rr ∧ J8R Y rr)) := by
  have l1 : (Int32.ofInt 1).toInt = 1 := by decide
  have hn := hT.1
  intro M
  induction M with
  | zero => exact fun _ _ _ _ _ _ _ _ _ => pw_none
  | succ M ih =>
    intro i a b Z hbi hi h1 hz hB
    have e : f_read_169 (M + 1) = f_read_169_s (f_read_169 M) := by
      unfold f_read_169
      exact lp_succ _ _ _
    rw [e]
    unfold f_read_169_s
    refine pw_let (pw_ite (fun cz => ?_) (fun cz => ?_))
    · have T : TXR ch n Z := ⟨hT, h1, fun k hk => by rw [hB k (by omega)]; exact hb k hk⟩
      refine pw_bd (pw_and (pw_and (pw_and (x_reads7 T) fw_reads) v_reads) (pw_ok (m_reads ⟨by omega, by omega⟩))) ?_
      rintro r17 X17 ⟨⟨⟨h17, f17⟩, v17⟩, ⟨_, _, m17, z17⟩⟩
      have k19 : X17.1 19 = A.1 19 := (funext (fun k => f17.1 19 k (fr56 (by omega)))).trans hz.2
      have w17 : (X17.1 0 9).toInt = 0 ∧ ∃ N, RDs ch n ps c N X17 := by
        rcases h17 with ⟨ps1, c1, g1, g2, g3, g4⟩ | ⟨g1, _⟩
        · rw [hs] at g1
          have e1 := Option.some.inj g1
          have p1 : ps = ps1 := congrArg Prod.fst e1
          have p2 : c = c1 := congrArg Prod.snd e1
          rw [← p1, ← p2] at g4
          exact ⟨g3, g4⟩
        · exact absurd hsn (g1 ps c hs)
      obtain ⟨h9, N, hR⟩ := w17
      refine pw_ite (fun c0 => pw_ret ⟨rfl, v17, fun _ => z17, fun z => absurd c0 z⟩) (fun c0 => ?_)
      have hR2 : RDs ch n ps c N (TX X17) := hR.tx7 (fun _ _ _ => rfl) rfl
      refine pw_bd (pw_and (x_judges7 (told := told) (m17.pgm h9) hR2 hsn hW h34 hl (fun k hk => by rw [k19]; exact ht k hk)) (v_judges v17)) ?_
      rintro _ X18 ⟨⟨X8, rr, q1, q2⟩, v18⟩
      exact pw_ret ⟨rfl, v18, fun z => absurd z c0, fun _ => ⟨rr, q1, J8R.of q2⟩⟩
    · refine pw_ck (fun _ => pw_let ?_)
      rw [ixn hbi]
      refine pw_ck (fun _ => pw_eq (fun X20 e20 => pw_let ?_))
      have stepv : (b + Int32.ofInt 1).toInt = ((i + 1 : Nat) : Int) := by rw [ti_add (by rw [hbi, l1]; omega) (by rw [hbi, l1]; omega), hbi, l1]; omega
      have r20 : ∀ e k, ¬ e = 2 → X20.1 e k = Z.1 e k := fun e k he => by rw [e20, wI_ne _ _ _ _ _ _ (by omega)]
      refine ih (i + 1) a _ X20 stepv (by omega) (by rw [r20 0 1 (by omega)]; exact h1) ⟨(funext (fun k => r20 3 k (by omega))).trans hz.1, (funext (fun k => r20 19 k (by omega))).trans hz.2⟩ (fun k hk => ?_)
      by_cases ek : k = i
      · rw [ek, e20, wI_at, hz.1]
      · rw [e20, wI_ne _ _ _ _ _ _ (by omega)]
        exact hB k (by omega)
theorem r116_8 : ∀ (M : Nat) (a : Int32) (Z : St), pw (f_read_116 M a Z) (fun r Y => r = Z.1 0 18 ∧ Y.1 0 4 = Z.1 0 4) := by
  intro M
  induction M with
  | zero => exact fun _ _ => pw_none
  | succ M ih =>
    intro a Z
    have e : f_read_116 (M + 1) = f_read_116_s (f_read_116 M) := by
      unfold f_read_116
      exact lp_succ _ _ _
    rw [e]
    unfold f_read_116_s
    refine pw_let (pw_ite (fun _ => ?_) (fun _ => ?_))
    · refine pw_eq (fun X27 e27 => pw_eq (fun x28 e28 => pw_ret ⟨?_, ?_⟩))
      · rw [e28, e27, wI_ne _ _ _ _ _ _ (by omega)]
      · rw [e27, wI_ne _ _ _ _ _ _ (by omega)]
    · refine pw_ck (fun _ => pw_eq (fun X29 e29 => pw_let (pw_mono (ih _ X29) ?_)))
      rintro r Y ⟨a1, a2⟩
      refine ⟨a1.trans ?_, a2.trans ?_⟩
      · rw [e29, wI_ne _ _ _ _ _ _ (by omega)]
      · rw [e29, wI_ne _ _ _ _ _ _ (by omega)]
theorem r88_8 : ∀ (M : Nat) (a : Int32) (Z : St), pw (f_read_88 M a Z) (fun r Y => r = Z.1 0 18 ∧ Y.1 0 4 = Z.1 0 4) := by
  intro M
  induction M with
  | zero => exact fun _ _ => pw_none
  | succ M ih =>
    intro a Z
    have e : f_read_88 (M + 1) = f_read_88_s (f_read_88 M) := by
      unfold f_read_88
      exact lp_succ _ _ _
    rw [e]
    unfold f_read_88_s
    refine pw_let (pw_ite (fun _ => r116_8 BIG _ Z) (fun _ => ?_))
    refine pw_ck (fun _ => pw_let (pw_ck (fun _ => pw_eq (fun X32 e32 => pw_let (pw_mono (ih _ X32) ?_)))))
    rintro r Y ⟨a1, a2⟩
    refine ⟨a1.trans ?_, a2.trans ?_⟩
    · rw [e32, wI_ne _ _ _ _ _ _ (by omega)]
    · rw [e32, wI_ne _ _ _ _ _ _ (by omega)]
theorem x_read8 (h0 : 0 ≤ (X.1 0 0).toInt ∧ (X.1 0 0).toInt ≤ 3000) (hX : ¬ (X.1 0 3).toInt = 0 → (∃ n, PG7 ch n ps c told X) ∧ (PWd ps ∧ ∀ a ∈ c, a.1 = 34 → WKd 40 a.2.2.2) ∧ ps.length ≤ 40) : pw (f_read X) (fun r Y => RD8 ch ps c told X r Y) := by
  have l1 : (Int32.ofInt 1).toInt = 1 := by decide
  have lm : (-1 : Int32).toInt = -1 := by decide
  have loop : ∀ (M : Nat) (a : Int32) (Z : St), (∀ k, Z.1 0 k = X.1 0 k ∨ k = 1) → Z.1 0 1 = X.1 0 0 → (∀ e k, e = 3 ∨ e = 19 → Z.1 e k = X.1 e k) → pw (f_read_10 M a Z) (fun r Y => RD8 ch ps c told X r Y) := by
    intro M
    induction M with
    | zero => exact fun _ _ _ _ _ => pw_none
    | succ M ih =>
      intro a Z hz h1 hr
      have e : f_read_10 (M + 1) = f_read_10_s (f_read_10 M) := by
        unfold f_read_10
        exact lp_succ _ _ _
      rw [e]
      unfold f_read_10_s
      refine pw_let (pw_ite (fun c => ?_) (fun c => ?_))
      · refine pw_eq (fun X4 e4 => pw_let ?_)
        have r4 : ∀ e k, ¬ (e = 0 ∧ k = 0) → X4.1 e k = Z.1 e k := fun e k he => by rw [e4, wI_ne _ _ _ _ _ _ (by omega)]
        have q4 : X4.1 0 4 = X.1 0 4 := (r4 0 4 (by omega)).trans ((hz 4).resolve_right (by omega))
        refine pw_bd (pw_and (pw_and v_reads fw_reads) (pw_ok (m_reads (X := X4) (by rw [r4 0 1 (by omega), h1]; exact h0)))) ?_
        rintro _ X6 ⟨⟨v6, f6⟩, ⟨_, _, m6, z6⟩⟩
        have q2 : X6.1 0 2 = X.1 0 2 := (f6.1 0 2 (fr56 (by omega))).trans ((r4 0 2 (by omega)).trans ((hz 2).resolve_right (by omega)))
        have q3 : X6.1 0 3 = X.1 0 3 := (f6.1 0 3 (fr56 (by omega))).trans ((r4 0 3 (by omega)).trans ((hz 3).resolve_right (by omega)))
        have w3 : ∀ k, X6.1 3 k = X.1 3 k := fun k => (f6.1 3 k (fr56 (by omega))).trans ((r4 3 k (by omega)).trans (hr 3 k (by omega)))
        have w19 : ∀ k, X6.1 19 k = X.1 19 k := fun k => (f6.1 19 k (fr56 (by omega))).trans ((r4 19 k (by omega)).trans (hr 19 k (by omega)))
        refine pw_let (pw_eq (fun X8 e8 => pw_let (pw_eq (fun X10 e10 => pw_let ?_))))
        have r10 : ∀ e k, ¬ (e = 0 ∧ (k = 11 ∨ k = 12)) → X10.1 e k = X6.1 e k := fun e k he => by rw [e10, wI_ne _ _ _ _ _ _ (by omega), e8, wI_ne _ _ _ _ _ _ (by omega)]
        have v10 : KVa True X10 := by
          rw [e10, e8]
          exact KVa_w (KVa_w v6 (by omega)) (by omega)
        refine pw_ite (fun c9 => pw_eq (fun X22 e22 => pw_let (pw_eq (fun X24 e24 => ?_)))) (fun c9 => ?_)
        · have r24 : ∀ e k, ¬ (e = 0 ∧ (k = 2 ∨ k = 3 ∨ k = 11 ∨ k = 12)) → X24.1 e k = X6.1 e k := fun e k he => by rw [e24, wI_ne _ _ _ _ _ _ (by omega), e22, wI_ne _ _ _ _ _ _ (by omega), r10 e k (by omega)]
          have v24 : KVa True X24 := by
            rw [e24, e22]
            exact KVa_w (KVa_w v10 (by omega)) (by omega)
          refine pw_mono (pw_and (r88_8 BIG (0 : Int32) X24) (vkr_read_88 BIG (0 : Int32) X24 v24)) ?_
          rintro r Y ⟨⟨er, y4⟩, vY⟩
          refine Or.inl ⟨?_, vY, by rw [y4, r24 0 4 (by omega)]; exact z6⟩
          rw [er, r24 0 18 (by omega)]
          have := m6.2.2.1.1
          omega
        · refine pw_eq (fun X12 e12 => pw_let ?_)
          have r12 : ∀ e k, ¬ (e = 0 ∧ (k = 11 ∨ k = 12 ∨ k = 18)) → X12.1 e k = X6.1 e k := fun e k he => by rw [e12, wI_ne _ _ _ _ _ _ (by omega)]; exact r10 e k (by omega)
          have b3 : X12.1 0 3 = X.1 0 3 := (r12 0 3 (by omega)).trans q3
          refine pw_ite (fun c3 => pw_ret (Or.inr ⟨lm, fun _ => by rw [e12, wI_at]; decide, fun z => absurd (by rw [← b3]; exact c3) z⟩)) (fun c3 => ?_)
          rw [b3] at c3
          obtain ⟨⟨n, t1, t2, t3, ⟨t4, t5⟩, _, t7⟩, ⟨t8, t9⟩, t10⟩ := hX c3
          refine pw_let (pw_eq (fun X15 e15 => ?_))
          have r15 : ∀ e k, ¬ (e = 0 ∧ (k = 1 ∨ k = 11 ∨ k = 12 ∨ k = 18)) → X15.1 e k = X6.1 e k := fun e k he => by rw [e15, wI_ne _ _ _ _ _ _ (by omega)]; exact r12 e k (by omega)
          have d1 : (X15.1 0 1).toInt = (n : Int) := by rw [e15, wI_at, r12 0 2 (by omega), q2]; exact t2
          refine pw_mono (rd_169d (A := X15) (told := told) t1 (fun i hi => by rw [r15 3 i (by omega), w3]; exact t3 i hi) t4 t5 t8 t9 t10 (fun k hk => by rw [r15 19 k (by omega), w19]; exact t7 k hk) BIG 0 _ 0 X15 (by decide) (Nat.zero_le _) d1 ⟨rfl, rfl⟩ (fun k hk => absurd hk (Nat.not_lt_zero _))) ?_
          rintro r Y ⟨er, vY, y0, y1⟩
          rw [q4] at y0 y1
          exact Or.inr ⟨by rw [er]; exact lm, fun z => absurd z c3, fun _ => ⟨vY, y0, y1⟩⟩
      · refine pw_ck (fun _ => pw_let (pw_ck (fun _ => pw_eq (fun X35 e35 => pw_let ?_))))
        exact ih _ X35 (fun k => by rw [e35, wI_ne _ _ _ _ _ _ (by omega)]; exact hz k) (by rw [e35, wI_ne _ _ _ _ _ _ (by omega)]; exact h1) (fun e k he => by rw [e35, wI_ne _ _ _ _ _ _ (by omega)]; exact hr e k he)
  unfold f_read
  refine pw_let (pw_eq (fun X2 e2 => ?_))
  refine loop BIG 0 X2 (fun k => ?_) (by rw [e2, wI_at]) (fun e k he => by rw [e2, wI_ne _ _ _ _ _ _ (by omega)])
  by_cases ek : k = 1
  · exact Or.inr ek
  · exact Or.inl (by rw [e2, wI_ne _ _ _ _ _ _ (by omega)])
/-- the class judges -/
theorem l_judge8 (he : (e = 2 ∧ f = 24) ∨ (e = 24 ∧ f = 2)) (r9 : X.2.2 0 9 = e + 1) (h3 : ¬ (X.1 0 3).toInt = 0) (hP : CP7 e ch ps told c X) (hC : CPC ch W ps c po) (hb0 : wks 0 c ≤ 3000) (hb1 : wks 1 c ≤ 3000) : pw (g_Court_judge X) (fun _ Y => ∃ rr, JALL ch ps told c ps.length 0 ([], []) rr ∧ J8C e Y rr) := by
  have he2 : e = 2 ∨ e = 24 := by omega
  obtain ⟨m, kt, ksP, a1, a2, ⟨c1, c2, c3, c4, c5⟩, ⟨d1, d2⟩, g⟩ := hP
  have hml : m ≤ ksP.length := by rw [← c3]; exact c2.length_le
  have hkt : kt = ksP.take m := by
    obtain ⟨l, hl⟩ := c2
    rw [← hl, ← c3, List.take_left]
  unfold g_Court_judge
  refine pw_eq (fun X1 e1 => pw_eq (fun X2 e2 => pw_eq (fun X3 e3 => pw_eq (fun x4 e4 => ?_))))
  have r3 : ∀ i k, ¬ i = 0 → X3.1 i k = X.1 i k := fun i k z => by rw [e3, wI_ne _ _ _ _ _ _ (by omega), e2, wI_ne _ _ _ _ _ _ (by omega), e1, wI_ne _ _ _ _ _ _ (by omega)]
  have s3 : X3.2 = X.2 := by rw [e3, e2, e1]; rfl
  have k3 : X3.1 0 3 = X.1 0 3 := by rw [e3, wI_ne _ _ _ _ _ _ (by omega), e2, wI_ne _ _ _ _ _ _ (by omega), e1, wI_ne _ _ _ _ _ _ (by omega)]
  have a13 : CPRr e ch X3 ps told c kt := by
    obtain ⟨y1, y2, y3⟩ := a1
    exact ⟨fun i a ha => by rw [r3 (e + 18) _ (by omega), r3 (e + 21) _ (by omega), r3 (e + 19) _ (by omega)]; exact y1 i a ha, fun k hk => by rw [r3 _ _ (by omega)]; exact y2 k hk, y3⟩
  have a23 : CPP e X3 ps c kt := by
    obtain ⟨b1, b2, b3, b4⟩ := a2
    refine ⟨fun k p hk => ?_, by rw [r3 _ _ (by omega)]; exact b2, by rw [r3 _ _ (by omega)]; exact b3, fun k p hk => ?_⟩
    · rw [r3 (e + 13) _ (by omega), r3 (e + 17) _ (by omega)]
      exact b1 k p hk
    · obtain ⟨q1, q2⟩ := b4 k p hk
      exact ⟨fun i hi => by rw [r3 (e + 14) _ (by omega)]; exact q1 i hi, by rw [r3 (e + 15) _ (by omega)]; exact q2⟩
  refine pw_neg (by rw [e4, k3]; exact h3) (pw_ck (fun _ => pw_to (w := e) (by rw [s3, r9]; rfl) (pw_bd (l_judgeAll (W := W) (m := m) (ksP := ksP) he2 a13 a23 hC (c1.cg (fun j k q1 q2 _ => r3 j k (by omega))) hkt (by rw [r3 e 5 (by omega)]; exact c4) c5 hml d1 d2 hb0 hb1 g) ?_)))
  rintro _ X6 ⟨X4, q1, q2, q3, rr, ks1, y1, y2, y3⟩
  rw [Nat.sub_zero] at y1
  refine pw_eq (fun x7 e7 => pw_eq (fun X8 e8 => pw_eq (fun x9 e9 => pw_eq (fun X10 e10 => pw_eq (fun x11 e11 => ?_)))))
  have v11 : x11 = X6.1 61 4 := by rw [e11, e10, wI_ne _ _ _ _ _ _ (by omega), e8, wI_at, e7]
  have r10 : ∀ i k, ¬ i = 0 → X10.1 i k = X6.1 i k := fun i k z => by rw [e10, wI_ne _ _ _ _ _ _ (by omega), e8, wI_ne _ _ _ _ _ _ (by omega)]
  have fin : ∀ b0 : Int32, (b0.toInt = 0 → ∃ ff, rr = Sum.inr ff) → (¬ b0.toInt = 0 → ∃ G, rr = Sum.inl G) → pw (g_Court_judge_74 b0 X10) (fun _ Y => ∃ rr, JALL ch ps told c ps.length 0 ([], []) rr ∧ J8C e Y rr) := fun b0 z0 z1 => by
    unfold g_Court_judge_74
    refine pw_ck (fun _ => pw_eq (fun X12 e12 => pw_eq (fun x13 e13 => ?_)))
    have v12 : X12.1 0 4 = b0 := by rw [e12, wI_at]
    have r12 : ∀ i k, ¬ i = 0 → X12.1 i k = X6.1 i k := fun i k z => by rw [e12, wI_ne _ _ _ _ _ _ (by omega)]; exact r10 i k z
    rw [e13, v12]
    refine pw_ite (fun c13 => ?_) (fun c13 => ?_)
    · obtain ⟨ff, hf⟩ := z0 c13
      exact pw_ret ⟨rr, y1, Or.inr ⟨ff, hf, by rw [v12]; exact c13⟩⟩
    · obtain ⟨G, hG⟩ := z1 c13
      rw [hG] at y3
      have y3 : CG e ps told X4 X6 ks1 G.1 := y3
      refine pw_let (pw_ret ⟨rr, y1, Or.inl ⟨G, hG, by rw [v12]; exact c13, ?_, ks1, ?_, fun i G1 hi => ?_⟩⟩)
      · rw [r12 55 5 (by omega)]
        exact y3.2.2.1
      · exact y3.1.1.2.1.cg (fun j k b1 b2 _ => r12 j k (by omega))
      · exact (y3.2.2.2 i G1 hi).cg (fun j hj => r12 j i (by omega))
  rw [v11]
  cases rr with
  | inl G =>
    have y3 : CG e ps told X4 X6 ks1 G.1 := y3
    exact pw_pos y3.2.1 (fin 1 (fun z => absurd z (by decide)) (fun _ => ⟨G, rfl⟩))
  | inr ff =>
    have y3 : CJT e X4 X6 ks1 ∧ (X6.1 61 4).toInt = ff.1 ∧ (X6.1 61 5).toInt = ff.2 ∧ ¬ ff.1 = 0 := y3
    exact pw_neg (by rw [y3.2.1]; exact y3.2.2.2) (fin 0 (fun _ => ⟨ff, rfl⟩) (fun z => absurd (by decide) z))
theorem l_judge08 (h3 : (X.1 0 3).toInt = 0) : pw (g_Court_judge X) (fun _ Y => (Y.1 0 4).toInt = 0) := by
  unfold g_Court_judge
  refine pw_eq (fun X1 e1 => pw_eq (fun X2 e2 => pw_eq (fun X3 e3 => pw_eq (fun x4 e4 => ?_))))
  refine pw_pos (by rw [e4, e3, wI_ne _ _ _ _ _ _ (by omega), e2, wI_ne _ _ _ _ _ _ (by omega), e1, wI_ne _ _ _ _ _ _ (by omega)]; exact h3) (pw_ret ?_)
  rw [e3, wI_ne _ _ _ _ _ _ (by omega), e2, wI_ne _ _ _ _ _ _ (by omega), e1, wI_at]
  decide
/-- the class reads -/
theorem l_read8 (hw : w = 2 ∨ w = 24) (r2 : X.2.2 0 2 = w + 1) (hF : pw (g_Reader_readInto w 1 (X.1 0 1) X) (fun _ Y => (Y.2.2 0 2 = X.2.2 0 2 ∧ Y.2.2 0 9 = X.2.2 0 9) ∧ C8 X Y)) : pw (g_Court_read X) (fun _ Y => ((Y.1 0 4).toInt = 0 ∧ Y.2.2 0 9 = w + 1) ∨ (C8 X Y ∧ Y.2.2 0 9 = X.2.2 0 9)) := by
  unfold g_Court_read
  refine pw_ck (fun _ => pw_to (w := w) (by rw [r2]; rfl) (pw_let ?_))
  refine pw_bd hF ?_
  rintro _ X3 ⟨⟨q2, q9⟩, qf⟩
  refine pw_eq (fun X4 e4 => pw_let (pw_eq (fun X6 e6 => pw_let (pw_eq (fun X8 e8 => pw_let ?_)))))
  have s8 : X8.2 = X3.2 := by rw [e8, e6, e4]; rfl
  have r8 : ∀ i k, ¬ (i = 0 ∧ (k = 1 ∨ k = 7 ∨ k = 8)) → X8.1 i k = X3.1 i k := fun i k hi => by rw [e8, wI_ne _ _ _ _ _ _ (by omega), e6, wI_ne _ _ _ _ _ _ (by omega), e4, wI_ne _ _ _ _ _ _ (by omega)]
  refine pw_ite (fun _ => ?_) (fun _ => pw_ret (Or.inr ⟨⟨(r8 0 4 (by omega)).trans qf.1, (r8 55 5 (by omega)).trans qf.2.1, fun i k q => (r8 i k (by omega)).trans (qf.2.2 i k q)⟩, by rw [s8]; exact q9⟩))
  have z2 : X8.2.2 0 2 = w + 1 := by rw [s8, q2, r2]
  refine pw_ck (fun _ => pw_let (pw_ck (fun _ => pw_to (w := w) (by rw [z2]; rfl) ?_)))
  refine pw_eq (fun X12 e12 => pw_eq (fun X13 e13 => pw_eq (fun X14 e14 => pw_eq (fun X15 e15 => pw_eq (fun X16 e16 => ?_)))))
  have z16 : X16.2.2 0 9 = w + 1 := by
    rw [e16, e15, e14]
    show X13.2.2 0 9 = w + 1
    rw [e13, wR_se, if_neg (by omega), e12, wR_se, if_pos rfl]
  refine pw_ck (fun _ => pw_let (pw_let (pw_ret (Or.inl ⟨?_, z16⟩))))
  rw [e16, wI_ne _ _ _ _ _ _ (by omega), e15, wI_at]
  decide
end RD8S
