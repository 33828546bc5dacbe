/-! run() on both sides -/
/-- what a run leaves: nothing, or both ended the same -/
def RNQ (X Y : St) (z : Int32) (Z1 V1 : St) : Prop := (z = -1 ∧ Z1 = X ∧ V1 = Y) ∨ ∃ (ks : List (List Int)) (u : Bool), ENDq u Z1 ∧ FNr ks z Z1 z V1
section RUNS10
variable {e f n m p1 : Nat} {ch : Tx} {ps : List Pt} {told : Nat → Bool} {c : List Ins} {X Y Z : St} {po : Nat → Nat} {q1 : Int32} {G : List JG × List Bool}
theorem R10.of (hr : ∀ i k, ¬ (i = 0 ∧ (k = 39 ∨ k = 42)) → Z.1 i k = X.1 i k) : R10 X Z := by
  refine ⟨hr 0 4 (by omega), hr 0 28 (by omega), hr 0 18 (by omega), hr 0 26 (by omega), fun i k q1 q2 => hr i k (by omega), fun h _ => h.cg (fun i k q => hr i k (by omega)), fun _ h => (KGq.of (fun i k q => hr i k (by omega))).2 h, KXq.of (fun i k q => hr i k (by omega))⟩
theorem n_run (he : e = 2 ∨ e = 24) (h : JM X) (hT : J10R ch ps c X (Sum.inl G)) (hC : J10C e c Y (Sum.inl G)) (hJA : JALL ch ps told c ps.length 0 ([], []) (Sum.inl G)) (hCP : CP7 e ch ps told c Y) (r9 : Y.2.2 0 9 = e + 1) (h6 : (Y.1 e 6).toInt = (c.length : Int)) (h2 : Y.1 e 2 = X.1 0 25) (h00 : psx ps c 0 = 0) (hp40 : ps.length ≤ 40) (hcl : c.length ≤ 1000000) : pw (f_run q1 X) (fun z Z1 => pw (g_Court_run q1 Y) (fun z' V1 => z' = z ∧ RNQ X Y z Z1 V1)) := by
  have x4 : ¬ (X.1 0 4).toInt = 0 := by
    rcases hT with ⟨G1, a, b, _⟩ | ⟨ff, a, b⟩
    · exact b
    · exact nomatch a
  obtain ⟨y4, y55, ⟨ks, k1, k2, k3⟩, yL⟩ : ¬ (Y.1 0 4).toInt = 0 ∧ (Y.1 55 5).toInt = (G.1.length : Int) ∧ (∃ ks, TKS (e + 1) Y ks ∧ K9 <+: ks ∧ ∀ (i : Nat) (G1 : JG), G.1[i]? = some G1 → CGd Y ks i G1) ∧ LC e c c.length G.1 Y := by
    rcases hC with ⟨G1, a, b, ⟨d1, d2⟩, d3⟩ | ⟨ff, a, b⟩
    · obtain rfl := Sum.inl.inj a
      exact ⟨b, d1, d2, d3⟩
    · exact nomatch a
  unfold f_run
  refine pw_let (pw_ite (fun z => absurd z x4) (fun _ => pw_bd (pw_ok (s_f_in _ _ _ _)) ?_))
  rintro r0 X' ⟨hF0, hin⟩
  obtain rfl : X = X' := (Fr.nil hF0).symm
  have hin : (r0.toInt = 1 ∧ 0 ≤ q1.toInt ∧ q1.toInt ≤ 20000) ∨ (r0.toInt = 0 ∧ (q1.toInt < 0 ∨ 20000 < q1.toInt)) := hin
  refine pw_ite (fun z => pw_ret ?_) (fun z => pw_let (pw_let ?_))
  · unfold g_Court_run
    refine pw_let (pw_ite (fun q => absurd q y4) (fun _ => pw_bd l_isFuel ?_))
    rintro r1 Y' ⟨rfl, hr⟩
    refine pw_ite (fun _ => pw_ret ⟨rfl, Or.inl ⟨rfl, rfl, rfl⟩⟩) (fun q => ?_)
    rcases hr with ⟨a, _⟩ | ⟨_, a, b⟩
    · exact absurd a q
    · omega
  · have hq : 0 ≤ q1.toInt ∧ q1.toInt ≤ 20000 := by omega
    have h3 : ¬ (X.1 0 3).toInt = 0 := fun q => x4 (h.2.2.1 q).1
    obtain ⟨j1, j2, j3, j4⟩ := h.2.2.2.1 x4
    have hF : Fr YR [39, 42] X (wI (wI X 0 39 q1) 0 42 1) := (Fr.rf.wI 0 39 _ (show (39 : Nat) ∈ [39, 42] from by decide)).wI 0 42 _ (show (42 : Nat) ∈ [39, 42] from by decide)
    have v42 : (wI (wI X 0 39 q1) 0 42 1).1 0 42 = 1 := wI_at _ _ _ _
    have v39 : (wI (wI X 0 39 q1) 0 42 1).1 0 39 = q1 := by rw [wI_ne _ 0 _ _ 0 _ (by decide), wI_at]
    have rZ : ∀ i k, ¬ (i = 0 ∧ (k = 39 ∨ k = 42)) → (wI (wI X 0 39 q1) 0 42 1).1 i k = X.1 i k := fun i k q => by rw [wI_ne _ _ _ _ _ _ (by omega), wI_ne _ _ _ _ _ _ (by omega)]
    obtain ⟨Z, hZ⟩ : ∃ Z : St, wI (wI X 0 39 q1) 0 42 1 = Z := ⟨_, rfl⟩
    rw [hZ] at hF v42 v39 rZ ⊢
    have hP := (h.2.1 h3).1
    have hK : KX X Z := KX.fr hF (by decide)
    have hJZ : JUD Z := j1.to hP.2.2.2.1 hF hK (by decide) (by decide) (by decide)
    have h3Z : K3 Z := hP.1.2.1.kx (hP.2.2.1.tr hK)
    obtain ⟨lo, po1, PTs, hR, p0, p26, hCO⟩ := hJZ.run10 h3Z (hP.pgr.fr hF (by decide))
    have hPG := hP.pgr
    obtain ⟨⟨g1, g2, g3⟩, g4, g5, g6, g7⟩ := hP
    have hTZ : KT Z := g6.fr hF (by decide)
    have hBZ : PBD Z := g7.pot (POT.fr g6 hF (by decide))
    obtain ⟨m1, m2, m3⟩ := g3.2.2.2.2
    rw [TX.fr.1 0 25 (by decide)] at m1 m2 m3
    rw [TX.fr.1 0 18 (by decide)] at m2
    rw [TX.fr.1 15 _ (show (3000 : Nat) ∉ [13, 15] from by decide)] at m3
    have m4 : (X.1 15 (ix (X.1 0 25))).toInt = 0 := by
      have := (hPG.2.1 (ix (X.1 0 25)) (by rw [ixc m1]; exact m2)).1
      omega
    have z28 : Z.1 0 28 = X.1 0 28 := rZ 0 28 (by omega)
    have z25 : Z.1 0 25 = X.1 0 25 := rZ 0 25 (by omega)
    have z18 : Z.1 0 18 = X.1 0 18 := rZ 0 18 (by omega)
    have z15 : ∀ k, Z.1 15 k = X.1 15 k := fun k => rZ 15 k (by omega)
    obtain ⟨X8, po8, s1, s2, s3, s4⟩ : ∃ X8 po8, SRf ch ps c po8 X8 ∧ TBX X8 Z ∧ G8R Z G.1 ∧ LR (po8 ps.length) c G.1 Z := by
      rcases hT.kp (R10.of rZ) with ⟨G1, a, b, X8, po8, d1, d2, d3, d4⟩ | ⟨ff, a, b⟩
      · obtain rfl := Sum.inl.inj a
        exact ⟨X8, po8, d1, d2, d3, d4⟩
      · exact nomatch a
    have e18 : (Z.1 0 18).toInt = (ps.length : Int) := by rw [s2.2.2.2.2.1]; exact s1.2.2.2.2
    have i18 : ix (Z.1 0 18) = ps.length := ixn e18
    rw [i18] at p26 hCO
    have hl : G.1.length ≤ 12000 := by
      have := s3.1
      rw [z28] at this
      omega
    obtain ⟨mm, kt, ksP, a1, a2, _⟩ := hCP
    obtain ⟨W, hW⟩ : ∃ Y4 : St, Y4 = wI Y 0 5 1 := ⟨_, rfl⟩
    have rW : ∀ i k, ¬ i = 0 → W.1 i k = Y.1 i k := fun i k q => by rw [hW, wI_ne _ _ _ _ _ _ (by omega)]
    have sW : W.2 = Y.2 := by rw [hW]; rfl
    have tW : TKS (e + 1) W ks := k1.cg (fun i k q1 q2 _ => rW i k (by omega))
    have hPR : PRm e Z W := by
      refine ⟨by omega, ?_, fun k hk => ?_⟩
      · have h1 := a2.2.2.1
        rw [rW e 1 (by omega)]
        exact Int32.toInt_inj.mp (h1.trans e18.symm)
      · rw [e18] at hk
        have hk' : ps[k]? = some ps[k] := List.getElem?_eq_getElem (by omega)
        have h1 := (a2.1 k _ hk').1
        have h2 := (s1.2.1 k _ hk').2
        rw [rW (e + 13) k (by omega)]
        refine Int32.toInt_inj.mp ?_
        rw [h1, s2.1 15 k (by omega), h2]
    obtain ⟨V, hS⟩ := stat10 (Y := W) (ks := ks) he s1 s2 s3 s4 (by rw [rW 55 5 (by omega)]; exact y55) (fun i G1 hG => (k3 i G1 hG).cg (fun j hj => rW j i (by omega))) ⟨yL.1, fun jj q1 q2 => by rw [rW (e + 20) jj (by omega)]; exact yL.2 jj q1 q2⟩ (JALL.gp ps.length 0 ([], []) G (Nat.zero_add _) hJA (fun x hx => nomatch hx)) hp40 hl hcl h00 (by rw [rW e 6 (by omega)]; exact h6) (fun i a ha => by
      obtain ⟨b1, b2, b3, b4, _⟩ := a1.1 i a ha
      rw [rW (e + 18) i (by omega), rW (e + 21) i (by omega), rW (e + 19) i (by omega)]
      exact ⟨b1, b2, b3, b4⟩) (fun k p hk => by rw [rW (e + 17) k (by omega)]; exact (a2.1 k p hk).2) hCO p0 p26
    have main := n_start (u := false) (p3 := 1) (p4 := q1) (a1 := Z.1 0 25) hS hTZ h3Z hBZ hR (by rw [v39]; exact hq) (by rw [z28]; omega) ⟨fun q => Bool.noConfusion q, fun q => absurd q (by rw [v42]; decide)⟩ ⟨fun q => Bool.noConfusion q, fun q => absurd q (by decide)⟩ (by rw [z25, z18]; exact ⟨m1, m2⟩) (by rw [z25, z15]; exact m4) s2.2.2.1 ⟨tW, k2⟩ hPR he (by rw [rW e 2 (by omega), z25]; exact h2) v39.symm
    refine pw_let (pw_bd main (fun z Z1 hz => pw_ret ?_))
    unfold g_Court_run
    refine pw_let (pw_ite (fun q => absurd q y4) (fun _ => pw_bd l_isFuel ?_))
    rintro r1 Y' ⟨rfl, hr⟩
    refine pw_ite (fun q => ?_) (fun _ => ?_)
    · rcases hr with ⟨_, a⟩ | ⟨a, _⟩
      · omega
      · exact absurd q a
    · rw [← hW]
      refine pw_let (pw_ck (fun _ => ?_))
      rw [sW, r9]
      exact pw_let (pw_bd hz.2 (fun z' Y1 hz' => pw_ret ⟨hz'.1, Or.inr ⟨_, _, hz.1, hz'.1 ▸ hz'⟩⟩))
end RUNS10
