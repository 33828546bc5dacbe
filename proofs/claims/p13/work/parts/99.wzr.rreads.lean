/-! the reference reads a text -/
section RREADS
variable {ch : Tx} {n q : Nat} {X Y Z X0 : St} {o : Int} {sc : List Nm} {j N N1 s N0 m : Nat} {Q : Int32 → St → Prop} {c c1 : List Ins} {ps : List Pt} {l : Nm}
theorem sNames_iff : sNames ch ps c ↔ (NG1 ps ∧ NG2 ch ps c) ∧ ∃ k, partOf (nmsOf ps) MAINr = some k ∧ (ps.getD k (0, 0, [], [], [], 0)).2.2.2.1 = [] := by
  refine ⟨fun ⟨a, b, d⟩ => ⟨⟨a, ?_⟩, d⟩, fun ⟨⟨a, b⟩, d⟩ => ⟨a, fun x hx h4 => b _ ⟨x, hx, h4, rfl⟩, d⟩⟩
  rintro p ⟨x, hx, h4, rfl⟩
  exact b x hx h4
theorem x_r167 (X : St) : pw (f_reads_167 X) (fun _ Y => (∀ e k, ¬ (e = 0 ∧ (k = 14 ∨ k = 16)) → Y.1 e k = X.1 e k) ∧ Y.2 = X.2 ∧ Y.1 0 14 = Y.1 0 13 ∧ Y.1 0 16 = Y.1 0 15) := by
  unfold f_reads_167
  refine pw_let (pw_eq (fun X19 e19 => pw_let (pw_eq (fun X21 e21 => pw_ret ⟨fun e k h => ?_, by rw [e21, e19]; rfl, ?_, ?_⟩))))
  · rw [e21, wI_ne _ _ _ _ _ _ (by omega), e19, wI_ne _ _ _ _ _ _ (by omega)]
  · rw [e21, wI_ne _ _ _ _ _ _ (by omega), wI_ne _ _ _ _ _ _ (by omega), e19, wI_at, wI_ne _ _ _ _ _ _ (by omega)]
  · rw [e21, wI_at, wI_ne _ _ _ _ _ _ (by omega)]
/-- a text that has been read without a fault, as it stands in the rows -/
def RDs (ch : Tx) (n : Nat) (ps : List Pt) (c : List Ins) (N : Nat) (Y : St) : Prop := TXR ch n Y ∧ PAq ch Y ps ∧ PBq ch Y ps c N ∧ (∀ m, m < N → RSm ch ps Y m) ∧ KU Y ∧ KJq Y ∧ (∃ k : Nat, partOf (nmsOf ps) MAINr = some k ∧ (Y.1 0 25).toInt = (k : Int)) ∧ (Y.1 0 14 = Y.1 0 13 ∧ Y.1 0 16 = Y.1 0 15) ∧ 2 * (kps ps + krs c) ≤ 3000
/-- what reads() leaves -/
def RDq (ch : Tx) (n : Nat) (ps : List Pt) (c : List Ins) (Y : St) : Prop := (sNames ch ps c ∧ (Y.1 0 9).toInt = 0 ∧ (Y.1 0 18).toInt = (ps.length : Int) ∧ ∃ N, RDs ch n ps c N Y) ∨ (¬ sNames ch ps c ∧ wrX Y)
section KNS
variable {R S : Nat → Nat → Nat → Nat → List Ins → Prop} {lo hi t i : Nat} {d : List Ins}
theorem KNw.kd (h : KJq X) (g : KNw X Y) : KJq Y ∧ KGq X Y := ⟨h.cg (fun e k q => g.1 e k (by omega) (by omega)), KGq.of (fun e k q => g.1 e k (by omega) (by omega))⟩
theorem OMB.kn (hR : ∀ lo hi u i e, R lo hi u i e → lo ≤ u ∧ u < hi) (hS : ∀ lo hi u i e, R lo hi u i e → S lo hi u i e) (hX : KJq X) (hA : KNw X Y) (h : OMB ch X R lo hi t i d) : OMB ch Y S lo hi t i d := by
  obtain ⟨a, b, c, h⟩ := h
  have g : ∀ e, 20 ≤ e → e ≤ 28 → ¬ e = 26 → iv Y e t = iv X e t := fun e e1 e2 e3 => by
    unfold iv
    rw [hA.1 e t e3 (by omega)]
  have g26 : ¬ iv X 20 t = 3 → iv Y 26 t = iv X 26 t := fun e => by
    unfold iv
    rw [hA.2.1 t e]
  have g29 : Y.2.1 29 t = X.2.1 29 t := by rw [hA.2.2]
  have g20 : ∀ u, iv Y 20 u = iv X 20 u := fun u => by
    unfold iv
    rw [hA.1 20 u (by omega) (by omega)]
  have h28 : ∀ (hi : Nat) k, 0 ≤ k → k < hi → Y.1 28 k = X.1 28 k := fun hi k _ _ => hA.1 28 k (by omega) (by omega)
  have lc : ∀ {sp : Nat → List Ins → List Ins → Prop} (lo v : Nat) (w : Int) (es : Els), OMc X R sp lo w v 0 es → (∀ a ∈ es, a.2.1 ≤ hi) → OMc Y S sp lo w v 0 es := fun lo v w es h2 h4 => OMc.cg (b := 0) hR (fun lo' hi' u i e _ _ x3 => hS lo' hi' u i e x3) (h28 hi) es _ _ _ _ h2 (by omega) h4
  refine ⟨a, b, by rw [g 21 (by omega) (by omega) (by omega)]; exact c, ?_⟩
  rcases h with h | h | h | h | h | h
  · refine Or.inl ?_
    unfold OMl at h ⊢
    rw [g 20 (by omega) (by omega) (by omega), g 21 (by omega) (by omega) (by omega), g29]
    rcases h with h | h | h | h
    · rw [g26 (by omega)]; exact Or.inl h
    · rw [g26 (by omega)]; exact Or.inr (Or.inl h)
    · rw [g26 (by omega)]; exact Or.inr (Or.inr (Or.inl h))
    · exact Or.inr (Or.inr (Or.inr h))
  · obtain ⟨u, e, h2, h3, h4⟩ := h
    refine Or.inr (Or.inl ⟨u, e, by rw [g 23 (by omega) (by omega) (by omega)]; exact h2, hS _ _ _ _ _ h3, ?_⟩)
    rw [g 20 (by omega) (by omega) (by omega), g 21 (by omega) (by omega) (by omega)]
    exact h4
  · refine Or.inr (Or.inr (Or.inl ?_))
    unfold OMe
    rw [g 20 (by omega) (by omega) (by omega), g 21 (by omega) (by omega) (by omega), g 24 (by omega) (by omega) (by omega), g 27 (by omega) (by omega) (by omega)]
    rcases h with ⟨k, es, h2, h3, h4, h5⟩ | ⟨k, es, h2, h3, h4, h5⟩
    · exact Or.inl ⟨k, es, lc _ _ _ es h2 h4, h3, h4, h5⟩
    · exact Or.inr ⟨k, es, lc _ _ _ es h2 h4, h3, h4, h5⟩
  · refine Or.inr (Or.inr (Or.inr (Or.inl ?_)))
    unfold OM2
    rw [g 20 (by omega) (by omega) (by omega), g 21 (by omega) (by omega) (by omega), g 22 (by omega) (by omega) (by omega), g 23 (by omega) (by omega) (by omega), g 24 (by omega) (by omega) (by omega)]
    rcases h with ⟨k, u, w, u2, e, e2, h2, h3, h4, h5, h6⟩ | ⟨k, l, u, u2, e, e2, h2, h3, h4, h5, h6⟩
    · exact Or.inl ⟨k, u, w, u2, e, e2, h2, h3, hS _ _ _ _ _ h4, hS _ _ _ _ _ h5, h6⟩
    · rw [g26 (by rw [k]; split <;> omega)]
      exact Or.inr ⟨k, l, u, u2, e, e2, h2, h3, hS _ _ _ _ _ h4, hS _ _ _ _ _ h5, h6⟩
  · refine Or.inr (Or.inr (Or.inr (Or.inr (Or.inl ?_))))
    unfold OMs
    rw [g 20 (by omega) (by omega) (by omega), g 22 (by omega) (by omega) (by omega), g 23 (by omega) (by omega) (by omega), g 24 (by omega) (by omega) (by omega), g 25 (by omega) (by omega) (by omega), g 27 (by omega) (by omega) (by omega)]
    rcases h with ⟨k, u, w, u2, e, e2, h2, h3, h4, h5, h6, h7, h8⟩ | ⟨k, u, e, es, h2, h3, h4, h5, h6, h7⟩
    · refine Or.inl ⟨k, u, w, u2, e, e2, h2, h3, hS _ _ _ _ _ h4, hS _ _ _ _ _ h5, h6, h7, ?_⟩
      rcases h8 with h8 | ⟨u3, e3, h8, h9, h10⟩
      · exact Or.inl h8
      · exact Or.inr ⟨u3, e3, h8, hS _ _ _ _ _ h9, h10⟩
    · refine Or.inr ⟨k, u, e, es, h2, hS _ _ _ _ _ h3, lc _ _ _ es h4 h6, h5, h6, ?_⟩
      rw [g20 u]
      exact h7
  · refine Or.inr (Or.inr (Or.inr (Or.inr (Or.inr ?_))))
    unfold OMw
    rw [g 20 (by omega) (by omega) (by omega), g 21 (by omega) (by omega) (by omega), g 23 (by omega) (by omega) (by omega), g 24 (by omega) (by omega) (by omega), g 25 (by omega) (by omega) (by omega)]
    rcases h with ⟨k, u, w, u2, w2, u3, e, e2, e3, h2, h3, h4, h5, h6, h7, h8⟩ | ⟨k, u, w, u2, e, e2, h2, h3, h4, h5, h6, h7⟩
    · exact Or.inl ⟨k, u, w, u2, w2, u3, e, e2, e3, h2, h3, h4, hS _ _ _ _ _ h5, hS _ _ _ _ _ h6, hS _ _ _ _ _ h7, h8⟩
    · rw [g26 (by omega)]
      refine Or.inr ⟨k, u, w, u2, e, e2, h2, h3, h4, h5, hS _ _ _ _ _ h6, ?_⟩
      rcases h7 with ⟨x1, x2, x3⟩ | ⟨kk, kd, x1, x2, x3, x4⟩
      · exact Or.inl ⟨x1, hS _ _ _ _ _ x2, x3⟩
      · exact Or.inr ⟨kk, kd, x1, KDk.oj hX (hA.kd hX).2.1 _ _ x2, hS _ _ _ _ _ x3, x4⟩
theorem OM.kn (hX : KJq X) (hA : KNw X Y) (h : OM ch X lo hi t i d) : OM ch Y lo hi t i d := by
  obtain ⟨m, h⟩ := h
  refine ⟨m, ?_⟩
  have go : ∀ (m lo hi t i : Nat) (d : List Ins), OMf ch X m lo hi t i d → OMf ch Y m lo hi t i d := by
    intro m
    induction m with
    | zero => exact fun _ _ _ _ _ h => h.elim
    | succ m ih =>
      intro lo hi t i d h
      rw [OMf] at h ⊢
      exact h.kn (fun _ _ _ _ _ x => x.bd) ih hX hA
  exact go m lo hi t i d h
theorem PBq.kn (h : PBq ch X ps c N) (hX : KJq X) (g : KNw X Y) : PBq ch Y ps c N := ⟨h.1, fun k p hk => by
  obtain ⟨a, b, ⟨lo, hi, t, d, l1, l2, h1, h2, h3⟩, w, w2⟩ := h.2 k p hk
  refine ⟨a.st hX (g.kd hX).2.1 (fun i _ => g.1 16 _ (by omega) (by omega)), b.of hX (g.kd hX).2.1 (g.1 17 _ (by omega) (by omega)), ⟨lo, hi, t, d, l1, l2, by rw [g.1 18 _ (by omega) (by omega)]; exact h1, h2.kn hX g, h3⟩, ?_, w2⟩
  unfold MDa
  rw [g.1 14 _ (by omega) (by omega), g.1 12 _ (by omega) (by omega), g.1 13 _ (by omega) (by omega)]
  exact w⟩
end KNS
theorem x_r120 (hC : 2 * (kps ps + krs c) ≤ pl ch q) (hR : RX ch n X q) (hP : PAq ch X ps) (hB : PBq ch X ps c N) (hS : ∀ m, m < N → RSm ch ps X m) (hU : KU X) (hJ : KJq X) (hk : ps.length ≤ 40) (hg : NG1 ps ∧ NG2 ch ps c) : pw (f_reads_120 X) (fun _ Y => RDq ch n ps c Y) := by
  have l7 : ¬ (7 : Int32).toInt = 0 := by decide
  have hmv : (3412558 : Int64) = lN (p6 MAINr) := by decide
  unfold f_reads_120
  refine pw_bd (x_partOf (l := MAINr) hP (by omega) ⟨show ∀ x ∈ MAINr, isLt x = true from by decide, by decide⟩ hmv) ?_
  rintro x13 X14 ⟨e14, h13⟩
  rw [e14]
  refine pw_eq (fun X15 e15 => ?_)
  have g15 : RX ch n X15 q := by rw [e15]; exact hR.wI (by omega)
  have p15 : PAq ch X15 ps := hP.sp (by rw [e15]; exact SPt.wI (by omega))
  have at25 : X15.1 0 25 = x13 := by rw [e15, wI_at]
  refine pw_bd (q_well g15.2.2.2) ?_
  rintro x16 X17 ⟨e17, h16⟩
  rw [e17]
  refine pw_neg h16 (pw_let ?_)
  rw [at25]
  have fin : sNames ch ps c → (∃ k : Nat, partOf (nmsOf ps) MAINr = some k ∧ x13.toInt = (k : Int)) → pw (f_reads_167 X15) (fun _ Y => RDq ch n ps c Y) := fun s hmn => pw_mono (x_r167 X15) (fun _ Y h => by
    have s15 : SPb X X15 ps.length N := by rw [e15]; exact SPb.wI (by omega)
    have sY : SPb X15 Y ps.length N := SPb.of (fun e k q => h.1 e k (by omega)) (fun k _ => by rw [h.2.1])
    have sX := s15.tr sY
    have j15 : KJq X15 := hJ.cg (fun e k q => by rw [e15, wI_ne _ _ _ _ _ _ (by omega)])
    have jY : KJq Y := j15.cg (fun e k q => h.1 e k (by omega))
    have pY : PAq ch Y ps := p15.sp ⟨fun k => by rw [h.2.1], fun k => h.1 12 k (by omega), fun k => h.1 15 k (by omega), h.1 0 18 (by omega)⟩
    refine Or.inl ⟨s, by rw [h.1 0 9 (by omega)]; exact g15.2.2.2, pY.1, N, ?_⟩
    refine ⟨⟨g15.1.1, by rw [h.1 0 1 (by omega)]; exact g15.1.2.1, fun i hi => by rw [h.1 2 i (by omega)]; exact g15.1.2.2 i hi⟩, pY, hB.sp hJ sX, fun m hm => ?_, sX.2.2.2.2.2 hU, jY, ?_, h.2.2, by
      have h1 := pl_le hR.1.1 hR.2.2.1
      have h2 := hR.1.1.1
      omega⟩
    · have hm := hS m hm
      unfold RSm at hm ⊢
      rw [h.1 20 m (by omega), h.1 26 m (by omega), h.2.1, e15, wI_ne _ _ _ _ _ _ (by omega), wI_ne _ _ _ _ _ _ (by omega)]
      exact hm
    · rw [h.1 0 25 (by omega), at25]
      exact hmn)
  have bad : ¬ sNames ch ps c → pw (f_reads_157 X15) (fun _ Y => RDq ch n ps c Y) := by
    intro s
    unfold f_reads_157
    refine pw_let (pw_bd (q_fails X15 l7) ?_)
    intro _ X24 hd
    exact pw_mono (uw_reads_167 hd) (fun _ _ d => Or.inr ⟨s, d⟩)
  refine pw_ite (fun c22 => bad ?_) (fun c22 => ?_)
  · intro s
    obtain ⟨_, k, hk2, _⟩ := sNames_iff.mp s
    rcases h13 with ⟨h, _⟩ | ⟨m, _, h, _⟩
    · rw [h] at hk2
      exact Option.some_ne_none _ hk2.symm
    · omega
  · obtain ⟨m, hm, hx, hlt⟩ : ∃ m : Nat, partOf (nmsOf ps) MAINr = some m ∧ x13.toInt = (m : Int) ∧ m < ps.length := by
      rcases h13 with ⟨_, h⟩ | h
      · omega
      · exact h
    obtain ⟨pm, hat⟩ : ∃ p, ps[m]? = some p := ⟨_, List.getElem?_eq_getElem hlt⟩
    have h15 := (p15.2 m pm hat).2.2
    have hgd : ps.getD m (0, 0, [], [], [], 0) = pm := by rw [List.getD_eq_getElem?_getD, hat]; rfl
    refine pw_let (pw_ck (fun _ => pw_let ?_))
    rw [ixn hx]
    refine pw_ite (fun c26 => fin ?_ ⟨m, hm, hx⟩) (fun c26 => bad ?_)
    · refine sNames_iff.mpr ⟨hg, m, hm, ?_⟩
      rw [hgd]
      exact List.eq_nil_of_length_eq_zero (by omega)
    · intro s
      obtain ⟨_, k, hk2, hz⟩ := sNames_iff.mp s
      rw [hm] at hk2
      rw [← Option.some.inj hk2, hgd] at hz
      rw [hz] at h15
      have : (([] : List (Nm × List Int)).length : Int) = 0 := rfl
      omega
theorem x_r109 (hC : 2 * (kps ps + krs c) ≤ pl ch q) (hR : RX ch n X q) (h19 : (X.1 0 19).toInt = (N : Int)) (hM : NMr ch X N c) (hP : PAq ch X ps) (hB : PBq ch X ps c N) (hU : KU X) (hJ : KJq X) (hk : ps.length ≤ 40) : pw (f_reads_109 X) (fun _ Y => RDq ch n ps c Y) := by
  unfold f_reads_109
  refine pw_bd (q_well hR.2.2.2) ?_
  rintro x11 X12 ⟨e12, h11⟩
  rw [e12]
  refine pw_neg h11 (pw_bd (x_knows (by omega) hR h19 hM hP) ?_)
  rintro _ X27 (⟨hg, gR, gP, gK, gS⟩ | ⟨hg, hd⟩)
  · exact x_r120 hC gR gP (hB.kn hJ gK) gS ((gK.kd hJ).2.2 hU) (gK.kd hJ).1 hk hg
  · exact pw_mono (uw_reads_120 hd) (fun _ _ d => Or.inr ⟨fun s => hg (sNames_iff.mp s).1, d⟩)
def CRd (ch : Tx) (n : Nat) (Q : Int32 → St → Prop) (r : List Pt × List Ins) : Prop := (sNames ch r.1 r.2 → ∀ Y z, (Y.1 0 9).toInt = 0 → (Y.1 0 18).toInt = (r.1.length : Int) → (∃ N, RDs ch n r.1 r.2 N Y) → Q z Y) ∧ (¬ sNames ch r.1 r.2 → DQ Q)
theorem x_r39h {k M : Nat} (hC : 2 * (kps ps + krs c) ≤ pl ch q) (hR : RX ch n X q) (h19 : (X.1 0 19).toInt = (N : Int)) (hM : NMr ch X N c) (hP : PAq ch X ps) (hB : PBq ch X ps c N) (hU : KU X) (hJ : KJq X) (hk : ps.length ≤ 40) (H : HH (DQ Q) (CRd ch n Q) (sParts ch (k + 1) ps q c)) (g : ty ch q = 261 → pw (letV (X.1 0 18) fun x31 => if x31.toInt = 40 then letV (X.1 0 6) fun x36 => bnd (f_fails (3 : Int32) x36 X) fun _ X37 => f_reads_39 M X37 else letV (X.1 0 18) fun x32 => letV (X.1 0 6) fun x33 => chk (inR x32 41) (letV (wI X 14 (ix x32) x33) fun X34 => bnd (f_part__V X34) fun _ X35 => f_reads_39 M X35)) Q) : pw (f_reads_39 (M + 1) X) Q := by
  have l0 : (0 : Int32).toInt = 0 := by decide
  have e : f_reads_39 (M + 1) = f_reads_39_s (f_reads_39 M) := by
    unfold f_reads_39
    exact lp_succ _ _ _
  rw [e]
  unfold f_reads_39_s
  rw [sParts] at H
  refine pw_bd (q_well hR.2.2.2) ?_
  rintro x9 X10 ⟨e10, h9⟩
  rw [e10]
  refine pw_neg h9 (pw_let ?_)
  have sort : (X.1 0 7).toInt = 0 ↔ ty ch q = 257 := by
    obtain ⟨_, _, t⟩ := hR.2.1
    omega
  refine pw_ite (fun c28 => ?_) (fun c28 => ?_)
  · have y := sort.mp c28
    have H := ((H.q (by omega)).p y).s
    refine pw_mono (x_r109 hC hR h19 hM hP hB hU hJ hk) ?_
    rintro r Y (⟨s, h0, h18, hN⟩ | ⟨s, hd⟩)
    · exact H.1 s Y r h0 h18 hN
    · exact H.2 s r Y hd
  · have n257 : ¬ ty ch q = 257 := fun z => c28 (sort.mpr z)
    refine pw_bd (q_isWord hR (by decide)) ?_
    rintro x29 X30 ⟨e30, h29⟩
    rw [e30]
    rw [l0] at h29
    refine pw_ite (fun c29 => ?_) (fun c29 => ?_)
    · have n261 := h29.mp c29
      have hQ := ((H.q (by omega)).q n257).n
      refine pw_bd (q_stray X) ?_
      intro _ X38 hd
      exact pw_mono (uw_reads_39 M X38 hd) hQ
    · have y : ty ch q = 261 + 0 := Classical.byContradiction (fun z => c29 (h29.mpr z))
      exact g (by omega)
theorem x_r39 : ∀ (k : Nat) (ps : List Pt) (q : Nat) (c : List Ins) (X : St) (M N : Nat), k + ps.length = 40 → 2 * (kps ps + krs c) ≤ pl ch q → RX ch n X q → KJq X → (X.1 0 19).toInt = (N : Int) → NMr ch X N c → PAq ch X ps → PBq ch X ps c N → KU X → HH (DQ Q) (CRd ch n Q) (sParts ch (k + 1) ps q c) → pw (f_reads_39 M X) Q := by
  have l3 : ¬ (3 : Int32).toInt = 0 := by decide
  intro k
  induction k with
  | zero =>
    intro ps q c X M N hkp hC hR hkj h19 hM hP hB hU H
    cases M with
    | zero => exact pw_none
    | succ M =>
      refine x_r39h hC hR h19 hM hP hB hU hkj (by omega) H (fun hty => ?_)
      have h18 := hP.1
      rw [sParts] at H
      have hQ := ((H.p hty).q (by omega)).n
      refine pw_let (pw_pos (by omega) (pw_let (pw_bd (q_fails X l3) ?_)))
      intro _ X37 hd
      exact pw_mono (uw_reads_39 M X37 hd) hQ
  | succ k ih =>
    intro ps q c X M N hkp hC hR hkj h19 hM hP hB hU H
    cases M with
    | zero => exact pw_none
    | succ M =>
      refine x_r39h hC hR h19 hM hP hB hU hkj (by omega) H (fun hty => ?_)
      have h18 := hP.1
      rw [sParts] at H
      have H := ((H.p hty).p (by omega)).b
      refine pw_let (pw_neg (by omega) (pw_let (pw_let ?_)))
      rw [ixn h18]
      refine pw_ck (fun _ => pw_eq (fun X34 e34 => ?_))
      have s34 : SPb X X34 ps.length N := by rw [e34]; exact SPb.wI (by omega)
      have w34 : (X34.1 14 ps.length).toInt = (_root_.Jvm.Pilot.CBlameCourtLaw_law_r8381_f30dd1.pl ch q : Int) := by rw [e34, wI_at]; exact hR.2.1.2.1
      refine pw_bd (x_part (Q := fun _ Z => pw (f_reads_39 M Z) Q) (N := N) (c := c) (ps := ps) (q := q) (by rw [e34]; exact hR.wI (by omega)) (hkj.cg (fun e k q => by rw [e34, wI_ne _ _ _ _ _ _ (by omega)])) (by rw [e34, wI_ne _ _ _ _ _ _ (by omega)]; exact h19) (by rw [e34]; exact hM.wI (by omega)) (hP.sp (by rw [e34]; exact SPt.wI (by omega))) ⟨hB.sp hkj s34, s34.2.2.2.2.2 hU⟩ w34 (by omega) ⟨fun e => (H.dm (fun hQ _ Z d => pw_mono (uw_reads_39 M Z d) hQ)).1 e, fun r er => ?_⟩) (fun _ Z d => d)
      have hCr := (kc_part hR.1.1 ps.length q c (by omega)).2 r er
      have H := (H.dm (D1 := DQ (fun _ Z => pw (f_reads_39 M Z) Q)) (fun hQ _ Z d => pw_mono (uw_reads_39 M Z d) hQ)).2 r er
      intro Y z sc N1 gY mY pY bY
      exact ih (ps ++ [r.1]) r.2.1 r.2.2 Y M N1 (by rw [List.length_append, List.length_singleton]; omega) (by rw [kps_ap]; omega) gY.1 gY.kj gY.2.2.2.2 mY pY bY.1 bY.2 H
theorem x_reads (hT : TXR ch n X) (H : HH (DQ Q) (CRd ch n Q) (sParts ch 41 [] 0 [])) : pw (f_reads X) Q := by
  unfold f_reads
  refine pw_eq (fun X1 e1 => pw_eq (fun X2 e2 => pw_eq (fun X3 e3 => pw_eq (fun X4 e4 => pw_eq (fun X5 e5 => pw_eq (fun X6 e6 => ?_))))))
  have r6 : ∀ e k, ¬ (e = 0 ∧ (k = 4 ∨ k = 5 ∨ k = 9 ∨ k = 10 ∨ k = 18 ∨ k = 19)) → X6.1 e k = X.1 e k := fun e k hk => by rw [e6, wI_ne _ _ _ _ _ _ (by omega), e5, wI_ne _ _ _ _ _ _ (by omega), e4, wI_ne _ _ _ _ _ _ (by omega), e3, wI_ne _ _ _ _ _ _ (by omega), e2, wI_ne _ _ _ _ _ _ (by omega), e1, wI_ne _ _ _ _ _ _ (by omega)]
  have c5 : (X6.1 0 5).toInt = 0 := by rw [e6, wI_ne _ _ _ _ _ _ (by omega), e5, wI_ne _ _ _ _ _ _ (by omega), e4, wI_ne _ _ _ _ _ _ (by omega), e3, wI_ne _ _ _ _ _ _ (by omega), e2, wI_ne _ _ _ _ _ _ (by omega), e1, wI_at]; rfl
  have c9 : (X6.1 0 9).toInt = 0 := by rw [e6, wI_ne _ _ _ _ _ _ (by omega), e5, wI_ne _ _ _ _ _ _ (by omega), e4, wI_ne _ _ _ _ _ _ (by omega), e3, wI_ne _ _ _ _ _ _ (by omega), e2, wI_at]; rfl
  have c18 : (X6.1 0 18).toInt = 0 := by rw [e6, wI_ne _ _ _ _ _ _ (by omega), e5, wI_ne _ _ _ _ _ _ (by omega), e4, wI_at]; rfl
  have c19 : (X6.1 0 19).toInt = 0 := by rw [e6, wI_ne _ _ _ _ _ _ (by omega), e5, wI_at]; rfl
  have hk : pw (f_kinds 0 X6) (fun _ Y => (∀ e k, ¬ (e = 0 ∧ (k = 13 ∨ k = 15 ∨ 100 ≤ k)) → ¬ (4 ≤ e ∧ e ≤ 9) → Y.1 e k = X6.1 e k)) := by
    have q18 : ∀ {e k : Nat}, ¬ (e = 0 ∧ (k = 13 ∨ k = 15 ∨ 100 ≤ k)) → ¬ (4 ≤ e ∧ e ≤ 9) → cq e k ∉ Lw18 := by
      intro e k h1 h2
      unfold cq Lw18
      by_cases h0 : e = 0
      · rw [if_pos h0]
        intro m
        simp only [List.mem_cons, List.not_mem_nil, or_false] at m
        omega
      · rw [if_neg h0]
        intro m
        simp only [List.mem_cons, List.not_mem_nil, or_false] at m
        omega
    unfold f_kinds
    refine pw_eq (fun A1 d1 => pw_eq (fun A2 d2 => ?_))
    refine pw_bd fw_kindOf (fun x3 A4 f4 => pw_bd fw_kindOf (fun x5 A6 f6 => pw_bd fw_kindOf (fun x7 A8 f8 => pw_ret (fun e k h1 h2 => ?_))))
    rw [f8.1 e k (q18 h1 h2), f6.1 e k (q18 h1 h2), f4.1 e k (q18 h1 h2), d2, wI_ne _ _ _ _ _ _ (by omega), d1, wI_ne _ _ _ _ _ _ (by omega)]
  refine pw_bd (pw_and hk x_kinds) ?_
  rintro _ X7 ⟨f7, kj7, ku7⟩
  have T7 : TXR ch n X7 := ⟨hT.1, by rw [f7 0 1 (by omega) (by omega), r6 0 1 (by omega)]; exact hT.2.1, fun i hi => by rw [f7 2 i (by omega) (by omega), r6 2 i (by omega)]; exact hT.2.2 i hi⟩
  refine pw_bd (r_next T7 (q := 0) (by rw [f7 0 5 (by omega) (by omega)]; exact c5) (Nat.zero_le _)) ?_
  rintro _ X8 ⟨t8, k8⟩
  have T8 : TXR ch n X8 := ⟨hT.1, by rw [t8.1 0 1 (by omega)]; exact T7.2.1, fun i hi => by rw [t8.1 2 i (by omega)]; exact T7.2.2 i hi⟩
  have R8 : RX ch n X8 0 := ⟨T8, k8, Nat.zero_le _, by rw [t8.1 0 9 (by omega), f7 0 9 (by omega) (by omega)]; exact c9⟩
  refine x_r39 40 [] 0 [] X8 BIG 0 rfl (Nat.zero_le _) R8 (kj7.cg (fun e k q => t8.1 e k (by omega))) (by rw [t8.1 0 19 (by omega), f7 0 19 (by omega) (by omega)]; exact c19) ⟨fun i hi => absurd hi (Nat.not_lt_zero _), fun p hp => ?_⟩ ⟨by rw [t8.1 0 18 (by omega), f7 0 18 (by omega) (by omega)]; exact c18, fun k p hk => ?_⟩ ⟨fun _ => rfl, fun k p hk => ?_⟩ ((KGq.of (fun e k q => t8.1 e k (by omega))).2 ku7) H
  · obtain ⟨x, hx, _⟩ := hp
    cases hx
  · rw [List.getElem?_nil] at hk
    exact absurd hk.symm (Option.some_ne_none _)
  · rw [List.getElem?_nil] at hk
    exact absurd hk.symm (Option.some_ne_none _)
end RREADS
