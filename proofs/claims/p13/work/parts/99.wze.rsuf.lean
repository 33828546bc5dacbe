/-! the reference reads all that stands behind an operand -/
section RSUF
variable {ch : Tx} {n q : Nat} {X Y Z X0 : St} {o : Int} {sc : List Nm} {j N s N0 : Nat} {Q : Int32 → St → Prop} {c c0 c1 : List Ins}
def CUq (ch : Tx) (n : Nat) (X : St) (o : Int) (sc : List Nm) (j N : Nat) (c0 : List Ins) (Q : Int32 → St → Prop) (a : Out) : Prop := ∀ Y, ER ch n X o sc (j + 1) N c0 a Y → ¬ (Y.1 20 (ix (Y.1 0 24))).toInt = 14 → prS Y Q
theorem sU1_st {E : EF} {named : Bool} {f : Nat} (k : Nat) (q : Nat) (c : List Ins) : sU1 ch E o sc named f k true q c = some (q, c) := by
  cases k with
  | zero => rw [sU1]
  | succ k => rw [sU1, if_neg (fun z => absurd z.1 (by decide))]
/-- nothing more stands behind -/
theorem b_288 {t d N1 : Nat} (h : SFq ch n X Y q o sc j N N1 t d c0 c) (C : CUq ch n X o sc j N c0 Q (q, c)) : pw (f_behind_288 Y) (fun _ Z => pr Z Q) := by
  obtain ⟨gY, mY, nY, kY, hY, ht, k14, kd, e, ee, eo⟩ := h
  unfold f_behind_288
  refine pw_eq (fun X30 e30 => ?_)
  refine pw_ret ?_
  have g30 : XS ch n X30 q o sc (j + 1) N1 := by rw [e30]; exact gY.wI (by omega)
  have h24 : X30.1 0 24 = Y.1 0 24 := by rw [e30, wI_ne _ _ _ _ _ _ (by omega)]
  refine pr_3 g30 (by rw [e30, wI_at]; decide) (C X30 ⟨N1, t, g30, by rw [e30]; exact nY.wI (by omega), by rw [e30]; exact kY.wI (by unfold KPs; omega), by rw [h24]; exact hY, ht.1, ht.2, e, ee, by rw [e30]; exact eo.wI gY.kj (by omega)⟩ ?_)
  rw [h24, ixn hY, e30, wI_ne _ _ _ _ _ _ (by omega)]
  exact k14
/-- a place of a row, up to where its bracket closes -/
def SFs (ch : Tx) (Y : St) (p : Int) (N N1 t : Nat) (c0 c : List Ins) (x : Nat) : Prop := ∃ (u u2 : Nat) (e e2 : List Ins), (iv Y 23 t = (u : Int) ∧ iv Y 24 t = (u2 : Int)) ∧ OM ch Y N t u c0.length e ∧ OM ch Y (t + 1) N1 u2 (c0.length + e.length + 1) e2 ∧ (iv Y 22 t = p ∧ iv Y 21 t = plh e ∧ iv Y 20 t = 10 ∧ iv Y 25 t = -1) ∧ c = c0 ++ (stp e ++ (29, 0, p, []) :: e2) ∧ x = c0.length + e.length + 1
theorem SFs.pl {p : Int} {N1 t x : Nat} (h : SFs ch Y p N N1 t c0 c x) : ∃ (e e2 : List Ins), plc c x = plh e2 ∧ c = c0 ++ (stp e ++ (29, 0, p, []) :: e2) := by
  obtain ⟨u, u2, e, e2, _, _, _, _, ec, ex⟩ := h
  refine ⟨e, e2, ?_, ec⟩
  have q1 : c = (c0 ++ (stp e ++ [(29, 0, p, [])])) ++ e2 := by
    rw [ec]
    simp only [List.append_assoc, List.cons_append, List.nil_append]
  have q2 : x = (c0 ++ (stp e ++ [((29, 0, p, []) : Ins)])).length := by
    rw [ex, List.length_append, List.length_append, stp_len, List.length_singleton]
    omega
  rw [q1, q2, plc_app]
/-- it is read -/
theorem SFs.rd {p : Int} {N1 t x : Nat} (h : SFs ch Y p N N1 t c0 c x) (ht : N ≤ t ∧ t < N1) : OMx ch Y N N1 t c0 ((c ++ [(27, 0, plc c x, [])]) ++ [(14, 0, p, [])]) := by
  obtain ⟨e', e2', ep, _⟩ := h.pl
  obtain ⟨u, u2, e, e2, ⟨h23, h24⟩, o1, o2, ⟨h22, h21, h20, h25⟩, ec, ex⟩ := h
  have q1 : c = (c0 ++ (stp e ++ [(29, 0, p, [])])) ++ e2 := by
    rw [ec]
    simp only [List.append_assoc, List.cons_append, List.nil_append]
  have q2 : x = (c0 ++ (stp e ++ [((29, 0, p, []) : Ins)])).length := by
    rw [ex, List.length_append, List.length_append, stp_len, List.length_singleton]
    omega
  have q3 : plc c x = plh e2 := by rw [q1, q2, plc_app]
  refine ⟨stp e ++ (29, 0, p, []) :: (e2 ++ [(27, 0, plh e2, []), (14, 0, p, [])]), ?_, OM.in ⟨ht.1, ht.2, by rw [plh_stp _ _ o1.ne]; exact h21.symm, Or.inr (Or.inr (Or.inr (Or.inr (Or.inl (Or.inl ⟨h20, u, N1, u2, e, e2, h23, h24, o1, o2, by omega, Nat.le_refl _, Or.inl ⟨h25, by rw [h22]⟩⟩)))))⟩⟩
  rw [q3, ec]
  simp only [List.append_assoc, List.cons_append, List.nil_append]
/-- .. or written -/
theorem SFs.wr {W : St} {p : Int} {N1 N3 t t3 x : Nat} {e3 : List Ins} (h : SFs ch Y p N N1 t c0 c x) (ht : N ≤ t ∧ t < N1) (hN : N1 ≤ N3) (hX : KJq Y) (hk : KGq Y W) (h1 : ∀ e k, 20 ≤ e ∧ e ≤ 28 → k < N1 → ¬ (e = 25 ∧ k = t) → W.1 e k = Y.1 e k) (h2 : ∀ k, k < N1 → W.2.1 29 k = Y.2.1 29 k) (h25 : iv W 25 t = (t3 : Int)) (o3 : OM ch W N1 N3 t3 (c.length + 1) e3) : OMx ch W N N3 t c0 ((((c ++ [(27, 0, plc c x, [])]) ++ e3) ++ [(33, 0, plh e3, [])]) ++ [(15, 0, p, [])]) := by
  obtain ⟨u, u2, e, e2, ⟨h23, h24⟩, o1, o2, ⟨h22, h21, h20, _⟩, ec, ex⟩ := h
  have q1 : c = (c0 ++ (stp e ++ [(29, 0, p, [])])) ++ e2 := by
    rw [ec]
    simp only [List.append_assoc, List.cons_append, List.nil_append]
  have q2 : x = (c0 ++ (stp e ++ [((29, 0, p, []) : Ins)])).length := by
    rw [ex, List.length_append, List.length_append, stp_len, List.length_singleton]
    omega
  have q3 : plc c x = plh e2 := by rw [q1, q2, plc_app]
  have lc : c.length + 1 = c0.length + e.length + 1 + e2.length + 1 := by
    rw [q1, List.length_append, ← q2, ex]
  have g : ∀ a, 20 ≤ a ∧ a ≤ 28 → ¬ a = 25 → iv W a t = iv Y a t := fun a ha hn => by
    unfold iv
    rw [h1 a t ha ht.2 (by omega)]
  have p1 : OM ch W N t u c0.length e := o1.cg ⟨fun a k ha _ hk2 _ => h1 a k ha (by omega) (by omega), fun k _ hk2 => h2 k (by omega), KDk.oj hX hk.1⟩
  have p2 : OM ch W (t + 1) N1 u2 (c0.length + e.length + 1) e2 := o2.cg ⟨fun a k ha hk1 hk2 _ => h1 a k ha (by omega) (by omega), fun k _ hk2 => h2 k (by omega), KDk.oj hX hk.1⟩
  refine ⟨stp e ++ (29, 0, p, []) :: (e2 ++ (27, 0, plh e2, []) :: (e3 ++ [(33, 0, plh e3, []), (15, 0, p, [])])), ?_, OM.in ⟨ht.1, by omega, by rw [plh_stp _ _ o1.ne, g 21 (by omega) (by omega)]; exact h21.symm, Or.inr (Or.inr (Or.inr (Or.inr (Or.inl (Or.inl ⟨by rw [g 20 (by omega) (by omega)]; exact h20, u, N1, u2, e, e2, by rw [g 23 (by omega) (by omega)]; exact h23, by rw [g 24 (by omega) (by omega)]; exact h24, p1, p2, by omega, hN, Or.inr ⟨t3, e3, h25, by rw [← lc]; exact o3, by rw [g 22 (by omega) (by omega), h22]⟩⟩)))))⟩⟩
  rw [q3, ec]
  simp only [List.append_assoc, List.cons_append, List.nil_append]
/-- := e -/
theorem b_store {E : EF} (hE : SEq ch n (o + 1) E) {t N1 x : Nat} {p : Int} (gY : XS ch n Y q o sc (j + 1) N1) (mY : (Y.1 0 23).toInt = 2) (nY : NMr ch Y N1 c) (kY : KP X Y (j + 1) N sc.length) (hY : (Y.1 0 24).toInt = (t : Int)) (ht : N ≤ t ∧ t < N1) (k14 : ¬ (Y.1 20 t).toInt = 14) (hs : SFs ch Y p N N1 t c0 c x) (ho : 0 ≤ o ∧ o ≤ 40) (hty : ty ch q = 256) (h10 : (Y.1 20 t).toInt = 10) (H : HH (DQ Q) (CUq ch n X o sc j N c0 Q) ((sEnter ch 256 o q).bind fun q3 => (E (o + 1) sc q3 (c ++ [(27, 0, plc c x, [])])).bind fun s => some (s.1, (s.2 ++ [(33, 0, plc s.2 (c.length + 1), [])]) ++ [(15, 0, p, [])]))) : pr Y Q := by
  have hc2 : ∀ p, NPl (c ++ [((27, 0, plc c x, []) : Ins)]) p ↔ NPl c p := fun p => NPl.snoc (show ¬ (27 : Int) = 4 by decide)
  have l1 : (1 : Int32).toInt = 1 := by decide
  have hi : ix (Y.1 0 24) = t := ixn hY
  refine pr_2 gY mY ?_
  unfold f_behind
  refine pw_let ?_
  rw [hi]
  refine pw_ck (fun _ => pw_let (pw_neg (by omega) (pw_ck (fun _ => pw_let (pw_pos h10 ?_)))))
  unfold f_behind_27 f_behind_32
  have l40 : (40 : Int32).toInt = 40 := by decide
  have l91 : (91 : Int32).toInt = 91 := by decide
  refine pw_bd (q_isSign gY.1 (by decide)) ?_
  rintro x3 X4 ⟨rfl, h3⟩
  rw [l40] at h3
  refine pw_pos (h3.mpr (by omega)) ?_
  refine pw_bd (q_isSign gY.1 (by decide)) ?_
  rintro x26 X27 ⟨rfl, h26⟩
  rw [l91] at h26
  refine pw_pos (h26.mpr (by omega)) ?_
  refine pw_bd (q_well gY.w0) ?_
  rintro x28 X29 ⟨rfl, h28⟩
  refine pw_neg h28 (pw_let ?_)
  have tk : (X29.1 0 7).toInt = 4 ∧ (X29.2.1 0 47).toInt = 1000 := by
    obtain ⟨_, _, t⟩ := gY.tk
    omega
  refine pw_pos tk.1 (pw_let (pw_let ?_))
  have l1000 : (1000 : Int64).toInt = 1000 := by decide
  refine pw_pos (by rw [cmp0, ← Int64.toInt_inj, l1000]; exact tk.2) ?_
  rw [hi]
  refine pw_ck (fun _ => pw_let (pw_pos h10 ?_))
  refine pw_bd (x_nests gY ho) ?_
  rintro _ X35 (⟨ho1, g35, t35⟩ | ⟨ho1, hd⟩)
  · have H := H.b.en ⟨hty, ho1⟩
    refine pw_bd (q_well g35.w0) ?_
    rintro x36 X37 ⟨rfl, h36⟩
    refine pw_neg h36 ?_
    refine pw_bd (x_next g35) ?_
    rintro _ X38 ⟨g38, t38⟩
    refine pw_bd (x_enter g38 14 _) ?_
    rintro _ X39 ⟨g39, n39⟩
    refine pw_eq (fun X40 e40 => ?_)
    refine pw_ret ?_
    have tt := t35.tr t38
    have g40 : XS ch n X40 (nx ch q) (o + 1) sc (j + 1 + 1) N1 := by rw [e40]; exact g39.wI (by omega)
    have m40 : NMr ch X40 N1 (c ++ [(27, 0, plc c x, [])]) := by rw [e40]; exact (((nY.tn tt).en n39).wI (by omega)).cd hc2
    have k40 : KP X X40 (j + 1) N sc.length := by rw [e40]; exact ((kY.tn tt).en n39 (Nat.le_refl _)).wI (by unfold KPs; omega)
    have k40y : KP X29 X40 (j + 1) N1 sc.length := by rw [e40]; exact ((KP.rf.tn tt).en n39 (Nat.le_refl _)).wI (by unfold KPs; omega)
    have f35 : X40.1 35 (j + 1) = 14 := by rw [e40, wI_ne _ _ _ _ _ _ (by omega)]; exact n39.2.2.1
    have f36 : X40.1 36 (j + 1) = X29.1 0 24 := by rw [e40, wI_ne _ _ _ _ _ _ (by omega)]; exact n39.2.2.2.1
    have f20 : X40.1 20 t = X29.1 20 t := by rw [e40, wI_ne _ _ _ _ _ _ (by omega), n39.1 20 t (by omega) (by omega), tt.r 20 t (by decide)]
    have l14 : (14 : Int32).toInt = 14 := by decide
    refine hE sc (nx ch q) (c ++ [(27, 0, plc c x, [])]) (j + 1) N1 X40 Q g40 (by rw [e40, wI_at]; rfl) ⟨⟨by rw [f35]; decide, by rw [f35]; decide⟩, fun e => by rw [f35] at e; exact absurd e (by decide), fun e => by rw [f35] at e; exact absurd e (by decide)⟩ m40 (by omega) (by omega) (H.b.m (fun a H => ?_))
    rintro W ⟨N3, t3, gW, mW, kW, hW, h1, h2, e3, ee3, eo3⟩
    have H := H.s
    have kq := kW.1
    have w35 : (W.1 35 (j + 1)).toInt = 14 := by rw [kq 35 (j + 1) (by unfold KPs; omega), f35, l14]
    have w36 : W.1 36 (j + 1) = X29.1 0 24 := by rw [kq 36 (j + 1) (by unfold KPs; omega), f36]
    have w20 : W.1 20 t = X29.1 20 t := by rw [kq 20 t (by unfold KPs; omega), f20]
    have kk := k40.tr (kW.mono (by omega) (by omega) (Nat.le_refl _))
    refine prE_w gW w35 (by omega) (fun x2 v2 i2 => ?_)
    unfold f_endsWithin
    rw [i2, w36, hi]
    refine pw_ck (fun _ => pw_let ?_)
    refine pw_neg (by omega) (pw_neg (by omega) (pw_neg (by omega) (pw_neg (by omega) (pw_neg (by omega) (pw_pos w35 ?_)))))
    refine pw_let (pw_ck (fun _ => ?_))
    refine pw_eq (fun X26 e26 => ?_)
    have g26 : XS ch n X26 a.1 (o + 1) sc (j + 1 + 1) N3 := by rw [e26]; exact gW.wI (by omega)
    refine pw_let ?_
    refine pw_eq (fun x28 e28 => ?_)
    have v28 : x28.toInt = o := by rw [e28, ti_sub (by rw [g26.2.1, l1]; omega) (by rw [g26.2.1, l1]; omega), g26.2.1, l1]; omega
    refine pw_eq (fun Y29 e29 => ?_)
    have g29 : XS ch n Y29 a.1 o sc (j + 1 + 1) N3 := by rw [e29]; exact g26.w21 v28
    have h22 := (g29.fe (by omega))
    refine pw_let ?_
    refine pw_eq (fun x31 e31 => ?_)
    have v31 : x31.toInt = ((j + 1 : Nat) : Int) := by
      rw [e31, ti_sub (by rw [h22, l1]; omega) (by rw [h22, l1]; have := Int32.toInt_lt (Y29.1 0 22); omega), h22, l1]
      omega
    refine pw_eq (fun Y32 e32 => ?_)
    have g32 : XS ch n Y32 a.1 o sc (j + 1) N3 := by rw [e32]; exact g29.w22 v31
    refine pw_eq (fun Y33 e33 => ?_)
    refine pw_eq (fun Y34 e34 => ?_)
    refine pw_ret ?_
    have g34 : XS ch n Y34 a.1 o sc (j + 1) N3 := by rw [e34, e33]; exact (g32.wI (by omega)).wI (by omega)
    have c24 : Y34.1 0 24 = X29.1 0 24 := by rw [e34, wI_ne _ _ _ _ _ _ (by omega), e33, wI_at]
    have c20 : Y34.1 20 t = X29.1 20 t := by rw [e34, wI_ne _ _ _ _ _ _ (by omega), e33, wI_ne _ _ _ _ _ _ (by omega), e32, wI_ne _ _ _ _ _ _ (by omega), e29, wI_ne _ _ _ _ _ _ (by omega), e26, wI_ne _ _ _ _ _ _ (by omega), w20]
    have kyw : KP X29 W (j + 1) N1 sc.length := k40y.tr (kW.mono (by omega) (Nat.le_refl _) (Nat.le_refl _))
    have r34 : ∀ e k, 20 ≤ e → ¬ (e = 25 ∧ k = t) → Y34.1 e k = W.1 e k := fun e k he hk => by rw [e34, wI_ne _ _ _ _ _ _ (by omega), e33, wI_ne _ _ _ _ _ _ (by omega), e32, wI_ne _ _ _ _ _ _ (by omega), e29, wI_ne _ _ _ _ _ _ (by omega), e26, wI_ne _ _ _ _ _ _ (by omega)]
    have l34 : ∀ k, Y34.2.1 29 k = W.2.1 29 k := fun k => by rw [e34, e33, e32, e29, e26]; rfl
    have kg : KGq W Y34 := KGq.of (fun e k q => by rw [e34, wI_ne _ _ _ _ _ _ (by omega), e33, wI_ne _ _ _ _ _ _ (by omega), e32, wI_ne _ _ _ _ _ _ (by omega), e29, wI_ne _ _ _ _ _ _ (by omega), e26, wI_ne _ _ _ _ _ _ (by omega)])
    have r25 : iv Y34 25 t = (t3 : Int) := by unfold iv; rw [e34, wI_ne _ _ _ _ _ _ (by omega), e33, wI_ne _ _ _ _ _ _ (by omega), e32, wI_ne _ _ _ _ _ _ (by omega), e29, wI_ne _ _ _ _ _ _ (by omega), e26, wI_at]; exact hW
    have l2 : (c ++ [((27, 0, plc c x, []) : Ins)]).length = c.length + 1 := by rw [List.length_append, List.length_singleton]
    have o3 : OM ch Y34 N1 N3 t3 (c.length + 1) e3 := by
      rw [← l2]
      exact eo3.cg ⟨fun e k he k1 k2 _ => r34 e k (by omega) (by omega), fun k _ _ => l34 k, KDk.oj gW.kj kg.1⟩
    have fo := hs.wr (W := Y34) ht (by omega) gY.kj (kyw.2.2.2.tr kg) (fun e k he hk hn => by rw [r34 e k (by omega) hn]; exact kyw.1 e k (by unfold KPs; omega)) (fun k hk => by rw [l34 k]; exact kyw.2.1 k hk) r25 o3
    have pe : plc a.2 (c.length + 1) = plh e3 := by rw [ee3, ← l2, plc_app]
    refine pr_3 g34 (by rw [e34, wI_at]; decide) (H Y34 ⟨N3, t, g34, ?_, ?_, by rw [c24]; exact hY, ht.1, by omega, ?_⟩ (by rw [c24, hi, c20]; exact k14))
    · rw [e34, e33, e32, e29, e26]
      exact (((((mW.wI (by omega)).wI (by omega)).wI (by omega)).wI (by omega)).wI (by omega)).cd (fun p => (NPl.snoc (show ¬ (15 : Int) = 4 by decide)).trans (NPl.snoc (show ¬ (33 : Int) = 4 by decide)))
    · rw [e34, e33, e32, e29, e26]
      exact ((((kk.wI (by unfold KPs; omega)).wI (by unfold KPs; omega)).wI (by unfold KPs; omega)).wI (by unfold KPs; omega)).wI (by unfold KPs; omega)
    · show ∃ d, (a.2 ++ [(33, 0, plc a.2 (c.length + 1), [])]) ++ [(15, 0, p, [])] = c0 ++ d ∧ _
      rw [pe, ee3]
      exact fo
  · have hQ := H.b.en0 (fun z => ho1 z.2)
    refine pw_bd (q_isWell X35) ?_
    rintro x36 X37 ⟨rfl, h36⟩
    exact pw_pos (h36.mpr hd) (pw_ret (pr_dd hd hQ))
/-- a bracket closes -/
theorem b_shut3 {v r : Int32} {t N1 q1 : Nat} (hv : 33 ≤ v.toInt ∧ v.toInt ≤ 125) (hZ : XS ch n Z q1 (o + 1) sc (j + 1 + 1) N1) (ho : 0 ≤ o ∧ o ≤ 40) (hM : NMr ch Z N1 c1) (hr : r.toInt = (t : Int)) (H : HH (DQ Q) (fun q2 => ∀ W, XS ch n W q2 o sc (j + 1) N1 → NMr ch W N1 c1 → KP Z W (j + 1) N1 sc.length → (W.1 0 24).toInt = (t : Int) → (W.1 0 23).toInt = 2 → pr W Q) (sWant ch v.toInt q1)) : pw (f_shuts v r Z) (fun _ W => pr W Q) := by
  have l1 : (1 : Int32).toInt = 1 := by decide
  unfold f_shuts
  refine pw_bd (x_closes hZ ⟨by omega, by omega⟩ hv) ?_
  rintro _ X1 (⟨hty, g1, t1⟩ | ⟨hty, hd⟩)
  · rw [show o + 1 - 1 = o by omega] at g1
    have h22 := (g1.fe (by omega))
    refine pw_let ?_
    refine pw_eq (fun x3 e3 => ?_)
    refine pw_eq (fun X4 e4 => ?_)
    have v3 : x3.toInt = ((j + 1 : Nat) : Int) := by
      rw [e3, ti_sub (by rw [h22, l1]; omega) (by rw [h22, l1]; have := Int32.toInt_lt (X1.1 0 22); omega), h22, l1]
      omega
    have g4 : XS ch n X4 (nx ch q1) o sc (j + 1) N1 := by rw [e4]; exact g1.w22 v3
    have m4 : NMr ch X4 N1 c1 := by rw [e4]; exact (hM.tn t1).wI (by omega)
    have k4 : KP Z X4 (j + 1) N1 sc.length := by rw [e4]; exact (KP.rf.tn t1).wI (by unfold KPs; omega)
    unfold f_done
    refine pw_bd (R := fun _ W => pr W Q) ?_ (fun _ W h => pw_ret h)
    refine pw_eq (fun X5 e5 => ?_)
    refine pw_eq (fun X6 e6 => ?_)
    refine pw_ret ?_
    refine H.wa hty X6 ?_ ?_ ?_ ?_ ?_
    · rw [e6, e5]; exact (g4.wI (by omega)).wI (by omega)
    · rw [e6, e5]; exact (m4.wI (by omega)).wI (by omega)
    · rw [e6, e5]; exact (k4.wI (by unfold KPs; omega)).wI (by unfold KPs; omega)
    · rw [e6, wI_ne _ _ _ _ _ _ (by omega), e5, wI_at]; exact hr
    · rw [e6, wI_at]; decide
  · have hQ := H.wa0 hty
    refine pw_let ?_
    refine pw_eq (fun x3 e3 => ?_)
    refine pw_eq (fun X4 e4 => ?_)
    have d4 : wrX X4 := by rw [e4]; exact wrX_w hd (by omega)
    exact pw_bd (uw_done d4) (fun _ W d => pw_ret (pr_dd d hQ))
end RSUF
