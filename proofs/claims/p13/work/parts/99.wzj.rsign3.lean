/-! the reference reads signs between operands -/
section RSIGN3
variable {ch : Tx} {n q : Nat} {X Y Z X0 : St} {o : Int} {sc : List Nm} {j N N1 s N0 : Nat} {Q : Int32 → St → Prop} {c c0 c1 : List Ins} {cn : Int → Int}
theorem lvl_sg {s : Int} (h : ¬ lvl s = 0) : 33 ≤ s ∧ s ≤ 125 := by
  refine Classical.byContradiction (fun g => h ?_)
  unfold lvl
  rw [if_neg (by omega), if_neg (by omega), if_neg (by omega)]
theorem WTq.ct {cn' : Int → Int} : ∀ ws : List Wt, (∀ w ∈ ws, 2 ≤ lvl w.1 → cn' (lvl w.1) = cn (lvl w.1)) → WTq Y j N N1 cn ws → WTq Y j N N1 cn' ws := by
  intro ws
  induction ws with
  | nil => exact fun _ _ => trivial
  | cons w ws ih =>
    rintro hc ⟨⟨a, t, b, h1, h2, d, e, f, g⟩, h⟩
    exact ⟨⟨a, t, b, h1, h2, d, e, f, fun z => (g z).trans (hc w (List.mem_cons_self ..) z).symm⟩, ih (fun w hw => hc w (List.mem_cons_of_mem _ hw)) h⟩
theorem sg_lv {ws : List Wt} {d : Option Wt} {t f : Nat} (h : SGq ch n X Y q o sc j N N1 cn c0 f c ws d t) (H : ∀ b0 : Int32, b0.toInt = lvl (ty ch q) → pw (f_signs_90 b0 Y) (fun _ Z => pr Z Q)) : prS Y Q := by
  obtain ⟨⟨g, m0, k⟩, W, hh, hd, hb, _⟩ := h
  have gt : XS ch n Y q o sc (j + ws.length + 1) N1 := by rw [show j + ws.length + 1 = j + 1 + ws.length by omega]; exact g
  have n15 : ¬ (Y.1 35 (j + ws.length)).toInt = 15 := by
    cases ws with
    | nil => exact hb.1
    | cons w ws =>
      have w16 := W.1.1
      rw [show j + (w :: ws).length = j + 1 + ws.length by rw [List.length_cons]; omega]
      omega
  refine prS_st (fun M => ?_)
  unfold f_signs_0_s
  refine pw_let (pw_eq (fun x2 e2 => ?_))
  rw [(gt.tp e2).2]
  refine pw_ck (fun _ => pw_let (pw_neg n15 ?_))
  refine pw_bd (q_well g.w0) ?_
  rintro x4 X5 ⟨e5, h4⟩
  rw [e5]
  refine pw_neg h4 (pw_let ?_)
  have tk := g.tk.2.2
  refine pw_ite (fun c => ?_) (fun c => ?_)
  · refine pw_let ?_
    refine pw_bd (x_lev _ Y (Y.2.1 0 47).toInt rfl) ?_
    rintro x38 X39 ⟨e39, h38⟩
    rw [e39]
    refine H x38 ?_
    rw [h38]
    have tt : (ty ch q = 256 ∧ (Y.2.1 0 47).toInt = 1000) ∨ (Y.2.1 0 47).toInt = ty ch q := by omega
    rcases tt with ⟨t1, t2⟩ | t1
    · rw [t1, t2]; decide
    · rw [t1]
  · unfold f_signs_89
    refine H 0 ?_
    refine Eq.symm (Classical.byContradiction (fun z => ?_))
    have := lvl_sg (s := ty ch q) (fun e => z (by rw [e]; decide))
    omega
theorem sg_off {b0 : Int32} {ws : List Wt} {d : Option Wt} {t f : Nat} (hb : b0.toInt = 0) (h : SGq ch n X Y q o sc j N N1 cn c0 f c ws d t) (hw : wpop 1 ws = []) (H : CEq ch n X o sc j N c0 Q (q, (sPop 1 ws f c).2.2)) : pw (f_signs_90 b0 Y) (fun _ Z => pr Z Q) := by
  unfold f_signs_90
  refine pw_pos (by omega) ?_
  unfold f_signs_109
  refine pw_neg (by omega) ?_
  unfold f_signs_134 f_signs_135
  exact pw_pos hb (sg_end h hw H)
theorem sg_new {a1 a3 b0 : Int32} {ws : List Wt} {d : Option Wt} {t f : Nat} {lv m : Int} (h : SGq ch n X Y q o sc j N N1 cn c0 f c ws d t) (ha : a1.toInt = lv) (hl : lvl (ty ch q) = lv) (hl1 : 1 ≤ lv) (h3 : a3 = Y.1 0 24) (hb0 : b0.toInt = if lv = 1 then 15 else 14) (hm : 1 ≤ m ∧ m ≤ 41) (Hm : (lv = 1 → m = 1) ∧ (2 ≤ lv → (∃ w : Wt, d = some w ∧ lvl w.1 = lv ∧ m = cn lv + 1) ∨ ((∀ w : Wt, d = some w → ¬ lvl w.1 = lv) ∧ m = 1))) (H0 : 40 < m → DQ Q) (H1 : m ≤ 40 → ∀ Z, XS ch n Z (nx ch q) o sc (j + 1 + ws.length + 1) (N1 + 1) → (Z.1 0 23).toInt = 1 → NMr ch Z (N1 + 1) c → KP X Z (j + 1) N sc.length → (∀ cn' : Int → Int, (∀ w ∈ ws, 2 ≤ lvl w.1 → cn' (lvl w.1) = cn (lvl w.1)) → (2 ≤ lv → cn' lv = m) → ∀ f g, WTq Z (j + 1) N (N1 + 1) cn' ((ty ch q, f, g) :: ws)) → (¬ (Z.1 35 j).toInt = 15 ∧ ¬ (Z.1 35 j).toInt = 16) → WTo ch Z (j + 1) c0 N ((ty ch q, (pl ch q : Int), f) :: ws) (c ++ [(27, 0, plc c f, [])]) (N1 + 1) → pr Z Q) : pw (f_signs_172 a1 a3 b0 Y) (fun _ Z => pr Z Q) := by
  obtain ⟨⟨g, m0, k⟩, W, ⟨hh, ht1, ht2⟩, hd, hb, P, lo, e0, hwt, hc0, hf0, ho0⟩ := h
  have hlo := ho0.bd
  have i3 : ix a3 = t := by rw [h3]; exact ixn hh
  have l1 : (1 : Int32).toInt = 1 := by decide
  have l16 : (16 : Int32).toInt = 16 := by decide
  have l3 : ¬ (3 : Int32).toInt = 0 := by decide
  have hty := lvl_sg (s := ty ch q) (by omega)
  have hb3 : ¬ b0.toInt = 3 := by
    rw [hb0]
    by_cases e : lv = 1
    · rw [if_pos e]; decide
    · rw [if_neg e]; decide
  unfold f_signs_172
  rw [i3]
  refine pw_ck (fun _ => pw_let ?_)
  refine pw_bd (pw_and (x_make g b0 _) (x_make21 g b0 _)) ?_
  rintro x10 X11 ⟨⟨⟨hr, hi⟩, g11, m11⟩, p11⟩
  refine pw_let ?_
  rw [hi]
  refine pw_ck (fun _ => pw_eq (fun X13 e13 => ?_))
  have g13 : XS ch n X13 q o sc (j + 1 + ws.length) (N1 + 1) := by rw [e13]; exact g11.wI (by omega)
  refine pw_let (pw_eq (fun x15 e15 => ?_))
  have v15 : x15.toInt = ty ch q := by
    have told : (X13.2.1 0 47).toInt = ty ch q := by
      have t := g13.tk.2.2
      omega
    rw [e15, Int64.toInt_toInt32]
    exact (Int.bmod_eq_of_le (by omega) (by omega)).trans told
  refine pw_ck (fun _ => pw_eq (fun X16 e16 => ?_))
  refine pw_ck (fun _ => pw_eq (fun X17 e17 => ?_))
  have r17 : ∀ e m, 20 ≤ e → ¬ m = N1 → X17.1 e m = Y.1 e m := fun e m he hm => by rw [e17, wI_ne _ _ _ _ _ _ (by omega), e16, wI_ne _ _ _ _ _ _ (by omega), e13, wI_ne _ _ _ _ _ _ (by omega), m11.1 e m (by omega) (by omega)]
  have f17 : ∀ e m, 35 ≤ e → ¬ e = 39 → X17.1 e m = Y.1 e m := fun e m he hm => by rw [e17, wI_ne _ _ _ _ _ _ (by omega), e16, wI_ne _ _ _ _ _ _ (by omega), e13, wI_ne _ _ _ _ _ _ (by omega), m11.1 e m (by omega) (by omega)]
  have n20 : X17.1 20 N1 = b0 := by rw [e17, wI_ne _ _ _ _ _ _ (by omega), e16, wI_ne _ _ _ _ _ _ (by omega), e13, wI_ne _ _ _ _ _ _ (by omega)]; exact m11.2.2.1
  have n26 : X17.1 26 N1 = x15 := by rw [e17, wI_ne _ _ _ _ _ _ (by omega), e16, wI_at]
  have g17 : XS ch n X17 q o sc (j + 1 + ws.length) (N1 + 1) := by rw [e17, e16]; exact (g13.wI (by omega)).wI (by omega)
  have m17 : NMr ch X17 (N1 + 1) c := by rw [e17, e16, e13]; exact (((m0.mk m11 hb3).wI (by omega)).wI (by omega)).wI (by omega)
  have k17 : KP X X17 (j + 1) N sc.length := by rw [e17, e16, e13]; exact (((k.mk m11 (by omega)).wI (by unfold KPs; omega)).wI (by unfold KPs; omega)).wI (by unfold KPs; omega)
  have k17y : KP Y X17 (j + 1 + ws.length) N1 sc.length := by rw [e17, e16, e13]; exact (((KP.rf.mk m11 (Nat.le_refl _)).wI (by unfold KPs; omega)).wI (by unfold KPs; omega)).wI (by unfold KPs; omega)
  have s21 : X17.1 21 N1 = Y.1 21 t := by rw [e17, wI_ne _ _ _ _ _ _ (by omega), e16, wI_ne _ _ _ _ _ _ (by omega), e13, wI_ne _ _ _ _ _ _ (by omega)]; exact p11
  have s22 : (X17.1 22 N1).toInt = (pl ch q : Int) := by rw [e17, wI_ne _ _ _ _ _ _ (by omega), e16, wI_ne _ _ _ _ _ _ (by omega), e13, wI_at]; exact g11.tk.2.1
  have s23 : (X17.1 23 N1).toInt = (t : Int) := by rw [e17, wI_at, h3]; exact hh
  have core : ∀ v : Int32, v.toInt = m → pw (f_signs_262 x10 v x10 X17) (fun _ Z => pr Z Q) := by
    intro v hv
    unfold f_signs_262
    rw [hi]
    refine pw_ck (fun _ => pw_eq (fun X18 e18 => pw_ck (fun _ => ?_)))
    have at18 : X18.1 39 N1 = v := by rw [e18, wI_at]
    refine pw_let ?_
    rw [at18]
    have l40 : (40 : Int32).toInt = 40 := by decide
    refine pw_ite (fun c => ?_) (fun c => ?_)
    · have g18 : XS ch n X18 q o sc (j + 1 + ws.length) (N1 + 1) := by rw [e18]; exact g17.wI (by omega)
      unfold f_signs_284
      refine pw_bd (x_enter g18 16 x10) ?_
      rintro _ X20 ⟨g20, n20'⟩
      refine pw_bd (x_next g20) ?_
      rintro _ X21 ⟨g21, t21⟩
      refine pw_eq (fun X22 e22 => pw_ret ?_)
      have r22 : ∀ e m, 20 ≤ e → ¬ ((35 ≤ e ∧ e ≤ 38) ∧ m = j + 1 + ws.length) → X22.1 e m = X18.1 e m := fun e m he hm => by rw [e22, wI_ne _ _ _ _ _ _ (by omega), t21.r e m (by omega), n20'.1 e m (by omega) hm]
      have r18 : ∀ e m, 20 ≤ e → ¬ (e = 39 ∧ m = N1) → X18.1 e m = X17.1 e m := fun e m he hm => by rw [e18, wI_ne _ _ _ _ _ _ (by omega)]
      have f35 : X22.1 35 (j + 1 + ws.length) = 16 := by rw [e22, wI_ne _ _ _ _ _ _ (by omega), t21.r 35 _ (by omega)]; exact n20'.2.2.1
      have f36 : X22.1 36 (j + 1 + ws.length) = x10 := by rw [e22, wI_ne _ _ _ _ _ _ (by omega), t21.r 36 _ (by omega)]; exact n20'.2.2.2.1
      have k22y : KP Y X22 (j + 1 + ws.length) N1 sc.length := by
        rw [e22]
        refine KP.wI (KP.tn (KP.en ?_ n20' (by omega)) t21) (by unfold KPs; omega)
        rw [e18]
        exact k17y.wI (by unfold KPs; omega)
      refine H1 (by omega) X22 (by rw [e22]; exact g21.wI (by omega)) (by rw [e22, wI_at]; exact l1) ?_ ?_ ?_ ?_ ?_
      · rw [e22]
        refine (((NMr.tn ?_ t21))).wI (by omega)
        refine NMr.en ?_ n20'
        rw [e18]
        exact m17.wI (by omega)
      · rw [e22]
        refine KP.wI (KP.tn (KP.en ?_ n20' (by omega)) t21) (by unfold KPs; omega)
        rw [e18]
        exact k17.wI (by unfold KPs; omega)
      · intro cn' hcn hlv f g
        refine ⟨⟨by rw [f35]; exact l16, N1, by rw [f36]; exact hr, by omega, by omega, ?_, by rw [hl]; exact hl1, ?_, ?_⟩, ?_⟩
        · rw [r22 26 N1 (by omega) (by omega), r18 26 N1 (by omega) (by omega), n26]; exact v15
        · rw [r22 20 N1 (by omega) (by omega), r18 20 N1 (by omega) (by omega), n20]
          show b0.toInt = if lvl (ty ch q) = 1 then 15 else 14
          rw [hl]; exact hb0
        · intro z
          rw [r22 39 N1 (by omega) (by omega), at18]
          show v.toInt = cn' (lvl (ty ch q))
          rw [hl, hlv (by rw [← hl]; exact z)]; exact hv
        · refine WTq.fr ws (WTq.ct ws hcn W) (by omega) (fun k hk => ⟨?_, ?_⟩) (fun k h1 h2 => ⟨?_, ?_, ?_⟩)
          · rw [r22 35 k (by omega) (by omega), r18 35 k (by omega) (by omega)]; exact f17 35 k (by omega) (by omega)
          · rw [r22 36 k (by omega) (by omega), r18 36 k (by omega) (by omega)]; exact f17 36 k (by omega) (by omega)
          · rw [r22 20 k (by omega) (by omega), r18 20 k (by omega) (by omega)]; exact r17 20 k (by omega) (by omega)
          · rw [r22 26 k (by omega) (by omega), r18 26 k (by omega) (by omega)]; exact r17 26 k (by omega) (by omega)
          · rw [r22 39 k (by omega) (by omega), r18 39 k (by omega) (by omega)]; exact r17 39 k (by omega) (by omega)
      · rw [r22 35 j (by omega) (by omega), r18 35 j (by omega) (by omega), f17 35 j (by omega) (by omega)]
        exact hb
      · have z : ∀ a, 20 ≤ a ∧ a ≤ 28 → iv X22 a N1 = iv X17 a N1 := fun a ha => by unfold iv; rw [r22 a N1 (by omega) (by omega), r18 a N1 (by omega) (by omega)]
        refine ⟨P, lo, N1, t, e0, WTo.fr g.kj k22y.2.2.2 ws P lo hwt (fun a k ha hk => k22y.1 a k (by unfold KPs; omega)) (fun k hk => k22y.2.1 k (by omega)) (fun k hk => k22y.1 36 k (by unfold KPs; omega)), WTo.nn ws P lo hwt, by rw [f36]; exact hr, rfl, by rw [z 23 (by omega)]; exact s23, ho0.kp k22y g.kj (Nat.le_refl _), ?_, by rw [z 22 (by omega)]; exact s22, hf0, ?_⟩
        · rw [z 21 (by omega), hlo.2.2]
          unfold iv
          rw [s21]
        · rw [hf0, hc0, plc_app]
          simp only [List.append_assoc]
    · refine pw_let (pw_bd (q_fails X18 l3) ?_)
      rintro _ X24 hd
      exact pw_mono (uw_signs_284 hd) (fun _ _ d => pr_dd d (H0 (by omega)))
  have t20 : X17.1 20 t = Y.1 20 t := r17 20 t (by omega) (by omega)
  have t26 : X17.1 26 t = Y.1 26 t := r17 26 t (by omega) (by omega)
  have t39 : X17.1 39 t = Y.1 39 t := r17 39 t (by omega) (by omega)
  have one : m = 1 → pw (f_signs_261 x10 x10 X17) (fun _ Z => pr Z Q) := by
    intro e
    unfold f_signs_261
    exact core 1 (by rw [e]; exact l1)
  refine pw_ite (fun c1 => one (Hm.1 (by omega))) (fun c1 => ?_)
  refine pw_ck (fun _ => pw_let ?_)
  rw [t20]
  rcases Hm.2 (by omega) with ⟨w, hw, hwl, hm1⟩ | ⟨hno, hm1⟩
  · rw [hw] at hd
    obtain ⟨d26, d20, d39⟩ := hd
    rw [if_neg (by omega)] at d20
    refine pw_pos d20 (pw_ck (fun _ => pw_let (pw_let ?_)))
    refine pw_bd (x_lev _ X17 w.1 (by rw [Int32.toInt_toInt64, t26]; exact d26)) ?_
    rintro x28 X29 ⟨e29, h28⟩
    rw [e29]
    refine pw_pos (by omega) (pw_ck (fun _ => pw_let (pw_eq (fun x31 e31 => core x31 ?_))))
    have d := d39 (by omega)
    rw [hwl] at d
    rw [e31, t39, ti_add (by rw [d, l1]; omega) (by rw [d, l1]; omega), d, l1]
    omega
  · refine pw_ite (fun c14 => ?_) (fun _ => one hm1)
    refine pw_ck (fun _ => pw_let (pw_let ?_))
    cases d with
    | none => exact absurd c14 hd
    | some w =>
      obtain ⟨d26, d20, d39⟩ := hd
      refine pw_bd (x_lev _ X17 w.1 (by rw [Int32.toInt_toInt64, t26]; exact d26)) ?_
      rintro x28 X29 ⟨e29, h28⟩
      rw [e29]
      have := hno w rfl
      exact pw_neg (by omega) (one hm1)
end RSIGN3
