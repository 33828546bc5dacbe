/-! the reference reads rows told in place, and calls' params -/
section RLISTS
variable {ch : Tx} {n q : Nat} {X Y Z X0 : St} {o : Int} {sc : List Nm} {j N s N0 : Nat} {Q : Int32 → St → Prop} {c c0 c1 cb : List Ins} {NM : Prop}
theorem CBq.cl {t q2 m : Nat} {sp : Nat → List Ins → List Ins → Prop} {cf : List Ins} (h : CBq ch n X o sc j N c0 NM Q (q2, cf)) (hcf : ∀ p, NPl cf p ↔ NPl c1 p) (hK : KP X Z (j + 1) N sc.length) (ht : N ≤ t) (hv : (¬ (Z.1 20 t).toInt = 10 ∧ ¬ (Z.1 20 t).toInt = 11 ∧ ¬ (Z.1 20 t).toInt = 14) ∧ ((Z.1 20 t).toInt = 3 ↔ NM)) (hO : ∀ (W : St) (N3 : Nat) (es : Els), KP Z W (j + 1) t sc.length → KJq W → t < N3 → TFx Z W t → es.length = m → CHq ch W t N3 sp cb c1 es → ∃ d, cf = c0 ++ d ∧ OM ch W N N3 t c0.length d) : CLq ch n Z o sc j t m sp cb Q (q2, c1) := by
  intro W N3 es gW mW kW htN h24 h23 hT hm hC
  refine h W ⟨N3, t, gW, mW.cd hcf, hK.tr (kW.mono (Nat.le_refl _) ht (Nat.le_refl _)), h24, ht, htN, hO W N3 es kW gW.kj htN hT hm hC⟩ h23 ?_
  rw [ixn h24, hT 20 (by omega)]
  exact hv
/-- the first item of a frame -/
theorem b_first {E : EF} (hE : SEq ch n (o + 1) E) (hn : NBq ch E) {t q1 : Nat} {p1 r : Int32} {k cl ask : Int} {sp : Nat → List Ins → List Ins → Prop} (hp : p1.toInt = k) (hr : r.toInt = (t : Int)) (hk : (k = 8 ∧ cl = 93) ∨ (k = 12 ∧ cl = 41)) (hask : ¬ ask = 4) (hsp : ∀ (m : Nat) (e : List Ins), sp m e [(ask, (m : Int), plh e, [])]) (ho : 0 ≤ o ∧ o < 40) (hZ : XS ch n Z q1 (o + 1) sc (j + 1) (t + 1)) (hM : NMr ch Z (t + 1) c) (h27 : (Z.1 27 t).toInt = 0) (hz : ¬ ty ch q1 = cl) {most : Nat} (hm : (k = 8 → most = 20) ∧ (k = 12 → most = 4)) (H : HH (DQ Q) (fun b : Nat × Out => CLq ch n Z o sc j t b.1 sp c Q b.2) (sList1 ch E o sc cl ask (most + 1) 0 q1 c)) : pw (f_opened p1 r Z) (fun _ W => pr W Q) := by
  refine pw_mono (x_opened hZ p1 r) ?_
  rintro _ W ⟨gW, mW, oW⟩
  have rr : ∀ e, (20 ≤ e ∧ e ≤ 34) ∨ e = 39 → W.1 e t = Z.1 e t := fun e he => oW.1 e t (by omega) (by omega)
  refine b_items hE hn hr hk hask hsp ho most q1 W (t + 1) c [] ⟨gW, mW, hM.op oW, KP.rf.op oW (Nat.le_refl _), ⟨by rw [oW.2.2.1]; exact hp, oW.2.2.2.1, oW.2.2.2.2⟩, by omega, fun e he => rr e (by omega), ⟨trivial, by unfold iv; rw [rr 27 (by omega), h27]; rfl, fun a ha => absurd ha List.not_mem_nil, (List.append_nil _).symm, rfl⟩⟩ (fun e => by have := hm.1 e; omega) (fun e => by have := hm.2 e; omega) (fun z => hz z.2) H
theorem plc_st {p : Int} (e : List Ins) : plc ((c0 ++ [(0, 1, p, [])]) ++ e) c0.length = p := by
  rw [List.append_assoc, plc_app]
  rfl
/-- [ e , e .. ] -/
theorem b_list {E : EF} (hE : SEq ch n (o + 1) E) (hnm : ¬ NM) (hn : NBq ch E) (h : XS ch n X q o sc (j + 1) N) (hM : NMr ch X N c) (ho : 0 ≤ o ∧ o ≤ 40) (hty : ty ch q = 91) {p1 : Int32} (hp1 : p1.toInt = (pl ch q : Int)) (hc : c = c0 ++ [(0, 1, (pl ch q : Int), [])]) {f : Nat} (hf : f = c0.length) (H : HH (DQ Q) (CBq ch n X o sc j N c0 NM Q) ((sList ch E o sc 93 20 36 q c).bind fun r => some (r.2.1, r.2.2 ++ [(10, (r.1 : Int), plc r.2.2 f, [])]))) : pw (bnd (f_make (4 : Int32) p1 X) fun x58 X59 => bnd (f_opens (91 : Int32) X59) fun _ X60 => bnd (f_isSign (93 : Int32) X60) fun x61 X62 => if x61.toInt = 0 then bnd (f_opened (8 : Int32) x58 X62) fun _ X63 => some ((0 : Int32), X63) else bnd (f_closes (93 : Int32) X62) fun _ X64 => bnd (f_done x58 X64) fun _ X65 => some ((0 : Int32), X65)) (fun _ Z => pr Z Q) := by
  have l93 : (93 : Int32).toInt = 93 := by decide
  have l91 : (91 : Int32).toInt = 91 := by decide
  unfold sList at H
  rw [hty] at H
  have lc : c.length = c0.length + 1 := by rw [hc, List.length_append, List.length_singleton]
  refine pw_bd (pw_and (x_make h 4 p1) (x_make21 h 4 p1)) ?_
  rintro x58 X59 ⟨⟨⟨hr, hi⟩, g59, m59⟩, p59⟩
  refine pw_bd (x_opens g59 ho (by decide)) ?_
  rintro _ X60 (⟨ht, g60, t60⟩ | ⟨ht, hd⟩)
  · have H := H.b.b.en ht
    have r60 : ∀ e, 20 ≤ e → X60.1 e N = X59.1 e N := fun e he => t60.r e N (by omega)
    have h20 : X60.1 20 N = 4 := (r60 20 (by omega)).trans m59.2.2.1
    have h21 : (X60.1 21 N).toInt = (pl ch q : Int) := by rw [r60 21 (by omega), p59, hp1]
    have h27 : (X60.1 27 N).toInt = 0 := by rw [r60 27 (by omega)]; exact m59.2.2.2.1
    have mm := (hM.mk m59 (by decide)).tn t60
    have kk := (KP.rf.mk (j := j + 1) (s := sc.length) m59 (Nat.le_refl _)).tn t60
    have hO : ∀ (W : St) (N3 m : Nat) (es : Els) (c2 : List Ins), N < N3 → TFx X60 W N → es.length = m → CHq ch W N N3 sepL c c2 es → ∃ d, c2 ++ [(10, (m : Int), plc c2 f, [])] = c0 ++ d ∧ OM ch W N N3 N c0.length d := by
      intro W N3 m es c2 hN3 hT hm hC
      have w20 : iv W 20 N = 4 := by unfold iv; rw [hT 20 (by omega), h20]; decide
      have w21 : iv W 21 N = (pl ch q : Int) := by unfold iv; rw [hT 21 (by omega), h21]
      obtain ⟨a1, a2, a3, a4, a5⟩ := hC
      refine ⟨(0, 1, (pl ch q : Int), []) :: (cds es ++ [(10, (es.length : Int), (pl ch q : Int), [])]), ?_, OM.in ⟨Nat.le_refl _, hN3, by rw [w21]; rfl, Or.inr (Or.inr (Or.inl (Or.inl ⟨w20, es, by rw [← lc]; exact a1, a2, a3, by rw [w21]⟩)))⟩⟩
      rw [a4, hc, hf, plc_st, hm]
      simp only [List.append_assoc, List.cons_append, List.nil_append]
    have nv : (¬ (X60.1 20 N).toInt = 10 ∧ ¬ (X60.1 20 N).toInt = 11 ∧ ¬ (X60.1 20 N).toInt = 14) ∧ ((X60.1 20 N).toInt = 3 ↔ NM) := by rw [h20]; exact NMn hnm (by decide) (by decide)
    refine pw_bd (q_isSign g60.1 (by decide)) ?_
    rintro x61 X62 ⟨rfl, h61⟩
    rw [l93] at h61
    refine pw_ite (fun c61 => ?_) (fun c61 => ?_)
    · refine pw_bd (b_first (t := N) (c := c) (k := 8) (cl := 93) (ask := 36) (most := 20) (sp := sepL) hE hn (by decide) hr (Or.inl ⟨rfl, rfl⟩) (by decide) (fun _ _ => rfl) ⟨ho.1, ht.2⟩ g60 mm h27 (h61.mp c61) ⟨fun _ => rfl, fun e => absurd e (by decide)⟩ (H.m (fun b H => ?_))) (fun _ W h => pw_ret h)
      exact CBq.cl H.s (fun p => NPl.snoc (show ¬ (10 : Int) = 4 by decide)) kk (Nat.le_refl _) nv (fun W N3 es _ _ h3 h4 h5 h6 => hO W N3 b.1 es b.2.2 h3 h4 h5 h6)
    · have y93 : ty ch (nx ch q) = 93 := Classical.byContradiction (fun z => c61 (h61.mpr z))
      rw [sList1] at H
      have H := ((H.p ⟨rfl, y93⟩).b.wa y93).s.s
      refine pw_bd (x_closes g60 ⟨by omega, by omega⟩ (by decide)) ?_
      rintro _ X64 (⟨_, g64, t64⟩ | ⟨hc, hd⟩)
      · rw [show o + 1 - 1 = o by omega] at g64
        have hO1 := hO X64 (N + 1) 0 [] c (by omega) (fun e he => t64.r e N (by omega)) rfl ⟨trivial, by unfold iv; rw [t64.r 27 N (by decide), h27]; rfl, fun a ha => absurd ha List.not_mem_nil, (List.append_nil _).symm, rfl⟩
        refine pw_bd (b_done (X := X) (N := N) (t := N) g64 ((mm.tn t64).cd (fun p => NPl.snoc (show ¬ (10 : Int) = 4 by decide))) (kk.tn t64) hr ⟨Nat.le_refl _, by omega⟩ ?_ hO1 H) (fun _ W h => pw_ret h)
        rw [t64.r 20 N (by decide)]
        exact nv
      · exact absurd (by rw [l93]; exact y93) hc
  · have hQ := H.b.b.en0 ht
    have dead : pw (bnd (f_isSign (93 : Int32) X60) fun x61 X62 => if x61.toInt = 0 then bnd (f_opened (8 : Int32) x58 X62) fun _ X63 => some ((0 : Int32), X63) else bnd (f_closes (93 : Int32) X62) fun _ X64 => bnd (f_done x58 X64) fun _ X65 => some ((0 : Int32), X65)) (fun _ Y => wrX Y) := by
      refine pw_bd (uw_isSign hd) (fun x61 X62 d => ?_)
      refine pw_ite (fun _ => ?_) (fun _ => ?_)
      · exact pw_bd (uw_opened d) (fun _ W d => pw_ret d)
      · exact pw_bd (uw_closes d) (fun _ W d => pw_bd (uw_done d) (fun _ W d => pw_ret d))
    exact pw_mono dead (fun _ W d => pr_dd d hQ)
end RLISTS
