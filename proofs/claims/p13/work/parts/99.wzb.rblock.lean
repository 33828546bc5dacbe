/-! the reference reads blocks -/
section RBLOCK
variable {ch : Tx} {n q : Nat} {X Y Z X0 : St} {o : Int} {sc : List Nm} {j N s N0 : Nat} {Q : Int32 → St → Prop} {c c0 c1 cb : List Ins} {NM : Prop}
theorem HH.an {α : Type} {D : Prop} {C C1 : α → Prop} {S : Option α} (h : HH D C S) (g : HH True C1 S) : HH D (fun a => C a ∧ C1 a) S := ⟨h.1, fun a e => ⟨h.2 a e, g.2 a e⟩⟩
/-- dropped -/
def sepD (_ : Nat) (_ s : List Ins) : Prop := ∃ p : Int, s = [(9, 0, p, [])]
theorem b_blk {E : EF} (hE : SEq ch n (o + 1) E) (hO : MOE ch E) {t : Nat} {r : Int32} (hr : r.toInt = (t : Int)) (ho : 0 ≤ o ∧ o < 40) : ∀ (kf q : Nat) (cp c : List Ins) (es : Els) (x2 : Int32) (Z : St) (N2 : Nat), ix x2 = j + 1 → XS ch n Z q (o + 1) sc (j + 1 + 1) N2 → NMr ch Z N2 c → KP X Z (j + 1) t sc.length → ((Z.1 35 (j + 1)).toInt = 7 ∧ Z.1 36 (j + 1) = r) → t < N2 → TFx X Z t → ITx ch Z j t N2 sepD cb cp c es → es.length + 1 ≤ pl ch q → 3000 ≤ kf + pl ch q → HH (DQ Q) (fun b => ∀ m, CLq ch n X o sc j t m (sepB m) cb Q b) (sBlock1 ch E o sc kf q c) → pw (f_endsWithin_232 x2 r (1 : Int32) Z) (fun _ Z => pr Z Q) := by
  have l59 : (59 : Int32).toInt = 59 := by decide
  have l125 : (125 : Int32).toInt = 125 := by decide
  have fin : ∀ (q : Nat) (cp c : List Ins) (es : Els) (Z : St) (N2 : Nat), XS ch n Z q (o + 1) sc (j + 1 + 1) N2 → NMr ch Z N2 c → KP X Z (j + 1) t sc.length → t < N2 → TFx X Z t → ITx ch Z j t N2 sepD cb cp c es → HH (DQ Q) (fun b => ∀ m, CLq ch n X o sc j t m (sepB m) cb Q b) ((sWant ch 125 q).bind fun q1 => some (q1, c)) → pw (f_endsWithin_291 r (125 : Int32) Z) (fun _ Z => pr Z Q) := by
    intro q cp c es Z N2 gZ mZ kZ htN hT ⟨u, e, pe, z37, zC⟩ H
    have zC1 := zC [] (sepB (es.length + 1)) (fun m e s hm x => Or.inl ⟨by omega, x⟩) (Or.inr ⟨rfl, rfl⟩)
    rw [List.append_nil] at zC1
    have le : (es ++ [(u, N2, e, ([] : List Ins))]).length = es.length + 1 := by rw [List.length_append, List.length_singleton]
    unfold f_endsWithin_291
    exact pw_bd (b_shut2 (X := X) (t := t) (by decide) gZ ⟨by omega, by omega⟩ mZ kZ hr htN hT zC1 (by rw [l125, le]; exact H.b.m (fun q2 H => H.s _))) (fun _ W h => pw_ret h)
  intro kf
  induction kf with
  | zero =>
    intro q cp c es x2 Z N2 i2 gZ mZ kZ hf htN hT hI hi hk H
    have hn := gZ.tx.1
    have hp := pl_le gZ.tx gZ.qn
    have h59 : ¬ ty ch q = 59 := fun e => by
      have := pl_lt gZ.tx (q := q) (by omega)
      omega
    rw [sBlock1] at H
    unfold f_endsWithin_232
    refine pw_neg (by decide) ?_
    unfold f_endsWithin_245
    refine pw_bd (q_isSign gZ.1 (by decide)) ?_
    rintro x37 X38 ⟨rfl, h37⟩
    rw [l59] at h37
    refine pw_pos (h37.mpr h59) (pw_neg (by decide) ?_)
    exact fin q cp c es X38 N2 gZ mZ kZ htN hT hI H
  | succ kf ih =>
    intro q cp c es x2 Z N2 i2 gZ mZ kZ hf htN hT hI hi hk H
    have hn := gZ.tx.1
    have hp := pl_le gZ.tx gZ.qn
    rw [sBlock1] at H
    unfold f_endsWithin_232
    refine pw_neg (by decide) ?_
    unfold f_endsWithin_245
    refine pw_bd (q_isSign gZ.1 (by decide)) ?_
    rintro x37 X38 ⟨rfl, h37⟩
    rw [l59] at h37
    refine pw_ite (fun c37 => ?_) (fun c37 => ?_)
    · have H := H.q (h37.mp c37)
      refine pw_neg (by decide) ?_
      exact fin q cp c es X38 N2 gZ mZ kZ htN hT hI H
    · have y59 : ty ch q = 59 := Classical.byContradiction (fun z => c37 (h37.mpr z))
      have H := H.p y59
      have hx := pl_nx gZ.tx (q := q) (by omega)
      obtain ⟨u, e, pe, z37, zC⟩ := hI
      have zC1 := zC [(9, 0, (pl ch q : Int), [])] sepD (fun _ _ _ _ x => x) ⟨_, rfl⟩
      have le : (es ++ [(u, N2, e, [((9, 0, (pl ch q : Int), []) : Ins)])]).length = es.length + 1 := by rw [List.length_append, List.length_singleton]
      refine pw_bd (x_next gZ) ?_
      rintro _ X41 ⟨g41, t41⟩
      refine pw_eq (fun X42 e42 => ?_)
      refine pw_ret ?_
      have rr : ∀ e m, 20 ≤ e → X42.1 e m = X38.1 e m := fun e m he => by rw [e42, wI_ne _ _ _ _ _ _ (by omega)]; exact t41.r e m (by omega)
      have m42 : NMr ch X42 N2 (c ++ [(9, 0, (pl ch q : Int), [])]) := by rw [e42]; exact ((mZ.tn t41).wI (by omega)).cd (fun p => NPl.snoc (show ¬ (9 : Int) = 4 by decide))
      have k42 : ∀ {S : St} {N s : Nat}, KP S X38 (j + 1) N s → KP S X42 (j + 1) N s := fun kS => by rw [e42]; exact (kS.tn t41).wI (by unfold KPs; omega)
      refine b_item (X := X) (t := t) (N1 := N2) (r := r) (k := 7) (sp := sepD) (cb := cb) (es := es ++ [(u, N2, e, [(9, 0, (pl ch q : Int), [])])]) hE ⟨by rw [e42]; exact g41.wI (by omega), by rw [e42, wI_at]; rfl, m42, k42 kZ, ⟨by rw [rr 35 _ (by omega)]; exact hf.1, by rw [rr 36 _ (by omega)]; exact hf.2, by rw [rr 37 _ (by omega), ela.ad]; exact z37⟩, htN, hT.eq (fun e he => rr e t he), zC1.cg gZ.kj (k42 (KP.rf (N := 0) (s := 0))).2.2.2 (fun e m he _ => rr e m he.1) (fun m _ => by rw [e42]; exact t41.2.1 29 m (by omega)) htN⟩ hr (Or.inl rfl) (by omega) ⟨fun e => absurd e (by decide), fun e => absurd e (by decide)⟩ ho ((H.b.an (hO _ _ _ _)).m (fun a H => ?_))
      intro y2 W N3 j2 gW mW kW hfW htN3 hTW hIW
      refine pw_pos hfW.1 ?_
      exact ih a.1 _ a.2 _ y2 W N3 j2 gW mW kW hfW htN3 hTW hIW (by have := H.2; omega) (by have := H.2; omega) H.1
/-- { e ; e .. } -/
theorem b_block {E : EF} (hE : SEq ch n (o + 1) E) (hnm : ¬ NM) (hO : MOE ch E) (h : XS ch n X q o sc (j + 1) N) (hM : NMr ch X N c) (ho : 0 ≤ o ∧ o ≤ 40) {p1 : Int32} (hp1 : p1.toInt = (pl ch q : Int)) (hc : c = c0 ++ [(0, 1, (pl ch q : Int), [])]) (H : HH (DQ Q) (CBq ch n X o sc j N c0 NM Q) (sBlock ch E o sc q c)) : pw (bnd (f_make (9 : Int32) p1 X) fun x50 X51 => bnd (f_opens (123 : Int32) X51) fun _ X52 => bnd (f_opened (7 : Int32) x50 X52) fun _ X53 => some ((0 : Int32), X53)) (fun _ Z => pr Z Q) := by
  unfold sBlock at H
  have lc : c.length = c0.length + 1 := by rw [hc, List.length_append, List.length_singleton]
  refine pw_bd (pw_and (x_make h 9 p1) (x_make21 h 9 p1)) ?_
  rintro x50 X51 ⟨⟨⟨hr, hi⟩, g51, m51⟩, p51⟩
  refine pw_bd (x_opens g51 ho (by decide)) ?_
  rintro _ X52 (⟨ht, g52, t52⟩ | ⟨ht, hd⟩)
  · have H := H.b.en ht
    have r52 : ∀ e, 20 ≤ e → X52.1 e N = X51.1 e N := fun e he => t52.r e N (by omega)
    have h20 : X52.1 20 N = 9 := (r52 20 (by omega)).trans m51.2.2.1
    have h21 : (X52.1 21 N).toInt = (pl ch q : Int) := by rw [r52 21 (by omega), p51, hp1]
    have h27 : (X52.1 27 N).toInt = 0 := by rw [r52 27 (by omega)]; exact m51.2.2.2.1
    have mm := (hM.mk m51 (by decide)).tn t52
    have kk := (KP.rf.mk (j := j + 1) (s := sc.length) m51 (Nat.le_refl _)).tn t52
    refine pw_bd (R := fun _ W => pr W Q) ?_ (fun _ W h => pw_ret h)
    refine pw_mono (x_opened g52 7 x50) ?_
    rintro _ W ⟨gW, mW, oW⟩
    have rr : ∀ e, (20 ≤ e ∧ e ≤ 34) ∨ e = 39 → W.1 e N = X52.1 e N := fun e he => oW.1 e N (by omega) (by omega)
    refine b_item (X := X52) (t := N) (N1 := N + 1) (r := x50) (k := 7) (sp := sepD) (cb := c) (es := []) hE ⟨gW, mW, mm.op oW, KP.rf.op oW (Nat.le_refl _), ⟨by rw [oW.2.2.1]; decide, oW.2.2.2.1, oW.2.2.2.2⟩, by omega, fun e he => rr e (by omega), ⟨trivial, by unfold iv; rw [rr 27 (by omega), h27]; rfl, fun a ha => absurd ha List.not_mem_nil, (List.append_nil _).symm, rfl⟩⟩ hr (Or.inl rfl) (Nat.zero_le _) ⟨fun e => absurd e (by decide), fun e => absurd e (by decide)⟩ ⟨ho.1, ht.2⟩ ((H.b.an (hO _ _ _ _)).m (fun a H => ?_))
    intro y2 Z N3 j2 gZ mZ kZ hfZ htN3 hTZ hIZ
    refine pw_pos hfZ.1 ?_
    refine b_blk hE hO hr ⟨ho.1, ht.2⟩ 3000 a.1 _ a.2 [] y2 Z N3 j2 gZ mZ kZ hfZ htN3 hTZ hIZ (by have := H.2; show 0 + 1 ≤ _; omega) (by omega) (H.1.m (fun b H m => ?_))
    refine CBq.cl H (fun _ => Iff.rfl) kk (Nat.le_refl _) (by rw [h20]; exact NMn hnm (by decide) (by decide)) (fun W N4 es _ _ hN4 hT hm hC => ?_)
    have w20 : iv W 20 N = 9 := by unfold iv; rw [hT 20 (by omega), h20]; decide
    have w21 : iv W 21 N = (pl ch q : Int) := by unfold iv; rw [hT 21 (by omega), h21]
    obtain ⟨a1, a2, a3, a4, a5⟩ := hC
    refine ⟨(0, 1, (pl ch q : Int), []) :: cds es, ?_, OM.in ⟨Nat.le_refl _, hN4, by rw [w21]; rfl, Or.inr (Or.inr (Or.inl (Or.inr ⟨w20, es, by rw [← lc, hm]; exact a1, a2, a3, by rw [w21]⟩)))⟩⟩
    rw [a4, hc]
    simp only [List.append_assoc, List.cons_append, List.nil_append]
  · have hQ := H.b.en0 ht
    exact pw_bd (uw_opened hd) (fun _ W d => pw_ret (pr_dd d hQ))
end RBLOCK
