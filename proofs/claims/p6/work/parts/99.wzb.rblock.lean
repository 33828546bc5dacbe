/-! the reference reads blocks -/
section RBLOCK
variable {ch : Tx} {n q : Nat} {X Y Z X0 : St} {o : Int} {sc : List Nm} {j N s N0 : Nat} {Q : Int32 → St → Prop} {c c1 : List Ins}
theorem HH.an {α : Type} {D : Prop} {C C1 : α → Prop} {S : Option α} (h : HH D C S) (g : HH True C1 S) : HH D (fun a => C a ∧ C1 a) S := ⟨h.1, fun a e => ⟨h.2 a e, g.2 a e⟩⟩
theorem CBq.cl0 {t q2 : Nat} {v20 v39 : Int32} (h : CBq ch n X o sc j N Q (q2, c)) (ht : N ≤ t) (hv : ¬ v20.toInt = 10 ∧ ¬ v20.toInt = 11 ∧ ¬ v20.toInt = 14) : CLq ch n X o sc j N t v20 v39 Q (q2, c) := by
  intro W N3 gW mW kW htN h24 h23 h20 h39
  refine h W ⟨N3, t, gW, mW, kW, h24, ht, htN⟩ h23 ?_
  rw [ixn h24, h20]
  exact hv
theorem b_blk {E : EF} (hE : SEq ch n (o + 1) E) (hO : MOE ch E) {t : Nat} {r v20 v39 : Int32} (hr : r.toInt = (t : Int)) (ho : 0 ≤ o ∧ o < 40) (hNt : N ≤ t) : ∀ (kf q i : Nat) (c : List Ins) (x2 : Int32) (Z : St) (N2 : Nat), ix x2 = j + 1 → XS ch n Z q (o + 1) sc (j + 1 + 1) N2 → NMr ch Z N2 c → KP X Z (j + 1) N sc.length → ((Z.1 35 (j + 1)).toInt = 7 ∧ Z.1 36 (j + 1) = r ∧ ((Z.1 37 (j + 1)).toInt = -1 ∨ (N : Int) ≤ (Z.1 37 (j + 1)).toInt)) → t < N2 → (Z.1 27 t).toInt = (i : Int) → Z.1 20 t = v20 → Z.1 39 t = v39 → i ≤ pl ch q → 3000 ≤ kf + pl ch q → HH (DQ Q) (CLq ch n X o sc j N t v20 v39 Q) (sBlock1 ch E o sc kf q c) → pw (f_endsWithin_232 x2 r (1 : Int32) Z) (fun _ Z => pr Z Q) := by
  have l59 : (59 : Int32).toInt = 59 := by decide
  have l125 : (125 : Int32).toInt = 125 := by decide
  intro kf
  induction kf with
  | zero =>
    intro q i c x2 Z N2 i2 gZ mZ kZ hf htN h27 h20 h39 hi hk H
    have hn := gZ.tx.1
    have hp := pl_le gZ.tx gZ.qn
    have h59 : ¬ ty ch q = 59 := fun e => by
      have := pl_lt gZ.tx (q := q) (by omega)
      omega
    rw [sBlock1] at H
    unfold f_endsWithin_232
    refine pw_neg (by decide) ?_
    unfold f_endsWithin_245
    refine pw_bd (q_isSign gZ.1 (by decide)) ?_
    rintro x37 X38 ⟨rfl, h37⟩
    rw [l59] at h37
    refine pw_pos (h37.mpr h59) (pw_neg (by decide) ?_)
    unfold f_endsWithin_291
    exact pw_bd (b_shut2 (X := X) (N := N) (t := t) (v20 := v20) (v39 := v39) (c1 := c) (by decide) gZ ⟨by omega, by omega⟩ mZ kZ hr htN h20 h39 (by rw [l125]; exact H.b.m (fun q2 H => H.s))) (fun _ W h => pw_ret h)
  | succ kf ih =>
    intro q i c x2 Z N2 i2 gZ mZ kZ hf htN h27 h20 h39 hi hk H
    have hn := gZ.tx.1
    have hp := pl_le gZ.tx gZ.qn
    rw [sBlock1] at H
    unfold f_endsWithin_232
    refine pw_neg (by decide) ?_
    unfold f_endsWithin_245
    refine pw_bd (q_isSign gZ.1 (by decide)) ?_
    rintro x37 X38 ⟨rfl, h37⟩
    rw [l59] at h37
    refine pw_ite (fun c37 => ?_) (fun c37 => ?_)
    · have H := H.q (h37.mp c37)
      refine pw_neg (by decide) ?_
      unfold f_endsWithin_291
      exact pw_bd (b_shut2 (X := X) (N := N) (t := t) (v20 := v20) (v39 := v39) (c1 := c) (by decide) gZ ⟨by omega, by omega⟩ mZ kZ hr htN h20 h39 (by rw [l125]; exact H.b.m (fun q2 H => H.s))) (fun _ W h => pw_ret h)
    · have y59 : ty ch q = 59 := Classical.byContradiction (fun z => c37 (h37.mpr z))
      have H := H.p y59
      have hx := pl_nx gZ.tx (q := q) (by omega)
      refine pw_bd (x_next gZ) ?_
      rintro _ X41 ⟨g41, t41⟩
      refine pw_eq (fun X42 e42 => ?_)
      refine pw_ret ?_
      have rr : ∀ e m, 20 ≤ e → X42.1 e m = X38.1 e m := fun e m he => by rw [e42, wI_ne _ _ _ _ _ _ (by omega)]; exact t41.r e m (by omega)
      have m42 : NMr ch X42 N2 (c ++ [(9, 0, (pl ch q : Int), [])]) := by rw [e42]; exact ((mZ.tn t41).wI (by omega)).cd (fun p => NPl.snoc (show ¬ (9 : Int) = 4 by decide))
      have k42 : KP X X42 (j + 1) N sc.length := by rw [e42]; exact (kZ.tn t41).wI (by unfold KPs; omega)
      refine b_item (X := X) (N := N) (t := t) (N1 := N2) (r := r) (v20 := v20) (v39 := v39) (k := 7) (i := i) hE ⟨by rw [e42]; exact g41.wI (by omega), by rw [e42, wI_at]; rfl, m42, k42, ⟨by rw [rr 35 _ (by omega)]; exact hf.1, by rw [rr 36 _ (by omega)]; exact hf.2.1, by rw [rr 37 _ (by omega)]; exact hf.2.2⟩, ⟨hNt, htN⟩, by rw [rr 27 _ (by omega)]; exact h27, by rw [rr 20 _ (by omega)]; exact h20, by rw [rr 39 _ (by omega)]; exact h39⟩ hr (Or.inl rfl) (by omega) ⟨fun e => absurd e (by decide), fun e => absurd e (by decide)⟩ ho ((H.b.an (hO _ _ _ _)).m (fun a H => ?_))
      intro y2 W N3 j2 gW mW kW hfW htN3 hW27 hW20 hW39
      refine pw_pos hfW.1 ?_
      exact ih a.1 (i + 1) a.2 y2 W N3 j2 gW mW kW hfW htN3 (by rw [hW27]; omega) hW20 hW39 (by have := H.2; omega) (by have := H.2; omega) H.1
/-- { e ; e .. } -/
theorem b_block {E : EF} (hE : SEq ch n (o + 1) E) (hO : MOE ch E) (h : XS ch n X q o sc (j + 1) N) (hM : NMr ch X N c) (ho : 0 ≤ o ∧ o ≤ 40) {p1 : Int32} (H : HH (DQ Q) (CBq ch n X o sc j N Q) (sBlock ch E o sc q c)) : pw (bnd (f_make (9 : Int32) p1 X) fun x50 X51 => bnd (f_opens (123 : Int32) X51) fun _ X52 => bnd (f_opened (7 : Int32) x50 X52) fun _ X53 => some ((0 : Int32), X53)) (fun _ Z => pr Z Q) := by
  unfold sBlock at H
  refine pw_bd (x_make h 9 p1) ?_
  rintro x50 X51 ⟨⟨hr, hi⟩, g51, m51⟩
  refine pw_bd (x_opens g51 ho (by decide)) ?_
  rintro _ X52 (⟨ht, g52, t52⟩ | ⟨ht, hd⟩)
  · have H := H.b.en ht
    have r52 : ∀ e, 20 ≤ e → X52.1 e N = X51.1 e N := fun e he => t52.r e N (by omega)
    have h20 : X52.1 20 N = 9 := (r52 20 (by omega)).trans m51.2.2.1
    have h27 : (X52.1 27 N).toInt = 0 := by rw [r52 27 (by omega)]; exact m51.2.2.2.1
    have mm := (hM.mk m51 (by decide)).tn t52
    have kk := (KP.rf.mk (j := j + 1) (s := sc.length) m51 (Nat.le_refl _)).tn t52
    refine pw_bd (R := fun _ W => pr W Q) ?_ (fun _ W h => pw_ret h)
    refine pw_mono (x_opened g52 7 x50) ?_
    rintro _ W ⟨gW, mW, oW⟩
    have rr : ∀ e, (20 ≤ e ∧ e ≤ 34) ∨ e = 39 → W.1 e N = X52.1 e N := fun e he => oW.1 e N (by omega) (by omega)
    refine b_item (X := X) (N := N) (t := N) (N1 := N + 1) (r := x50) (v20 := 9) (v39 := W.1 39 N) (k := 7) (i := 0) hE ⟨gW, mW, mm.op oW, kk.op oW (Nat.le_refl _), ⟨by rw [oW.2.2.1]; decide, oW.2.2.2.1, Or.inl oW.2.2.2.2⟩, ⟨Nat.le_refl _, by omega⟩, by rw [rr 27 (by omega)]; exact h27, by rw [rr 20 (by omega)]; exact h20, rfl⟩ hr (Or.inl rfl) (by omega) ⟨fun e => absurd e (by decide), fun e => absurd e (by decide)⟩ ⟨ho.1, ht.2⟩ ((H.b.an (hO _ _ _ _)).m (fun a H => ?_))
    intro y2 Z N3 j2 gZ mZ kZ hfZ htN3 hZ27 hZ20 hZ39
    refine pw_pos hfZ.1 ?_
    refine b_blk hE hO hr ⟨ho.1, ht.2⟩ (Nat.le_refl _) 3000 a.1 1 a.2 y2 Z N3 j2 gZ mZ kZ hfZ htN3 (by rw [hZ27]; rfl) hZ20 hZ39 (by have := H.2; omega) (by omega) (H.1.m (fun b H => ?_))
    exact CBq.cl0 H (Nat.le_refl _) (by decide)
  · have hQ := H.b.en0 ht
    exact pw_bd (uw_opened hd) (fun _ W d => pw_ret (pr_dd d hQ))
end RBLOCK
