/-! the reference reads rows told in place, and calls' params -/
section RLISTS
variable {ch : Tx} {n q : Nat} {X Y Z X0 : St} {o : Int} {sc : List Nm} {j N s N0 : Nat} {Q : Int32 → St → Prop} {c c1 : List Ins}
theorem CBq.cl {t q2 : Nat} {v20 v39 : Int32} {a : Ins} (h : CBq ch n X o sc j N Q (q2, c ++ [a])) (ha : ¬ a.1 = 4) (ht : N ≤ t) (hv : ¬ v20.toInt = 10 ∧ ¬ v20.toInt = 11 ∧ ¬ v20.toInt = 14) : CLq ch n X o sc j N t v20 v39 Q (q2, c) := by
  intro W N3 gW mW kW htN h24 h23 h20 h39
  refine h W ⟨N3, t, gW, mW.cd (fun p => NPl.snoc ha), kW, h24, ht, htN⟩ h23 ?_
  rw [ixn h24, h20]
  exact hv
/-- the first item of a frame -/
theorem b_first {E : EF} (hE : SEq ch n (o + 1) E) (hn : NBq ch E) {t q1 N1 : Nat} {p1 r : Int32} {k cl ask : Int} (hp : p1.toInt = k) (hr : r.toInt = (t : Int)) (hk : (k = 8 ∧ cl = 93) ∨ (k = 12 ∧ cl = 41)) (hask : ¬ ask = 4) (ho : 0 ≤ o ∧ o < 40) (hZ : XS ch n Z q1 (o + 1) sc (j + 1) N1) (hM : NMr ch Z N1 c) (hK : KP X Z (j + 1) N sc.length) (ht : N ≤ t ∧ t < N1) (h27 : (Z.1 27 t).toInt = 0) (hz : ¬ ty ch q1 = cl) {most : Nat} (hm : (k = 8 → most = 20) ∧ (k = 12 → most = 4)) (H : HH (DQ Q) (fun b : Nat × Out => CLq ch n X o sc j N t (Z.1 20 t) (Z.1 39 t) Q b.2) (sList1 ch E o sc cl ask (most + 1) 0 q1 c)) : pw (f_opened p1 r Z) (fun _ W => pr W Q) := by
  refine pw_mono (x_opened hZ p1 r) ?_
  rintro _ W ⟨gW, mW, oW⟩
  have rr : ∀ e, (20 ≤ e ∧ e ≤ 34) ∨ e = 39 → W.1 e t = Z.1 e t := fun e he => oW.1 e t (by omega) (by omega)
  refine b_items hE hn hr hk hask ho most 0 q1 W N1 c ⟨gW, mW, hM.op oW, hK.op oW (Nat.le_refl _), ⟨by rw [oW.2.2.1]; exact hp, oW.2.2.2.1, Or.inl oW.2.2.2.2⟩, ht, by rw [rr 27 (by omega), h27]; rfl, rr 20 (by omega), rr 39 (by omega)⟩ (fun e => by have := hm.1 e; omega) (fun e => by have := hm.2 e; omega) (fun z => hz z.2) H
/-- [ e , e .. ] -/
theorem b_list {E : EF} (hE : SEq ch n (o + 1) E) (hn : NBq ch E) (h : XS ch n X q o sc (j + 1) N) (hM : NMr ch X N c) (ho : 0 ≤ o ∧ o ≤ 40) (hty : ty ch q = 91) {p1 : Int32} {f : Nat} (H : HH (DQ Q) (CBq ch n X o sc j N Q) ((sList ch E o sc 93 20 36 q c).bind fun r => some (r.2.1, r.2.2 ++ [(10, (r.1 : Int), plc r.2.2 f, [])]))) : pw (bnd (f_make (4 : Int32) p1 X) fun x58 X59 => bnd (f_opens (91 : Int32) X59) fun _ X60 => bnd (f_isSign (93 : Int32) X60) fun x61 X62 => if x61.toInt = 0 then bnd (f_opened (8 : Int32) x58 X62) fun _ X63 => some ((0 : Int32), X63) else bnd (f_closes (93 : Int32) X62) fun _ X64 => bnd (f_done x58 X64) fun _ X65 => some ((0 : Int32), X65)) (fun _ Z => pr Z Q) := by
  have l93 : (93 : Int32).toInt = 93 := by decide
  have l91 : (91 : Int32).toInt = 91 := by decide
  unfold sList at H
  rw [hty] at H
  refine pw_bd (x_make h 4 p1) ?_
  rintro x58 X59 ⟨⟨hr, hi⟩, g59, m59⟩
  refine pw_bd (x_opens g59 ho (by decide)) ?_
  rintro _ X60 (⟨ht, g60, t60⟩ | ⟨ht, hd⟩)
  · have H := H.b.b.en ht
    have r60 : ∀ e, 20 ≤ e → X60.1 e N = X59.1 e N := fun e he => t60.r e N (by omega)
    have h20 : X60.1 20 N = 4 := (r60 20 (by omega)).trans m59.2.2.1
    have h27 : (X60.1 27 N).toInt = 0 := by rw [r60 27 (by omega)]; exact m59.2.2.2.1
    have mm := (hM.mk m59 (by decide)).tn t60
    have kk := (KP.rf.mk (j := j + 1) (s := sc.length) m59 (Nat.le_refl _)).tn t60
    refine pw_bd (q_isSign g60.1 (by decide)) ?_
    rintro x61 X62 ⟨rfl, h61⟩
    rw [l93] at h61
    refine pw_ite (fun c61 => ?_) (fun c61 => ?_)
    · refine pw_bd (b_first (X := X) (N := N) (t := N) (c := c) (k := 8) (cl := 93) (ask := 36) (most := 20) hE hn (by decide) hr (Or.inl ⟨rfl, rfl⟩) (by decide) ⟨ho.1, ht.2⟩ g60 mm kk ⟨Nat.le_refl _, by omega⟩ h27 (h61.mp c61) ⟨fun _ => rfl, fun e => absurd e (by decide)⟩ (H.m (fun b H => ?_))) (fun _ W h => pw_ret h)
      exact CBq.cl (a := (10, (b.1 : Int), plc b.2.2 f, [])) H.s (show ¬ (10 : Int) = 4 by decide) (Nat.le_refl _) (by rw [h20]; decide)
    · have y93 : ty ch (nx ch q) = 93 := Classical.byContradiction (fun z => c61 (h61.mpr z))
      rw [sList1] at H
      have H := ((H.p ⟨rfl, y93⟩).b.wa y93).s.s
      refine pw_bd (x_closes g60 ⟨by omega, by omega⟩ (by decide)) ?_
      rintro _ X64 (⟨_, g64, t64⟩ | ⟨hc, hd⟩)
      · rw [show o + 1 - 1 = o by omega] at g64
        refine pw_bd (b_done (X := X) (N := N) (t := N) g64 ((mm.tn t64).cd (fun p => NPl.snoc (show ¬ (10 : Int) = 4 by decide))) (kk.tn t64) hr ⟨Nat.le_refl _, by omega⟩ ?_ H) (fun _ W h => pw_ret h)
        rw [t64.r 20 N (by decide), h20]
        decide
      · exact absurd (by rw [l93]; exact y93) hc
  · have hQ := H.b.b.en0 ht
    have dead : pw (bnd (f_isSign (93 : Int32) X60) fun x61 X62 => if x61.toInt = 0 then bnd (f_opened (8 : Int32) x58 X62) fun _ X63 => some ((0 : Int32), X63) else bnd (f_closes (93 : Int32) X62) fun _ X64 => bnd (f_done x58 X64) fun _ X65 => some ((0 : Int32), X65)) (fun _ Y => wrX Y) := by
      refine pw_bd (uw_isSign hd) (fun x61 X62 d => ?_)
      refine pw_ite (fun _ => ?_) (fun _ => ?_)
      · exact pw_bd (uw_opened d) (fun _ W d => pw_ret d)
      · exact pw_bd (uw_closes d) (fun _ W d => pw_bd (uw_done d) (fun _ W d => pw_ret d))
    exact pw_mono dead (fun _ W d => pr_dd d hQ)
end RLISTS
