/-! the reference reads items -/
section RITEMS
variable {ch : Tx} {n q : Nat} {X Y Z X0 : St} {o : Int} {sc : List Nm} {j N s N0 : Nat} {Q : Int32 → St → Prop} {c c1 : List Ins}
/-- a full frame takes no more -/
theorem pr_full (h : XS ch n X q o sc (j + 1) N) (hm : (X.1 0 23).toInt = 0) (hf : ((X.1 35 j).toInt = 12 ∧ (X.1 27 (ix (X.1 36 j))).toInt = 4) ∨ ((X.1 35 j).toInt = 8 ∧ (X.1 27 (ix (X.1 36 j))).toInt = 20)) (hQ : DQ Q) : pr X Q := by
  have h22 := (h.fe (by omega))
  have l1 : (1 : Int32).toInt = 1 := by decide
  have c60 : pw (f_begins_60 X) (fun _ Z => pr Z Q) := by
    unfold f_begins_60 f_begins_65
    refine pw_bd (x_isBeg h.1) ?_
    rintro x5 X6 ⟨rfl, _⟩
    refine pw_ite (fun _ => pw_bd (q_stray _) (fun _ Z d => pw_ret (pr_dd d hQ))) (fun _ => pw_neg (by decide) ?_)
    refine pw_let ?_
    exact pw_bd (q_fails _ (by decide)) (fun _ Z d => pw_ret (pr_dd d hQ))
  refine pr_0 h hm ?_
  unfold f_begins
  refine pw_let ?_
  refine pw_eq (fun x2 e2 => ?_)
  have v2 : x2.toInt = (j : Int) := by
    rw [e2, ti_sub (by rw [h22, l1]; omega) (by rw [h22, l1]; have := Int32.toInt_lt (X.1 0 22); omega), h22, l1]
    omega
  rw [ixn v2]
  have c33 : (X.1 35 j).toInt = 8 ∧ (X.1 27 (ix (X.1 36 j))).toInt = 20 → pw (f_begins_33 x2 X) (fun _ Z => pr Z Q) := by
    intro g
    unfold f_begins_33
    rw [ixn v2]
    refine pw_ck (fun _ => pw_let (pw_pos g.1 (pw_ck (fun _ => pw_let (pw_ck (fun _ => pw_let (pw_pos g.2 c60)))))))
  refine pw_ck (fun _ => pw_let ?_)
  rcases hf with g | g
  · exact pw_pos g.1 (pw_ck (fun _ => pw_let (pw_ck (fun _ => pw_let (pw_pos g.2 c60)))))
  · exact pw_neg (by omega) (c33 g)
/-- a bracket closes: what holds then -/
def CLq (ch : Tx) (n : Nat) (X : St) (o : Int) (sc : List Nm) (j N t : Nat) (v20 v39 : Int32) (Q : Int32 → St → Prop) (b : Out) : Prop := ∀ (W : St) (N3 : Nat), XS ch n W b.1 o sc (j + 1) N3 → NMr ch W N3 b.2 → KP X W (j + 1) N sc.length → t < N3 → (W.1 0 24).toInt = (t : Int) → (W.1 0 23).toInt = 2 → W.1 20 t = v20 → W.1 39 t = v39 → pr W Q
theorem b_shut2 {v r v20 v39 : Int32} {t N1 q1 : Nat} (hv : 33 ≤ v.toInt ∧ v.toInt ≤ 125) (hZ : XS ch n Z q1 (o + 1) sc (j + 1 + 1) N1) (ho : 0 ≤ o ∧ o ≤ 40) (hM : NMr ch Z N1 c1) (hK : KP X Z (j + 1) N sc.length) (hr : r.toInt = (t : Int)) (ht : t < N1) (h20 : Z.1 20 t = v20) (h39 : Z.1 39 t = v39) (H : HH (DQ Q) (fun q2 => CLq ch n X o sc j N t v20 v39 Q (q2, c1)) (sWant ch v.toInt q1)) : pw (f_shuts v r Z) (fun _ W => pr W Q) := by
  have l1 : (1 : Int32).toInt = 1 := by decide
  unfold f_shuts
  refine pw_bd (x_closes hZ ⟨by omega, by omega⟩ hv) ?_
  rintro _ X1 (⟨hty, g1, t1⟩ | ⟨hty, hd⟩)
  · rw [show o + 1 - 1 = o by omega] at g1
    have h22 := (g1.fe (by omega))
    refine pw_let ?_
    refine pw_eq (fun x3 e3 => ?_)
    refine pw_eq (fun X4 e4 => ?_)
    have v3 : x3.toInt = ((j + 1 : Nat) : Int) := by
      rw [e3, ti_sub (by rw [h22, l1]; omega) (by rw [h22, l1]; have := Int32.toInt_lt (X1.1 0 22); omega), h22, l1]
      omega
    have g4 : XS ch n X4 (nx ch q1) o sc (j + 1) N1 := by rw [e4]; exact g1.w22 v3
    have m4 : NMr ch X4 N1 c1 := by rw [e4]; exact (hM.tn t1).wI (by omega)
    have k4 : KP X X4 (j + 1) N sc.length := by rw [e4]; exact (hK.tn t1).wI (by unfold KPs; omega)
    have r4 : ∀ e, 20 ≤ e → X4.1 e t = Z.1 e t := fun e he => by rw [e4, wI_ne _ _ _ _ _ _ (by omega)]; exact t1.r e t (by omega)
    unfold f_done
    refine pw_bd (R := fun _ W => pr W Q) ?_ (fun _ W h => pw_ret h)
    refine pw_eq (fun X5 e5 => ?_)
    refine pw_eq (fun X6 e6 => ?_)
    refine pw_ret ?_
    have r6 : ∀ e, 20 ≤ e → X6.1 e t = Z.1 e t := fun e he => by rw [e6, wI_ne _ _ _ _ _ _ (by omega), e5, wI_ne _ _ _ _ _ _ (by omega)]; exact r4 e he
    refine H.wa hty X6 N1 ?_ ?_ ?_ ht ?_ ?_ ((r6 20 (by omega)).trans h20) ((r6 39 (by omega)).trans h39)
    · rw [e6, e5]; exact (g4.wI (by omega)).wI (by omega)
    · rw [e6, e5]; exact (m4.wI (by omega)).wI (by omega)
    · rw [e6, e5]; exact (k4.wI (by unfold KPs; omega)).wI (by unfold KPs; omega)
    · rw [e6, wI_ne _ _ _ _ _ _ (by omega), e5, wI_at]; exact hr
    · rw [e6, wI_at]; decide
  · have hQ := H.wa0 hty
    refine pw_let ?_
    refine pw_eq (fun x3 e3 => ?_)
    refine pw_eq (fun X4 e4 => ?_)
    have d4 : wrX X4 := by rw [e4]; exact wrX_w hd (by omega)
    exact pw_bd (uw_done d4) (fun _ W d => pw_ret (pr_dd d hQ))
/-- where the next item begins -/
def ITq (ch : Tx) (n : Nat) (X W : St) (q : Nat) (o : Int) (sc : List Nm) (j N t N1 : Nat) (r : Int32) (k i : Int) (v20 v39 : Int32) (c : List Ins) : Prop :=
  XS ch n W q (o + 1) sc (j + 1 + 1) N1 ∧ (W.1 0 23).toInt = 0 ∧ NMr ch W N1 c ∧ KP X W (j + 1) N sc.length ∧ ((W.1 35 (j + 1)).toInt = k ∧ W.1 36 (j + 1) = r ∧ ((W.1 37 (j + 1)).toInt = -1 ∨ (N : Int) ≤ (W.1 37 (j + 1)).toInt)) ∧ (N ≤ t ∧ t < N1) ∧ (W.1 27 t).toInt = i ∧ W.1 20 t = v20 ∧ W.1 39 t = v39
/-- an item has been read: what stands then; f_add -/
theorem b_item {E : EF} (hE : SEq ch n (o + 1) E) {W : St} {t N1 : Nat} {r v20 v39 : Int32} {k i : Int} (h : ITq ch n X W q o sc j N t N1 r k i v20 v39 c) (hr : r.toInt = (t : Int)) (hk : k = 7 ∨ k = 8 ∨ k = 12) (hi : 0 ≤ i ∧ i ≤ 4000) (hf : (k = 12 → ¬ i = 4) ∧ (k = 8 → ¬ i = 20)) (ho : 0 ≤ o ∧ o < 40) (H : HH (DQ Q) (fun a => ∀ (x2 : Int32) (Z : St) (N2 : Nat), ix x2 = j + 1 → XS ch n Z a.1 (o + 1) sc (j + 1 + 1) N2 → NMr ch Z N2 a.2 → KP X Z (j + 1) N sc.length → ((Z.1 35 (j + 1)).toInt = k ∧ Z.1 36 (j + 1) = r ∧ ((Z.1 37 (j + 1)).toInt = -1 ∨ (N : Int) ≤ (Z.1 37 (j + 1)).toInt)) → t < N2 → (Z.1 27 t).toInt = i + 1 → Z.1 20 t = v20 → Z.1 39 t = v39 → pw (if (Z.1 35 (j + 1)).toInt = 7 then f_endsWithin_232 x2 r (1 : Int32) Z else f_endsWithin_232 x2 r (0 : Int32) Z) (fun _ Z => pr Z Q)) (E (o + 1) sc q c)) : pr W Q := by
  obtain ⟨gW, mW, nW, kW, ⟨f35, f36, f37⟩, ht, h27, h20, h39⟩ := h
  have hi36 : ix r = t := ixn hr
  refine hE sc q c (j + 1) N1 W Q gW mW ⟨⟨by omega, by omega⟩, fun e => ?_, fun e => ?_⟩ nW (by omega) (by omega) (H.m (fun a H => ?_))
  · rw [f36, hi36, h27]
    exact hf.1 (by omega)
  · rw [f36, hi36, h27]
    exact hf.2 (by omega)
  rintro Y ⟨N2, t2, gY, mY, kY, hY, h1, h2⟩
  have kq := kY.1
  have y35 : Y.1 35 (j + 1) = W.1 35 (j + 1) := kq 35 (j + 1) (by unfold KPs; omega)
  have y36 : Y.1 36 (j + 1) = r := (kq 36 (j + 1) (by unfold KPs; omega)).trans f36
  have y37 : Y.1 37 (j + 1) = W.1 37 (j + 1) := kq 37 (j + 1) (by unfold KPs; omega)
  have yt : ∀ e, (20 ≤ e ∧ e ≤ 28) ∨ e = 39 → Y.1 e t = W.1 e t := fun e he => kq e t (by unfold KPs; omega)
  refine prE_w (k := k) gY (by rw [y35]; exact f35) (by omega) (fun x2 v2 i2 => ?_)
  unfold f_endsWithin
  rw [i2, y36]
  have e35 : (Y.1 35 (j + 1)).toInt = k := by rw [y35]; exact f35
  refine pw_ck (fun _ => pw_let ?_)
  refine pw_neg (by omega) (pw_neg (by omega) (pw_neg (by omega) (pw_neg (by omega) (pw_neg (by omega) (pw_neg (by omega) ?_)))))
  refine pw_bd (x_add (X := Y) (t := t) i2 y36 hi36 (by rw [yt 27 (by omega), h27]; omega)) ?_
  rintro _ Z ⟨za, zb, zc, zd⟩
  have k28 : ∀ e m, ¬ (e = 37 ∧ m = j + 1) → ¬ ((e = 24 ∨ e = 27) ∧ m = t) → ¬ (e = 28 ∧ N ≤ m) → Z.1 e m = Y.1 e m := fun e m a b d => za e m a b (fun ⟨e28, i, hi, hm⟩ => d ⟨e28, by
    rw [y37] at hi
    omega⟩)
  have gZ : XS ch n Z a.1 (o + 1) sc (j + 1 + 1) N2 := by
    refine gY.fq (L := [4800, 5400, 5600, 7400]) ⟨fun e m g => ?_, fun e m g => by rw [zb], by rw [zb]⟩ (by decide)
    have n37 : ¬ e = 37 := fun g1 => g (by rw [g1]; exact (show (7400 : Nat) ∈ _ from by decide))
    have n24 : ¬ e = 24 := fun g1 => g (by rw [g1]; exact (show (4800 : Nat) ∈ _ from by decide))
    have n27 : ¬ e = 27 := fun g1 => g (by rw [g1]; exact (show (5400 : Nat) ∈ _ from by decide))
    have n28 : ¬ e = 28 := fun g1 => g (by rw [g1]; exact (show (5600 : Nat) ∈ _ from by decide))
    exact za e m (by omega) (by omega) (fun z => n28 z.1)
  refine pw_ck (fun _ => pw_let ?_)
  refine H x2 Z N2 i2 gZ (mY.cg (fun m hm => k28 20 m (by omega) (by omega) (by omega)) (fun m hm => by rw [zb]) (fun m hm => k28 21 m (by omega) (by omega) (by omega))) ⟨fun e m g => ?_, fun m g => ?_, fun m g => ?_⟩ ⟨?_, ?_, Or.inr ?_⟩ (by omega) ?_ ?_ ?_
  · have kk := (kW.tr (kY.mono (by omega) (by omega) (Nat.le_refl _))).1 e m g
    rw [← kk]
    exact k28 e m (by unfold KPs at g; omega) (by unfold KPs at g; omega) (by unfold KPs at g; omega)
  · rw [zb]
    exact (kW.tr (kY.mono (by omega) (by omega) (Nat.le_refl _))).2.1 m g
  · rw [zb]
    exact (kW.tr (kY.mono (by omega) (by omega) (Nat.le_refl _))).2.2 m g
  · rw [k28 35 (j + 1) (by omega) (by omega) (by omega)]
    exact e35
  · rw [k28 36 (j + 1) (by omega) (by omega) (by omega)]
    exact y36
  · rw [zc, hY]
    omega
  · rw [zd, yt 27 (by omega), h27]
  · rw [k28 20 t (by omega) (by omega) (by omega), yt 20 (by omega), h20]
  · rw [k28 39 t (by omega) (by omega) (by omega), yt 39 (by omega), h39]
end RITEMS
