/-! the reference reads items -/
section RITEMS
variable {ch : Tx} {n q : Nat} {X Y Z X0 : St} {o : Int} {sc : List Nm} {j N s N0 : Nat} {Q : Int32 → St → Prop} {c c1 cb : List Ins}
/-- a full frame takes no more -/
theorem pr_full (h : XS ch n X q o sc (j + 1) N) (hm : (X.1 0 23).toInt = 0) (hf : ((X.1 35 j).toInt = 12 ∧ (X.1 27 (ix (X.1 36 j))).toInt = 4) ∨ ((X.1 35 j).toInt = 8 ∧ (X.1 27 (ix (X.1 36 j))).toInt = 20)) (hQ : DQ Q) : pr X Q := by
  have h22 := (h.fe (by omega))
  have l1 : (1 : Int32).toInt = 1 := by decide
  have c60 : pw (f_begins_60 X) (fun _ Z => pr Z Q) := by
    unfold f_begins_60 f_begins_65
    refine pw_bd (x_isBeg h.1) ?_
    rintro x5 X6 ⟨rfl, _⟩
    refine pw_ite (fun _ => pw_bd (q_stray _) (fun _ Z d => pw_ret (pr_dd d hQ))) (fun _ => pw_neg (by decide) ?_)
    refine pw_let ?_
    exact pw_bd (q_fails _ (by decide)) (fun _ Z d => pw_ret (pr_dd d hQ))
  refine pr_0 h hm ?_
  unfold f_begins
  refine pw_let ?_
  refine pw_eq (fun x2 e2 => ?_)
  have v2 : x2.toInt = (j : Int) := by
    rw [e2, ti_sub (by rw [h22, l1]; omega) (by rw [h22, l1]; have := Int32.toInt_lt (X.1 0 22); omega), h22, l1]
    omega
  rw [ixn v2]
  have c33 : (X.1 35 j).toInt = 8 ∧ (X.1 27 (ix (X.1 36 j))).toInt = 20 → pw (f_begins_33 x2 X) (fun _ Z => pr Z Q) := by
    intro g
    unfold f_begins_33
    rw [ixn v2]
    refine pw_ck (fun _ => pw_let (pw_pos g.1 (pw_ck (fun _ => pw_let (pw_ck (fun _ => pw_let (pw_pos g.2 c60)))))))
  refine pw_ck (fun _ => pw_let ?_)
  rcases hf with g | g
  · exact pw_pos g.1 (pw_ck (fun _ => pw_let (pw_ck (fun _ => pw_let (pw_pos g.2 c60)))))
  · exact pw_neg (by omega) (c33 g)
/-- what of a node stays while its items are read -/
def TFx (Z W : St) (t : Nat) : Prop := ∀ e, (20 ≤ e ∧ e ≤ 23) ∨ e = 25 ∨ e = 26 ∨ e = 39 → W.1 e t = Z.1 e t
theorem TFx.eq {Z W W1 : St} {t : Nat} (h : TFx Z W t) (g : ∀ e, 20 ≤ e → W1.1 e t = W.1 e t) : TFx Z W1 t := fun e he => (g e (by omega)).trans (h e he)
/-- the items that have been read, and their code -/
def CHq (ch : Tx) (Z : St) (t N1 : Nat) (sp : Nat → List Ins → List Ins → Prop) (cb c1 : List Ins) (es : Els) : Prop := OMc Z (OM ch Z) sp (t + 1) (iv Z 24 t) cb.length 0 es ∧ iv Z 27 t = (es.length : Int) ∧ (∀ a ∈ es, a.2.1 ≤ N1) ∧ c1 = cb ++ cds es ∧ een (t + 1) es = N1
theorem CHq.cg {Z W : St} {t N1 : Nat} {sp : Nat → List Ins → List Ins → Prop} {es : Els} (h : CHq ch Z t N1 sp cb c es) (hX : KJq Z) (hk : KGq Z W) (h1 : ∀ e k, 20 ≤ e ∧ e ≤ 28 → k < N1 → W.1 e k = Z.1 e k) (h2 : ∀ k, k < N1 → W.2.1 29 k = Z.2.1 29 k) (ht : t < N1) : CHq ch W t N1 sp cb c es := by
  obtain ⟨a, b, d, e, f⟩ := h
  refine ⟨?_, ?_, d, e, f⟩
  · unfold iv
    rw [h1 24 t (by omega) ht]
    refine OMc.cg (b := 0) (hi := N1) (fun _ _ _ _ _ x => ⟨x.bd.1, x.bd.2.1⟩) (fun lo' hi' u i e _ x2 x3 => x3.cg ⟨fun e k he _ hk _ => h1 e k he (by omega), fun k _ hk => h2 k (by omega), KDk.oj hX hk.1⟩) (fun k _ hk => h1 28 k (by omega) hk) es _ _ _ _ a (Nat.zero_le _) d
  · unfold iv
    rw [h1 27 t (by omega) ht]
    exact b
/-- a bracket closes: what holds then -/
def CLq (ch : Tx) (n : Nat) (X : St) (o : Int) (sc : List Nm) (j t m : Nat) (sp : Nat → List Ins → List Ins → Prop) (cb : List Ins) (Q : Int32 → St → Prop) (b : Out) : Prop := ∀ (W : St) (N3 : Nat) (es : Els), XS ch n W b.1 o sc (j + 1) N3 → NMr ch W N3 b.2 → KP X W (j + 1) t sc.length → t < N3 → (W.1 0 24).toInt = (t : Int) → (W.1 0 23).toInt = 2 → TFx X W t → es.length = m → CHq ch W t N3 sp cb b.2 es → pr W Q
theorem b_shut2 {v r : Int32} {t N1 q1 : Nat} {sp : Nat → List Ins → List Ins → Prop} {es : Els} (hv : 33 ≤ v.toInt ∧ v.toInt ≤ 125) (hZ : XS ch n Z q1 (o + 1) sc (j + 1 + 1) N1) (ho : 0 ≤ o ∧ o ≤ 40) (hM : NMr ch Z N1 c1) (hK : KP X Z (j + 1) t sc.length) (hr : r.toInt = (t : Int)) (ht : t < N1) (hT : TFx X Z t) (hC : CHq ch Z t N1 sp cb c1 es) (H : HH (DQ Q) (fun q2 => CLq ch n X o sc j t es.length sp cb Q (q2, c1)) (sWant ch v.toInt q1)) : pw (f_shuts v r Z) (fun _ W => pr W Q) := by
  have l1 : (1 : Int32).toInt = 1 := by decide
  unfold f_shuts
  refine pw_bd (x_closes hZ ⟨by omega, by omega⟩ hv) ?_
  rintro _ X1 (⟨hty, g1, t1⟩ | ⟨hty, hd⟩)
  · rw [show o + 1 - 1 = o by omega] at g1
    have h22 := (g1.fe (by omega))
    refine pw_let ?_
    refine pw_eq (fun x3 e3 => ?_)
    refine pw_eq (fun X4 e4 => ?_)
    have v3 : x3.toInt = ((j + 1 : Nat) : Int) := by
      rw [e3, ti_sub (by rw [h22, l1]; omega) (by rw [h22, l1]; have := Int32.toInt_lt (X1.1 0 22); omega), h22, l1]
      omega
    have g4 : XS ch n X4 (nx ch q1) o sc (j + 1) N1 := by rw [e4]; exact g1.w22 v3
    have m4 : NMr ch X4 N1 c1 := by rw [e4]; exact (hM.tn t1).wI (by omega)
    have k4 : KP X X4 (j + 1) t sc.length := by rw [e4]; exact (hK.tn t1).wI (by unfold KPs; omega)
    have kz : KGq Z X4 := by rw [e4]; exact ((KP.rf (X := Z) (j := 0) (N := 0) (s := 0)).tn t1).wI (by unfold KPs; omega) |>.2.2.2
    have r4 : ∀ e k, 20 ≤ e → X4.1 e k = Z.1 e k := fun e k he => by rw [e4, wI_ne _ _ _ _ _ _ (by omega)]; exact t1.r e k (by omega)
    have l4 : ∀ k, X4.2.1 29 k = Z.2.1 29 k := fun k => by rw [e4]; exact t1.2.1 29 k (by omega)
    unfold f_done
    refine pw_bd (R := fun _ W => pr W Q) ?_ (fun _ W h => pw_ret h)
    refine pw_eq (fun X5 e5 => ?_)
    refine pw_eq (fun X6 e6 => ?_)
    refine pw_ret ?_
    have r6 : ∀ e k, 20 ≤ e → X6.1 e k = Z.1 e k := fun e k he => by rw [e6, wI_ne _ _ _ _ _ _ (by omega), e5, wI_ne _ _ _ _ _ _ (by omega)]; exact r4 e k he
    refine H.wa hty X6 N1 es ?_ ?_ ?_ ht ?_ ?_ (hT.eq (fun e he => r6 e t he)) rfl (hC.cg hZ.kj ?_ (fun e k he _ => r6 e k he.1) (fun k _ => by rw [e6, e5]; exact l4 k) ht)
    · rw [e6, e5]; exact (g4.wI (by omega)).wI (by omega)
    · rw [e6, e5]; exact (m4.wI (by omega)).wI (by omega)
    · rw [e6, e5]; exact (k4.wI (by unfold KPs; omega)).wI (by unfold KPs; omega)
    · rw [e6, wI_ne _ _ _ _ _ _ (by omega), e5, wI_at]; exact hr
    · rw [e6, wI_at]; decide
    · refine kz.tr (KGq.of (fun e k q => ?_))
      rw [e6, wI_ne _ _ _ _ _ _ (by omega), e5, wI_ne _ _ _ _ _ _ (by omega)]
  · have hQ := H.wa0 hty
    refine pw_let ?_
    refine pw_eq (fun x3 e3 => ?_)
    refine pw_eq (fun X4 e4 => ?_)
    have d4 : wrX X4 := by rw [e4]; exact wrX_w hd (by omega)
    exact pw_bd (uw_done d4) (fun _ W d => pw_ret (pr_dd d hQ))
/-- where the next item begins -/
def ITq (ch : Tx) (n : Nat) (X W : St) (q : Nat) (o : Int) (sc : List Nm) (j t N1 : Nat) (r : Int32) (k : Int) (sp : Nat → List Ins → List Ins → Prop) (cb c : List Ins) (es : Els) : Prop :=
  XS ch n W q (o + 1) sc (j + 1 + 1) N1 ∧ (W.1 0 23).toInt = 0 ∧ NMr ch W N1 c ∧ KP X W (j + 1) t sc.length ∧ ((W.1 35 (j + 1)).toInt = k ∧ W.1 36 (j + 1) = r ∧ (W.1 37 (j + 1)).toInt = ela (-1) es) ∧ t < N1 ∧ TFx X W t ∧ CHq ch W t N1 sp cb c es
/-- one item more, whatever stands behind it -/
def ITx (ch : Tx) (Z : St) (j t N2 : Nat) (sp : Nat → List Ins → List Ins → Prop) (cb c c1 : List Ins) (es : Els) : Prop := ∃ (u : Nat) (e : List Ins), plc c1 c.length = plh e ∧ (Z.1 37 (j + 1)).toInt = (u : Int) ∧ ∀ (s : List Ins) (sp1 : Nat → List Ins → List Ins → Prop), (∀ m e s, m < es.length → sp m e s → sp1 m e s) → sp1 es.length e s → CHq ch Z t N2 sp1 cb (c1 ++ s) (es ++ [(u, N2, e, s)])
/-- an item has been read: what stands then; f_add -/
theorem b_item {E : EF} (hE : SEq ch n (o + 1) E) {W : St} {t N1 : Nat} {r : Int32} {k : Int} {sp : Nat → List Ins → List Ins → Prop} {es : Els} (h : ITq ch n X W q o sc j t N1 r k sp cb c es) (hr : r.toInt = (t : Int)) (hk : k = 7 ∨ k = 8 ∨ k = 12) (hi : es.length ≤ 4000) (hf : (k = 12 → ¬ es.length = 4) ∧ (k = 8 → ¬ es.length = 20)) (ho : 0 ≤ o ∧ o < 40) (H : HH (DQ Q) (fun a => ∀ (x2 : Int32) (Z : St) (N2 : Nat), ix x2 = j + 1 → XS ch n Z a.1 (o + 1) sc (j + 1 + 1) N2 → NMr ch Z N2 a.2 → KP X Z (j + 1) t sc.length → ((Z.1 35 (j + 1)).toInt = k ∧ Z.1 36 (j + 1) = r) → t < N2 → TFx X Z t → ITx ch Z j t N2 sp cb c a.2 es → pw (if (Z.1 35 (j + 1)).toInt = 7 then f_endsWithin_232 x2 r (1 : Int32) Z else f_endsWithin_232 x2 r (0 : Int32) Z) (fun _ Z => pr Z Q)) (E (o + 1) sc q c)) : pr W Q := by
  obtain ⟨gW, mW, nW, kW, ⟨f35, f36, f37⟩, ht, hT, hC⟩ := h
  have hi36 : ix r = t := ixn hr
  have h27 : (W.1 27 t).toInt = (es.length : Int) := hC.2.1
  have hbd : ∀ {S : St}, ∀ lo hi u i e, OM ch S lo hi u i e → lo ≤ u ∧ u < hi := fun _ _ _ _ _ x => ⟨x.bd.1, x.bd.2.1⟩
  have hla := OMc.la hbd es _ _ _ _ (-1) hC.1
  have hen := hC.2.2.2.2
  refine hE sc q c (j + 1) N1 W Q gW mW ⟨⟨by omega, by omega⟩, fun e => ?_, fun e => ?_⟩ nW (by omega) (by omega) (H.m (fun a H => ?_))
  · rw [f36, hi36, h27]
    have := hf.1 (by omega)
    omega
  · rw [f36, hi36, h27]
    have := hf.2 (by omega)
    omega
  rintro Y ⟨N2, t2, gY, mY, kY, hY, h1, h2, e, ee, eo⟩
  have kq := kY.1
  have y35 : Y.1 35 (j + 1) = W.1 35 (j + 1) := kq 35 (j + 1) (by unfold KPs; omega)
  have y36 : Y.1 36 (j + 1) = r := (kq 36 (j + 1) (by unfold KPs; omega)).trans f36
  have y37 : Y.1 37 (j + 1) = W.1 37 (j + 1) := kq 37 (j + 1) (by unfold KPs; omega)
  have yt : ∀ e, (20 ≤ e ∧ e ≤ 28) ∨ e = 39 → Y.1 e t = W.1 e t := fun e he => kq e t (by unfold KPs; omega)
  have yC : CHq ch Y t N1 sp cb c es := hC.cg gW.kj kY.2.2.2 (fun e k he hk => kq e k (by unfold KPs; omega)) (fun k hk => kY.2.1 k hk) ht
  refine prE_w (k := k) gY (by rw [y35]; exact f35) (by omega) (fun x2 v2 i2 => ?_)
  unfold f_endsWithin
  rw [i2, y36]
  have e35 : (Y.1 35 (j + 1)).toInt = k := by rw [y35]; exact f35
  refine pw_ck (fun _ => pw_let ?_)
  refine pw_neg (by omega) (pw_neg (by omega) (pw_neg (by omega) (pw_neg (by omega) (pw_neg (by omega) (pw_neg (by omega) ?_)))))
  refine pw_bd (x_add (X := Y) (t := t) i2 y36 hi36 (by rw [yt 27 (by omega), h27]; omega)) ?_
  rintro _ Z ⟨za, zb, zc, zd, ze, zf⟩
  have la : (Y.1 37 (j + 1)).toInt = ela (-1) es := by rw [y37]; exact f37
  have k28 : ∀ e m, ¬ (e = 37 ∧ m = j + 1) → ¬ ((e = 24 ∨ e = 27) ∧ m = t) → ¬ (e = 28 ∧ (m : Int) = ela (-1) es) → Z.1 e m = Y.1 e m := fun e m a b d => za e m a b (fun ⟨e28, i, hi, hm⟩ => d ⟨e28, by
    rw [la] at hi
    omega⟩)
  have ll : ∀ m : Nat, (m : Int) = ela (-1) es → t + 1 ≤ m ∧ m < N1 := fun m hm => by
    rcases hla.2 with e0 | e0
    · rw [e0] at hm
      have : (m : Int) = -1 := hm
      omega
    · omega
  have kj : KJq Z := gY.kj.cg (fun e m q => k28 e m (by omega) (by omega) (by omega))
  have gZ : XS ch n Z a.1 (o + 1) sc (j + 1 + 1) N2 := by
    refine gY.fq (L := [4800, 5400, 5600, 7400]) ⟨fun e m g => ?_, fun e m g => by rw [zb], by rw [zb]⟩ (by decide) kj
    have n37 : ¬ e = 37 := fun g1 => g (by rw [g1]; exact (show (7400 : Nat) ∈ _ from by decide))
    have n24 : ¬ e = 24 := fun g1 => g (by rw [g1]; exact (show (4800 : Nat) ∈ _ from by decide))
    have n27 : ¬ e = 27 := fun g1 => g (by rw [g1]; exact (show (5400 : Nat) ∈ _ from by decide))
    have n28 : ¬ e = 28 := fun g1 => g (by rw [g1]; exact (show (5600 : Nat) ∈ _ from by decide))
    exact za e m (by omega) (by omega) (fun z => n28 z.1)
  have kZ : KGq Y Z := KGq.of (fun e m q => k28 e m (by omega) (by omega) (by omega))
  have kk := kW.tr (kY.mono (by omega) (by omega) (Nat.le_refl _))
  have o24 : (Y.1 0 24).toInt = (t2 : Int) := hY
  refine pw_ck (fun _ => pw_let ?_)
  refine H x2 Z N2 i2 gZ (mY.cg (fun m hm => k28 20 m (by omega) (by omega) (by omega)) (fun m hm => by rw [zb]) (fun m hm => k28 21 m (by omega) (by omega) (by omega))) ⟨fun e m g => ?_, fun m g => ?_, fun m g => ?_, kk.2.2.2.tr kZ⟩ ⟨?_, ?_⟩ (by omega) (fun e he => ?_) ?_
  · have k3 := kk.1 e m g
    rw [← k3]
    exact k28 e m (by unfold KPs at g; omega) (by unfold KPs at g; omega) (fun z => by
      have := ll m z.2
      unfold KPs at g
      omega)
  · rw [zb]
    exact kk.2.1 m g
  · rw [zb]
    exact kk.2.2.1 m g
  · rw [k28 35 (j + 1) (by omega) (by omega) (by omega)]
    exact e35
  · rw [k28 36 (j + 1) (by omega) (by omega) (by omega)]
    exact y36
  · rw [k28 e t (by omega) (by omega) (by omega), yt e (by omega)]
    exact hT e he
  · refine ⟨t2, e, by rw [ee, plc_app], by rw [zc]; exact hY, fun s sp1 s1 s2 => ?_⟩
    have ag : ∀ lo' hi' u : Nat, N1 ≤ lo' ∨ ((hi' : Int) ≤ ela (-1) es ∨ (u : Int) = ela (-1) es) → t + 1 ≤ lo' → AGR Y Z lo' hi' u := fun lo' hi' u g g0 => ⟨fun e k he x1 x2 x3 => k28 e k (by omega) (by omega) (fun z => by
      have := ll k z.2
      omega), fun k _ _ => by rw [zb], KDk.oj gY.kj kZ.1⟩
    refine ⟨?_, ?_, ?_, ?_, een.ad es _⟩
    · refine OMc.ad (b := t + 1) (hi := N1) (X := Y) (R := OM ch Y) hbd es (t + 1) (iv Y 24 t) (iv Z 24 t) (-1) cb.length 0 (OMc.sp es _ _ _ _ yC.1 (fun m e s hm => s1 m e s (by omega))) (fun lo' hi' u i e x1 x2 x3 x4 => x4.cg (ag lo' hi' u (Or.inr x3) x1)) (Nat.le_refl _) hC.2.2.1 (fun m m1 m2 m3 => k28 28 m (by omega) (by omega) (by omega)) (fun en => ?_) (fun en => ⟨?_, fun m hm => ?_⟩) ?_ (by rw [Nat.zero_add]; exact s2)
      · unfold iv
        rw [ze (by rw [la, en]; rfl)]
        exact hY
      · unfold iv
        rw [(zf (fun z => by
          rw [la] at z
          rcases hla.2 with e0 | e0
          · exact en e0
          · omega)).1]
      · rw [(zf (fun z => by rw [la, ← hm] at z; omega)).2 m (by rw [la]; exact hm)]
        exact hY
      · have lc : cb.length + (cds es).length = c.length := by rw [yC.2.2.2.1, List.length_append]
        rw [hen, lc]
        exact eo.cg (ag N1 N2 t2 (Or.inl (Nat.le_refl _)) (by omega))
    · unfold iv
      rw [zd, yt 27 (by omega), h27, List.length_append, List.length_singleton]
      omega
    · intro b hb
      rcases List.mem_append.mp hb with hb | hb
      · have := hC.2.2.1 b hb
        omega
      · rw [List.mem_singleton.mp hb]
        exact Nat.le_refl _
    · rw [cds.ad, ee, hC.2.2.2.1]
      simp only [List.append_assoc]
end RITEMS
