/-! the class reads a part -/
section CPT
variable {e n : Nat} {ch : Tx} {X0 X Y Z : St} {q : Nat} {o : Int} {lk : Int × KB} {K : KB} {sc : List Nm} {ws : List Wt} {c : List Ins}
theorem RF.row (h : RF e X Z) (he : e = 2 ∨ e = 24) (j i : Nat) (h1 : e + 11 ≤ j) (h2 : j ≤ e + 17) : Z.1 j i = X.1 j i := h.2.1 j i (by omega) (by omega) (by omega) (by omega) (by omega) (by omega)
theorem RF.nam (h : RF e X Z) (he : e = 2 ∨ e = 24) (i : Nat) : Z.2.1 (e + 10) i = X.2.1 (e + 10) i := h.2.2 _ i (by omega) (by omega)
theorem RF.obj (h : RF e X Z) (he : e = 2 ∨ e = 24) (i : Nat) (hi : ¬ i = 6) : Z.1 e i = X.1 e i := h.2.1 e i (by omega) (by omega) (by omega) (by omega) (by omega) (by omega)
theorem RC.rf (h : RC e ch n X0 lk Y q o sc ws c) : RF e X0 Y := h.2.2.2.2.2
theorem RC.base (h : RC e ch n X0 lk Y q o sc ws c) : RC e ch n Y lk Y q o sc ws c := ⟨h.1, h.2.1, h.2.2.1, h.2.2.2.1, h.2.2.2.2.1, RF.rf⟩
/-- a row of the parts changes -/
theorem RC.prow (h : RC e ch n X0 lk Y q o sc ws c) (h2 : Z.2.2 = Y.2.2) (hk : ∀ j k, ¬ j = 49 → ¬ (e + 11 ≤ j ∧ j ≤ e + 17) → ¬ (j = e ∧ ¬ k = 6) → Z.1 j k = Y.1 j k) (hl : ∀ j k, ¬ j = e + 10 → Z.2.1 j k = Y.2.1 j k) : RC e ch n Z lk Z q o sc ws c := by
  obtain ⟨⟨h1, hp, h3, h4⟩, ⟨hf, h6, h7, h8⟩, ⟨h9, h10⟩, ⟨h11, h12⟩, h13, h14⟩ := h
  have kk : ∀ j k, (j = 46 ∨ j = 47 ∨ j = 1 ∨ (51 ≤ j ∧ j ≤ 53)) → Z.1 j k = Y.1 j k := fun j k hj => hk j k (by omega) (by omega) (by omega)
  have k46 : ∀ k, Z.1 46 k = Y.1 46 k := fun k => kk 46 k (by decide)
  refine ⟨⟨h1, by rw [h2]; exact hp, h3.cg (fun k => kk 47 k (by decide)) (fun k => kk 1 k (by decide)) h2, h4.1, h4.2.cg (fun j k a b => hk j k (by omega) (by omega) (by omega)) (fun k => hk _ k (by omega) (by omega) (by omega))⟩, ⟨by rw [k46]; exact hf, h6.cg (fun k => kk 47 k (by decide)) (fun k => hl 47 k (by omega)), by rw [k46]; exact h7, by rw [k46]; exact h8⟩, ⟨by rw [k46]; exact h9, LOCr.cg (fun k => hl 50 k (by omega)) _ h10⟩, ⟨by rw [k46]; exact h11, WTr.cg (fun j k a b => kk j k (by omega)) _ h12⟩, h13.cg (hk e 6 (by omega) (by omega) (by omega)) (fun j k a b => hk j k (by omega) (by omega) (by omega)), RF.rf⟩
theorem RC.prow1 (h : RC e ch n X0 lk Y q o sc ws c) (j k : Nat) (v : Int32) (hj : j = 49 ∨ (e + 11 ≤ j ∧ j ≤ e + 17) ∨ (j = e ∧ ¬ k = 6)) : RC e ch n (wI Y j k v) lk (wI Y j k v) q o sc ws c :=
  h.prow (by rfl) (fun i m a b d => wI_ne _ _ _ _ _ _ (fun g => by
    obtain ⟨g1, g2⟩ := g
    subst g1
    subst g2
    omega)) (fun _ _ _ => rfl)
/-- as RC, but of what names are known nothing is told -/
def RC0 (e : Nat) (ch : Tx) (n : Nat) (X0 : St) (lk : Int × KB) (Y : St) (q : Nat) (o : Int) (ws : List Wt) (c : List Ins) : Prop :=
  ((e = 2 ∨ e = 24) ∧ Y.2.2 46 1 = e + 1 ∧ TXC ch n Y ∧ q ≤ n ∧ KQ e Y lk.2 c) ∧ ((Y.1 46 3).toInt = 0 ∧ TKq ch Y q ∧ (Y.1 46 2).toInt = o ∧ (Y.1 46 6).toInt = lk.1) ∧ ((Y.1 46 5).toInt = (ws.length : Int) ∧ WTr Y ws) ∧ CD ch n e Y c ∧ RF e X0 Y
theorem RC.r0 (h : RC e ch n X0 lk Y q o sc ws c) : RC0 e ch n X0 lk Y q o ws c := ⟨h.1, h.2.1, h.2.2.2.1, h.2.2.2.2.1, h.2.2.2.2.2⟩
theorem RC0.pe (h : RC0 e ch n X0 lk Y q o ws c) : Y.2.2 46 1 - 1 = e := by rw [h.1.2.1]; rfl
theorem RC0.he (h : RC0 e ch n X0 lk Y q o ws c) : e = 2 ∨ e = 24 := h.1.1
theorem RC0.tx (h : RC0 e ch n X0 lk Y q o ws c) : TXT ch n := h.1.2.2.1.1
theorem RC0.ok (h : RC0 e ch n X0 lk Y q o ws c) : (Y.1 46 3).toInt = 0 := h.2.1.1
theorem RC0.ty (h : RC0 e ch n X0 lk Y q o ws c) : (Y.1 47 3).toInt = ty ch q := h.2.1.2.1.1
theorem RC0.pl (h : RC0 e ch n X0 lk Y q o ws c) : (Y.1 47 4).toInt = (pl ch q : Int) := h.2.1.2.1.2.1
theorem RC0.len (h : RC0 e ch n X0 lk Y q o ws c) : (Y.1 e 6).toInt = (c.length : Int) := h.2.2.2.1.1
theorem RC0.rf (h : RC0 e ch n X0 lk Y q o ws c) : RF e X0 Y := h.2.2.2.2
theorem RC0.pln (h : RC0 e ch n X0 lk Y q o ws c) : _root_.Jvm.Pilot.CBlameCourtLaw_law_r8381_f30dd1.pl ch q ≤ n ∧ n ≤ 3000 := ⟨pl_le h.tx h.1.2.2.2.1, h.tx.1⟩
theorem RC0.base (h : RC0 e ch n X0 lk Y q o ws c) : RC0 e ch n Y lk Y q o ws c := ⟨h.1, h.2.1, h.2.2.1, h.2.2.2.1, RF.rf⟩
theorem RC0.tk {q1 : Nat} (h : RC0 e ch n X0 lk Y q o ws c) (g : TKF Y Z) (t : TKq ch Z q1) (hq : q1 ≤ n) : RC0 e ch n X0 lk Z q1 o ws c := by
  obtain ⟨⟨h1, h2, h3, h4⟩, ⟨h5, h6, h7, h8⟩, ⟨h11, h12⟩, h13, h14⟩ := h
  have k46 : ∀ k, Z.1 46 k = Y.1 46 k := fun k => g.1 46 k (by decide)
  refine ⟨⟨h1, by rw [g.2.2.1]; exact h2, h3.fr g, hq, h4.2.cg (fun j k a b => g.1 j k (by omega)) (fun k => g.1 _ k (by omega))⟩, ⟨by rw [k46]; exact h5, t, by rw [k46]; exact h7, by rw [k46]; exact h8⟩, ⟨by rw [k46]; exact h11, WTr.cg (fun j k a b => g.1 j k (by omega)) _ h12⟩, h13.cg (g.1 e 6 (by omega)) (fun j k a b => g.1 j k (by omega)), h14.tr g.2.2.1 (fun j k a b _ _ _ _ => g.1 j k b) (fun j k a b => g.2.1 j k a)⟩
theorem RC0.prow (h : RC0 e ch n X0 lk Y q o ws c) (h2 : Z.2.2 = Y.2.2) (hk : ∀ j k, ¬ j = 49 → ¬ (e + 11 ≤ j ∧ j ≤ e + 17) → ¬ (j = e ∧ ¬ k = 6) → Z.1 j k = Y.1 j k) (hl : ∀ j k, ¬ j = e + 10 → Z.2.1 j k = Y.2.1 j k) : RC0 e ch n Z lk Z q o ws c := by
  obtain ⟨⟨h1, hp, h3, h4⟩, ⟨hf, h6, h7, h8⟩, ⟨h11, h12⟩, h13, h14⟩ := h
  have kk : ∀ j k, (j = 46 ∨ j = 47 ∨ j = 1 ∨ (51 ≤ j ∧ j ≤ 53)) → Z.1 j k = Y.1 j k := fun j k hj => hk j k (by omega) (by omega) (by omega)
  have k46 : ∀ k, Z.1 46 k = Y.1 46 k := fun k => kk 46 k (by decide)
  refine ⟨⟨h1, by rw [h2]; exact hp, h3.cg (fun k => kk 47 k (by decide)) (fun k => kk 1 k (by decide)) h2, h4.1, h4.2.cg (fun j k a b => hk j k (by omega) (by omega) (by omega)) (fun k => hk _ k (by omega) (by omega) (by omega))⟩, ⟨by rw [k46]; exact hf, h6.cg (fun k => kk 47 k (by decide)) (fun k => hl 47 k (by omega)), by rw [k46]; exact h7, by rw [k46]; exact h8⟩, ⟨by rw [k46]; exact h11, WTr.cg (fun j k a b => kk j k (by omega)) _ h12⟩, h13.cg (hk e 6 (by omega) (by omega) (by omega)) (fun j k a b => hk j k (by omega) (by omega) (by omega)), RF.rf⟩
theorem RC0.prow1 (h : RC0 e ch n X0 lk Y q o ws c) (j k : Nat) (v : Int32) (hj : j = 49 ∨ (e + 11 ≤ j ∧ j ≤ e + 17) ∨ (j = e ∧ ¬ k = 6)) : RC0 e ch n (wI Y j k v) lk (wI Y j k v) q o ws c :=
  h.prow (by rfl) (fun i m a b d => wI_ne _ _ _ _ _ _ (fun g => by
    obtain ⟨g1, g2⟩ := g
    subst g1
    subst g2
    omega)) (fun _ _ _ => rfl)
theorem RC0.empty (h : RC0 e ch n X0 lk Y q o ws c) {v : Int32} (hv : v.toInt = 0) : RC e ch n X0 lk (wI Y 46 9 v) q o [] ws c := by
  obtain ⟨⟨h1, hp, h3, h4⟩, ⟨h5, h6, h7, h8⟩, ⟨h11, h12⟩, h13, h14⟩ := h
  have hk : ∀ j k, ¬ (j = 46 ∧ k = 9) → (wI Y 46 9 v).1 j k = Y.1 j k := fun j k a => wI_ne _ _ _ _ _ _ a
  refine ⟨⟨h1, hp, h3.cg (fun k => hk 47 k (by omega)) (fun k => hk 1 k (by omega)) rfl, h4.1, h4.2.cg (fun j k a b => hk j k (by omega)) (fun k => hk _ k (by omega))⟩, ⟨by rw [hk 46 3 (by decide)]; exact h5, h6.cg (fun k => hk 47 k (by omega)) (fun k => rfl), by rw [hk 46 2 (by decide)]; exact h7, by rw [hk 46 6 (by decide)]; exact h8⟩, ⟨by rw [wI_at]; exact hv, trivial⟩, ⟨by rw [hk 46 5 (by decide)]; exact h11, WTr.cg (fun j k a b => hk j k (by omega)) _ h12⟩, h13.cg (hk e 6 (by omega)) (fun j k a b => hk j k (by omega)), h14.tr rfl (fun j k a _ _ _ _ _ => hk j k (fun g => a g.1)) (fun j k a b => rfl)⟩
theorem l_advance0 (h : RC0 e ch n X0 lk Y q o ws c) (ht : ¬ ty ch q = 260) : pw (g_Tokens_advance Y) (fun _ Z => RC0 e ch n X0 lk Z (nx ch q) o ws c) := by
  refine pw_mono (c_advance h.1.2.2.1 h.2.1.2.1.2.2.1 (nx_le h.tx h.1.2.2.2.1) (by rw [h.ty]; exact ht)) ?_
  rintro r Z ⟨g, t⟩
  exact h.tk g t (nx_le h.tx h.1.2.2.2.1)
theorem l_want0 (h : RC0 e ch n X0 lk Y q o ws c) {p : Int32} {t : Int} (hp : p.toInt = t) (ht : ¬ t = 257 ∧ ¬ t = 260) : pw (g_Reader_want p Y) (fun _ Z => PO Z (sWant ch t q) (fun q1 => RC0 e ch n X0 lk Z q1 o ws c ∧ q1 = nx ch q ∧ pl ch q + 1 ≤ pl ch q1 ∧ pl ch q1 ≤ 3000)) := by
  unfold g_Reader_want sWant
  refine pw_let ?_
  refine pw_ifo (by rw [h.ty, hp]) (fun c1 => ?_) (fun c1 => ?_)
  · refine pw_bd (l_advance0 h (by rw [c1]; exact ht.2)) (fun _ Z hZ => ?_)
    refine pw_ret (PO.s ⟨hZ, rfl, pl_nx h.tx (by rw [c1]; exact ht.1), ?_⟩)
    have := hZ.pln
    omega
  · refine pw_bd (f_Reader_refuse Y (by decide)) (fun _ Z hZ => ?_)
    exact pw_ret (PO.n hZ)
theorem l_partName (hR : RC0 e ch n X0 (0, K) X q o ws c) {p : Int32} {k : Nat} (hp : p.toInt = (k : Int)) (ht : ty ch q = 261) : pw (g_Reader_takePartName p X) (fun _ Z => PO Z (sWant ch 258 (nx ch q)) (fun q2 => RC0 e ch n Z (0, K) Z q2 o ws c ∧ pl ch q + 2 ≤ pl ch q2 ∧ pl ch q2 ≤ 3000 ∧ (∀ j i, e + 11 ≤ j → j ≤ e + 17 → ¬ (i = k ∧ j ≤ e + 12) → Z.1 j i = X.1 j i) ∧ (∀ i, ¬ i = k → Z.2.1 (e + 10) i = X.2.1 (e + 10) i) ∧ Z.1 e 1 = X.1 e 1 ∧ (Z.2.1 (e + 10) k = lN (p8 (nm ch (nx ch q))) ∧ LT (nm ch (nx ch q)) ∧ (nm ch (nx ch q)).length ≤ 8) ∧ (Z.1 (e + 11) k).toInt = ((nm ch (nx ch q)).length : Int) ∧ (Z.1 (e + 12) k).toInt = (pl ch q : Int))) := by
  have he := hR.he
  obtain ⟨-, -, k7, k8, k9, -, -, -⟩ := kYq he
  unfold g_Reader_takePartName
  refine pw_ck (fun _ => ?_)
  refine pw_to hR.pe ?_
  refine pw_to k9 ?_
  refine pw_let ?_
  refine pw_ck (fun _ => ?_)
  rw [ixn hp]
  refine pw_eq (fun X4 e4 => ?_)
  have hR4 : RC0 e ch n X4 (0, K) X4 q o ws c := by rw [e4]; exact hR.prow1 _ _ _ (by omega)
  have r4 : (X4.1 (e + 12) k).toInt = (pl ch q : Int) := by rw [e4, wI_at]; exact hR.pl
  have f4 : ∀ j i, e + 11 ≤ j → j ≤ e + 17 → ¬ (i = k ∧ j ≤ e + 12) → X4.1 j i = X.1 j i := fun j i a b d => by rw [e4]; exact wI_ne _ _ _ _ _ _ (by omega)
  have p4 := pl_nx hR.tx (q := q) (by omega)
  refine pw_bd (l_advance0 hR4 (by omega)) (fun _ X5 hR5 => ?_)
  have F5 := hR5.rf
  refine pw_let ?_
  refine pw_ck (fun _ => ?_)
  refine pw_eq (fun X7 e7 => ?_)
  have hR7 : RC0 e ch n X7 (0, K) X7 (nx ch q) o ws c := by rw [e7]; exact hR5.prow1 _ _ _ (by omega)
  have f7 : ∀ j i, ¬ j = 49 → X7.1 j i = X5.1 j i := fun j i a => by rw [e7]; exact wI_ne _ _ _ _ _ _ (fun g => a g.1)
  refine pw_ck (fun _ => ?_)
  refine pw_to hR7.pe ?_
  refine pw_to k7 ?_
  refine pw_let ?_
  refine pw_ck (fun _ => ?_)
  refine pw_eq (fun X11 e11 => ?_)
  have hR11 : RC0 e ch n X11 (0, K) X11 (nx ch q) o ws c := by
    rw [e11]
    exact hR7.prow (by rfl) (fun _ _ _ _ _ => rfl) (fun j i a => wL_ne _ _ _ _ _ _ (fun g => a g.1))
  have f11 : ∀ j i, X11.1 j i = X7.1 j i := fun j i => by rw [e11]; rfl
  refine pw_ck (fun _ => ?_)
  refine pw_to hR11.pe ?_
  refine pw_to k8 ?_
  refine pw_let ?_
  refine pw_ck (fun _ => ?_)
  refine pw_eq (fun X15 e15 => ?_)
  have hR15 : RC0 e ch n X15 (0, K) X15 (nx ch q) o ws c := by rw [e15]; exact hR11.prow1 _ _ _ (by omega)
  have hTK := hR15.2.1.2.1
  have n15 : X15.2.1 (e + 10) k = X7.2.1 47 5 := by
    rw [e15]
    show X11.2.1 (e + 10) k = X7.2.1 47 5
    rw [e11, wL_at]
  have n15b : X15.2.1 47 5 = X7.2.1 47 5 := by
    rw [e15]
    show X11.2.1 47 5 = X7.2.1 47 5
    rw [e11]
    exact wL_ne _ _ _ _ _ _ (by omega)
  have m15 : X15.1 (e + 11) k = X11.1 47 6 := by rw [e15, wI_at]
  have m15b : X15.1 47 6 = X11.1 47 6 := by rw [e15]; exact wI_ne _ _ _ _ _ _ (by omega)
  have hw := l_want0 hR15 (p := 258) (t := 258) (by decide) (by decide)
  revert hw
  unfold sWant
  by_cases c1 : ty ch (nx ch q) = 258
  · rw [if_pos c1]
    intro hw
    refine pw_bd hw ?_
    rintro _ X16 ⟨hR16, -, p5, p6⟩
    have F16 := hR16.rf
    have hnm := hTK.2.2.2.1 c1
    have hwd := ty_word hR.tx (q := nx ch q) (by omega)
    refine pw_ret (PO.s ⟨hR16.base, by omega, p6, ?_, ?_, ?_, ⟨?_, nm_lt hR.tx _, hwd.2.2.1⟩, ?_, ?_⟩)
    · intro j i a b d
      rw [F16.row he j i a b, e15, wI_ne _ _ _ _ _ _ (by omega), f11, f7 j i (by omega), F5.row he j i a b, f4 j i a b d]
    · intro i d
      rw [F16.nam he, e15]
      show X11.2.1 (e + 10) i = X.2.1 (e + 10) i
      rw [e11, wL_ne _ _ _ _ _ _ (fun g => d g.2), e7]
      show X5.2.1 (e + 10) i = X.2.1 (e + 10) i
      rw [F5.nam he, e4]
      rfl
    · rw [F16.obj he 1 (by decide), e15, wI_ne _ _ _ _ _ _ (by omega), f11, f7 e 1 (by omega), F5.obj he 1 (by decide), e4, wI_ne _ _ _ _ _ _ (by omega)]
    · rw [F16.nam he, n15, ← n15b]
      exact hnm.1
    · rw [F16.row he _ _ (by omega) (by omega), m15, ← m15b]
      exact hnm.2
    · rw [F16.row he _ _ (by omega) (by omega), e15, wI_ne _ _ _ _ _ _ (by omega), f11, f7 _ _ (by omega), F5.row he _ _ (by omega) (by omega)]
      exact r4
  · rw [if_neg c1]
    intro hw
    exact pw_bd hw (fun _ X16 hd => pw_ret (PO.n hd))
/-- a kind, where a colon stands -/
theorem l_colon (hR : RC e ch n X0 (0, K) X q o sc ws c) (ho : 0 ≤ o ∧ o ≤ 40) {KK : Int32 → St → Option (Int32 × St)} {β : Type} {g : Nat × Option (List Int) → Option β} {Q : Int32 → St → β → Prop} (dead : ∀ r Z, fd Z → pw (KK r Z) (fun _ Z => fd Z)) (two : ∀ (Z : St) (q1 : Nat) (kd : List Int) (x : Int32) (ks1 : List (List Int)), K.2.1 <+: ks1 → RC e ch n X0 (0, K.1 + kcn kd, ks1, K.2.2) Z q1 o sc ws c → (K.1 + kcn kd + kcs c ≤ 1549 → ∃ z : Nat, x.toInt = (z : Int) ∧ ks1[z]? = some kd) → WKd (40 - o.toNat) kd → pl ch q + 1 ≤ pl ch q1 → pl ch q1 ≤ 3000 → pw (KK x Z) (fun r Z => PO Z (g (q1, some kd)) (Q r Z))) : ty ch q = 58 → ∀ Z, RC e ch n X0 (0, K) Z (nx ch q) o sc ws c → pw (bnd (g_Reader_takeKind Z) KK) (fun r Z => PO Z (((sK ch 64 o (nx ch q)).bind fun r => some (r.1, some r.2)).bind g) (Q r Z)) := by
  intro ht Z hZ
  have p4 := pl_nx hR.tx (q := q) (by omega)
  have hK := l_takeKind Z (nx ch q) o 0 K.1 K.2.1 (I := K.2.2) hZ ho.1 ho.2 (by omega) (by omega)
  revert hK
  cases sK ch 64 o (nx ch q) with
  | none => exact fun hK => pw_bd hK (fun x Z1 hd => dead x Z1 hd)
  | some a =>
    intro hK
    refine pw_bd hK ?_
    rintro x Z1 ⟨⟨⟨ks1, h1, h2, h3⟩, _, h4⟩, h5, h6, -⟩
    exact two Z1 a.1 a.2 x ks1 h1 h2 h3 h4 (by omega) h6
def kpp (pp : List (Nm × List Int)) : Nat := (pp.map (fun x => kcn x.2)).sum
/-- params that have been read -/
def TPq (e : Nat) (ch : Tx) (n : Nat) (c : List Ins) (K : KB) (k : Nat) (o : Int) (a : Nat × List (Nm × List Int)) (Z : St) : Prop := ∃ ks1, K.2.1 <+: ks1 ∧ RC e ch n Z (0, K.1 + kpp a.2, ks1, K.2.2) Z a.1 o (a.2.map Prod.fst) [] c ∧ (K.1 + kpp a.2 + kcs c ≤ 1549 → ∀ i, i < a.2.length → ∃ z : Nat, (Z.1 (e + 14) (4 * k + i)).toInt = (z : Int) ∧ ks1[z]? = some (a.2.reverse.getD i ([], [])).2) ∧ ∀ x ∈ a.2, WKd 39 x.2
theorem kpp_c (l : Nm) (d : List Int) (pp : List (Nm × List Int)) : kpp ((l, d) :: pp) = kpp pp + kcn d := by
  unfold kpp
  rw [List.map_cons, List.sum_cons]
  show kcn d + _ = _
  omega
theorem rev_c (x : Nm × List Int) (pp : List (Nm × List Int)) : (∀ i, i < pp.length → (x :: pp).reverse.getD i ([], []) = pp.reverse.getD i ([], [])) ∧ (x :: pp).reverse.getD pp.length ([], []) = x := by
  rw [List.reverse_cons]
  refine ⟨fun i hi => ?_, ?_⟩
  · rw [List.getD_eq_getElem?_getD, List.getD_eq_getElem?_getD, List.getElem?_append_left (by rw [List.length_reverse]; exact hi)]
  · rw [List.getD_eq_getElem?_getD, List.getElem?_append_right (by rw [List.length_reverse]; omega), List.length_reverse, Nat.sub_self]
    rfl
theorem l_takeParams (hR : RC0 e ch n X0 (0, K) X q 0 [] c) (h9 : K9 <+: K.2.1) {p : Int32} {k : Nat} (hp : p.toInt = (k : Int)) (hk : k < 40) : pw (g_Reader_takeParams p X) (fun _ Z => PO Z (sHead ch q) (fun a => TPq e ch n c K k 0 a Z ∧ a.2.length ≤ 4 ∧ pl ch q + 2 ≤ pl ch a.1 ∧ pl ch a.1 ≤ 3000 ∧ (∀ j i, e + 11 ≤ j → j ≤ e + 17 → ¬ (j = e + 13 ∧ i = k) → ¬ (j = e + 14 ∧ 4 * k ≤ i) → Z.1 j i = X.1 j i) ∧ (∀ i, Z.2.1 (e + 10) i = X.2.1 (e + 10) i) ∧ Z.1 e 1 = X.1 e 1 ∧ (Z.1 (e + 13) k).toInt = (a.2.length : Int))) := by
  have he := hR.he
  obtain ⟨-, -, k7, k8, k9, k10, k11, -⟩ := kYq he
  unfold g_Reader_takeParams sHead
  refine pw_eq (fun X1 e1 => ?_)
  have hR1 : RC e ch n X0 (0, K) X1 q 0 [] [] c := by
    rw [e1]
    exact hR.empty (by decide)
  have hR1 := hR1.base
  have g1 : ∀ j i, ¬ j = 46 → X1.1 j i = X.1 j i := fun j i a => by rw [e1]; exact wI_ne _ _ _ _ _ _ (fun g => a g.1)
  refine pw_bo (l_enter hR1 (t := 40) (by decide) (by decide) (by decide)) ?_ ?_
  · rintro _ X2 q3 ⟨hR2, -, p1, p2, -⟩
    have F2 := hR2.rf
    -- what all turns keep
    have out : ∀ (Y : St) (ps : List (Nm × List Int)) (q2 : Nat), TPq e ch n c K k 1 (q2, ps) Y → ps.length ≤ 4 → pl ch q + 1 ≤ pl ch q2 → (∀ j i, e + 11 ≤ j → j ≤ e + 17 → ¬ (j = e + 14 ∧ 4 * k ≤ i) → Y.1 j i = X.1 j i) → (∀ i, Y.2.1 (e + 10) i = X.2.1 (e + 10) i) → Y.1 e 1 = X.1 e 1 → pw (g_Reader_takeParams_173 p Y) (fun _ Z => PO Z ((sWant ch 41 q2).bind fun q1 => some (q1, ps)) (fun a => TPq e ch n c K k 0 a Z ∧ a.2.length ≤ 4 ∧ pl ch q + 2 ≤ pl ch a.1 ∧ pl ch a.1 ≤ 3000 ∧ (∀ j i, e + 11 ≤ j → j ≤ e + 17 → ¬ (j = e + 13 ∧ i = k) → ¬ (j = e + 14 ∧ 4 * k ≤ i) → Z.1 j i = X.1 j i) ∧ (∀ i, Z.2.1 (e + 10) i = X.2.1 (e + 10) i) ∧ Z.1 e 1 = X.1 e 1 ∧ (Z.1 (e + 13) k).toInt = (a.2.length : Int))) := by
      intro Y ps q2 hTY h4 p3 hrow hnam hobj
      obtain ⟨ks1, y1, hRY, y2, y3⟩ := hTY
      have hRY : RC e ch n Y (0, K.1 + kpp ps, ks1, K.2.2) Y q2 1 (ps.map Prod.fst) [] c := hRY
      unfold g_Reader_takeParams_173
      refine pw_ck (fun _ => ?_)
      refine pw_to hRY.pe ?_
      refine pw_to k10 ?_
      refine pw_eq (fun x5 e5 => ?_)
      have h5 : x5.toInt = (ps.length : Int) := by
        rw [e5, hRY.2.2.1.1, List.length_map]
      refine pw_ck (fun _ => ?_)
      rw [ixn hp]
      refine pw_eq (fun X6 e6 => ?_)
      have hR6 : RC e ch n X6 (0, K.1 + kpp ps, ks1, K.2.2) X6 q2 1 (ps.map Prod.fst) [] c := by rw [e6]; exact hRY.prow1 _ _ _ (by omega)
      refine pw_bo (l_want hR6 (t := 41) (by decide) (by decide)) ?_ ?_
      · rintro _ X7 q4 ⟨hR7, -, p4, p5⟩
        have F7 := hR7.rf
        refine pw_let ?_
        refine pw_let ?_
        refine pw_eq (fun X10 e10 => ?_)
        have hR10 := hR7.shut (by decide)
        rw [show (1 : Int) - 1 = 0 from by decide] at hR10
        rw [← e10] at hR10
        have f10 : ∀ j i, ¬ j = 46 → X10.1 j i = X7.1 j i := fun j i a => by rw [e10]; exact wI_ne _ _ _ _ _ _ (fun g => a g.1)
        refine pw_ret (PO.s ⟨⟨ks1, y1, hR10.base, fun b i hi => ?_, y3⟩, h4, by show pl ch q + 2 ≤ pl ch q4; omega, p5, ?_, ?_, ?_, ?_⟩)
        · obtain ⟨z, z1, z2⟩ := y2 b i hi
          refine ⟨z, ?_, z2⟩
          rw [f10 _ _ (by omega), F7.row he _ _ (by omega) (by omega), e6, wI_ne _ _ _ _ _ _ (by omega)]
          exact z1
        · intro j i a b d f
          rw [f10 j i (by omega), F7.row he j i a b, e6, wI_ne _ _ _ _ _ _ (fun g => d g), hrow j i a b f]
        · intro i
          rw [e10]
          show X7.2.1 (e + 10) i = X.2.1 (e + 10) i
          rw [F7.nam he, e6]
          exact hnam i
        · rw [f10 e 1 (by omega), F7.obj he 1 (by decide), e6, wI_ne _ _ _ _ _ _ (by omega), hobj]
        · rw [f10 _ _ (by omega), F7.row he _ _ (by omega) (by omega), e6, wI_at, h5]
      · intro _ X7 hd
        refine pw_eq (fun x8 _ => ?_)
        refine pw_eq (fun x9 _ => ?_)
        refine pw_eq (fun X10 eX10 => ?_)
        have dX10 : fd X10 := by rw [eX10]; exact fd_w hd (by decide)
        exact pw_ret dX10
    have loop : ∀ N, (∀ (a1 a2 : Int32) (X : St), fd X → pw (g_Reader_takeParams_13 N a1 a2 X) (fun _ Y => fd Y)) ∧ ∀ (a2 : Int32) (Y : St) (m : Nat) (ps : List (Nm × List Int)) (q2 : Nat), a2.toInt = 5 - (m : Int) → 1 ≤ m → ps.length + m = 5 → TPq e ch n c K k 1 (q2, ps) Y → pl ch q + 1 ≤ pl ch q2 → (∀ j i, e + 11 ≤ j → j ≤ e + 17 → ¬ (j = e + 14 ∧ 4 * k ≤ i) → Y.1 j i = X.1 j i) → (∀ i, Y.2.1 (e + 10) i = X.2.1 (e + 10) i) → Y.1 e 1 = X.1 e 1 → pw (g_Reader_takeParams_13 N p a2 Y) (fun _ Z => PO Z (sPar1 ch m ps q2) (fun a => TPq e ch n c K k 0 a Z ∧ a.2.length ≤ 4 ∧ pl ch q + 2 ≤ pl ch a.1 ∧ pl ch a.1 ≤ 3000 ∧ (∀ j i, e + 11 ≤ j → j ≤ e + 17 → ¬ (j = e + 13 ∧ i = k) → ¬ (j = e + 14 ∧ 4 * k ≤ i) → Z.1 j i = X.1 j i) ∧ (∀ i, Z.2.1 (e + 10) i = X.2.1 (e + 10) i) ∧ Z.1 e 1 = X.1 e 1 ∧ (Z.1 (e + 13) k).toInt = (a.2.length : Int))) := by
      intro N
      unfold g_Reader_takeParams_13
      refine lp_ind (P := fun (r : Int32 → Int32 → St → Option (Int32 × St)) => (∀ (a1 a2 : Int32) (X : St), fd X → pw (r a1 a2 X) (fun _ Y => fd Y)) ∧ ∀ (a2 : Int32) (Y : St) (m : Nat) (ps : List (Nm × List Int)) (q2 : Nat), a2.toInt = 5 - (m : Int) → 1 ≤ m → ps.length + m = 5 → TPq e ch n c K k 1 (q2, ps) Y → pl ch q + 1 ≤ pl ch q2 → (∀ j i, e + 11 ≤ j → j ≤ e + 17 → ¬ (j = e + 14 ∧ 4 * k ≤ i) → Y.1 j i = X.1 j i) → (∀ i, Y.2.1 (e + 10) i = X.2.1 (e + 10) i) → Y.1 e 1 = X.1 e 1 → pw (r p a2 Y) (fun _ Z => PO Z (sPar1 ch m ps q2) (fun a => TPq e ch n c K k 0 a Z ∧ a.2.length ≤ 4 ∧ pl ch q + 2 ≤ pl ch a.1 ∧ pl ch a.1 ≤ 3000 ∧ (∀ j i, e + 11 ≤ j → j ≤ e + 17 → ¬ (j = e + 13 ∧ i = k) → ¬ (j = e + 14 ∧ 4 * k ≤ i) → Z.1 j i = X.1 j i) ∧ (∀ i, Z.2.1 (e + 10) i = X.2.1 (e + 10) i) ∧ Z.1 e 1 = X.1 e 1 ∧ (Z.1 (e + 13) k).toInt = (a.2.length : Int)))) ⟨fun _ _ _ _ => pw_none, fun _ _ _ _ _ _ _ _ _ _ _ _ _ => pw_none⟩ ?_ N
      rintro r13 ⟨zr13, ih⟩
      refine ⟨fun a_1 a_2 X hd => ?_, fun a2 Y m ps q2 h2 hm hpm hTY p3 hrow hnam hobj => ?_⟩
      · unfold g_Reader_takeParams_13_s
        refine pw_ite (fun _ => ?_) (fun _ => ?_)
        · exact z_Reader_takeParams_173 hd
        · refine pw_ite (fun _ => ?_) (fun _ => ?_)
          · exact z_Reader_takeParams_34 zr13 hd
          · refine pw_eq (fun x33 _ => ?_)
            refine pw_ite (fun _ => ?_) (fun _ => ?_)
            · exact z_Reader_takeParams_173 hd
            · exact z_Reader_takeParams_34 zr13 hd
      · unfold g_Reader_takeParams_13_s
        have hTY0 := hTY
        obtain ⟨ks1, y1, hRY, y2, y3⟩ := hTY
        have hRY : RC e ch n Y (0, K.1 + kpp ps, ks1, K.2.2) Y q2 1 (ps.map Prod.fst) [] c := hRY
        obtain ⟨m, rfl⟩ : ∃ m1, m = m1 + 1 := ⟨m - 1, by omega⟩
        refine pw_neg (by omega) ?_
        rw [sPar1]
        have hpl := hRY.pln
        -- behind a param's kind
        have l144 : ∀ (x y b1 : Int32) (kq : Nat × Option (List Int)) (Z : St) (ks2 : List (List Int)), ks1 <+: ks2 → RC e ch n Y (0, K.1 + kpp ps + kcn (kq.2.getD [3]), ks2, K.2.2) Z kq.1 1 (nm ch q2 :: ps.map Prod.fst) [] c → (K.1 + kpp ps + kcn (kq.2.getD [3]) + kcs c ≤ 1549 → ∃ z : Nat, x.toInt = (z : Int) ∧ ks2[z]? = some (kq.2.getD [3])) → WKd 39 (kq.2.getD [3]) → b1.toInt = ((4 * k + ps.length : Nat) : Int) → pl ch q2 + 1 ≤ pl ch kq.1 → 1 ≤ m → pw (g_Reader_takeParams_144 r13 p a2 x b1 (e + 14) Z) (fun _ Z => PO Z (if ty ch kq.1 = 44 then sPar1 ch m ((nm ch q2, kq.2.getD [3]) :: ps) (nx ch kq.1) else (sWant ch 41 kq.1).bind fun q2_1 => some (q2_1, (nm ch q2, kq.2.getD [3]) :: ps)) (fun a => TPq e ch n c K k 0 a Z ∧ a.2.length ≤ 4 ∧ pl ch q + 2 ≤ pl ch a.1 ∧ pl ch a.1 ≤ 3000 ∧ (∀ j i, e + 11 ≤ j → j ≤ e + 17 → ¬ (j = e + 13 ∧ i = k) → ¬ (j = e + 14 ∧ 4 * k ≤ i) → Z.1 j i = X.1 j i) ∧ (∀ i, Z.2.1 (e + 10) i = X.2.1 (e + 10) i) ∧ Z.1 e 1 = X.1 e 1 ∧ (Z.1 (e + 13) k).toInt = (a.2.length : Int))) := by
          intro x y b1 kq Z ks2 k12 hZ hxk hxw hb1 p5 h1m
          have FZ := hZ.rf
          unfold g_Reader_takeParams_144
          refine pw_ck (fun _ => ?_)
          rw [ixn hb1]
          refine pw_eq (fun X23 e23 => ?_)
          have hR23 : RC e ch n X23 (0, K.1 + kpp ps + kcn (kq.2.getD [3]), ks2, K.2.2) X23 kq.1 1 (((nm ch q2, kq.2.getD [3]) :: ps).map Prod.fst) [] c := by rw [e23]; exact hZ.prow1 _ _ _ (by omega)
          have r23 : ∀ j i, e + 11 ≤ j → j ≤ e + 17 → ¬ (j = e + 14 ∧ 4 * k ≤ i) → X23.1 j i = X.1 j i := fun j i a b d => by rw [e23, wI_ne _ _ _ _ _ _ (by omega), FZ.row he j i a b, hrow j i a b d]
          have n23 : ∀ i, X23.2.1 (e + 10) i = X.2.1 (e + 10) i := fun i => by
            rw [e23]
            show Z.2.1 (e + 10) i = X.2.1 (e + 10) i
            rw [FZ.nam he, hnam]
          have o23 : X23.1 e 1 = X.1 e 1 := by rw [e23, wI_ne _ _ _ _ _ _ (by omega), FZ.obj he 1 (by decide), hobj]
          have hT : ∀ (W : St) (q5 : Nat), RC e ch n W (0, K.1 + kpp ps + kcn (kq.2.getD [3]), ks2, K.2.2) W q5 1 (((nm ch q2, kq.2.getD [3]) :: ps).map Prod.fst) [] c → (∀ i, W.1 (e + 14) i = X23.1 (e + 14) i) → TPq e ch n c K k 1 (q5, (nm ch q2, kq.2.getD [3]) :: ps) W := by
            intro W q5 hW hr
            have ek : K.1 + kpp ((nm ch q2, kq.2.getD [3]) :: ps) = K.1 + kpp ps + kcn (kq.2.getD [3]) := by rw [kpp_c]; omega
            obtain ⟨rv1, rv2⟩ := rev_c (nm ch q2, kq.2.getD [3]) ps
            refine ⟨ks2, y1.trans k12, ?_, fun b i hi => ?_, fun y hy => ?_⟩
            · show RC e ch n W (0, K.1 + kpp ((nm ch q2, kq.2.getD [3]) :: ps), ks2, K.2.2) W q5 1 _ [] c
              rw [ek]
              exact hW
            · have b : K.1 + kpp ((nm ch q2, kq.2.getD [3]) :: ps) + kcs c ≤ 1549 := b
              rw [ek] at b
              have hi : i < ps.length + 1 := hi
              show ∃ z : Nat, (W.1 (e + 14) (4 * k + i)).toInt = (z : Int) ∧ ks2[z]? = some (((nm ch q2, kq.2.getD [3]) :: ps).reverse.getD i ([], [])).2
              by_cases ei : i = ps.length
              · obtain ⟨z, z1, z2⟩ := hxk b
                refine ⟨z, ?_, ?_⟩
                · rw [hr, e23, ei, wI_at]; exact z1
                · rw [ei, rv2]; exact z2
              · obtain ⟨z, z1, z2⟩ := y2 (by show K.1 + kpp ps + kcs c ≤ 1549; omega) i (by show i < ps.length; omega)
                refine ⟨z, ?_, ?_⟩
                · rw [hr, e23, wI_ne _ _ _ _ _ _ (by omega), FZ.row he _ _ (by omega) (by omega)]; exact z1
                · rw [rv1 i (by omega)]; exact pf_at k12 z2
            · rcases List.mem_cons.mp hy with g | g
              · rw [g]; exact hxw
              · exact y3 y g
          refine pw_let ?_
          refine pw_ifo (by rw [hR23.ty]) (fun c1 => ?_) (fun c1 => ?_)
          · have p6 := pl_nx hR23.tx (q := kq.1) (by omega)
            refine pw_bd (l_advance hR23 (by omega)) (fun _ X25 hR25 => ?_)
            have F25 := hR25.rf
            refine pw_let ?_
            refine ih _ X25 m ((nm ch q2, kq.2.getD [3]) :: ps) (nx ch kq.1) (by rw [i1 (by omega), h2]; omega) h1m (by show ps.length + 1 + m = 5; omega) (hT X25 _ hR25.base (fun i => F25.row he _ i (by omega) (by omega))) (by omega) (fun j i a b d => by rw [F25.row he j i a b, r23 j i a b d]) (fun i => by rw [F25.nam he, n23]) (by rw [F25.obj he 1 (by decide), o23])
          · exact out X23 ((nm ch q2, kq.2.getD [3]) :: ps) kq.1 (hT X23 _ hR23 (fun _ => rfl)) (by show ps.length + 1 ≤ 4; omega) (by omega) r23 n23 o23
        have l95 : ∀ (y : Int64), (ty ch q2 = 258 → y = lN (p8 (nm ch q2)) ∧ 1 ≤ m) → pw (g_Reader_takeParams_95 r13 p a2 y Y) (fun _ Z => PO Z ((sWant ch 258 q2).bind fun q1 => (sColon ch 1 q1).bind fun kq => if ty ch kq.1 = 44 then sPar1 ch m ((nm ch q2, kq.2.getD [3]) :: ps) (nx ch kq.1) else (sWant ch 41 kq.1).bind fun q2_1 => some (q2_1, (nm ch q2, kq.2.getD [3]) :: ps)) (fun a => TPq e ch n c K k 0 a Z ∧ a.2.length ≤ 4 ∧ pl ch q + 2 ≤ pl ch a.1 ∧ pl ch a.1 ≤ 3000 ∧ (∀ j i, e + 11 ≤ j → j ≤ e + 17 → ¬ (j = e + 13 ∧ i = k) → ¬ (j = e + 14 ∧ 4 * k ≤ i) → Z.1 j i = X.1 j i) ∧ (∀ i, Z.2.1 (e + 10) i = X.2.1 (e + 10) i) ∧ Z.1 e 1 = X.1 e 1 ∧ (Z.1 (e + 13) k).toInt = (a.2.length : Int))) := by
          intro y hy
          unfold g_Reader_takeParams_95
          have hw := l_want hRY (p := 258) (t := 258) (by decide) (by decide)
          revert hw
          unfold sWant
          by_cases c1 : ty ch q2 = 258
          · rw [if_pos c1]
            intro hw
            refine pw_bd hw ?_
            rintro _ X14 ⟨hR14, -, p5, p6⟩
            obtain ⟨hy1, hy2⟩ := hy c1
            have hwd := ty_word hR.tx (q := q2) (by omega)
            refine pw_let ?_
            refine pw_pos hR14.ok ?_
            refine pw_bd (l_pushLocal hR14 (by rw [List.length_map]; omega) (nm_lt hR.tx q2) hwd.2.2.1 hy1) (fun _ X16 hR16 => ?_)
            refine pw_ck (fun _ => ?_)
            refine pw_to hR16.pe ?_
            refine pw_to k11 ?_
            refine pw_eq (fun x19 e19 => ?_)
            refine pw_eq (fun x20 e20 => ?_)
            have l4 : (4 : Int32).toInt = 4 := by decide
            have v2 : a2.toInt = (ps.length : Int) := by omega
            have v19 : x19.toInt = (k : Int) * 4 := by rw [e19, ti_mul (by rw [hp, l4]; omega) (by rw [hp, l4]; omega), hp, l4]
            have v20 : x20.toInt = ((4 * k + ps.length : Nat) : Int) := by rw [e20, ti_add (by rw [v19, v2]; omega) (by rw [v19, v2]; omega), v19, v2]; omega
            refine pw_bd (l_tookColon hR16) ?_
            show ∀ r Z, _ → pw _ (fun _ Z => PO Z ((sColon ch 1 (nx ch q2)).bind fun kq => if ty ch kq.1 = 44 then sPar1 ch m ((nm ch q2, kq.2.getD [3]) :: ps) (nx ch kq.1) else (sWant ch 41 kq.1).bind fun q2_1 => some (q2_1, (nm ch q2, kq.2.getD [3]) :: ps)) (fun a => TPq e ch n c K k 0 a Z ∧ a.2.length ≤ 4 ∧ pl ch q + 2 ≤ pl ch a.1 ∧ pl ch a.1 ≤ 3000 ∧ (∀ j i, e + 11 ≤ j → j ≤ e + 17 → ¬ (j = e + 13 ∧ i = k) → ¬ (j = e + 14 ∧ 4 * k ≤ i) → Z.1 j i = X.1 j i) ∧ (∀ i, Z.2.1 (e + 10) i = X.2.1 (e + 10) i) ∧ Z.1 e 1 = X.1 e 1 ∧ (Z.1 (e + 13) k).toInt = (a.2.length : Int)))
            unfold sColon
            rintro x21 X22 h
            rcases h with ⟨t1, t2, hR22, t3, t4⟩ | ⟨t1, t2, rfl⟩
            · rw [if_pos t1]
              refine pw_neg t2 ?_
              refine l_colon (K := (K.1 + kpp ps, ks1, K.2.2)) hR16 (by decide) ?_ ?_ t1 X22 hR22
              · intro x27 X28 hd
                have ne46_e18 : ¬ 46 = e + 14 := by omega
                exact z_Reader_takeParams_144 zr13 ne46_e18 hd
              · intro Z q1 kd x ks2 g1 hZ g2 g3 p7 p8_
                exact l144 x 0 _ (q1, some kd) Z ks2 g1 hZ g2 g3 v20 (by show pl ch q2 + 1 ≤ pl ch q1; omega) hy2
            · rw [if_neg t1]
              refine pw_pos t2 ?_
              have e0 : K.1 + kpp ps + kcn [3] = K.1 + kpp ps := by rw [kcn_0 (by omega)]; omega
              refine l144 2 0 _ (nx ch q2, none) X22 ks1 List.prefix_rfl ?_ (fun _ => ⟨2, by decide, K9.at (h9.trans y1) rfl⟩) (WKd.i3 _) v20 p5 hy2
              show RC e ch n Y (0, K.1 + kpp ps + kcn [3], ks1, K.2.2) X22 (nx ch q2) 1 _ [] c
              rw [e0]
              exact hR16
          · rw [if_neg c1]
            intro hw
            refine pw_bd hw (fun _ X14 hd => ?_)
            have hd : fd X14 := hd
            show pw _ (fun _ Z => fd Z)
            refine pw_eq (fun x15 _ => ?_)
            refine pw_ite (fun _ => ?_) (fun _ => ?_)
            · refine pw_bd (z_Reader_pushLocal hd) (fun _ X16 dX16 => ?_)
              refine pw_ck (fun hck1 => ?_)
              refine pw_eq (fun e17 ee17 => ?_)
              have pke17 : PKo e17 := by rw [ee17]; exact refO_pk hck1
              have ne46_e17 : ¬ 46 = e17 := PKo.ne pke17
              refine pw_eq (fun e18 ee18 => ?_)
              have ne46_e18 : ¬ 46 = e18 := by rw [ee18]; exact PKo.row pke17 11
              refine pw_eq (fun x19 _ => ?_)
              refine pw_eq (fun x20 _ => ?_)
              refine pw_bd (z_Reader_tookColon dX16) (fun x21 X22 dX22 => ?_)
              refine pw_ite (fun _ => ?_) (fun _ => ?_)
              · exact z_Reader_takeParams_144 zr13 ne46_e18 dX22
              · refine pw_bd (z_Reader_takeKind dX22) (fun x27 X28 dX28 => ?_)
                exact z_Reader_takeParams_144 zr13 ne46_e18 dX28
            · exact z_Reader_takeParams_173 hd
        have l72 : ∀ (y : Int64), (ty ch q2 = 258 → y = lN (p8 (nm ch q2)) ∧ slot (ps.map Prod.fst) (nm ch q2) = -1) → pw (g_Reader_takeParams_72 r13 p a2 y Y) (fun _ Z => PO Z (if ty ch q2 = 258 ∧ (¬ slot (ps.map Prod.fst) (nm ch q2) = -1 ∨ m = 0) then none else (sWant ch 258 q2).bind fun q1 => (sColon ch 1 q1).bind fun kq => if ty ch kq.1 = 44 then sPar1 ch m ((nm ch q2, kq.2.getD [3]) :: ps) (nx ch kq.1) else (sWant ch 41 kq.1).bind fun q2_1 => some (q2_1, (nm ch q2, kq.2.getD [3]) :: ps)) (fun a => TPq e ch n c K k 0 a Z ∧ a.2.length ≤ 4 ∧ pl ch q + 2 ≤ pl ch a.1 ∧ pl ch a.1 ≤ 3000 ∧ (∀ j i, e + 11 ≤ j → j ≤ e + 17 → ¬ (j = e + 13 ∧ i = k) → ¬ (j = e + 14 ∧ 4 * k ≤ i) → Z.1 j i = X.1 j i) ∧ (∀ i, Z.2.1 (e + 10) i = X.2.1 (e + 10) i) ∧ Z.1 e 1 = X.1 e 1 ∧ (Z.1 (e + 13) k).toInt = (a.2.length : Int))) := by
          intro y hy
          unfold g_Reader_takeParams_72
          refine pw_let ?_
          by_cases c1 : ty ch q2 = 258
          · refine pw_pos (by rw [hRY.ty]; exact c1) ?_
            obtain ⟨hy1, hy2⟩ := hy c1
            by_cases c2 : m = 0
            · rw [if_pos (show (ty ch q2 = 258 ∧ (¬ slot (ps.map Prod.fst) (nm ch q2) = -1 ∨ m = 0)) from ⟨c1, Or.inr c2⟩)]
              refine pw_neg (by omega) ?_
              refine pw_bd (f_Reader_refuse Y (by decide)) (fun _ X29 hd => ?_)
              show pw _ (fun _ Z => fd Z)
              exact z_Reader_takeParams_95 zr13 hd
            · rw [if_neg (show ¬ (ty ch q2 = 258 ∧ (¬ slot (ps.map Prod.fst) (nm ch q2) = -1 ∨ m = 0)) from fun g => by rcases g.2 with g | g; exact g hy2; exact c2 g)]
              refine pw_pos (by omega) ?_
              exact l95 y (fun _ => ⟨hy1, by omega⟩)
          · rw [if_neg (show ¬ (ty ch q2 = 258 ∧ (¬ slot (ps.map Prod.fst) (nm ch q2) = -1 ∨ m = 0)) from fun g => c1 g.1)]
            refine pw_neg (by rw [hRY.ty]; exact c1) ?_
            exact l95 y (fun g => absurd g c1)
        have l34 : pw (g_Reader_takeParams_34 r13 p a2 Y) (fun _ Z => PO Z (if ty ch q2 = 258 ∧ (¬ slot (ps.map Prod.fst) (nm ch q2) = -1 ∨ m = 0) then none else (sWant ch 258 q2).bind fun q1 => (sColon ch 1 q1).bind fun kq => if ty ch kq.1 = 44 then sPar1 ch m ((nm ch q2, kq.2.getD [3]) :: ps) (nx ch kq.1) else (sWant ch 41 kq.1).bind fun q2_1 => some (q2_1, (nm ch q2, kq.2.getD [3]) :: ps)) (fun a => TPq e ch n c K k 0 a Z ∧ a.2.length ≤ 4 ∧ pl ch q + 2 ≤ pl ch a.1 ∧ pl ch a.1 ≤ 3000 ∧ (∀ j i, e + 11 ≤ j → j ≤ e + 17 → ¬ (j = e + 13 ∧ i = k) → ¬ (j = e + 14 ∧ 4 * k ≤ i) → Z.1 j i = X.1 j i) ∧ (∀ i, Z.2.1 (e + 10) i = X.2.1 (e + 10) i) ∧ Z.1 e 1 = X.1 e 1 ∧ (Z.1 (e + 13) k).toInt = (a.2.length : Int))) := by
          unfold g_Reader_takeParams_34
          refine pw_eq (fun y11 e11 => ?_)
          refine pw_let ?_
          by_cases c1 : ty ch q2 = 258
          · refine pw_pos (by rw [hRY.ty]; exact c1) ?_
            have hnm := hRY.2.1.2.1.2.2.2.1 c1
            have hwd := ty_word hR.tx (q := q2) (by omega)
            have hy : y11 = lN (p8 (nm ch q2)) := by rw [e11]; exact hnm.1
            refine pw_bd (l_slotOf hRY (by rw [List.length_map]; omega) (nm_lt hR.tx q2) hwd.2.2.1 hy) ?_
            rintro x30 X31 ⟨rfl, h30⟩
            refine pw_ite (fun c2 => ?_) (fun c2 => ?_)
            · exact l72 y11 (fun _ => ⟨hy, by omega⟩)
            · rw [if_pos (show (ty ch q2 = 258 ∧ (¬ slot (ps.map Prod.fst) (nm ch q2) = -1 ∨ m = 0)) from ⟨c1, Or.inl (fun g => c2 (by omega))⟩)]
              refine pw_bd (f_Reader_refuse X31 (by decide)) (fun _ X32 hd => ?_)
              show pw _ (fun _ Z => fd Z)
              exact z_Reader_takeParams_95 zr13 hd
          · refine pw_neg (by rw [hRY.ty]; exact c1) ?_
            exact l72 y11 (fun g => absurd g c1)
        by_cases c4 : m = 4
        · refine pw_neg (by omega) ?_
          refine pw_let ?_
          by_cases c5 : ty ch q2 = 41
          · rw [if_pos (show (m = 4 ∧ ty ch q2 = 41) from ⟨c4, c5⟩)]
            refine pw_pos (by rw [hRY.ty]; exact c5) ?_
            exact out Y ps q2 hTY0 (by omega) p3 hrow hnam hobj
          · rw [if_neg (show ¬ (m = 4 ∧ ty ch q2 = 41) from fun g => c5 g.2)]
            refine pw_neg (by rw [hRY.ty]; exact c5) l34
        · rw [if_neg (show ¬ (m = 4 ∧ ty ch q2 = 41) from fun g => c4 g.1)]
          exact pw_pos (by omega) l34
    exact (loop BIG).2 0 X2 5 [] q3 (by decide) (by decide) rfl ⟨K.2.1, List.prefix_rfl, hR2.base, fun _ i hi => absurd hi (Nat.not_lt_zero _), fun x hx => absurd hx List.not_mem_nil⟩ (by omega) (fun j i a b _ => by rw [F2.row he j i a b, g1 j i (by omega)]) (fun i => by rw [F2.nam he, e1]; rfl) (by rw [F2.obj he 1 (by decide), g1 e 1 (by omega)])
  · intro _ X2 hd
    exact z_Reader_takeParams_13 _ _ _ _ hd
theorem l_takeOwnKind (hR : RC e ch n X0 (0, K) X q 0 sc [] c) (h9 : K9 <+: K.2.1) {p : Int32} {k : Nat} (hp : p.toInt = (k : Int)) (hk : k < 40) : pw (g_Reader_takeOwnKind p X) (fun _ Z => PO Z (sOwn ch q) (fun a => (∃ ks1, K.2.1 <+: ks1 ∧ RC e ch n Z (0, K.1 + kcn a.2, ks1, K.2.2) Z a.1 0 sc [] c ∧ (K.1 + kcn a.2 + kcs c ≤ 1549 → ∃ z : Nat, (Z.1 (e + 15) k).toInt = (z : Int) ∧ ks1[z]? = some a.2) ∧ WKd 40 a.2) ∧ pl ch q + 1 ≤ pl ch a.1 ∧ pl ch a.1 ≤ 3000 ∧ (∀ j i, e + 11 ≤ j → j ≤ e + 17 → ¬ (j = e + 15 ∧ i = k) → ¬ (j = e + 17 ∧ i = k) → Z.1 j i = X.1 j i) ∧ (∀ i, Z.2.1 (e + 10) i = X.2.1 (e + 10) i) ∧ Z.1 e 1 = X.1 e 1 ∧ (Z.1 (e + 17) k).toInt = (c.length : Int))) := by
  have he := hR.he
  obtain ⟨-, k4, -, -, -, -, -, k12⟩ := kYq he
  have l23 : ∀ (x : Int32) (kq : Nat × Option (List Int)) (Z : St), ∀ (ks1 : List (List Int)), K.2.1 <+: ks1 → RC e ch n X (0, K.1 + kcn (kq.2.getD [3]), ks1, K.2.2) Z kq.1 0 sc [] c → (K.1 + kcn (kq.2.getD [3]) + kcs c ≤ 1549 → ∃ z : Nat, x.toInt = (z : Int) ∧ ks1[z]? = some (kq.2.getD [3])) → WKd 40 (kq.2.getD [3]) → pl ch q ≤ pl ch kq.1 → pw (g_Reader_takeOwnKind_23 p x p (e + 15) Z) (fun _ Z => PO Z ((sWant ch 61 kq.1).bind fun q5 => some (q5, kq.2.getD [3])) (fun a => (∃ ks1, K.2.1 <+: ks1 ∧ RC e ch n Z (0, K.1 + kcn a.2, ks1, K.2.2) Z a.1 0 sc [] c ∧ (K.1 + kcn a.2 + kcs c ≤ 1549 → ∃ z : Nat, (Z.1 (e + 15) k).toInt = (z : Int) ∧ ks1[z]? = some a.2) ∧ WKd 40 a.2) ∧ pl ch q + 1 ≤ pl ch a.1 ∧ pl ch a.1 ≤ 3000 ∧ (∀ j i, e + 11 ≤ j → j ≤ e + 17 → ¬ (j = e + 15 ∧ i = k) → ¬ (j = e + 17 ∧ i = k) → Z.1 j i = X.1 j i) ∧ (∀ i, Z.2.1 (e + 10) i = X.2.1 (e + 10) i) ∧ Z.1 e 1 = X.1 e 1 ∧ (Z.1 (e + 17) k).toInt = (c.length : Int))) := by
    intro x kq Z ks1 g1 hZ g2 g3 p3
    have FZ := hZ.rf
    unfold g_Reader_takeOwnKind_23
    refine pw_ck (fun _ => ?_)
    rw [ixn hp]
    refine pw_eq (fun X5 e5 => ?_)
    have hR5 : RC e ch n X5 (0, K.1 + kcn (kq.2.getD [3]), ks1, K.2.2) X5 kq.1 0 sc [] c := by rw [e5]; exact hZ.prow1 _ _ _ (by omega)
    refine pw_bo (l_want hR5 (t := 61) (by decide) (by decide)) ?_ ?_
    · rintro _ X6 q5 ⟨hR6, -, p4, p5⟩
      have F6 := hR6.rf
      refine pw_ck (fun _ => ?_)
      refine pw_to hR6.pe ?_
      refine pw_to k4 ?_
      refine pw_ck (fun _ => ?_)
      refine pw_to hR6.pe ?_
      refine pw_eq (fun x10 e10 => ?_)
      refine pw_ck (fun _ => ?_)
      refine pw_eq (fun X11 e11 => ?_)
      have hR11 : RC e ch n X11 (0, K.1 + kcn (kq.2.getD [3]), ks1, K.2.2) X11 q5 0 sc [] c := by rw [e11]; exact hR6.prow1 _ _ _ (by omega)
      refine pw_ret (PO.s ⟨⟨ks1, g1, hR11, fun b => ?_, g3⟩, by show pl ch q + 1 ≤ pl ch q5; omega, p5, ?_, ?_, ?_, ?_⟩)
      · obtain ⟨z, z1, z2⟩ := g2 b
        refine ⟨z, ?_, z2⟩
        rw [e11, wI_ne _ _ _ _ _ _ (by omega), F6.row he _ _ (by omega) (by omega), e5, wI_at]
        exact z1
      · intro j i a b d f
        rw [e11, wI_ne _ _ _ _ _ _ (fun g => f g), F6.row he j i a b, e5, wI_ne _ _ _ _ _ _ (fun g => d g), FZ.row he j i a b]
      · intro i
        rw [e11]
        show X6.2.1 (e + 10) i = X.2.1 (e + 10) i
        rw [F6.nam he, e5]
        show Z.2.1 (e + 10) i = X.2.1 (e + 10) i
        rw [FZ.nam he]
      · rw [e11, wI_ne _ _ _ _ _ _ (by omega), F6.obj he 1 (by decide), e5, wI_ne _ _ _ _ _ _ (by omega), FZ.obj he 1 (by decide)]
      · rw [e11, wI_at, e10]
        exact hR6.len
    · intro _ X6 hd
      refine pw_ck (fun hck1 => ?_)
      refine pw_eq (fun e7 ee7 => ?_)
      have pke7 : PKo e7 := by rw [ee7]; exact refO_pk hck1
      have ne46_e7 : ¬ 46 = e7 := PKo.ne pke7
      refine pw_eq (fun e8 ee8 => ?_)
      have ne46_e8 : ¬ 46 = e8 := by rw [ee8]; exact PKo.row pke7 4
      refine pw_ck (fun hck2 => ?_)
      refine pw_eq (fun e9 ee9 => ?_)
      have pke9 : PKo e9 := by rw [ee9]; exact refO_pk hck2
      have ne46_e9 : ¬ 46 = e9 := PKo.ne pke9
      refine pw_eq (fun x10 _ => ?_)
      refine pw_ck (fun _ => ?_)
      refine pw_eq (fun X11 eX11 => ?_)
      have dX11 : fd X11 := by rw [eX11]; exact fd_w hd (fun g_ => ne46_e8 g_.1)
      exact pw_ret dX11
  unfold g_Reader_takeOwnKind sOwn
  refine pw_ck (fun _ => ?_)
  refine pw_to hR.pe ?_
  refine pw_to k12 ?_
  have hRb := hR.base
  refine pw_bd (l_tookColon hRb) ?_
  unfold sColon
  rintro x3 X4 h
  rcases h with ⟨t1, t2, hR4, t3, t4⟩ | ⟨t1, t2, rfl⟩
  · rw [if_pos t1]
    refine pw_neg t2 ?_
    refine l_colon hRb (by decide) ?_ ?_ t1 X4 hR4
    · intro x12 X13 hd
      have ne46_e2 : ¬ 46 = e + 15 := by omega
      exact z_Reader_takeOwnKind_23 ne46_e2 hd
    · intro Z q1 kd x ks1 g1 hZ g2 g3 p7 p8_
      exact l23 x (q1, some kd) Z ks1 g1 hZ g2 g3 (by show pl ch q ≤ pl ch q1; omega)
  · rw [if_neg t1]
    refine pw_pos t2 ?_
    refine l23 2 (q, none) X4 K.2.1 List.prefix_rfl ?_ (fun _ => ⟨2, by decide, K9.at h9 rfl⟩) (WKd.i3 _) (Nat.le_refl _)
    show RC e ch n X4 (0, K.1 + kcn [3], K.2.1, K.2.2) X4 q 0 sc [] c
    rw [show K.1 + kcn [3] = K.1 by rw [kcn_0 (by omega)]; omega]
    exact hRb
theorem l_endPart (hR : RC e ch n X0 (0, K) X q o sc ws c) {p1 p2 : Int32} {k i : Nat} (h1 : p1.toInt = (k : Int)) (h2 : p2.toInt = (i : Int)) (hi : i < c.length) (hc : c.length ≤ 3 * pl ch q) (hk : k < 40) : pw (g_Reader_endPart p1 p2 X) (fun _ Z => PO Z (sEnd ch k q c i) (fun a => RC e ch n Z (0, K) Z a.1 o sc ws a.2 ∧ a.2.length = c.length + 2 ∧ pl ch q + 1 ≤ pl ch a.1 ∧ pl ch a.1 ≤ 3000 ∧ (∀ j i, e + 11 ≤ j → j ≤ e + 17 → Z.1 j i = X.1 j i) ∧ (∀ i, Z.2.1 (e + 10) i = X.2.1 (e + 10) i) ∧ (Z.1 e 1).toInt = (k : Int) + 1)) := by
  have he := hR.he
  have hpl := hR.pln
  have hR := hR.base
  unfold g_Reader_endPart sEnd
  refine pw_ck (fun _ => ?_)
  refine pw_to hR.pe ?_
  refine pw_bd (l_placeOf hR h2 hi) ?_
  rintro x2 X3 ⟨rfl, g2⟩
  refine pw_bd (l_emit (kd := []) hR (by omega) (a1 := 35) (a2 := (k : Int)) (by decide) (fun _ => ofI h1) g2 (fun g => absurd g (by decide))) ?_
  rintro x4 X5 ⟨⟨h4, hl1⟩, hR5⟩
  refine pw_ck (fun _ => ?_)
  refine pw_to hR5.pe ?_
  refine pw_bd (l_placeOf hR5 h2 (by omega)) ?_
  rintro x7 X8 ⟨rfl, g7⟩
  refine pw_bd (l_emit (kd := []) hR5 (by omega) (a1 := 17) (a2 := 0) (by decide) (fun _ => by decide) g7 (fun g => absurd g (by decide))) ?_
  rintro x9 X10 ⟨⟨h9, hl2⟩, hR10⟩
  refine pw_bo (l_want hR10 (t := 59) (by decide) (by decide)) ?_ ?_
  · rintro _ X11 q6 ⟨hR11, -, p1_, p2_⟩
    have F := hR11.rf
    refine pw_ck (fun _ => ?_)
    refine pw_to hR11.pe ?_
    refine pw_eq (fun x13 e13 => ?_)
    refine pw_eq (fun X14 e14 => ?_)
    have l1 : (1 : Int32).toInt = 1 := by decide
    have hR14 := hR11.prow1 e 1 x13 (by omega)
    rw [← e14] at hR14
    refine pw_ret (PO.s ⟨hR14, by show ((c ++ [((35, (k : Int), plc c i, []) : Ins)]) ++ [(17, 0, plc (c ++ [(35, (k : Int), plc c i, [])]) i, [])]).length = c.length + 2; omega, p1_, p2_, ?_, ?_, ?_⟩)
    · intro j m a b
      rw [e14, wI_ne _ _ _ _ _ _ (by omega), F.row he j m a b]
    · intro m
      rw [e14]
      show X11.2.1 (e + 10) m = X3.2.1 (e + 10) m
      rw [F.nam he]
    · rw [e14, wI_at, e13, ti_add (by rw [h1, l1]; omega) (by rw [h1, l1]; omega), h1, l1]
  · intro _ X11 hd
    refine pw_ck (fun hck1 => ?_)
    refine pw_eq (fun e12 ee12 => ?_)
    have pke12 : PKo e12 := by rw [ee12]; exact refO_pk hck1
    have ne46_e12 : ¬ 46 = e12 := PKo.ne pke12
    refine pw_eq (fun x13 _ => ?_)
    refine pw_eq (fun X14 eX14 => ?_)
    have dX14 : fd X14 := by rw [eX14]; exact fd_w hd (fun g_ => ne46_e12 g_.1)
    exact pw_ret dX14
end CPT
