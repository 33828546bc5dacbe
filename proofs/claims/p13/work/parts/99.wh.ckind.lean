/-! the class reads a kind -/
section CKIND
variable {e n : Nat} {ch : Tx} {X0 : St} {sc : List Nm} {ws : List Wt} {c : List Ins} {I : List Nat × Nat}
def kcl (ds : List (List Int)) : Nat := (ds.map kcn).sum
theorem kcn_ap (a b : List Int) : kcn (a ++ b) = kcn a + kcn b := by
  unfold kcn
  rw [List.filter_append, List.length_append]
theorem kcn_fl : ∀ ds : List (List Int), kcn ds.flatten = kcl ds := by
  intro ds
  induction ds with
  | nil => rfl
  | cons d ds ih =>
    rw [List.flatten_cons, kcn_ap, ih]
    unfold kcl
    rw [List.map_cons, List.sum_cons]
theorem kcn_c {a : Int} (d : List Int) (h : 4 ≤ a) : kcn (a :: d) = kcn d + 1 := by
  unfold kcn
  rw [List.filter_cons, if_pos (by simpa using h), List.length_cons]
theorem kcn_0 {a : Int} (h : a < 4) : kcn [a] = 0 := by
  unfold kcn
  rw [List.filter_cons, if_neg (by simp; omega)]
  rfl
/-- the table as it stands becomes the one that is told of -/
theorem RC.rb {Y : St} {q : Nat} {o l : Int} {P : Nat} {ks0 : List (List Int)} (h : RC e ch n X0 (l, P, ks0, I) Y q o sc ws c) : ∃ ks1, ks0 <+: ks1 ∧ RC e ch n X0 (l, P, ks1, I) Y q o sc ws c ∧ (P + kcs c ≤ 1549 → K9 <+: ks1) := by
  by_cases b : P + kcs c ≤ 1549
  · obtain ⟨ks, a1, a2, a3, a4, a5⟩ := h.kq.2 b
    exact ⟨ks, a3, h.rows rfl ⟨h.kq.1, fun _ => ⟨ks, a1, a2, List.prefix_rfl, a4, a5⟩⟩ rfl (fun _ _ _ _ _ _ => rfl) h.2.2.2.2.1, fun _ => a2.1⟩
  · exact ⟨ks0, List.prefix_rfl, h, fun z => absurd z b⟩
theorem pf_at {ks ks1 : List (List Int)} {z : Nat} {d : List Int} (h : ks <+: ks1) (hz : ks[z]? = some d) : ks1[z]? = some d := by
  obtain ⟨l, rfl⟩ := h
  rw [List.getElem?_append_left (List.getElem?_eq_some_iff.mp hz).1]
  exact hz
/-- fewer kinds are told of -/
theorem RC.pf {Y : St} {q : Nat} {o l : Int} {P : Nat} {ks0 ks1 : List (List Int)} (h : RC e ch n X0 (l, P, ks1, I) Y q o sc ws c) (g : ks0 <+: ks1) : RC e ch n X0 (l, P, ks0, I) Y q o sc ws c :=
  h.rows rfl ⟨h.kq.1, fun b => by
    obtain ⟨ks, a1, a2, a3, a4, a5⟩ := h.kq.2 b
    exact ⟨ks, a1, a2, g.trans a3, a4, a5⟩⟩ rfl (fun _ _ _ _ _ _ => rfl) h.2.2.2.2.1
/-- one kind more -/
def NKq (e : Nat) (ch : Tx) (n : Nat) (X0 : St) (l : Int) (P : Nat) (ks0 : List (List Int)) (I : List Nat × Nat) (Y : St) (q : Nat) (o : Int) (sc : List Nm) (ws : List Wt) (c : List Ins) (d : List Int) (r : Int32) (Z : St) : Prop := 0 ≤ r.toInt ∧ KFo (e + 1) Y Z ∧ ∃ ks1, ks0 <+: ks1 ∧ RC e ch n X0 (l, P + 1, ks1, I) Z q o sc ws c ∧ (P + 1 + kcs c ≤ 1549 → ∃ z : Nat, r.toInt = (z : Int) ∧ ks1[z]? = some d)
theorem NKq.of {Y : St} {q : Nat} {o l : Int} {P : Nat} {ks0 : List (List Int)} {d : List Int} (h : RC e ch n X0 (l, P, ks0, I) Y q o sc ws c) {F : Option (Int32 × St)} (hF : pw F (fun r Z => KFo (e + 1) Y Z ∧ 0 ≤ r.toInt)) (hK : P + 1 + kcs c ≤ 1549 → ∀ ks, TKS (e + 1) Y ks → (∀ x ∈ ks, WKd 40 x) → ks0 <+: ks → ks.length < 1549 → WKd 40 d ∧ pw F (fun r Z => kkQ (e + 1) Y ks d r Z)) : pw F (fun r Z => NKq e ch n X0 l P ks0 I Y q o sc ws c d r Z) := by
  by_cases b : P + 1 + kcs c ≤ 1549
  · obtain ⟨ks, a1, a2, a3, a4, a5⟩ := h.kq.2 (show P + kcs c ≤ 1549 by omega)
    have a4 : ks.length ≤ P + kcs c := a4
    obtain ⟨wd, hK⟩ := hK b ks a1 a2.2 a3 (by omega)
    refine pw_mono (pw_and hF hK) ?_
    rintro r Z ⟨⟨f1, f2⟩, ks1, t1, t2, ⟨z, t3, t4⟩, t5, t6⟩
    have px : ks <+: ks1 ∧ ks1.length ≤ ks.length + 1 ∧ ∀ x ∈ ks1, WKd 40 x := by
      rcases t2 with t2 | ⟨_, t2⟩
      · rw [t2]; exact ⟨List.prefix_rfl, by omega, a2.2⟩
      · rw [t2]
        refine ⟨List.prefix_append _ _, by rw [List.length_append]; exact Nat.le_refl _, fun x hx => ?_⟩
        rcases List.mem_append.mp hx with g | g
        · exact a2.2 x g
        · rw [List.mem_singleton.mp g]; exact wd
    refine ⟨f2, f1, ks1, a3.trans px.1, h.kf f1 rfl ⟨h.kq.1, fun _ => ⟨ks1, t1, ⟨a2.1.trans px.1, px.2.2⟩, List.prefix_rfl, by have := px.2.1; show ks1.length ≤ P + 1 + kcs c; omega, fun i a ha h34 => ?_⟩⟩, fun _ => ⟨z, t3, t4⟩⟩
    obtain ⟨w, w1, w2⟩ := a5 i a ha h34
    exact ⟨w, by rw [f1.1 _ _ (by omega)]; exact w1, pf_at px.1 w2⟩
  · refine pw_mono hF ?_
    rintro r Z ⟨f1, f2⟩
    exact ⟨f2, f1, ks0, List.prefix_rfl, h.kf f1 rfl ⟨h.kq.1, fun z => absurd z b⟩, fun z => absurd z b⟩
theorem l_rowK {Y : St} {q : Nat} {o l : Int} {P : Nat} {ks0 : List (List Int)} {d : List Int} (h : RC e ch n X0 (l, P, ks0, I) Y q o sc ws c) {p : Int32} (hp : P + kcs c ≤ 1549 → ∃ z : Nat, p.toInt = (z : Int) ∧ ks0[z]? = some d) : pw (g_Kinds_rowOf (e + 1) p Y) (fun r Z => NKq e ch n X0 l P ks0 I Y q o sc ws c (4 :: d) r Z) := by
  have he := h.he
  refine NKq.of h (pw_and (y_Kinds_rowOf (o := e + 1) (X0 := Y) ⟨rfl, by omega⟩ KFo.rf) x_Kinds_rowOf) (fun b ks a1 a2 a3 a4 => ?_)
  obtain ⟨z, z1, z2⟩ := hp (by omega)
  exact ⟨(a2 d (List.mem_of_getElem? (pf_at a3 z2))).row, kk_rowOf (by omega) a1 a4 z1 (pf_at a3 z2)⟩
theorem l_funK {Y : St} {q f : Nat} {o l : Int} {P : Nat} {ks0 ds : List (List Int)} {d : List Int} (h : RC e ch n X0 (l, P, ks0, I) Y q o sc ws c) {p2 p3 p4 : Int32} (h2 : p2.toInt = (f : Int)) (hf : f + ds.length ≤ 164) (h3 : p3.toInt = (ds.length : Int)) (hn4 : ds.length ≤ 4) (hw : ∀ x ∈ ds, WKd 39 x) (hd : P + kcs c ≤ 1549 → ∃ z : Nat, p4.toInt = (z : Int) ∧ ks0[z]? = some d) (hp : P + kcs c ≤ 1549 → ∀ i x, ds[i]? = some x → ∃ z : Nat, (Y.1 54 (f + i)).toInt = (z : Int) ∧ ks0[z]? = some x) : pw (g_Kinds_functionOf (e + 1) 54 p2 p3 p4 Y) (fun r Z => NKq e ch n X0 l P ks0 I Y q o sc ws c ((5 + (ds.length : Int)) :: (ds.flatten ++ d)) r Z) := by
  have he := h.he
  have hz : zY YC 54 = 164 := by decide +kernel
  refine NKq.of h (pw_and (y_Kinds_functionOf (o := e + 1) (X0 := Y) ⟨rfl, by omega⟩ KFo.rf) x_Kinds_functionOf) (fun b ks a1 a2 a3 a4 => ?_)
  obtain ⟨z, z1, z2⟩ := hd (by omega)
  refine ⟨WKd.fn hn4 (fun x hx => ⟨by omega, hw x hx⟩) (a2 d (List.mem_of_getElem? (pf_at a3 z2))), kk_functionOf (by omega) a1 a4 h2 (by omega) h3 hn4 (by rw [hz]; omega) (by omega) z1 (pf_at a3 z2) (fun i x hx => ?_)⟩
  obtain ⟨z, z1, z2⟩ := hp (by omega) i x hx
  exact ⟨z, z1, pf_at a3 z2⟩
/-- a kind that has been read -/
def KHq (e : Nat) (ch : Tx) (n : Nat) (X0 : St) (sc : List Nm) (ws : List Wt) (c : List Ins) (I : List Nat × Nat) (lk : Int) (P : Nat) (ks0 : List (List Int)) (X : St) (o : Int) (a : Nat × List Int) (r : Int32) (Z : St) : Prop := (∃ ks1, ks0 <+: ks1 ∧ RC e ch n X0 (lk, P + kcn a.2, ks1, I) Z a.1 o sc ws c ∧ (P + kcn a.2 + kcs c ≤ 1549 → ∃ z : Nat, r.toInt = (z : Int) ∧ ks1[z]? = some a.2)) ∧ (∀ k : Nat, (k : Int) < lk → Z.1 54 k = X.1 54 k) ∧ WKd (40 - o.toNat) a.2
def KH (e : Nat) (ch : Tx) (n : Nat) (X0 : St) (sc : List Nm) (ws : List Wt) (c : List Ins) (I : List Nat × Nat) (v : St → Option (Int32 × St)) (sk : Int → Nat → Option (Nat × List Int)) : Prop :=
  ∀ (X : St) (q : Nat) (o lk : Int) (P : Nat) (ks0 : List (List Int)), RC e ch n X0 (lk, P, ks0, I) X q o sc ws c → 0 ≤ o → o ≤ 40 → 0 ≤ lk → lk ≤ 4 * o → pw (v X) (fun r Z => PO Z (sk o q) (fun a => KHq e ch n X0 sc ws c I lk P ks0 X o a r Z ∧ pl ch q + 1 ≤ pl ch a.1 ∧ pl ch a.1 ≤ 3000 ∧ 0 ≤ r.toInt))
theorem sK_nb : ∀ (m : Nat) (o : Int) (q : Nat), bgK (ty ch q) = false → sK ch m o q = none := by
  intro m o q h
  have hb : bgK (ty ch q) = true ↔ (ty ch q = 91 ∨ (272 ≤ ty ch q ∧ ty ch q ≤ 275)) := decide_eq_true_iff
  have h := fun g => nb.mp h (hb.mpr g)
  cases m with
  | zero => rw [sK]
  | succ m => rw [sK, if_neg (fun g => h (by omega)), if_neg (fun g => h (by omega)), if_neg (fun g => h (by omega))]
theorem RC.listed {o : Int} {lk : Int × KB} {Y : St} {q : Nat} (h : RC e ch n X0 lk Y q o sc ws c) {v : Int32} {lk1 : Int} (hv : v.toInt = lk1) : RC e ch n X0 (lk1, lk.2) (wI Y 46 6 v) q o sc ws c :=
  h.cell (by rfl) (fun j k hj => wI_ne _ _ _ _ _ _ (fun g => hj g.1)) (wI_ne _ _ _ _ _ _ (by decide)) (wI_ne _ _ _ _ _ _ (by decide)) (wI_ne _ _ _ _ _ _ (by decide)) (by rw [wI_ne _ _ _ _ _ _ (by decide)]; exact h.op) (by rw [wI_at]; exact hv)
/-- kinds that have been listed -/
def KLq (e : Nat) (ch : Tx) (n : Nat) (X0 : St) (sc : List Nm) (ws : List Wt) (c : List Ins) (I : List Nat × Nat) (l : Nat) (P : Nat) (ks0 : List (List Int)) (X : St) (o : Int) (j : Nat) (s : Nat × List (List Int)) (Z : St) : Prop := (∃ ks1, ks0 <+: ks1 ∧ RC e ch n X0 (((l + s.2.length : Nat) : Int), P + kcl s.2, ks1, I) Z s.1 o sc ws c ∧ (P + kcl s.2 + kcs c ≤ 1549 → ∀ i x, s.2[i]? = some x → ∃ z : Nat, (Z.1 54 (l + i)).toInt = (z : Int) ∧ ks1[z]? = some x)) ∧ (∀ k : Nat, k < l → Z.1 54 k = X.1 54 k) ∧ (∀ x ∈ s.2, WKd (40 - o.toNat) x) ∧ s.2.length ≤ j
theorem l_kindList {v_takeKind : St → Option (Int32 × St)} (zv_takeKind : ∀ (X : St), fd X → pw (v_takeKind X) (fun _ Y => fd Y)) {m : Nat} (hv : KH e ch n X0 sc ws c I v_takeKind (sK ch m)) {o lk : Int} (ho : 0 ≤ o ∧ o ≤ 40) (hlk : 0 ≤ lk ∧ lk + 8 ≤ 4 * o) : ∀ N (a : Int32) (X : St) (q j l P : Nat) (ks0 : List (List Int)), (l : Int) = lk + 4 - j → RC e ch n X0 ((l : Int), P, ks0, I) X q o sc ws c → a.toInt = 4 - (j : Int) → j ≤ 4 → pw (g_Reader_takeKindList_2 v_takeKind N a X) (fun _ Z => PO Z (sKL ch (sK ch m o) j q) (fun s => KLq e ch n X0 sc ws c I l P ks0 X o j s Z ∧ pl ch q + 1 ≤ pl ch s.1 ∧ pl ch s.1 ≤ 3000)) := by
  intro N
  unfold g_Reader_takeKindList_2
  refine lp_ind (P := fun (r : Int32 → St → Option (Int32 × St)) => (∀ (a : Int32) (X : St), fd X → pw (r a X) (fun _ Y => fd Y)) ∧ ∀ (a : Int32) (X : St) (q j l P : Nat) (ks0 : List (List Int)), (l : Int) = lk + 4 - j → RC e ch n X0 ((l : Int), P, ks0, I) X q o sc ws c → a.toInt = 4 - (j : Int) → j ≤ 4 → pw (r a X) (fun _ Z => PO Z (sKL ch (sK ch m o) j q) (fun s => KLq e ch n X0 sc ws c I l P ks0 X o j s Z ∧ pl ch q + 1 ≤ pl ch s.1 ∧ pl ch s.1 ≤ 3000))) ⟨fun _ _ _ => pw_none, fun _ _ _ _ _ _ _ _ _ _ _ => pw_none⟩ ?_ N |>.2
  rintro r2 ⟨zr2, ih⟩
  refine ⟨fun a X hd => ?_, fun a X q j l P ks0 hl hR ha hj => ?_⟩
  · unfold g_Reader_takeKindList_2_s
    refine pw_ite (fun _ => pw_ret hd) (fun _ => ?_)
    refine pw_ite (fun _ => z_Reader_takeKindList_24 zv_takeKind zr2 hd) (fun _ => ?_)
    refine pw_bd (z_Reader_beginsKind hd) (fun x13 X14 d14 => ?_)
    refine pw_ite (fun _ => z_Reader_takeKindList_24 zv_takeKind zr2 d14) (fun _ => ?_)
    exact pw_bd (z_Reader_refuse d14) (fun _ X15 d15 => z_Reader_takeKindList_24 zv_takeKind zr2 d15)
  · have h24 : ∀ j1, j = j1 + 1 → pw (g_Reader_takeKindList_24 v_takeKind r2 a X) (fun _ Z => PO Z (sKL ch (sK ch m o) j q) (fun s => KLq e ch n X0 sc ws c I l P ks0 X o j s Z ∧ pl ch q + 1 ≤ pl ch s.1 ∧ pl ch s.1 ≤ 3000)) := by
      intro j1 ej
      subst ej
      unfold g_Reader_takeKindList_24
      rw [sKL]
      refine pw_bo (hv X q o _ P ks0 hR ho.1 ho.2 (by omega) (by omega)) ?_ ?_
      · rintro x1 X2 s ⟨⟨⟨ks1, x1_, hR2, z1⟩, fr2, w2⟩, p1, p2, -⟩
        refine pw_let ?_
        refine pw_pos hR2.ok ?_
        have h6 := hR2.2.1.2.2.2
        have h6 : (X2.1 46 6).toInt = (l : Int) := h6
        refine pw_let ?_
        refine pw_pos (by omega) ?_
        refine pw_let ?_
        refine pw_ck (fun _ => ?_)
        rw [ixn h6]
        refine pw_eq (fun X6 e6 => ?_)
        have hR6 : RC e ch n X0 ((l : Int), P + kcn s.2, ks1, I) X6 s.1 o sc ws c := by
          have he := hR2.he
          rw [e6]
          refine hR2.rows rfl (hR2.kq.cg (fun j k a b => wI_ne _ _ _ _ _ _ (by omega)) (fun k => wI_ne _ _ _ _ _ _ (by omega))) (by rfl) (fun j k a _ _ _ => wI_ne _ _ _ _ _ _ (fun g => a g.1)) (hR2.2.2.2.2.1.cg (wI_ne _ _ _ _ _ _ (fun g => ?_)) (fun j k a b => wI_ne _ _ _ _ _ _ (fun g => ?_)))
          · omega
          · omega
        have at6 : X6.1 54 l = x1 := by rw [e6, wI_at]
        have fr6 : ∀ k : Nat, k < l → X6.1 54 k = X.1 54 k := fun k hk => by rw [e6, wI_ne _ _ _ _ _ _ (by omega)]; exact fr2 k (by omega)
        refine pw_let ?_
        refine pw_eq (fun x8 e8 => ?_)
        refine pw_eq (fun X9 e9 => ?_)
        have h66 : (X6.1 46 6).toInt = (l : Int) := hR6.2.1.2.2.2
        have l1 : (1 : Int32).toInt = 1 := by decide
        have hR9 : RC e ch n X0 (((l + 1 : Nat) : Int), P + kcn s.2, ks1, I) X9 s.1 o sc ws c := by
          rw [e9]
          refine hR6.listed ?_
          rw [e8, ti_add (by rw [h66, l1]; omega) (by rw [h66, l1]; omega), h66, l1]
          omega
        have k9 : ∀ k, X9.1 54 k = X6.1 54 k := fun k => by rw [e9, wI_ne _ _ _ _ _ _ (by omega)]
        refine pw_let ?_
        refine pw_ifo (by rw [hR9.ty]) (fun c1 => ?_) (fun c1 => ?_)
        · refine pw_bd (l_advance54 hR9 (by omega)) (fun _ X11 hR11 => ?_)
          obtain ⟨hR11, k11⟩ := hR11
          refine pw_let ?_
          have p3 := pl_nx hR9.tx (q := s.1) (by omega)
          have h := ih (a + Int32.ofInt 1) X11 (nx ch s.1) j1 (l + 1) (P + kcn s.2) ks1 (by omega) hR11 (by rw [i1 (by omega), ha]; omega) (by omega)
          revert h
          cases sKL ch (sK ch m o) j1 (nx ch s.1) with
          | none => exact fun h => h
          | some t =>
            intro h
            refine pw_mono h ?_
            rintro r Z ⟨⟨⟨ks2, y1, y2, y3⟩, y4, y5, y6⟩, b4, b5⟩
            have el : l + (s.2 :: t.2).length = l + 1 + t.2.length := by rw [List.length_cons]; omega
            have ek : P + kcl (s.2 :: t.2) = P + kcn s.2 + kcl t.2 := by unfold kcl; rw [List.map_cons, List.sum_cons]; omega
            refine ⟨⟨⟨ks2, x1_.trans y1, ?_, fun b i x hx => ?_⟩, fun k hk => ?_, fun x hx => ?_, ?_⟩, by show pl ch q + 1 ≤ pl ch t.1; omega, b5⟩
            · show RC e ch n X0 (((l + (s.2 :: t.2).length : Nat) : Int), P + kcl (s.2 :: t.2), ks2, I) Z t.1 o sc ws c
              rw [el, ek]
              exact y2
            · have b : P + kcl (s.2 :: t.2) + kcs c ≤ 1549 := b
              rw [ek] at b
              cases i with
              | zero =>
                have hx : some s.2 = some x := hx
                obtain ⟨z, g1, g2⟩ := z1 (by omega)
                rw [← Option.some.inj hx]
                exact ⟨z, by rw [Nat.add_zero, y4 l (by omega), k11, k9, at6]; exact g1, pf_at y1 g2⟩
              | succ i =>
                have hx : t.2[i]? = some x := hx
                obtain ⟨z, g1, g2⟩ := y3 b i x hx
                exact ⟨z, by rw [show l + (i + 1) = l + 1 + i by omega]; exact g1, g2⟩
            · rw [y4 k (by omega), k11, k9]
              exact fr6 k hk
            · rcases List.mem_cons.mp hx with g | g
              · rw [g]; exact w2
              · exact y5 x g
            · show (s.2 :: t.2).length ≤ j1 + 1
              rw [List.length_cons]
              omega
        · have ek : P + kcl [s.2] = P + kcn s.2 := by unfold kcl; rw [List.map_cons, List.map_nil, List.sum_cons, List.sum_nil]; omega
          refine pw_ret (PO.s ⟨⟨⟨ks1, x1_, ?_, fun b i x hx => ?_⟩, fun k hk => ?_, fun x hx => ?_, ?_⟩, p1, p2⟩)
          · show RC e ch n X0 (((l + 1 : Nat) : Int), P + kcl [s.2], ks1, I) X9 s.1 o sc ws c
            rw [ek]
            exact hR9
          · have b : P + kcl [s.2] + kcs c ≤ 1549 := b
            rw [ek] at b
            obtain ⟨z, g1, g2⟩ := z1 b
            cases i with
            | zero =>
              have hx : some s.2 = some x := hx
              rw [← Option.some.inj hx]
              exact ⟨z, by rw [Nat.add_zero, k9, at6]; exact g1, g2⟩
            | succ i =>
              have hx : ([] : List (List Int))[i]? = some x := hx
              rw [List.getElem?_nil] at hx
              exact absurd hx.symm (Option.some_ne_none _)
          · rw [k9]
            exact fr6 k hk
          · rw [List.mem_singleton.mp hx]
            exact w2
          · show ([s.2] : List (List Int)).length ≤ j1 + 1
            show 1 ≤ j1 + 1
            omega
      · intro x1 X2 hd
        refine pw_eq (fun x3 _ => ?_)
        refine pw_ite (fun _ => ?_) (fun _ => ?_)
        · refine pw_eq (fun x4 _ => ?_)
          refine pw_ite (fun _ => ?_) (fun _ => ?_)
          · refine pw_eq (fun x5 _ => ?_)
            refine pw_ck (fun _ => ?_)
            refine pw_eq (fun X6 eX6 => ?_)
            have dX6 : fd X6 := by rw [eX6]; exact fd_w hd (fun g_ => absurd g_.1 (by decide))
            refine pw_eq (fun x7 _ => ?_)
            refine pw_eq (fun x8 _ => ?_)
            refine pw_eq (fun X9 eX9 => ?_)
            have dX9 : fd X9 := by rw [eX9]; exact fd_w dX6 (by decide)
            refine pw_eq (fun x10 _ => ?_)
            refine pw_ite (fun _ => ?_) (fun _ => ?_)
            · refine pw_bd (z_Tokens_advance dX9) (fun _ X11 dX11 => ?_)
              refine pw_eq (fun x12 _ => ?_)
              exact zr2 _ _ dX11
            · exact pw_ret dX9
          · exact pw_ret hd
        · exact pw_ret hd
    unfold g_Reader_takeKindList_2_s
    refine pw_neg (by omega) ?_
    cases j with
    | succ j1 =>
      refine pw_pos (by omega) ?_
      exact h24 j1 rfl
    | zero =>
      refine pw_neg (by omega) ?_
      refine pw_bd (l_beginsKind hR) ?_
      rintro x13 X14 ⟨rfl, hz⟩
      rw [sKL]
      refine pw_ite (fun c1 => ?_) (fun c1 => ?_)
      · have hn := sK_nb m o q (hz.f c1)
        unfold g_Reader_takeKindList_24
        have h := hv X14 q o _ P ks0 hR ho.1 ho.2 (by omega) (by omega)
        rw [hn] at h
        refine pw_bd h (fun x1 X2 hd => ?_)
        have hd : fd X2 := hd
        show pw _ (fun _ Z => fd Z)
        refine pw_eq (fun x3 _ => ?_)
        refine pw_ite (fun _ => ?_) (fun _ => ?_)
        · refine pw_eq (fun x4 _ => ?_)
          refine pw_ite (fun _ => ?_) (fun _ => ?_)
          · refine pw_eq (fun x5 _ => ?_)
            refine pw_ck (fun _ => ?_)
            refine pw_eq (fun X6 eX6 => ?_)
            have dX6 : fd X6 := by rw [eX6]; exact fd_w hd (fun g_ => absurd g_.1 (by decide))
            refine pw_eq (fun x7 _ => ?_)
            refine pw_eq (fun x8 _ => ?_)
            refine pw_eq (fun X9 eX9 => ?_)
            have dX9 : fd X9 := by rw [eX9]; exact fd_w dX6 (by decide)
            refine pw_eq (fun x10 _ => ?_)
            refine pw_ite (fun _ => ?_) (fun _ => ?_)
            · refine pw_bd (z_Tokens_advance dX9) (fun _ X11 dX11 => ?_)
              refine pw_eq (fun x12 _ => ?_)
              exact zr2 _ _ dX11
            · exact pw_ret dX9
          · exact pw_ret hd
        · exact pw_ret hd
      · refine pw_bd (f_Reader_refuse X14 (by decide)) (fun _ X15 d15 => ?_)
        exact z_Reader_takeKindList_24 zv_takeKind zr2 d15
theorem l_kindTail {v_takeKind : St → Option (Int32 × St)} (zv_takeKind : ∀ (X : St), fd X → pw (v_takeKind X) (fun _ Y => fd Y)) {m : Nat} (hv : KH e ch n X0 sc ws c I v_takeKind (sK ch m)) {o : Int} {l P : Nat} {ks0 ds : List (List Int)} (ho : 0 ≤ o ∧ o ≤ 38) (hlk : (l : Int) ≤ 4 * o) (hn4 : ds.length ≤ 4) (hw : ∀ x ∈ ds, WKd (40 - (o + 2).toNat) x) {a : Int32} (ha : a.toInt = (l : Int)) {X : St} {q : Nat} (hR : RC e ch n X0 (((l + ds.length : Nat) : Int), P, ks0, I) X q (o + 2) sc ws c) (hds : P + kcs c ≤ 1549 → ∀ i x, ds[i]? = some x → ∃ z : Nat, (X.1 54 (l + i)).toInt = (z : Int) ∧ ks0[z]? = some x) : pw (g_Reader_takeFunctionKind_34 v_takeKind a X) (fun r Z => PO Z ((sWant ch 41 q).bind fun q3 => (sK ch m (o + 1) q3).bind fun g => some (g.1, (5 + (ds.length : Int)) :: (ds.flatten ++ g.2))) (fun b => ((∃ ks1, ks0 <+: ks1 ∧ RC e ch n X0 ((l : Int), P + kcn b.2 - kcl ds, ks1, I) Z b.1 o sc ws c ∧ (P + kcn b.2 - kcl ds + kcs c ≤ 1549 → ∃ z : Nat, r.toInt = (z : Int) ∧ ks1[z]? = some b.2)) ∧ (∀ k : Nat, k < l + ds.length → Z.1 54 k = X.1 54 k) ∧ WKd (40 - o.toNat) b.2 ∧ kcl ds ≤ kcn b.2) ∧ pl ch q + 1 ≤ pl ch b.1 ∧ pl ch b.1 ≤ 3000 ∧ 0 ≤ r.toInt)) := by
  unfold g_Reader_takeFunctionKind_34
  refine pw_bo (l_want54 hR (t := 41) (by decide) (by decide)) ?_ ?_
  · rintro _ X5 q3 ⟨⟨hR5, e5, p1, p2⟩, k5⟩
    refine pw_let ?_
    refine pw_let ?_
    refine pw_eq (fun X8 e8 => ?_)
    have k8 : ∀ k, X8.1 54 k = X.1 54 k := fun k => by rw [e8, wI_ne _ _ _ _ _ _ (by omega)]; exact k5 k
    have hR8 : RC e ch n X0 (((l + ds.length : Nat) : Int), P, ks0, I) X8 q3 (o + 1) sc ws c := by
      have h := hR5.shut (by omega)
      rw [show o + 2 - 1 = o + 1 from by omega] at h
      rw [e8]
      exact h
    refine pw_bo (hv X8 q3 (o + 1) _ P ks0 hR8 (by omega) (by omega) (by omega) (by omega)) ?_ ?_
    · rintro x9 X10 g ⟨⟨⟨ks1, y1, hR10, y2⟩, y3, y4⟩, p3, p4, -⟩
      have h610 : (X10.1 46 6).toInt = ((l + ds.length : Nat) : Int) := hR10.2.1.2.2.2
      refine pw_ck (fun _ => ?_)
      refine pw_to hR10.pe ?_
      refine pw_to (kYp hR10.he).1 ?_
      refine pw_let ?_
      refine pw_eq (fun x14 e14 => ?_)
      have v14 : x14.toInt = (ds.length : Int) := by rw [e14, ti_sub (by rw [h610, ha]; omega) (by rw [h610, ha]; omega), h610, ha]; omega
      refine pw_bd (l_funK (f := l) (ds := ds) (d := g.2) hR10 ha (by omega) v14 hn4 (fun x hx => (hw x hx).up (by omega)) y2 (fun b i x hx => ?_)) ?_
      · obtain ⟨z, z1, z2⟩ := hds (by omega) i x hx
        have hil := (List.getElem?_eq_some_iff.mp hx).1
        exact ⟨z, by rw [y3 _ (by omega), k8]; exact z1, pf_at y1 z2⟩
      rintro x15 X16 ⟨h15, f16, ks2, y5, hR16, y6⟩
      have k16 : ∀ k, X16.1 54 k = X10.1 54 k := fun k => f16.1 _ _ (by have := hR10.he; omega)
      refine pw_eq (fun X17 e17 => ?_)
      have hR17 : RC e ch n X0 ((l : Int), P + kcn g.2 + 1, ks2, I) X17 g.1 (o + 1) sc ws c := by rw [e17]; exact hR16.listed ha
      refine pw_let ?_
      refine pw_let ?_
      refine pw_eq (fun X20 e20 => ?_)
      have hR20 : RC e ch n X0 ((l : Int), P + kcn g.2 + 1, ks2, I) X20 g.1 o sc ws c := by
        have h := hR17.shut (by omega)
        rw [show o + 1 - 1 = o from by omega] at h
        rw [e20]
        exact h
      have ek : kcn ((5 + (ds.length : Int)) :: (ds.flatten ++ g.2)) = kcl ds + kcn g.2 + 1 := by rw [kcn_c _ (by omega), kcn_ap, kcn_fl]
      have ek2 : P + kcn ((5 + (ds.length : Int)) :: (ds.flatten ++ g.2)) - kcl ds = P + kcn g.2 + 1 := by omega
      refine pw_ret (PO.s ⟨⟨⟨ks2, y1.trans y5, ?_, fun b => ?_⟩, fun k hk => ?_, ?_, ?_⟩, by show pl ch q + 1 ≤ pl ch g.1; omega, p4, h15⟩)
      · show RC e ch n X0 ((l : Int), P + kcn ((5 + (ds.length : Int)) :: (ds.flatten ++ g.2)) - kcl ds, ks2, I) X20 g.1 o sc ws c
        rw [ek2]
        exact hR20
      · have b : P + kcn ((5 + (ds.length : Int)) :: (ds.flatten ++ g.2)) - kcl ds + kcs c ≤ 1549 := b
        rw [ek2] at b
        exact y6 b
      · rw [e20, wI_ne _ _ _ _ _ _ (by omega), e17, wI_ne _ _ _ _ _ _ (by omega), k16, y3 k (by omega), k8]
      · exact WKd.fn hn4 (fun x hx => ⟨by omega, (hw x hx).up (by omega)⟩) (y4.up (by omega))
      · show kcl ds ≤ kcn ((5 + (ds.length : Int)) :: (ds.flatten ++ g.2))
        omega
    · intro x9 X10 hd
      refine pw_ck (fun hck1 => ?_)
      refine pw_eq (fun e11 ee11 => ?_)
      have pke11 : PKo e11 := by rw [ee11]; exact refO_pk hck1
      have ne46_e11 : ¬ 46 = e11 := PKo.ne pke11
      refine pw_eq (fun e12 ee12 => ?_)
      have ne46_e12 : ¬ 46 = e12 := by rw [ee12]; exact PKo.row pke11 0
      have pke12 : PKo e12 := by rw [ee12]; rw [ee11]; exact PKo.kd hck1
      refine pw_eq (fun x13 _ => ?_)
      refine pw_eq (fun x14 _ => ?_)
      refine pw_bd (z_Kinds_functionOf pke12 hd) (fun x15 X16 dX16 => ?_)
      refine pw_eq (fun X17 eX17 => ?_)
      have dX17 : fd X17 := by rw [eX17]; exact fd_w dX16 (by decide)
      refine pw_eq (fun x18 _ => ?_)
      refine pw_eq (fun x19 _ => ?_)
      refine pw_eq (fun X20 eX20 => ?_)
      have dX20 : fd X20 := by rw [eX20]; exact fd_w dX17 (by decide)
      exact pw_ret dX20
  · intro _ X5 hd
    refine pw_eq (fun x6 _ => ?_)
    refine pw_eq (fun x7 _ => ?_)
    refine pw_eq (fun X8 eX8 => ?_)
    have dX8 : fd X8 := by rw [eX8]; exact fd_w hd (by decide)
    refine pw_bd (zv_takeKind _ dX8) (fun x9 X10 dX10 => ?_)
    refine pw_ck (fun hck1 => ?_)
    refine pw_eq (fun e11 ee11 => ?_)
    have pke11 : PKo e11 := by rw [ee11]; exact refO_pk hck1
    have ne46_e11 : ¬ 46 = e11 := PKo.ne pke11
    refine pw_eq (fun e12 ee12 => ?_)
    have ne46_e12 : ¬ 46 = e12 := by rw [ee12]; exact PKo.row pke11 0
    have pke12 : PKo e12 := by rw [ee12]; rw [ee11]; exact PKo.kd hck1
    refine pw_eq (fun x13 _ => ?_)
    refine pw_eq (fun x14 _ => ?_)
    refine pw_bd (z_Kinds_functionOf pke12 dX10) (fun x15 X16 dX16 => ?_)
    refine pw_eq (fun X17 eX17 => ?_)
    have dX17 : fd X17 := by rw [eX17]; exact fd_w dX16 (by decide)
    refine pw_eq (fun x18 _ => ?_)
    refine pw_eq (fun x19 _ => ?_)
    refine pw_eq (fun X20 eX20 => ?_)
    have dX20 : fd X20 := by rw [eX20]; exact fd_w dX17 (by decide)
    exact pw_ret dX20
theorem l_kindB {v_takeKind : St → Option (Int32 × St)} (zv_takeKind : ∀ (X : St), fd X → pw (v_takeKind X) (fun _ Y => fd Y)) {m : Nat} (hv : KH e ch n X0 sc ws c I v_takeKind (sK ch m)) : KH e ch n X0 sc ws c I (g_Reader_takeKind_b v_takeKind) (sK ch (m + 1)) := by
  intro X q o lk P ks0 hR ho ho4 hl0 hl1
  obtain ⟨l, rfl⟩ : ∃ l : Nat, lk = (l : Int) := ⟨lk.toNat, by omega⟩
  rw [sK]
  unfold g_Reader_takeKind_b
  have hb : bgK (ty ch q) = true ↔ (ty ch q = 91 ∨ (272 ≤ ty ch q ∧ ty ch q ≤ 275)) := decide_eq_true_iff
  refine pw_bd (l_beginsKind hR) ?_
  rintro x1 X2 ⟨rfl, hz⟩
  by_cases hno : bgK (ty ch q) = true
  · have c1 : ¬ x1.toInt = 0 := fun g => by
      have := hz.f g
      rw [hno] at this
      exact absurd this (by decide)
    have hno := hb.mp hno
    refine pw_neg c1 ?_
    refine pw_let ?_
    refine pw_ifo (by rw [hR.ty]) (fun c2 => ?_) (fun c2 => ?_)
    · refine pw_bd (R := fun r Z => PO Z _ (fun (b : Nat × List Int) => KHq e ch n X0 sc ws c I (l : Int) P ks0 X2 o b r Z ∧ pl ch q + 1 ≤ pl ch b.1 ∧ pl ch b.1 ≤ 3000 ∧ 0 ≤ r.toInt)) ?_ (fun x20 X21 h => pw_ret h)
      unfold g_Reader_takeFunctionKind
      refine pw_eq (fun x e1 => ?_)
      have h6 : (X2.1 46 6).toInt = (l : Int) := hR.2.1.2.2.2
      rw [← e1] at h6
      refine pw_bo (l_enter54 hR (t := 275) (by decide) (by decide) ho) ?_ ?_
      · rintro _ X3 q1 ⟨⟨hR3, eq1, p1, p2, p3⟩, k3⟩
        refine pw_bo (l_enter54 hR3 (t := 40) (by decide) (by decide) (by omega)) ?_ ?_
        · rintro _ X4 q2 ⟨⟨hR4, eq2, p4, p5, p6⟩, k4⟩
          rw [show o + 1 + 1 = o + 2 from by omega] at hR4
          have k42 : ∀ k, X4.1 54 k = X2.1 54 k := fun k => (k4 k).trans (k3 k)
          refine pw_let ?_
          by_cases c3 : ty ch q2 = 41
          · rw [if_pos c3]
            refine pw_pos (by rw [hR4.ty]; exact c3) ?_
            refine pw_po (l_kindTail (l := l) (ds := []) (P := P) (ks0 := ks0) zv_takeKind hv (by omega) (by omega) (Nat.zero_le _) (fun x hx => absurd hx List.not_mem_nil) h6 hR4 (fun _ i x hx => by rw [List.getElem?_nil] at hx; exact absurd hx.symm (Option.some_ne_none _))) ?_
            rintro r Z b ⟨⟨⟨ks1, b1, b2, b3⟩, b4, b5, b6⟩, b7, b8, b9⟩
            have z : P + kcn b.2 - kcl [] = P + kcn b.2 := Nat.sub_zero _
            rw [z] at b2 b3
            have b7 : pl ch q2 + 1 ≤ pl ch b.1 := b7
            exact ⟨⟨⟨ks1, b1, b2, b3⟩, fun k hk => (b4 k (by show k < l + 0; omega)).trans (k42 k), b5⟩, by omega, b8, b9⟩
          · rw [if_neg c3]
            refine pw_neg (by rw [hR4.ty]; exact c3) ?_
            unfold g_Reader_takeKindList
            refine pw_bo (l_kindList zv_takeKind hv (lk := (l : Int)) (o := o + 2) (by omega) (by omega) BIG 0 X4 q2 4 l P ks0 (by omega) hR4 (by decide) (Nat.le_refl 4)) ?_ ?_
            · rintro _ X21 s ⟨⟨⟨ks1, y1, hR21, y2⟩, y3, y4, y5⟩, b4, b5⟩
              refine pw_po (l_kindTail (l := l) (ds := s.2) zv_takeKind hv (by omega) (by omega) y5 y4 h6 hR21 y2) ?_
              rintro r Z b ⟨⟨⟨ks2, d1, d2, d3⟩, d4, d5, d6⟩, d7, d8, d9⟩
              have z : P + kcl s.2 + kcn b.2 - kcl s.2 = P + kcn b.2 := by omega
              rw [z] at d2 d3
              exact ⟨⟨⟨ks2, y1.trans d1, d2, d3⟩, fun k hk => (d4 k (by omega)).trans ((y3 k (by omega)).trans (k42 k)), d5⟩, by omega, d8, d9⟩
            · intro _ X21 hd
              exact z_Reader_takeFunctionKind_34 zv_takeKind hd
        · intro _ X4 hd
          refine pw_eq (fun x4 _ => ?_)
          refine pw_ite (fun _ => ?_) (fun _ => ?_)
          · exact z_Reader_takeFunctionKind_34 zv_takeKind hd
          · refine pw_bd (z_Reader_takeKindList zv_takeKind hd) (fun _ X21 dX21 => ?_)
            exact z_Reader_takeFunctionKind_34 zv_takeKind dX21
      · intro _ X3 hd
        refine pw_bd (z_Reader_enter hd) (fun _ X3 dX3 => ?_)
        refine pw_eq (fun x4 _ => ?_)
        refine pw_ite (fun _ => ?_) (fun _ => ?_)
        · exact z_Reader_takeFunctionKind_34 zv_takeKind dX3
        · refine pw_bd (z_Reader_takeKindList zv_takeKind dX3) (fun _ X21 dX21 => ?_)
          exact z_Reader_takeFunctionKind_34 zv_takeKind dX21
    · refine pw_let ?_
      refine pw_ifo (by rw [hR.ty]) (fun c3 => ?_) (fun c3 => ?_)
      · refine pw_bo (l_enter54 hR (t := 91) (by decide) (by decide) ho) ?_ ?_
        · rintro _ X9 q1 ⟨⟨hR9, eq1, p1, p2, p3⟩, k9⟩
          refine pw_bo (hv X9 q1 (o + 1) l P ks0 hR9 (by omega) (by omega) (by omega) (by omega)) ?_ ?_
          · rintro x10 X11 r ⟨⟨⟨ks1, y1, hR11, y2⟩, y3, y4⟩, p4, p5, -⟩
            refine pw_bo (l_want54 hR11 (t := 93) (by decide) (by decide)) ?_ ?_
            · rintro _ X12 q2 ⟨⟨hR12, eq2, p6, p7⟩, k12⟩
              refine pw_let ?_
              refine pw_let ?_
              refine pw_eq (fun X15 e15 => ?_)
              have k15 : ∀ k, X15.1 54 k = X11.1 54 k := fun k => by rw [e15, wI_ne _ _ _ _ _ _ (by omega)]; exact k12 k
              have hR15 : RC e ch n X0 ((l : Int), P + kcn r.2, ks1, I) X15 q2 o sc ws c := by
                have h := hR12.shut (by omega)
                rw [show o + 1 - 1 = o from by omega] at h
                rw [e15]
                exact h
              refine pw_ck (fun _ => ?_)
              refine pw_to hR15.pe ?_
              refine pw_to (kYp hR15.he).1 ?_
              refine pw_bd (l_rowK (d := r.2) hR15 y2) ?_
              rintro x18 X19 ⟨h18, f19, ks2, y5, hR19, y6⟩
              have k19 : ∀ k, X19.1 54 k = X15.1 54 k := fun k => f19.1 _ _ (by have := hR15.he; omega)
              have ek : P + kcn (4 :: r.2) = P + kcn r.2 + 1 := by rw [kcn_c _ (by omega)]; omega
              refine pw_ret (PO.s ⟨⟨⟨ks2, y1.trans y5, ?_, fun b => ?_⟩, fun k hk => ?_, ?_⟩, by show pl ch q + 1 ≤ pl ch q2; omega, p7, h18⟩)
              · show RC e ch n X0 ((l : Int), P + kcn (4 :: r.2), ks2, I) X19 q2 o sc ws c
                rw [ek]
                exact hR19
              · have b : P + kcn (4 :: r.2) + kcs c ≤ 1549 := b
                rw [ek] at b
                exact y6 b
              · rw [k19, k15, y3 k (by omega), k9]
              · exact (y4.up (by omega)).row
            · intro _ X12 hd
              refine pw_eq (fun x13 _ => ?_)
              refine pw_eq (fun x14 _ => ?_)
              refine pw_eq (fun X15 eX15 => ?_)
              have dX15 : fd X15 := by rw [eX15]; exact fd_w hd (by decide)
              refine pw_ck (fun hck1 => ?_)
              refine pw_eq (fun e16 ee16 => ?_)
              have pke16 : PKo e16 := by rw [ee16]; exact refO_pk hck1
              have ne46_e16 : ¬ 46 = e16 := PKo.ne pke16
              refine pw_eq (fun e17 ee17 => ?_)
              have ne46_e17 : ¬ 46 = e17 := by rw [ee17]; exact PKo.row pke16 0
              have pke17 : PKo e17 := by rw [ee17]; rw [ee16]; exact PKo.kd hck1
              refine pw_bd (z_Kinds_rowOf pke17 dX15) (fun x18 X19 dX19 => ?_)
              exact pw_ret dX19
          · intro x10 X11 hd
            refine pw_bd (z_Reader_want hd) (fun _ X12 dX12 => ?_)
            refine pw_eq (fun x13 _ => ?_)
            refine pw_eq (fun x14 _ => ?_)
            refine pw_eq (fun X15 eX15 => ?_)
            have dX15 : fd X15 := by rw [eX15]; exact fd_w dX12 (by decide)
            refine pw_ck (fun hck1 => ?_)
            refine pw_eq (fun e16 ee16 => ?_)
            have pke16 : PKo e16 := by rw [ee16]; exact refO_pk hck1
            have ne46_e16 : ¬ 46 = e16 := PKo.ne pke16
            refine pw_eq (fun e17 ee17 => ?_)
            have ne46_e17 : ¬ 46 = e17 := by rw [ee17]; exact PKo.row pke16 0
            have pke17 : PKo e17 := by rw [ee17]; rw [ee16]; exact PKo.kd hck1
            refine pw_bd (z_Kinds_rowOf pke17 dX15) (fun x18 X19 dX19 => ?_)
            exact pw_ret dX19
        · intro _ X9 hd
          refine pw_bd (zv_takeKind _ hd) (fun x10 X11 dX11 => ?_)
          refine pw_bd (z_Reader_want dX11) (fun _ X12 dX12 => ?_)
          refine pw_eq (fun x13 _ => ?_)
          refine pw_eq (fun x14 _ => ?_)
          refine pw_eq (fun X15 eX15 => ?_)
          have dX15 : fd X15 := by rw [eX15]; exact fd_w dX12 (by decide)
          refine pw_ck (fun hck1 => ?_)
          refine pw_eq (fun e16 ee16 => ?_)
          have pke16 : PKo e16 := by rw [ee16]; exact refO_pk hck1
          have ne46_e16 : ¬ 46 = e16 := PKo.ne pke16
          refine pw_eq (fun e17 ee17 => ?_)
          have ne46_e17 : ¬ 46 = e17 := by rw [ee17]; exact PKo.row pke16 0
          have pke17 : PKo e17 := by rw [ee17]; rw [ee16]; exact PKo.kd hck1
          refine pw_bd (z_Kinds_rowOf pke17 dX15) (fun x18 X19 dX19 => ?_)
          exact pw_ret dX19
      · refine pw_eq (fun x5 e5 => ?_)
        refine pw_eq (fun x6 e6 => ?_)
        refine pw_eq (fun x7 e7 => ?_)
        have h5 : x5.toInt = ty ch q := by rw [e5]; exact hR.ty
        have l0 : (0 : Int32).toInt = 0 := by decide
        have l2 : (272 : Int32).toInt = 272 := by decide
        have h6 : x6.toInt = ty ch q := by
          rw [e6, ti_add (by rw [h5, l0]; omega) (by rw [h5, l0]; omega), h5, l0]
          omega
        have h7 : 0 ≤ x7.toInt := by
          rw [e7, ti_sub (by rw [h6, l2]; omega) (by rw [h6, l2]; omega), h6, l2]
          omega
        rw [if_pos (show 272 ≤ ty ch q ∧ ty ch q ≤ 274 from by omega)]
        refine pw_bd (l_advance54 hR (by omega)) (fun _ X8 hR8 => ?_)
        obtain ⟨hR8, k8⟩ := hR8
        have := hR8.pln
        have ek : P + kcn [ty ch q - 271] = P := by rw [kcn_0 (by omega)]; omega
        obtain ⟨ks1, b1, b2, b3⟩ := hR8.rb
        have v7 : x7.toInt = ty ch q - 272 := by rw [e7, ti_sub (by rw [h6, l2]; omega) (by rw [h6, l2]; omega), h6, l2]
        have h3 : ty ch q = 272 ∨ ty ch q = 273 ∨ ty ch q = 274 := by omega
        refine pw_ret (PO.s ⟨⟨⟨ks1, b1, ?_, fun b => ?_⟩, fun k _ => k8 k, ?_⟩, pl_nx hR.tx (by omega), by show pl ch (nx ch q) ≤ 3000; omega, h7⟩)
        · show RC e ch n X0 ((l : Int), P + kcn [ty ch q - 271], ks1, I) X8 (nx ch q) o sc ws c
          rw [ek]
          exact b2
        · have b : P + kcn [ty ch q - 271] + kcs c ≤ 1549 := b
          rw [ek] at b
          have b3 := b3 b
          rcases h3 with h | h | h
          · exact ⟨0, by rw [v7, h]; rfl, by rw [h]; exact K9.at b3 rfl⟩
          · exact ⟨1, by rw [v7, h]; rfl, by rw [h]; exact K9.at b3 rfl⟩
          · exact ⟨2, by rw [v7, h]; rfl, by rw [h]; exact K9.at b3 rfl⟩
        · rcases h3 with h | h | h
          · rw [h]; exact WKd.i1 _
          · rw [h]; exact WKd.i2 _
          · rw [h]; exact WKd.i3 _
  · have c1 : x1.toInt = 0 := by
      rcases hz with g | g
      · exact g.1
      · exact absurd g.2 hno
    have hno := fun g => hno (hb.mpr g)
    rw [if_neg (show ¬ ty ch q = 275 from fun g => hno (by omega)), if_neg (show ¬ ty ch q = 91 from fun g => hno (by omega)), if_neg (show ¬ (272 ≤ ty ch q ∧ ty ch q ≤ 274) from fun g => hno (by omega))]
    refine pw_pos c1 ?_
    refine pw_bd (f_Reader_refuse X2 (by decide)) (fun _ X22 d => ?_)
    exact pw_ret d
theorem l_takeKind : KH e ch n X0 sc ws c I g_Reader_takeKind (sK ch 64) := by
  have h : ∀ N, (∀ (X : St), fd X → pw (rec_kind N X) (fun _ Y => fd Y)) ∧ KH e ch n X0 sc ws c I (rec_kind N) (sK ch N) := by
    intro N
    unfold rec_kind
    refine lp_indN (γ := St → Option (Int32 × St)) (P := fun (m : Nat) (r : St → Option (Int32 × St)) => (∀ (X : St), fd X → pw (r X) (fun _ Y => fd Y)) ∧ KH e ch n X0 sc ws c I r (sK ch m)) ⟨fun _ _ => pw_none, fun _ _ _ _ _ _ _ _ _ _ _ => pw_none⟩ (fun m r ih => ⟨fun X h => z_Reader_takeKind_b ih.1 h, l_kindB ih.1 ih.2⟩) N
  exact (h 64).2
end CKIND
