/-! .. names, kinds, signs that wait -/
section PRIM
variable {e n q : Nat} {ch : Tx} {X0 Y Z : St} {o : Int} {lk : Int × KB} {sc sc1 : List Nm} {ws ws1 : List Wt} {c c1 : List Ins}
theorem slot_in (l : Nm) : ∀ sc : List Nm, -1 ≤ slot sc l ∧ slot sc l < (sc.length : Int) := by
  intro sc
  induction sc with
  | nil => exact ⟨Int.le_refl _, by show (-1 : Int) < 0; omega⟩
  | cons x xs ih =>
    show -1 ≤ (if x = l then (xs.length : Int) else slot xs l) ∧ (if x = l then (xs.length : Int) else slot xs l) < ((xs.length + 1 : Nat) : Int)
    by_cases hx : x = l
    · rw [if_pos hx]; omega
    · rw [if_neg hx]; omega
theorem l_slotOf1 {l : Nm} (hl : LT l) (h8 : l.length ≤ 8) : ∀ N (a : Int32) (ls : List Nm), LOCr Y ls → a.toInt = (ls.length : Int) - 1 → ls.length ≤ 100 → pw (g_Reader_slotOf_7 N (lN (p8 l)) a Y) (fun r Z => Z = Y ∧ r.toInt = slot ls l) := by
  intro N
  unfold g_Reader_slotOf_7
  refine lp_ind (P := fun (r : Int64 → Int32 → St → Option (Int32 × St)) => ∀ (a : Int32) (ls : List Nm), LOCr Y ls → a.toInt = (ls.length : Int) - 1 → ls.length ≤ 100 → pw (r (lN (p8 l)) a Y) (fun r Z => Z = Y ∧ r.toInt = slot ls l)) (fun _ _ _ _ _ => pw_none) (fun r ih a ls h1 ha h100 => ?_) N
  unfold g_Reader_slotOf_7_s
  cases ls with
  | nil =>
    have ha : a.toInt = (0 : Int) - 1 := ha
    refine pw_pos (by omega) (pw_ret ⟨rfl, by show ((-1 : Int32)).toInt = -1; decide⟩)
  | cons x xs =>
    have ha : a.toInt = ((xs.length + 1 : Nat) : Int) - 1 := ha
    have h100 : xs.length + 1 ≤ 100 := h100
    have ha : a.toInt = (xs.length : Int) := by omega
    obtain ⟨⟨hx, hxl, hx8⟩, hxs⟩ := h1
    refine pw_neg (by omega) ?_
    refine pw_ck (fun _ => ?_)
    refine pw_let ?_
    refine pw_let ?_
    rw [ixn ha, hx]
    refine pw_ite (fun c1 => ?_) (fun c1 => ?_)
    · have e2 := p8_inj hxl hl ((pk_lEQ (p8_lt hxl hx8) (p8_lt hl h8)).mp ((cmp0 _ _).mp c1))
      refine pw_ret ⟨rfl, ?_⟩
      show a.toInt = (if x = l then (xs.length : Int) else slot xs l)
      rw [if_pos e2, ha]
    · have e2 : ¬ x = l := fun g => c1 ((cmp0 _ _).mpr (by rw [g]))
      refine pw_let ?_
      refine pw_mono (ih _ xs hxs (by rw [im1 (by omega), ha]) (by omega)) ?_
      rintro r Z ⟨g1, g2⟩
      refine ⟨g1, ?_⟩
      show r.toInt = (if x = l then (xs.length : Int) else slot xs l)
      rw [if_neg e2, g2]
theorem l_slotOf (h : RC e ch n X0 lk Y q o sc ws c) (hs : sc.length ≤ 100) {l : Nm} (hl : LT l) (h8 : l.length ≤ 8) {y : Int64} (hy : y = lN (p8 l)) : pw (g_Reader_slotOf y Y) (fun r Z => Z = Y ∧ r.toInt = slot sc l) := by
  unfold g_Reader_slotOf
  refine pw_let ?_
  refine pw_let ?_
  rw [hy]
  have h9 := h.2.2.1.1
  have l1 : (1 : Int32).toInt = 1 := by decide
  exact l_slotOf1 hl h8 BIG _ sc h.2.2.1.2 (by rw [ti_sub (by rw [h9, l1]; omega) (by rw [h9, l1]; omega), h9, l1]) hs
theorem RC.scope (h : RC e ch n X0 lk Y q o sc ws c) (h2 : Z.2.2 = Y.2.2) (hk : ∀ j k, ¬ (j = 46 ∧ k = 9) → Z.1 j k = Y.1 j k) (hl : ∀ j k, ¬ j = 50 → Z.2.1 j k = Y.2.1 j k) (h9 : (Z.1 46 9).toInt = (sc1.length : Int)) (hL : LOCr Z sc1) : RC e ch n X0 lk Z q o sc1 ws c := by
  obtain ⟨⟨h1, hp, h3, h4⟩, ⟨h5, h6, h7, h8⟩, -, ⟨h11, h12⟩, h13, h14⟩ := h
  refine ⟨⟨h1, by rw [h2]; exact hp, h3.cg (fun k => hk 47 k (by omega)) (fun k => hk 1 k (by omega)) h2, h4.1, h4.2.cg (fun j k a b => hk j k (by omega)) (fun k => hk _ k (by omega))⟩, ⟨by rw [hk 46 3 (by decide)]; exact h5, h6.cg (fun k => hk 47 k (by omega)) (fun k => hl 47 k (by decide)), by rw [hk 46 2 (by decide)]; exact h7, by rw [hk 46 6 (by decide)]; exact h8⟩, ⟨h9, hL⟩, ⟨by rw [hk 46 5 (by decide)]; exact h11, WTr.cg (fun j k a b => hk j k (by omega)) _ h12⟩, h13.cg (hk e 6 (by omega)) (fun j k a b => hk j k (by omega)), h14.tr h2 (fun j k a _ _ _ _ _ => hk j k (fun g => a g.1)) (fun j k a b => hl j k b)⟩
theorem l_pushLocal (h : RC e ch n X0 lk Y q o sc ws c) (hs : sc.length < 44) {l : Nm} (hl : LT l) (h8 : l.length ≤ 8) {y : Int64} (hy : y = lN (p8 l)) : pw (g_Reader_pushLocal y Y) (fun _ Z => RC e ch n X0 lk Z q o (l :: sc) ws c) := by
  have h9 := h.2.2.1.1
  have l1 : (1 : Int32).toInt = 1 := by decide
  unfold g_Reader_pushLocal
  refine pw_let ?_
  refine pw_neg (by omega) ?_
  refine pw_let ?_
  refine pw_ck (fun _ => ?_)
  rw [ixn h9]
  refine pw_eq (fun X3 e3 => ?_)
  refine pw_let ?_
  refine pw_eq (fun x5 e5 => ?_)
  refine pw_eq (fun X6 e6 => ?_)
  have c9 : X3.1 46 9 = Y.1 46 9 := by rw [e3]; rfl
  refine pw_ret ?_
  refine h.scope ?_ ?_ ?_ ?_ ?_
  · rw [e6, e3]; rfl
  · intro j k hj
    rw [e6, wI_ne _ _ _ _ _ _ hj, e3]
    rfl
  · intro j k hj
    rw [e6]
    show X3.2.1 j k = Y.2.1 j k
    rw [e3]
    exact wL_ne _ _ _ _ _ _ (fun g => hj g.1)
  · rw [e6, wI_at, e5, c9, ti_add (by rw [h9, l1]; omega) (by rw [h9, l1]; omega), h9, l1]
    show (sc.length : Int) + 1 = ((sc.length + 1 : Nat) : Int)
    omega
  · have hz : ∀ k, X6.2.1 50 k = X3.2.1 50 k := fun k => by rw [e6]; rfl
    refine ⟨⟨?_, hl, h8⟩, ?_⟩
    · rw [hz, e3, wL_at, hy]
    · refine LOCr.up (m := sc.length) (fun k hk => ?_) sc (Nat.le_refl _) h.2.2.1.2
      rw [hz, e3]
      exact wL_ne _ _ _ _ _ _ (fun g => by omega)
theorem RC.back {l : Nm} (h : RC e ch n X0 lk Y q o (l :: sc) ws c) {v : Int32} (hv : v.toInt = (sc.length : Int)) : RC e ch n X0 lk (wI Y 46 9 v) q o sc ws c :=
  h.scope (by rfl) (fun j k hj => wI_ne _ _ _ _ _ _ hj) (fun _ _ _ => rfl) (by rw [wI_at]; exact hv) (LOCr.cg (Y := Y) (Z := wI Y 46 9 v) (fun _ => rfl) _ h.2.2.1.2.2)
theorem l_tookColon (h : RC e ch n X0 lk Y q o sc ws c) : pw (g_Reader_tookColon Y) (fun r Z => (ty ch q = 58 ∧ ¬ r.toInt = 0 ∧ RC e ch n X0 lk Z (nx ch q) o sc ws c ∧ pl ch q + 1 ≤ pl ch (nx ch q) ∧ pl ch (nx ch q) ≤ 3000) ∨ (¬ ty ch q = 58 ∧ r.toInt = 0 ∧ Z = Y)) := by
  unfold g_Reader_tookColon
  refine pw_let ?_
  rw [h.ty]
  refine pw_ite (fun c1 => ?_) (fun c1 => ?_)
  · refine pw_bd (l_advance h (by omega)) (fun _ Z hZ => ?_)
    have := hZ.pln
    exact pw_ret (Or.inl ⟨c1, by decide, hZ, pl_nx h.tx (by omega), by omega⟩)
  · exact pw_ret (Or.inr ⟨c1, by decide, rfl⟩)
theorem l_beginsKind (h : RC e ch n X0 lk Y q o sc ws c) : pw (g_Reader_beginsKind Y) (fun r Z => Z = Y ∧ zB r (bgK (ty ch q))) := by
  have hty := h.ty
  unfold g_Reader_beginsKind
  have hb : bgK (ty ch q) = true ↔ (ty ch q = 91 ∨ (272 ≤ ty ch q ∧ ty ch q ≤ 275)) := decide_eq_true_iff
  refine pw_let ?_
  rw [h.ty]
  refine pw_ite (fun c1 => pw_ret ⟨rfl, Or.inr ⟨by decide, hb.mpr (Or.inl c1)⟩⟩) (fun c1 => ?_)
  refine pw_let ?_
  refine pw_ite (fun c2 => pw_ret ⟨rfl, Or.inl ⟨by decide, nb.mpr (fun g => ?_)⟩⟩) (fun c2 => ?_)
  · have := hb.mp g; omega
  refine pw_let ?_
  refine pw_ite (fun c3 => pw_ret ⟨rfl, Or.inl ⟨by decide, nb.mpr (fun g => ?_)⟩⟩) (fun c3 => pw_ret ⟨rfl, Or.inr ⟨by decide, hb.mpr (Or.inr (by omega))⟩⟩)
  have := hb.mp g
  omega
theorem l_beginsE (h : RC e ch n X0 lk Y q o sc ws c) : pw (g_Reader_beginsE Y) (fun r Z => Z = Y ∧ zB r (bgE (ty ch q))) := by
  have hb : bgE (ty ch q) = true ↔ (ty ch q = 33 ∨ ty ch q = 40 ∨ ty ch q = 45 ∨ ty ch q = 91 ∨ ty ch q = 123 ∨ ty ch q = 258 ∨ ty ch q = 259 ∨ ty ch q = 262 ∨ ty ch q = 264 ∨ ty ch q = 267 ∨ ty ch q = 268 ∨ ty ch q = 269 ∨ ty ch q = 270 ∨ ty ch q = 271) := decide_eq_true_iff
  have yes : bgE (ty ch q) = true → pw (some ((1 : Int32), Y)) (fun r Z => Z = Y ∧ zB r (bgE (ty ch q))) := fun g => pw_ret ⟨rfl, Or.inr ⟨by decide, g⟩⟩
  unfold g_Reader_beginsE
  refine pw_let ?_
  rw [h.ty]
  refine pw_ite (fun c => yes (hb.mpr (by omega))) (fun c1 => ?_)
  refine pw_ite (fun c => yes (hb.mpr (by omega))) (fun c2 => ?_)
  refine pw_ite (fun c => yes (hb.mpr (by omega))) (fun c3 => ?_)
  refine pw_ite (fun c => yes (hb.mpr (by omega))) (fun c4 => ?_)
  refine pw_ite (fun c => yes (hb.mpr (by omega))) (fun c5 => ?_)
  refine pw_ite (fun c => yes (hb.mpr (by omega))) (fun c6 => ?_)
  refine pw_ite (fun c => yes (hb.mpr (by omega))) (fun c7 => ?_)
  refine pw_ite (fun c => yes (hb.mpr (by omega))) (fun c8 => ?_)
  refine pw_ite (fun c => yes (hb.mpr (by omega))) (fun c9 => ?_)
  refine pw_ite (fun c => yes (hb.mpr (by omega))) (fun c10 => ?_)
  refine pw_ite (fun c => yes (hb.mpr (by omega))) (fun c11 => ?_)
  refine pw_ite (fun c => yes (hb.mpr (by omega))) (fun c12 => ?_)
  refine pw_ite (fun c => yes (hb.mpr (by omega))) (fun c13 => ?_)
  refine pw_ite (fun c => yes (hb.mpr (by omega))) (fun c14 => ?_)
  refine pw_ret ⟨rfl, Or.inl ⟨by decide, nb.mpr (fun g => ?_)⟩⟩
  have := hb.mp g
  omega
theorem l_levelOf (p : Int32) (Y : St) : pw (g_Reader_levelOf p Y) (fun r Z => Z = Y ∧ r.toInt = lvl p.toInt) := by
  have v : ∀ (k : Int32) (v : Int), k.toInt = v → lvl p.toInt = v → pw (some (k, Y)) (fun r Z => Z = Y ∧ r.toInt = lvl p.toInt) := fun k v hk hv => pw_ret ⟨rfl, by rw [hk, hv]⟩
  have v1 : p.toInt = 60 ∨ p.toInt = 61 → lvl p.toInt = 1 := fun h => if_pos h
  have v2 : p.toInt = 43 ∨ p.toInt = 45 → lvl p.toInt = 2 := fun h => by
    unfold lvl
    rw [if_neg (by omega), if_pos h]
  have v3 : p.toInt = 42 ∨ p.toInt = 47 ∨ p.toInt = 37 → lvl p.toInt = 3 := fun h => by
    unfold lvl
    rw [if_neg (by omega), if_neg (by omega), if_pos h]
  unfold g_Reader_levelOf
  refine pw_ite (fun c => v 3 3 (by decide) (v3 (by omega))) (fun c1 => ?_)
  refine pw_ite (fun c => v 3 3 (by decide) (v3 (by omega))) (fun c2 => ?_)
  refine pw_ite (fun c => v 2 2 (by decide) (v2 (by omega))) (fun c3 => ?_)
  refine pw_ite (fun c => v 2 2 (by decide) (v2 (by omega))) (fun c4 => ?_)
  refine pw_ite (fun c => v 3 3 (by decide) (v3 (by omega))) (fun c5 => ?_)
  refine pw_ite (fun c => v 1 1 (by decide) (v1 (by omega))) (fun c6 => ?_)
  refine pw_ite (fun c => v 1 1 (by decide) (v1 (by omega))) (fun c7 => ?_)
  refine v 0 0 (by decide) ?_
  unfold lvl
  rw [if_neg (by omega), if_neg (by omega), if_neg (by omega)]
theorem l_opOf (p : Int32) (Y : St) : pw (g_Reader_opOf p Y) (fun r Z => Z = Y ∧ r.toInt = opc p.toInt) := by
  unfold g_Reader_opOf opc
  refine pw_ite (fun c => pw_ret ⟨rfl, by rw [if_pos c]; decide⟩) (fun c1 => ?_)
  refine pw_ite (fun c => pw_ret ⟨rfl, by rw [if_neg c1, if_pos c]; decide⟩) (fun c2 => ?_)
  refine pw_ite (fun c => pw_ret ⟨rfl, by rw [if_neg c1, if_neg c2, if_pos c]; decide⟩) (fun c3 => ?_)
  refine pw_ite (fun c => pw_ret ⟨rfl, by rw [if_neg c1, if_neg c2, if_neg c3, if_pos c]; decide⟩) (fun c4 => ?_)
  refine pw_ite (fun c => pw_ret ⟨rfl, by rw [if_neg c1, if_neg c2, if_neg c3, if_neg c4, if_pos c]; decide⟩) (fun c5 => ?_)
  refine pw_ite (fun c => pw_ret ⟨rfl, by rw [if_neg c1, if_neg c2, if_neg c3, if_neg c4, if_neg c5, if_pos c]; decide⟩) (fun c6 => ?_)
  exact pw_ret ⟨rfl, by rw [if_neg c1, if_neg c2, if_neg c3, if_neg c4, if_neg c5, if_neg c6]; decide⟩
theorem RC.wait (h : RC e ch n X0 lk Y q o sc ws c) (h2 : Z.2 = Y.2) (hk : ∀ j k, ¬ (j = 46 ∧ k = 5) → ¬ (51 ≤ j ∧ j ≤ 53) → Z.1 j k = Y.1 j k) (h5 : (Z.1 46 5).toInt = (ws1.length : Int)) (hW : WTr Z ws1) : RC e ch n X0 lk Z q o sc ws1 c := by
  obtain ⟨⟨h1, hp, h3, h4⟩, ⟨hf, h6, h7, h8⟩, ⟨h9, h10⟩, -, h13, h14⟩ := h
  refine ⟨⟨h1, by rw [h2]; exact hp, h3.cg (fun k => hk 47 k (by omega) (by omega)) (fun k => hk 1 k (by omega) (by omega)) (by rw [h2]), h4.1, h4.2.cg (fun j k a b => hk j k (by omega) (by omega)) (fun k => hk _ k (by omega) (by omega))⟩, ⟨by rw [hk 46 3 (by decide) (by decide)]; exact hf, h6.cg (fun k => hk 47 k (by omega) (by omega)) (fun k => by rw [h2]), by rw [hk 46 2 (by decide) (by decide)]; exact h7, by rw [hk 46 6 (by decide) (by decide)]; exact h8⟩, ⟨by rw [hk 46 9 (by decide) (by decide)]; exact h9, LOCr.cg (fun k => by rw [h2]) _ h10⟩, ⟨h5, hW⟩, h13.cg (hk e 6 (by omega) (by omega)) (fun j k a b => hk j k (by omega) (by omega)), h14.tr (by rw [h2]) (fun j k a _ b _ _ _ => hk j k (fun g => a g.1) (by omega)) (fun j k a b => by rw [h2])⟩
theorem RC.unwait {w : Wt} (h : RC e ch n X0 lk Y q o sc (w :: ws) c) {v : Int32} (hv : v.toInt = (ws.length : Int)) : RC e ch n X0 lk (wI Y 46 5 v) q o sc ws c :=
  h.wait (by rfl) (fun j k a _ => wI_ne _ _ _ _ _ _ a) (by rw [wI_at]; exact hv) (WTr.cg (Y := Y) (Z := wI Y 46 5 v) (fun j k a b => wI_ne _ _ _ _ _ _ (by omega)) _ h.2.2.2.1.2.2)
theorem l_pushWaiting (h : RC e ch n X0 lk Y q o sc ws c) {p : Int32} {i : Nat} (hp : p.toInt = (i : Int)) (hi : i < c.length) (hl : c.length < 9080) (hw : ws.length < 126) : pw (g_Reader_pushWaiting p Y) (fun _ Z => RC e ch n X0 lk Z q o sc ((ty ch q, (pl ch q : Int), i) :: ws) (c ++ [(27, 0, plc c i, [])]) ∧ (c ++ [((27, 0, plc c i, []) : Ins)]).length = c.length + 1) := by
  unfold g_Reader_pushWaiting
  refine pw_ck (fun _ => ?_)
  refine pw_to h.pe ?_
  refine pw_bd (l_placeOf h hp hi) ?_
  rintro x2 X3 ⟨rfl, h2⟩
  refine pw_bd (l_emit (kd := []) h hl (a1 := 27) (a2 := 0) (by decide) (fun _ => by decide) h2 (fun g => absurd g (by decide))) ?_
  rintro x4 X5 ⟨⟨h4, hll⟩, hR⟩
  have w5 := hR.2.2.2.1.1
  have l1 : (1 : Int32).toInt = 1 := by decide
  refine pw_let ?_
  refine pw_neg (by omega) ?_
  refine pw_let ?_
  refine pw_let ?_
  refine pw_ck (fun _ => ?_)
  rw [ixn w5]
  refine pw_eq (fun X9 e9 => ?_)
  refine pw_let ?_
  refine pw_let ?_
  refine pw_ck (fun _ => ?_)
  have c9 : X9.1 46 5 = X5.1 46 5 := by rw [e9]; exact wI_ne _ _ _ _ _ _ (by omega)
  have d9 : X9.1 47 4 = X5.1 47 4 := by rw [e9]; exact wI_ne _ _ _ _ _ _ (by omega)
  rw [c9, d9, ixn w5]
  refine pw_eq (fun X12 e12 => ?_)
  refine pw_let ?_
  refine pw_ck (fun _ => ?_)
  have c12 : X12.1 46 5 = X5.1 46 5 := by rw [e12, wI_ne _ _ _ _ _ _ (by omega), c9]
  rw [c12, ixn w5]
  refine pw_eq (fun X14 e14 => ?_)
  refine pw_let ?_
  have c14 : X14.1 46 5 = X5.1 46 5 := by rw [e14, wI_ne _ _ _ _ _ _ (by omega), c12]
  rw [c14]
  refine pw_eq (fun x16 e16 => ?_)
  refine pw_eq (fun X17 e17 => ?_)
  refine pw_ret ⟨?_, hll⟩
  refine hR.wait ?_ ?_ ?_ ?_
  · rw [e17, e14, e12, e9]; rfl
  · intro j k a b
    rw [e17, wI_ne _ _ _ _ _ _ a, e14, wI_ne _ _ _ _ _ _ (by omega), e12, wI_ne _ _ _ _ _ _ (by omega), e9, wI_ne _ _ _ _ _ _ (by omega)]
  · rw [e17, wI_at, e16, ti_add (by rw [w5, l1]; omega) (by rw [w5, l1]; omega), w5, l1]
    show (ws.length : Int) + 1 = ((ws.length + 1 : Nat) : Int)
    omega
  · refine ⟨⟨?_, ?_, ?_⟩, ?_⟩
    · rw [e17, wI_ne _ _ _ _ _ _ (by omega), e14, wI_ne _ _ _ _ _ _ (by omega), e12, wI_ne _ _ _ _ _ _ (by omega), e9, wI_at]
      exact hR.ty
    · rw [e17, wI_ne _ _ _ _ _ _ (by omega), e14, wI_ne _ _ _ _ _ _ (by omega), e12, wI_at]
      exact hR.pl
    · rw [e17, wI_ne _ _ _ _ _ _ (by omega), e14, wI_at]
      exact hp
    · refine WTr.up (Y := X5) (m := ws.length) (fun j k a b hk => ?_) ws (Nat.le_refl _) hR.2.2.2.1.2
      rw [e17, wI_ne _ _ _ _ _ _ (by omega), e14, wI_ne _ _ _ _ _ _ (by omega), e12, wI_ne _ _ _ _ _ _ (by omega), e9, wI_ne _ _ _ _ _ _ (by omega)]
/-- working off: how long the code gets, where what is left stands -/
theorem sPop_len (lv : Int) : ∀ (ws : List Wt) (f : Nat) (c : List Ins), (sPop lv ws f c).2.2.length + 2 * (sPop lv ws f c).1.length = c.length + 2 * ws.length := by
  intro ws
  induction ws with
  | nil => exact fun f c => rfl
  | cons w ws ih =>
    intro f c
    unfold sPop
    by_cases h : lvl w.1 < lv
    · rw [if_pos h]
    · rw [if_neg h, ih, addx_len, List.length_append, List.length_append]
      show c.length + 1 + 1 + 2 * ws.length = c.length + 2 * (ws.length + 1)
      omega
theorem sPop_in (lv : Int) : ∀ (ws : List Wt) (f : Nat) (c : List Ins), f < c.length → (∀ w ∈ ws, w.2.2 < c.length) → (sPop lv ws f c).2.1 < (sPop lv ws f c).2.2.length ∧ (∀ w ∈ (sPop lv ws f c).1, w ∈ ws ∧ w.2.2 < (sPop lv ws f c).2.2.length) := by
  intro ws
  induction ws with
  | nil => exact fun f c hf _ => ⟨hf, fun w hw => absurd hw List.not_mem_nil⟩
  | cons w ws ih =>
    intro f c hf hw
    unfold sPop
    by_cases h : lvl w.1 < lv
    · rw [if_pos h]; exact ⟨hf, fun v hv => ⟨hv, hw v hv⟩⟩
    · rw [if_neg h]
      have hl : (addx ((c ++ [((27, 0, plc c f, []) : Ins)]) ++ [(opc w.1, 0, w.2.1, [])]) w.2.2 1).length = c.length + 2 := by
        rw [addx_len, List.length_append, List.length_append]
        rfl
      have h1 := ih w.2.2 (addx ((c ++ [((27, 0, plc c f, []) : Ins)]) ++ [(opc w.1, 0, w.2.1, [])]) w.2.2 1) (by rw [hl]; have := hw w List.mem_cons_self; omega) (fun v hv => by rw [hl]; have := hw v (List.mem_cons_of_mem _ hv); omega)
      exact ⟨h1.1, fun v hv => ⟨List.mem_cons_of_mem _ (h1.2 v hv).1, (h1.2 v hv).2⟩⟩
theorem l_apply1 {wo : List Wt} {a1 a2 : Int32} {lv : Int} (h1 : a1.toInt = (wo.length : Int)) (h2 : a2.toInt = lv) : ∀ N (wl : List Wt) (f : Nat) (c : List Ins) (a4 a5 : Int32) (Y : St), RC e ch n X0 lk Y q o sc (wl ++ wo) c → a4.toInt = (f : Int) → a5.toInt = ((wl ++ wo).length : Int) - 1 → (wl ++ wo).length ≤ 1000 → f < c.length → (∀ w ∈ wl, w.2.2 < c.length) → c.length + 2 * wl.length ≤ 9080 → pw (g_Reader_applyWaiting_11 N a1 a2 a4 a5 Y) (fun r Z => RC e ch n X0 lk Z q o sc ((sPop lv wl f c).1 ++ wo) (sPop lv wl f c).2.2 ∧ r.toInt = ((sPop lv wl f c).2.1 : Int)) := by
  intro N
  unfold g_Reader_applyWaiting_11
  refine lp_ind (P := fun (r : Int32 → Int32 → Int32 → Int32 → St → Option (Int32 × St)) => ∀ (wl : List Wt) (f : Nat) (c : List Ins) (a4 a5 : Int32) (Y : St), RC e ch n X0 lk Y q o sc (wl ++ wo) c → a4.toInt = (f : Int) → a5.toInt = ((wl ++ wo).length : Int) - 1 → (wl ++ wo).length ≤ 1000 → f < c.length → (∀ w ∈ wl, w.2.2 < c.length) → c.length + 2 * wl.length ≤ 9080 → pw (r a1 a2 a4 a5 Y) (fun r Z => RC e ch n X0 lk Z q o sc ((sPop lv wl f c).1 ++ wo) (sPop lv wl f c).2.2 ∧ r.toInt = ((sPop lv wl f c).2.1 : Int))) (fun _ _ _ _ _ _ _ _ _ _ _ _ _ => pw_none) (fun r ih wl f c a4 a5 Y hR h4 h5 hk hf hw hcap => ?_) N
  unfold g_Reader_applyWaiting_11_s
  cases wl with
  | nil =>
    have h5 : a5.toInt = (wo.length : Int) - 1 := h5
    exact pw_pos (by omega) (pw_ret ⟨hR, h4⟩)
  | cons w ws =>
    have hlen : ((w :: ws) ++ wo).length = (ws ++ wo).length + 1 := rfl
    have hlen2 : (ws ++ wo).length = ws.length + wo.length := List.length_append
    have hlen3 : (w :: ws).length = ws.length + 1 := rfl
    have h5 : a5.toInt = ((ws ++ wo).length : Int) := by rw [h5, hlen]; omega
    have hW := hR.2.2.2.1.2
    obtain ⟨⟨w1, w2, w3⟩, -⟩ : ((Y.1 51 (ws ++ wo).length).toInt = w.1 ∧ (Y.1 52 (ws ++ wo).length).toInt = w.2.1 ∧ (Y.1 53 (ws ++ wo).length).toInt = (w.2.2 : Int)) ∧ WTr Y (ws ++ wo) := hW
    have hw0 := hw w List.mem_cons_self
    refine pw_neg (by omega) ?_
    refine pw_ck (fun _ => ?_)
    rw [ixn h5]
    refine pw_let ?_
    refine pw_bd (l_levelOf _ _) ?_
    rintro x4 X5 ⟨rfl, g4⟩
    rw [w1] at g4
    rw [g4, h2]
    unfold sPop
    refine pw_ite (fun c1 => ?_) (fun c1 => ?_)
    · rw [if_pos c1]
      exact pw_ret ⟨hR, h4⟩
    · rw [if_neg c1]
      refine pw_ck (fun _ => ?_)
      refine pw_to hR.pe ?_
      refine pw_bd (l_placeOf hR h4 hf) ?_
      rintro x7 X8 ⟨rfl, g7⟩
      refine pw_bd (l_emit (kd := []) hR (by omega) (a1 := 27) (a2 := 0) (by decide) (fun _ => by decide) g7 (fun g => absurd g (by decide))) ?_
      rintro x9 X10 ⟨⟨g9, l10⟩, hR1⟩
      obtain ⟨⟨v1, v2, v3⟩, -⟩ : ((X10.1 51 (ws ++ wo).length).toInt = w.1 ∧ (X10.1 52 (ws ++ wo).length).toInt = w.2.1 ∧ (X10.1 53 (ws ++ wo).length).toInt = (w.2.2 : Int)) ∧ WTr X10 (ws ++ wo) := hR1.2.2.2.1.2
      refine pw_ck (fun _ => ?_)
      refine pw_to hR1.pe ?_
      refine pw_ck (fun _ => ?_)
      refine pw_let ?_
      refine pw_bd (l_opOf _ _) ?_
      rintro x13 X14 ⟨rfl, g13⟩
      rw [v1] at g13
      refine pw_ck (fun _ => ?_)
      refine pw_let ?_
      have hop : opc w.1 = 4 → False := by
        unfold opc
        intro g
        repeat' split at g
        all_goals exact absurd g (by decide)
      have hop34 : ¬ opc w.1 = 34 := by
        unfold opc
        intro g
        repeat' split at g
        all_goals exact absurd g (by decide)
      refine pw_bd (l_emit (kd := []) hR1 (by omega) (a1 := opc w.1) (a2 := 0) g13 (fun _ => by decide) v2 (fun g => absurd (hop g) (fun k => k)) hop34) ?_
      rintro x16 X17 ⟨⟨g16, l17⟩, hR2⟩
      obtain ⟨⟨u1, u2, u3⟩, -⟩ : ((X17.1 51 (ws ++ wo).length).toInt = w.1 ∧ (X17.1 52 (ws ++ wo).length).toInt = w.2.1 ∧ (X17.1 53 (ws ++ wo).length).toInt = (w.2.2 : Int)) ∧ WTr X17 (ws ++ wo) := hR2.2.2.2.1.2
      refine pw_ck (fun _ => ?_)
      refine pw_eq (fun x18 e18 => ?_)
      have g18 : x18.toInt = (w.2.2 : Int) := by rw [e18]; exact u3
      refine pw_bd (l_addStep hR2 g18 (by omega)) (fun _ X19 hR3 => ?_)
      refine pw_eq (fun X20 e20 => ?_)
      refine pw_let ?_
      have hR4 : RC e ch n X0 lk X20 q o sc (ws ++ wo) (addx ((c ++ [((27, 0, plc c f, []) : Ins)]) ++ [(opc w.1, 0, w.2.1, [])]) w.2.2 1) := by
        rw [e20]
        exact RC.unwait (w := w) hR3 h5
      have hla : (addx ((c ++ [((27, 0, plc c f, []) : Ins)]) ++ [(opc w.1, 0, w.2.1, [])]) w.2.2 1).length = c.length + 2 := by
        rw [addx_len, l17, l10]
      refine ih ws w.2.2 _ x18 _ X20 hR4 g18 (by rw [im1 (by omega), h5]) (by omega) (by omega) (fun v hv => ?_) (by omega)
      have := hw v (List.mem_cons_of_mem _ hv)
      omega
theorem l_apply {wl wo : List Wt} {p1 p2 p3 : Int32} {lv : Int} {f : Nat} (h : RC e ch n X0 lk Y q o sc (wl ++ wo) c) (h1 : p1.toInt = (wo.length : Int)) (h2 : p2.toInt = lv) (h3 : p3.toInt = (f : Int)) (hk : (wl ++ wo).length ≤ 1000) (hf : f < c.length) (hw : ∀ w ∈ wl, w.2.2 < c.length) (hcap : c.length + 2 * wl.length ≤ 9080) : pw (g_Reader_applyWaiting p1 p2 p3 Y) (fun r Z => RC e ch n X0 lk Z q o sc ((sPop lv wl f c).1 ++ wo) (sPop lv wl f c).2.2 ∧ r.toInt = ((sPop lv wl f c).2.1 : Int)) := by
  unfold g_Reader_applyWaiting
  have w5 := h.2.2.2.1.1
  have l1 : (1 : Int32).toInt = 1 := by decide
  refine pw_let ?_
  refine pw_let ?_
  exact l_apply1 h1 h2 BIG wl f c p3 _ Y h h3 (by rw [ti_sub (by rw [w5, l1]; omega) (by rw [w5, l1]; omega), w5, l1]) hk hf hw hcap
end PRIM
