/-! the constructor's kinds: the second -/
section CKTB
variable {e3 : Nat} {X Y : St} {ks : List (List Int)} {d : List Int}
theorem kb_bucketOf (v : Int32) : pw (hB_bucketOf v X) (fun r Y => Y = X ∧ r = bkv v) := by
  unfold hB_bucketOf
  exact pw_let (pw_let (pw_let (pw_let (pw_let (pw_ret ⟨rfl, rfl⟩)))))
theorem kb_codeOf {p : Int32} {j : Nat} (hc : (X.1 25 0).toInt = (ks.length : Int)) (hj : p.toInt = (j : Int)) (hd : ks[j]? = some d) (h4 : X.1 29 j = kco d) : pw (hB_codeOf p X) (fun r Y => Y = X ∧ r = kco d) := by
  have hl := (List.getElem?_eq_some_iff.mp hd).1
  unfold hB_codeOf
  refine pw_neg (by omega) (pw_let (pw_neg (by omega) ?_))
  refine pw_ck (fun _ => pw_let (pw_ret ⟨rfl, ?_⟩))
  rw [ixn hj]
  exact h4
theorem kb_hasAny {p : Int32} {j : Nat} (hc : (j : Int) < (X.1 25 0).toInt) (hj : p.toInt = (j : Int)) {c : Prop} (h5 : (X.1 30 j).toInt = 0 ↔ ¬ c) : pw (hB_hasAny p X) (fun r Y => Y = X ∧ (r.toInt = 0 ∨ r.toInt = 1) ∧ (r.toInt = 0 ↔ ¬ c)) := by
  have l0 : (0 : Int32).toInt = 0 := by decide
  have l1 : (1 : Int32).toInt = 1 := by decide
  unfold hB_hasAny
  refine pw_neg (by omega) (pw_let (pw_neg (by omega) ?_))
  refine pw_ck (fun _ => pw_let ?_)
  rw [ixn hj]
  refine pw_ite (fun c1 => pw_ret ⟨rfl, Or.inl l0, ?_⟩) (fun c1 => pw_ret ⟨rfl, Or.inr l1, ?_⟩)
  · exact ⟨fun _ => h5.mp c1, fun _ => l0⟩
  · exact ⟨fun z => by omega, fun z => absurd (h5.mpr z) c1⟩
theorem kb_same30 {a1 a2 a4 : Int32} {k n f : Nat} (hk : a1.toInt = (k : Int)) (hk5 : k < 1549) (hn : a2.toInt = (n : Int)) (hn4 : n ≤ 4) (hf : n = 0 ∨ (a4.toInt = (f : Int) ∧ f ≤ 10000)) : ∀ (M i : Nat) (a6 : Int32), a6.toInt = (i : Int) → i ≤ n → (∀ j, j < i → (X.1 28 (5 * k + j)).toInt = (X.1 e3 (f + j)).toInt) → pw (hB_isSame_30 M a1 a2 e3 a4 a6 X) (fun r Y => Y = X ∧ (r.toInt = 0 ↔ ¬ ∀ j, j < n → (X.1 28 (5 * k + j)).toInt = (X.1 e3 (f + j)).toInt)) := by
  have l5 : (5 : Int32).toInt = 5 := by decide
  have l0 : (0 : Int32).toInt = 0 := by decide
  have l1 : (1 : Int32).toInt = 1 := by decide
  have lo1 : (Int32.ofInt 1).toInt = 1 := by decide
  intro M
  induction M with
  | zero => exact fun _ _ _ _ _ => pw_none
  | succ M ih =>
    intro i a6 h6 hi hs
    have e : hB_isSame_30 (M + 1) = hB_isSame_30_s (hB_isSame_30 M) := by
      unfold hB_isSame_30
      exact lp_succ _ _ _
    rw [e]
    unfold hB_isSame_30_s
    refine pw_ite (fun c => pw_ret ⟨rfl, fun z => by omega, fun z => absurd (fun j hj => hs j (by omega)) z⟩) (fun c => ?_)
    obtain ⟨hf1, hf2⟩ := hf.resolve_left (by omega)
    refine pw_eq (fun x8 e8 => pw_eq (fun x9 e9 => pw_ck (fun _ => pw_let (pw_eq (fun x11 e11 => pw_ck (fun _ => pw_let ?_))))))
    have v8 : x8.toInt = (k : Int) * 5 := by rw [e8, ti_mul (by rw [hk, l5]; omega) (by rw [hk, l5]; omega), hk, l5]
    have v9 : x9.toInt = ((5 * k + i : Nat) : Int) := by rw [e9, ti_add (by rw [v8, h6]; omega) (by rw [v8, h6]; omega), v8, h6]; omega
    have v11 : x11.toInt = ((f + i : Nat) : Int) := by rw [e11, ti_add (by rw [hf1, h6]; omega) (by rw [hf1, h6]; omega), hf1, h6]; omega
    rw [ixn v9, ixn v11]
    refine pw_ite (fun c1 => ?_) (fun c1 => pw_ret ⟨rfl, fun _ z => c1 (z i (by omega)), fun _ => l0⟩)
    refine pw_let (ih (i + 1) _ (by rw [ti_add (by rw [h6, lo1]; omega) (by rw [h6, lo1]; omega), h6, lo1]; omega) (by omega) (fun j hj => ?_))
    by_cases ej : j = i
    · rw [ej]; exact c1
    · exact hs j (by omega)
/-- is the kind k this one -/
theorem kb_isSame {p1 p2 p4 p5 : Int32} {k f m : Nat} {d1 : List Int} (hT : TKS 25 X ks) (hk : p1.toInt = (k : Int)) (hd1 : ks[k]? = some d1) (hw : WKd m d) (hs : sot d1 = sot d) (hn : p2.toInt = (tkn d : Int)) (hf : tkn d = 0 ∨ (p4.toInt = (f : Int) ∧ f ≤ 10000)) (hg : (sot d < 3 → p5.toInt = 2) ∧ (3 ≤ sot d → ∃ q : Nat, p5.toInt = (q : Int) ∧ ks[q]? = some (gvs d))) (hp : ∀ i, i < tkn d → ∃ j : Nat, (X.1 e3 (f + i)).toInt = (j : Int) ∧ ks[j]? = some (prm d i)) : pw (hB_isSame p1 p2 e3 p4 p5 X) (fun r Y => Y = X ∧ (r.toInt = 0 ↔ ¬ d1 = d)) := by
  have l5 : (5 : Int32).toInt = 5 := by decide
  have l4 : (4 : Int32).toInt = 4 := by decide
  have l0 : (0 : Int32).toInt = 0 := by decide
  have hkl := (List.getElem?_eq_some_iff.mp hd1).1
  have hk5 := hT.1.2.1
  obtain ⟨hE, m1, hw1⟩ := hT.2.1 k d1 hd1
  have hE2 : (X.1 27 k).toInt = (tkn d1 : Int) := hE.1.2.1
  have hEp : sot d1 < 3 → (X.1 28 (5 * k + 4)).toInt = 2 := hE.2.1.1
  have key : ∀ q : Nat, (3 ≤ sot d → p5.toInt = (q : Int) ∧ ks[q]? = some (gvs d)) → _ := fun q hq => KEn.same (pr := fun i => (X.1 e3 (f + i)).toInt) hT.1.2.2 hE hw hw1 hs (q := q) (fun z => (hq z).2) hp
  obtain ⟨q, hq⟩ : ∃ q : Nat, 3 ≤ sot d → p5.toInt = (q : Int) ∧ ks[q]? = some (gvs d) := by
    by_cases z : 3 ≤ sot d
    · obtain ⟨q, h1, h2⟩ := hg.2 z
      exact ⟨q, fun _ => ⟨h1, h2⟩⟩
    · exact ⟨0, fun y => absurd y z⟩
  obtain ⟨k1, k2⟩ := key q hq
  have r2 : d1 = d → (X.1 27 k).toInt = (tkn d : Int) := fun e => (k1 e).1
  have r4 : d1 = d → (X.1 28 (5 * k + 4)).toInt = p5.toInt := fun e => by
    by_cases z : 3 ≤ sot d
    · rw [(hq z).1]; exact (k1 e).2.1 z
    · rw [hg.1 (by omega)]; exact hEp (by omega)
  have ri : d1 = d → ∀ i, i < tkn d → (X.1 28 (5 * k + i)).toInt = (X.1 e3 (f + i)).toInt := fun e => (k1 e).2.2
  have back : (X.1 27 k).toInt = (tkn d : Int) → (X.1 28 (5 * k + 4)).toInt = p5.toInt → (∀ i, i < tkn d → (X.1 28 (5 * k + i)).toInt = (X.1 e3 (f + i)).toInt) → d1 = d := fun h1 h2 h3 => k2 ⟨h1, fun z => h2.trans (hq z).1, h3⟩
  unfold hB_isSame
  refine pw_ck (fun _ => pw_let ?_)
  rw [ixn hk, hn]
  refine pw_ite (fun c1 => ?_) (fun c1 => pw_ret ⟨rfl, fun _ z => c1 (r2 z), fun _ => l0⟩)
  refine pw_eq (fun x4 e4 => pw_eq (fun x5 e5 => pw_ck (fun _ => pw_let ?_)))
  have v4 : x4.toInt = (k : Int) * 5 := by rw [e4, ti_mul (by rw [hk, l5]; omega) (by rw [hk, l5]; omega), hk, l5]
  have v5 : x5.toInt = ((5 * k + 4 : Nat) : Int) := by rw [e5, ti_add (by rw [v4, l4]; omega) (by rw [v4, l4]; omega), v4, l4]; omega
  rw [ixn v5]
  refine pw_ite (fun c2 => ?_) (fun c2 => pw_ret ⟨rfl, fun _ z => c2 (r4 z), fun _ => l0⟩)
  refine pw_mono (kb_same30 hk (by omega) hn (tkn4 hw) hf BIG 0 0 (by decide) (Nat.zero_le _) (fun j hj => absurd hj (Nat.not_lt_zero _))) ?_
  rintro r Y ⟨h1, h2⟩
  exact ⟨h1, h2.trans ⟨fun z y => z (ri y), fun z y => z (back c1 c2 y)⟩⟩
/-- the new kind's params -/
theorem kb_fill {a2 a4 a7 a8 : Int32} {k n f b : Nat} {V : St} {pr : Nat → List Int} {c0 : Prop} (hk : a8.toInt = (k : Int)) (hk5 : k < 1549) (hn : a2.toInt = (n : Int)) (hn4 : n ≤ 4) (hf : n = 0 ∨ (a4.toInt = (f : Int) ∧ f ≤ 10000 ∧ ¬ (25 ≤ e3 ∧ e3 ≤ 32))) (hb : a7.toInt = (b : Int)) (hc : (V.1 25 0).toInt = (k : Int) + 1) (hp : ∀ i, i < n → ∃ j : Nat, j < k ∧ (V.1 e3 (f + i)).toInt = (j : Int) ∧ ((V.1 30 j).toInt = 0 ↔ ¬ (3 : Int) ∈ pr i)) : ∀ (M i : Nat) (a9 a10 : Int32) (W : St), a10.toInt = (i : Int) → i ≤ n → W.2 = V.2 → (∀ e j, ¬ (e = 28 ∧ 5 * k ≤ j ∧ j < 5 * k + 4) → W.1 e j = V.1 e j) → (∀ j, j < i → W.1 28 (5 * k + j) = V.1 e3 (f + j)) → (a9.toInt = 0 ∨ a9.toInt = 1) → (a9.toInt = 0 ↔ ¬ (c0 ∨ ∃ j, j < i ∧ (3 : Int) ∈ pr j)) → pw (hB_findOrAdd_172 M a2 e3 a4 a7 a8 a9 a10 W) (fun r Y => r = a8 ∧ Y.2 = V.2 ∧ (∀ e j, ¬ (e = 28 ∧ 5 * k ≤ j ∧ j < 5 * k + 4) → ¬ (e = 30 ∧ j = k) → ¬ (e = 32 ∧ j = k) → ¬ (e = 31 ∧ j = b) → Y.1 e j = V.1 e j) ∧ (∀ j, j < n → Y.1 28 (5 * k + j) = V.1 e3 (f + j)) ∧ ((Y.1 30 k).toInt = 0 ↔ ¬ (c0 ∨ ∃ j, j < n ∧ (3 : Int) ∈ pr j)) ∧ Y.1 32 k = V.1 31 b ∧ (Y.1 31 b).toInt = (k : Int)) := by
  have l5 : (5 : Int32).toInt = 5 := by decide
  have l0 : (0 : Int32).toInt = 0 := by decide
  have l1 : (1 : Int32).toInt = 1 := by decide
  have lo1 : (Int32.ofInt 1).toInt = 1 := by decide
  intro M
  induction M with
  | zero => exact fun _ _ _ _ _ _ _ _ _ _ _ => pw_none
  | succ M ih =>
    intro i a9 a10 W h10 hi h2 hW hP h9 hA
    have e : hB_findOrAdd_172 (M + 1) = hB_findOrAdd_172_s (hB_findOrAdd_172 M) := by
      unfold hB_findOrAdd_172
      exact lp_succ _ _ _
    rw [e]
    unfold hB_findOrAdd_172_s
    refine pw_ite (fun c => ?_) (fun c => ?_)
    · have ei : i = n := by omega
      refine pw_ck (fun _ => pw_eq (fun X21 e21 => ?_))
      rw [ixn hk, nar_b a9 h9] at e21
      refine pw_ck (fun _ => pw_eq (fun x24 e24 => pw_ck (fun _ => pw_eq (fun X25 e25 => ?_))))
      rw [ixn hb] at e24
      rw [ixn hk] at e25
      refine pw_ck (fun _ => pw_eq (fun X27 e27 => pw_ret ⟨rfl, ?_, fun e j q1 q2 q3 q4 => ?_, fun j hj => ?_, ?_, ?_, ?_⟩))
      · rw [e27, e25, e21]; exact h2
      · rw [e27, wI_ne _ _ _ _ _ _ (by rw [ixn hb]; omega), e25, wI_ne _ _ _ _ _ _ (by omega), e21, wI_ne _ _ _ _ _ _ (by omega)]
        exact hW e j q1
      · rw [e27, wI_ne _ _ _ _ _ _ (by omega), e25, wI_ne _ _ _ _ _ _ (by omega), e21, wI_ne _ _ _ _ _ _ (by omega)]
        exact hP j (by omega)
      · rw [e27, wI_ne _ _ _ _ _ _ (by omega), e25, wI_ne _ _ _ _ _ _ (by omega), e21, wI_at, ← ei]
        exact hA
      · rw [e27, wI_ne _ _ _ _ _ _ (by omega), e25, wI_at, e24, e21, wI_ne _ _ _ _ _ _ (by omega)]
        exact hW _ _ (by omega)
      · rw [e27, ixn hb, wI_at]; exact hk
    · obtain ⟨hf1, hf2, hf3⟩ := hf.resolve_left (by omega)
      refine pw_eq (fun x29 e29 => pw_eq (fun x30 e30 => pw_eq (fun x31 e31 => pw_ck (fun _ => pw_eq (fun x32 e32 => pw_ck (fun _ => pw_eq (fun X33 e33 => ?_)))))))
      have v29 : x29.toInt = (k : Int) * 5 := by rw [e29, ti_mul (by rw [hk, l5]; omega) (by rw [hk, l5]; omega), hk, l5]
      have v30 : x30.toInt = ((5 * k + i : Nat) : Int) := by rw [e30, ti_add (by rw [v29, h10]; omega) (by rw [v29, h10]; omega), v29, h10]; omega
      have v31 : x31.toInt = ((f + i : Nat) : Int) := by rw [e31, ti_add (by rw [hf1, h10]; omega) (by rw [hf1, h10]; omega), hf1, h10]; omega
      rw [ixn v31, hW e3 _ (by omega)] at e32
      rw [ixn v30, e32] at e33
      have z2 : X33.2 = V.2 := by rw [e33]; exact h2
      have zW : ∀ e j, ¬ (e = 28 ∧ 5 * k ≤ j ∧ j < 5 * k + 4) → X33.1 e j = V.1 e j := fun e j q => by rw [e33, wI_ne _ _ _ _ _ _ (by omega)]; exact hW e j q
      have zP : ∀ j, j < i + 1 → X33.1 28 (5 * k + j) = V.1 e3 (f + j) := fun j hj => by
        by_cases ej : j = i
        · rw [ej, e33, wI_at]
        · rw [e33, wI_ne _ _ _ _ _ _ (by omega)]; exact hP j (by omega)
      have v34 : (a10 + Int32.ofInt 1).toInt = ((i + 1 : Nat) : Int) := by rw [ti_add (by rw [h10, lo1]; omega) (by rw [h10, lo1]; omega), h10, lo1]; omega
      have go : ∀ b9 : Int32, (b9.toInt = 0 ∨ b9.toInt = 1) → (b9.toInt = 0 ↔ ¬ (c0 ∨ ∃ j, j < i + 1 ∧ (3 : Int) ∈ pr j)) → pw (hB_findOrAdd_221 (hB_findOrAdd_172 M) a2 e3 a4 a7 a8 a10 b9 X33) (fun r Y => r = a8 ∧ Y.2 = V.2 ∧ (∀ e j, ¬ (e = 28 ∧ 5 * k ≤ j ∧ j < 5 * k + 4) → ¬ (e = 30 ∧ j = k) → ¬ (e = 32 ∧ j = k) → ¬ (e = 31 ∧ j = b) → Y.1 e j = V.1 e j) ∧ (∀ j, j < n → Y.1 28 (5 * k + j) = V.1 e3 (f + j)) ∧ ((Y.1 30 k).toInt = 0 ↔ ¬ (c0 ∨ ∃ j, j < n ∧ (3 : Int) ∈ pr j)) ∧ Y.1 32 k = V.1 31 b ∧ (Y.1 31 b).toInt = (k : Int)) := fun b9 h9 hA => by
        unfold hB_findOrAdd_221
        exact pw_let (ih (i + 1) b9 _ X33 v34 (by omega) z2 zW zP h9 hA)
      obtain ⟨j0, j1, j2, j3⟩ := hp i (by omega)
      refine pw_ite (fun c9 => ?_) (fun c9 => ?_)
      · refine pw_eq (fun x35 e35 => pw_ck (fun _ => pw_let ?_))
        have v35 : x35.toInt = ((f + i : Nat) : Int) := by rw [e35, ti_add (by rw [hf1, h10]; omega) (by rw [hf1, h10]; omega), hf1, h10]; omega
        rw [ixn v35, zW e3 _ (by omega)]
        refine pw_bd (kb_hasAny (j := j0) (c := (3 : Int) ∈ pr i) (by rw [zW _ _ (by omega), hc]; omega) j2 (by rw [zW _ _ (by omega)]; exact j3)) ?_
        rintro x37 X38 ⟨rfl, g1, g2⟩
        have old := hA.mp c9
        refine pw_ite (fun c37 => go 0 (Or.inl l0) ⟨fun _ => ?_, fun _ => l0⟩) (fun c37 => ?_)
        · rintro (z | ⟨j, z1, z2⟩)
          · exact old (Or.inl z)
          · by_cases ej : j = i
            · rw [ej] at z2; exact g2.mp c37 z2
            · exact old (Or.inr ⟨j, by omega, z2⟩)
        · unfold hB_findOrAdd_216
          refine go 1 (Or.inr l1) ⟨fun z => by omega, fun z => ?_⟩
          have : (3 : Int) ∈ pr i := Classical.byContradiction (fun y => c37 (g2.mpr y))
          exact absurd (Or.inr ⟨i, by omega, this⟩) z
      · unfold hB_findOrAdd_216
        refine go 1 (Or.inr l1) ⟨fun z => by omega, fun z => absurd ?_ z⟩
        have := Classical.byContradiction (fun y => c9 (hA.mpr y))
        exact this.imp (fun z => z) (fun ⟨j, z1, z2⟩ => ⟨j, by omega, z2⟩)
/-- a kind that isn't there yet -/
theorem kb_add {p1 p2 p4 p5 p6 x1 : Int32} {f m : Nat} (hT : TKS 25 X ks) (hw : WKd m d) (hno : ¬ d ∈ ks) (hl : ks.length < 1549) (h1 : p1.toInt = sot d) (hn : p2.toInt = (tkn d : Int)) (h6 : p6 = kco d) (hx : x1 = bkv (kco d)) (hxr : inR x1 512) (hf : tkn d = 0 ∨ (p4.toInt = (f : Int) ∧ f ≤ 10000 ∧ ¬ (25 ≤ e3 ∧ e3 ≤ 32))) (hg : (sot d < 3 → p5.toInt = 2) ∧ (3 ≤ sot d → ∃ q : Nat, p5.toInt = (q : Int) ∧ ks[q]? = some (gvs d))) (hp : ∀ i, i < tkn d → ∃ j : Nat, (X.1 e3 (f + i)).toInt = (j : Int) ∧ ks[j]? = some (prm d i)) : pw (hB_findOrAdd_77 p1 p2 e3 p4 p5 p6 x1 X) (fun r Y => TKS 25 Y (ks ++ [d]) ∧ r.toInt = (ks.length : Int) ∧ Y.2 = X.2 ∧ ∀ e j, ¬ (25 ≤ e ∧ e ≤ 32) → Y.1 e j = X.1 e j) := by
  have l5 : (5 : Int32).toInt = 5 := by decide
  have l4 : (4 : Int32).toInt = 4 := by decide
  have l1 : (1 : Int32).toInt = 1 := by decide
  have l0 : (0 : Int32).toInt = 0 := by decide
  have t4 := tkn4 hw
  have s5 := sot5 hw
  obtain ⟨⟨a1, a2, a3⟩, hE, hB, hN⟩ := hT
  have hB : ∀ b, b < 512 → (X.1 31 b).toInt = lastB ks b ks.length := hB
  have hN : ∀ k, k < ks.length → (X.1 32 k).toInt = lastB ks (bk (ks.getD k [])) k := hN
  have bb : x1.toInt = ((bk d : Nat) : Int) := by
    have := ixc hxr.1
    rw [hx] at this ⊢
    exact this.symm
  have bl : bk d < 512 := by have := hxr.2; omega
  unfold hB_findOrAdd_77
  refine pw_let (pw_pos (by omega) (pw_let (pw_let (pw_eq (fun x8 e8 => pw_eq (fun X9 e9 => ?_))))))
  have v8 : x8.toInt = (ks.length : Int) + 1 := by rw [e8, ti_add (by rw [a1, l1]; omega) (by rw [a1, l1]; omega), a1, l1]
  rw [ixn a1]
  refine pw_ck (fun _ => pw_eq (fun X11 e11 => ?_))
  refine pw_ck (fun _ => pw_eq (fun X13 e13 => ?_))
  refine pw_ck (fun _ => pw_eq (fun X15 e15 => ?_))
  refine pw_eq (fun x17 e17 => pw_eq (fun x18 e18 => pw_ck (fun _ => pw_eq (fun V eV => ?_))))
  have v17 : x17.toInt = (ks.length : Int) * 5 := by rw [e17, ti_mul (by rw [a1, l5]; omega) (by rw [a1, l5]; omega), a1, l5]
  have v18 : x18.toInt = ((5 * ks.length + 4 : Nat) : Int) := by rw [e18, ti_add (by rw [v17, l4]; omega) (by rw [v17, l4]; omega), v17, l4]; omega
  rw [ixn v18] at eV
  have V2 : V.2 = X.2 := by rw [eV, e15, e13, e11, e9]; rfl
  have Vo : ∀ e j, ¬ (e = 25 ∧ j = 0) → ¬ (e = 26 ∧ j = ks.length) → ¬ (e = 27 ∧ j = ks.length) → ¬ (e = 29 ∧ j = ks.length) → ¬ (e = 28 ∧ j = 5 * ks.length + 4) → V.1 e j = X.1 e j := fun e j q1 q2 q3 q4 q5 => by
    rw [eV, wI_ne _ _ _ _ _ _ (by omega), e15, wI_ne _ _ _ _ _ _ (by omega), e13, wI_ne _ _ _ _ _ _ (by omega), e11, wI_ne _ _ _ _ _ _ (by omega), e9, wI_ne _ _ _ _ _ _ (by omega)]
  have V0 : (V.1 25 0).toInt = (ks.length : Int) + 1 := by
    rw [eV, wI_ne _ _ _ _ _ _ (by omega), e15, wI_ne _ _ _ _ _ _ (by omega), e13, wI_ne _ _ _ _ _ _ (by omega), e11, wI_ne _ _ _ _ _ _ (by omega), e9, wI_at]
    exact v8
  have V1 : V.1 26 ks.length = p1 := by
    rw [eV, wI_ne _ _ _ _ _ _ (by omega), e15, wI_ne _ _ _ _ _ _ (by omega), e13, wI_ne _ _ _ _ _ _ (by omega), e11, wI_at]
  have V2b : V.1 27 ks.length = p2 := by
    rw [eV, wI_ne _ _ _ _ _ _ (by omega), e15, wI_ne _ _ _ _ _ _ (by omega), e13, wI_at]
  have V4 : V.1 29 ks.length = p6 := by
    rw [eV, wI_ne _ _ _ _ _ _ (by omega), e15, wI_at]
  have V3 : V.1 28 (5 * ks.length + 4) = p5 := by rw [eV, wI_at]
  have anyj : ∀ (j : Nat) (x : List Int), ks[j]? = some x → ((V.1 30 j).toInt = 0 ↔ ¬ (3 : Int) ∈ x) := fun j x hj => by
    have := (hE j x hj).1.1.2.2.2
    rw [Vo _ _ (by omega) (by omega) (by omega) (by omega) (by omega)]
    exact this
  have up : ∀ {j : Nat} {x : List Int}, ks[j]? = some x → (ks ++ [d])[j]? = some x := fun h => by
    rw [List.getElem?_append_left (List.getElem?_eq_some_iff.mp h).1]
    exact h
  have fin : ∀ b9 : Int32, (b9.toInt = 0 ∨ b9.toInt = 1) → (b9.toInt = 0 ↔ ¬ (sot d = 2 ∨ (3 ≤ sot d ∧ (3 : Int) ∈ gvs d))) → pw (hB_findOrAdd_167 p2 e3 p4 x1 (X.1 25 0) b9 V) (fun r Y => TKS 25 Y (ks ++ [d]) ∧ r.toInt = (ks.length : Int) ∧ Y.2 = X.2 ∧ ∀ e j, ¬ (25 ≤ e ∧ e ≤ 32) → Y.1 e j = X.1 e j) := by
    intro b9 g1 g2
    unfold hB_findOrAdd_167
    refine pw_mono (kb_fill (V := V) (pr := prm d) (c0 := sot d = 2 ∨ (3 ≤ sot d ∧ (3 : Int) ∈ gvs d)) a1 hl hn t4 hf bb V0 (fun i hi => ?_) BIG 0 b9 0 V (by decide) (Nat.zero_le _) rfl (fun _ _ _ => rfl) (fun j hj => absurd hj (Nat.not_lt_zero _)) g1 (g2.trans ⟨fun z y => y.elim z (fun ⟨j, y, _⟩ => absurd y (Nat.not_lt_zero _)), fun z y => z (Or.inl y)⟩)) ?_
    · obtain ⟨j, q1, q2⟩ := hp i hi
      refine ⟨j, (List.getElem?_eq_some_iff.mp q2).1, ?_, anyj j _ q2⟩
      have hf3 := (hf.resolve_left (by omega)).2.2
      rw [Vo _ _ (by omega) (by omega) (by omega) (by omega) (by omega)]
      exact q1
    rintro r Y ⟨er, z2, zo, zp, za, z7, z6⟩
    have hlen : (ks ++ [d]).length = ks.length + 1 := by rw [List.length_append]; rfl
    refine ⟨⟨⟨?_, by omega, ?_⟩, fun k x hkx => ?_, fun b hb => ?_, fun k hk => ?_⟩, by rw [er]; exact a1, z2.trans V2, fun e j q => ?_⟩
    · rw [zo _ _ (by omega) (by omega) (by omega) (by omega), V0, hlen]
      omega
    · intro i j x hi hj
      have new : ∀ i : Nat, (ks ++ [d])[i]? = some x → (i < ks.length ∧ ks[i]? = some x) ∨ (i = ks.length ∧ x = d) := fun i hi => by
        by_cases h : i < ks.length
        · rw [List.getElem?_append_left h] at hi
          exact Or.inl ⟨h, hi⟩
        · have h2 : i = ks.length := by
            have := (List.getElem?_eq_some_iff.mp hi).1
            omega
          rw [h2, List.getElem?_concat_length] at hi
          exact Or.inr ⟨h2, (Option.some.inj hi).symm⟩
      rcases new i hi with ⟨q1, q2⟩ | ⟨q1, q2⟩
      · rcases new j hj with ⟨q3, q4⟩ | ⟨q3, q4⟩
        · exact a3 i j x q2 q4
        · rw [q4] at q2
          exact absurd (List.mem_of_getElem? q2) hno
      · rcases new j hj with ⟨q3, q4⟩ | ⟨q3, q4⟩
        · rw [q2] at q4
          exact absurd (List.mem_of_getElem? q4) hno
        · omega
    · by_cases ek : k < ks.length
      · rw [List.getElem?_append_left ek] at hkx
        obtain ⟨g, mw, w⟩ := hE k x hkx
        refine ⟨(g.cg (tkn4 w) (fun e h1 h2 h3 => ?_) (fun i hi => ?_)).up, mw, w⟩
        · rw [zo _ _ (by omega) (by omega) (by omega) (by omega), Vo _ _ (by omega) (by omega) (by omega) (by omega) (by omega)]
        · rw [zo _ _ (by omega) (by omega) (by omega) (by omega), Vo _ _ (by omega) (by omega) (by omega) (by omega) (by omega)]
      · have ek2 : k = ks.length := by
          have := (List.getElem?_eq_some_iff.mp hkx).1
          omega
        rw [ek2, List.getElem?_concat_length] at hkx
        have ex := Option.some.inj hkx
        rw [← ex, ek2]
        refine ⟨⟨⟨?_, ?_, ?_, ?_⟩, ⟨fun q => ?_, fun q => ?_⟩, fun i hi => ?_⟩, m, hw⟩
        · rw [zo _ _ (by omega) (by omega) (by omega) (by omega), V1]; exact h1
        · rw [zo _ _ (by omega) (by omega) (by omega) (by omega), V2b]; exact hn
        · rw [zo _ _ (by omega) (by omega) (by omega) (by omega), V4]; exact h6
        · refine za.trans ?_
          rw [any_in hw]
          exact ⟨fun z y => z (by rcases y with y | y | y; exact Or.inl (Or.inl y); exact Or.inl (Or.inr y); exact Or.inr y), fun z y => z (by rcases y with (y | y) | y; exact Or.inl y; exact Or.inr (Or.inl y); exact Or.inr (Or.inr y))⟩
        · rw [zo _ _ (by omega) (by omega) (by omega) (by omega), V3]; exact hg.1 q
        · obtain ⟨j, q1, q2⟩ := hg.2 q
          refine ⟨j, (List.getElem?_eq_some_iff.mp q2).1, ?_, up q2⟩
          rw [zo _ _ (by omega) (by omega) (by omega) (by omega), V3]; exact q1
        · obtain ⟨j, q1, q2⟩ := hp i hi
          have hf3 := (hf.resolve_left (by omega)).2.2
          refine ⟨j, (List.getElem?_eq_some_iff.mp q2).1, ?_, up q2⟩
          rw [zp i hi, Vo _ _ (by omega) (by omega) (by omega) (by omega) (by omega)]
          exact q1
    · rw [hlen, lastB, List.getD_eq_getElem?_getD, List.getElem?_concat_length, lastB_ap _ _ _ _ (Nat.le_refl _)]
      show (Y.1 31 b).toInt = if bk d = b then (ks.length : Int) else _
      by_cases eb : bk d = b
      · rw [if_pos eb, ← eb]; exact z6
      · rw [if_neg eb, zo _ _ (by omega) (by omega) (by omega) (by omega), Vo _ _ (by omega) (by omega) (by omega) (by omega) (by omega)]
        exact hB b hb
    · by_cases ek : k < ks.length
      · rw [getD_ap _ ek, lastB_ap _ _ _ _ (by omega), zo _ _ (by omega) (by omega) (by omega) (by omega), Vo _ _ (by omega) (by omega) (by omega) (by omega) (by omega)]
        exact hN k ek
      · have ek2 : k = ks.length := by omega
        rw [ek2, List.getD_eq_getElem?_getD, List.getElem?_concat_length, lastB_ap _ _ _ _ (Nat.le_refl _)]
        show (Y.1 32 ks.length).toInt = lastB ks (bk d) ks.length
        rw [z7, Vo _ _ (by omega) (by omega) (by omega) (by omega) (by omega)]
        exact hB _ bl
    · rw [zo _ _ (by omega) (by omega) (by omega) (by omega), Vo _ _ (by omega) (by omega) (by omega) (by omega) (by omega)]
  refine pw_ite (fun c1 => ?_) (fun c1 => pw_ite (fun c2 => ?_) (fun c2 => ?_))
  · unfold hB_findOrAdd_162
    exact fin 1 (Or.inr l1) ⟨fun z => by omega, fun z => absurd (Or.inl (by omega)) z⟩
  · unfold hB_findOrAdd_166
    exact fin 0 (Or.inl l0) ⟨fun _ z => z.elim (fun z => by omega) (fun z => by omega), fun _ => l0⟩
  · obtain ⟨q, q1, q2⟩ := hg.2 (by omega)
    refine pw_bd (kb_hasAny (j := q) (c := (3 : Int) ∈ gvs d) (by rw [V0]; have := (List.getElem?_eq_some_iff.mp q2).1; omega) q1 (anyj q _ q2)) ?_
    rintro x39 X40 ⟨rfl, _, g2⟩
    refine pw_ite (fun c39 => ?_) (fun c39 => ?_)
    · unfold hB_findOrAdd_166
      exact fin 0 (Or.inl l0) ⟨fun _ z => z.elim (fun z => by omega) (fun z => g2.mp c39 z.2), fun _ => l0⟩
    · unfold hB_findOrAdd_162
      exact fin 1 (Or.inr l1) ⟨fun z => by omega, fun z => absurd (Or.inr ⟨by omega, Classical.byContradiction (fun y => c39 (g2.mpr y))⟩) z⟩
/-- what findOrAdd leaves: the kind is there, the old ones where they were -/
def kbQ (X : St) (ks : List (List Int)) (d : List Int) (r : Int32) (Y : St) : Prop := ∃ ks1, TKS 25 Y ks1 ∧ (ks1 = ks ∨ (¬ d ∈ ks ∧ ks1 = ks ++ [d])) ∧ (∃ j : Nat, r.toInt = (j : Int) ∧ ks1[j]? = some d) ∧ Y.2 = X.2 ∧ ∀ e j, ¬ (25 ≤ e ∧ e ≤ 32) → Y.1 e j = X.1 e j
theorem kb_findOrAddF {p1 p2 p4 p5 p6 : Int32} {f m : Nat} (hT : TKS 25 X ks) (hw : WKd m d) (h1 : p1.toInt = sot d) (hn : p2.toInt = (tkn d : Int)) (h6 : p6 = kco d) (hf : tkn d = 0 ∨ (p4.toInt = (f : Int) ∧ f ≤ 10000 ∧ ¬ (25 ≤ e3 ∧ e3 ≤ 32))) (hg : (sot d < 3 → p5.toInt = 2) ∧ (3 ≤ sot d → ∃ q : Nat, p5.toInt = (q : Int) ∧ ks[q]? = some (gvs d))) (hp : ∀ i, i < tkn d → ∃ j : Nat, (X.1 e3 (f + i)).toInt = (j : Int) ∧ ks[j]? = some (prm d i)) : pw (hB_findOrAdd p1 p2 e3 p4 p5 p6 X) (fun r Y => kbQ X ks d r Y ∨ (1549 ≤ ks.length ∧ r = 2 ∧ Y = X)) := by
  have lo1 : (Int32.ofInt 1).toInt = 1 := by decide
  have hB : ∀ b, b < 512 → (X.1 31 b).toInt = lastB ks b ks.length := hT.2.2.1
  have hN : ∀ k, k < ks.length → (X.1 32 k).toInt = lastB ks (bk (ks.getD k [])) k := hT.2.2.2
  have hll := hT.1.2.1
  unfold hB_findOrAdd
  refine pw_bd (kb_bucketOf p6) ?_
  rintro x1 X2 ⟨rfl, e1⟩
  rw [h6] at e1
  refine pw_ck (fun hxr => pw_let ?_)
  have bb : x1.toInt = ((bk d : Nat) : Int) := by
    have := ixc hxr.1
    rw [e1] at this ⊢
    exact this.symm
  have bl : bk d < 512 := by have := hxr.2; omega
  rw [ixn bb]
  have add : ¬ d ∈ ks → pw (hB_findOrAdd_77 p1 p2 e3 p4 p5 p6 x1 X2) (fun r Y => kbQ X2 ks d r Y ∨ (1549 ≤ ks.length ∧ r = 2 ∧ Y = X2)) := fun hno => by
    by_cases hl : ks.length < 1549
    · exact pw_mono (kb_add hT hw hno hl h1 hn h6 e1 hxr hf hg hp) (fun r Y ⟨g1, g2, g3, g4⟩ => Or.inl ⟨_, g1, Or.inr ⟨hno, rfl⟩, ⟨ks.length, g2, List.getElem?_concat_length⟩, g3, g4⟩)
    · have hc := hT.1.1
      unfold hB_findOrAdd_77
      exact pw_let (pw_neg (by omega) (pw_ret (Or.inr ⟨by omega, rfl, rfl⟩)))
  have loop : ∀ (M i n : Nat) (a8 a9 : Int32), a9.toInt = (i : Int) → i + n ≤ ks.length → a8.toInt = lastB ks (bk d) n → (∀ j, n ≤ j → j < ks.length → ¬ ks[j]? = some d) → pw (hB_findOrAdd_19 M p1 p2 e3 p4 p5 p6 x1 a8 a9 X2) (fun r Y => kbQ X2 ks d r Y ∨ (1549 ≤ ks.length ∧ r = 2 ∧ Y = X2)) := by
    intro M
    induction M with
    | zero => exact fun _ _ _ _ _ _ _ _ => pw_none
    | succ M ih =>
      intro i n a8 a9 h9 hin h8 hno
      have e : hB_findOrAdd_19 (M + 1) = hB_findOrAdd_19_s (hB_findOrAdd_19 M) := by
        unfold hB_findOrAdd_19
        exact lp_succ _ _ _
      rw [e]
      unfold hB_findOrAdd_19_s
      have nomem : (∀ j, j < n → ¬ bk (ks.getD j []) = bk d) → ¬ d ∈ ks := by
        intro h hm
        obtain ⟨j, hj⟩ := List.getElem?_of_mem hm
        have hjl := (List.getElem?_eq_some_iff.mp hj).1
        by_cases hjn : j < n
        · refine h j hjn ?_
          rw [List.getD_eq_getElem?_getD, hj]
          rfl
        · exact hno j (by omega) hjl hj
      refine pw_ite (fun c => ?_) (fun c => pw_ite (fun c8 => ?_) (fun c8 => ?_))
      · exact add (nomem (fun j hj => by omega))
      · rcases lastB_sp ks (bk d) n with ⟨_, g⟩ | ⟨k, g, _⟩
        · exact add (nomem g)
        · omega
      · rcases lastB_sp ks (bk d) n with ⟨g, _⟩ | ⟨k, g, hkn, hkb, hk2⟩
        · omega
        · have h8k : a8.toInt = (k : Int) := by omega
          obtain ⟨d1, hd1⟩ : ∃ d1, ks[k]? = some d1 := ⟨_, List.getElem?_eq_getElem (by omega)⟩
          have hgd : ks.getD k [] = d1 := by rw [List.getD_eq_getElem?_getD, hd1]; rfl
          obtain ⟨hE, m1, hw1⟩ := hT.2.1 k d1 hd1
          have hE1 : (X2.1 26 k).toInt = sot d1 := hE.1.1
          have nxt : ¬ d1 = d → pw (hB_findOrAdd_62 (hB_findOrAdd_19 M) p1 p2 e3 p4 p5 p6 x1 a8 a9 X2) (fun r Y => kbQ X2 ks d r Y ∨ (1549 ≤ ks.length ∧ r = 2 ∧ Y = X2)) := by
            intro hne
            unfold hB_findOrAdd_62
            refine pw_ck (fun _ => pw_let (pw_let ?_))
            rw [ixn h8k]
            refine ih (i + 1) k _ _ (by rw [ti_add (by rw [h9, lo1]; omega) (by rw [h9, lo1]; omega), h9, lo1]; omega) (by omega) ?_ (fun j h1 h2 => ?_)
            · rw [hN k (by omega), hkb]
            · by_cases ej : j = k
              · rw [ej, hd1]
                exact fun z => hne (Option.some.inj z)
              · by_cases hjn : j < n
                · intro z
                  refine hk2 j (by omega) hjn ?_
                  rw [List.getD_eq_getElem?_getD, z]
                  rfl
                · exact hno j (by omega) h2
          refine pw_ck (fun _ => pw_let ?_)
          rw [ixn h8k, hE1, h1]
          refine pw_ite (fun cs => ?_) (fun cs => nxt (fun z => cs (by rw [z])))
          refine pw_bd (kb_isSame hT h8k hd1 hw cs hn (hf.imp (fun z => z) (fun z => ⟨z.1, z.2.1⟩)) hg hp) ?_
          rintro x46 X47 ⟨rfl, g46⟩
          refine pw_ite (fun c46 => nxt (g46.mp c46)) (fun c46 => pw_ret ?_)
          have : d1 = d := Classical.byContradiction (fun z => c46 (g46.mpr z))
          exact Or.inl ⟨ks, hT, Or.inl rfl, ⟨k, h8k, by rw [← this]; exact hd1⟩, rfl, fun _ _ _ => rfl⟩
  exact loop BIG 0 ks.length _ 0 (by decide) (by omega) (hB _ bl) (fun j h1 h2 => by omega)
/-- a row of a kind that is there is well made -/
theorem kb_rowOfF {p : Int32} {j : Nat} (hT : TKS 25 X ks) (hj : p.toInt = (j : Int)) (hd : ks[j]? = some d) : pw (hB_rowOf p X) (fun r Y => kbQ X ks (4 :: d) r Y ∨ (1549 ≤ ks.length ∧ r = 2 ∧ Y = X)) := by
  obtain ⟨hE, m, hw⟩ := hT.2.1 j d hd
  have hE4 : X.1 29 j = kco d := hE.1.2.2.1
  have s3 : sot (4 :: d) = 3 := rfl
  have t3 : tkn (4 :: d) = 0 := by show ((4 : Int) - 5).toNat = 0; decide
  unfold hB_rowOf
  refine pw_bd (kb_codeOf hT.1.1 hj hd hE4) ?_
  rintro x1 X2 ⟨rfl, e1⟩
  refine pw_let (pw_eq (fun x4 e4 => ?_))
  refine pw_bd (kb_findOrAddF (f := 0) hT hw.row (by rw [s3]; decide) (by rw [t3]; decide) (by rw [e4, e1, kco_row hw]) (Or.inl t3) ⟨fun z => by rw [s3] at z; exact absurd z (by decide), fun _ => ⟨j, hj, by rw [gvs_row hw]; exact hd⟩⟩ (fun i hi => by rw [t3] at hi; exact absurd hi (Nat.not_lt_zero _))) (fun r Y h => pw_ret h)
theorem kb_functionOfF {p2 p3 p4 : Int32} {f q : Nat} {ds : List (List Int)} (hT : TKS 25 X ks) (h2 : p2.toInt = (f : Int)) (hf : f ≤ 10000) (h3 : p3.toInt = (ds.length : Int)) (hn4 : ds.length ≤ 4) (hz : (f : Int) + ds.length ≤ (zY YC_35 e3 : Nat) ∧ (zY YC_35 e3 : Nat) ≤ 100000) (he : ¬ (25 ≤ e3 ∧ e3 ≤ 32)) (hq : p4.toInt = (q : Int)) (hd : ks[q]? = some d) (hp : ∀ i x, ds[i]? = some x → ∃ j : Nat, (X.1 e3 (f + i)).toInt = (j : Int) ∧ ks[j]? = some x) : pw (hB_functionOf e3 p2 p3 p4 X) (fun r Y => kbQ X ks ((5 + (ds.length : Int)) :: (ds.flatten ++ d)) r Y ∨ (1549 ≤ ks.length ∧ r = 2 ∧ Y = X)) := by
  have l7 : (7 : Int32).toInt = 7 := by decide
  have lo1 : (Int32.ofInt 1).toInt = 1 := by decide
  obtain ⟨hE, m0, hw0⟩ := hT.2.1 q d hd
  have hE4 : ∀ (j : Nat) (x : List Int), ks[j]? = some x → X.1 29 j = kco x := fun j x hx => (hT.2.1 j x hx).1.1.2.2.1
  obtain ⟨m1, hall⟩ := WKd.all ds (fun x hx => by
    obtain ⟨i, hi⟩ := List.getElem?_of_mem hx
    obtain ⟨j, _, hj⟩ := hp i x hi
    exact (hT.2.1 j x hj).2)
  have hds : ∀ x ∈ ds, 1 ≤ max m0 m1 + 1 ∧ WKd (max m0 m1 + 1 - 1) x := fun x hx => ⟨by omega, (hall x hx).up (by omega)⟩
  have hw : WKd (max m0 m1 + 1) d := hw0.up (by omega)
  have W := WKd.fn hn4 hds hw
  unfold hB_functionOf
  refine pw_neg (by omega) (pw_neg (by omega) (pw_neg (by omega) (pw_eq (fun x1 e1 => pw_eq (fun x2 e2 => ?_)))))
  have v1 : x1.toInt = (zY YC_35 e3 : Nat) := by rw [e1]; exact Int32.toInt_ofNat_of_lt (by omega)
  have v2 : x2.toInt = (zY YC_35 e3 : Nat) - (ds.length : Int) := by rw [e2, ti_sub (by rw [v1, h3]; omega) (by rw [v1, h3]; omega), v1, h3]
  refine pw_pos (by omega) (pw_let ?_)
  have loop : ∀ (M i : Nat) (a5 a6 : Int32), a6.toInt = (i : Int) → i ≤ ds.length → a5 = ((ds.take i).map kco).foldl (fun v x => (31 : Int32) * v + x) ((7 : Int32) + Int32.ofInt (ds.length : Int)) → pw (hB_functionOf_32 M e3 p2 p3 p4 a5 a6 X) (fun r Y => kbQ X ks ((5 + (ds.length : Int)) :: (ds.flatten ++ d)) r Y ∨ (1549 ≤ ks.length ∧ r = 2 ∧ Y = X)) := by
    intro M
    induction M with
    | zero => exact fun _ _ _ _ _ _ => pw_none
    | succ M ih =>
      intro i a5 a6 h6 hi h5
      have e : hB_functionOf_32 (M + 1) = hB_functionOf_32_s (hB_functionOf_32 M) := by
        unfold hB_functionOf_32
        exact lp_succ _ _ _
      rw [e]
      unfold hB_functionOf_32_s
      refine pw_ite (fun c => ?_) (fun c => ?_)
      · have ei : i = ds.length := by omega
        rw [ei, List.take_length] at h5
        refine pw_let (pw_bd (kb_codeOf hT.1.1 hq hd (hE4 q d hd)) ?_)
        rintro x5 X6 ⟨rfl, e5⟩
        refine pw_eq (fun x7 e7 => ?_)
        refine pw_bd (kb_findOrAddF (f := f) hT W (by rw [sot_fn]; decide) (by rw [tkn_fn]; exact h3) ?_ (Or.inr ⟨h2, hf, he⟩) ⟨fun z => by rw [sot_fn] at z; exact absurd z (by decide), fun _ => ⟨q, hq, by rw [gvs_fn (WKd.hs hds) hw]; exact hd⟩⟩ (fun j hj => ?_)) (fun r Y h => pw_ret h)
        · rw [e7, e5, h5, kco_fn (WKd.hs hds) hw, List.foldl_append]
          rfl
        · rw [tkn_fn] at hj
          obtain ⟨j1, g1, g2⟩ := hp j _ (List.getElem?_eq_getElem hj)
          refine ⟨j1, g1, ?_⟩
          rw [prm_fn (WKd.hs hds) hw hj, List.getD_eq_getElem?_getD, List.getElem?_eq_getElem hj]
          exact g2
      · have hil : i < ds.length := by omega
        obtain ⟨j1, g1, g2⟩ := hp i _ (List.getElem?_eq_getElem hil)
        refine pw_let (pw_eq (fun x11 e11 => pw_ck (fun _ => pw_let ?_)))
        have v11 : x11.toInt = ((f + i : Nat) : Int) := by rw [e11, ti_add (by rw [h2, h6]; omega) (by rw [h2, h6]; omega), h2, h6]; omega
        rw [ixn v11]
        refine pw_bd (kb_codeOf hT.1.1 g1 g2 (hE4 _ _ g2)) ?_
        rintro x13 X14 ⟨rfl, e13⟩
        refine pw_eq (fun x15 e15 => pw_let (ih (i + 1) x15 _ (by rw [ti_add (by rw [h6, lo1]; omega) (by rw [h6, lo1]; omega), h6, lo1]; omega) (by omega) ?_))
        rw [List.take_succ, List.map_append, List.foldl_append, List.getElem?_eq_getElem hil, e15, e13, h5]
        rfl
  refine loop BIG 0 _ 0 (by decide) (Nat.zero_le _) ?_
  rw [List.take_zero]
  show (7 : Int32) + p3 = (7 : Int32) + Int32.ofInt (ds.length : Int)
  rw [← h3, Int32.ofInt_toInt]
theorem kb_rowOf {p : Int32} {j : Nat} (hT : TKS 25 X ks) (hl : ks.length < 1549) (hj : p.toInt = (j : Int)) (hd : ks[j]? = some d) : pw (hB_rowOf p X) (fun r Y => kbQ X ks (4 :: d) r Y) := pw_mono (kb_rowOfF hT hj hd) (fun _ _ h => h.resolve_right (fun z => by omega))
theorem kb_functionOf {p2 p3 p4 : Int32} {f q : Nat} {ds : List (List Int)} (hT : TKS 25 X ks) (hl : ks.length < 1549) (h2 : p2.toInt = (f : Int)) (hf : f ≤ 10000) (h3 : p3.toInt = (ds.length : Int)) (hn4 : ds.length ≤ 4) (hz : (f : Int) + ds.length ≤ (zY YC_35 e3 : Nat) ∧ (zY YC_35 e3 : Nat) ≤ 100000) (he : ¬ (25 ≤ e3 ∧ e3 ≤ 32)) (hq : p4.toInt = (q : Int)) (hd : ks[q]? = some d) (hp : ∀ i x, ds[i]? = some x → ∃ j : Nat, (X.1 e3 (f + i)).toInt = (j : Int) ∧ ks[j]? = some x) : pw (hB_functionOf e3 p2 p3 p4 X) (fun r Y => kbQ X ks ((5 + (ds.length : Int)) :: (ds.flatten ++ d)) r Y) := pw_mono (kb_functionOfF hT h2 hf h3 hn4 hz he hq hd hp) (fun _ _ h => h.resolve_right (fun z => by omega))
end CKTB
