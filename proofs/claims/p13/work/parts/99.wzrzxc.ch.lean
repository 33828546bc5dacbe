/-! a row more; chains of wrappings -/
/-- in the class: what is around what -/
def CCH (Y : St) (yc : Nat → Int64) (q : Nat → Int32) (d : Nat) : Prop := d ≤ 20 ∧ (∀ i, i < d → yc i = VLs 2 (q i) ∧ (0 ≤ (q i).toInt ∧ (q i).toInt < (Y.1 71 2).toInt) ∧ Y.2.1 75 (ix (q i)) = yc (i + 1)) ∧ ∃ s c, yc d = VLs s c ∧ ¬ s.toInt = 2
/-- what the class's y is that stands for the function w -/
def fvl (r : Nat → Int32) (w : Int32) : Int64 := if w.toInt < 100 then VLs 4 w else VLs 2 (r (ix w - 100))
/-- functions: what is around what -/
def FCH (X : St) (f : Nat → Int32) (d : Nat) : Prop := (∀ i, i < d → 100 ≤ (f i).toInt ∧ FV X (f i) ∧ f (i + 1) = X.1 67 (ix (f i) - 100)) ∧ 0 ≤ (f d).toInt ∧ (f d).toInt < 100
section CHS
variable {X Y Z X1 Y1 X2 Y2 : St} {r r1 r2 : Nat → Int32} {s w k a : Int32} {y : Int64} {ks : List (List Int)} {e d d1 t m n : Nat} {yc : Nat → Int64} {q f : Nat → Int32}
/-- one row more -/
theorem HR.row (h : HR X Y r ks) (hJ : KJq X) (g : KXq X X1) (hn : (n : Int) = (X.1 0 33).toInt) (hn1 : n < 1000) (hx0 : (X1.1 0 33).toInt = (X.1 0 33).toInt + 1 ∧ (X.1 0 34).toInt ≤ (X1.1 0 34).toInt ∧ (X1.1 0 34).toInt ≤ 4000 ∧ (X1.1 0 35).toInt = (X.1 0 35).toInt + 1 ∧ X1.1 0 36 = X.1 0 36) (hx1 : ∀ e k, 64 ≤ e ∧ e ≤ 73 → ¬ k = n → X1.1 e k = X.1 e k) (hx2 : ∀ k : Nat, (k : Int) < (X.1 0 34).toInt → X1.1 74 k = X.1 74 k ∧ X1.1 75 k = X.1 75 k) (hw : ¬ wrp X1 n) (h65 : X1.1 65 n = X.1 0 34) (h66 : 0 ≤ (X1.1 66 n).toInt ∧ (X.1 0 34).toInt + (X1.1 66 n).toInt = (X1.1 0 34).toInt) (hy0 : Y1.1 71 0 = X1.1 0 35 ∧ Y1.1 71 1 = X1.1 0 34 ∧ Y1.1 71 2 = Y.1 71 2) (hy1 : ∀ e k, 72 ≤ e ∧ e ≤ 73 → ¬ k = ix (X.1 0 35) → Y1.1 e k = Y.1 e k) (hy2 : ∀ e k, 76 ≤ e ∧ e ≤ 81 → Y1.1 e k = Y.1 e k) (hy3 : ∀ k : Nat, (k : Int) < (X.1 0 34).toInt → Y1.2.1 74 k = Y.2.1 74 k) (hy4 : ∀ k, Y1.2.1 75 k = Y.2.1 75 k) (h72 : Y1.1 72 (ix (X.1 0 35)) = X.1 0 34) (h73 : Y1.1 73 (ix (X.1 0 35)) = X1.1 66 n) (hc : ∀ k : Nat, (X.1 0 34).toInt ≤ (k : Int) → (k : Int) < (X1.1 0 34).toInt → VR X1 (fun t => if t = n then X.1 0 35 else r t) (X1.1 74 k) (X1.1 75 k) (Y1.2.1 74 k)) : HR X1 Y1 (fun t => if t = n then X.1 0 35 else r t) ks ∧ HG X X1 r (fun t => if t = n then X.1 0 35 else r t) := by
  obtain ⟨⟨⟨a1, a2, a3, a4, a5, a6⟩, a7, a8, a9⟩, b, c⟩ := h
  have hg : HG X X1 r (fun t => if t = n then X.1 0 35 else r t) := ⟨by omega, fun t ht => ⟨hx1 64 t (by omega) (by omega), if_neg (by omega)⟩⟩
  refine ⟨⟨⟨⟨by omega, by rw [hx0.2.2.2.2]; exact a2, by rw [hx0.2.2.2.2]; omega, by omega, by omega, by omega⟩, hy0.1, hy0.2.1, by rw [hy0.2.2, hx0.2.2.2.2]; exact a9⟩, fun t ht => ?_, fun i hi => ?_⟩, hg⟩
  · by_cases e : t = n
    · rw [e]
      refine ⟨fun _ => ?_, fun z => absurd z hw⟩
      show (0 ≤ (if n = n then X.1 0 35 else r n).toInt ∧ (if n = n then X.1 0 35 else r n).toInt < _) ∧ (Y1.1 72 (ix (if n = n then X.1 0 35 else r n)) = _ ∧ Y1.1 73 (ix (if n = n then X.1 0 35 else r n)) = _) ∧ _
      rw [if_pos rfl, h72, h73, h65]
      exact ⟨by omega, ⟨rfl, rfl⟩, a5, h66.1, by omega⟩
    · obtain ⟨p, q⟩ := b t (by omega)
      unfold THr wrp
      show (_ → (0 ≤ (if t = n then X.1 0 35 else r t).toInt ∧ (if t = n then X.1 0 35 else r t).toInt < _) ∧ (Y1.1 72 (ix (if t = n then X.1 0 35 else r t)) = _ ∧ Y1.1 73 (ix (if t = n then X.1 0 35 else r t)) = _) ∧ _) ∧ (_ → (0 ≤ (if t = n then X.1 0 35 else r t).toInt ∧ (if t = n then X.1 0 35 else r t).toInt < _) ∧ WRr X1 Y1 _ ks t (ix (if t = n then X.1 0 35 else r t)))
      rw [if_neg e, hx1 64 t (by omega) e, hx1 65 t (by omega) e, hx1 66 t (by omega) e, hx0.2.2.2.2]
      refine ⟨fun z => ?_, fun z => ?_⟩
      · obtain ⟨p1, ⟨p2, p3⟩, p4, p5, p6⟩ := p z
        have hm : ¬ ix (r t) = ix (X.1 0 35) := by
          have e1 := ixc p1.1
          have e2 := ixc a1
          omega
        rw [hy1 72 _ (by omega) hm, hy1 73 _ (by omega) hm]
        exact ⟨⟨p1.1, by omega⟩, ⟨p2, p3⟩, p4, p5, by omega⟩
      · obtain ⟨q1, q2⟩ := q z
        exact ⟨q1, q2.up hJ g hg (fun e he => hx1 e t (by omega) (by omega)) (fun e he => hy2 e _ he) (hy4 _)⟩
  · by_cases z : (i : Int) < (X.1 0 34).toInt
    · rw [(hx2 i z).1, (hx2 i z).2, hy3 i z]
      exact (c i z).up hg
    · exact hc i (by omega) hi
/-- the class's chains: the innermost -/
theorem l_core (h : CCH Y yc q d) : pw (g_Heap_core (yc 0) Y) (fun z Y1 => Y1 = Y ∧ z = yc d) := by
  have lo1 : (Int32.ofInt 1).toInt = 1 := by decide
  have l20 : (20 : Int32).toInt = 20 := by decide
  obtain ⟨hd, hc, s, c, h1, h2⟩ := h
  have wr : ∀ i, i ≤ d → pw (g_Heap_wrappingOf (yc i) Y) (fun x Y1 => Y1 = Y ∧ ((i < d ∧ x = q i) ∨ (i = d ∧ x = -1))) := by
    intro i hi
    by_cases e : i = d
    · rw [e, h1]
      exact pw_mono (l_wrapOfN h2) (fun x Y1 g => ⟨g.1, Or.inr ⟨rfl, g.2⟩⟩)
    · obtain ⟨g1, g2, g3⟩ := hc i (by omega)
      rw [g1]
      exact pw_mono (l_wrapOf2 g2) (fun x Y1 g => ⟨g.1, Or.inl ⟨by omega, g.2⟩⟩)
  have loop : ∀ (M i : Nat) (x a6 : Int32), i ≤ d → a6.toInt = (i : Int) → ((i < d ∧ x = q i) ∨ (i = d ∧ x = -1)) → pw (g_Heap_core_12 M (yc i) x a6 Y) (fun z Y1 => Y1 = Y ∧ z = yc d) := by
    intro M
    induction M with
    | zero => exact fun _ _ _ _ _ _ => pw_none
    | succ M ih =>
      intro i x a6 hi ha hx
      have e : g_Heap_core_12 (M + 1) = g_Heap_core_12_s (g_Heap_core_12 M) := by
        unfold g_Heap_core_12
        exact lp_succ _ _ _
      rw [e]
      unfold g_Heap_core_12_s
      rcases hx with ⟨hl, hx⟩ | ⟨hl, hx⟩
      · obtain ⟨g1, g2, g3⟩ := hc i hl
        refine pw_neg (by omega) (pw_neg (by rw [hx]; omega) (pw_ck (fun _ => ?_)))
        rw [hx]
        refine pw_to g3 (pw_bd (wr (i + 1) (by omega)) ?_)
        rintro x4 X5 ⟨e5, hx4⟩
        rw [e5]
        refine pw_eq (fun x6 e6 => ih (i + 1) x4 x6 (by omega) ?_ hx4)
        rw [e6, ti_add (by rw [ha, lo1]; omega) (by rw [ha, lo1]; omega), ha, lo1]
        omega
      · rw [hl]
        refine pw_ite (fun _ => pw_ret ⟨rfl, rfl⟩) (fun _ => pw_pos (by rw [hx]; decide) (pw_ret ⟨rfl, rfl⟩))
  unfold g_Heap_core
  refine pw_bd (wr 0 (Nat.zero_le _)) ?_
  rintro x Y1 ⟨e1, hx⟩
  rw [e1]
  exact loop BIG 0 x 0 (Nat.zero_le _) (by decide) hx
/-- the class's chains, listed -/
theorem l_unwrap (h : CCH Y yc q d) : pw (g_Running_unwrap (yc 0) Y) (fun z Y1 => z.toInt = (d : Int) ∧ (∀ i, i < d → Y1.1 85 i = q i) ∧ (∀ j k, ¬ j = 85 → Y1.1 j k = Y.1 j k) ∧ Y1.2 = Y.2) := by
  have lo1 : (Int32.ofInt 1).toInt = 1 := by decide
  have l1 : (1 : Int32).toInt = 1 := by decide
  have l20 : (20 : Int32).toInt = 20 := by decide
  obtain ⟨hd, hc, s, c, h1, h2⟩ := h
  have wr : ∀ (V : St) i, i ≤ d → V.1 71 2 = Y.1 71 2 → pw (g_Heap_wrappingOf (yc i) V) (fun x Y1 => Y1 = V ∧ ((i < d ∧ x = q i) ∨ (i = d ∧ x = -1))) := by
    intro V i hi h71
    by_cases e : i = d
    · rw [e, h1]
      exact pw_mono (l_wrapOfN h2) (fun x Y1 g => ⟨g.1, Or.inr ⟨rfl, g.2⟩⟩)
    · obtain ⟨g1, g2, g3⟩ := hc i (by omega)
      rw [g1]
      exact pw_mono (l_wrapOf2 (by rw [h71]; exact g2)) (fun x Y1 g => ⟨g.1, Or.inl ⟨by omega, g.2⟩⟩)
  have loop : ∀ (M i : Nat) (a3 x a6 : Int32) (V : St), i ≤ d → a3.toInt = (i : Int) → a6.toInt = (i : Int) → ((i < d ∧ x = q i) ∨ (i = d ∧ x = -1)) → ((∀ j, j < i → V.1 85 j = q j) ∧ (∀ j k, ¬ j = 85 → V.1 j k = Y.1 j k) ∧ V.2 = Y.2) → pw (g_Running_unwrap_15 M a3 x a6 V) (fun z Y1 => z.toInt = (d : Int) ∧ (∀ i, i < d → Y1.1 85 i = q i) ∧ (∀ j k, ¬ j = 85 → Y1.1 j k = Y.1 j k) ∧ Y1.2 = Y.2) := by
    intro M
    induction M with
    | zero => exact fun _ _ _ _ _ _ _ _ _ _ => pw_none
    | succ M ih =>
      intro i a3 x a6 V hi h3 ha hx hV
      have e : g_Running_unwrap_15 (M + 1) = g_Running_unwrap_15_s (g_Running_unwrap_15 M) := by
        unfold g_Running_unwrap_15
        exact lp_succ _ _ _
      rw [e]
      unfold g_Running_unwrap_15_s
      rcases hx with ⟨hl, hx⟩ | ⟨hl, hx⟩
      · obtain ⟨g1, g2, g3⟩ := hc i hl
        have i6 : ix a6 = i := ixn ha
        refine pw_neg (by omega) (pw_neg (by rw [hx]; omega) (pw_ck (fun _ => pw_eq (fun X3 e3 => ?_))))
        rw [i6] at e3
        have r3 : ∀ j k, ¬ (j = 85 ∧ k = i) → X3.1 j k = V.1 j k := fun j k z => by rw [e3, wI_ne _ _ _ _ _ _ z]
        have s3 : X3.2 = Y.2 := by rw [e3]; exact hV.2.2
        refine pw_eq (fun x4 e4 => pw_ck (fun _ => ?_))
        rw [hx]
        refine pw_to (show X3.2.1 75 (ix (q i)) = yc (i + 1) by rw [s3]; exact g3) (pw_bd (wr X3 (i + 1) (by omega) (by rw [r3 71 2 (by omega)]; exact hV.2.1 71 2 (by omega))) ?_)
        rintro x6 X7 ⟨e7, hx6⟩
        rw [e7]
        refine pw_eq (fun x8 e8 => ih (i + 1) x4 x6 x8 X3 (by omega) ?_ ?_ hx6 ⟨fun j hj => ?_, fun j k z => ?_, s3⟩)
        · rw [e4, ti_add (by rw [h3, lo1]; omega) (by rw [h3, lo1]; omega), h3, lo1]
          omega
        · rw [e8, ti_add (by rw [ha, lo1]; omega) (by rw [ha, lo1]; omega), ha, lo1]
          omega
        · by_cases z : j = i
          · rw [z, e3, wI_at]
            exact hx
          · rw [r3 85 j (by omega)]
            exact hV.1 j (by omega)
        · rw [r3 j k (by omega)]
          exact hV.2.1 j k z
      · have fin : a3.toInt = (d : Int) ∧ (∀ i, i < d → V.1 85 i = q i) ∧ (∀ j k, ¬ j = 85 → V.1 j k = Y.1 j k) ∧ V.2 = Y.2 := ⟨by omega, fun j hj => hV.1 j (by omega), hV.2⟩
        exact pw_ite (fun _ => pw_ret fin) (fun _ => pw_pos (by rw [hx]; decide) (pw_ret fin))
  unfold g_Running_unwrap
  refine pw_bd (wr Y 0 (Nat.zero_le _) rfl) ?_
  rintro x Y1 ⟨e1, hx⟩
  rw [e1]
  exact loop BIG 0 0 x 0 Y (Nat.zero_le _) (by decide) (by decide) hx ⟨fun j hj => absurd hj (Nat.not_lt_zero _), fun _ _ _ => rfl, rfl⟩
end CHS
