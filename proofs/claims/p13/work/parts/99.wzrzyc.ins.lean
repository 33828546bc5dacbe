/-! an instruction within a part, on both sides -/
/-- names of the innermost call -/
def NMS (X Y : St) (r : Nat → Int32) (c nn : Nat) : Prop := ∀ s, s < nn → VR X r (X.1 62 (45 * c + s)) (X.1 63 (45 * c + s)) (Y.2.1 83 (44 * c + s))
/-- what an instruction leaves of the class: what lies below stays -/
def CFi (Y Y1 : St) (sb c : Nat) : Prop := Y1.2.2 = Y.2.2 ∧ (∀ j k, ¬ (j = 70 ∧ ((4 ≤ k ∧ k ≤ 7) ∨ k = 9 ∨ k = 10 ∨ k = 15 ∨ k = 18)) → ¬ (71 ≤ j ∧ j ≤ 73) → ¬ (76 ≤ j ∧ j ≤ 81) → ¬ (85 ≤ j ∧ j ≤ 87) → Y1.1 j k = Y.1 j k) ∧ ∀ j k, ¬ j = 74 → ¬ j = 75 → ¬ (j = 83 ∧ 44 * c ≤ k) → ¬ (j = 84 ∧ sb + c + 1 ≤ k) → Y1.2.1 j k = Y.2.1 j k
def OPQ (X Y : St) (r : Nat → Int32) (ks : List (List Int)) (sb c tp nn : Nat) (X1 Y1 : St) : Prop := CFi Y Y1 sb c ∧ (KJq X1 ∧ KU X1 ∧ KXq X X1) ∧ SCr X1 Y1 ∧ (OFr X1 Y1 ∨ (ONr X1 Y1 ∧ ∃ r1, HG X X1 r r1 ∧ HR X1 Y1 r1 ks ∧ STK X1 Y1 r1 sb c tp ∧ NMS X1 Y1 r1 c nn))
/-- what both sides hold before an instruction -/
def INS (e : Nat) (X Y : St) (r : Nat → Int32) (ks : List (List Int)) (sb c tp nn : Nat) : Prop := RBk e X Y ks ∧ SCr X Y ∧ ONr X Y ∧ HR X Y r ks ∧ STK X Y r sb c tp ∧ NMS X Y r c nn
section INSS
variable {X Y Z X1 Y1 X2 Y2 V V1 : St} {r r1 r2 : Nat → Int32} {s w k a b p p1 p2 v pl o1 n1 x : Int32} {y y1 : Int64} {ks : List (List Int)} {e c m n i j sb tp t0 nn nn1 o : Nat}
theorem CFi.rf : CFi Y Y sb c := ⟨rfl, fun _ _ _ _ _ _ => rfl, fun _ _ _ _ _ _ => rfl⟩
theorem NMS.cg (h : NMS X Y r c nn) (hg : HG X X1 r r1) (hn : nn1 ≤ nn) (hx : ∀ s, s < nn → X1.1 62 (45 * c + s) = X.1 62 (45 * c + s) ∧ X1.1 63 (45 * c + s) = X.1 63 (45 * c + s)) (hy : ∀ s, s < nn → Y1.2.1 83 (44 * c + s) = Y.2.1 83 (44 * c + s)) : NMS X1 Y1 r1 c nn1 := by
  intro s hs
  rw [(hx s (by omega)).1, (hx s (by omega)).2, hy s (by omega)]
  exact (h s (by omega)).up hg
/-- m values are taken off the stack -/
theorem STK.pop (h : STK X Y r sb c (t0 + m)) (hg : HG X X1 r r1) (hm : sb ≤ t0) (h31 : (X1.1 0 31).toInt = (t0 : Int)) (h15 : (Y1.1 70 15).toInt = ((t0 + c + 1 : Nat) : Int)) (hx : ∀ i, i < t0 → X1.1 60 i = X.1 60 i ∧ X1.1 61 i = X.1 61 i) (hy : ∀ i, i < t0 + c + 1 → Y1.2.1 84 i = Y.2.1 84 i) : STK X1 Y1 r1 sb c t0 := by
  refine ⟨h31, h15, hm, fun i i1 i2 => ?_⟩
  rw [(hx i i2).1, (hx i i2).2, hy _ (by omega)]
  exact (h.2.2.2 i i1 (by omega)).up hg
/-- m values are taken off, one is put on -/
theorem STK.rep (h : STK X Y r sb c (t0 + m)) (hg : HG X X1 r r1) (hm : sb ≤ t0) (h31 : (X1.1 0 31).toInt = ((t0 + 1 : Nat) : Int)) (h15 : (Y1.1 70 15).toInt = ((t0 + 1 + c + 1 : Nat) : Int)) (hx : ∀ i, i < t0 → X1.1 60 i = X.1 60 i ∧ X1.1 61 i = X.1 61 i) (hy : ∀ i, i < t0 + c + 1 → Y1.2.1 84 i = Y.2.1 84 i) (hv : VR X1 r1 (X1.1 60 t0) (X1.1 61 t0) (Y1.2.1 84 (t0 + c + 1))) : STK X1 Y1 r1 sb c (t0 + 1) := by
  refine ⟨h31, h15, by omega, fun i i1 i2 => ?_⟩
  by_cases q : i = t0
  · rw [q]
    exact hv
  · rw [(hx i (by omega)).1, (hx i (by omega)).2, hy _ (by omega)]
    exact (h.2.2.2 i i1 (by omega)).up hg
/-- an instruction that leaves the heap -/
theorem OPQ.pure (h : INS e X Y r ks sb c tp nn) (hx : ∀ e k, ¬ (e = 0 ∧ (k = 31 ∨ k = 40 ∨ k = 46)) → ¬ (60 ≤ e ∧ e ≤ 63) → ¬ e = 79 → X1.1 e k = X.1 e k) (hy : ∀ j k, ¬ (j = 70 ∧ (k = 9 ∨ k = 10 ∨ k = 15 ∨ k = 18)) → ¬ j = 86 → Y1.1 j k = Y.1 j k) (hy3 : Y1.2.2 = Y.2.2) (hyl : ∀ j k, ¬ (j = 83 ∧ 44 * c ≤ k) → ¬ (j = 84 ∧ sb + c + 1 ≤ k) → Y1.2.1 j k = Y.2.1 j k) (hS : SCr X1 Y1) {tp1 : Nat} (hK : STK X1 Y1 r sb c tp1) (hN : NMS X1 Y1 r c nn1) : OPQ X Y r ks sb c tp1 nn1 X1 Y1 := by
  obtain ⟨hB, _, hO, hH, _, _⟩ := h
  have hX : HXc X X1 := ⟨fun k q => hx 0 k (by omega) (by omega) (by omega), fun e k q => hx e k (by omega) (by omega) (by omega)⟩
  have hK' : KXq X X1 := KXq.of (fun e k q => hx e k (by omega) (by omega) (by omega))
  exact ⟨⟨hy3, fun j k q1 _ _ q4 => hy j k (by omega) (by omega), fun j k _ _ q3 q4 => hyl j k q3 q4⟩, ⟨hB.2.1.1.cg (fun e k q => hx e k (by omega) (by omega) (by omega)), (KGq.of (fun e k q => hx e k (by omega) (by omega) (by omega))).2 hB.2.1.2, hK'⟩, hS, Or.inr ⟨hO.cg (hx 0 43 (by omega) (by omega) (by omega)) (hx 0 44 (by omega) (by omega) (by omega)) (fun k _ => hy 70 k (by omega) (by omega)), r, HG.of hX, hH.cg hB.2.1.1 hK' hX ⟨fun e k q => hy e k (by omega) (by omega), fun e k q => hyl e k (by omega) (by omega)⟩, hK, hN⟩⟩
/-- .. and counts nothing -/
theorem OPQ.pure0 (h : INS e X Y r ks sb c tp nn) (hx : ∀ e k, ¬ (e = 0 ∧ k = 31) → ¬ (60 ≤ e ∧ e ≤ 63) → X1.1 e k = X.1 e k) (hy : ∀ j k, ¬ (j = 70 ∧ (k = 10 ∨ k = 15)) → Y1.1 j k = Y.1 j k) (hy3 : Y1.2.2 = Y.2.2) (hyl : ∀ j k, ¬ (j = 83 ∧ 44 * c ≤ k) → ¬ (j = 84 ∧ sb + c + 1 ≤ k) → Y1.2.1 j k = Y.2.1 j k) {tp1 : Nat} (hK : STK X1 Y1 r sb c tp1) (hN : NMS X1 Y1 r c nn1) : OPQ X Y r ks sb c tp1 nn1 X1 Y1 := h.2.1 |> fun hS => OPQ.pure h (fun e k q1 q2 _ => hx e k (by omega) q2) (fun j k q _ => hy j k (by omega)) hy3 hyl (hS.cg ⟨fun k q => hx 0 k (by omega) (by omega), fun k => hx 79 k (by omega) (by omega), fun k => hx 80 k (by omega) (by omega)⟩ ⟨fun k q => hy 70 k (by omega), fun k q => hy 71 k (by omega), fun k => hy 86 k (by omega), fun k => hy 87 k (by omega)⟩) hK hN
/-- it fails on both sides -/
theorem OPQ.off {tp1 : Nat} (hB : RBk e X Y ks) (hx : ∀ e k, ¬ (e = 0 ∧ (k = 31 ∨ k = 40 ∨ k = 43 ∨ k = 44)) → ¬ (60 ≤ e ∧ e ≤ 63) → X1.1 e k = X.1 e k) (hC : CFi Y Y1 sb c) (hS : SCr X1 Y1) (hO : OFr X1 Y1) : OPQ X Y r ks sb c tp1 nn1 X1 Y1 := ⟨hC, ⟨hB.2.1.1.cg (fun e k q => hx e k (by omega) (by omega)), (KGq.of (fun e k q => hx e k (by omega) (by omega))).2 hB.2.1.2, KXq.of (fun e k q => hx e k (by omega) (by omega))⟩, hS, Or.inl hO⟩
theorem VR.int (h : VR X r s w y) (hs : s.toInt = 0) : y = VLs 0 w := by
  have z : s = 0 := Int32.toInt_inj.mp hs
  rcases h with ⟨_, h⟩ | ⟨q, _⟩ | ⟨q, _⟩
  · rw [h, z]
  · omega
  · omega
theorem VR.flag (h : VR X r s w y) (hs : s.toInt = 1) : y = VLs 1 w ∧ (w.toInt = 0 ∨ w.toInt = 1) := by
  have z : s = 1 := Int32.toInt_inj.mp hs
  rcases h with ⟨⟨_, _, g⟩, h⟩ | ⟨q, _⟩ | ⟨q, _⟩
  · exact ⟨by rw [h, z], g hs⟩
  · omega
  · omega
theorem VR.num (w : Int32) : VR X r 0 w (VLs 0 w) := Or.inl ⟨⟨by decide, by decide, fun q => absurd q (by decide)⟩, rfl⟩
theorem VR.tru (h : w.toInt = 0 ∨ w.toInt = 1) : VR X r 1 w (VLs 1 w) := Or.inl ⟨⟨by decide, by decide, fun _ => h⟩, rfl⟩
theorem VR.con (h : VR X r s w y) (hs : s.toInt = 0 ∨ s.toInt = 1) : y.toInt32 = w := by
  rcases hs with q | q
  · rw [h.int q, vl_con]
  · rw [(h.flag q).1, vl_con]
/-- a value is taken off, its content -/
theorem l_popC (h : (Y.1 70 15).toInt = (n : Int) + 1) : pw (g_Running_popContent Y) (fun z Y1 => Y1 = wI Y 70 15 (Y.1 70 15 - 1) ∧ z = (Y.2.1 84 n).toInt32) := by
  unfold g_Running_popContent
  refine pw_bd (l_rpop h) ?_
  rintro y1 X2 ⟨e2, e1⟩
  unfold g_Heap_contentOf
  exact pw_bd (pw_let (pw_ret ⟨rfl, rfl⟩) : pw _ (fun z V => V = X2 ∧ z = y1.toInt32)) (fun x3 X4 q => pw_ret ⟨by rw [q.1, e2], by rw [q.2, e1]⟩)
theorem top_dec (h : (Y.1 70 15).toInt = (n : Int) + 1) : (Y.1 70 15 - 1).toInt = (n : Int) := by
  have l1 : (1 : Int32).toInt = 1 := by decide
  have := (Y.1 70 15).toInt_lt
  rw [ti_sub (by rw [h, l1]; omega) (by rw [h, l1]; omega), h, l1]
  omega
end INSS
