/-! what a call leaves, between calls -/
section RKO
variable {XC XR X X1 : St} {p1 : Int32}
theorem PJo10.rk (h : PJo10 XC XR) (hM : JM XR) (p : JM X1) (r7 : R7k XR X1) (r8 : R8k XR X1) (g : KVa True XR → 0 ≤ (XR.1 0 13).toInt → ¬ (XR.1 0 4).toInt = 0 → KT X1 → R10 XR X1) : RK10 XR X1 := by
  obtain ⟨e, f, he, ⟨_, _, d⟩⟩ := h
  refine ⟨r8.1, fun z => ?_⟩
  rcases d with ⟨_, _, _, d4, _⟩ | ⟨d1, d2, ch, n, ps, c, told, d3, d4, d5, d6, d7, _⟩
  · exact absurd d4 z
  · exact g d7 (hM.2.1 d2).1.2.2.2.1.1 z (p.2.1 (by rw [r7.1.1 0 3 (by omega)]; exact d2)).1.2.2.2.1
theorem PJo10.run (h : PJo10 XC XR) (hM : JM XR) : pw (f_run p1 XR) (fun z Z1 => pw (g_Court_run p1 XC) (fun z1 V1 => z1 = z ∧ RNQ XR XC z Z1 V1)) := by
  obtain ⟨e, f, he, hG⟩ := h
  exact hG.run he hM
theorem one_run {a b : Int32} {Y Y1 : St} {Q : Int32 → St → St → Prop} (hN : pw (f_run p1 XR) (fun z Z1 => pw (g_Court_run p1 XC) (fun z1 V1 => z1 = z ∧ Q z Z1 V1))) (ha : g_Court_run p1 XC = some (a, Y)) (hb : f_run p1 XR = some (b, Y1)) : a = b ∧ Q b Y1 Y := hN b Y1 hb a Y ha
end RKO
