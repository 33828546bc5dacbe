/-! frames by their kinds -/
theorem FR.at0 {X : St} {j lo cu : Nat} {s0 n0 l0 t0 sc nc lv mm : Int} (h : FR X j lo s0 n0 l0 t0 cu sc nc lv mm) (hf : (X.1 35 j).toInt = 0) : j = 0 ∧ cu = lo ∧ sc = s0 ∧ nc = n0 ∧ lv = 0 := by
  rcases h with h | ⟨a, b, c, d, e, h⟩
  · exact h.2
  · rcases h with ⟨p1, p2, p3, p4, p5, h⟩ | ⟨p1, p2, p3, h⟩ | ⟨p1, p2, p3, p4, p5, p6, p7, p8, p9, p10⟩
    · rcases h with h | ⟨p, q, r, s, t, u, v⟩ | h | ⟨p, q, r, s⟩ | ⟨p, q, ⟨m, r, s⟩, t⟩ <;> omega
    · omega
    · omega
theorem FR.at1 {X : St} {j lo cu : Nat} {s0 n0 l0 t0 sc nc lv mm : Int} (h : FR X j lo s0 n0 l0 t0 cu sc nc lv mm) (hf : (X.1 35 j).toInt = 1) : 1 ≤ j ∧ 0 ≤ (X.1 36 j).toInt ∧ lo ≤ ix (X.1 36 j) ∧ ix (X.1 36 j) < cu ∧ (j : Int) ≤ 4 * nc + lv ∧ (X.1 28 (ix (X.1 36 j))).toInt < 0 ∧ nc = n0 + 1 ∧ lv = 0 ∧ ¬ t0 = 15 ∧ ¬ t0 = 16 ∧ ix (X.1 36 j) = lo ∧ (X.1 20 (ix (X.1 36 j))).toInt = 17 ∧ cu = lo + 1 ∧ sc = s0 := by
  rcases h with h | ⟨a, b, c, d, e, h⟩
  · omega
  · rcases h with ⟨p1, p2, p3, p4, p5, h⟩ | ⟨p1, p2, p3, h⟩ | ⟨p1, p2, p3, p4, p5, p6, p7, p8, p9, p10⟩
    · rcases h with h | h | h | h | h
      · exact ⟨a, b, c, d, e.1, e.2, p1, p2, p3, p4, p5, h.2⟩
      · omega
      · omega
      · omega
      · omega
    · omega
    · omega
theorem FR.at3 {X : St} {j lo cu : Nat} {s0 n0 l0 t0 sc nc lv mm : Int} (h : FR X j lo s0 n0 l0 t0 cu sc nc lv mm) (hf : (X.1 35 j).toInt = 3) : 1 ≤ j ∧ 0 ≤ (X.1 36 j).toInt ∧ lo ≤ ix (X.1 36 j) ∧ ix (X.1 36 j) < cu ∧ (j : Int) ≤ 4 * nc + lv ∧ (X.1 28 (ix (X.1 36 j))).toInt < 0 ∧ nc = n0 + 1 ∧ lv = 0 ∧ ¬ t0 = 15 ∧ ¬ t0 = 16 ∧ ix (X.1 36 j) = lo ∧ (X.1 20 (ix (X.1 36 j))).toInt = 16 ∧ cu = lo + 1 ∧ sc = s0 := by
  rcases h with h | ⟨a, b, c, d, e, h⟩
  · omega
  · rcases h with ⟨p1, p2, p3, p4, p5, h⟩ | ⟨p1, p2, p3, h⟩ | ⟨p1, p2, p3, p4, p5, p6, p7, p8, p9, p10⟩
    · rcases h with h | h | h | h | h
      · omega
      · omega
      · exact ⟨a, b, c, d, e.1, e.2, p1, p2, p3, p4, p5, h.2⟩
      · omega
      · omega
    · omega
    · omega
theorem FR.at2 {X : St} {j lo cu : Nat} {s0 n0 l0 t0 sc nc lv mm : Int} (h : FR X j lo s0 n0 l0 t0 cu sc nc lv mm) (hf : (X.1 35 j).toInt = 2) : 1 ≤ j ∧ 0 ≤ (X.1 36 j).toInt ∧ lo ≤ ix (X.1 36 j) ∧ ix (X.1 36 j) < cu ∧ (j : Int) ≤ 4 * nc + lv ∧ (X.1 28 (ix (X.1 36 j))).toInt < 0 ∧ nc = n0 + 1 ∧ lv = 0 ∧ ¬ t0 = 15 ∧ ¬ t0 = 16 ∧ ix (X.1 36 j) = lo ∧ (X.1 20 (ix (X.1 36 j))).toInt = 17 ∧ (X.1 26 (ix (X.1 36 j))).toInt = s0 ∧ 0 ≤ s0 ∧ s0 ≤ 43 ∧ CHR (WX X) X 23 (ix (X.1 36 j)) (lo + 1) cu s0 ∧ sc = s0 + 1 := by
  rcases h with h | ⟨a, b, c, d, e, h⟩
  · omega
  · rcases h with ⟨p1, p2, p3, p4, p5, h⟩ | ⟨p1, p2, p3, h⟩ | ⟨p1, p2, p3, p4, p5, p6, p7, p8, p9, p10⟩
    · rcases h with h | h | h | h | h
      · omega
      · exact ⟨a, b, c, d, e.1, e.2, p1, p2, p3, p4, p5, h.2⟩
      · omega
      · omega
      · omega
    · omega
    · omega
theorem FR.at4 {X : St} {j lo cu : Nat} {s0 n0 l0 t0 sc nc lv mm : Int} (h : FR X j lo s0 n0 l0 t0 cu sc nc lv mm) (hf : (X.1 35 j).toInt = 4) : 1 ≤ j ∧ 0 ≤ (X.1 36 j).toInt ∧ lo ≤ ix (X.1 36 j) ∧ ix (X.1 36 j) < cu ∧ (j : Int) ≤ 4 * nc + lv ∧ (X.1 28 (ix (X.1 36 j))).toInt < 0 ∧ nc = n0 + 1 ∧ lv = 0 ∧ ¬ t0 = 15 ∧ ¬ t0 = 16 ∧ ix (X.1 36 j) = lo ∧ (X.1 20 (ix (X.1 36 j))).toInt = 16 ∧ CHR (WX X) X 23 (ix (X.1 36 j)) (lo + 1) cu s0 ∧ sc = s0 := by
  rcases h with h | ⟨a, b, c, d, e, h⟩
  · omega
  · rcases h with ⟨p1, p2, p3, p4, p5, h⟩ | ⟨p1, p2, p3, h⟩ | ⟨p1, p2, p3, p4, p5, p6, p7, p8, p9, p10⟩
    · rcases h with h | h | h | h | h
      · omega
      · omega
      · omega
      · exact ⟨a, b, c, d, e.1, e.2, p1, p2, p3, p4, p5, h.2⟩
      · omega
    · omega
    · omega
theorem FR.at5 {X : St} {j lo cu : Nat} {s0 n0 l0 t0 sc nc lv mm : Int} (h : FR X j lo s0 n0 l0 t0 cu sc nc lv mm) (hf : (X.1 35 j).toInt = 5) : 1 ≤ j ∧ 0 ≤ (X.1 36 j).toInt ∧ lo ≤ ix (X.1 36 j) ∧ ix (X.1 36 j) < cu ∧ (j : Int) ≤ 4 * nc + lv ∧ (X.1 28 (ix (X.1 36 j))).toInt < 0 ∧ nc = n0 + 1 ∧ lv = 0 ∧ ¬ t0 = 15 ∧ ¬ t0 = 16 ∧ ix (X.1 36 j) = lo ∧ (X.1 20 (ix (X.1 36 j))).toInt = 16 ∧ (∃ m, CHR (WX X) X 23 (ix (X.1 36 j)) (lo + 1) m s0 ∧ CHR (WX X) X 24 (ix (X.1 36 j)) m cu s0) ∧ sc = s0 := by
  rcases h with h | ⟨a, b, c, d, e, h⟩
  · omega
  · rcases h with ⟨p1, p2, p3, p4, p5, h⟩ | ⟨p1, p2, p3, h⟩ | ⟨p1, p2, p3, p4, p5, p6, p7, p8, p9, p10⟩
    · rcases h with h | h | h | h | h
      · omega
      · omega
      · omega
      · omega
      · exact ⟨a, b, c, d, e.1, e.2, p1, p2, p3, p4, p5, h.2⟩
    · omega
    · omega
theorem FR.at6 {X : St} {j lo cu : Nat} {s0 n0 l0 t0 sc nc lv mm : Int} (h : FR X j lo s0 n0 l0 t0 cu sc nc lv mm) (hf : (X.1 35 j).toInt = 6) : 1 ≤ j ∧ 0 ≤ (X.1 36 j).toInt ∧ lo ≤ ix (X.1 36 j) ∧ ix (X.1 36 j) < cu ∧ (j : Int) ≤ 4 * nc + lv ∧ (X.1 28 (ix (X.1 36 j))).toInt < 0 ∧ nc = n0 + 1 ∧ lv = 0 ∧ sc = s0 ∧ (X.1 20 (ix (X.1 36 j))).toInt = 8 ∧ ix (X.1 36 j) = lo ∧ cu = lo + 1 := by
  rcases h with h | ⟨a, b, c, d, e, h⟩
  · omega
  · rcases h with ⟨p1, p2, p3, p4, p5, h⟩ | ⟨p1, p2, p3, h⟩ | ⟨p1, p2, p3, p4, p5, p6, p7, p8, p9, p10⟩
    · rcases h with h | h | h | h | h <;> omega
    · rcases h with h | h | h | h | h | h | h | h | h | h
      · exact ⟨a, b, c, d, e.1, e.2, p1, p2, p3, h.2⟩
      · omega
      · omega
      · omega
      · omega
      · omega
      · omega
      · omega
      · omega
      · omega
    · omega
theorem FR.at9 {X : St} {j lo cu : Nat} {s0 n0 l0 t0 sc nc lv mm : Int} (h : FR X j lo s0 n0 l0 t0 cu sc nc lv mm) (hf : (X.1 35 j).toInt = 9) : 1 ≤ j ∧ 0 ≤ (X.1 36 j).toInt ∧ lo ≤ ix (X.1 36 j) ∧ ix (X.1 36 j) < cu ∧ (j : Int) ≤ 4 * nc + lv ∧ (X.1 28 (ix (X.1 36 j))).toInt < 0 ∧ nc = n0 + 1 ∧ lv = 0 ∧ sc = s0 ∧ (X.1 20 (ix (X.1 36 j))).toInt = 5 ∧ ix (X.1 36 j) = lo ∧ cu = lo + 1 := by
  rcases h with h | ⟨a, b, c, d, e, h⟩
  · omega
  · rcases h with ⟨p1, p2, p3, p4, p5, h⟩ | ⟨p1, p2, p3, h⟩ | ⟨p1, p2, p3, p4, p5, p6, p7, p8, p9, p10⟩
    · rcases h with h | h | h | h | h <;> omega
    · rcases h with h | h | h | h | h | h | h | h | h | h
      · omega
      · omega
      · omega
      · exact ⟨a, b, c, d, e.1, e.2, p1, p2, p3, h.2⟩
      · omega
      · omega
      · omega
      · omega
      · omega
      · omega
    · omega
theorem FR.at11 {X : St} {j lo cu : Nat} {s0 n0 l0 t0 sc nc lv mm : Int} (h : FR X j lo s0 n0 l0 t0 cu sc nc lv mm) (hf : (X.1 35 j).toInt = 11) : 1 ≤ j ∧ 0 ≤ (X.1 36 j).toInt ∧ lo ≤ ix (X.1 36 j) ∧ ix (X.1 36 j) < cu ∧ (j : Int) ≤ 4 * nc + lv ∧ (X.1 28 (ix (X.1 36 j))).toInt < 0 ∧ nc = n0 + 1 ∧ lv = 0 ∧ sc = s0 ∧ ((X.1 20 (ix (X.1 36 j))).toInt = 6 ∨ (X.1 20 (ix (X.1 36 j))).toInt = 7) ∧ ix (X.1 36 j) = lo ∧ cu = lo + 1 := by
  rcases h with h | ⟨a, b, c, d, e, h⟩
  · omega
  · rcases h with ⟨p1, p2, p3, p4, p5, h⟩ | ⟨p1, p2, p3, h⟩ | ⟨p1, p2, p3, p4, p5, p6, p7, p8, p9, p10⟩
    · rcases h with h | h | h | h | h <;> omega
    · rcases h with h | h | h | h | h | h | h | h | h | h
      · omega
      · omega
      · omega
      · omega
      · omega
      · exact ⟨a, b, c, d, e.1, e.2, p1, p2, p3, h.2⟩
      · omega
      · omega
      · omega
      · omega
    · omega
theorem FR.at15 {X : St} {j lo cu : Nat} {s0 n0 l0 t0 sc nc lv mm : Int} (h : FR X j lo s0 n0 l0 t0 cu sc nc lv mm) (hf : (X.1 35 j).toInt = 15) : 1 ≤ j ∧ 0 ≤ (X.1 36 j).toInt ∧ lo ≤ ix (X.1 36 j) ∧ ix (X.1 36 j) < cu ∧ (j : Int) ≤ 4 * nc + lv ∧ (X.1 28 (ix (X.1 36 j))).toInt < 0 ∧ nc = n0 + 1 ∧ lv = 0 ∧ sc = s0 ∧ ((X.1 20 (ix (X.1 36 j))).toInt = 12 ∨ (X.1 20 (ix (X.1 36 j))).toInt = 13) ∧ ix (X.1 36 j) = lo ∧ cu = lo + 1 := by
  rcases h with h | ⟨a, b, c, d, e, h⟩
  · omega
  · rcases h with ⟨p1, p2, p3, p4, p5, h⟩ | ⟨p1, p2, p3, h⟩ | ⟨p1, p2, p3, p4, p5, p6, p7, p8, p9, p10⟩
    · rcases h with h | h | h | h | h <;> omega
    · rcases h with h | h | h | h | h | h | h | h | h | h
      · omega
      · omega
      · omega
      · omega
      · omega
      · omega
      · omega
      · omega
      · omega
      · exact ⟨a, b, c, d, e.1, e.2, p1, p2, p3, h.2⟩
    · omega
theorem FR.at7 {X : St} {j lo cu : Nat} {s0 n0 l0 t0 sc nc lv mm : Int} (h : FR X j lo s0 n0 l0 t0 cu sc nc lv mm) (hf : (X.1 35 j).toInt = 7) : 1 ≤ j ∧ 0 ≤ (X.1 36 j).toInt ∧ lo ≤ ix (X.1 36 j) ∧ ix (X.1 36 j) < cu ∧ (j : Int) ≤ 4 * nc + lv ∧ (X.1 28 (ix (X.1 36 j))).toInt < 0 ∧ nc = n0 + 1 ∧ lv = 0 ∧ sc = s0 ∧ (X.1 20 (ix (X.1 36 j))).toInt = 9 ∧ ix (X.1 36 j) = lo ∧ LPR X (ix (X.1 36 j)) (lo + 1) cu s0 (X.1 37 j) := by
  rcases h with h | ⟨a, b, c, d, e, h⟩
  · omega
  · rcases h with ⟨p1, p2, p3, p4, p5, h⟩ | ⟨p1, p2, p3, h⟩ | ⟨p1, p2, p3, p4, p5, p6, p7, p8, p9, p10⟩
    · rcases h with h | h | h | h | h <;> omega
    · rcases h with h | h | h | h | h | h | h | h | h | h
      · omega
      · exact ⟨a, b, c, d, e.1, e.2, p1, p2, p3, h.2⟩
      · omega
      · omega
      · omega
      · omega
      · omega
      · omega
      · omega
      · omega
    · omega
theorem FR.at8 {X : St} {j lo cu : Nat} {s0 n0 l0 t0 sc nc lv mm : Int} (h : FR X j lo s0 n0 l0 t0 cu sc nc lv mm) (hf : (X.1 35 j).toInt = 8) : 1 ≤ j ∧ 0 ≤ (X.1 36 j).toInt ∧ lo ≤ ix (X.1 36 j) ∧ ix (X.1 36 j) < cu ∧ (j : Int) ≤ 4 * nc + lv ∧ (X.1 28 (ix (X.1 36 j))).toInt < 0 ∧ nc = n0 + 1 ∧ lv = 0 ∧ sc = s0 ∧ (X.1 20 (ix (X.1 36 j))).toInt = 4 ∧ ix (X.1 36 j) = lo ∧ (X.1 27 (ix (X.1 36 j))).toInt ≤ 19 + mm ∧ LPR X (ix (X.1 36 j)) (lo + 1) cu s0 (X.1 37 j) := by
  rcases h with h | ⟨a, b, c, d, e, h⟩
  · omega
  · rcases h with ⟨p1, p2, p3, p4, p5, h⟩ | ⟨p1, p2, p3, h⟩ | ⟨p1, p2, p3, p4, p5, p6, p7, p8, p9, p10⟩
    · rcases h with h | h | h | h | h <;> omega
    · rcases h with h | h | h | h | h | h | h | h | h | h
      · omega
      · omega
      · exact ⟨a, b, c, d, e.1, e.2, p1, p2, p3, h.2⟩
      · omega
      · omega
      · omega
      · omega
      · omega
      · omega
      · omega
    · omega
theorem FR.at10 {X : St} {j lo cu : Nat} {s0 n0 l0 t0 sc nc lv mm : Int} (h : FR X j lo s0 n0 l0 t0 cu sc nc lv mm) (hf : (X.1 35 j).toInt = 10) : 1 ≤ j ∧ 0 ≤ (X.1 36 j).toInt ∧ lo ≤ ix (X.1 36 j) ∧ ix (X.1 36 j) < cu ∧ (j : Int) ≤ 4 * nc + lv ∧ (X.1 28 (ix (X.1 36 j))).toInt < 0 ∧ nc = n0 + 1 ∧ lv = 0 ∧ sc = s0 ∧ (X.1 20 (ix (X.1 36 j))).toInt = 5 ∧ ix (X.1 36 j) = lo ∧ CHR (WX X) X 23 (ix (X.1 36 j)) (lo + 1) cu s0 := by
  rcases h with h | ⟨a, b, c, d, e, h⟩
  · omega
  · rcases h with ⟨p1, p2, p3, p4, p5, h⟩ | ⟨p1, p2, p3, h⟩ | ⟨p1, p2, p3, p4, p5, p6, p7, p8, p9, p10⟩
    · rcases h with h | h | h | h | h <;> omega
    · rcases h with h | h | h | h | h | h | h | h | h | h
      · omega
      · omega
      · omega
      · omega
      · exact ⟨a, b, c, d, e.1, e.2, p1, p2, p3, h.2⟩
      · omega
      · omega
      · omega
      · omega
      · omega
    · omega
theorem FR.at12 {X : St} {j lo cu : Nat} {s0 n0 l0 t0 sc nc lv mm : Int} (h : FR X j lo s0 n0 l0 t0 cu sc nc lv mm) (hf : (X.1 35 j).toInt = 12) : 1 ≤ j ∧ 0 ≤ (X.1 36 j).toInt ∧ lo ≤ ix (X.1 36 j) ∧ ix (X.1 36 j) < cu ∧ (j : Int) ≤ 4 * nc + lv ∧ (X.1 28 (ix (X.1 36 j))).toInt < 0 ∧ nc = n0 + 1 ∧ lv = 0 ∧ sc = s0 ∧ (X.1 20 (ix (X.1 36 j))).toInt = 11 ∧ (X.1 27 (ix (X.1 36 j))).toInt ≤ 3 + mm ∧ CHR (WX X) X 23 (ix (X.1 36 j)) lo (ix (X.1 36 j)) s0 ∧ LPR X (ix (X.1 36 j)) (ix (X.1 36 j) + 1) cu s0 (X.1 37 j) := by
  rcases h with h | ⟨a, b, c, d, e, h⟩
  · omega
  · rcases h with ⟨p1, p2, p3, p4, p5, h⟩ | ⟨p1, p2, p3, h⟩ | ⟨p1, p2, p3, p4, p5, p6, p7, p8, p9, p10⟩
    · rcases h with h | h | h | h | h <;> omega
    · rcases h with h | h | h | h | h | h | h | h | h | h
      · omega
      · omega
      · omega
      · omega
      · omega
      · omega
      · exact ⟨a, b, c, d, e.1, e.2, p1, p2, p3, h.2⟩
      · omega
      · omega
      · omega
    · omega
theorem FR.at13 {X : St} {j lo cu : Nat} {s0 n0 l0 t0 sc nc lv mm : Int} (h : FR X j lo s0 n0 l0 t0 cu sc nc lv mm) (hf : (X.1 35 j).toInt = 13) : 1 ≤ j ∧ 0 ≤ (X.1 36 j).toInt ∧ lo ≤ ix (X.1 36 j) ∧ ix (X.1 36 j) < cu ∧ (j : Int) ≤ 4 * nc + lv ∧ (X.1 28 (ix (X.1 36 j))).toInt < 0 ∧ nc = n0 + 1 ∧ lv = 0 ∧ sc = s0 ∧ (X.1 20 (ix (X.1 36 j))).toInt = 10 ∧ (X.1 25 (ix (X.1 36 j))).toInt < 0 ∧ CHR (WX X) X 23 (ix (X.1 36 j)) lo (ix (X.1 36 j)) s0 ∧ cu = ix (X.1 36 j) + 1 := by
  rcases h with h | ⟨a, b, c, d, e, h⟩
  · omega
  · rcases h with ⟨p1, p2, p3, p4, p5, h⟩ | ⟨p1, p2, p3, h⟩ | ⟨p1, p2, p3, p4, p5, p6, p7, p8, p9, p10⟩
    · rcases h with h | h | h | h | h <;> omega
    · rcases h with h | h | h | h | h | h | h | h | h | h
      · omega
      · omega
      · omega
      · omega
      · omega
      · omega
      · omega
      · exact ⟨a, b, c, d, e.1, e.2, p1, p2, p3, h.2⟩
      · omega
      · omega
    · omega
theorem FR.at14 {X : St} {j lo cu : Nat} {s0 n0 l0 t0 sc nc lv mm : Int} (h : FR X j lo s0 n0 l0 t0 cu sc nc lv mm) (hf : (X.1 35 j).toInt = 14) : 1 ≤ j ∧ 0 ≤ (X.1 36 j).toInt ∧ lo ≤ ix (X.1 36 j) ∧ ix (X.1 36 j) < cu ∧ (j : Int) ≤ 4 * nc + lv ∧ (X.1 28 (ix (X.1 36 j))).toInt < 0 ∧ nc = n0 + 1 ∧ lv = 0 ∧ sc = s0 ∧ (X.1 20 (ix (X.1 36 j))).toInt = 10 ∧ CHR (WX X) X 23 (ix (X.1 36 j)) lo (ix (X.1 36 j)) s0 ∧ CHR (WX X) X 24 (ix (X.1 36 j)) (ix (X.1 36 j) + 1) cu s0 := by
  rcases h with h | ⟨a, b, c, d, e, h⟩
  · omega
  · rcases h with ⟨p1, p2, p3, p4, p5, h⟩ | ⟨p1, p2, p3, h⟩ | ⟨p1, p2, p3, p4, p5, p6, p7, p8, p9, p10⟩
    · rcases h with h | h | h | h | h <;> omega
    · rcases h with h | h | h | h | h | h | h | h | h | h
      · omega
      · omega
      · omega
      · omega
      · omega
      · omega
      · omega
      · omega
      · exact ⟨a, b, c, d, e.1, e.2, p1, p2, p3, h.2⟩
      · omega
    · omega
theorem FR.at16 {X : St} {j lo cu : Nat} {s0 n0 l0 t0 sc nc lv mm : Int} (h : FR X j lo s0 n0 l0 t0 cu sc nc lv mm) (hf : (X.1 35 j).toInt = 16) : 1 ≤ j ∧ 0 ≤ (X.1 36 j).toInt ∧ lo ≤ ix (X.1 36 j) ∧ ix (X.1 36 j) < cu ∧ (j : Int) ≤ 4 * nc + lv ∧ (X.1 28 (ix (X.1 36 j))).toInt < 0 ∧ nc = n0 ∧ sc = s0 ∧ ¬ t0 = 15 ∧ ((X.1 20 (ix (X.1 36 j))).toInt = 14 ∨ (X.1 20 (ix (X.1 36 j))).toInt = 15) ∧ CHR (WX X) X 23 (ix (X.1 36 j)) lo (ix (X.1 36 j)) s0 ∧ cu = ix (X.1 36 j) + 1 ∧ l0 < lv ∧ lv ≤ 3 ∧ lv = (levF (X.1 26 (ix (X.1 36 j))).toInt64).toInt := by
  rcases h with h | ⟨a, b, c, d, e, h⟩
  · omega
  · rcases h with ⟨p1, p2, p3, p4, p5, h⟩ | ⟨p1, p2, p3, h⟩ | h
    · rcases h with h | h | h | h | h <;> omega
    · omega
    · obtain ⟨p1, p2, p3, p4, p5, p6, p7, p8, p9, p10⟩ := h
      exact ⟨a, b, c, d, e.1, e.2, p1, p2, p3, p5, p6, p7, p9, p10, p8⟩
