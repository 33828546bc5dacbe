/-! a tree's orders, kind by kind -/
section CXK
variable {X : St} {n lo hi s e : Nat} {sc : Int}
theorem CX.leaf (h : CX X n lo hi sc s e) (k0 : iv X 20 n = 0 ∨ iv X 20 n = 1 ∨ iv X 20 n = 2 ∨ iv X 20 n = 3) : OA X s 0 n ∧ e = s + 2 ∧ ∃ w : Nat, iv X 20 n = (w : Int) ∧ OA X (s + 1) (w + 1) n ∧ (w = 2 → 0 ≤ iv X 26 n ∧ iv X 26 n < sc) := by
  unfold iv at *
  obtain ⟨h1, h2, h3, h4, h⟩ := h.inv
  unfold UV at h
  rcases h with ⟨a, b, c, d⟩ | ⟨a, b, c⟩ | ⟨a, u, v, p, b, c, d, f, g⟩ | ⟨p, q, a, b, c, d, f, g⟩ | ⟨a, b, m, p, q, c, d, f, g, i⟩ | ⟨a, b, p, q, c, d, f, g, i, j⟩ | ⟨a, m, p, q, u, b, c, d, f, g, i, j, k⟩ | ⟨a, b, m1, m2, p, q, u, c, d, f, g, i, j, k, l, o, w, x, y, z, t⟩ | ⟨a, b, c, d, f, m, p, g, i, j, k⟩ | ⟨a, b, c, q, d, f, g⟩ | ⟨a, b, c, d⟩ | ⟨a, b, p, q, c, d, f, g, i⟩
  · rcases d with ⟨d1, d2⟩ | ⟨d1, d2⟩ | ⟨d1, d2, d3⟩ | ⟨d1, d2⟩
    · exact ⟨h4, c, 0, d1, d2, fun z => absurd z (by decide)⟩
    · exact ⟨h4, c, 1, d1, d2, fun z => absurd z (by decide)⟩
    · exact ⟨h4, c, 2, d1, d2, fun _ => d3⟩
    · exact ⟨h4, c, 3, d1, d2, fun z => absurd z (by decide)⟩
  · exfalso; omega
  · exfalso; omega
  · exfalso; omega
  · exfalso; omega
  · exfalso; omega
  · exfalso; omega
  · exfalso; omega
  · exfalso; omega
  · exfalso; omega
  · exfalso; omega
  · exfalso; omega
theorem CX.k8 (h : CX X n lo hi sc s e) (k0 : iv X 20 n = 8) : OA X s 0 n ∧ (∃ (l r : Nat), CX X (ix (X.1 23 n)) l r sc (s + 1) e) := by
  unfold iv at *
  obtain ⟨h1, h2, h3, h4, h⟩ := h.inv
  unfold UV at h
  rcases h with ⟨a, b, c, d⟩ | ⟨a, b, c⟩ | ⟨a, u, v, p, b, c, d, f, g⟩ | ⟨p, q, a, b, c, d, f, g⟩ | ⟨a, b, m, p, q, c, d, f, g, i⟩ | ⟨a, b, p, q, c, d, f, g, i, j⟩ | ⟨a, m, p, q, u, b, c, d, f, g, i, j, k⟩ | ⟨a, b, m1, m2, p, q, u, c, d, f, g, i, j, k, l, o, w, x, y, z, t⟩ | ⟨a, b, c, d, f, m, p, g, i, j, k⟩ | ⟨a, b, c, q, d, f, g⟩ | ⟨a, b, c, d⟩ | ⟨a, b, p, q, c, d, f, g, i⟩
  · exfalso; omega
  · exact ⟨h4, _, _, c.2⟩
  · exfalso; omega
  · exfalso; omega
  · exfalso; omega
  · exfalso; omega
  · exfalso; omega
  · exfalso; omega
  · exfalso; omega
  · exfalso; omega
  · exfalso; omega
  · exfalso; omega
theorem CX.k6 (h : CX X n lo hi sc s e) (k0 : iv X 20 n = 6) : OA X s 0 n ∧ ∃ p, (∃ (l r : Nat), CX X (ix (X.1 23 n)) l r sc (s + 1) p) ∧ OA X p 9 (ix (X.1 23 n)) ∧ OA X (p + 1) 20 n ∧ e = p + 2 := by
  unfold iv at *
  obtain ⟨h1, h2, h3, h4, h⟩ := h.inv
  unfold UV at h
  rcases h with ⟨a, b, c, d⟩ | ⟨a, b, c⟩ | ⟨a, u, v, p, b, c, d, f, g⟩ | ⟨p, q, a, b, c, d, f, g⟩ | ⟨a, b, m, p, q, c, d, f, g, i⟩ | ⟨a, b, p, q, c, d, f, g, i, j⟩ | ⟨a, m, p, q, u, b, c, d, f, g, i, j, k⟩ | ⟨a, b, m1, m2, p, q, u, c, d, f, g, i, j, k, l, o, w, x, y, z, t⟩ | ⟨a, b, c, d, f, m, p, g, i, j, k⟩ | ⟨a, b, c, q, d, f, g⟩ | ⟨a, b, c, d⟩ | ⟨a, b, p, q, c, d, f, g, i⟩
  · exfalso; omega
  · exfalso; omega
  · rcases b with ⟨b1, rfl, rfl⟩ | ⟨b1, rfl, rfl⟩ | ⟨b1, rfl, rfl⟩ | ⟨b1, rfl, rfl⟩
    · exact ⟨h4, p, ⟨_, _, c.2⟩, d, f, g⟩
    · exfalso; omega
    · exfalso; omega
    · exfalso; omega
  · exfalso; omega
  · exfalso; omega
  · exfalso; omega
  · exfalso; omega
  · exfalso; omega
  · exfalso; omega
  · exfalso; omega
  · exfalso; omega
  · exfalso; omega
theorem CX.k7 (h : CX X n lo hi sc s e) (k0 : iv X 20 n = 7) : OA X s 0 n ∧ ∃ p, (∃ (l r : Nat), CX X (ix (X.1 23 n)) l r sc (s + 1) p) ∧ OA X p 5 (ix (X.1 23 n)) ∧ OA X (p + 1) 21 n ∧ e = p + 2 := by
  unfold iv at *
  obtain ⟨h1, h2, h3, h4, h⟩ := h.inv
  unfold UV at h
  rcases h with ⟨a, b, c, d⟩ | ⟨a, b, c⟩ | ⟨a, u, v, p, b, c, d, f, g⟩ | ⟨p, q, a, b, c, d, f, g⟩ | ⟨a, b, m, p, q, c, d, f, g, i⟩ | ⟨a, b, p, q, c, d, f, g, i, j⟩ | ⟨a, m, p, q, u, b, c, d, f, g, i, j, k⟩ | ⟨a, b, m1, m2, p, q, u, c, d, f, g, i, j, k, l, o, w, x, y, z, t⟩ | ⟨a, b, c, d, f, m, p, g, i, j, k⟩ | ⟨a, b, c, q, d, f, g⟩ | ⟨a, b, c, d⟩ | ⟨a, b, p, q, c, d, f, g, i⟩
  · exfalso; omega
  · exfalso; omega
  · rcases b with ⟨b1, rfl, rfl⟩ | ⟨b1, rfl, rfl⟩ | ⟨b1, rfl, rfl⟩ | ⟨b1, rfl, rfl⟩
    · exfalso; omega
    · exact ⟨h4, p, ⟨_, _, c.2⟩, d, f, g⟩
    · exfalso; omega
    · exfalso; omega
  · exfalso; omega
  · exfalso; omega
  · exfalso; omega
  · exfalso; omega
  · exfalso; omega
  · exfalso; omega
  · exfalso; omega
  · exfalso; omega
  · exfalso; omega
theorem CX.k12 (h : CX X n lo hi sc s e) (k0 : iv X 20 n = 12) : OA X s 0 n ∧ ∃ p, (∃ (l r : Nat), CX X (ix (X.1 23 n)) l r sc (s + 1) p) ∧ OA X p 5 (ix (X.1 23 n)) ∧ OA X (p + 1) 22 n ∧ e = p + 2 := by
  unfold iv at *
  obtain ⟨h1, h2, h3, h4, h⟩ := h.inv
  unfold UV at h
  rcases h with ⟨a, b, c, d⟩ | ⟨a, b, c⟩ | ⟨a, u, v, p, b, c, d, f, g⟩ | ⟨p, q, a, b, c, d, f, g⟩ | ⟨a, b, m, p, q, c, d, f, g, i⟩ | ⟨a, b, p, q, c, d, f, g, i, j⟩ | ⟨a, m, p, q, u, b, c, d, f, g, i, j, k⟩ | ⟨a, b, m1, m2, p, q, u, c, d, f, g, i, j, k, l, o, w, x, y, z, t⟩ | ⟨a, b, c, d, f, m, p, g, i, j, k⟩ | ⟨a, b, c, q, d, f, g⟩ | ⟨a, b, c, d⟩ | ⟨a, b, p, q, c, d, f, g, i⟩
  · exfalso; omega
  · exfalso; omega
  · rcases b with ⟨b1, rfl, rfl⟩ | ⟨b1, rfl, rfl⟩ | ⟨b1, rfl, rfl⟩ | ⟨b1, rfl, rfl⟩
    · exfalso; omega
    · exfalso; omega
    · exact ⟨h4, p, ⟨_, _, c.2⟩, d, f, g⟩
    · exfalso; omega
  · exfalso; omega
  · exfalso; omega
  · exfalso; omega
  · exfalso; omega
  · exfalso; omega
  · exfalso; omega
  · exfalso; omega
  · exfalso; omega
  · exfalso; omega
theorem CX.k13 (h : CX X n lo hi sc s e) (k0 : iv X 20 n = 13) : OA X s 0 n ∧ ∃ p, (∃ (l r : Nat), CX X (ix (X.1 23 n)) l r sc (s + 1) p) ∧ OA X p 6 (ix (X.1 23 n)) ∧ OA X (p + 1) 23 n ∧ e = p + 2 := by
  unfold iv at *
  obtain ⟨h1, h2, h3, h4, h⟩ := h.inv
  unfold UV at h
  rcases h with ⟨a, b, c, d⟩ | ⟨a, b, c⟩ | ⟨a, u, v, p, b, c, d, f, g⟩ | ⟨p, q, a, b, c, d, f, g⟩ | ⟨a, b, m, p, q, c, d, f, g, i⟩ | ⟨a, b, p, q, c, d, f, g, i, j⟩ | ⟨a, m, p, q, u, b, c, d, f, g, i, j, k⟩ | ⟨a, b, m1, m2, p, q, u, c, d, f, g, i, j, k, l, o, w, x, y, z, t⟩ | ⟨a, b, c, d, f, m, p, g, i, j, k⟩ | ⟨a, b, c, q, d, f, g⟩ | ⟨a, b, c, d⟩ | ⟨a, b, p, q, c, d, f, g, i⟩
  · exfalso; omega
  · exfalso; omega
  · rcases b with ⟨b1, rfl, rfl⟩ | ⟨b1, rfl, rfl⟩ | ⟨b1, rfl, rfl⟩ | ⟨b1, rfl, rfl⟩
    · exfalso; omega
    · exfalso; omega
    · exfalso; omega
    · exact ⟨h4, p, ⟨_, _, c.2⟩, d, f, g⟩
  · exfalso; omega
  · exfalso; omega
  · exfalso; omega
  · exfalso; omega
  · exfalso; omega
  · exfalso; omega
  · exfalso; omega
  · exfalso; omega
  · exfalso; omega
theorem CX.k14 (h : CX X n lo hi sc s e) (k0 : iv X 20 n = 14 ∨ iv X 20 n = 15) : OA X s 0 n ∧ ∃ p q, (∃ (l r : Nat), CX X (ix (X.1 23 n)) l r sc (s + 1) p) ∧ OA X p 5 (ix (X.1 23 n)) ∧ (∃ (l r : Nat), CX X (ix (X.1 24 n)) l r sc (p + 1) q) ∧ OA X q 5 (ix (X.1 24 n)) ∧ ((iv X 20 n = 14 ∧ OA X (q + 1) 24 n) ∨ (iv X 20 n = 15 ∧ OA X (q + 1) 25 n)) ∧ e = q + 2 := by
  unfold iv at *
  obtain ⟨h1, h2, h3, h4, h⟩ := h.inv
  unfold UV at h
  rcases h with ⟨a, b, c, d⟩ | ⟨a, b, c⟩ | ⟨a, u, v, p, b, c, d, f, g⟩ | ⟨p, q, a, b, c, d, f, g⟩ | ⟨a, b, m, p, q, c, d, f, g, i⟩ | ⟨a, b, p, q, c, d, f, g, i, j⟩ | ⟨a, m, p, q, u, b, c, d, f, g, i, j, k⟩ | ⟨a, b, m1, m2, p, q, u, c, d, f, g, i, j, k, l, o, w, x, y, z, t⟩ | ⟨a, b, c, d, f, m, p, g, i, j, k⟩ | ⟨a, b, c, q, d, f, g⟩ | ⟨a, b, c, d⟩ | ⟨a, b, p, q, c, d, f, g, i⟩
  · exfalso; omega
  · exfalso; omega
  · exfalso; omega
  · exact ⟨h4, p, q, ⟨_, _, a.2⟩, b, ⟨_, _, c.2⟩, d, f, g⟩
  · exfalso; omega
  · exfalso; omega
  · exfalso; omega
  · exfalso; omega
  · exfalso; omega
  · exfalso; omega
  · exfalso; omega
  · exfalso; omega
theorem CX.k5 (h : CX X n lo hi sc s e) (k0 : iv X 20 n = 5) : OA X s 0 n ∧ ∃ p q, (∃ (l r : Nat), CX X (ix (X.1 23 n)) l r sc (s + 1) p) ∧ OA X p 5 (ix (X.1 23 n)) ∧ (∃ (l r : Nat), CX X (ix (X.1 24 n)) l r sc (p + 1) q) ∧ OA X q 19 n ∧ e = q + 1 := by
  unfold iv at *
  obtain ⟨h1, h2, h3, h4, h⟩ := h.inv
  unfold UV at h
  rcases h with ⟨a, b, c, d⟩ | ⟨a, b, c⟩ | ⟨a, u, v, p, b, c, d, f, g⟩ | ⟨p, q, a, b, c, d, f, g⟩ | ⟨a, b, m, p, q, c, d, f, g, i⟩ | ⟨a, b, p, q, c, d, f, g, i, j⟩ | ⟨a, m, p, q, u, b, c, d, f, g, i, j, k⟩ | ⟨a, b, m1, m2, p, q, u, c, d, f, g, i, j, k, l, o, w, x, y, z, t⟩ | ⟨a, b, c, d, f, m, p, g, i, j, k⟩ | ⟨a, b, c, q, d, f, g⟩ | ⟨a, b, c, d⟩ | ⟨a, b, p, q, c, d, f, g, i⟩
  · exfalso; omega
  · exfalso; omega
  · exfalso; omega
  · exfalso; omega
  · exact ⟨h4, p, q, ⟨_, _, c.2⟩, d, ⟨_, _, f.2⟩, g, i⟩
  · exfalso; omega
  · exfalso; omega
  · exfalso; omega
  · exfalso; omega
  · exfalso; omega
  · exfalso; omega
  · exfalso; omega
theorem CX.k10r (h : CX X n lo hi sc s e) (k0 : iv X 20 n = 10) (k2 : iv X 25 n = -1) : OA X s 0 n ∧ ∃ p q, (∃ (l r : Nat), CX X (ix (X.1 23 n)) l r sc (s + 1) p) ∧ OA X p 8 n ∧ (∃ (l r : Nat), CX X (ix (X.1 24 n)) l r sc (p + 1) q) ∧ OA X q 5 (ix (X.1 24 n)) ∧ OA X (q + 1) 26 n ∧ e = q + 2 := by
  unfold iv at *
  obtain ⟨h1, h2, h3, h4, h⟩ := h.inv
  unfold UV at h
  rcases h with ⟨a, b, c, d⟩ | ⟨a, b, c⟩ | ⟨a, u, v, p, b, c, d, f, g⟩ | ⟨p, q, a, b, c, d, f, g⟩ | ⟨a, b, m, p, q, c, d, f, g, i⟩ | ⟨a, b, p, q, c, d, f, g, i, j⟩ | ⟨a, m, p, q, u, b, c, d, f, g, i, j, k⟩ | ⟨a, b, m1, m2, p, q, u, c, d, f, g, i, j, k, l, o, w, x, y, z, t⟩ | ⟨a, b, c, d, f, m, p, g, i, j, k⟩ | ⟨a, b, c, q, d, f, g⟩ | ⟨a, b, c, d⟩ | ⟨a, b, p, q, c, d, f, g, i⟩
  · exfalso; omega
  · exfalso; omega
  · exfalso; omega
  · exfalso; omega
  · exfalso; omega
  · exact ⟨h4, p, q, ⟨_, _, c.2⟩, d, ⟨_, _, f.2⟩, g, i, j⟩
  · have := g.1; exfalso; omega
  · exfalso; omega
  · exfalso; omega
  · exfalso; omega
  · exfalso; omega
  · exfalso; omega
theorem CX.k10w (h : CX X n lo hi sc s e) (k0 : iv X 20 n = 10) (k2 : 0 ≤ iv X 25 n) : OA X s 0 n ∧ ∃ p q u, (∃ (l r : Nat), CX X (ix (X.1 23 n)) l r sc (s + 1) p) ∧ OA X p 8 n ∧ (∃ (l r : Nat), CX X (ix (X.1 24 n)) l r sc (p + 1) q) ∧ OA X q 5 (ix (X.1 24 n)) ∧ (∃ (l r : Nat), CX X (ix (X.1 25 n)) l r sc (q + 1) u) ∧ OA X u 11 n ∧ OA X (u + 1) 27 n ∧ e = u + 2 := by
  unfold iv at *
  obtain ⟨h1, h2, h3, h4, h⟩ := h.inv
  unfold UV at h
  rcases h with ⟨a, b, c, d⟩ | ⟨a, b, c⟩ | ⟨a, u, v, p, b, c, d, f, g⟩ | ⟨p, q, a, b, c, d, f, g⟩ | ⟨a, b, m, p, q, c, d, f, g, i⟩ | ⟨a, b, p, q, c, d, f, g, i, j⟩ | ⟨a, m, p, q, u, b, c, d, f, g, i, j, k⟩ | ⟨a, b, m1, m2, p, q, u, c, d, f, g, i, j, k, l, o, w, x, y, z, t⟩ | ⟨a, b, c, d, f, m, p, g, i, j, k⟩ | ⟨a, b, c, q, d, f, g⟩ | ⟨a, b, c, d⟩ | ⟨a, b, p, q, c, d, f, g, i⟩
  · exfalso; omega
  · exfalso; omega
  · exfalso; omega
  · exfalso; omega
  · exfalso; omega
  · exfalso; omega
  · exact ⟨h4, p, q, u, ⟨_, _, b.2⟩, c, ⟨_, _, d.2⟩, f, ⟨_, _, g.2⟩, i, j, k⟩
  · exfalso; omega
  · exfalso; omega
  · exfalso; omega
  · exfalso; omega
  · exfalso; omega
theorem CX.k16 (h : CX X n lo hi sc s e) (k0 : iv X 20 n = 16) : OA X s 0 n ∧ ∃ p q u, (∃ (l r : Nat), CX X (ix (X.1 23 n)) l r sc (s + 1) p) ∧ OA X p 6 (ix (X.1 23 n)) ∧ OA X (p + 1) 15 n ∧ (∃ (l r : Nat), CX X (ix (X.1 24 n)) l r sc (p + 2) q) ∧ OA X q 14 (ix (X.1 24 n)) ∧ iv X 45 (ix (X.1 24 n)) = q ∧ OA X (q + 1) 16 n ∧ iv X 46 n = q + 2 ∧ (∃ (l r : Nat), CX X (ix (X.1 25 n)) l r sc (q + 2) u) ∧ OA X u 14 (ix (X.1 25 n)) ∧ iv X 45 (ix (X.1 25 n)) = u ∧ OA X (u + 1) 17 n ∧ iv X 47 n = u + 2 ∧ e = u + 2 := by
  unfold iv at *
  obtain ⟨h1, h2, h3, h4, h⟩ := h.inv
  unfold UV at h
  rcases h with ⟨a, b, c, d⟩ | ⟨a, b, c⟩ | ⟨a, u, v, p, b, c, d, f, g⟩ | ⟨p, q, a, b, c, d, f, g⟩ | ⟨a, b, m, p, q, c, d, f, g, i⟩ | ⟨a, b, p, q, c, d, f, g, i, j⟩ | ⟨a, m, p, q, u, b, c, d, f, g, i, j, k⟩ | ⟨a, b, m1, m2, p, q, u, c, d, f, g, i, j, k, l, o, w, x, y, z, t⟩ | ⟨a, b, c, d, f, m, p, g, i, j, k⟩ | ⟨a, b, c, q, d, f, g⟩ | ⟨a, b, c, d⟩ | ⟨a, b, p, q, c, d, f, g, i⟩
  · exfalso; omega
  · exfalso; omega
  · exfalso; omega
  · exfalso; omega
  · exfalso; omega
  · exfalso; omega
  · exfalso; omega
  · exact ⟨h4, p, q, u, ⟨_, _, c.2⟩, d, f, ⟨_, _, g.2⟩, i, j, k, l, ⟨_, _, o.2⟩, w, x, y, z, t⟩
  · exfalso; omega
  · exfalso; omega
  · exfalso; omega
  · exfalso; omega
theorem CX.k17 (h : CX X n lo hi sc s e) (k0 : iv X 20 n = 17) : OA X s 0 n ∧ ∃ p, (∃ (l r : Nat), CX X (ix (X.1 23 n)) l r sc (s + 1) p) ∧ OA X p 12 n ∧ OA X (p + 1) 13 n ∧ (∃ (l r : Nat), CX X (ix (X.1 24 n)) l r (sc + 1) (p + 2) e) ∧ iv X 26 n = sc ∧ 0 ≤ sc := by
  unfold iv at *
  obtain ⟨h1, h2, h3, h4, h⟩ := h.inv
  unfold UV at h
  rcases h with ⟨a, b, c, d⟩ | ⟨a, b, c⟩ | ⟨a, u, v, p, b, c, d, f, g⟩ | ⟨p, q, a, b, c, d, f, g⟩ | ⟨a, b, m, p, q, c, d, f, g, i⟩ | ⟨a, b, p, q, c, d, f, g, i, j⟩ | ⟨a, m, p, q, u, b, c, d, f, g, i, j, k⟩ | ⟨a, b, m1, m2, p, q, u, c, d, f, g, i, j, k, l, o, w, x, y, z, t⟩ | ⟨a, b, c, d, f, m, p, g, i, j, k⟩ | ⟨a, b, c, q, d, f, g⟩ | ⟨a, b, c, d⟩ | ⟨a, b, p, q, c, d, f, g, i⟩
  · exfalso; omega
  · exfalso; omega
  · exfalso; omega
  · exfalso; omega
  · exfalso; omega
  · exfalso; omega
  · exfalso; omega
  · exfalso; omega
  · exact ⟨h4, p, ⟨_, _, g.2⟩, i, j, ⟨_, _, k.2⟩, c, d⟩
  · exfalso; omega
  · exfalso; omega
  · exfalso; omega
theorem CX.k4 (h : CX X n lo hi sc s e) (k0 : iv X 20 n = 4) : OA X s 0 n ∧ ∃ (q l r : Nat), LSC (CX X) X n l r sc 0 (s + 1) q ∧ OA X q 18 n ∧ e = q + 1 := by
  unfold iv at *
  obtain ⟨h1, h2, h3, h4, h⟩ := h.inv
  unfold UV at h
  rcases h with ⟨a, b, c, d⟩ | ⟨a, b, c⟩ | ⟨a, u, v, p, b, c, d, f, g⟩ | ⟨p, q, a, b, c, d, f, g⟩ | ⟨a, b, m, p, q, c, d, f, g, i⟩ | ⟨a, b, p, q, c, d, f, g, i, j⟩ | ⟨a, m, p, q, u, b, c, d, f, g, i, j, k⟩ | ⟨a, b, m1, m2, p, q, u, c, d, f, g, i, j, k, l, o, w, x, y, z, t⟩ | ⟨a, b, c, d, f, m, p, g, i, j, k⟩ | ⟨a, b, c, q, d, f, g⟩ | ⟨a, b, c, d⟩ | ⟨a, b, p, q, c, d, f, g, i⟩
  · exfalso; omega
  · exfalso; omega
  · exfalso; omega
  · exfalso; omega
  · exfalso; omega
  · exfalso; omega
  · exfalso; omega
  · exfalso; omega
  · exfalso; omega
  · exact ⟨h4, q, _, _, d, f, g⟩
  · exfalso; omega
  · exfalso; omega
theorem CX.k9 (h : CX X n lo hi sc s e) (k0 : iv X 20 n = 9) : OA X s 0 n ∧ 1 ≤ iv X 27 n ∧ ∃ (l r : Nat), LSC (CX X) X n l r sc 1 (s + 1) e := by
  unfold iv at *
  obtain ⟨h1, h2, h3, h4, h⟩ := h.inv
  unfold UV at h
  rcases h with ⟨a, b, c, d⟩ | ⟨a, b, c⟩ | ⟨a, u, v, p, b, c, d, f, g⟩ | ⟨p, q, a, b, c, d, f, g⟩ | ⟨a, b, m, p, q, c, d, f, g, i⟩ | ⟨a, b, p, q, c, d, f, g, i, j⟩ | ⟨a, m, p, q, u, b, c, d, f, g, i, j, k⟩ | ⟨a, b, m1, m2, p, q, u, c, d, f, g, i, j, k, l, o, w, x, y, z, t⟩ | ⟨a, b, c, d, f, m, p, g, i, j, k⟩ | ⟨a, b, c, q, d, f, g⟩ | ⟨a, b, c, d⟩ | ⟨a, b, p, q, c, d, f, g, i⟩
  · exfalso; omega
  · exfalso; omega
  · exfalso; omega
  · exfalso; omega
  · exfalso; omega
  · exfalso; omega
  · exfalso; omega
  · exfalso; omega
  · exfalso; omega
  · exfalso; omega
  · exact ⟨h4, c, _, _, d⟩
  · exfalso; omega
theorem CX.k11 (h : CX X n lo hi sc s e) (k0 : iv X 20 n = 11) : OA X s 0 n ∧ ∃ p q, (∃ (l r : Nat), CX X (ix (X.1 23 n)) l r sc (s + 1) p) ∧ OA X p 7 n ∧ (∃ (l r : Nat), LSC (CX X) X n l r sc 2 (p + 1) q) ∧ OA X q 28 n ∧ e = q + 1 := by
  unfold iv at *
  obtain ⟨h1, h2, h3, h4, h⟩ := h.inv
  unfold UV at h
  rcases h with ⟨a, b, c, d⟩ | ⟨a, b, c⟩ | ⟨a, u, v, p, b, c, d, f, g⟩ | ⟨p, q, a, b, c, d, f, g⟩ | ⟨a, b, m, p, q, c, d, f, g, i⟩ | ⟨a, b, p, q, c, d, f, g, i, j⟩ | ⟨a, m, p, q, u, b, c, d, f, g, i, j, k⟩ | ⟨a, b, m1, m2, p, q, u, c, d, f, g, i, j, k, l, o, w, x, y, z, t⟩ | ⟨a, b, c, d, f, m, p, g, i, j, k⟩ | ⟨a, b, c, q, d, f, g⟩ | ⟨a, b, c, d⟩ | ⟨a, b, p, q, c, d, f, g, i⟩
  · exfalso; omega
  · exfalso; omega
  · exfalso; omega
  · exfalso; omega
  · exfalso; omega
  · exfalso; omega
  · exfalso; omega
  · exfalso; omega
  · exfalso; omega
  · exfalso; omega
  · exfalso; omega
  · exact ⟨h4, p, q, ⟨_, _, c.2⟩, d, ⟨_, _, f⟩, g, i⟩
end CXK
