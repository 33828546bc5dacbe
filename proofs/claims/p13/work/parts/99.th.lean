/-- the judge over any tree -/
theorem CX.jp {r37 : Int32 → St → Option (Int32 × St)} {a1 a2 : Int32} {X0 : St} {n lo hi : Nat} {sc : Int} {s e : Nat} (h : CX X0 n lo hi sc s e) : JP r37 a1 a2 X0 n lo hi sc s e := by
  refine CX.ind (P := fun n lo hi sc s e => JP r37 a1 a2 X0 n lo hi sc s e) ?_ h
  rintro n lo hi sc s e ⟨hlo, hhi, hse, h0, h⟩
  rcases h with ⟨a, b, c, d⟩ | ⟨a, b, c⟩ | ⟨a, u, v, p, b, c, d, f, g⟩ | ⟨p, q, a, b, c, d, f, g⟩ | ⟨a, b, m, p, q, c, d, f, g, i⟩ | ⟨a, b, p, q, c, d, f, g, i, j⟩ | ⟨a, m, p, q, u, b, c, d, f, g, i, j, k⟩ | ⟨a, b, m1, m2, p, q, u, c, d, f, g, i, j, k, l, o, w, x, y, z, t⟩ | ⟨a, b, c, d, f, m, p, g, i, j, k⟩ | ⟨a, b, c, q, ⟨it, cu, ps, d⟩, f, g⟩ | ⟨a, b, c, ⟨it, cu, ps, d⟩⟩ | ⟨a, b, p, q, c, d, ⟨it, cu, ps, f⟩, g, i⟩
  · rcases d with ⟨-, d⟩ | ⟨-, d⟩ | ⟨-, d, d2, d3⟩ | ⟨k, d⟩
    · exact jp_0 hlo hhi hse h0 a b c d
    · exact jp_1 hlo hhi hse h0 a b c d
    · exact jp_2 hlo hhi hse h0 a b c d ⟨d2, d3⟩
    · exact jp_3 hlo hhi hse h0 k a b c d
  · exact jp_8 hlo hhi hse h0 a c
  · rcases b with ⟨-, rfl, rfl⟩ | ⟨-, rfl, rfl⟩ | ⟨-, rfl, rfl⟩ | ⟨-, rfl, rfl⟩
    · exact jp_6 hlo hhi hse h0 a c d f g
    · exact jp_7 hlo hhi hse h0 a c d f g
    · exact jp_12 hlo hhi hse h0 a c d f g
    · exact jp_13 hlo hhi hse h0 a c d f g
  · rcases f with ⟨-, f⟩ | ⟨-, f⟩
    · exact jp_14 hlo hhi hse h0 a b c d f g
    · exact jp_15 hlo hhi hse h0 a b c d f g
  · exact jp_5 hlo hhi hse h0 a c d f g i
  · exact jp_10 hlo hhi hse h0 c d f g i j
  · exact jp_10w hlo hhi hse h0 b c d f g i j k
  · exact jp_16 hlo hhi hse h0 a c d f g i j k l o w x y z t
  · exact jp_17 hlo hhi hse h0 b a ⟨c, d, f⟩ g i j k
  · exact jp_4 hlo hhi hse h0 a c d f g
  · exact jp_9 hlo hhi hse h0 a c d
  · exact jp_11 hlo hhi hse h0 b c d f g i
