/-! what a rule says, by its order -/
theorem SR.x0 {u : Bool} {X : St} {PT : Nat → Ty} {s e o : Nat} (h : SR u X PT s e o) (c0 : (X.1 40 o).toInt = 0) : (PT o).2.2.1 ≤ 44 ∧ ∃ op n : Nat, OA X o op n ∧ n < 3100 ∧ (op = 0 ∧ TN X PT s e o (PT o) (o + 1)) := by
  obtain ⟨hv, op, n, hoa, hn, h⟩ := h
  have o1 := hoa.1
  rcases h with ⟨a, b⟩ | ⟨k, a, c⟩ | ⟨a, b, k, c, f⟩ | ⟨a, b, v, c, d, f, g⟩ | ⟨a, b, d, q, f, g⟩ | ⟨a, q, b, c⟩ | ⟨a, b⟩ | ⟨a, m, r, e1, b, c, d, f, g, i⟩ | ⟨a, b, r, d, f⟩ | ⟨a, b, k, c, d, f⟩ | ⟨a, b, k, c, c2, d⟩ | ⟨a, b, e1, d, g⟩ | ⟨a, b, d, f⟩ | ⟨a, m, b, c, d, f, g, i⟩ | ⟨a, b, c⟩
  · exact ⟨hv, op, n, hoa, hn, ⟨a, b⟩⟩
  · unfold LF at a
    omega
  · unfold GOP at a
    omega
  · omega
  · omega
  · omega
  · omega
  · omega
  · omega
  · omega
  · omega
  · omega
  · omega
  · omega
  · omega
theorem SR.x1 {u : Bool} {X : St} {PT : Nat → Ty} {s e o : Nat} (h : SR u X PT s e o) (c0 : 1 ≤ (X.1 40 o).toInt ∧ (X.1 40 o).toInt ≤ 4) : (PT o).2.2.1 ≤ 44 ∧ ∃ op n : Nat, OA X o op n ∧ n < 3100 ∧ (∃ k, LF u X op n (PT o) k ∧ TN X PT s e o (psh (PT o) k) (o + 1)) := by
  obtain ⟨hv, op, n, hoa, hn, h⟩ := h
  have o1 := hoa.1
  rcases h with ⟨a, b⟩ | ⟨k, a, c⟩ | ⟨a, b, k, c, f⟩ | ⟨a, b, v, c, d, f, g⟩ | ⟨a, b, d, q, f, g⟩ | ⟨a, q, b, c⟩ | ⟨a, b⟩ | ⟨a, m, r, e1, b, c, d, f, g, i⟩ | ⟨a, b, r, d, f⟩ | ⟨a, b, k, c, d, f⟩ | ⟨a, b, k, c, c2, d⟩ | ⟨a, b, e1, d, g⟩ | ⟨a, b, d, f⟩ | ⟨a, m, b, c, d, f, g, i⟩ | ⟨a, b, c⟩
  · omega
  · exact ⟨hv, op, n, hoa, hn, ⟨k, a, c⟩⟩
  · unfold GOP at a
    omega
  · omega
  · omega
  · omega
  · omega
  · omega
  · omega
  · omega
  · omega
  · omega
  · omega
  · omega
  · omega
theorem SR.x2 {u : Bool} {X : St} {PT : Nat → Ty} {s e o : Nat} (h : SR u X PT s e o) (c0 : (5 ≤ (X.1 40 o).toInt ∧ (X.1 40 o).toInt ≤ 12) ∨ (X.1 40 o).toInt = 14 ∨ (X.1 40 o).toInt = 30) : (PT o).2.2.1 ≤ 44 ∧ ∃ op n : Nat, OA X o op n ∧ n < 3100 ∧ (GOP op ∧ 1 ≤ (PT o).1 ∧ ∃ k, GDR u X o op n (tp (PT o) 0) k ∧ TN X PT s e o (psh (pps (PT o) 1) k) (o + 1)) := by
  obtain ⟨hv, op, n, hoa, hn, h⟩ := h
  have o1 := hoa.1
  rcases h with ⟨a, b⟩ | ⟨k, a, c⟩ | ⟨a, b, k, c, f⟩ | ⟨a, b, v, c, d, f, g⟩ | ⟨a, b, d, q, f, g⟩ | ⟨a, q, b, c⟩ | ⟨a, b⟩ | ⟨a, m, r, e1, b, c, d, f, g, i⟩ | ⟨a, b, r, d, f⟩ | ⟨a, b, k, c, d, f⟩ | ⟨a, b, k, c, c2, d⟩ | ⟨a, b, e1, d, g⟩ | ⟨a, b, d, f⟩ | ⟨a, m, b, c, d, f, g, i⟩ | ⟨a, b, c⟩
  · omega
  · unfold LF at a
    omega
  · exact ⟨hv, op, n, hoa, hn, ⟨a, b, k, c, f⟩⟩
  · omega
  · omega
  · omega
  · omega
  · omega
  · omega
  · omega
  · omega
  · omega
  · omega
  · omega
  · omega
theorem SR.x3 {u : Bool} {X : St} {PT : Nat → Ty} {s e o : Nat} (h : SR u X PT s e o) (c0 : (X.1 40 o).toInt = 13) : (PT o).2.2.1 ≤ 44 ∧ ∃ op n : Nat, OA X o op n ∧ n < 3100 ∧ (op = 13 ∧ 1 ≤ (PT o).1 ∧ ∃ v : Nat, (X.1 26 n).toInt = (v : Int) ∧ v ≤ 43 ∧ v ≤ (PT o).2.2.1 ∧ TN X PT s e o ((PT o).1 - 1, (PT o).2.1, v + 1, tup (PT o).2.2.2 v (tp (PT o) 0)) (o + 1)) := by
  obtain ⟨hv, op, n, hoa, hn, h⟩ := h
  have o1 := hoa.1
  rcases h with ⟨a, b⟩ | ⟨k, a, c⟩ | ⟨a, b, k, c, f⟩ | ⟨a, b, v, c, d, f, g⟩ | ⟨a, b, d, q, f, g⟩ | ⟨a, q, b, c⟩ | ⟨a, b⟩ | ⟨a, m, r, e1, b, c, d, f, g, i⟩ | ⟨a, b, r, d, f⟩ | ⟨a, b, k, c, d, f⟩ | ⟨a, b, k, c, c2, d⟩ | ⟨a, b, e1, d, g⟩ | ⟨a, b, d, f⟩ | ⟨a, m, b, c, d, f, g, i⟩ | ⟨a, b, c⟩
  · omega
  · unfold LF at a
    omega
  · unfold GOP at a
    omega
  · exact ⟨hv, op, n, hoa, hn, ⟨a, b, v, c, d, f, g⟩⟩
  · omega
  · omega
  · omega
  · omega
  · omega
  · omega
  · omega
  · omega
  · omega
  · omega
  · omega
theorem SR.x4 {u : Bool} {X : St} {PT : Nat → Ty} {s e o : Nat} (h : SR u X PT s e o) (c0 : (X.1 40 o).toInt = 15) : (PT o).2.2.1 ≤ 44 ∧ ∃ op n : Nat, OA X o op n ∧ n < 3100 ∧ (op = 15 ∧ (1 ≤ (PT o).1 ∧ PK u 2 X (tp (PT o) 0)) ∧ TN X PT s e o (pps (PT o) 1) (o + 1) ∧ ∃ p : Nat, (X.1 46 n).toInt = (p : Int) ∧ TN X PT s e o (pps (PT o) 1) p) := by
  obtain ⟨hv, op, n, hoa, hn, h⟩ := h
  have o1 := hoa.1
  rcases h with ⟨a, b⟩ | ⟨k, a, c⟩ | ⟨a, b, k, c, f⟩ | ⟨a, b, v, c, d, f, g⟩ | ⟨a, b, d, q, f, g⟩ | ⟨a, q, b, c⟩ | ⟨a, b⟩ | ⟨a, m, r, e1, b, c, d, f, g, i⟩ | ⟨a, b, r, d, f⟩ | ⟨a, b, k, c, d, f⟩ | ⟨a, b, k, c, c2, d⟩ | ⟨a, b, e1, d, g⟩ | ⟨a, b, d, f⟩ | ⟨a, m, b, c, d, f, g, i⟩ | ⟨a, b, c⟩
  · omega
  · unfold LF at a
    omega
  · unfold GOP at a
    omega
  · omega
  · exact ⟨hv, op, n, hoa, hn, ⟨a, b, d, q, f, g⟩⟩
  · omega
  · omega
  · omega
  · omega
  · omega
  · omega
  · omega
  · omega
  · omega
  · omega
theorem SR.x5 {u : Bool} {X : St} {PT : Nat → Ty} {s e o : Nat} (h : SR u X PT s e o) (c0 : (X.1 40 o).toInt = 16) : (PT o).2.2.1 ≤ 44 ∧ ∃ op n : Nat, OA X o op n ∧ n < 3100 ∧ (op = 16 ∧ ∃ p : Nat, (X.1 47 n).toInt = (p : Int) ∧ TN X PT s e o (PT o) p) := by
  obtain ⟨hv, op, n, hoa, hn, h⟩ := h
  have o1 := hoa.1
  rcases h with ⟨a, b⟩ | ⟨k, a, c⟩ | ⟨a, b, k, c, f⟩ | ⟨a, b, v, c, d, f, g⟩ | ⟨a, b, d, q, f, g⟩ | ⟨a, q, b, c⟩ | ⟨a, b⟩ | ⟨a, m, r, e1, b, c, d, f, g, i⟩ | ⟨a, b, r, d, f⟩ | ⟨a, b, k, c, d, f⟩ | ⟨a, b, k, c, c2, d⟩ | ⟨a, b, e1, d, g⟩ | ⟨a, b, d, f⟩ | ⟨a, m, b, c, d, f, g, i⟩ | ⟨a, b, c⟩
  · omega
  · unfold LF at a
    omega
  · unfold GOP at a
    omega
  · omega
  · omega
  · exact ⟨hv, op, n, hoa, hn, ⟨a, q, b, c⟩⟩
  · omega
  · omega
  · omega
  · omega
  · omega
  · omega
  · omega
  · omega
  · omega
theorem SR.x13 {u : Bool} {X : St} {PT : Nat → Ty} {s e o : Nat} (h : SR u X PT s e o) (c0 : (X.1 40 o).toInt = 28) : (PT o).2.2.1 ≤ 44 ∧ ∃ op n : Nat, OA X o op n ∧ n < 3100 ∧ (op = 28 ∧ ∃ m : Nat, (X.1 27 n).toInt = (m : Int) ∧ m ≤ 4 ∧ m + 1 ≤ (PT o).1 ∧ TF u X (tp (PT o) m) m ∧ (∀ i, i < m → tp (PT o) (m - 1 - i) = ckd u X (tp (PT o) m) i) ∧ TN X PT s e o (psh (pps (PT o) (m + 1)) (ckd u X (tp (PT o) m) m)) (o + 1)) := by
  obtain ⟨hv, op, n, hoa, hn, h⟩ := h
  have o1 := hoa.1
  rcases h with ⟨a, b⟩ | ⟨k, a, c⟩ | ⟨a, b, k, c, f⟩ | ⟨a, b, v, c, d, f, g⟩ | ⟨a, b, d, q, f, g⟩ | ⟨a, q, b, c⟩ | ⟨a, b⟩ | ⟨a, m, r, e1, b, c, d, f, g, i⟩ | ⟨a, b, r, d, f⟩ | ⟨a, b, k, c, d, f⟩ | ⟨a, b, k, c, c2, d⟩ | ⟨a, b, e1, d, g⟩ | ⟨a, b, d, f⟩ | ⟨a, m, b, c, d, f, g, i⟩ | ⟨a, b, c⟩
  · omega
  · unfold LF at a
    omega
  · unfold GOP at a
    omega
  · omega
  · omega
  · omega
  · omega
  · omega
  · omega
  · omega
  · omega
  · omega
  · omega
  · exact ⟨hv, op, n, hoa, hn, ⟨a, m, b, c, d, f, g, i⟩⟩
  · omega
theorem SR.x14 {u : Bool} {X : St} {PT : Nat → Ty} {s e o : Nat} (h : SR u X PT s e o) (c0 : (X.1 40 o).toInt = 29) : (PT o).2.2.1 ≤ 44 ∧ ∃ op n : Nat, OA X o op n ∧ n < 3100 ∧ (op = 29 ∧ 1 ≤ (PT o).1 ∧ TN X PT s e o (pps (PT o) 1) (o + 1)) := by
  obtain ⟨hv, op, n, hoa, hn, h⟩ := h
  have o1 := hoa.1
  rcases h with ⟨a, b⟩ | ⟨k, a, c⟩ | ⟨a, b, k, c, f⟩ | ⟨a, b, v, c, d, f, g⟩ | ⟨a, b, d, q, f, g⟩ | ⟨a, q, b, c⟩ | ⟨a, b⟩ | ⟨a, m, r, e1, b, c, d, f, g, i⟩ | ⟨a, b, r, d, f⟩ | ⟨a, b, k, c, d, f⟩ | ⟨a, b, k, c, c2, d⟩ | ⟨a, b, e1, d, g⟩ | ⟨a, b, d, f⟩ | ⟨a, m, b, c, d, f, g, i⟩ | ⟨a, b, c⟩
  · omega
  · unfold LF at a
    omega
  · unfold GOP at a
    omega
  · omega
  · omega
  · omega
  · omega
  · omega
  · omega
  · omega
  · omega
  · omega
  · omega
  · omega
  · exact ⟨hv, op, n, hoa, hn, ⟨a, b, c⟩⟩
/-- what an order leaves that neither calls nor returns -/
def DOQ (u : Bool) (X Y : St) (G : Nat → Int32) (PT : Nat → Ty) (s e o sb lb : Nat) (r : Int32) : Prop := PER [13, 15, 31, 33, 34, 35, 36, 40, 43, 44, 45, 46, 800, 1000, 1200, 1400, 1600, 1800, 2000, 12000, 12200, 12400, 12600, 12800, 13000, 13200, 13400, 13600, 13800, 14000, 14200, 14400, 14600, 14800, 15000, 15800, 16000, 16200] X Y ∧ (0 ≤ (Y.1 0 46).toInt ∧ (Y.1 0 46).toInt ≤ 200) ∧ ((Y.1 0 43).toInt < 0 → (((X.1 40 o).toInt = 0 ∧ (Y.1 0 40).toInt = (X.1 0 40).toInt + 1 ∧ ¬ (X.1 0 40).toInt = (X.1 0 39).toInt) ∨ (¬ (X.1 40 o).toInt = 0 ∧ Y.1 0 40 = X.1 0 40)) ∧ ∃ (p : Nat) (t1 : Ty) (G1 : Nat → Int32), r.toInt = (p : Int) ∧ TN X PT s e o t1 p ∧ (t1.1 ≤ (PT o).1 ∨ (LFP X o ∧ t1.1 = (PT o).1 + 1)) ∧ HX X Y G G1 ∧ HP u Y G1 ∧ FRT u Y G1 t1 sb lb ∧ (Y.1 0 31).toInt = ((sb + t1.1 : Nat) : Int) ∧ BEL X Y sb lb)
theorem nxt {ρ : Type} {o1 : Int32} {o : Nat} {K : Int32 → Option (ρ × St)} {Q : ρ → St → Prop} (ho : o1.toInt = (o : Int)) (ho2 : o < 24000) (h : ∀ r : Int32, r.toInt = ((o + 1 : Nat) : Int) → ok (K r) Q) : ok (letV (o1 + (1 : Int32)) K) Q := by
  have z1 : (1 : Int32).toInt = 1 := rfl
  exact ok.add (by rw [z1]; omega) (fun x hx => h x (by rw [hx, z1]; omega))
section DO
variable {u : Bool} {X Y : St} {G : Nat → Int32} {PT : Nat → Ty} {s e o sb lb p : Nat} {r : Int32} {t t1 : Ty}
theorem INF.doq (h : INF u X Y G t1 sb lb) (hr : r.toInt = (p : Int)) (ht : TN X PT s e o t1 p) (hg : t1.1 ≤ (PT o).1 ∨ (LFP X o ∧ t1.1 = (PT o).1 + 1)) (h0 : ¬ (X.1 40 o).toInt = 0) : DOQ u X Y G PT s e o sb lb r := by
  refine ⟨h.1.mono (by decide), h.2.1, fun q => ?_⟩
  obtain ⟨G1, a, b, c, d, f⟩ := h.2.2 q
  exact ⟨Or.inr ⟨h0, h.1.1.1 0 40 (by decide)⟩, p, t1, G1, hr, ht, hg, a, b, c, d, f⟩
theorem DOQ.off {L : List Nat} (hP : PER L X Y) (hL : ∀ k ∈ L, k ∈ [13, 15, 31, 33, 34, 35, 36, 40, 43, 44, 45, 46, 800, 1000, 1200, 1400, 1600, 1800, 2000, 12000, 12200, 12400, 12600, 12800, 13000, 13200, 13400, 13600, 13800, 14000, 14200, 14400, 14600, 14800, 15000, 15800, 16000, 16200]) (h46 : 0 ≤ (X.1 0 46).toInt ∧ (X.1 0 46).toInt ≤ 200) (hl : 46 ∉ L) (h : 0 ≤ (Y.1 0 43).toInt) : DOQ u X Y G PT s e o sb lb r := ⟨hP.mono hL, by rw [hP.1.1 0 46 hl]; exact h46, fun q => by omega⟩
theorem FIN.inf (h : FIN u X G t sb lb) : INF u X X G t sb lb := by
  obtain ⟨⟨a1, a2, a3, a4⟩, a5, a6, a7, a8⟩ := h
  exact ⟨PER.rf a2, a8, fun _ => ⟨G, HX.rf, a1, a6, a7.1, BEL.rf⟩⟩
theorem INF.pop (h : FIN u X G t sb lb) (m : Nat) {z : Int32} (hz : z.toInt = ((sb + (t.1 - m) : Nat) : Int)) : INF u (X := X) (Y := wI X 0 31 z) G (pps t m) sb lb := by
  obtain ⟨p1, hF⟩ := h.pop m hz
  have hX : HX X (wI X 0 31 z) G G := HX.fr hF (KX.fr hF (by decide)) (by decide)
  exact ⟨(PER.fr h.1.2.1 hF (by decide)).mono (by decide), p1.2.2.2.2, fun _ => ⟨G, hX, p1.1.1, p1.2.2.1, p1.2.2.2.1.1, fun j _ => ⟨hF.1 60 j (show (12000 : Nat) ∉ [31] from by decide), hF.1 61 j (show (12200 : Nat) ∉ [31] from by decide)⟩, fun j _ => ⟨hF.1 62 j (show (12400 : Nat) ∉ [31] from by decide), hF.1 63 j (show (12600 : Nat) ∉ [31] from by decide)⟩⟩⟩
/-- a name is bound -/
theorem w_bind (h : FIN u X G t sb lb) (h1 : 1 ≤ t.1) {v : Nat} (hvt : v ≤ t.2.2.1) {z : Int32} (hz : z.toInt = ((sb + (t.1 - 1) : Nat) : Int)) : INF u X (wI (wI (wI X 0 31 z) 62 (lb + v) (X.1 60 (sb + (t.1 - 1)))) 63 (lb + v) (X.1 61 (sb + (t.1 - 1)))) G (t.1 - 1, t.2.1, v + 1, tup t.2.2.2 v (tp t 0)) sb lb := by
  obtain ⟨⟨a1, a2, a3, a4⟩, ⟨b1, b2, b3⟩, a6, ⟨c1, c2, c3, c4, c5⟩, a8⟩ := h
  have hF : Fr YR [31, 12400, 12600] X (wI (wI (wI X 0 31 z) 62 (lb + v) (X.1 60 (sb + (t.1 - 1)))) 63 (lb + v) (X.1 61 (sb + (t.1 - 1)))) := ((Fr.rf.wI 0 31 _ (show (31 : Nat) ∈ [31, 12400, 12600] from by decide)).wI 62 _ _ (show (12400 : Nat) ∈ [31, 12400, 12600] from by decide)).wI 63 _ _ (show (12600 : Nat) ∈ [31, 12400, 12600] from by decide)
  have y31 : (wI (wI (wI X 0 31 z) 62 (lb + v) (X.1 60 (sb + (t.1 - 1)))) 63 (lb + v) (X.1 61 (sb + (t.1 - 1)))).1 0 31 = z := by rw [wI_ne _ 63 _ _ 0 _ (by rintro ⟨a_, -⟩; exact absurd a_ (by decide)), wI_ne _ 62 _ _ 0 _ (by rintro ⟨a_, -⟩; exact absurd a_ (by decide)), wI_at]
  have y62 : (wI (wI (wI X 0 31 z) 62 (lb + v) (X.1 60 (sb + (t.1 - 1)))) 63 (lb + v) (X.1 61 (sb + (t.1 - 1)))).1 62 (lb + v) = X.1 60 (sb + (t.1 - 1)) := by rw [wI_ne _ 63 _ _ 62 _ (by rintro ⟨a_, -⟩; exact absurd a_ (by decide)), wI_at]
  have y63 : (wI (wI (wI X 0 31 z) 62 (lb + v) (X.1 60 (sb + (t.1 - 1)))) 63 (lb + v) (X.1 61 (sb + (t.1 - 1)))).1 63 (lb + v) = X.1 61 (sb + (t.1 - 1)) := wI_at _ _ _ _
  have n62 : ∀ j, j ≠ lb + v → (wI (wI (wI X 0 31 z) 62 (lb + v) (X.1 60 (sb + (t.1 - 1)))) 63 (lb + v) (X.1 61 (sb + (t.1 - 1)))).1 62 j = X.1 62 j := fun j hj => by rw [wI_ne _ 63 _ _ 62 _ (by rintro ⟨a_, -⟩; exact absurd a_ (by decide)), wI_ne _ 62 _ _ 62 _ (by rintro ⟨-, a_⟩; exact hj a_), wI_ne _ 0 _ _ 62 _ (by rintro ⟨a_, -⟩; exact absurd a_ (by decide))]
  have n63 : ∀ j, j ≠ lb + v → (wI (wI (wI X 0 31 z) 62 (lb + v) (X.1 60 (sb + (t.1 - 1)))) 63 (lb + v) (X.1 61 (sb + (t.1 - 1)))).1 63 j = X.1 63 j := fun j hj => by rw [wI_ne _ 63 _ _ 63 _ (by rintro ⟨-, a_⟩; exact hj a_), wI_ne _ 62 _ _ 63 _ (by rintro ⟨a_, -⟩; exact absurd a_ (by decide)), wI_ne _ 0 _ _ 63 _ (by rintro ⟨a_, -⟩; exact absurd a_ (by decide))]
  obtain ⟨Y, hY⟩ : ∃ Y : St, wI (wI (wI X 0 31 z) 62 (lb + v) (X.1 60 (sb + (t.1 - 1)))) 63 (lb + v) (X.1 61 (sb + (t.1 - 1))) = Y := ⟨_, rfl⟩
  rw [hY] at hF y31 y62 y63 n62 n63 ⊢
  have hK : KX X Y := KX.fr hF (by decide)
  have hX : HX X Y G G := HX.fr hF hK (by decide)
  have y60 : ∀ j, Y.1 60 j = X.1 60 j := fun j => hF.1 60 j (show (12000 : Nat) ∉ [31, 12400, 12600] from by decide)
  have y61 : ∀ j, Y.1 61 j = X.1 61 j := fun j => hF.1 61 j (show (12200 : Nat) ∉ [31, 12400, 12600] from by decide)
  refine ⟨(PER.fr a2 hF (by decide)).mono (by decide), by rw [hF.1 0 46 (by decide)]; exact a8, fun _ => ⟨G, hX, a1.same a2 hF hK (by decide) (by decide), ⟨fun j hj => ?_, fun j hj => ?_⟩, ?_, fun j _ => ⟨y60 j, y61 j⟩, fun j hj => ⟨n62 j (by omega), n63 j (by omega)⟩⟩⟩
  · have hj : j < t.1 - 1 := hj
    show VV u Y G (t.2.1 j) _ _
    rw [y60, y61]
    exact (a6.1 j (by omega)).hx a2 hX
  · have hj : j < v + 1 := hj
    show VV u Y G (tup t.2.2.2 v (tp t 0) j) _ _
    by_cases g : j = v
    · rw [g, tup_at, y62, y63]
      exact (a6.tp (i := 0) (by omega)).hx a2 hX
    · rw [tup_ne _ _ g, n62 _ (by omega), n63 _ (by omega)]
      exact (a6.2 j (by omega)).hx a2 hX
  · rw [y31]
    exact hz
theorem r_guard2 {op n : Nat} {o1 s1 at1 k1 : Int32} (h : FIN u X G t sb lb) (ho : o1.toInt = (o : Int)) (ho2 : o < 24000) (h1 : 1 ≤ t.1) (hg : GDR u X o op n (tp t 0) k1) (hsp : (op = 5 ∧ s1 = 0) ∨ (op = 6 ∧ s1 = 1) ∨ ((op = 8 ∨ op = 9) ∧ s1 = 3) ∨ (s1 = -1 ∧ ¬ op = 5 ∧ ¬ op = 6 ∧ ¬ op = 7 ∧ ¬ op = 8 ∧ ¬ op = 9)) (hgd : (X.1 0 28).toInt ≤ 12000) : ok (f_guarded o1 s1 at1 X) (fun _ Y => INF u X Y G (psh (pps t 1) k1) sb lb) := by
  have s1' : (op = 5 ∧ s1 = 0) ∨ (op = 6 ∧ s1 = 1) ∨ (op = 7 ∧ s1 = 4) ∨ ((op = 8 ∨ op = 9) ∧ s1 = 3) ∨ s1 = -1 := by
    rcases hsp with q | q | q | q
    · exact Or.inl q
    · exact Or.inr (Or.inl q)
    · exact Or.inr (Or.inr (Or.inr (Or.inl q)))
    · exact Or.inr (Or.inr (Or.inr (Or.inr q.1)))
  have s2 : (op = 5 ∧ s1 = 0) ∨ (op = 6 ∧ s1 = 1) ∨ (op = 7 ∧ s1 = 4) ∨ ((op = 8 ∨ op = 9) ∧ s1 = 3) ∨ (s1 = -1 ∧ ¬ op = 5 ∧ ¬ op = 6 ∧ ¬ op = 7 ∧ ¬ op = 8 ∧ ¬ op = 9) := by
    rcases hsp with q | q | q | q
    · exact Or.inl q
    · exact Or.inr (Or.inl q)
    · exact Or.inr (Or.inr (Or.inr (Or.inl q)))
    · exact Or.inr (Or.inr (Or.inr (Or.inr q)))
  have s7 : ¬ op = 7 := by
    rcases hsp with q | q | q | q <;> omega
  refine (r_guarded h ho ho2 h1 hg s1' hgd).mono ?_
  rintro r Y ⟨g1, g2⟩
  cases u with
  | false => exact g1 rfl
  | true =>
    rcases g2 rfl with ⟨rfl, q⟩ | ⟨hF, q⟩
    · exact INF.same h h1 (VV.met (h.2.2.1.tp (i := 0) (by omega)) hg s2 q (fun z => absurd z s7))
    · exact INF.off (PER.fr h.1.2.1 hF (by decide)) (by decide) h.2.2.2.2 (by decide) q
theorem w_join {n1 : Int32} : ok (f_works 17 n1 X) (fun _ Y => X = Y) := by
  unfold f_works
  refine ok.ite (fun c => absurd c (by decide)) (fun _ => ok.ite (fun c => absurd c (by decide)) (fun _ => ok.ite (fun c => absurd c (by decide)) (fun _ => ok.ite (fun c => absurd c (by decide)) (fun _ => ok.ite (fun c => absurd c (by decide)) (fun _ => ok.ite (fun c => absurd c (by decide)) (fun _ => ok.ite (fun c => absurd c (by decide)) (fun _ => ok.ite (fun c => absurd c (by decide)) (fun _ => ok.ite (fun c => absurd c (by decide)) (fun _ => ok.ite (fun c => absurd c (by decide)) (fun _ => ok.ret rfl))))))))))
theorem MK.two {k e1 : Int32} (h : MK u X k e1) : u = true → e1 = 2 := by
  rintro rfl
  rcases h with ⟨-, -, q⟩ | ⟨q, -⟩
  · exact q
  · exact absurd q (by decide)
/-- the orders that works() does -/
theorem r_works {n1 : Int32} (h : FIN u X G (PT o) sb lb) (hS : SR u X PT s e o) (h41 : X.1 41 o = n1) (hop : 17 ≤ (X.1 40 o).toInt ∧ (X.1 40 o).toInt ≤ 27) : ok (f_works (X.1 40 o) n1 X) (fun _ Y => ∃ t1, INF u X Y G t1 sb lb ∧ TN X PT s e o t1 (o + 1) ∧ (t1.1 ≤ (PT o).1 ∨ (LFP X o ∧ t1.1 = (PT o).1 + 1))) := by
  obtain ⟨hv, op, n, hoa, hn, hS⟩ := hS
  have o1 := hoa.1
  have hn1 : n1.toInt = (n : Int) := by rw [← h41]; exact hoa.2
  have en := ixn hn1
  have eqn : ∀ z : Int32, (op : Int) = z.toInt → X.1 40 o = z := fun z hz => Int32.toInt_inj.mp (by rw [o1]; exact hz)
  rcases hS with ⟨a, b⟩ | ⟨k, a, c⟩ | ⟨a, b, k, c, f⟩ | ⟨a, b, v, c, d, f, g⟩ | ⟨a, b, d, q, f, g⟩ | ⟨a, q, b, c⟩ | ⟨a, b⟩ | ⟨a, m, r, e1, b, c, d, f, g, i⟩ | ⟨a, b, r, d, f⟩ | ⟨a, b, k, c, d, f⟩ | ⟨a, b, k, c, c2, d⟩ | ⟨a, b, e1, d, g⟩ | ⟨a, b, d, f⟩ | ⟨a, m, b, c, d, f, g, i⟩ | ⟨a, b, c⟩
  · omega
  · unfold LF at a
    omega
  · unfold GOP at a
    omega
  · omega
  · omega
  · omega
  · rw [eqn 17 (by rw [a]; rfl)]
    refine w_join.mono ?_
    rintro r Y rfl
    exact ⟨PT o, h.inf, b, Or.inl (Nat.le_refl _)⟩
  · rw [eqn 18 (by rw [a]; rfl)]
    refine (w_row h hn1 hn b c d f g g.two).mono ?_
    rintro r1 Y hY
    refine ⟨_, hY, i, ?_⟩
    show (PT o).1 - m + 1 ≤ (PT o).1 ∨ (LFP X o ∧ (PT o).1 - m + 1 = (PT o).1 + 1)
    by_cases g0 : m = 0
    · refine Or.inr ⟨Or.inr ⟨by rw [o1, a]; rfl, ?_⟩, by omega⟩
      rw [h41, en, b, g0]
      rfl
    · exact Or.inl (by omega)
  · rw [eqn 19 (by rw [a]; rfl)]
    unfold f_works
    refine ok.ite (fun c => absurd c (by decide)) (fun _ => ok.ite (fun _ => ?_) (fun c => absurd (show (19 : Int32).toInt = 19 from rfl) c))
    refine ok.bd (w_new h hn1 hn b.1 d d.two) ?_
    rintro r1 Y hY
    exact ok.ret ⟨_, hY, f, Or.inl (show (PT o).1 - 2 + 1 ≤ (PT o).1 by omega)⟩
  · have key : ok (f_works (X.1 40 o) n1 X) (fun _ Y => INF u X Y G (psh (pps (PT o) 1) k) sb lb) := by
      rcases a with ⟨a, e1, a2⟩ | a | a | a
      · rw [eqn 20 (by rw [a]; rfl)]
        exact w_size h b a2 (by rw [if_neg (show ¬ op = 23 by omega)] at c; exact c)
      · rw [eqn 21 (by rw [a]; rfl)]
        exact w_print h hn1 hn b (by have d := d (Or.inl a); rw [if_neg (show ¬ op = 23 by omega)] at d; exact d) (by rw [if_neg (show ¬ op = 23 by omega)] at c; exact c)
      · rw [eqn 22 (by rw [a]; rfl)]
        exact w_minus h b (by have d := d (Or.inr (Or.inl a)); rw [if_neg (show ¬ op = 23 by omega)] at d; exact d) (by rw [if_neg (show ¬ op = 23 by omega)] at c; exact c)
      · rw [eqn 23 (by rw [a]; rfl)]
        exact w_not h b (by have d := d (Or.inr (Or.inr a)); rw [if_pos a] at d; exact d) (by rw [if_pos a] at c; exact c)
    refine key.mono ?_
    rintro r1 Y hY
    exact ⟨_, hY, f, Or.inl (show (PT o).1 - 1 + 1 ≤ (PT o).1 by omega)⟩
  · have key : ok (f_works (X.1 40 o) n1 X) (fun _ Y => INF u X Y G (psh (pps (PT o) 2) k) sb lb) := by
      rcases a with a | a
      · rw [eqn 24 (by rw [a]; rfl)]
        unfold f_works
        refine ok.ite (fun c => absurd c (by decide)) (fun _ => ok.ite (fun c => absurd c (by decide)) (fun _ => ok.ite (fun c => absurd c (by decide)) (fun _ => ok.ite (fun c => absurd c (by decide)) (fun _ => ok.ite (fun c => absurd c (by decide)) (fun _ => ok.ite (fun c => absurd c (by decide)) (fun _ => ok.ite (fun _ => ?_) (fun c => absurd (show (24 : Int32).toInt = 24 from rfl) c)))))))
        refine ok.bd (w_sums h hn1 hn b.1 (by rw [if_neg (show ¬ op = 25 by omega)] at c; exact c) (c2 a)) ?_
        rintro r1 Y hY
        exact ok.ret hY
      · rw [eqn 25 (by rw [a]; rfl)]
        exact w_compare h hn1 hn b.1 (by rw [if_pos a] at c; exact c)
    refine key.mono ?_
    rintro r1 Y hY
    exact ⟨_, hY, d, Or.inl (show (PT o).1 - 2 + 1 ≤ (PT o).1 by omega)⟩
  · rw [eqn 26 (by rw [a]; rfl)]
    unfold f_works
    refine ok.ite (fun c => absurd c (by decide)) (fun _ => ok.ite (fun c => absurd c (by decide)) (fun _ => ok.ite (fun c => absurd c (by decide)) (fun _ => ok.ite (fun c => absurd c (by decide)) (fun _ => ok.ite (fun c => absurd c (by decide)) (fun _ => ok.ite (fun c => absurd c (by decide)) (fun _ => ok.ite (fun c => absurd c (by decide)) (fun _ => ok.ite (fun c => absurd c (by decide)) (fun _ => ok.ite (fun _ => ?_) (fun c => absurd (show (26 : Int32).toInt = 26 from rfl) c)))))))))
    refine ok.bd (w_place h hn1 hn b.1 d) ?_
    rintro r1 Y hY
    exact ok.ret ⟨_, hY, g, Or.inl (show (PT o).1 - 2 + 1 ≤ (PT o).1 by omega)⟩
  · rw [eqn 27 (by rw [a]; rfl)]
    unfold f_works
    refine ok.ite (fun c => absurd c (by decide)) (fun _ => ok.ite (fun c => absurd c (by decide)) (fun _ => ok.ite (fun c => absurd c (by decide)) (fun _ => ok.ite (fun c => absurd c (by decide)) (fun _ => ok.ite (fun c => absurd c (by decide)) (fun _ => ok.ite (fun c => absurd c (by decide)) (fun _ => ok.ite (fun c => absurd c (by decide)) (fun _ => ok.ite (fun c => absurd c (by decide)) (fun _ => ok.ite (fun c => absurd c (by decide)) (fun _ => ok.ite (fun _ => ?_) (fun c => absurd (show (27 : Int32).toInt = 27 from rfl) c))))))))))
    refine ok.bd (w_assign h hn1 hn b.1 d) ?_
    rintro r1 Y hY
    exact ok.ret ⟨_, hY, f, Or.inl (show (PT o).1 - 3 + 1 ≤ (PT o).1 by omega)⟩
  · omega
  · omega
/-- a part is a value -/
theorem vv_part {q : Nat} {k w : Int32} (hw : w.toInt = (q : Int)) (hq : (q : Int) < (X.1 0 18).toInt) (h40 : (X.1 0 18).toInt ≤ 40) (hk : (u = true ∧ k = 2) ∨ (u = false ∧ 0 ≤ (X.1 15 q).toInt ∧ FNK X k (X.1 15 q).toInt ∧ (∀ i, i < ix (X.1 15 q) → cmpK X k i = pkv X q i) ∧ cmpK X k (ix (X.1 15 q)) = okv X q)) : VV u X G k 4 w := by
  have ew := ixn hw
  have fv : FV X w := Or.inl ⟨by omega, by omega, by omega⟩
  have n3 : ¬ (4 : Int32).toInt = 3 := by decide
  rcases hk with ⟨h1, h2⟩ | ⟨h1, h2, h3, h4, h5⟩
  · exact Or.inr ⟨h1, fun z => absurd z n3, fun _ => fv, Or.inl h2⟩
  · obtain ⟨a, b, c⟩ := h3.vk
    have e15 := ixc h2
    have fa : FA X w = (X.1 15 q).toInt := by
      unfold FA
      rw [if_pos (by omega), ew]
    refine Or.inl ⟨h1, a, fun z => absurd z n3, fun _ => fv, Or.inr (Or.inr (Or.inr ⟨b, rfl, by omega, fun i hi => ?_⟩))⟩
    unfold FC
    rw [if_neg (by decide), if_pos (by omega), ew]
    by_cases g : (i : Int) < (X.1 15 q).toInt
    · rw [if_pos g]
      exact (h4 i (by omega)).symm
    · have : i = ix (X.1 15 q) := by omega
      rw [if_neg g, this]
      exact h5.symm
end DO
