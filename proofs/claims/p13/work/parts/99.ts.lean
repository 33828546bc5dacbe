/-! the frames of a run -/
def okk (u : Bool) (X : St) (p : Nat) : Int32 := if u = true then 2 else okv X p
def pkk (u : Bool) (X : St) (p i : Nat) : Int32 := if u = true then 2 else pkv X p i
def ety (u : Bool) (X : St) (p : Nat) : Ty := (0, fun _ => 0, ix (X.1 15 p), fun i => pkk u X p i)
/-- stack and names of a frame are as its type says -/
def FRT (u : Bool) (X : St) (G : Nat → Int32) (t : Ty) (sb lb : Nat) : Prop := (∀ j, j < t.1 → VV u X G (t.2.1 j) (X.1 60 (sb + j)) (X.1 61 (sb + j))) ∧ ∀ j, j < t.2.2.1 → VV u X G (t.2.2.2 j) (X.1 62 (lb + j)) (X.1 63 (lb + j))
def resK (X : St) (k : Int32) : Int32 := cmpK X k (ix (X.1 5 (ix k)) - 1)
/-- n frames of wrappings, from b on: what kr is turned into -/
def WCH (X : St) : Nat → Nat → Int32 → Int32 → Prop
  | 0, _, kr, kc => kr = kc
  | n + 1, b, kr, kc => ∃ w : Nat, (X.1 76 (b + n)).toInt = (w : Int) ∧ (w : Int) < (X.1 0 33).toInt ∧ wrp X w ∧ (VK X (X.1 68 w) ∧ VK X (X.1 69 w) ∧ so X (X.1 69 w) = 5 ∧ so X (X.1 68 w) = 5) ∧ kr = resK X (X.1 68 w) ∧ WCH X n b (resK X (X.1 69 w)) kc
/-- the frames below -/
def LOW (u : Bool) (X : St) (G : Nat → Int32) (po : Nat → Nat) (PTs : Nat → Nat → Ty) : Nat → Nat → Nat → Int32 → Prop
  | 0, b, sb, _ => b = 1 ∧ sb = 0 ∧ (X.1 76 0).toInt < 0 ∧ (X.1 77 0).toInt = -1
  | c + 1, b, sb, kr => ∃ p rp d n b' sb' : Nat, (b = b' + n + 1 ∧ n ≤ 20 ∧ sb = sb' + d) ∧ ((X.1 76 (b' + n)).toInt < 0 ∧ (X.1 77 (b' + n)).toInt = (rp : Int) ∧ (X.1 78 (b' + n)).toInt = 45 * (c : Int)) ∧ ((p : Int) < (X.1 0 18).toInt ∧ po p < rp ∧ rp < po (p + 1) ∧ ¬ LFP X rp) ∧ (PTs p rp).1 = d + 1 ∧ (PTs p rp).2.2.1 ≤ 44 ∧ ((∀ j, j < d → VV u X G ((PTs p rp).2.1 j) (X.1 60 (sb' + j)) (X.1 61 (sb' + j))) ∧ ∀ j, j < (PTs p rp).2.2.1 → VV u X G ((PTs p rp).2.2.2 j) (X.1 62 (45 * c + j)) (X.1 63 (45 * c + j))) ∧ WCH X n b' kr ((PTs p rp).2.1 d) ∧ LOW u X G po PTs c b' sb' (okk u X p)
theorem FRT.te {u : Bool} {X : St} {G : Nat → Int32} {t t1 : Ty} {sb lb : Nat} (h : FRT u X G t sb lb) (ht : TE t t1) : FRT u X G t1 sb lb := by
  obtain ⟨a, b, c, d⟩ := ht
  refine ⟨fun j hj => ?_, fun j hj => ?_⟩
  · rw [b j (by omega)]
    exact h.1 j (by omega)
  · rw [d j hj]
    exact h.2 j (by omega)
theorem FRT.hx {u : Bool} {X Y : St} {G G1 : Nat → Int32} {t : Ty} {sb lb : Nat} (h : FRT u X G t sb lb) (hT : KT X) (hX : HX X Y G G1) (hs : ∀ j, sb ≤ j → j < sb + t.1 → Y.1 60 j = X.1 60 j ∧ Y.1 61 j = X.1 61 j) (hl : ∀ j, lb ≤ j → j < lb + t.2.2.1 → Y.1 62 j = X.1 62 j ∧ Y.1 63 j = X.1 63 j) : FRT u Y G1 t sb lb := by
  refine ⟨fun j hj => ?_, fun j hj => ?_⟩
  · obtain ⟨a, b⟩ := hs (sb + j) (by omega) (by omega)
    rw [a, b]
    exact (h.1 j hj).hx hT hX
  · obtain ⟨a, b⟩ := hl (lb + j) (by omega) (by omega)
    rw [a, b]
    exact (h.2 j hj).hx hT hX
theorem FRT.pps {u : Bool} {X : St} {G : Nat → Int32} {t : Ty} {sb lb : Nat} (h : FRT u X G t sb lb) (n : Nat) : FRT u X G (pps t n) sb lb := ⟨fun j hj => h.1 j (by have : j < t.1 - n := hj; omega), h.2⟩
theorem FRT.psh {u : Bool} {X : St} {G : Nat → Int32} {t : Ty} {sb lb : Nat} {k : Int32} (h : FRT u X G t sb lb) (hv : VV u X G k (X.1 60 (sb + t.1)) (X.1 61 (sb + t.1))) : FRT u X G (psh t k) sb lb := by
  refine ⟨fun j hj => ?_, h.2⟩
  have hj : j < t.1 + 1 := hj
  show VV u X G (tup t.2.1 t.1 k j) _ _
  by_cases q : j = t.1
  · rw [q, tup_at]
    exact hv
  · rw [tup_ne _ _ q]
    exact h.1 j (by omega)
theorem FRT.tp {u : Bool} {X : St} {G : Nat → Int32} {t : Ty} {sb lb : Nat} (h : FRT u X G t sb lb) {i : Nat} (hi : i < t.1) : VV u X G (tp t i) (X.1 60 (sb + (t.1 - 1 - i))) (X.1 61 (sb + (t.1 - 1 - i))) := h.1 _ (by omega)
theorem resK.kx {X Y : St} {k : Int32} (hT : KT X) (hK : KX X Y) (h : VK X k) (hs : so X k = 5) : resK Y k = resK X k := by
  have e := ixc h.1
  have hc := h.cases hT
  obtain ⟨a, b, -⟩ := hK.2.2.1 (ix k) (by have := h.2; omega)
  unfold resK
  rw [b]
  have e5 : (X.1 5 (ix k)).toInt = km X k := rfl
  have e6 := ixc (z := X.1 5 (ix k)) (by omega)
  exact cmpK_kx hT hK h.1 h.2 (by omega)
theorem WCH.hx {X Y : St} {G G1 : Nat → Int32} (hT : KT X) (hX : HX X Y G G1) {b : Nat} : ∀ (n : Nat) (kr kc : Int32), (∀ j, j < b + n → Y.1 76 j = X.1 76 j) → WCH X n b kr kc → WCH Y n b kr kc
  | 0, _, _, _, h => h
  | n + 1, kr, kc, h76, h => by
    obtain ⟨w, w1, w2, w3, ⟨w4, w5, w6, w7⟩, w8, w9⟩ := h
    obtain ⟨⟨d1, -⟩, ⟨-, d8, d9, -⟩, -⟩ := hX.2.2.1 w w2
    have h33 := hX.2.1
    refine ⟨w, by rw [h76 _ (by omega)]; exact w1, by omega, by unfold wrp; rw [d1]; exact w3, ⟨by rw [d8]; exact w4.kx hX.1, by rw [d9]; exact w5.kx hX.1, by rw [d9, (w5.so_kx hX.1).1]; exact w6, by rw [d8, (w4.so_kx hX.1).1]; exact w7⟩, by rw [d8, resK.kx hT hX.1 w4 w7]; exact w8, ?_⟩
    rw [d9, resK.kx hT hX.1 w5 w6]
    exact WCH.hx hT hX n _ _ (fun j hj => h76 j (by omega)) w9
theorem okk.hx {u : Bool} {X Y : St} {G G1 : Nat → Int32} (hX : HX X Y G G1) (p : Nat) : okk u Y p = okk u X p := by
  unfold okk okv
  rw [(hX.2.2.2.1 p).2.2.1, (hX.2.2.2.1 p).2.2.2]
theorem pkk.hx {u : Bool} {X Y : St} {G G1 : Nat → Int32} (hX : HX X Y G G1) (p i : Nat) : pkk u Y p i = pkk u X p i := by
  unfold pkk pkv
  rw [(hX.2.2.2.1 (4 * p + i)).2.1, (hX.2.2.2.1 p).2.2.2]
theorem LOW.hx {u : Bool} {X Y : St} {G G1 : Nat → Int32} {po : Nat → Nat} {PTs : Nat → Nat → Ty} (hT : KT X) (hX : HX X Y G G1) (hL : ∀ j, LFP Y j → LFP X j) : ∀ (c b sb : Nat) (kr : Int32), (∀ j, j < b → Y.1 76 j = X.1 76 j ∧ Y.1 77 j = X.1 77 j ∧ Y.1 78 j = X.1 78 j) → (∀ j, j < sb → Y.1 60 j = X.1 60 j ∧ Y.1 61 j = X.1 61 j) → (∀ j, j < 45 * c → Y.1 62 j = X.1 62 j ∧ Y.1 63 j = X.1 63 j) → LOW u X G po PTs c b sb kr → LOW u Y G1 po PTs c b sb kr
  | 0, b, sb, kr, hb, hs, hl, ⟨h1, h2, h3, h4⟩ => by
    obtain ⟨b1, b2, -⟩ := hb 0 (by omega)
    exact ⟨h1, h2, by rw [b1]; exact h3, by rw [b2]; exact h4⟩
  | c + 1, b, sb, kr, hb, hs, hl, h => by
    obtain ⟨p, rp, d, n, b', sb', ⟨e1, e2, e3⟩, ⟨e4, e5, e6⟩, ⟨e7, e8, e9, e10⟩, e11, e12, ⟨e13, e14⟩, e15, e16⟩ := h
    obtain ⟨b1, b2, b3⟩ := hb (b' + n) (by omega)
    refine ⟨p, rp, d, n, b', sb', ⟨e1, e2, e3⟩, ⟨by rw [b1]; exact e4, by rw [b2]; exact e5, by rw [b3]; exact e6⟩, ⟨by rw [hX.2.2.2.2]; exact e7, e8, e9, fun q => e10 (hL _ q)⟩, e11, e12, ⟨fun j hj => ?_, fun j hj => ?_⟩, WCH.hx hT hX n _ _ (fun j hj => (hb j (by omega)).1) e15, ?_⟩
    · obtain ⟨s1, s2⟩ := hs (sb' + j) (by omega)
      rw [s1, s2]
      exact (e13 j hj).hx hT hX
    · obtain ⟨s1, s2⟩ := hl (45 * c + j) (by omega)
      rw [s1, s2]
      exact (e14 j hj).hx hT hX
    · rw [okk.hx hX]
      exact LOW.hx hT hX hL c b' sb' _ (fun j hj => hb j (by omega)) (fun j hj => hs j (by omega)) (fun j hj => hl j (by omega)) e16
theorem LOW.bd {u : Bool} {X : St} {G : Nat → Int32} {po : Nat → Nat} {PTs : Nat → Nat → Ty} : ∀ (c b sb : Nat) (kr : Int32), LOW u X G po PTs c b sb kr → 1 ≤ b ∧ b ≤ 21 * c + 1 ∧ (X.1 76 (b - 1)).toInt < 0
  | 0, b, sb, kr, ⟨h1, h2, h3, h4⟩ => by
    subst h1
    exact ⟨Nat.le_refl _, by omega, h3⟩
  | c + 1, b, sb, kr, h => by
    obtain ⟨p, rp, d, n, b', sb', ⟨e1, e2, e3⟩, ⟨e4, e5, e6⟩, -, -, -, -, -, e16⟩ := h
    have := LOW.bd c b' sb' _ e16
    refine ⟨by omega, by omega, ?_⟩
    rw [show b - 1 = b' + n by omega]
    exact e4
/-! the code of a run stays -/
theorem VK.soj {X Y : St} {k : Int32} (h : VK X k) (hK : KX X Y) : so Y k = so X k := (h.so_kx hK).1
theorem LFP.jw {X Y : St} {S : Nat → Prop} (hJ : JW X Y S) {p : Nat} : LFP Y p ↔ LFP X p := by
  unfold LFP
  rw [(hJ.1.1 p).2.2.2.2.2.2.2.2.1, (hJ.1.1 p).2.2.2.2.2.2.2.2.2, (hJ.1.1 (ix (X.1 41 p))).2.2.2.2.2.1]
theorem NX.jw {X Y : St} {S : Nat → Prop} (hJ : JW X Y S) {e o p : Nat} (h : NX X e o p) : NX Y e o p := by
  refine ⟨h.1, ?_⟩
  rw [(hJ.1.1 o).2.2.2.2.2.2.2.2.1]
  rcases h.2 with a | a | a
  · exact Or.inl a
  · exact Or.inr (Or.inl a)
  · exact Or.inr (Or.inr (fun q => a ((LFP.jw hJ).mp q)))
theorem IK.kx {u : Bool} {z : Int} {X Y : St} {k : Int32} (h : IK u z X k) (hK : KX X Y) : IK u z Y k := by
  rcases h with h | ⟨h1, h2, h3⟩
  · exact Or.inl h
  · exact Or.inr ⟨h1, h2.kx hK, by rw [h2.soj hK]; exact h3⟩
theorem PK.kx {u : Bool} {z : Int} {X Y : St} {k : Int32} (h : PK u z X k) (hK : KX X Y) : PK u z Y k := by
  rcases h with h | ⟨h1, h2, h3⟩
  · exact Or.inl h
  · exact Or.inr ⟨h1, h2.kx hK, by rw [h2.soj hK]; exact h3⟩
theorem MK.kx {u : Bool} {X Y : St} {r e : Int32} (h : MK u X r e) (hT : KT X) (hK : KX X Y) : MK u Y r e := by
  rcases h with h | ⟨h1, h2⟩
  · exact Or.inl h
  · exact Or.inr ⟨h1, h2.kx hT hK⟩
theorem TK.kx {u : Bool} {X Y : St} {r e : Int32} (h : TK u X r e) (hT : KT X) (hK : KX X Y) : TK u Y r e := by
  rcases h with h | ⟨h1, h2⟩
  · exact Or.inl h
  · exact Or.inr ⟨h1, h2.kx hT hK⟩
theorem ckd.kx {u : Bool} {X Y : St} {k : Int32} {m i : Nat} (h : TF u X k m) (hi : i ≤ m) (hT : KT X) (hK : KX X Y) : ckd u Y k i = ckd u X k i := by
  unfold ckd
  rcases h with ⟨h1, h2⟩ | ⟨h1, h2⟩
  · rw [if_pos h1, if_pos h1]
  · have : ¬ u = true := by rw [h1]; decide
    rw [if_neg this, if_neg this]
    exact cmpK_kx hT hK h2.1 h2.2.1 (by have := h2.2.2.2; omega)
theorem TF.kx {u : Bool} {X Y : St} {k : Int32} {m : Nat} (h : TF u X k m) (hK : KX X Y) : TF u Y k m := by
  rcases h with h | ⟨h1, h2⟩
  · exact Or.inl h
  · exact Or.inr ⟨h1, h2.kx hK⟩
theorem GDR.jw {u : Bool} {X Y : St} {o op n : Nat} {k k1 : Int32} (h : GDR u X o op n k k1) (hT : KT X) (hJ : JW X Y (fun _ => False)) : GDR u Y o op n k k1 := by
  rcases h with ⟨h1, h2, h3, h4⟩ | ⟨h1, h2⟩
  · exact Or.inl ⟨h1, h2.jw hT hJ (fun q => q) h3 h4, h3.kx hJ.2.1, h4.kx hJ.2.1⟩
  · refine Or.inr ⟨h1, ?_⟩
    rw [(hJ.1.1 n).2.2.2.2.2.1]
    exact h2
theorem LF.jw {u : Bool} {X Y : St} {op n : Nat} {t : Ty} {k : Int32} (h : LF u X op n t k) (hT : KT X) (hJ : JW X Y (fun _ => False)) : LF u Y op n t k := by
  have r26 : Y.1 26 n = X.1 26 n := (hJ.1.1 n).2.2.2.2.1
  rcases h with ⟨h1, h2⟩ | ⟨h1, v, h2, h3⟩ | ⟨h1, p, h2, h3, h4⟩
  · exact Or.inl ⟨h1, h2.kx hJ.2.1⟩
  · exact Or.inr (Or.inl ⟨h1, v, by rw [r26]; exact h2, h3⟩)
  · refine Or.inr (Or.inr ⟨h1, p, by rw [r26]; exact h2, by rw [hJ.1.2]; exact h3, ?_⟩)
    rcases h4 with h4 | ⟨a1, a2, a3, a4, a5⟩
    · exact Or.inl h4
    · have a45 := a3.2.2.2
      have e15 := ixc a2
      have pk : ∀ i, pkv Y p i = pkv X p i := fun i => by
        unfold pkv
        rw [(hJ.1.1 p).2.2.2.1, (hJ.1.1 (4 * p + i)).2.1]
      have ok1 : okv Y p = okv X p := by
        unfold okv
        rw [(hJ.1.1 p).2.2.2.1, (hJ.1.1 p).2.2.1]
      refine Or.inr ⟨a1, by rw [(hJ.1.1 p).1]; exact a2, by rw [(hJ.1.1 p).1]; exact a3.kx hJ.2.1, fun i hi => ?_, ?_⟩
      · rw [(hJ.1.1 p).1] at hi
        rw [cmpK_kx hT hJ.2.1 a3.1 a3.2.1 (by omega), pk]
        exact a4 i hi
      · rw [(hJ.1.1 p).1, ok1, cmpK_kx hT hJ.2.1 a3.1 a3.2.1 (by omega)]
        exact a5
theorem SR.jw {u : Bool} {X Y : St} {PT : Nat → Ty} {s e o : Nat} (h : SR u X PT s e o) (hT : KT X) (hJ : JW X Y (fun _ => False)) : SR u Y PT s e o := by
  obtain ⟨hv, op, n, hoa, hn, h⟩ := h
  have hK := hJ.2.1
  have r26 : Y.1 26 n = X.1 26 n := (hJ.1.1 n).2.2.2.2.1
  have r27 : Y.1 27 n = X.1 27 n := (hJ.1.1 n).2.2.2.2.2.1
  have r46 : Y.1 46 n = X.1 46 n := (hJ.1.1 n).2.2.2.2.2.2.1
  have r47 : Y.1 47 n = X.1 47 n := (hJ.1.1 n).2.2.2.2.2.2.2.1
  have r40 : Y.1 40 o = X.1 40 o := (hJ.1.1 o).2.2.2.2.2.2.2.2.1
  have r41 : Y.1 41 o = X.1 41 o := (hJ.1.1 o).2.2.2.2.2.2.2.2.2
  refine ⟨hv, op, n, ⟨by rw [r40]; exact hoa.1, by rw [r41]; exact hoa.2⟩, hn, ?_⟩
  rw [r26, r27, r46, r47]
  have tt : ∀ {t : Ty} {q : Nat}, TN X PT s e o t q → TN Y PT s e o t q := fun g => ⟨g.1, g.2.jw hJ⟩
  rcases h with ⟨a, b⟩ | ⟨k, a, c⟩ | ⟨a, b, k, c, f⟩ | ⟨a, b, v, c, d, f, g⟩ | ⟨a, b, d, q, f, g⟩ | ⟨a, q, b, c⟩ | ⟨a, b⟩ | ⟨a, m, r, e1, b, c, d, f, g, i⟩ | ⟨a, b, r, d, f⟩ | ⟨a, b, k, c, d, f⟩ | ⟨a, b, k, c, c2, d⟩ | ⟨a, b, e1, d, g⟩ | ⟨a, b, d, f⟩ | ⟨a, m, b, c, d, f, g, i⟩ | ⟨a, b, c⟩
  · exact (Or.inl ⟨a, tt b⟩)
  · exact (Or.inr (Or.inl ⟨k, a.jw hT hJ, tt c⟩))
  · exact (Or.inr (Or.inr (Or.inl ⟨a, b, k, c.jw hT hJ, tt f⟩)))
  · exact (Or.inr (Or.inr (Or.inr (Or.inl ⟨a, b, v, c, d, f, tt g⟩))))
  · exact (Or.inr (Or.inr (Or.inr (Or.inr (Or.inl ⟨a, ⟨b.1, b.2.kx hK⟩, tt d, q, f, tt g⟩)))))
  · exact (Or.inr (Or.inr (Or.inr (Or.inr (Or.inr (Or.inl ⟨a, q, b, tt c⟩))))))
  · exact (Or.inr (Or.inr (Or.inr (Or.inr (Or.inr (Or.inr (Or.inl ⟨a, tt b⟩)))))))
  · exact (Or.inr (Or.inr (Or.inr (Or.inr (Or.inr (Or.inr (Or.inr (Or.inl ⟨a, m, r, e1, b, c, d, f, g.kx hT hK, tt i⟩))))))))
  · exact (Or.inr (Or.inr (Or.inr (Or.inr (Or.inr (Or.inr (Or.inr (Or.inr (Or.inl ⟨a, ⟨b.1, b.2.kx hK⟩, r, d.kx hT hK, tt f⟩)))))))))
  · refine (Or.inr (Or.inr (Or.inr (Or.inr (Or.inr (Or.inr (Or.inr (Or.inr (Or.inr (Or.inl ⟨?_, b, k, c.kx hK, fun q => (d q).kx hK, tt f⟩))))))))))
    rcases a with ⟨a, e1, a2⟩ | a
    · exact Or.inl ⟨a, e1, a2.kx hT hK⟩
    · exact Or.inr a
  · exact (Or.inr (Or.inr (Or.inr (Or.inr (Or.inr (Or.inr (Or.inr (Or.inr (Or.inr (Or.inr (Or.inl ⟨a, ⟨b.1, b.2.1.kx hK, b.2.2.kx hK⟩, k, c.kx hK, c2, tt d⟩)))))))))))
  · exact (Or.inr (Or.inr (Or.inr (Or.inr (Or.inr (Or.inr (Or.inr (Or.inr (Or.inr (Or.inr (Or.inr (Or.inl ⟨a, ⟨b.1, b.2.kx hK⟩, e1, d.kx hT hK, tt g⟩))))))))))))
  · exact (Or.inr (Or.inr (Or.inr (Or.inr (Or.inr (Or.inr (Or.inr (Or.inr (Or.inr (Or.inr (Or.inr (Or.inr (Or.inl ⟨a, ⟨b.1, b.2.kx hK⟩, d.kx hT hK, tt f⟩)))))))))))))
  · refine (Or.inr (Or.inr (Or.inr (Or.inr (Or.inr (Or.inr (Or.inr (Or.inr (Or.inr (Or.inr (Or.inr (Or.inr (Or.inr (Or.inl ⟨a, m, b, c, d, f.kx hK, fun i2 hi2 => ?_, ?_⟩))))))))))))))
    · rw [ckd.kx f (by omega) hT hK]
      exact g i2 hi2
    · rw [ckd.kx f (Nat.le_refl _) hT hK]
      exact tt i
  · exact (Or.inr (Or.inr (Or.inr (Or.inr (Or.inr (Or.inr (Or.inr (Or.inr (Or.inr (Or.inr (Or.inr (Or.inr (Or.inr (Or.inr (⟨a, b, tt c⟩)))))))))))))))
/-- the code of all parts, with the types of its places -/
def RUNC (u : Bool) (X : St) (po : Nat → Nat) (PTs : Nat → Nat → Ty) : Prop := (0 ≤ (X.1 0 18).toInt ∧ (X.1 0 18).toInt ≤ 40) ∧ ∀ p : Nat, (p : Int) < (X.1 0 18).toInt → (0 ≤ (X.1 15 p).toInt ∧ (X.1 15 p).toInt ≤ 4) ∧ ((X.1 44 p).toInt = (po p : Int) ∧ po p + 1 < po (p + 1) ∧ po (p + 1) ≤ 24000) ∧ (X.1 40 (po p)).toInt = 0 ∧ PTs p (po p) = ety u X p ∧ (∀ o, po p ≤ o → o < po (p + 1) - 1 → SR u X (PTs p) (po p) (po (p + 1) - 1) o) ∧ (X.1 40 (po (p + 1) - 1)).toInt = 31 ∧ (PTs p (po (p + 1) - 1)).1 = 1 ∧ (PTs p (po (p + 1) - 1)).2.1 0 = okk u X p ∧ (PTs p (po (p + 1) - 1)).2.2.1 ≤ 44
theorem RUNC.jw {u : Bool} {X Y : St} {po : Nat → Nat} {PTs : Nat → Nat → Ty} (h : RUNC u X po PTs) (hT : KT X) (hJ : JW X Y (fun _ => False)) (h44 : ∀ p, Y.1 44 p = X.1 44 p) : RUNC u Y po PTs := by
  refine ⟨by rw [hJ.1.2]; exact h.1, fun p hp => ?_⟩
  rw [hJ.1.2] at hp
  obtain ⟨a1, a2, a3, a4, a5, a6, a7, a8, a9⟩ := h.2 p hp
  have pk : ∀ i, pkk u Y p i = pkk u X p i := fun i => by
    unfold pkk pkv
    rw [(hJ.1.1 p).2.2.2.1, (hJ.1.1 (4 * p + i)).2.1]
  have ok1 : okk u Y p = okk u X p := by
    unfold okk okv
    rw [(hJ.1.1 p).2.2.2.1, (hJ.1.1 p).2.2.1]
  have et : ety u Y p = ety u X p := by
    unfold ety
    rw [(hJ.1.1 p).1]
    exact congrArg (fun f => ((0, fun _ => 0, ix (X.1 15 p), f) : Ty)) (funext pk)
  rw [(hJ.1.1 p).1, h44, (hJ.1.1 (po p)).2.2.2.2.2.2.2.2.1, (hJ.1.1 (po (p + 1) - 1)).2.2.2.2.2.2.2.2.1, et, ok1]
  exact ⟨a1, a2, a3, a4, fun o b c => (a5 o b c).jw hT hJ, a6, a7, a8, a9⟩
