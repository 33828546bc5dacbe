/-! a step within a frame -/
def FIN (u : Bool) (X : St) (G : Nat → Int32) (t : Ty) (sb lb : Nat) : Prop := (HP u X G ∧ KT X ∧ K3 X ∧ PBD X) ∧ ((X.1 0 18).toInt ≤ 40 ∧ (X.1 0 43).toInt < 0 ∧ (u = true ↔ (X.1 0 42).toInt = 0)) ∧ FRT u X G t sb lb ∧ ((X.1 0 31).toInt = ((sb + t.1 : Nat) : Int) ∧ sb + t.1 ≤ 20000 ∧ (X.1 0 32).toInt = (lb : Int) ∧ lb ≤ 4455 ∧ t.2.2.1 ≤ 44) ∧ 0 ≤ (X.1 0 46).toInt ∧ (X.1 0 46).toInt ≤ 200
/-- what the run leaves unsaid below a frame stays -/
def BEL (X Y : St) (sb lb : Nat) : Prop := (∀ j, j < sb → Y.1 60 j = X.1 60 j ∧ Y.1 61 j = X.1 61 j) ∧ ∀ j, j < lb → Y.1 62 j = X.1 62 j ∧ Y.1 63 j = X.1 63 j
def INF (u : Bool) (X Y : St) (G : Nat → Int32) (t1 : Ty) (sb lb : Nat) : Prop := PER [13, 15, 31, 33, 34, 35, 36, 43, 44, 45, 46, 800, 1000, 1200, 1400, 1600, 1800, 2000, 12000, 12200, 12400, 12600, 12800, 13000, 13200, 13400, 13600, 13800, 14000, 14200, 14400, 14600, 14800, 15000, 15800, 16000, 16200] X Y ∧ (0 ≤ (Y.1 0 46).toInt ∧ (Y.1 0 46).toInt ≤ 200) ∧ ((Y.1 0 43).toInt < 0 → ∃ G1, HX X Y G G1 ∧ HP u Y G1 ∧ FRT u Y G1 t1 sb lb ∧ (Y.1 0 31).toInt = ((sb + t1.1 : Nat) : Int) ∧ BEL X Y sb lb)
theorem BEL.rf {X : St} {sb lb : Nat} : BEL X X sb lb := ⟨fun _ _ => ⟨rfl, rfl⟩, fun _ _ => ⟨rfl, rfl⟩⟩
theorem BEL.tr {X Y Z : St} {sb lb : Nat} (h : BEL X Y sb lb) (g : BEL Y Z sb lb) : BEL X Z sb lb := ⟨fun j hj => ⟨(g.1 j hj).1.trans (h.1 j hj).1, (g.1 j hj).2.trans (h.1 j hj).2⟩, fun j hj => ⟨(g.2 j hj).1.trans (h.2 j hj).1, (g.2 j hj).2.trans (h.2 j hj).2⟩⟩
theorem INF.off {u : Bool} {X Y : St} {G : Nat → Int32} {t1 : Ty} {sb lb : Nat} {L : List Nat} (hP : PER L X Y) (hL : ∀ k ∈ L, k ∈ [13, 15, 31, 33, 34, 35, 36, 43, 44, 45, 46, 800, 1000, 1200, 1400, 1600, 1800, 2000, 12000, 12200, 12400, 12600, 12800, 13000, 13200, 13400, 13600, 13800, 14000, 14200, 14400, 14600, 14800, 15000, 15800, 16000, 16200]) (h46 : 0 ≤ (X.1 0 46).toInt ∧ (X.1 0 46).toInt ≤ 200) (hl : 46 ∉ L) (h : 0 ≤ (Y.1 0 43).toInt) : INF u X Y G t1 sb lb := ⟨hP.mono hL, by rw [hP.1.1 0 46 hl]; exact h46, fun q => by omega⟩
theorem FIN.top {u : Bool} {X : St} {G : Nat → Int32} {t : Ty} {sb lb : Nat} (h : FIN u X G t sb lb) : ix (X.1 0 31) = sb + t.1 := ixn h.2.2.2.1.1
/-- n values go, one comes -/
theorem INF.push {u : Bool} {X Y : St} {G : Nat → Int32} {t : Ty} {sb lb n : Nat} {k s w : Int32} (h : FIN u X G t sb lb) (hF : Fr YR [31, 12000, 12200] X Y) (hn : n ≤ t.1) (h31 : (Y.1 0 31).toInt = ((sb + (t.1 - n) : Nat) : Int) + 1) (hs : Y.1 60 (sb + (t.1 - n)) = s) (hw : Y.1 61 (sb + (t.1 - n)) = w) (ho : ∀ j, j < sb + (t.1 - n) → Y.1 60 j = X.1 60 j ∧ Y.1 61 j = X.1 61 j) (hv : VV u X G k s w) : INF u X Y G (psh (pps t n) k) sb lb := by
  obtain ⟨⟨a1, a2, a3, a4⟩, a5, a6, a7, a8⟩ := h
  have hX : HX X Y G G := HX.fr hF (KX.fr hF (by decide)) (by decide)
  refine ⟨(PER.fr a2 hF (by decide)).mono (by decide), by rw [hF.1 0 46 (by decide)]; exact a8, fun _ => ⟨G, hX, a1.same a2 hF (KX.fr hF (by decide)) (by decide) (by decide), ?_, ?_, fun j hj => ho j (by omega), fun j _ => ⟨hF.1 62 j (show (12400 : Nat) ∉ [31, 12000, 12200] from by decide), hF.1 63 j (show (12600 : Nat) ∉ [31, 12000, 12200] from by decide)⟩⟩⟩
  · refine FRT.psh ((a6.pps n).hx a2 hX (fun j j1 j2 => ho j j2) (fun j _ _ => ⟨hF.1 62 j (show (12400 : Nat) ∉ [31, 12000, 12200] from by decide), hF.1 63 j (show (12600 : Nat) ∉ [31, 12000, 12200] from by decide)⟩)) ?_
    show VV u Y G k (Y.1 60 (sb + (t.1 - n))) (Y.1 61 (sb + (t.1 - n)))
    rw [hs, hw]
    exact hv.hx a2 hX
  · rw [h31]
    show _ = ((sb + (t.1 - n + 1) : Nat) : Int)
    omega
theorem r_value {X : St} {s w : Int32} {i : Nat} (h31 : (X.1 0 31).toInt = (i : Int)) (hi : i < 20400) : ok (f_value s w X) (fun _ Y => Fr YR [31, 12000, 12200] X Y ∧ (Y.1 0 31).toInt = (i : Int) + 1 ∧ Y.1 60 i = s ∧ Y.1 61 i = w ∧ ∀ j, j ≠ i → Y.1 60 j = X.1 60 j ∧ Y.1 61 j = X.1 61 j) := by
  have ei := ixn h31
  have z1 : (1 : Int32).toInt = 1 := rfl
  have hb : 0 ≤ (X.1 0 31).toInt ∧ (X.1 0 31).toInt < ((20400 : Nat) : Int) := by omega
  unfold f_value
  refine ok.letE (v1 := X.1 0 31) rfl (ok.ck hb (ok.letV ?_))
  refine ok.letE (v1 := X.1 0 31) rfl (ok.ck hb (ok.letV ?_))
  refine ok.letE (v1 := X.1 0 31) rfl (ok.add (by rw [z1]; omega) (fun x hx => ok.letV (ok.ret ⟨?_, ?_, ?_, ?_, fun j hj => ⟨?_, ?_⟩⟩)))
  · exact ((Fr.rf.wI 60 _ _ (show (12000 : Nat) ∈ [31, 12000, 12200] from by decide)).wI 61 _ _ (show (12200 : Nat) ∈ [31, 12000, 12200] from by decide)).wI 0 31 _ (show (31 : Nat) ∈ [31, 12000, 12200] from by decide)
  · rw [wI_at]
    rw [z1] at hx
    omega
  · rw [wI_ne _ 0 _ _ 60 _ (by rintro ⟨a_, -⟩; exact absurd a_ (by decide)), wI_ne _ 61 _ _ 60 _ (by rintro ⟨a_, -⟩; exact absurd a_ (by decide)), ei, wI_at]
  · rw [wI_ne _ 0 _ _ 61 _ (by rintro ⟨a_, -⟩; exact absurd a_ (by decide)), ei, wI_at]
  · rw [wI_ne _ 0 _ _ 60 _ (by rintro ⟨a_, -⟩; exact absurd a_ (by decide)), wI_ne _ 61 _ _ 60 _ (by rintro ⟨a_, -⟩; exact absurd a_ (by decide)), wI_ne _ 60 _ _ 60 _ (by rintro ⟨-, a_⟩; omega)]
  · rw [wI_ne _ 0 _ _ 61 _ (by rintro ⟨a_, -⟩; exact absurd a_ (by decide)), wI_ne _ 61 _ _ 61 _ (by rintro ⟨-, a_⟩; omega), wI_ne _ 60 _ _ 61 _ (by rintro ⟨a_, -⟩; exact absurd a_ (by decide))]
/-- the value on top is of another kind now -/
theorem INF.same {u : Bool} {X : St} {G : Nat → Int32} {t : Ty} {sb lb : Nat} {k : Int32} (h : FIN u X G t sb lb) (h1 : 1 ≤ t.1) (hv : VV u X G k (X.1 60 (sb + (t.1 - 1))) (X.1 61 (sb + (t.1 - 1)))) : INF u X X G (psh (pps t 1) k) sb lb := by
  obtain ⟨⟨a1, a2, a3, a4⟩, a5, a6, a7, a8⟩ := h
  refine ⟨PER.rf a2, a8, fun _ => ⟨G, HX.rf, a1, FRT.psh (a6.pps 1) hv, ?_, BEL.rf⟩⟩
  rw [a7.1]
  show _ = ((sb + (t.1 - 1 + 1) : Nat) : Int)
  omega
theorem r_guarded {u : Bool} {X : St} {G : Nat → Int32} {t : Ty} {sb lb o op n : Nat} {o1 s at1 k1 : Int32} (h : FIN u X G t sb lb) (ho : o1.toInt = (o : Int)) (ho2 : o < 24000) (h1 : 1 ≤ t.1) (hg : GDR u X o op n (tp t 0) k1) (hsp : (op = 5 ∧ s = 0) ∨ (op = 6 ∧ s = 1) ∨ (op = 7 ∧ s = 4) ∨ ((op = 8 ∨ op = 9) ∧ s = 3) ∨ s = -1) (hgd : (X.1 0 28).toInt ≤ 12000) : ok (f_guarded o1 s at1 X) (fun _ Y => (u = false → INF u X Y G (psh (pps t 1) k1) sb lb) ∧ (u = true → (Y = X ∧ (s.toInt < 0 ∨ (X.1 60 (sb + (t.1 - 1))).toInt = s.toInt)) ∨ (Fr YR [43, 44] X Y ∧ 0 ≤ (Y.1 0 43).toInt))) := by
  have hall := h
  obtain ⟨⟨a1, a2, a3, a4⟩, ⟨b1, b2, b3⟩, a6, ⟨c1, c2, c3, c4, c5⟩, a8⟩ := h
  have z1 : (1 : Int32).toInt = 1 := rfl
  unfold f_guarded
  refine ok.letV (ok.ite (fun c => ?_) (fun c => ?_))
  · have hu : u = true := b3.mpr c
    have huf : ¬ u = false := by rw [hu]; decide
    refine ok.ite (fun d => ok.ret ⟨fun q => absurd q huf, fun _ => Or.inl ⟨rfl, Or.inl d⟩⟩) (fun d => ?_)
    refine ok.letV (ok.sub (by rw [z1]; omega) (fun x hx => ?_))
    rw [z1] at hx
    have ex : ix x = sb + (t.1 - 1) := ixn (by omega)
    refine ok.ck (show 0 ≤ x.toInt ∧ x.toInt < ((20400 : Nat) : Int) by omega) (ok.letV (ok.ite (fun f => ok.ret ⟨fun q => absurd q huf, fun _ => Or.inl ⟨rfl, Or.inr (by rw [← ex]; exact f)⟩⟩) (fun f => ?_)))
    refine ok.bd r_ends ?_
    rintro r Y ⟨e1, e2, -⟩
    exact ok.ret ⟨fun q => absurd q huf, fun _ => Or.inr ⟨e1, e2 (by decide)⟩⟩
  · have hu : u = false := by
      cases u with
      | true => exact absurd (b3.mp rfl) c
      | false => rfl
    subst hu
    rcases hg with ⟨-, hg, hk, hk1⟩ | ⟨q, -⟩
    · have eo := ixn ho
      refine ok.ck (show 0 ≤ o1.toInt ∧ o1.toInt < ((24000 : Nat) : Int) by omega) (ok.letV ?_)
      rw [eo]
      have hv0 : VV false X G (tp t 0) (X.1 60 (sb + (t.1 - 1))) (X.1 61 (sb + (t.1 - 1))) := a6.tp (i := 0) (by omega)
      rcases hg with ⟨hg1, hg2⟩ | ⟨hg1, g, hg2, hg3, hg4, hg5, hg6, hg7⟩
      · refine ok.ite (fun _ => ok.ret ⟨fun _ => ?_, fun q => absurd q (by decide)⟩) (fun d => absurd (show (X.1 43 o).toInt < 0 by omega) d)
        exact INF.same hall h1 (by rw [← hg1]; exact hv0)
      · refine ok.ite (fun d => absurd d (by omega)) (fun d => ?_)
        have eg := ixn hg2
        refine ok.letV (ok.sub (by rw [z1]; omega) (fun x hx => ?_))
        rw [z1] at hx
        have ex : ix x = sb + (t.1 - 1) := ixn (by omega)
        have hgb : 0 ≤ (X.1 43 o).toInt ∧ (X.1 43 o).toInt < ((12000 : Nat) : Int) := by omega
        refine ok.ck hgb (ok.letV (ok.ck hgb (ok.letV (ok.ck hgb (ok.letV (ok.ck hgb (ok.letV (ok.ck hgb (ok.letV ?_)))))))))
        rw [eg, hg4, hg5]
        refine ok.bd (r_asks (G := G) (cell := x) ⟨a1, a2, a3, a4, b1, by omega, by omega⟩ ⟨hg6, hg7⟩ hk hk1 hg1 (by rw [ex]; exact hv0)) ?_
        rintro r Y ⟨hP, hQ⟩
        refine ok.ret ⟨fun _ => ⟨hP.mono (by decide), by rw [hP.1.1 0 46 (by decide)]; exact a8, fun hon => ?_⟩, fun q => absurd q (by decide)⟩
        obtain ⟨d1, d2, d3, d4⟩ := hQ hon
        rw [ex] at d3 d4
        have f60 : ∀ j, Y.1 60 j = X.1 60 j := fun j => hP.1.1 60 j (show (12000 : Nat) ∉ [13, 15, 33, 36, 43, 44, 45, 800, 1000, 1200, 1400, 1600, 1800, 2000, 12200, 12800, 13400, 13600, 13800, 14000, 14200, 14400, 14600, 16000] from by decide)
        have f62 : ∀ j, Y.1 62 j = X.1 62 j := fun j => hP.1.1 62 j (show (12400 : Nat) ∉ [13, 15, 33, 36, 43, 44, 45, 800, 1000, 1200, 1400, 1600, 1800, 2000, 12200, 12800, 13400, 13600, 13800, 14000, 14200, 14400, 14600, 16000] from by decide)
        have f63 : ∀ j, Y.1 63 j = X.1 63 j := fun j => hP.1.1 63 j (show (12600 : Nat) ∉ [13, 15, 33, 36, 43, 44, 45, 800, 1000, 1200, 1400, 1600, 1800, 2000, 12200, 12800, 13400, 13600, 13800, 14000, 14200, 14400, 14600, 16000] from by decide)
        refine ⟨G, d1, d2, FRT.psh ((a6.pps 1).hx a2 d1 (fun j j1 j2 => ⟨f60 j, d4 j (by have : j < sb + (t.1 - 1) := j2; omega)⟩) (fun j _ _ => ⟨f62 j, f63 j⟩)) d3, ?_, fun j hj => ⟨f60 j, d4 j (by omega)⟩, fun j _ => ⟨f62 j, f63 j⟩⟩
        rw [hP.1.1 0 31 (by decide), c1]
        show _ = ((sb + (t.1 - 1 + 1) : Nat) : Int)
        omega
    · exact absurd q (by decide)
/-- an untold test that is met -/
theorem VV.met {X : St} {G : Nat → Int32} {k k1 s s1 w : Int32} {o op n : Nat} (hv : VV true X G k s w) (hg : GDR true X o op n k k1) (hsp : (op = 5 ∧ s1 = 0) ∨ (op = 6 ∧ s1 = 1) ∨ (op = 7 ∧ s1 = 4) ∨ ((op = 8 ∨ op = 9) ∧ s1 = 3) ∨ (s1 = -1 ∧ ¬ op = 5 ∧ ¬ op = 6 ∧ ¬ op = 7 ∧ ¬ op = 8 ∧ ¬ op = 9)) (hs : s1.toInt < 0 ∨ s.toInt = s1.toInt) (h7 : op = 7 → FA X w = (X.1 27 n).toInt ∧ 0 ≤ FA X w) : VV true X G k1 s w := by
  obtain ⟨a, b⟩ := hv.base
  refine Or.inr ⟨rfl, a, b, ?_⟩
  have z0 : (0 : Int32).toInt = 0 := rfl
  have z1 : (1 : Int32).toInt = 1 := rfl
  have z3 : (3 : Int32).toInt = 3 := rfl
  have z4 : (4 : Int32).toInt = 4 := rfl
  rcases hg with ⟨q, -⟩ | ⟨-, hg⟩
  · exact absurd q (by decide)
  · rcases hg with hg | ⟨hg1, hg2⟩ | ⟨hg1, hg2⟩ | ⟨hg1, hg2⟩
    · exact Or.inl hg
    · refine Or.inr (Or.inr (Or.inr ?_))
      rcases hsp with ⟨p, rfl⟩ | ⟨p, rfl⟩ | ⟨p, rfl⟩ | ⟨p, rfl⟩ | ⟨rfl, p⟩ <;> omega
    · refine Or.inr (Or.inl ⟨hg2, ?_⟩)
      rcases hsp with ⟨p, rfl⟩ | ⟨p, rfl⟩ | ⟨p, rfl⟩ | ⟨p, rfl⟩ | ⟨rfl, p⟩ <;> omega
    · refine Or.inr (Or.inr (Or.inl ⟨by rw [(h7 hg1).1]; exact hg2, (h7 hg1).2, ?_⟩))
      rcases hsp with ⟨p, rfl⟩ | ⟨p, rfl⟩ | ⟨p, rfl⟩ | ⟨p, rfl⟩ | ⟨rfl, p⟩ <;> omega
