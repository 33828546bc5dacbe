theorem vv_fn {u : Bool} {X : St} {G : Nat → Int32} {k s w : Int32} {m : Nat} (h : TF u X k m) (hv : VV u X G k s w) : s.toInt = 4 ∧ FV X w ∧ FA X w = (m : Int) ∧ ∀ i, i ≤ m → FC u X w i = ckd u X k i := by
  rcases h with ⟨rfl, h2⟩ | ⟨rfl, h2⟩
  · rcases hv with ⟨q, -⟩ | ⟨-, a, b, c⟩
    · exact absurd q (by decide)
    · have z2 : (2 : Int32).toInt = 2 := rfl
      have z3 : (3 : Int32).toInt = 3 := rfl
      have z0 : (0 : Int32).toInt = 0 := rfl
      rcases c with c | ⟨c, -⟩ | ⟨c1, c2, c3⟩ | ⟨c, d1, d2⟩
      · rw [c, z2] at h2
        omega
      · rw [c, z3] at h2
        omega
      · exact ⟨c3, b c3, by omega, fun i _ => rfl⟩
      · omega
  · obtain ⟨a, b, c⟩ := h2.vk
    rcases hv with ⟨-, v1, v2, v3, v4⟩ | ⟨q, -⟩
    · rcases v4 with v4 | v4 | v4 | ⟨v4, v5, v6, v7⟩
      · omega
      · omega
      · omega
      · exact ⟨v5, v3 v5, by omega, fun i hi => v7 i (by omega)⟩
    · exact absurd q (by decide)
theorem dpt.le {u : Bool} {Z : St} {G : Nat → Int32} {w : Int32} (hH : HP u Z G) (hw : FV Z w) : dpt Z w ≤ 20 := by
  unfold dpt
  by_cases g : 100 ≤ w.toInt
  · rw [if_pos g]
    rcases hw with q | ⟨p1, p2, p3, p4, p5⟩
    · omega
    · have e := ixc (z := w) (by omega)
      obtain ⟨hu, a1, a2, a3, a4, a5, -⟩ := (hH.2 (ix w - 100) (by omega)).2 p3
      omega
  · rw [if_neg g]
    omega
/-- what call() leaves: a frame of part p above the one that called -/
def CALD (u : Bool) (X Y : St) (G : Nat → Int32) (c b n p m cell o : Nat) (kc : Int32) : Prop := ((p : Int) < (X.1 0 18).toInt ∧ (X.1 15 p).toInt = (m : Int)) ∧ (HX X Y G G ∧ HP u Y G) ∧ ((Y.1 0 38).toInt = (c : Int) + 2 ∧ c ≤ 98 ∧ (Y.1 0 37).toInt = ((b + n + 1 : Nat) : Int) ∧ n ≤ 20 ∧ (Y.1 0 32).toInt = ((45 * (c + 1) : Nat) : Int) ∧ (Y.1 0 31).toInt = (cell : Int)) ∧ ((Y.1 76 (b + n)).toInt < 0 ∧ (Y.1 77 (b + n)).toInt = ((o + 1 : Nat) : Int) ∧ (Y.1 78 (b + n)).toInt = 45 * (c : Int)) ∧ (∀ j, j < b → Y.1 76 j = X.1 76 j ∧ Y.1 77 j = X.1 77 j ∧ Y.1 78 j = X.1 78 j) ∧ WCH Y n b (okk u X p) kc ∧ (∀ i, i < m → VV u Y G (pkk u X p i) (Y.1 62 (45 * (c + 1) + i)) (Y.1 63 (45 * (c + 1) + i))) ∧ (∀ j, j < 45 * (c + 1) → Y.1 62 j = X.1 62 j ∧ Y.1 63 j = X.1 63 j) ∧ ∀ j, j < cell → Y.1 60 j = X.1 60 j ∧ Y.1 61 j = X.1 61 j
set_option maxHeartbeats 4000000 in
theorem r_call {u : Bool} {X : St} {G : Nat → Int32} {t : Ty} {sb c b n o m : Nat} {o1 n1 : Int32} (h : FIN u X G t sb (45 * c)) (ho : o1.toInt = (o : Int)) (ho2 : o < 24000) (hn1 : n1.toInt = (n : Int)) (hn : n < 3100) (h38 : (X.1 0 38).toInt = (c : Int) + 1) (hc : c ≤ 99) (h37 : (X.1 0 37).toInt = (b : Int)) (hb : b ≤ 21 * c + 1) (hm : (X.1 27 n).toInt = (m : Int)) (hm4 : m ≤ 4) (hmt : m + 1 ≤ t.1) (hk : TF u X (tp t m) m) (ha : ∀ i, i < m → tp t (m - 1 - i) = ckd u X (tp t m) i) : ok (f_call o1 n1 X) (fun r Y => PER [13, 15, 31, 32, 33, 36, 37, 38, 43, 44, 45, 800, 1000, 1200, 1400, 1600, 1800, 2000, 12200, 12400, 12600, 12800, 13400, 13600, 13800, 14000, 14200, 14400, 14600, 15200, 15400, 15600, 16000] X Y ∧ Y.1 0 46 = X.1 0 46 ∧ ((Y.1 0 43).toInt < 0 → ∃ p n', CALD u X Y G c b n' p m (sb + (t.1 - (m + 1))) o (ckd u X (tp t m) m) ∧ r = X.1 44 p)) := by
  obtain ⟨⟨a1, a2, a3, a4⟩, ⟨b1, b2, b3⟩, a6, ⟨c1, c2, c3, c4, c5⟩, a8⟩ := h
  have z1 : (1 : Int32).toInt = 1 := rfl
  have en := ixn hn1
  have hbn : 0 ≤ n1.toInt ∧ n1.toInt < ((3100 : Nat) : Int) := by omega
  obtain ⟨cell, hcell⟩ : ∃ cell, cell = sb + (t.1 - (m + 1)) := ⟨_, rfl⟩
  rw [← hcell]
  have hv := a6.tp (i := m) (by omega)
  rw [show sb + (t.1 - 1 - m) = cell by omega] at hv
  obtain ⟨s4, fv, fa, fc⟩ := vv_fn hk hv
  unfold f_call
  refine ok.ck hbn (ok.letE (v1 := X.1 27 n) (by rw [en]) (ok.letV (ok.sub (by rw [z1]; omega) (fun x3 hx3 => ok.sub (by rw [z1] at hx3; omega) (fun x4 hx4 => ?_)))))
  rw [z1] at hx3
  have hcs : CST u X X G cell m b 0 (ckd u X (tp t m) m) := by
    refine ⟨a1, HX.rf, ⟨s4, fv, fa, by have := dpt.le a1 fv; omega⟩, fc m (Nat.le_refl _), fun i hi => ?_, fun _ _ => rfl⟩
    rw [fc i (by omega), ← ha i hi]
    have := a6.tp (i := m - 1 - i) (by omega)
    rw [show sb + (t.1 - 1 - (m - 1 - i)) = cell + 1 + i by omega] at this
    exact this
  have hw2 : (X.1 61 cell).toInt < 100 + ((1000 : Nat) : Int) := by
    have := a1.1.2.1
    rcases fv with q | q <;> omega
  refine call_loop (u := u) (X := X) (G := G) (cell := cell) (m := m) (b := b) a2 a3 a4 b1 hm4 (by omega) (by omega) (a1 := o1) (a2 := n1) hm (by omega) (fun Z n' hP h37Z hn' h76 hon => ?_) 1000 X 0 BIG (ltBIG (by omega)) (PER.rf a2) h37 (by omega) (fun _ _ => rfl) (fun _ => ⟨hcs, hw2⟩)
  unfold f_call_166
  refine ok.bd r_isOn ?_
  rintro r7 Z' ⟨rfl, h7⟩
  have z46 : Z.1 0 46 = X.1 0 46 := hP.1.1 0 46 (by decide)
  refine ok.ite (fun g => ok.ret ⟨hP.mono (by decide), z46, fun q => by omega⟩) (fun g => ?_)
  obtain ⟨⟨e1, e2, ⟨e3, e4, e5, e6⟩, e7, e8, e9⟩, e10⟩ := hon (by omega)
  have hP40 : (Z.1 0 18).toInt ≤ 40 := by
    rw [hP.1.1 0 18 (by decide)]
    exact b1
  obtain ⟨w, hw⟩ : ∃ w : Int32, Z.1 61 cell = w := ⟨_, rfl⟩
  rw [hw] at e4 e5 e6 e7 e8 e10
  have wp : 0 ≤ w.toInt ∧ w.toInt < (Z.1 0 18).toInt := by
    rcases e4 with q | q
    · exact ⟨q.1, q.2.2⟩
    · omega
  have ew := ixc wp.1
  have i4 : ix x4 = cell := ixn (by omega)
  have fa2 : (Z.1 15 (ix w)).toInt = (m : Int) := by
    unfold FA at e5
    rw [if_pos e10] at e5
    exact e5
  refine ok.ck (show 0 ≤ x4.toInt ∧ x4.toInt < ((20400 : Nat) : Int) by omega) (ok.letE (v1 := w) (by rw [i4]; exact hw) (ok.add (by rw [z1]; omega) (fun x10 hx10 => ok.ck hbn (ok.letV ?_))))
  rw [z1] at hx10
  have Z31 : (Z.1 0 31).toInt = ((cell + 1 + m : Nat) : Int) := by
    rw [hP.1.1 0 31 (by decide), c1]
    omega
  refine ok.bd (r_calls (X := Z) (p1 := w) (p2 := x10) (b := b + n') (c := c + 1) (tp0 := cell + 1) (m := m) (by omega) fa2 hm4 (by rw [hP.1.1 0 38 (by decide)]; omega) (by omega) h37Z (by omega) Z31 (by omega)) ?_
  rintro r12 V hV
  have hbw : 0 ≤ w.toInt ∧ w.toInt < ((41 : Nat) : Int) := by omega
  refine ok.bd r_isOn ?_
  rintro r13 V' ⟨rfl, h13⟩
  have z18 : Z.1 0 18 = X.1 0 18 := hP.1.1 0 18 (by decide)
  have z44 : ∀ j, Z.1 44 j = X.1 44 j := fun j => hP.1.1 44 j (show (8800 : Nat) ∉ [13, 15, 33, 36, 37, 43, 44, 45, 800, 1000, 1200, 1400, 1600, 1800, 2000, 12200, 12800, 13400, 13600, 13800, 14000, 14200, 14400, 14600, 15200, 16000] from by decide)
  have hPV : PER [13, 15, 31, 32, 33, 36, 37, 38, 43, 44, 45, 800, 1000, 1200, 1400, 1600, 1800, 2000, 12200, 12400, 12600, 12800, 13400, 13600, 13800, 14000, 14200, 14400, 14600, 15200, 15400, 15600, 16000] X V := by
    rcases hV with ⟨hF, -⟩ | ⟨hF, -⟩
    · exact (hP.mono (by decide)).tr (PER.fr hP.2.1 hF (by decide)) (by decide)
    · exact (hP.mono (by decide)).tr (PER.fr hP.2.1 hF (by decide)) (by decide)
  have v46 : V.1 0 46 = X.1 0 46 := by
    rcases hV with ⟨hF, -⟩ | ⟨hF, -⟩
    · rw [hF.1 0 46 (by decide), z46]
    · rw [hF.1 0 46 (by decide), z46]
  refine ok.ite (fun g => ?_) (fun g => ?_)
  · unfold f_call_220
    refine ok.letV (ok.letV (ok.ck hbw (ok.letV (ok.ret ⟨?_, ?_, fun q => ?_⟩))))
    · exact hPV.tr (PER.fr hPV.2.1 (Fr.rf.wI 0 31 _ (show (31 : Nat) ∈ [31] from by decide)) (by decide)) (by decide)
    · rw [wI_ne _ 0 _ _ 0 _ (by decide)]
      exact v46
    · rw [wI_ne _ 0 _ _ 0 _ (by decide)] at q
      omega
  · rcases hV with ⟨hF, hoff⟩ | ⟨hF, d1, d2, d3, d4, d5, ⟨d6, d7, d8⟩, d9, d10, d11⟩
    · omega
    · refine ok.letV (ok.sub (by rw [z1]; omega) (fun x19 hx19 => ?_))
      rw [z1] at hx19
      unfold f_call_220
      refine ok.letV ?_
      have hFw : Fr YR [31] V (wI V 0 31 x19) := Fr.rf.wI 0 31 _ (show (31 : Nat) ∈ [31] from by decide)
      have w31 : (wI V 0 31 x19).1 0 31 = x19 := wI_at _ _ _ _
      obtain ⟨Y, hY⟩ : ∃ Y : St, wI V 0 31 x19 = Y := ⟨_, rfl⟩
      rw [hY] at hFw w31 ⊢
      have hPY : PER [13, 15, 31, 32, 33, 36, 37, 38, 43, 44, 45, 800, 1000, 1200, 1400, 1600, 1800, 2000, 12200, 12400, 12600, 12800, 13400, 13600, 13800, 14000, 14200, 14400, 14600, 15200, 15400, 15600, 16000] X Y := hPV.tr (PER.fr hPV.2.1 hFw (by decide)) (by decide)
      have y44 : ∀ j, Y.1 44 j = X.1 44 j := fun j => hPY.1.1 44 j (show (8800 : Nat) ∉ [13, 15, 31, 32, 33, 36, 37, 38, 43, 44, 45, 800, 1000, 1200, 1400, 1600, 1800, 2000, 12200, 12400, 12600, 12800, 13400, 13600, 13800, 14000, 14200, 14400, 14600, 15200, 15400, 15600, 16000] from by decide)
      refine ok.ck hbw (ok.letV (ok.ret ⟨hPY, by rw [hFw.1 0 46 (by decide)]; exact v46, fun q => ⟨ix w, n', ?_, y44 _⟩⟩))
      have hZY : Fr YR [31, 32, 37, 38, 12400, 12600, 15200, 15400, 15600] Z Y := hF.tr hFw (by decide)
      have hKZY : KX Z Y := KX.fr hZY (by decide)
      have hXZY : HX Z Y G G := HX.fr hZY hKZY (by decide)
      have hXY := e2.tr hXZY
      have v76 : ∀ j, Y.1 76 j = V.1 76 j := fun j => hFw.1 76 j (show (15200 : Nat) ∉ [31] from by decide)
      have v77 : ∀ j, Y.1 77 j = V.1 77 j := fun j => hFw.1 77 j (show (15400 : Nat) ∉ [31] from by decide)
      have v78 : ∀ j, Y.1 78 j = V.1 78 j := fun j => hFw.1 78 j (show (15600 : Nat) ∉ [31] from by decide)
      have v62 : ∀ j, Y.1 62 j = V.1 62 j := fun j => hFw.1 62 j (show (12400 : Nat) ∉ [31] from by decide)
      have v63 : ∀ j, Y.1 63 j = V.1 63 j := fun j => hFw.1 63 j (show (12600 : Nat) ∉ [31] from by decide)
      have z62 : ∀ j, Z.1 62 j = X.1 62 j := fun j => hP.1.1 62 j (show (12400 : Nat) ∉ [13, 15, 33, 36, 37, 43, 44, 45, 800, 1000, 1200, 1400, 1600, 1800, 2000, 12200, 12800, 13400, 13600, 13800, 14000, 14200, 14400, 14600, 15200, 16000] from by decide)
      have z63 : ∀ j, Z.1 63 j = X.1 63 j := fun j => hP.1.1 63 j (show (12600 : Nat) ∉ [13, 15, 33, 36, 37, 43, 44, 45, 800, 1000, 1200, 1400, 1600, 1800, 2000, 12200, 12800, 13400, 13600, 13800, 14000, 14200, 14400, 14600, 15200, 16000] from by decide)
      have z77 : ∀ j, Z.1 77 j = X.1 77 j := fun j => hP.1.1 77 j (show (15400 : Nat) ∉ [13, 15, 33, 36, 37, 43, 44, 45, 800, 1000, 1200, 1400, 1600, 1800, 2000, 12200, 12800, 13400, 13600, 13800, 14000, 14200, 14400, 14600, 15200, 16000] from by decide)
      have z78 : ∀ j, Z.1 78 j = X.1 78 j := fun j => hP.1.1 78 j (show (15600 : Nat) ∉ [13, 15, 33, 36, 37, 43, 44, 45, 800, 1000, 1200, 1400, 1600, 1800, 2000, 12200, 12800, 13400, 13600, 13800, 14000, 14200, 14400, 14600, 15200, 16000] from by decide)
      have z60 : ∀ j, Z.1 60 j = X.1 60 j := fun j => hP.1.1 60 j (show (12000 : Nat) ∉ [13, 15, 33, 36, 37, 43, 44, 45, 800, 1000, 1200, 1400, 1600, 1800, 2000, 12200, 12800, 13400, 13600, 13800, 14000, 14200, 14400, 14600, 15200, 16000] from by decide)
      have z32 : Z.1 0 32 = X.1 0 32 := hP.1.1 0 32 (by decide)
      have y60 : ∀ j, Y.1 60 j = Z.1 60 j := fun j => hZY.1 60 j (show (12000 : Nat) ∉ [31, 32, 37, 38, 12400, 12600, 15200, 15400, 15600] from by decide)
      have y61 : ∀ j, Y.1 61 j = Z.1 61 j := fun j => hZY.1 61 j (show (12200 : Nat) ∉ [31, 32, 37, 38, 12400, 12600, 15200, 15400, 15600] from by decide)
      have pkw : ∀ i, i < m → FC u Z w i = pkk u X (ix w) i := by
        intro i hi
        rw [← pkk.hx e2]
        unfold FC pkk
        rw [if_pos e10, if_pos (show (i : Int) < (Z.1 15 (ix w)).toInt by omega)]
      have okw : FC u Z w m = okk u X (ix w) := by
        rw [← okk.hx e2]
        unfold FC okk
        rw [if_pos e10, if_neg (show ¬ (m : Int) < (Z.1 15 (ix w)).toInt by omega)]
      refine ⟨⟨by rw [← z18]; omega, by rw [← (e2.2.2.2.1 (ix w)).1]; exact fa2⟩, ⟨hXY, e1.same hP.2.1 hZY hKZY (by decide) (by decide)⟩, ⟨?_, by omega, ?_, hn', ?_, ?_⟩, ⟨?_, ?_, ?_⟩, fun j hj => ?_, ?_, fun i hi => ?_, fun j hj => ?_, fun j hj => ?_⟩
      · rw [hFw.1 0 38 (by decide), d1]
        omega
      · rw [hFw.1 0 37 (by decide), d3]
        omega
      · rw [hFw.1 0 32 (by decide), d4]
      · rw [w31]
        omega
      · rw [v76, d6]
        decide
      · rw [v77, d7]
        omega
      · rw [v78, d8, z32, c3]
        omega
      · obtain ⟨g1, g2, g3⟩ := d9 j (by omega)
        exact ⟨by rw [v76, g1]; exact h76 j hj, by rw [v77, g2, z77], by rw [v78, g3, z78]⟩
      · rw [← okw]
        exact WCH.hx hP.2.1 hXZY n' _ _ (fun j hj => by rw [v76]; exact (d9 j (by omega)).1) e7
      · obtain ⟨g1, g2⟩ := d11 i hi
        rw [v62, v63, g1, g2, ← pkw i hi]
        exact (e8 i hi).hx hP.2.1 hXZY
      · obtain ⟨g1, g2⟩ := d10 j (by omega)
        exact ⟨by rw [v62, g1, z62], by rw [v63, g2, z63]⟩
      · exact ⟨by rw [y60, z60], by rw [y61]; exact e9 j hj⟩
