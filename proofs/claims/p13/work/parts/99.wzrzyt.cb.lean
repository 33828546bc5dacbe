/-! a call and its end, in step -/
/-- what a call leads to -/
def NXC (u : Bool) (X Y : St) (G : Nat → Int32) (po : Nat → Nat) (PTs : Nat → Nat → Ty) (p o c b sb : Nat) (r : Int32) : Prop := PER [13, 15, 31, 32, 33, 34, 35, 36, 37, 38, 40, 43, 44, 45, 46, 800, 1000, 1200, 1400, 1600, 1800, 2000, 12000, 12200, 12400, 12600, 12800, 13000, 13200, 13400, 13600, 13800, 14000, 14200, 14400, 14600, 14800, 15000, 15200, 15400, 15600, 15800, 16000, 16200] X Y ∧ ((Y.1 0 43).toInt < 0 → GLB u Y po PTs ∧ ∃ m p2 n' : Nat, ((X.1 27 (ix (X.1 41 o))).toInt = (m : Int) ∧ m ≤ 4 ∧ m + 1 ≤ (PTs p o).1) ∧ r.toInt = (po p2 : Int) ∧ RST u Y G po PTs p2 (po p2) (c + 1) (b + n' + 1) (sb + ((PTs p o).1 - (m + 1))) ∧ HX X Y G G ∧ Y.1 0 40 = X.1 0 40 ∧ ((Y.1 76 (b + n')).toInt < 0 ∧ (Y.1 77 (b + n')).toInt = ((o + 1 : Nat) : Int) ∧ (Y.1 78 (b + n')).toInt = 45 * (c : Int)) ∧ (∀ j, j < b → Y.1 76 j = X.1 76 j ∧ Y.1 77 j = X.1 77 j ∧ Y.1 78 j = X.1 78 j) ∧ (∀ j, j < 45 * (c + 1) → Y.1 62 j = X.1 62 j ∧ Y.1 63 j = X.1 63 j) ∧ (∀ j, j < sb + ((PTs p o).1 - (m + 1)) → Y.1 60 j = X.1 60 j ∧ Y.1 61 j = X.1 61 j) ∧ n' ≤ 20 ∧ ((p2 : Int) < (X.1 0 18).toInt ∧ (X.1 15 p2).toInt = (m : Int)) ∧ ((PTs p o).1 - (m + 1) + 1 = (PTs p (o + 1)).1 ∧ (PTs p (o + 1)).2.2.1 ≤ (PTs p o).2.2.1 ∧ (PTs p (o + 1)).2.2.1 ≤ 44 ∧ po p < o + 1 ∧ o + 1 < po (p + 1)) ∧ r = X.1 44 p2)
/-- what a call's end leads to -/
def NXB (u : Bool) (X Y : St) (G : Nat → Int32) (po : Nat → Nat) (PTs : Nat → Nat → Ty) (p o c b sb : Nat) (r : Int32) : Prop := PER [13, 15, 31, 32, 33, 34, 35, 36, 37, 38, 40, 43, 44, 45, 46, 800, 1000, 1200, 1400, 1600, 1800, 2000, 12000, 12200, 12400, 12600, 12800, 13000, 13200, 13400, 13600, 13800, 14000, 14200, 14400, 14600, 14800, 15000, 15200, 15400, 15600, 15800, 16000, 16200] X Y ∧ ((Y.1 0 43).toInt < 0 → GLB u Y po PTs ∧ ∃ p2 rp n b' sb' d : Nat, r.toInt = (rp : Int) ∧ RST u Y G po PTs p2 rp c b' sb' ∧ HX X Y G G ∧ Y.1 0 40 = X.1 0 40 ∧ (b = b' + n + 1 ∧ n ≤ 20 ∧ sb = sb' + d) ∧ ((X.1 76 (b' + n)).toInt < 0 ∧ (X.1 77 (b' + n)).toInt = (rp : Int) ∧ (X.1 78 (b' + n)).toInt = 45 * (c : Int)) ∧ ((p2 : Int) < (X.1 0 18).toInt ∧ po p2 < rp ∧ rp < po (p2 + 1)) ∧ (PTs p2 rp).1 = d + 1 ∧ (PTs p2 rp).2.2.1 ≤ 44 ∧ (∃ kc, WCH X n b' (okk u X p) kc) ∧ (1 ≤ b' ∧ b' ≤ 21 * c + 1 ∧ (X.1 76 (b' - 1)).toInt < 0) ∧ ((∀ j, Y.1 60 j = X.1 60 j) ∧ ∀ j, j ≠ sb → Y.1 61 j = X.1 61 j) ∧ ((∀ j, Y.1 62 j = X.1 62 j) ∧ ∀ j, Y.1 63 j = X.1 63 j) ∧ (∀ j, Y.1 76 j = X.1 76 j) ∧ (∀ j, Y.1 77 j = X.1 77 j) ∧ ∀ j, Y.1 78 j = X.1 78 j)
section NXCS
variable {u : Bool} {X : St} {G : Nat → Int32} {po : Nat → Nat} {PTs : Nat → Nat → Ty} {p o c b sb : Nat} {o1 : Int32}
theorem step_call2 (h : RST u X G po PTs p o c b sb) (hg : GLB u X po PTs) (ho : o1.toInt = (o : Int)) (h28 : (X.1 40 o).toInt = 28) : ok (f_does o1 (X.1 41 o) X) (fun r Y => NXC u X Y G po PTs p o c b sb r) := by
  obtain ⟨hf, ⟨hp, hp1, hp2⟩, ⟨h38, hc⟩, ⟨h37, hb⟩, hL, hs1, hs2⟩ := h
  obtain ⟨hR, ⟨g1, g2, g3⟩, g4⟩ := id hg
  obtain ⟨a1, a2, a3, a4, a5, a6, a7, a8, a9⟩ := hR.2 p hp
  have hlt : o < po (p + 1) - 1 := by
    by_cases z : o < po (p + 1) - 1
    · exact z
    · have : o = po (p + 1) - 1 := by omega
      rw [this] at h28
      omega
  obtain ⟨hv, op, n, hoa, hn, -, m, hm, hm4, hmt, hk, ha, tn⟩ := (a5 o hp1 hlt).x13 h28
  have eo : ix o1 = o := ixn ho
  have hbo : 0 ≤ o1.toInt ∧ o1.toInt < ((24000 : Nat) : Int) := by omega
  unfold f_does
  refine ok.ck hbo (ok.letE (v1 := X.1 40 o) (by rw [eo]) ?_)
  refine ok.ite (fun z => absurd z (by omega)) (fun _ => ok.ite (fun z => absurd z (by omega)) (fun _ => ok.ite (fun z => absurd z (by omega)) (fun _ => ok.ite (fun z => absurd z (by omega)) (fun _ => ok.ite (fun z => absurd z (by omega)) (fun _ => ok.ite (fun z => absurd z (by omega)) (fun _ => ok.ite (fun z => absurd z (by omega)) (fun _ => ok.ite (fun z => absurd z (by omega)) (fun _ => ok.ite (fun z => absurd z (by omega)) (fun _ => ok.ite (fun z => absurd z (by omega)) (fun _ => ok.ite (fun z => absurd z (by omega)) (fun _ => ok.ite (fun z => absurd z (by omega)) (fun _ => ok.ite (fun z => absurd z (by omega)) (fun _ => ok.ite (fun z => absurd z (by omega)) (fun _ => ok.ite (fun z => absurd z (by omega)) (fun _ => ok.ite (fun z => absurd z (by omega)) (fun _ => ok.ite (fun z => absurd z (by omega)) (fun _ => ok.ite (fun _ => ?_) (fun z => absurd h28 z))))))))))))))))))
  refine ok.bd (r_call hf ho (by omega) hoa.2 hn h38 hc h37 hb hm hm4 hmt hk ha) ?_
  rintro r Y ⟨hP, h46, hon⟩
  refine ok.ret ⟨hP.mono (by decide), fun q => ?_⟩
  obtain ⟨p2, n', ⟨⟨e1, e2⟩, ⟨e3, e4⟩, ⟨e5, e6, e7, e8, e9, e10⟩, ⟨f1, f2, f3⟩, f4, f5, f6, f7, f8⟩, hr⟩ := hon q
  clear hon
  have hT := hf.1.2.1
  have hY := hP.2.1
  have y40 : Y.1 0 40 = X.1 0 40 := hP.1.1 0 40 (by decide)
  have hg2 := hg.per hT hP (by decide) (by rw [y40]; exact ⟨Int.le_refl _, g2⟩)
  have lf : ∀ j, LFP Y j → LFP X j := fun j => (LFP.per hP (by decide)).mp
  obtain ⟨k1, k2, k3, k4, k5, k6, k7, k8, k9⟩ := hR.2 p2 e1
  have y18 : Y.1 0 18 = X.1 0 18 := hP.1.1 0 18 (by decide)
  obtain ⟨-, -, -, k4y, -, -, -, -, -⟩ := hg2.1.2 p2 (by rw [y18]; exact e1)
  have k3y : (Y.1 40 (po p2)).toInt = 0 := by
    rw [hP.1.1 40 (po p2) (show (8000 : Nat) ∉ [13, 15, 31, 32, 33, 36, 37, 38, 43, 44, 45, 800, 1000, 1200, 1400, 1600, 1800, 2000, 12200, 12400, 12600, 12800, 13400, 13600, 13800, 14000, 14200, 14400, 14600, 15200, 15400, 15600, 16000] from by decide)]
    exact k3
  have y15 : Y.1 15 p2 = X.1 15 p2 := hP.1.1 15 p2 (show (3000 : Nat) ∉ [13, 15, 31, 32, 33, 36, 37, 38, 43, 44, 45, 800, 1000, 1200, 1400, 1600, 1800, 2000, 12200, 12400, 12600, 12800, 13400, 13600, 13800, 14000, 14200, 14400, 14600, 15200, 15400, 15600, 16000] from by decide)
  have hm2 : ix (Y.1 15 p2) = m := ixn (by rw [y15]; exact e2)
  have nlf2 : ¬ LFP Y (po p2) := by
    intro z
    unfold LFP at z
    omega
  obtain ⟨⟨t1, t2, t3⟩, t4, t5⟩ := tn
  have t30 : (PTs p o).1 - (m + 1) + 1 = (PTs p (o + 1)).1 := t3.1
  have hty : PTs p2 (po p2) = ety u Y p2 := k4y
  refine ⟨hg2, m, p2, n', ⟨by rw [ixn hoa.2]; exact hm, hm4, hmt⟩, by rw [hr]; exact k2.1, ⟨?_, ⟨by rw [y18]; exact e1, Nat.le_refl _, by omega⟩, ⟨by omega, by omega⟩, ⟨by rw [e7], by omega⟩, ?_, ?_, fun z => absurd z nlf2⟩, e3, y40, ⟨f1, f2, f3⟩, f4, f7, f8, e8, ⟨e1, e2⟩, ⟨t30, t3.2.2.1, hR.names hp t1 t2, by omega, by omega⟩, hr⟩
  · rw [hty]
    refine ⟨⟨e4, hY, hf.1.2.2.1.kx hP.2.2.1, hf.1.2.2.2.pot hP.2.2.2⟩, ⟨by rw [y18]; exact hf.2.1.1, q, by rw [hP.1.1 0 42 (by decide)]; exact hf.2.1.2.2⟩, ⟨fun j hj => absurd hj (Nat.not_lt_zero _), fun j hj => ?_⟩, ⟨e10, by show sb + ((PTs p o).1 - (m + 1)) + 0 ≤ 20000; have := hf.2.2.2.1.2.1; omega, e9, by omega, by show ix (Y.1 15 p2) ≤ 44; omega⟩, by rw [h46]; exact hf.2.2.2.2⟩
    have hj : j < ix (Y.1 15 p2) := hj
    show VV u Y G (pkk u Y p2 j) _ _
    rw [pkk.hx e3 p2 j]
    exact f6 j (by omega)
  · have okp2 : okk u Y p2 = okk u X p2 := okk.per hP (by decide) p2
    rw [okp2]
    have tk : ∀ j, j < (PTs p o).1 - (m + 1) → (PTs p (o + 1)).2.1 j = (PTs p o).2.1 j := fun j hj => by
      rw [t3.2.1 j (by show j < (PTs p o).1 - (m + 1) + 1; omega)]
      exact tup_ne _ _ (show j ≠ (PTs p o).1 - (m + 1) by omega)
    have td : (PTs p (o + 1)).2.1 ((PTs p o).1 - (m + 1)) = ckd u X (tp (PTs p o) m) m := by
      rw [t3.2.1 _ (by show (PTs p o).1 - (m + 1) < (PTs p o).1 - (m + 1) + 1; omega)]
      exact tup_at _ _ _
    have tn44 := hR.names hp t1 t2
    refine ⟨p, o + 1, (PTs p o).1 - (m + 1), n', b, sb, ⟨rfl, e8, rfl⟩, ⟨f1, f2, f3⟩, ⟨by rw [y18]; exact hp, by omega, by omega, fun z => ?_⟩, t30.symm, tn44, ⟨fun j hj => ?_, fun j hj => ?_⟩, by rw [td]; exact f5, ?_⟩
    · rcases t5 with w | w | w
      · have z2 := lf _ z
        rw [w] at z2
        unfold LFP at z2
        omega
      · omega
      · exact w (lf _ z)
    · obtain ⟨s1, s2⟩ := f8 (sb + j) (by omega)
      rw [tk j hj, s1, s2]
      exact (hf.2.2.1.1 j (by omega)).hx hT e3
    · obtain ⟨s1, s2⟩ := f7 (45 * c + j) (by omega)
      rw [t3.2.2.2 j hj, s1, s2]
      have hle : (PTs p (o + 1)).2.2.1 ≤ (PTs p o).2.2.1 := t3.2.2.1
      exact (hf.2.2.1.2 j (by omega)).hx hT e3
    · rw [okk.per hP (by decide) p]
      exact LOW.hx hT e3 lf c b sb _ f4 (fun j hj => f8 j (by omega)) (fun j hj => f7 j (by omega)) hL
  · rw [hty, y40]
    show ((sb + ((PTs p o).1 - (m + 1)) + 0 + (c + 1) : Nat) : Int) ≤ _
    omega
theorem step_back2 (h : RST u X G po PTs p o (c + 1) b sb) (hg : GLB u X po PTs) (ho : o1.toInt = (o : Int)) (hlast : o = po (p + 1) - 1) : ok (f_does o1 (X.1 41 o) X) (fun r Y => NXB u X Y G po PTs p o c b sb r) := by
  obtain ⟨hf, ⟨hp, hp1, hp2⟩, ⟨h38, hc⟩, ⟨h37, hb⟩, hL, hs1, hs2⟩ := h
  obtain ⟨hR, ⟨g1, g2, g3⟩, g4⟩ := id hg
  obtain ⟨a1, a2, a3, a4, a5, a6, a7, a8, a9⟩ := hR.2 p hp
  rw [← hlast] at a6 a7 a8 a9
  have eo : ix o1 = o := ixn ho
  have hbo : 0 ≤ o1.toInt ∧ o1.toInt < ((24000 : Nat) : Int) := by omega
  have hT := hf.1.2.1
  unfold f_does
  refine ok.ck hbo (ok.letE (v1 := X.1 40 o) (by rw [eo]) ?_)
  refine ok.ite (fun z => absurd z (by omega)) (fun _ => ok.ite (fun z => absurd z (by omega)) (fun _ => ok.ite (fun z => absurd z (by omega)) (fun _ => ok.ite (fun z => absurd z (by omega)) (fun _ => ok.ite (fun z => absurd z (by omega)) (fun _ => ok.ite (fun z => absurd z (by omega)) (fun _ => ok.ite (fun z => absurd z (by omega)) (fun _ => ok.ite (fun z => absurd z (by omega)) (fun _ => ok.ite (fun z => absurd z (by omega)) (fun _ => ok.ite (fun z => absurd z (by omega)) (fun _ => ok.ite (fun z => absurd z (by omega)) (fun _ => ok.ite (fun z => absurd z (by omega)) (fun _ => ok.ite (fun z => absurd z (by omega)) (fun _ => ok.ite (fun z => absurd z (by omega)) (fun _ => ok.ite (fun z => absurd z (by omega)) (fun _ => ok.ite (fun z => absurd z (by omega)) (fun _ => ok.ite (fun z => absurd z (by omega)) (fun _ => ok.ite (fun z => absurd z (by omega)) (fun _ => ok.ite (fun z => absurd z (by omega)) (fun _ => ok.ite (fun z => absurd z (by omega)) (fun _ => ok.ite (fun _ => ?_) (fun z => absurd a6 z)))))))))))))))))))))
  obtain ⟨p2, rp, d, n, b', sb', ⟨rfl, e2, rfl⟩, ⟨e4, e5, e6⟩, ⟨e7, e8, e9, e10⟩, e11, e12, ⟨e13, e14⟩, e15, e16⟩ := hL
  have bd := LOW.bd c b' sb' _ e16
  have hb0 : ¬ b' = 0 := by omega
  refine ok.bd (r_back (b := b') (n := n) (c := c + 1) hf a7 a8 (by omega) (by omega) (by omega) (by omega) e2 (fun _ => bd.2.2) (fun _ => e15) (fun z => absurd z hb0)) ?_
  rintro r Y ⟨hP, h46, hr, hon⟩
  refine ok.ret ⟨hP.mono (by decide), fun q => ?_⟩
  obtain ⟨y1, y2, y3, y4, y5, y6, y7⟩ := hon q
  clear hon
  rw [if_neg hb0] at y3
  have y40 : Y.1 0 40 = X.1 0 40 := hP.1.1 0 40 (by decide)
  have y18 : Y.1 0 18 = X.1 0 18 := hP.1.1 0 18 (by decide)
  have y31 : Y.1 0 31 = X.1 0 31 := hP.1.1 0 31 (by decide)
  have hg2 := hg.per hT hP (by decide) (by rw [y40]; exact ⟨Int.le_refl _, g2⟩)
  have lf : ∀ j, LFP Y j → LFP X j := fun j => (LFP.per hP (by decide)).mp
  have y60 : ∀ j, Y.1 60 j = X.1 60 j := fun j => hP.1.1 60 j (show (12000 : Nat) ∉ [13, 15, 32, 33, 36, 37, 38, 43, 44, 45, 800, 1000, 1200, 1400, 1600, 1800, 2000, 12200, 12800, 13400, 13600, 13800, 14000, 14200, 14400, 14600, 16000] from by decide)
  have y62 : ∀ j, Y.1 62 j = X.1 62 j := fun j => hP.1.1 62 j (show (12400 : Nat) ∉ [13, 15, 32, 33, 36, 37, 38, 43, 44, 45, 800, 1000, 1200, 1400, 1600, 1800, 2000, 12200, 12800, 13400, 13600, 13800, 14000, 14200, 14400, 14600, 16000] from by decide)
  have y63 : ∀ j, Y.1 63 j = X.1 63 j := fun j => hP.1.1 63 j (show (12600 : Nat) ∉ [13, 15, 32, 33, 36, 37, 38, 43, 44, 45, 800, 1000, 1200, 1400, 1600, 1800, 2000, 12200, 12800, 13400, 13600, 13800, 14000, 14200, 14400, 14600, 16000] from by decide)
  have y76 : ∀ j, Y.1 76 j = X.1 76 j := fun j => hP.1.1 76 j (show (15200 : Nat) ∉ [13, 15, 32, 33, 36, 37, 38, 43, 44, 45, 800, 1000, 1200, 1400, 1600, 1800, 2000, 12200, 12800, 13400, 13600, 13800, 14000, 14200, 14400, 14600, 16000] from by decide)
  have y77 : ∀ j, Y.1 77 j = X.1 77 j := fun j => hP.1.1 77 j (show (15400 : Nat) ∉ [13, 15, 32, 33, 36, 37, 38, 43, 44, 45, 800, 1000, 1200, 1400, 1600, 1800, 2000, 12200, 12800, 13400, 13600, 13800, 14000, 14200, 14400, 14600, 16000] from by decide)
  have y78 : ∀ j, Y.1 78 j = X.1 78 j := fun j => hP.1.1 78 j (show (15600 : Nat) ∉ [13, 15, 32, 33, 36, 37, 38, 43, 44, 45, 800, 1000, 1200, 1400, 1600, 1800, 2000, 12200, 12800, 13400, 13600, 13800, 14000, 14200, 14400, 14600, 16000] from by decide)
  have t31 := hf.2.2.2.1.1
  rw [a7] at t31 hs1
  refine ⟨hg2, p2, rp, n, b', sb', d, by rw [hr]; exact e5, ⟨?_, ⟨by rw [y18]; exact e7, by omega, by omega⟩, ⟨by omega, by omega⟩, ⟨y4, bd.2.1⟩, ?_, ?_, fun z => absurd (lf _ z) e10⟩, y1, y40, ⟨rfl, e2, rfl⟩, ⟨e4, e5, e6⟩, ⟨e7, e8, e9⟩, e11, e12, ⟨_, e15⟩, bd, ⟨y60, y7⟩, ⟨y62, y63⟩, y76, y77, y78⟩
  · refine ⟨⟨y2, hP.2.1, hf.1.2.2.1.kx hP.2.2.1, hf.1.2.2.2.pot hP.2.2.2⟩, ⟨by rw [y18]; exact hf.2.1.1, q, by rw [hP.1.1 0 42 (by decide)]; exact hf.2.1.2.2⟩, ⟨fun j hj => ?_, fun j hj => ?_⟩, ⟨by rw [y31, e11]; omega, by omega, by rw [y6, e6]; omega, by omega, e12⟩, by rw [h46]; exact hf.2.2.2.2⟩
    · by_cases g : j = d
      · subst g
        exact y3
      · rw [y60, y7 (sb' + j) (by omega)]
        exact (e13 j (by omega)).hx hT y1
    · rw [y62, y63]
      exact (e14 j hj).hx hT y1
  · rw [okk.per hP (by decide) p2]
    exact LOW.hx hT y1 lf c b' sb' _ (fun j _ => ⟨y76 j, y77 j, y78 j⟩) (fun j hj => ⟨y60 j, y7 j (by omega)⟩) (fun j _ => ⟨y62 j, y63 j⟩) e16
  · rw [e11, y40]
    omega
end NXCS
