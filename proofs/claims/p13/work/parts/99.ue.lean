/-! an order done, but for calls and returns -/
section DO
variable {u : Bool} {X : St} {G : Nat → Int32} {PT : Nat → Ty} {s e o sb lb : Nat} {o1 n1 : Int32}
set_option maxHeartbeats 4000000 in
theorem r_does (h : FIN u X G (PT o) sb lb) (hS : SR u X PT s e o) (ho : o1.toInt = (o : Int)) (ho2 : o < 24000) (h41 : X.1 41 o = n1) (hgd : (X.1 0 28).toInt ≤ 12000) (hpar : ∀ p : Nat, (p : Int) < (X.1 0 18).toInt → 0 ≤ (X.1 15 p).toInt) (h40 : 0 ≤ (X.1 0 40).toInt ∧ (X.1 0 40).toInt ≤ 20000) (h28 : ¬ (X.1 40 o).toInt = 28) : ok (f_does o1 n1 X) (fun r Y => DOQ u X Y G PT s e o sb lb r) := by
  obtain ⟨⟨a1, a2, a3, a4⟩, ⟨b1, b2, b3⟩, a6, ⟨c1, c2, c3, c4, c5⟩, a8⟩ := id h
  have z1 : (1 : Int32).toInt = 1 := rfl
  have z4 : (4 : Int32).toInt = 4 := rfl
  have eo : ix o1 = o := ixn ho
  have hbo : 0 ≤ o1.toInt ∧ o1.toInt < ((24000 : Nat) : Int) := by omega
  unfold f_does
  refine ok.ck hbo (ok.letE (v1 := X.1 40 o) (by rw [eo]) ?_)
  refine ok.ite (fun c => ?_) (fun c0 => ok.ite (fun c => ?_) (fun c1' => ok.ite (fun c => ?_) (fun c2' => ok.ite (fun c => ?_) (fun c3' => ok.ite (fun c => ?_) (fun c4' => ok.ite (fun c => ?_) (fun c5' => ok.ite (fun c => ?_) (fun c6' => ok.ite (fun c => ?_) (fun c7' => ok.ite (fun c => ?_) (fun c8' => ok.ite (fun c => ?_) (fun c9' => ok.ite (fun c => ?_) (fun c10' => ok.ite (fun c => ?_) (fun c11' => ok.ite (fun c => ?_) (fun c12' => ok.ite (fun c => ?_) (fun c13' => ok.ite (fun c => ?_) (fun c14' => ok.ite (fun c => ?_) (fun c15' => ok.ite (fun c => ?_) (fun c16' => ok.ite (fun c => absurd c h28) (fun _ => ok.ite (fun c => ?_) (fun c29' => ok.ite (fun c => ?_) (fun c30' => ok.ite (fun c => ?_) (fun c31' => ?_)))))))))))))))))))))
  · obtain ⟨hv, op, n, hoa, hn, -, tn⟩ := hS.x0 c
    have hn1 : n1.toInt = (n : Int) := by rw [← h41]; exact hoa.2
    have hb : 0 ≤ n1.toInt ∧ n1.toInt < ((3100 : Nat) : Int) := by omega
    refine ok.letV (ok.letV (ok.ite (fun d => ?_) (fun d => ?_)))
    · refine ok.ck hb (ok.letV (ok.bd r_ends ?_))
      rintro r E ⟨hE, hE2, -⟩
      exact nxt ho ho2 (fun r hr => ok.ret (DOQ.off (PER.fr a2 hE (by decide)) (by decide) a8 (by decide) (hE2 (by decide))))
    · refine ok.letV (ok.add (by rw [z1]; omega) (fun x6 hx6 => ok.letV ?_))
      rw [z1] at hx6
      have hF : Fr YR [40] X (wI X 0 40 x6) := Fr.rf.wI 0 40 _ (show (40 : Nat) ∈ [40] from by decide)
      have v40 : (wI X 0 40 x6).1 0 40 = x6 := wI_at _ _ _ _
      obtain ⟨Y, hY⟩ : ∃ Y : St, wI X 0 40 x6 = Y := ⟨_, rfl⟩
      rw [hY] at hF v40 ⊢
      have hK : KX X Y := KX.fr hF (by decide)
      have hX : HX X Y G G := HX.fr hF hK (by decide)
      have y60 : ∀ j, Y.1 60 j = X.1 60 j := fun j => hF.1 60 j (show (12000 : Nat) ∉ [40] from by decide)
      have y61 : ∀ j, Y.1 61 j = X.1 61 j := fun j => hF.1 61 j (show (12200 : Nat) ∉ [40] from by decide)
      have y62 : ∀ j, Y.1 62 j = X.1 62 j := fun j => hF.1 62 j (show (12400 : Nat) ∉ [40] from by decide)
      have y63 : ∀ j, Y.1 63 j = X.1 63 j := fun j => hF.1 63 j (show (12600 : Nat) ∉ [40] from by decide)
      refine nxt ho ho2 (fun r hr => ok.ret ⟨(PER.fr a2 hF (by decide)).mono (by decide), by rw [hF.1 0 46 (by decide)]; exact a8, fun _ => ⟨Or.inl ⟨c, by rw [v40]; exact hx6, d⟩, o + 1, PT o, G, hr, tn, Or.inl (Nat.le_refl _), hX, a1.same a2 hF hK (by decide) (by decide), a6.hx a2 hX (fun j _ _ => ⟨y60 j, y61 j⟩) (fun j _ _ => ⟨y62 j, y63 j⟩), by rw [hF.1 0 31 (by decide)]; exact c1, fun j _ => ⟨y60 j, y61 j⟩, fun j _ => ⟨y62 j, y63 j⟩⟩⟩)
  · obtain ⟨hv, op, n, hoa, hn, k, hl, tn⟩ := hS.x1 (by omega)
    have hn1 : n1.toInt = (n : Int) := by rw [← h41]; exact hoa.2
    have hb : 0 ≤ n1.toInt ∧ n1.toInt < ((3100 : Nat) : Int) := by omega
    have o1' := hoa.1
    have hi : IK u 1 X k := by
      rcases hl with ⟨-, q⟩ | ⟨q, -⟩ | ⟨q, -⟩
      · rw [show op = 1 by omega] at q
        exact q
      · omega
      · omega
    refine ok.ck hb (ok.letV (ok.bd (w_leaf h (s := 0) (vv_prim hi ⟨by decide, by decide, by decide⟩)) ?_))
    rintro r1 Y hY
    exact nxt ho ho2 (fun r hr => ok.ret (hY.doq hr tn (Or.inr ⟨Or.inl (by omega), rfl⟩) (by omega)))
  · obtain ⟨hv, op, n, hoa, hn, k, hl, tn⟩ := hS.x1 (by omega)
    have hn1 : n1.toInt = (n : Int) := by rw [← h41]; exact hoa.2
    have hb : 0 ≤ n1.toInt ∧ n1.toInt < ((3100 : Nat) : Int) := by omega
    have o1' := hoa.1
    have hi : IK u 2 X k := by
      rcases hl with ⟨-, q⟩ | ⟨q, -⟩ | ⟨q, -⟩
      · rw [show op = 2 by omega] at q
        exact q
      · omega
      · omega
    refine ok.ck hb (ok.letV (ok.bd (w_leaf h (s := 1) (vv_prim hi ⟨by decide, by decide, by decide⟩)) ?_))
    rintro r1 Y hY
    exact nxt ho ho2 (fun r hr => ok.ret (hY.doq hr tn (Or.inr ⟨Or.inl (by omega), rfl⟩) (by omega)))
  · obtain ⟨hv, op, n, hoa, hn, k, hl, tn⟩ := hS.x1 (by omega)
    have hn1 : n1.toInt = (n : Int) := by rw [← h41]; exact hoa.2
    have hb : 0 ≤ n1.toInt ∧ n1.toInt < ((3100 : Nat) : Int) := by omega
    have en := ixn hn1
    have o1' := hoa.1
    rcases hl with ⟨q, -⟩ | ⟨-, v, v1, v2, rfl⟩ | ⟨q, -⟩
    · omega
    · refine ok.letV (ok.ck hb (ok.letE (v1 := X.1 26 n) (by rw [en]) (ok.add (by omega) (fun x23 hx23 => ?_))))
      have e23 : ix x23 = lb + v := ixn (by omega)
      refine ok.ck (show 0 ≤ x23.toInt ∧ x23.toInt < ((5000 : Nat) : Int) by omega) (ok.letE (v1 := X.1 62 (lb + v)) (by rw [e23]) ?_)
      refine ok.letV (ok.ck hb (ok.letE (v1 := X.1 26 n) (by rw [en]) (ok.add (by omega) (fun x27 hx27 => ?_))))
      have e27 : ix x27 = lb + v := ixn (by omega)
      refine ok.ck (show 0 ≤ x27.toInt ∧ x27.toInt < ((5000 : Nat) : Int) by omega) (ok.letE (v1 := X.1 63 (lb + v)) (by rw [e27]) ?_)
      refine ok.bd (w_leaf h (a6.2 v v2)) ?_
      rintro r1 Y hY
      exact nxt ho ho2 (fun r hr => ok.ret (hY.doq hr tn (Or.inr ⟨Or.inl (by omega), rfl⟩) (by omega)))
    · omega
  · obtain ⟨hv, op, n, hoa, hn, k, hl, tn⟩ := hS.x1 (by omega)
    have hn1 : n1.toInt = (n : Int) := by rw [← h41]; exact hoa.2
    have hb : 0 ≤ n1.toInt ∧ n1.toInt < ((3100 : Nat) : Int) := by omega
    have en := ixn hn1
    have o1' := hoa.1
    rcases hl with ⟨q, -⟩ | ⟨q, -⟩ | ⟨-, p, p1, p2, hk⟩
    · omega
    · omega
    · refine ok.ck hb (ok.letE (v1 := X.1 26 n) (by rw [en]) (ok.bd (w_leaf h (vv_part p1 p2 b1 hk)) ?_))
      rintro r1 Y hY
      exact nxt ho ho2 (fun r hr => ok.ret (hY.doq hr tn (Or.inr ⟨Or.inl (by omega), rfl⟩) (by omega)))
  · obtain ⟨hv, op, n, hoa, hn, hgop, ht1, k, hg, tn⟩ := hS.x2 (by omega)
    have hn1 : n1.toInt = (n : Int) := by rw [← h41]; exact hoa.2
    have hb : 0 ≤ n1.toInt ∧ n1.toInt < ((3100 : Nat) : Int) := by omega
    obtain rfl : op = 5 := by have := hoa.1; omega
    refine ok.ck hb (ok.letV (ok.bd (r_guard2 h ho ho2 ht1 hg (Or.inl ⟨rfl, rfl⟩) hgd) ?_))
    rintro r1 Y hY
    exact nxt ho ho2 (fun r hr => ok.ret (hY.doq hr tn (Or.inl (show (PT o).1 - 1 + 1 ≤ (PT o).1 by omega)) (by omega)))
  · obtain ⟨hv, op, n, hoa, hn, hgop, ht1, k, hg, tn⟩ := hS.x2 (by omega)
    have hn1 : n1.toInt = (n : Int) := by rw [← h41]; exact hoa.2
    have hb : 0 ≤ n1.toInt ∧ n1.toInt < ((3100 : Nat) : Int) := by omega
    obtain rfl : op = 6 := by have := hoa.1; omega
    refine ok.ck hb (ok.letV (ok.bd (r_guard2 h ho ho2 ht1 hg (Or.inr (Or.inl ⟨rfl, rfl⟩)) hgd) ?_))
    rintro r1 Y hY
    exact nxt ho ho2 (fun r hr => ok.ret (hY.doq hr tn (Or.inl (show (PT o).1 - 1 + 1 ≤ (PT o).1 by omega)) (by omega)))
  · obtain ⟨hv, op, n, hoa, hn, hgop, ht1, k, hg, tn⟩ := hS.x2 (by omega)
    have hn1 : n1.toInt = (n : Int) := by rw [← h41]; exact hoa.2
    have hb : 0 ≤ n1.toInt ∧ n1.toInt < ((3100 : Nat) : Int) := by omega
    have en := ixn hn1
    obtain rfl : op = 7 := by have := hoa.1; omega
    have gr : (psh (pps (PT o) 1) k).1 ≤ (PT o).1 ∨ (LFP X o ∧ (psh (pps (PT o) 1) k).1 = (PT o).1 + 1) := Or.inl (show (PT o).1 - 1 + 1 ≤ (PT o).1 by omega)
    refine ok.ck hb (ok.letV (ok.bd (r_guarded h ho ho2 ht1 hg (Or.inr (Or.inr (Or.inl ⟨rfl, rfl⟩))) hgd) ?_))
    rintro r1 Y ⟨g1, g2⟩
    refine ok.bd r_isOn ?_
    rintro r2 Y' ⟨rfl, hon⟩
    have hPY : PER [13, 15, 31, 33, 34, 35, 36, 43, 44, 45, 46, 800, 1000, 1200, 1400, 1600, 1800, 2000, 12000, 12200, 12400, 12600, 12800, 13000, 13200, 13400, 13600, 13800, 14000, 14200, 14400, 14600, 14800, 15000, 15800, 16000, 16200] X Y ∧ 0 ≤ (Y.1 0 46).toInt ∧ (Y.1 0 46).toInt ≤ 200 := by
      cases u with
      | false => exact ⟨(g1 rfl).1, (g1 rfl).2.1⟩
      | true =>
        rcases g2 rfl with ⟨rfl, -⟩ | ⟨hF, -⟩
        · exact ⟨PER.rf a2, a8⟩
        · exact ⟨(PER.fr a2 hF (by decide)).mono (by decide), by rw [hF.1 0 46 (by decide)]; exact a8⟩
    refine ok.ite (fun c46 => nxt ho ho2 (fun r hr => ok.ret ⟨hPY.1.mono (by decide), hPY.2, fun q => by omega⟩)) (fun c46 => ?_)
    have y42 : Y.1 0 42 = X.1 0 42 := hPY.1.1.1 0 42 (by decide)
    refine ok.letV (ok.ite (fun d => ?_) (fun d => ?_))
    · have hu : u = true := b3.mpr (by rw [← y42]; exact d)
      subst hu
      rcases g2 rfl with ⟨rfl, hs⟩ | ⟨-, q⟩
      · refine ok.letV (ok.sub (by rw [z1]; omega) (fun x52 hx52 => ?_))
        rw [z1] at hx52
        have e52 : ix x52 = sb + ((PT o).1 - 1) := ixn (by omega)
        refine ok.ck (show 0 ≤ x52.toInt ∧ x52.toInt < ((20400 : Nat) : Int) by omega) (ok.letE (v1 := Y.1 61 (sb + ((PT o).1 - 1))) (by rw [e52]) ?_)
        have hv0 : VV true Y G (tp (PT o) 0) (Y.1 60 (sb + ((PT o).1 - 1))) (Y.1 61 (sb + ((PT o).1 - 1))) := a6.tp (i := 0) (by omega)
        have s4 : (Y.1 60 (sb + ((PT o).1 - 1))).toInt = 4 := by
          rw [z4] at hs
          omega
        have fv := hv0.base.2 s4
        obtain ⟨w, hw⟩ : ∃ w : Int32, Y.1 61 (sb + ((PT o).1 - 1)) = w := ⟨_, rfl⟩
        rw [hw] at hv0 fv ⊢
        rcases fv with ⟨f1, f2, f3⟩ | ⟨f1, f2, f3, -⟩
        · have ew := ixc f1
          have fa : FA Y w = (Y.1 15 (ix w)).toInt := by
            unfold FA
            rw [if_pos f2]
          have pw := hpar (ix w) (by omega)
          refine ok.ck (show 0 ≤ w.toInt ∧ w.toInt < ((41 : Nat) : Int) by omega) (ok.letV (ok.ck hb (ok.letE (v1 := Y.1 27 n) (by rw [en]) (ok.ite (fun d2 => ?_) (fun d2 => ?_)))))
          · refine nxt ho ho2 (fun r hr => ok.ret (INF.doq (INF.same h ht1 ?_) hr tn gr (by omega)))
            rw [hw]
            exact VV.met hv0 hg (Or.inr (Or.inr (Or.inl ⟨rfl, rfl⟩))) hs (fun _ => ⟨by rw [fa]; exact d2, by rw [fa]; exact pw⟩)
          · refine ok.ck hb (ok.letV (ok.bd r_ends ?_))
            rintro r3 E ⟨hE, hE2, -⟩
            exact nxt ho ho2 (fun r hr => ok.ret (DOQ.off (PER.fr a2 hE (by decide)) (by decide) a8 (by decide) (hE2 (by decide))))
        · exact absurd f3 (a1.raw (by have := ixc (z := w) (by omega); omega))
      · omega
    · cases u with
      | true => exact absurd (b3.mp rfl) (by rw [← y42]; exact d)
      | false => exact nxt ho ho2 (fun r hr => ok.ret ((g1 rfl).doq hr tn gr (by omega)))
  · obtain ⟨hv, op, n, hoa, hn, hgop, ht1, k, hg, tn⟩ := hS.x2 (by omega)
    have hn1 : n1.toInt = (n : Int) := by rw [← h41]; exact hoa.2
    have hb : 0 ≤ n1.toInt ∧ n1.toInt < ((3100 : Nat) : Int) := by omega
    obtain rfl : op = 8 := by have := hoa.1; omega
    refine ok.ck hb (ok.letV (ok.bd (r_guard2 h ho ho2 ht1 hg (Or.inr (Or.inr (Or.inl ⟨Or.inl rfl, rfl⟩))) hgd) ?_))
    rintro r1 Y hY
    exact nxt ho ho2 (fun r hr => ok.ret (hY.doq hr tn (Or.inl (show (PT o).1 - 1 + 1 ≤ (PT o).1 by omega)) (by omega)))
  · obtain ⟨hv, op, n, hoa, hn, hgop, ht1, k, hg, tn⟩ := hS.x2 (by omega)
    have hn1 : n1.toInt = (n : Int) := by rw [← h41]; exact hoa.2
    have hb : 0 ≤ n1.toInt ∧ n1.toInt < ((3100 : Nat) : Int) := by omega
    obtain rfl : op = 9 := by have := hoa.1; omega
    refine ok.ck hb (ok.letV (ok.bd (r_guard2 h ho ho2 ht1 hg (Or.inr (Or.inr (Or.inl ⟨Or.inr rfl, rfl⟩))) hgd) ?_))
    rintro r1 Y hY
    exact nxt ho ho2 (fun r hr => ok.ret (hY.doq hr tn (Or.inl (show (PT o).1 - 1 + 1 ≤ (PT o).1 by omega)) (by omega)))
  · obtain ⟨hv, op, n, hoa, hn, hgop, ht1, k, hg, tn⟩ := hS.x2 (by omega)
    have hn1 : n1.toInt = (n : Int) := by rw [← h41]; exact hoa.2
    have hb : 0 ≤ n1.toInt ∧ n1.toInt < ((3100 : Nat) : Int) := by omega
    obtain rfl : op = 10 := by have := hoa.1; omega
    refine ok.bd (r_guard2 h ho ho2 ht1 hg (Or.inr (Or.inr (Or.inr ⟨rfl, by decide, by decide, by decide, by decide, by decide⟩))) hgd) ?_
    rintro r1 Y hY
    exact nxt ho ho2 (fun r hr => ok.ret (hY.doq hr tn (Or.inl (show (PT o).1 - 1 + 1 ≤ (PT o).1 by omega)) (by omega)))
  · obtain ⟨hv, op, n, hoa, hn, hgop, ht1, k, hg, tn⟩ := hS.x2 (by omega)
    have hn1 : n1.toInt = (n : Int) := by rw [← h41]; exact hoa.2
    have hb : 0 ≤ n1.toInt ∧ n1.toInt < ((3100 : Nat) : Int) := by omega
    obtain rfl : op = 11 := by have := hoa.1; omega
    refine ok.bd (r_guard2 h ho ho2 ht1 hg (Or.inr (Or.inr (Or.inr ⟨rfl, by decide, by decide, by decide, by decide, by decide⟩))) hgd) ?_
    rintro r1 Y hY
    exact nxt ho ho2 (fun r hr => ok.ret (hY.doq hr tn (Or.inl (show (PT o).1 - 1 + 1 ≤ (PT o).1 by omega)) (by omega)))
  · obtain ⟨hv, op, n, hoa, hn, hgop, ht1, k, hg, tn⟩ := hS.x2 (by omega)
    have hn1 : n1.toInt = (n : Int) := by rw [← h41]; exact hoa.2
    have hb : 0 ≤ n1.toInt ∧ n1.toInt < ((3100 : Nat) : Int) := by omega
    obtain rfl : op = 12 := by have := hoa.1; omega
    refine ok.bd (r_guard2 h ho ho2 ht1 hg (Or.inr (Or.inr (Or.inr ⟨rfl, by decide, by decide, by decide, by decide, by decide⟩))) hgd) ?_
    rintro r1 Y hY
    exact nxt ho ho2 (fun r hr => ok.ret (hY.doq hr tn (Or.inl (show (PT o).1 - 1 + 1 ≤ (PT o).1 by omega)) (by omega)))
  · obtain ⟨hv, op, n, hoa, hn, -, ht1, v, v1, v43, v2, tn⟩ := hS.x3 c
    have hn1 : n1.toInt = (n : Int) := by rw [← h41]; exact hoa.2
    have hb : 0 ≤ n1.toInt ∧ n1.toInt < ((3100 : Nat) : Int) := by omega
    have en := ixn hn1
    refine ok.letV (ok.sub (by rw [z1]; omega) (fun x79 hx79 => ok.letV ?_))
    rw [z1] at hx79
    have hz : x79.toInt = ((sb + ((PT o).1 - 1) : Nat) : Int) := by omega
    have e79 := ixn hz
    have b79 : 0 ≤ x79.toInt ∧ x79.toInt < ((20400 : Nat) : Int) := by omega
    refine ok.letE (v1 := X.1 0 32) (wI_ne _ 0 _ _ 0 _ (by decide)) (ok.ck hb (ok.letE (v1 := X.1 26 n) (by rw [en]; exact wI_ne _ 0 _ _ 26 _ (by rintro ⟨a_, -⟩; exact absurd a_ (by decide))) (ok.add (by omega) (fun x83 hx83 => ?_))))
    have e83 : ix x83 = lb + v := ixn (by omega)
    have b83 : 0 ≤ x83.toInt ∧ x83.toInt < ((5000 : Nat) : Int) := by omega
    refine ok.letE (v1 := x79) (wI_at _ _ _ _) (ok.ck b79 (ok.letE (v1 := X.1 60 (sb + ((PT o).1 - 1))) (by rw [e79]; exact wI_ne _ 0 _ _ 60 _ (by rintro ⟨a_, -⟩; exact absurd a_ (by decide))) (ok.ck b83 (ok.letV ?_))))
    rw [e83]
    refine ok.letE (v1 := X.1 0 32) (by rw [wI_ne _ 62 _ _ 0 _ (by rintro ⟨a_, -⟩; exact absurd a_ (by decide)), wI_ne _ 0 _ _ 0 _ (by decide)]) (ok.ck hb (ok.letE (v1 := X.1 26 n) (by rw [en, wI_ne _ 62 _ _ 26 _ (by rintro ⟨a_, -⟩; exact absurd a_ (by decide)), wI_ne _ 0 _ _ 26 _ (by rintro ⟨a_, -⟩; exact absurd a_ (by decide))]) (ok.add (by omega) (fun x89 hx89 => ?_))))
    have e89 : ix x89 = lb + v := ixn (by omega)
    have b89 : 0 ≤ x89.toInt ∧ x89.toInt < ((5000 : Nat) : Int) := by omega
    refine ok.letE (v1 := x79) (by rw [wI_ne _ 62 _ _ 0 _ (by rintro ⟨a_, -⟩; exact absurd a_ (by decide)), wI_at]) (ok.ck b79 (ok.letE (v1 := X.1 61 (sb + ((PT o).1 - 1))) (by rw [e79, wI_ne _ 62 _ _ 61 _ (by rintro ⟨a_, -⟩; exact absurd a_ (by decide)), wI_ne _ 0 _ _ 61 _ (by rintro ⟨a_, -⟩; exact absurd a_ (by decide))]) (ok.ck b89 (ok.letV ?_))))
    rw [e89]
    exact nxt ho ho2 (fun r hr => ok.ret ((w_bind h ht1 v2 hz).doq hr tn (Or.inl (show (PT o).1 - 1 ≤ (PT o).1 by omega)) (by omega)))
  · obtain ⟨hv, op, n, hoa, hn, hgop, ht1, k, hg, tn⟩ := hS.x2 (by omega)
    have hn1 : n1.toInt = (n : Int) := by rw [← h41]; exact hoa.2
    have hb : 0 ≤ n1.toInt ∧ n1.toInt < ((3100 : Nat) : Int) := by omega
    obtain rfl : op = 14 := by have := hoa.1; omega
    refine ok.bd (r_guard2 h ho ho2 ht1 hg (Or.inr (Or.inr (Or.inr ⟨rfl, by decide, by decide, by decide, by decide, by decide⟩))) hgd) ?_
    rintro r1 Y hY
    exact nxt ho ho2 (fun r hr => ok.ret (hY.doq hr tn (Or.inl (show (PT o).1 - 1 + 1 ≤ (PT o).1 by omega)) (by omega)))
  · obtain ⟨hv, op, n, hoa, hn, -, ⟨ht1, -⟩, tn, q, hq, tq⟩ := hS.x4 c
    have hn1 : n1.toInt = (n : Int) := by rw [← h41]; exact hoa.2
    have hb : 0 ≤ n1.toInt ∧ n1.toInt < ((3100 : Nat) : Int) := by omega
    have en := ixn hn1
    refine ok.letV (ok.sub (by rw [z1]; omega) (fun x99 hx99 => ok.letV ?_))
    rw [z1] at hx99
    have hz : x99.toInt = ((sb + ((PT o).1 - 1) : Nat) : Int) := by omega
    refine ok.letE (v1 := x99) (wI_at _ _ _ _) (ok.ck (show 0 ≤ x99.toInt ∧ x99.toInt < ((20400 : Nat) : Int) by omega) (ok.letV (ok.ite (fun _ => ?_) (fun _ => ?_))))
    · exact nxt ho ho2 (fun r hr => ok.ret ((INF.pop h 1 hz).doq hr tn (Or.inl (show (PT o).1 - 1 ≤ (PT o).1 by omega)) (by omega)))
    · refine ok.ck hb (ok.letE (v1 := X.1 46 n) (by rw [en]; exact wI_ne _ 0 _ _ 46 _ (by rintro ⟨a_, -⟩; exact absurd a_ (by decide))) (ok.ret ?_))
      exact (INF.pop h 1 hz).doq hq tq (Or.inl (show (PT o).1 - 1 ≤ (PT o).1 by omega)) (by omega)
  · obtain ⟨hv, op, n, hoa, hn, -, q, hq, tq⟩ := hS.x5 c
    have hn1 : n1.toInt = (n : Int) := by rw [← h41]; exact hoa.2
    have hb : 0 ≤ n1.toInt ∧ n1.toInt < ((3100 : Nat) : Int) := by omega
    have en := ixn hn1
    refine ok.ck hb (ok.letE (v1 := X.1 47 n) (by rw [en]) (ok.ret ?_))
    exact h.inf.doq hq tq (Or.inl (Nat.le_refl _)) (by omega)
  · obtain ⟨hv, op, n, hoa, hn, -, ht1, tn⟩ := hS.x14 c
    refine ok.letV (ok.sub (by rw [z1]; omega) (fun x99 hx99 => ok.letV ?_))
    rw [z1] at hx99
    have hz : x99.toInt = ((sb + ((PT o).1 - 1) : Nat) : Int) := by omega
    exact nxt ho ho2 (fun r hr => ok.ret ((INF.pop h 1 hz).doq hr tn (Or.inl (show (PT o).1 - 1 ≤ (PT o).1 by omega)) (by omega)))
  · obtain ⟨hv, op, n, hoa, hn, hgop, ht1, k, hg, tn⟩ := hS.x2 (by omega)
    have hn1 : n1.toInt = (n : Int) := by rw [← h41]; exact hoa.2
    have hb : 0 ≤ n1.toInt ∧ n1.toInt < ((3100 : Nat) : Int) := by omega
    obtain rfl : op = 30 := by have := hoa.1; omega
    refine ok.bd (r_guard2 h ho ho2 ht1 hg (Or.inr (Or.inr (Or.inr ⟨rfl, by decide, by decide, by decide, by decide, by decide⟩))) hgd) ?_
    rintro r1 Y hY
    exact nxt ho ho2 (fun r hr => ok.ret (hY.doq hr tn (Or.inl (show (PT o).1 - 1 + 1 ≤ (PT o).1 by omega)) (by omega)))
  · exfalso
    obtain ⟨hv, op, n, hoa, hn, hS⟩ := hS
    have o1' := hoa.1
    rcases hS with ⟨a, b⟩ | ⟨k, a, c⟩ | ⟨a, b, k, c, f⟩ | ⟨a, b, v, c, d, f, g⟩ | ⟨a, b, d, q, f, g⟩ | ⟨a, q, b, c⟩ | ⟨a, b⟩ | ⟨a, m, r, e1, b, c, d, f, g, i⟩ | ⟨a, b, r, d, f⟩ | ⟨a, b, k, c, d, f⟩ | ⟨a, b, k, c, c2, d⟩ | ⟨a, b, e1, d, g⟩ | ⟨a, b, d, f⟩ | ⟨a, m, b, c, d, f, g, i⟩ | ⟨a, b, c⟩
    · omega
    · unfold LF at a
      omega
    · unfold GOP at a
      omega
    · omega
    · omega
    · omega
    · omega
    · omega
    · omega
    · omega
    · omega
    · omega
    · omega
    · omega
    · omega
  · have hop : 17 ≤ (X.1 40 o).toInt ∧ (X.1 40 o).toInt ≤ 27 := by
      obtain ⟨hv, op, n, hoa, hn, hS⟩ := hS
      have o1' := hoa.1
      rcases hS with ⟨a, b⟩ | ⟨k, a, c⟩ | ⟨a, b, k, c, f⟩ | ⟨a, b, v, c, d, f, g⟩ | ⟨a, b, d, q, f, g⟩ | ⟨a, q, b, c⟩ | ⟨a, b⟩ | ⟨a, m, r, e1, b, c, d, f, g, i⟩ | ⟨a, b, r, d, f⟩ | ⟨a, b, k, c, d, f⟩ | ⟨a, b, k, c, c2, d⟩ | ⟨a, b, e1, d, g⟩ | ⟨a, b, d, f⟩ | ⟨a, m, b, c, d, f, g, i⟩ | ⟨a, b, c⟩
      · omega
      · unfold LF at a
        omega
      · unfold GOP at a
        omega
      · omega
      · omega
      · omega
      · omega
      · omega
      · omega
      · omega
      · omega
      · omega
      · omega
      · omega
      · omega
    refine ok.ck hbo (ok.letE (v1 := X.1 40 o) (by rw [eo]) (ok.bd (r_works h hS h41 hop) ?_))
    rintro r1 Y ⟨t1, hY, tn, gr⟩
    exact nxt ho ho2 (fun r hr => ok.ret (hY.doq hr tn gr (by omega)))
end DO
