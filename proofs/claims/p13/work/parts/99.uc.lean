/-! sizes, prints, sums -/
section ORD
variable {u : Bool} {X : St} {G : Nat → Int32} {t : Ty} {sb lb n : Nat} {n1 k : Int32}
theorem w_size (h : FIN u X G t sb lb) (hmt : 1 ≤ t.1) {e1 : Int32} (hk : TK u X (tp t 0) e1) (hi : IK u 1 X k) : ok (f_works 20 n1 X) (fun _ Y => INF u X Y G (psh (pps t 1) k) sb lb) := by
  have hall := h
  obtain ⟨⟨a1, a2, a3, a4⟩, ⟨b1, b2, b3⟩, a6, ⟨c1, c2, c3, c4, c5⟩, a8⟩ := h
  have z1 : (1 : Int32).toInt = 1 := rfl
  have h33 := a1.1.2.1
  unfold f_works
  refine ok.ite (fun c => absurd c (by decide)) (fun _ => ok.ite (fun c => absurd c (by decide)) (fun _ => ok.ite (fun _ => ?_) (fun c => absurd (show (20 : Int32).toInt = 20 from rfl) c)))
  refine ok.letV (ok.sub (by rw [z1]; omega) (fun x31 hx31 => ok.letV ?_))
  rw [z1] at hx31
  have e31 : ix x31 = sb + (t.1 - 1) := ixn (by omega)
  have hv := a6.tp (i := 0) (by omega)
  rw [show sb + (t.1 - 1 - 0) = ix x31 by omega] at hv
  obtain ⟨s3, rv, ek⟩ := vv_take a1 hk hv
  obtain ⟨f, d, f0, hc, -, hd⟩ := r_chain a1 1001 (X.1 61 (ix x31)) (by have := rv.2.1; omega) rv
  have hz : x31.toInt = ((sb + (t.1 - 1) : Nat) : Int) := by omega
  obtain ⟨-, hF⟩ := hall.pop 1 hz
  have hX : HX X (wI X 0 31 x31) G G := HX.fr hF (KX.fr hF (by decide)) (by decide)
  have rvd := hc.1 d (Nat.le_refl _)
  have rd2 := rvd.2.1
  have hbd : 0 ≤ (f d).toInt ∧ (f d).toInt < ((1000 : Nat) : Int) := ⟨rvd.1, by omega⟩
  refine ok.letE (v1 := x31) (wI_at _ _ _ _) (ok.ck (show 0 ≤ x31.toInt ∧ x31.toInt < ((20400 : Nat) : Int) by omega) (ok.letE (v1 := f 0) ?_ ?_))
  · rw [wI_ne _ 0 _ _ 61 _ (by rintro ⟨a_, -⟩; exact absurd a_ (by decide))]
    exact f0.symm
  unfold f_within
  refine ok.bd (r_within3 (by rw [hF.1 0 33 (by decide)]; exact h33) rfl d BIG f (hc.hx hX) (ltBIG (by omega))) ?_
  rintro r Y ⟨rfl, rfl⟩
  refine ok.ck hbd (ok.letV (ok.bd (w_push hall (m := 1) hmt hz (vv_prim hi ⟨by decide, by decide, by decide⟩)) ?_))
  rintro r2 Y hY
  exact ok.ret hY
theorem w_print (h : FIN u X G t sb lb) (hn1 : n1.toInt = (n : Int)) (hn : n < 3100) (hmt : 1 ≤ t.1) (hp : PK u 1 X (tp t 0)) (hi : IK u 1 X k) : ok (f_works 21 n1 X) (fun _ Y => INF u X Y G (psh (pps t 1) k) sb lb) := by
  have hall := h
  obtain ⟨⟨a1, a2, a3, a4⟩, ⟨b1, b2, b3⟩, a6, ⟨c1, c2, c3, c4, c5⟩, a8⟩ := h
  have z1 : (1 : Int32).toInt = 1 := rfl
  have hb : 0 ≤ n1.toInt ∧ n1.toInt < ((3100 : Nat) : Int) := by omega
  unfold f_works
  refine ok.ite (fun c => absurd c (by decide)) (fun _ => ok.ite (fun c => absurd c (by decide)) (fun _ => ok.ite (fun c => absurd c (by decide)) (fun _ => ok.ite (fun _ => ?_) (fun c => absurd (show (21 : Int32).toInt = 21 from rfl) c))))
  refine ok.letV (ok.ite (fun c => ?_) (fun c => ?_))
  · refine ok.ck hb (ok.letV (ok.bd r_ends ?_))
    rintro r E ⟨hE, hE2, -⟩
    exact ok.ret (INF.off (PER.fr a2 hE (by decide)) (by decide) a8 (by decide) (hE2 (by decide)))
  · refine ok.letV (ok.letV (ok.sub (by rw [z1]; omega) (fun x43 hx43 => ?_)))
    rw [z1] at hx43
    have e43 : ix x43 = sb + (t.1 - 1) := ixn (by omega)
    refine ok.ck (show 0 ≤ x43.toInt ∧ x43.toInt < ((20400 : Nat) : Int) by omega) (ok.letV (ok.ck (show 0 ≤ (X.1 0 46).toInt ∧ (X.1 0 46).toInt < ((200 : Nat) : Int) by omega) (ok.letV ?_)))
    refine ok.letE (v1 := X.1 0 46) (wI_ne _ 79 _ _ 0 _ (by rintro ⟨a_, -⟩; exact absurd a_ (by decide))) (ok.add (by rw [z1]; omega) (fun x47 hx47 => ok.letV ?_))
    rw [z1] at hx47
    have hF : Fr YR [46, 15800] X (wI (wI X 79 (ix (X.1 0 46)) (X.1 61 (ix x43))) 0 46 x47) := (Fr.rf.wI 79 _ _ (show (15800 : Nat) ∈ [46, 15800] from by decide)).wI 0 46 _ (show (46 : Nat) ∈ [46, 15800] from by decide)
    have v46 : (wI (wI X 79 (ix (X.1 0 46)) (X.1 61 (ix x43))) 0 46 x47).1 0 46 = x47 := wI_at _ _ _ _
    obtain ⟨Y, hY⟩ : ∃ Y : St, wI (wI X 79 (ix (X.1 0 46)) (X.1 61 (ix x43))) 0 46 x47 = Y := ⟨_, rfl⟩
    rw [hY] at hF v46 ⊢
    have hK : KX X Y := KX.fr hF (by decide)
    have hX : HX X Y G G := HX.fr hF hK (by decide)
    have y60 : ∀ j, Y.1 60 j = X.1 60 j := fun j => hF.1 60 j (show (12000 : Nat) ∉ [46, 15800] from by decide)
    have y61 : ∀ j, Y.1 61 j = X.1 61 j := fun j => hF.1 61 j (show (12200 : Nat) ∉ [46, 15800] from by decide)
    have y62 : ∀ j, Y.1 62 j = X.1 62 j := fun j => hF.1 62 j (show (12400 : Nat) ∉ [46, 15800] from by decide)
    have y63 : ∀ j, Y.1 63 j = X.1 63 j := fun j => hF.1 63 j (show (12600 : Nat) ∉ [46, 15800] from by decide)
    refine ok.ret ⟨(PER.fr a2 hF (by decide)).mono (by decide), by rw [v46]; omega, fun _ => ⟨G, hX, a1.same a2 hF hK (by decide) (by decide), FRT.psh ((a6.pps 1).hx a2 hX (fun j _ _ => ⟨y60 j, y61 j⟩) (fun j _ _ => ⟨y62 j, y63 j⟩)) ?_, ?_, fun j _ => ⟨y60 j, y61 j⟩, fun j _ => ⟨y62 j, y63 j⟩⟩⟩
    · show VV u Y G k (Y.1 60 (sb + (t.1 - 1))) (Y.1 61 (sb + (t.1 - 1)))
      rw [y60, y61]
      exact (vv_any ⟨by decide, by decide⟩ hi hp (a6.tp (i := 0) (by omega))).hx a2 hX
    · rw [hF.1 0 31 (by decide), c1]
      show _ = ((sb + (t.1 - 1 + 1) : Nat) : Int)
      omega
/-- what is on top is turned into another number -/
theorem w_neg {z : Int} (hz : 1 ≤ z ∧ z ≤ 2) (h : FIN u X G t sb lb) (hmt : 1 ≤ t.1) (hp : PK u z X (tp t 0)) (hi : IK u z X k) {x w : Int32} (hx : x.toInt = (X.1 0 31).toInt - 1) : INF u X (wI X 61 (ix x) w) G (psh (pps t 1) k) sb lb := by
  have hall := h
  obtain ⟨⟨a1, a2, a3, a4⟩, ⟨b1, b2, b3⟩, a6, ⟨c1, c2, c3, c4, c5⟩, a8⟩ := h
  have ex : ix x = sb + (t.1 - 1) := ixn (by omega)
  rw [ex]
  have hF : Fr YR [31, 12000, 12200] X (wI X 61 (sb + (t.1 - 1)) w) := Fr.rf.wI 61 _ _ (show (12200 : Nat) ∈ [31, 12000, 12200] from by decide)
  refine INF.push (n := 1) (s := X.1 60 (sb + (t.1 - 1))) (w := w) hall hF hmt ?_ ?_ (wI_at _ _ _ _) (fun j hj => ⟨?_, ?_⟩) (vv_prim hi (vv_pk hz hp (a6.tp (i := 0) (by omega))))
  · rw [wI_ne _ 61 _ _ 0 _ (by rintro ⟨a_, -⟩; exact absurd a_ (by decide))]
    omega
  · exact wI_ne _ 61 _ _ 60 _ (by rintro ⟨a_, -⟩; exact absurd a_ (by decide))
  · exact wI_ne _ 61 _ _ 60 _ (by rintro ⟨a_, -⟩; exact absurd a_ (by decide))
  · exact wI_ne _ 61 _ _ 61 _ (by rintro ⟨-, a_⟩; omega)
theorem w_minus (h : FIN u X G t sb lb) (hmt : 1 ≤ t.1) (hp : PK u 1 X (tp t 0)) (hi : IK u 1 X k) : ok (f_works 22 n1 X) (fun _ Y => INF u X Y G (psh (pps t 1) k) sb lb) := by
  have c1 := h.2.2.2.1.1
  have c2 := h.2.2.2.1.2.1
  have z1 : (1 : Int32).toInt = 1 := rfl
  unfold f_works
  refine ok.ite (fun c => absurd c (by decide)) (fun _ => ok.ite (fun c => absurd c (by decide)) (fun _ => ok.ite (fun c => absurd c (by decide)) (fun _ => ok.ite (fun c => absurd c (by decide)) (fun _ => ok.ite (fun _ => ?_) (fun c => absurd (show (22 : Int32).toInt = 22 from rfl) c)))))
  refine ok.letV (ok.sub (by rw [z1]; omega) (fun x53 hx53 => ok.letV (ok.sub (by rw [z1]; omega) (fun x55 hx55 => ?_))))
  rw [z1] at hx53 hx55
  refine ok.ck (show 0 ≤ x55.toInt ∧ x55.toInt < ((20400 : Nat) : Int) by omega) (ok.letV (ok.letV (ok.ck (show 0 ≤ x53.toInt ∧ x53.toInt < ((20400 : Nat) : Int) by omega) (ok.letV (ok.ret ?_)))))
  exact w_neg ⟨by decide, by decide⟩ h hmt hp hi hx53
theorem w_not (h : FIN u X G t sb lb) (hmt : 1 ≤ t.1) (hp : PK u 2 X (tp t 0)) (hi : IK u 2 X k) : ok (f_works 23 n1 X) (fun _ Y => INF u X Y G (psh (pps t 1) k) sb lb) := by
  have c1 := h.2.2.2.1.1
  have c2 := h.2.2.2.1.2.1
  have z1 : (1 : Int32).toInt = 1 := rfl
  unfold f_works
  refine ok.ite (fun c => absurd c (by decide)) (fun _ => ok.ite (fun c => absurd c (by decide)) (fun _ => ok.ite (fun c => absurd c (by decide)) (fun _ => ok.ite (fun c => absurd c (by decide)) (fun _ => ok.ite (fun c => absurd c (by decide)) (fun _ => ok.ite (fun _ => ?_) (fun c => absurd (show (23 : Int32).toInt = 23 from rfl) c))))))
  refine ok.letV (ok.sub (by rw [z1]; omega) (fun x53 hx53 => ok.letV (ok.sub (by rw [z1]; omega) (fun x55 hx55 => ?_))))
  rw [z1] at hx53 hx55
  refine ok.ck (show 0 ≤ x55.toInt ∧ x55.toInt < ((20400 : Nat) : Int) by omega) (ok.letV (ok.letV (ok.ck (show 0 ≤ x53.toInt ∧ x53.toInt < ((20400 : Nat) : Int) by omega) (ok.letV (ok.ret ?_)))))
  exact w_neg ⟨by decide, by decide⟩ h hmt hp hi hx53
theorem w_sums (h : FIN u X G t sb lb) (hn1 : n1.toInt = (n : Int)) (hn : n < 3100) (hmt : 2 ≤ t.1) (hi : IK u 1 X k) (hlev : 2 ≤ (levF (X.1 26 n).toInt64).toInt) : ok (f_sums n1 X) (fun _ Y => INF u X Y G (psh (pps t 2) k) sb lb) := by
  have hall := h
  obtain ⟨⟨a1, a2, a3, a4⟩, ⟨b1, b2, b3⟩, a6, ⟨c1, c2, c3, c4, c5⟩, a8⟩ := h
  have z1 : (1 : Int32).toInt = 1 := rfl
  have z2 : (2 : Int32).toInt = 2 := rfl
  have en := ixn hn1
  have hb : 0 ≤ n1.toInt ∧ n1.toInt < ((3100 : Nat) : Int) := by omega
  have hl := lev_sum hlev
  unfold f_sums
  refine ok.letV (ok.sub (by rw [z2]; omega) (fun x2 hx2 => ok.letV ?_))
  rw [z2] at hx2
  have hz : x2.toInt = ((sb + (t.1 - 2) : Nat) : Int) := by omega
  obtain ⟨-, hF⟩ := hall.pop 2 hz
  have v26 : (wI X 0 31 x2).1 26 (ix n1) = X.1 26 n := by
    rw [en]
    exact wI_ne _ 0 _ _ 26 _ (by rintro ⟨a_, -⟩; exact absurd a_ (by decide))
  have fin : ∀ z, ok (bnd (f_value (0 : Int32) z (wI X 0 31 x2)) fun _ X13 => some ((0 : Int32), X13)) (fun _ Y => INF u X Y G (psh (pps t 2) k) sb lb) := fun z => by
    refine ok.bd (w_push hall (m := 2) hmt hz (vv_prim hi ⟨by decide, by decide, by decide⟩)) ?_
    rintro r Y hY
    exact ok.ret hY
  have s70 : ∀ p q : Int32, (¬ q.toInt = 0 ∨ ¬ ((X.1 26 n).toInt = 47 ∨ (X.1 26 n).toInt = 37)) → ok (f_sums_70 n1 p q (wI X 0 31 x2)) (fun _ Y => INF u X Y G (psh (pps t 2) k) sb lb) := by
    intro p q hq
    unfold f_sums_70
    exact ok.ck hb (ok.letE (v1 := X.1 26 n) v26 (ok.ite (fun _ => ok.letV (fin _)) (fun c1 => ok.ite (fun _ => ok.letV (fin _)) (fun c2 => ok.ite (fun _ => ok.letV (fin _)) (fun c3 => ok.ite (fun c4 => ok.ck (by omega) (ok.letV (fin _))) (fun c4 => ok.ck (by omega) (ok.letV (fin _))))))))
  have s54 : ∀ p q : Int32, ok (f_sums_54 n1 p q (wI X 0 31 x2)) (fun _ Y => INF u X Y G (psh (pps t 2) k) sb lb) := by
    intro p q
    unfold f_sums_54
    refine ok.ite (fun _ => ?_) (fun c => s70 p q (Or.inl c))
    refine ok.ck hb (ok.letV (ok.bd r_ends ?_))
    rintro r E ⟨hE, hE2, -⟩
    exact ok.ret (INF.off (PER.fr a2 ((hF.mono (by decide)).tr hE (by decide) : Fr YR [31, 43, 44] X E) (by decide)) (by decide) a8 (by decide) (hE2 (by decide)))
  refine ok.letE (v1 := x2) (wI_at _ _ _ _) (ok.ck (show 0 ≤ x2.toInt ∧ x2.toInt < ((20400 : Nat) : Int) by omega) (ok.letV (ok.letE (v1 := x2) (wI_at _ _ _ _) (ok.add (by rw [z1]; omega) (fun x7 hx7 => ?_)))))
  rw [z1] at hx7
  refine ok.ck (show 0 ≤ x7.toInt ∧ x7.toInt < ((20400 : Nat) : Int) by omega) (ok.letV (ok.ck hb (ok.letE (v1 := X.1 26 n) v26 (ok.ite (fun _ => s54 _ _) (fun c47 => ok.ck hb (ok.letE (v1 := X.1 26 n) v26 (ok.ite (fun _ => s54 _ _) (fun c37 => s70 _ _ (Or.inr (by omega))))))))))
theorem w_compare (h : FIN u X G t sb lb) (hn1 : n1.toInt = (n : Int)) (hn : n < 3100) (hmt : 2 ≤ t.1) (hi : IK u 2 X k) : ok (f_works 25 n1 X) (fun _ Y => INF u X Y G (psh (pps t 2) k) sb lb) := by
  have hall := h
  obtain ⟨⟨a1, a2, a3, a4⟩, ⟨b1, b2, b3⟩, a6, ⟨c1, c2, c3, c4, c5⟩, a8⟩ := h
  have z1 : (1 : Int32).toInt = 1 := rfl
  have z2 : (2 : Int32).toInt = 2 := rfl
  have hb : 0 ≤ n1.toInt ∧ n1.toInt < ((3100 : Nat) : Int) := by omega
  unfold f_works
  refine ok.ite (fun c => absurd c (by decide)) (fun _ => ok.ite (fun c => absurd c (by decide)) (fun _ => ok.ite (fun c => absurd c (by decide)) (fun _ => ok.ite (fun c => absurd c (by decide)) (fun _ => ok.ite (fun c => absurd c (by decide)) (fun _ => ok.ite (fun c => absurd c (by decide)) (fun _ => ok.ite (fun c => absurd c (by decide)) (fun _ => ok.ite (fun _ => ?_) (fun c => absurd (show (25 : Int32).toInt = 25 from rfl) c))))))))
  refine ok.letV (ok.sub (by rw [z2]; omega) (fun x2 hx2 => ok.letV ?_))
  rw [z2] at hx2
  have hz : x2.toInt = ((sb + (t.1 - 2) : Nat) : Int) := by omega
  have fin : ∀ z, ok (f_works_432 z (1 : Int32) (wI X 0 31 x2)) (fun _ Y => INF u X Y G (psh (pps t 2) k) sb lb) := fun z => by
    unfold f_works_432
    refine ok.bd (w_push hall (m := 2) hmt hz (vv_prim hi ⟨by decide, by decide, by decide⟩)) ?_
    rintro r Y hY
    exact ok.ret hY
  have s420 : ∀ z, ok (f_works_420 z (wI X 0 31 x2)) (fun _ Y => INF u X Y G (psh (pps t 2) k) sb lb) := fun z => by
    unfold f_works_420
    exact ok.ite (fun _ => fin _) (fun _ => fin _)
  have b2 : 0 ≤ x2.toInt ∧ x2.toInt < ((20400 : Nat) : Int) := by omega
  refine ok.ck hb (ok.letV (ok.ite (fun _ => ?_) (fun _ => ?_)))
  · refine ok.letE (v1 := x2) (wI_at _ _ _ _) (ok.ck b2 (ok.letV (ok.letE (v1 := x2) (wI_at _ _ _ _) (ok.add (by rw [z1]; omega) (fun x7 hx7 => ?_)))))
    rw [z1] at hx7
    exact ok.ck (show 0 ≤ x7.toInt ∧ x7.toInt < ((20400 : Nat) : Int) by omega) (ok.letV (ok.ite (fun _ => s420 _) (fun _ => s420 _)))
  · refine ok.letE (v1 := x2) (wI_at _ _ _ _) (ok.ck b2 (ok.letV (ok.letE (v1 := x2) (wI_at _ _ _ _) (ok.add (by rw [z1]; omega) (fun x7 hx7 => ?_)))))
    rw [z1] at hx7
    exact ok.ck (show 0 ≤ x7.toInt ∧ x7.toInt < ((20400 : Nat) : Int) by omega) (ok.letV (ok.ite (fun _ => s420 _) (fun _ => s420 _)))
end ORD
