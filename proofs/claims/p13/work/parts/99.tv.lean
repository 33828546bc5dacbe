/-! orders within a frame -/
theorem vv_make {u : Bool} {X : St} {G : Nat → Int32} {r e s w : Int32} (h : MK u X r e) (hs : s.toInt = 3) (hr : RV X w) (he : EK X G w = e) : VV u X G r s w := by
  rcases h with ⟨h1, h2, -⟩ | ⟨h1, h2⟩
  · exact Or.inr ⟨h1, fun _ => hr, fun q => by omega, Or.inl h2⟩
  · obtain ⟨a, b, c, d⟩ := h2.vk
    exact Or.inl ⟨h1, a, fun _ => hr, fun q => by omega, Or.inr (Or.inr (Or.inl ⟨b, hs, by rw [d]; exact he⟩))⟩
theorem HP.raw {X : St} {G : Nat → Int32} {t : Nat} (h : HP true X G) (ht : (t : Int) < (X.1 0 33).toInt) : ¬ wrp X t := fun q => absurd ((h.2 t ht).2 q).1 (by decide)
theorem vv_take {u : Bool} {X : St} {G : Nat → Int32} {k e s w : Int32} (hH : HP u X G) (h : TK u X k e) (hv : VV u X G k s w) : s.toInt = 3 ∧ RV X w ∧ EK X G w = e := by
  have z3 : (3 : Int32).toInt = 3 := rfl
  rcases h with ⟨rfl, h2, h3⟩ | ⟨rfl, h2⟩
  · rcases hv with ⟨q, -⟩ | ⟨-, a, b, c⟩
    · exact absurd q (by decide)
    · have s3 : s.toInt = 3 := by
        rcases c with c | ⟨-, c⟩ | ⟨c, c0, -⟩ | ⟨c, c1, c2⟩
        · rw [h2] at c
          exact absurd c (by decide)
        · exact c
        · rw [h2, z3] at c
          omega
        · rw [h2, z3] at c
          omega
      have rv := a s3
      have e0 := ixc rv.1
      have rw2 := rv.2.1
      have nw := hH.raw (t := ix w) (by omega)
      refine ⟨s3, rv, ?_⟩
      unfold EK
      rw [if_pos (Classical.byContradiction nw), h3]
      exact ((hH.2 (ix w) (by omega)).1 nw).2.2.2.1 rfl
  · obtain ⟨a, b, c, d⟩ := h2.vk
    rcases hv with ⟨-, v1, v2, v3, v4⟩ | ⟨q, -⟩
    · rcases v4 with v4 | v4 | ⟨v4, v5, v6⟩ | v4
      · omega
      · omega
      · exact ⟨v5, v2 v5, by rw [v6, d]⟩
      · omega
    · exact absurd q (by decide)
theorem vv_prim {u : Bool} {z : Int} {X : St} {G : Nat → Int32} {k s w : Int32} (h : IK u z X k) (hs : s.toInt + 1 = z ∧ 1 ≤ z ∧ z ≤ 2) : VV u X G k s w := by
  rcases h with ⟨h1, h2⟩ | ⟨h1, h2, h3⟩
  · exact Or.inr ⟨h1, fun q => by omega, fun q => by omega, Or.inl h2⟩
  · exact Or.inl ⟨h1, h2, fun q => by omega, fun q => by omega, Or.inl (by omega)⟩
theorem vv_pk {u : Bool} {z : Int} {X : St} {G : Nat → Int32} {k s w : Int32} (hz : 1 ≤ z ∧ z ≤ 2) (h : PK u z X k) (hv : VV u X G k s w) : s.toInt + 1 = z ∧ 1 ≤ z ∧ z ≤ 2 := by
  have z0 : (0 : Int32).toInt = 0 := rfl
  have z2 : (2 : Int32).toInt = 2 := rfl
  have z3 : (3 : Int32).toInt = 3 := rfl
  rcases h with ⟨rfl, h2⟩ | ⟨rfl, h2, h3⟩
  · rcases hv with ⟨q, -⟩ | ⟨-, a, b, c⟩
    · exact absurd q (by decide)
    · rcases c with c | ⟨c, -⟩ | ⟨c, c0, -⟩ | ⟨c0, c⟩
      · rw [c, z2] at h2
        omega
      · rw [c, z3] at h2
        omega
      · omega
      · omega
  · rcases hv with ⟨-, v1, v2, v3, v4⟩ | ⟨q, -⟩
    · rcases v4 with v4 | v4 | v4 | v4
      · omega
      · omega
      · omega
      · omega
    · exact absurd q (by decide)
/-- a value is of its kind, whatever kind stands for no more -/
theorem vv_any {u : Bool} {X : St} {G : Nat → Int32} {k k1 s w : Int32} {z : Int} (hz : 1 ≤ z ∧ z ≤ 2) (h : IK u z X k1) (hp : PK u z X k) (hv : VV u X G k s w) : VV u X G k1 s w := vv_prim h (vv_pk hz hp hv)
section ORD
variable {u : Bool} {X : St} {G : Nat → Int32} {t : Ty} {sb lb n : Nat} {n1 k : Int32}
/-- a change of the stack's height alone -/
theorem FIN.pop (h : FIN u X G t sb lb) (m : Nat) {z : Int32} (hz : z.toInt = ((sb + (t.1 - m) : Nat) : Int)) : FIN u (wI X 0 31 z) G (pps t m) sb lb ∧ Fr YR [31] X (wI X 0 31 z) := by
  obtain ⟨⟨a1, a2, a3, a4⟩, ⟨b1, b2, b3⟩, a6, ⟨c1, c2, c3, c4, c5⟩, a8⟩ := h
  have hF : Fr YR [31] X (wI X 0 31 z) := Fr.rf.wI 0 31 _ (show (31 : Nat) ∈ [31] from by decide)
  have hv : (wI X 0 31 z).1 0 31 = z := wI_at _ _ _ _
  obtain ⟨Y, hY⟩ : ∃ Y : St, wI X 0 31 z = Y := ⟨_, rfl⟩
  rw [hY] at hF hv ⊢
  have hK : KX X Y := KX.fr hF (by decide)
  have hX : HX X Y G G := HX.fr hF hK (by decide)
  have hP : PER [31] X Y := PER.fr a2 hF (by decide)
  refine ⟨⟨⟨a1.same a2 hF hK (by decide) (by decide), hP.2.1, a3.kx hK, a4.pot hP.2.2.2⟩, ⟨by rw [hF.1 0 18 (by decide)]; exact b1, by rw [hF.1 0 43 (by decide)]; exact b2, by rw [hF.1 0 42 (by decide)]; exact b3⟩, (a6.pps m).hx a2 hX (fun j _ _ => ⟨hF.1 60 j (show (12000 : Nat) ∉ [31] from by decide), hF.1 61 j (show (12200 : Nat) ∉ [31] from by decide)⟩) (fun j _ _ => ⟨hF.1 62 j (show (12400 : Nat) ∉ [31] from by decide), hF.1 63 j (show (12600 : Nat) ∉ [31] from by decide)⟩), ⟨by rw [hv]; exact hz, ?_, by rw [hF.1 0 32 (by decide)]; exact c3, c4, c5⟩, by rw [hF.1 0 46 (by decide)]; exact a8⟩, hF⟩
  show sb + (t.1 - m) ≤ 20000
  omega
/-- m values go, (s, w) comes: as the orders do it -/
theorem w_push (h : FIN u X G t sb lb) {m : Nat} (hm : m ≤ t.1) {z s w : Int32} (hz : z.toInt = ((sb + (t.1 - m) : Nat) : Int)) (hv : VV u X G k s w) : ok (f_value s w (wI X 0 31 z)) (fun _ Y => INF u X Y G (psh (pps t m) k) sb lb) := by
  have hc := h.2.2.2.1.2.1
  obtain ⟨h1, hF⟩ := h.pop m hz
  have v31 : (wI X 0 31 z).1 0 31 = z := wI_at _ _ _ _
  have w60 : ∀ j, (wI X 0 31 z).1 60 j = X.1 60 j := fun j => wI_ne _ _ _ _ _ _ (fun g => absurd g.1 (by decide))
  have w61 : ∀ j, (wI X 0 31 z).1 61 j = X.1 61 j := fun j => wI_ne _ _ _ _ _ _ (fun g => absurd g.1 (by decide))
  obtain ⟨V, hV⟩ : ∃ V : St, wI X 0 31 z = V := ⟨_, rfl⟩
  rw [hV] at h1 hF v31 w60 w61 ⊢
  refine (r_value (i := sb + (t.1 - m)) (by rw [v31]; exact hz) (by omega)).mono ?_
  rintro r Y ⟨y1, y2, y3, y4, y5⟩
  exact INF.push h ((hF.mono (by decide)).tr y1 (fun _ q => q)) hm y2 y3 y4 (fun j hj => ⟨(y5 j (by omega)).1.trans (w60 j), (y5 j (by omega)).2.trans (w61 j)⟩) hv
/-- a value comes -/
theorem w_leaf (h : FIN u X G t sb lb) {s w : Int32} (hv : VV u X G k s w) : ok (f_value s w X) (fun _ Y => INF u X Y G (psh t k) sb lb) := by
  have hc := h.2.2.2.1
  refine (r_value (i := sb + t.1) hc.1 (by omega)).mono ?_
  rintro r Y ⟨y1, y2, y3, y4, y5⟩
  have := INF.push (n := 0) h y1 (Nat.zero_le _) y2 y3 y4 (fun j hj => y5 j (by have : j < sb + (t.1 - 0) := hj; omega)) hv
  exact this
theorem w_row (h : FIN u X G t sb lb) (hn1 : n1.toInt = (n : Int)) (hn : n < 3100) {m : Nat} {r e1 : Int32} (hm : (X.1 27 n).toInt = (m : Int)) (hm20 : m ≤ 20) (hmt : m ≤ t.1) (ha : ∀ j, j < m → tp t j = e1) (hk : MK u X r e1) (he : u = true → e1 = 2) : ok (f_works 18 n1 X) (fun _ Y => INF u X Y G (psh (pps t m) r) sb lb) := by
  have hall := h
  obtain ⟨⟨a1, a2, a3, a4⟩, ⟨b1, b2, b3⟩, a6, ⟨c1, c2, c3, c4, c5⟩, a8⟩ := h
  have en := ixn hn1
  have hb : 0 ≤ n1.toInt ∧ n1.toInt < ((3100 : Nat) : Int) := by omega
  unfold f_works
  refine ok.ite (fun _ => ?_) (fun c => absurd (show (18 : Int32).toInt = 18 from rfl) c)
  refine ok.ck hb (ok.letE (v1 := X.1 27 n) (by rw [en]) (ok.ck hb (ok.letV ?_)))
  refine ok.bd (r_row a1 (by omega)) ?_
  rintro r1 Y ⟨hF, hY⟩
  have hPY := PER.fr a2 hF (by decide)
  refine ok.bd r_isOn ?_
  rintro r2 Y' ⟨rfl, hon⟩
  refine ok.ite (fun q => ok.ret (INF.off hPY (by decide) a8 (by decide) (by omega))) (fun q => ?_)
  have hN : NEWR X Y (X.1 27 n) r1 := by
    rcases hY with hY | hY
    · omega
    · exact hY
  obtain ⟨n1', ⟨n2, n3⟩, ⟨n4, n5, n6⟩, ⟨n7, n8, n9⟩, n10⟩ := id hN
  have y31 : Y.1 0 31 = X.1 0 31 := hF.1 0 31 (by decide)
  have y27 : Y.1 27 n = X.1 27 n := hF.1 27 n (show (5400 : Nat) ∉ [33, 34, 35, 43, 44, 12800, 13000, 13200] from by decide)
  refine ok.letE (v1 := X.1 0 31) y31 (ok.ck hb (ok.letE (v1 := X.1 27 n) (by rw [en]; exact y27) (ok.sub (by omega) (fun z hz => ok.letV ?_))))
  have hFw : Fr YR [31] Y (wI Y 0 31 z) := Fr.rf.wI 0 31 _ (show (31 : Nat) ∈ [31] from by decide)
  have v31 : (wI Y 0 31 z).1 0 31 = z := wI_at _ _ _ _
  obtain ⟨V, hV⟩ : ∃ V : St, wI Y 0 31 z = V := ⟨_, rfl⟩
  rw [hV] at hFw v31 ⊢
  have hth := a1.1.1
  have hpl := a1.1.2.2.1
  have e33 := ixc hth
  have e34 := ixc hpl
  have er : ix r1 = ix (X.1 0 33) := ixn (by omega)
  have v27 : V.1 27 n = X.1 27 n := (hFw.1 27 n (show (5400 : Nat) ∉ [31] from by decide)).trans y27
  have v65 : (V.1 65 (ix r1)).toInt = ((ix (X.1 0 34) : Nat) : Int) := by
    rw [hFw.1 65 _ (show (13000 : Nat) ∉ [31] from by decide), er, n8]
    omega
  refine (row_fill (X := V) (a2 := n1) (a3 := r1) (m := m) (n := n) (fr := ix (X.1 0 34)) (tp0 := sb + (t.1 - m)) hn1 hn (by omega) (by rw [v27]; exact hm) v65 (by omega) (by rw [v31]; omega) (by omega) m 0 V 0 BIG (by omega) (ltBIG (by omega)) rfl Fr.rf (fun c _ => ⟨rfl, rfl⟩) (fun j hj => absurd hj (Nat.not_lt_zero _))).mono ?_
  rintro r3 Z ⟨V2, f1, f2, f3, f4, f5, f6, f7, f8⟩
  have hYZ : Fr YR [31, 12000, 12200, 14800, 15000] Y Z := ((hFw.mono (by decide)).tr f1 (by decide)).tr f4 (by decide)
  have x74 : ∀ c, V.1 74 c = X.1 74 c := fun c => (hFw.1 74 c (show (14800 : Nat) ∉ [31] from by decide)).trans (hF.1 74 c (show (14800 : Nat) ∉ [33, 34, 35, 43, 44, 12800, 13000, 13200] from by decide))
  have x75 : ∀ c, V.1 75 c = X.1 75 c := fun c => (hFw.1 75 c (show (15000 : Nat) ∉ [31] from by decide)).trans (hF.1 75 c (show (15000 : Nat) ∉ [33, 34, 35, 43, 44, 12800, 13000, 13200] from by decide))
  have x60 : ∀ c, V.1 60 c = X.1 60 c := fun c => (hFw.1 60 c (show (12000 : Nat) ∉ [31] from by decide)).trans (hF.1 60 c (show (12000 : Nat) ∉ [33, 34, 35, 43, 44, 12800, 13000, 13200] from by decide))
  have x61 : ∀ c, V.1 61 c = X.1 61 c := fun c => (hFw.1 61 c (show (12200 : Nat) ∉ [31] from by decide)).trans (hF.1 61 c (show (12200 : Nat) ∉ [33, 34, 35, 43, 44, 12800, 13000, 13200] from by decide))
  have z74 : ∀ c, Z.1 74 c = V2.1 74 c := fun c => f4.1 74 c (show (14800 : Nat) ∉ [31, 12000, 12200] from by decide)
  have z75 : ∀ c, Z.1 75 c = V2.1 75 c := fun c => f4.1 75 c (show (15000 : Nat) ∉ [31, 12000, 12200] from by decide)
  have w60 : ∀ c, V2.1 60 c = V.1 60 c := fun c => f1.1 60 c (show (12000 : Nat) ∉ [14800, 15000] from by decide)
  have w61 : ∀ c, V2.1 61 c = V.1 61 c := fun c => f1.1 61 c (show (12200 : Nat) ∉ [14800, 15000] from by decide)
  obtain ⟨G1, g1, g2, g3, g4⟩ := new_row (e := e1) a1 a2 hN hYZ (by omega) (fun c hc => by
    obtain ⟨p1, p2⟩ := f2 c (by omega)
    exact ⟨by rw [z74, p1, x74], by rw [z75, p2, x75]⟩) (fun c c1' c2' => by
    obtain ⟨j, hj⟩ : ∃ j, c = ix (X.1 0 34) + j := ⟨c - ix (X.1 0 34), by omega⟩
    subst hj
    obtain ⟨p1, p2⟩ := f3 j (by omega)
    rw [z74, p1, z75, p2, x60, x61, ← ha (m - 1 - j) (by omega)]
    have := a6.tp (i := m - 1 - j) (by omega)
    rw [show sb + (t.1 - 1 - (m - 1 - j)) = sb + (t.1 - m) + j by omega] at this
    exact this) he
  have hXZ : Fr YR (31 :: 12000 :: 12200 :: 14800 :: 15000 :: [33, 34, 35, 43, 44, 12800, 13000, 13200]) X Z := (hF.mono (by decide)).tr hYZ (by decide)
  have hPZ := PER.fr a2 hXZ (by decide)
  have s60 : ∀ j, j ≠ sb + (t.1 - m) → Z.1 60 j = X.1 60 j ∧ Z.1 61 j = X.1 61 j := fun j hj => ⟨by rw [(f8 j hj).1, w60, x60], by rw [(f8 j hj).2, w61, x61]⟩
  have s62 : ∀ j, Z.1 62 j = X.1 62 j ∧ Z.1 63 j = X.1 63 j := fun j => ⟨hXZ.1 62 j (show (12400 : Nat) ∉ (31 :: 12000 :: 12200 :: 14800 :: 15000 :: [33, 34, 35, 43, 44, 12800, 13000, 13200] : List Nat) from by decide), hXZ.1 63 j (show (12600 : Nat) ∉ (31 :: 12000 :: 12200 :: 14800 :: 15000 :: [33, 34, 35, 43, 44, 12800, 13000, 13200] : List Nat) from by decide)⟩
  refine ⟨hPZ.mono (by decide), by rw [hXZ.1 0 46 (by decide)]; exact a8, fun _ => ⟨G1, g1, g2, FRT.psh ((a6.pps m).hx a2 g1 (fun j j1 j2 => s60 j (by have : j < sb + (t.1 - m) := j2; omega)) (fun j _ _ => s62 j)) ?_, ?_, fun j hj => s60 j (by omega), fun j _ => s62 j⟩⟩
  · show VV u Z G1 r (Z.1 60 (sb + (t.1 - m))) (Z.1 61 (sb + (t.1 - m)))
    rw [f6, f7]
    exact vv_make (hk.kx a2 g1.1) rfl g3 g4
  · rw [f5]
    show _ = ((sb + (t.1 - m + 1) : Nat) : Int)
    omega
theorem w_new (h : FIN u X G t sb lb) (hn1 : n1.toInt = (n : Int)) (hn : n < 3100) {r : Int32} (hmt : 2 ≤ t.1) (hk : MK u X r (tp t 0)) (he : u = true → tp t 0 = 2) : ok (f_makes n1 X) (fun _ Y => INF u X Y G (psh (pps t 2) r) sb lb) := by
  have hall := h
  obtain ⟨⟨a1, a2, a3, a4⟩, ⟨b1, b2, b3⟩, a6, ⟨c1, c2, c3, c4, c5⟩, a8⟩ := h
  have z2 : (2 : Int32).toInt = 2 := rfl
  have en := ixn hn1
  have hb : 0 ≤ n1.toInt ∧ n1.toInt < ((3100 : Nat) : Int) := by omega
  unfold f_makes
  refine ok.letV (ok.sub (by rw [z2]; omega) (fun x2 hx2 => ?_))
  rw [z2] at hx2
  have e2 : ix x2 = sb + (t.1 - 2) := ixn (by omega)
  refine ok.ck (show 0 ≤ x2.toInt ∧ x2.toInt < ((20400 : Nat) : Int) by omega) (ok.letV ?_)
  refine ok.bd (s_f_in _ _ _ _) ?_
  rintro r0 X' ⟨hF0, hin⟩
  obtain rfl : X = X' := (Fr.nil hF0).symm
  have hin : (r0.toInt = 1 ∧ 0 ≤ (X.1 61 (ix x2)).toInt ∧ (X.1 61 (ix x2)).toInt ≤ 1000) ∨ (r0.toInt = 0 ∧ ((X.1 61 (ix x2)).toInt < 0 ∨ 1000 < (X.1 61 (ix x2)).toInt)) := hin
  refine ok.ite (fun c => ?_) (fun c => ?_)
  · refine ok.ck hb (ok.letV (ok.bd r_ends ?_))
    rintro r2 E ⟨hE, hE2, -⟩
    exact ok.ret (INF.off (PER.fr a2 hE (by decide)) (by decide) a8 (by decide) (hE2 (by decide)))
  · have hsz : 0 ≤ (X.1 61 (ix x2)).toInt ∧ (X.1 61 (ix x2)).toInt ≤ 1000 := by omega
    refine ok.ck hb (ok.letV (ok.bd (r_row a1 hsz) ?_))
    rintro r1 Y ⟨hF, hY⟩
    have hPY := PER.fr a2 hF (by decide)
    refine ok.bd r_isOn ?_
    rintro r2 Y' ⟨rfl, hon⟩
    refine ok.ite (fun q => ok.ret (INF.off hPY (by decide) a8 (by decide) (by omega))) (fun q => ?_)
    have hN : NEWR X Y (X.1 61 (ix x2)) r1 := by
      rcases hY with hY | hY
      · omega
      · exact hY
    obtain ⟨n1', ⟨n2, n3⟩, ⟨n4, n5, n6⟩, ⟨n7, n8, n9⟩, n10⟩ := id hN
    obtain ⟨m, hm⟩ : ∃ m : Nat, (X.1 61 (ix x2)).toInt = (m : Int) := ⟨ix (X.1 61 (ix x2)), (ixc hsz.1).symm⟩
    have y31 : Y.1 0 31 = X.1 0 31 := hF.1 0 31 (by decide)
    have hth := a1.1.1
    have hpl := a1.1.2.2.1
    have e33 := ixc hth
    have e34 := ixc hpl
    have er : ix r1 = ix (X.1 0 33) := ixn (by omega)
    have v65 : (Y.1 65 (ix r1)).toInt = ((ix (X.1 0 34) : Nat) : Int) := by
      rw [er, n8]
      omega
    refine (make_fill (X := Y) (a2 := X.1 61 (ix x2)) (a3 := r1) (m := m) (fr := ix (X.1 0 34)) (tp0 := sb + (t.1 - 2)) hm (by omega) v65 (by omega) (by rw [y31]; omega) (by omega) m 0 Y 0 BIG (by omega) (ltBIG (by omega)) rfl Fr.rf (fun c _ => ⟨rfl, rfl⟩) (fun j hj => absurd hj (Nat.not_lt_zero _))).mono ?_
    rintro r3 Z ⟨V2, f1, f2, f3, f4, f5, f6, f7, f8⟩
    have hYZ : Fr YR [31, 12000, 12200, 14800, 15000] Y Z := (f1.mono (by decide)).tr f4 (by decide)
    have x74 : ∀ c, Y.1 74 c = X.1 74 c := fun c => hF.1 74 c (show (14800 : Nat) ∉ [33, 34, 35, 43, 44, 12800, 13000, 13200] from by decide)
    have x75 : ∀ c, Y.1 75 c = X.1 75 c := fun c => hF.1 75 c (show (15000 : Nat) ∉ [33, 34, 35, 43, 44, 12800, 13000, 13200] from by decide)
    have x60 : ∀ c, Y.1 60 c = X.1 60 c := fun c => hF.1 60 c (show (12000 : Nat) ∉ [33, 34, 35, 43, 44, 12800, 13000, 13200] from by decide)
    have x61 : ∀ c, Y.1 61 c = X.1 61 c := fun c => hF.1 61 c (show (12200 : Nat) ∉ [33, 34, 35, 43, 44, 12800, 13000, 13200] from by decide)
    have z74 : ∀ c, Z.1 74 c = V2.1 74 c := fun c => f4.1 74 c (show (14800 : Nat) ∉ [31, 12000, 12200] from by decide)
    have z75 : ∀ c, Z.1 75 c = V2.1 75 c := fun c => f4.1 75 c (show (15000 : Nat) ∉ [31, 12000, 12200] from by decide)
    have w60 : ∀ c, V2.1 60 c = Y.1 60 c := fun c => f1.1 60 c (show (12000 : Nat) ∉ [14800, 15000] from by decide)
    have w61 : ∀ c, V2.1 61 c = Y.1 61 c := fun c => f1.1 61 c (show (12200 : Nat) ∉ [14800, 15000] from by decide)
    obtain ⟨G1, g1, g2, g3, g4⟩ := new_row (e := tp t 0) a1 a2 hN hYZ hsz.1 (fun c hc => by
      obtain ⟨p1, p2⟩ := f2 c (by omega)
      exact ⟨by rw [z74, p1, x74], by rw [z75, p2, x75]⟩) (fun c c1' c2' => by
      obtain ⟨j, hj⟩ : ∃ j, c = ix (X.1 0 34) + j := ⟨c - ix (X.1 0 34), by omega⟩
      subst hj
      obtain ⟨p1, p2⟩ := f3 j (by omega)
      rw [z74, p1, z75, p2, x60, x61]
      have := a6.tp (i := 0) (by omega)
      rw [show sb + (t.1 - 1 - 0) = sb + (t.1 - 2) + 1 by omega] at this
      exact this) he
    have hXZ : Fr YR (31 :: 12000 :: 12200 :: 14800 :: 15000 :: [33, 34, 35, 43, 44, 12800, 13000, 13200]) X Z := (hF.mono (by decide)).tr hYZ (by decide)
    have hPZ := PER.fr a2 hXZ (by decide)
    have s60 : ∀ j, j ≠ sb + (t.1 - 2) → Z.1 60 j = X.1 60 j ∧ Z.1 61 j = X.1 61 j := fun j hj => ⟨by rw [(f8 j hj).1, w60, x60], by rw [(f8 j hj).2, w61, x61]⟩
    have s62 : ∀ j, Z.1 62 j = X.1 62 j ∧ Z.1 63 j = X.1 63 j := fun j => ⟨hXZ.1 62 j (show (12400 : Nat) ∉ (31 :: 12000 :: 12200 :: 14800 :: 15000 :: [33, 34, 35, 43, 44, 12800, 13000, 13200] : List Nat) from by decide), hXZ.1 63 j (show (12600 : Nat) ∉ (31 :: 12000 :: 12200 :: 14800 :: 15000 :: [33, 34, 35, 43, 44, 12800, 13000, 13200] : List Nat) from by decide)⟩
    refine ⟨hPZ.mono (by decide), by rw [hXZ.1 0 46 (by decide)]; exact a8, fun _ => ⟨G1, g1, g2, FRT.psh ((a6.pps 2).hx a2 g1 (fun j j1 j2 => s60 j (by have : j < sb + (t.1 - 2) := j2; omega)) (fun j _ _ => s62 j)) ?_, ?_, fun j hj => s60 j (by omega), fun j _ => s62 j⟩⟩
    · show VV u Z G1 r (Z.1 60 (sb + (t.1 - 2))) (Z.1 61 (sb + (t.1 - 2)))
      rw [f6, f7]
      exact vv_make (hk.kx a2 g1.1) rfl g3 g4
    · rw [f5]
      show _ = ((sb + (t.1 - 2 + 1) : Nat) : Int)
      omega
end ORD
