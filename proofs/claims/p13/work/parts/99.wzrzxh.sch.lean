/-! what an asking wants to know of a value -/
/-- how many each part takes -/
def PRm (e : Nat) (X Y : St) : Prop := (0 ≤ (X.1 0 18).toInt ∧ (X.1 0 18).toInt ≤ 40) ∧ Y.1 e 1 = X.1 0 18 ∧ ∀ k : Nat, (k : Int) < (X.1 0 18).toInt → Y.1 (e + 13) k = X.1 15 k
section SCHS
variable {X Y Z X1 Y1 X2 Y2 : St} {r r1 r2 : Nat → Int32} {s w k k1 a b p g t p1 p2 dp b0 : Int32} {y y1 : Int64} {ks : List (List Int)} {e c m n : Nat} {d d1 : List Int} {u : Bool} {G : Nat → Int32}
theorem FV.cg (q : ∀ e k, ¬ e = 80 → X1.1 e k = X.1 e k) (h : FV X w) : FV X1 w := by
  unfold FV VK _root_.Jvm.Pilot.CBlameCourtLaw_law_r8381_f30dd1.so wrp at h ⊢
  rw [q 0 18 (by omega), q 0 33 (by omega), q 64 _ (by omega), q 69 _ (by omega), q 0 13 (by omega), q 4 _ (by omega)]
  exact h
theorem FCH.cg {f : Nat → Int32} {D : Nat} (q : ∀ e k, ¬ e = 80 → X1.1 e k = X.1 e k) (h : FCH X f D) : FCH X1 f D := ⟨fun i hi => by
  obtain ⟨h1, h2, h3⟩ := h.1 i hi
  exact ⟨h1, h2.cg q, by rw [q 67 _ (by omega)]; exact h3⟩, h.2⟩
/-- what all wrappings are around -/
theorem n_core (hP : HP u X G) (hH : HR X Y r ks) (hv : VR X r s w y) (h3 : s.toInt = 3 → RV X w) (h4 : s.toInt = 4 → FV X w) : ∃ cc, pw (g_Heap_core y Y) (fun z Y1 => Y1 = Y ∧ z = VLs s cc) ∧ (s.toInt = 3 → ∃ f D, f 0 = w ∧ CHN X f D ∧ D ≤ 20 ∧ cc = r (ix (f D))) ∧ (s.toInt = 4 → ∃ f D, f 0 = w ∧ FCH X f D ∧ D ≤ 20 ∧ cc = f D) := by
  rcases hv with ⟨v1, v2⟩ | v | v
  · refine ⟨w, ?_, fun z => by omega, fun z => by omega⟩
    obtain ⟨yc, hy⟩ : ∃ yc : Nat → Int64, ∀ i, yc i = VLs s w := ⟨fun _ => VLs s w, fun _ => rfl⟩
    have hc : CCH Y yc (fun _ => 0) 0 := ⟨by omega, fun i hi => absurd hi (Nat.not_lt_zero _), s, w, hy 0, by omega⟩
    have hq := l_core hc
    rw [hy] at hq
    rw [v2]
    exact hq
  · have s3 := v.1
    obtain ⟨f, D, f0, hc, _, hD⟩ := r_chain hP (w.toInt.toNat + 1) w (by omega) (h3 s3)
    have e3 : s = 3 := Int32.toInt_inj.mp (by rw [s3]; decide)
    have q := hH.ch3 hc hD
    refine ⟨r (ix (f D)), ?_, fun _ => ⟨f, D, f0, hc, hD, rfl⟩, fun z => by omega⟩
    have ey : y = tvl X r (ix (f 0)) := by rw [f0]; exact v.2.2
    have eD : tvl X r (ix (f D)) = VLs s (r (ix (f D))) := by
      rw [e3]
      exact if_pos (Classical.byContradiction (fun z => hc.2.2 z))
    obtain ⟨yc, hy⟩ : ∃ yc : Nat → Int64, yc = fun i => tvl X r (ix (f i)) := ⟨_, rfl⟩
    rw [← hy] at q
    have hq := l_core q
    rw [show yc 0 = y by rw [hy, ey], show yc D = VLs s (r (ix (f D))) by rw [hy]; exact eD] at hq
    exact hq
  · have s4 := v.1
    have hv : VR X r s w y := Or.inr (Or.inr v)
    have hw := (hv.to4 s4).i4
    obtain ⟨f, D, f0, hc, _, hD⟩ := f_chain hP (w.toInt.toNat + 1) w (by omega) (h4 s4)
    have e4 : s = 4 := Int32.toInt_inj.mp (by rw [s4]; decide)
    have q := hH.ch4 hc hD
    refine ⟨f D, ?_, fun z => by omega, fun _ => ⟨f, D, f0, hc, hD, rfl⟩⟩
    have ey : y = fvl r (f 0) := by rw [f0]; exact hw.1
    have eD : fvl r (f D) = VLs s (f D) := by
      rw [e4]
      exact if_pos hc.2.2
    obtain ⟨yc, hy⟩ : ∃ yc : Nat → Int64, yc = fun i => fvl r (f i) := ⟨_, rfl⟩
    rw [← hy] at q
    have hq := l_core q
    rw [show yc 0 = y by rw [hy, ey], show yc D = VLs s (f D) by rw [hy]; exact eD] at hq
    exact hq
theorem so4_of {A B : Int} (w : A = B + 1) (h : 0 ≤ B ∧ B ≤ 4 ∧ ¬ B = 2) (c1 : ¬ A = 1) (c2 : ¬ A = 2) (c3 : ¬ A = 4) : B = 4 := by omega
theorem RBk.pe (h : RBk e X Y ks) : Y.2.2 70 2 - 1 = e := by
  have := h.2.2.2
  omega
theorem RBk.o3 (h : RBk e X Y ks) : (e + 1 = 3 ∨ e + 1 = 25) := by
  rcases h.1 with z | z
  · exact Or.inl (by omega)
  · exact Or.inr (by omega)
theorem l_withAnys (hB : RBk e X Y ks) (hd : KC ks a d) : pw (g_Kinds_withAnys (e + 1) a Y) (fun z Y1 => Y1 = Y ∧ ((sot d = 3 ∧ z = 3) ∨ (sot d = 4 ∧ z.toInt = 4 + (tkn d : Int) ∧ tkn d ≤ 4) ∨ (¬ sot d = 3 ∧ ¬ sot d = 4 ∧ z = 2))) := by
  have l4 : (4 : Int32).toInt = 4 := by decide
  obtain ⟨j, hj, hk⟩ := hd
  have hT := hB.2.2.1.1
  obtain ⟨mw, hw⟩ := (hT.2.1 j d hk).2
  unfold g_Kinds_withAnys
  refine pw_bd (kk_sortOf hB.o3 hT hj hk) ?_
  rintro x1 X2 ⟨e2, h1⟩
  rw [e2]
  refine pw_ite (fun c => pw_ret ⟨rfl, Or.inl ⟨by omega, rfl⟩⟩) (fun c => pw_bd (kk_sortOf hB.o3 hT hj hk) ?_)
  rintro x3 X4 ⟨e4, h3⟩
  rw [e4]
  refine pw_ite (fun c2 => pw_bd (kk_takenBy hB.o3 hT hj hk) ?_) (fun c2 => pw_ret ⟨rfl, Or.inr (Or.inr ⟨by omega, by omega, rfl⟩)⟩)
  rintro x5 X6 ⟨e6, h5⟩
  rw [e6]
  have ht := tkn4 hw
  refine pw_eq (fun x7 e7 => pw_ret ⟨rfl, Or.inr (Or.inl ⟨by omega, ?_, ht⟩)⟩)
  rw [e7, ti_add (by rw [l4, h5]; omega) (by rw [l4, h5]; omega), l4, h5]
theorem cps4 (h : sot d = 4) : (cps d).length = tkn d + 1 := by
  unfold cps
  rw [if_neg (by omega), if_pos h, List.length_append, List.length_map, List.length_range]
  rfl
theorem l_paramsOf (he : e = 2 ∨ e = 24) (hM : PRm e X Y) (h0 : 0 ≤ p.toInt) (h1 : p.toInt < (X.1 0 18).toInt) : pw (g_Program_paramsOf e p Y) (fun z Y1 => Y1 = Y ∧ z = Y.1 (e + 13) (ix p)) := by
  have hk : kY YC e 10 - 3 = e + 13 := by
    rcases he with z | z <;> rw [z] <;> rfl
  unfold g_Program_paramsOf
  exact pw_neg (by omega) (pw_eq (fun x1 e1 => pw_neg (by rw [e1, hM.2.1]; omega) (pw_to hk (pw_ck (fun _ => pw_let (pw_ret ⟨rfl, rfl⟩))))))
/-- is the value such a one? -/
theorem n_such (hB : RBk e X Y ks) (hM : PRm e X Y) (hP : HP u X G) (hH : HR X Y r ks) (hi : ix p1 = c) (hv : VR X r (X.1 60 c) (X.1 61 c) y) (h3 : (X.1 60 c).toInt = 3 → RV X (X.1 61 c)) (h4 : (X.1 60 c).toInt = 4 → FV X (X.1 61 c)) (kd1 : KTo X k1 d1) (hd1 : 0 ≤ sot d1 ∧ sot d1 ≤ 4 ∧ ¬ sot d1 = 2) : ∃ cc, pw (g_Heap_core y Y) (fun z Y1 => Y1 = Y ∧ z = VLs (X.1 60 c) cc) ∧ pw (f_isOfSort p1 k1 X) (fun z X1 => X1 = X ∧ (¬ z.toInt = 0 → (X.1 60 c).toInt = sot d1) ∧ ∀ x9 x13 : Int32, x9.toInt = sot d1 → x13.toInt = (tkn d1 : Int) → pw (g_Running_isSuch (VLs (X.1 60 c) cc) x9 x13 Y) (fun v Y1 => Y1 = Y ∧ (v.toInt = 0 ↔ z.toInt = 0))) := by
  have l1 : (1 : Int32).toInt = 1 := by decide
  have l0 : (0 : Int32).toInt = 0 := by decide
  obtain ⟨cc, hc, q3, q4⟩ := n_core hP hH hv h3 h4
  refine ⟨cc, hc, ?_⟩
  obtain ⟨w1, w2⟩ := kd1.srt
  -- the class, where no function is asked for
  have cl : ∀ (x9 x13 z : Int32), ¬ sot d1 = 4 → x9.toInt = sot d1 → (z.toInt = 0 ↔ ¬ (X.1 60 c).toInt = sot d1) → pw (g_Running_isSuch (VLs (X.1 60 c) cc) x9 x13 Y) (fun v Y1 => Y1 = Y ∧ (v.toInt = 0 ↔ z.toInt = 0)) := by
    intro x9 x13 z n4 h9 hz
    unfold g_Running_isSuch
    refine pw_bd l_hsortOf ?_
    rintro x1 Y2 ⟨e2, e1⟩
    rw [e2]
    refine pw_ite (fun g1 => ?_) (fun g1 => pw_ret ⟨rfl, ?_⟩)
    · refine pw_neg (by omega) (pw_ret ⟨rfl, ?_⟩)
      rw [e1] at g1
      omega
    · rw [e1] at g1
      omega
  unfold f_isOfSort
  refine pw_ck (fun _ => pw_to (by rw [hi]) (pw_ck (fun _ => pw_eq (fun x2 e2 => ?_))))
  rw [← e2] at w1
  have pr : ∀ (t : Int), sot d1 = t → ¬ t = 4 → ∀ z : Int32, (z.toInt = 0 ↔ ¬ (X.1 60 c).toInt = t) → pw (some (z, X) : Option (Int32 × St)) (fun z X1 => X1 = X ∧ (¬ z.toInt = 0 → (X.1 60 c).toInt = sot d1) ∧ ∀ x9 x13 : Int32, x9.toInt = sot d1 → x13.toInt = (tkn d1 : Int) → pw (g_Running_isSuch (VLs (X.1 60 c) cc) x9 x13 Y) (fun v Y1 => Y1 = Y ∧ (v.toInt = 0 ↔ z.toInt = 0))) := by
    intro t h1 h2 z hz
    rw [← h1] at hz
    refine pw_ret ⟨rfl, fun g => ?_, fun x9 x13 h9 _ => cl x9 x13 z (by omega) h9 hz⟩
    omega
  refine pw_ite (fun c1 => pw_ite (fun g => pr 0 (by omega) (by omega) 1 (by omega)) (fun g => pr 0 (by omega) (by omega) 0 (by omega))) (fun c1 => ?_)
  refine pw_ite (fun c2 => pw_ite (fun g => pr 1 (by omega) (by omega) 1 (by omega)) (fun g => pr 1 (by omega) (by omega) 0 (by omega))) (fun c2 => ?_)
  refine pw_ite (fun c3 => pw_ite (fun g => pr 3 (by omega) (by omega) 1 (by omega)) (fun g => pr 3 (by omega) (by omega) 0 (by omega))) (fun c3 => ?_)
  have s4 : sot d1 = 4 := so4_of w1 hd1 c1 c2 c3
  refine pw_ite (fun g => ?_) (fun g => pw_ret ⟨rfl, fun z => absurd l0 z, fun x9 x13 h9 _ => ?_⟩)
  · obtain ⟨f, D, f0, hf, hD, ec⟩ := q4 g
    refine pw_ck (fun _ => pw_to (by rw [hi, ← f0]) (pw_bd (n_within4 (by decide) hf) ?_))
    rintro x7 X8 ⟨e8, e7⟩
    rw [e8]
    have ix7 := ixc (z := f D) hf.2.1
    -- the last of the chain is a part
    have hlt : (f D).toInt < (X.1 0 18).toInt := by
      rcases Nat.eq_zero_or_pos D with z | z
      · have := h4 g
        rw [← f0, ← z] at this
        rcases this with q | q
        · exact q.2.2
        · have := q.1
          have := hf.2.2
          omega
      · obtain ⟨b1, b2, b3⟩ := hf.1 (D - 1) (by omega)
        rw [show D - 1 + 1 = D by omega] at b3
        rcases b2 with b2 | ⟨b2, b4, b5, b6, b7⟩
        · omega
        · have e9 := ixc (z := f (D - 1)) (by omega)
          obtain ⟨-, q1, q2, q3, q4, q5, q6, q7⟩ := (hP.2 (ix (f (D - 1)) - 100) (by omega)).2 b5
          rcases q7 with ⟨r1, r2, _⟩ | ⟨r1, r2, r3, r4, _⟩
          · omega
          · rw [← b3] at r4
            rcases r4 with q | q
            · exact q.2.2
            · have := q.1
              have := hf.2.2
              omega
    refine pw_ck (fun _ => pw_eq (fun x9 e9 => pw_ck (fun _ => pw_eq (fun x10 e10 => pw_eq (fun x11 e11 => ?_)))))
    have v11 : x11.toInt = (tkn d1 : Int) := by
      rw [← e10] at w2
      rw [cps4 s4] at w2
      have := x10.toInt_lt
      rw [e11, ti_sub (by rw [l1]; omega) (by rw [l1]; omega), l1]
      omega
    have v9 : x9 = Y.1 (e + 13) (ix (f D)) := by
      rw [e9, e7]
      exact (hM.2.2 (ix (f D)) (by omega)).symm
    have cl4 : ∀ (x9' x13 z : Int32), x9'.toInt = sot d1 → x13.toInt = (tkn d1 : Int) → (z.toInt = 0 ↔ ¬ x9.toInt = x11.toInt) → pw (g_Running_isSuch (VLs (X.1 60 c) cc) x9' x13 Y) (fun v Y1 => Y1 = Y ∧ (v.toInt = 0 ↔ z.toInt = 0)) := by
      intro x9' x13 z h9 h13 hz
      unfold g_Running_isSuch
      refine pw_bd l_hsortOf ?_
      rintro x1 Y2 ⟨e2, e1⟩
      rw [e2]
      refine pw_pos (by rw [e1]; omega) (pw_pos (by omega) (pw_ck (fun _ => pw_to hB.pe (pw_bd l_contentOf ?_))))
      rintro x4 Y5 ⟨e5, e4⟩
      rw [e5, e4, ec]
      refine pw_bd (l_paramsOf hB.1 hM hf.2.1 hlt) ?_
      rintro x6 Y7 ⟨e7', e6⟩
      rw [e7', e6, ← v9]
      exact pw_ite (fun g2 => pw_ret ⟨rfl, by omega⟩) (fun g2 => pw_ret ⟨rfl, by omega⟩)
    exact pw_ite (fun g2 => pw_ret ⟨rfl, fun _ => by omega, fun x9' x13 h9 h13 => cl4 x9' x13 1 h9 h13 (by omega)⟩) (fun g2 => pw_ret ⟨rfl, fun z => absurd l0 z, fun x9' x13 h9 h13 => cl4 x9' x13 0 h9 h13 (by omega)⟩)
  · unfold g_Running_isSuch
    refine pw_bd l_hsortOf ?_
    rintro x1 Y2 ⟨e2, e1⟩
    rw [e2]
    exact pw_neg (by rw [e1]; omega) (pw_ret ⟨rfl, by omega⟩)
end SCHS
