/-! kinds, guards, programs, heap, judging -/
set_option maxHeartbeats 4000000 in
theorem v_Kinds_codeOf_3 {p1 : Int32} {X : St} (hI : INV X) : ok (g_Kinds_codeOf 3 p1 X) (fun r Y => (X = Y)) := by
  unfold g_Kinds_codeOf
  refine ok.ite (fun c1 => ?_) (fun c1 => ?_)
  · skip
    have g2 := i32_le p1
    exact ok.ret rfl
  · skip
    have g3 := i32_le p1
    refine ok.letE (v1 := (X.1 3 0)) rfl ?_
    have g4 : 0 ≤ (X.1 3 0).toInt ∧ (X.1 3 0).toInt ≤ 1549 := hI.1 3 0
    refine ok.ite (fun c5 => ?_) (fun c5 => ?_)
    · skip
      exact ok.ret rfl
    · skip
      refine ok.letE (v1 := 7) (by decide) ?_
      refine ok.ck (show 0 ≤ p1.toInt ∧ p1.toInt < ((1549 : Nat) : Int) from by omega) ?_
      refine ok.letE (v1 := (X.1 7 (ix p1))) rfl ?_
      exact ok.ret rfl
set_option maxHeartbeats 4000000 in
theorem v_Kinds_hasAny_3 {p1 : Int32} {X : St} (hI : INV X) : ok (g_Kinds_hasAny 3 p1 X) (fun r Y => (X = Y)) := by
  unfold g_Kinds_hasAny
  refine ok.ite (fun c1 => ?_) (fun c1 => ?_)
  · skip
    have g2 := i32_le p1
    exact ok.ret rfl
  · skip
    have g3 := i32_le p1
    refine ok.letE (v1 := (X.1 3 0)) rfl ?_
    have g4 : 0 ≤ (X.1 3 0).toInt ∧ (X.1 3 0).toInt ≤ 1549 := hI.1 3 0
    refine ok.ite (fun c5 => ?_) (fun c5 => ?_)
    · skip
      exact ok.ret rfl
    · skip
      refine ok.letE (v1 := 8) (by decide) ?_
      refine ok.ck (show 0 ≤ p1.toInt ∧ p1.toInt < ((1549 : Nat) : Int) from by omega) ?_
      refine ok.letE (v1 := (X.1 8 (ix p1))) rfl ?_
      refine ok.ite (fun c6 => ?_) (fun c6 => ?_)
      · skip
        have g7 := i32_le (X.1 8 (ix p1))
        exact ok.ret rfl
      · skip
        exact ok.ret rfl
set_option maxHeartbeats 4000000 in
theorem v_Kinds_sortOf_3 {p1 : Int32} {X : St} (hI : INV X) : ok (g_Kinds_sortOf 3 p1 X) (fun r Y => (X = Y)) := by
  unfold g_Kinds_sortOf
  refine ok.ite (fun c1 => ?_) (fun c1 => ?_)
  · skip
    have g2 := i32_le p1
    exact ok.ret rfl
  · skip
    have g3 := i32_le p1
    refine ok.letE (v1 := (X.1 3 0)) rfl ?_
    have g4 : 0 ≤ (X.1 3 0).toInt ∧ (X.1 3 0).toInt ≤ 1549 := hI.1 3 0
    refine ok.ite (fun c5 => ?_) (fun c5 => ?_)
    · skip
      exact ok.ret rfl
    · skip
      refine ok.letE (v1 := 4) (by decide) ?_
      refine ok.ck (show 0 ≤ p1.toInt ∧ p1.toInt < ((1549 : Nat) : Int) from by omega) ?_
      refine ok.letE (v1 := (X.1 4 (ix p1))) rfl ?_
      exact ok.ret rfl
set_option maxHeartbeats 4000000 in
theorem v_Kinds_takenBy_3 {p1 : Int32} {X : St} (hI : INV X) : ok (g_Kinds_takenBy 3 p1 X) (fun r Y => (X = Y) ∧ (0 ≤ r.toInt ∧ r.toInt ≤ 4)) := by
  unfold g_Kinds_takenBy
  refine ok.ite (fun c1 => ?_) (fun c1 => ?_)
  · skip
    have g2 := i32_le p1
    exact ok.ret ⟨rfl, (show 0 ≤ (0 : Int) ∧ (0 : Int) ≤ 4 from by omega)⟩
  · skip
    have g3 := i32_le p1
    refine ok.letE (v1 := (X.1 3 0)) rfl ?_
    have g4 : 0 ≤ (X.1 3 0).toInt ∧ (X.1 3 0).toInt ≤ 1549 := hI.1 3 0
    refine ok.ite (fun c5 => ?_) (fun c5 => ?_)
    · skip
      exact ok.ret ⟨rfl, (show 0 ≤ (0 : Int) ∧ (0 : Int) ≤ 4 from by omega)⟩
    · skip
      refine ok.letE (v1 := 5) (by decide) ?_
      refine ok.ck (show 0 ≤ p1.toInt ∧ p1.toInt < ((1549 : Nat) : Int) from by omega) ?_
      refine ok.letE (v1 := (X.1 5 (ix p1))) rfl ?_
      have g6 : 0 ≤ (X.1 5 (ix p1)).toInt ∧ (X.1 5 (ix p1)).toInt ≤ 4 := hI.1 5 (ix p1)
      exact ok.ret ⟨rfl, (show 0 ≤ (X.1 5 (ix p1)).toInt ∧ (X.1 5 (ix p1)).toInt ≤ 4 from by omega)⟩
set_option maxHeartbeats 4000000 in
theorem v_Kinds_paramOf_3 {p1 : Int32} {p2 : Int32} {X : St} (hI : INV X) : ok (g_Kinds_paramOf 3 p1 p2 X) (fun r Y => (X = Y)) := by
  unfold g_Kinds_paramOf
  refine ok.ite (fun c1 => ?_) (fun c1 => ?_)
  · skip
    have g2 := i32_le p1
    exact ok.ret rfl
  · skip
    have g3 := i32_le p1
    refine ok.letE (v1 := (X.1 3 0)) rfl ?_
    have g4 : 0 ≤ (X.1 3 0).toInt ∧ (X.1 3 0).toInt ≤ 1549 := hI.1 3 0
    refine ok.ite (fun c5 => ?_) (fun c5 => ?_)
    · skip
      exact ok.ret rfl
    · skip
      refine ok.ite (fun c6 => ?_) (fun c6 => ?_)
      · skip
        have g7 := i32_le p2
        exact ok.ret rfl
      · skip
        have g8 := i32_le p2
        refine ok.letE (v1 := 5) (by decide) ?_
        refine ok.ck (show 0 ≤ p1.toInt ∧ p1.toInt < ((1549 : Nat) : Int) from by omega) ?_
        refine ok.letE (v1 := (X.1 5 (ix p1))) rfl ?_
        have g9 : 0 ≤ (X.1 5 (ix p1)).toInt ∧ (X.1 5 (ix p1)).toInt ≤ 4 := hI.1 5 (ix p1)
        refine ok.ite (fun c10 => ?_) (fun c10 => ?_)
        · skip
          exact ok.ret rfl
        · skip
          refine ok.letE (v1 := 6) (by decide) ?_
          refine ok.mul (show _ ≤ p1.toInt * (5 : Int) ∧ p1.toInt * (5 : Int) ≤ _ from by omega) (fun x5 hx5 => ?_)
          have hx5 : x5.toInt = p1.toInt * (5 : Int) := hx5
          refine ok.add (show _ ≤ x5.toInt + p2.toInt ∧ x5.toInt + p2.toInt ≤ _ from by omega) (fun x6 hx6 => ?_)
          have hx6 : x6.toInt = x5.toInt + p2.toInt := hx6
          refine ok.ck (show 0 ≤ x6.toInt ∧ x6.toInt < ((7745 : Nat) : Int) from by omega) ?_
          refine ok.letE (v1 := (X.1 6 (ix x6))) rfl ?_
          exact ok.ret rfl
set_option maxHeartbeats 4000000 in
theorem v_Kinds_givesOf_3 {p1 : Int32} {X : St} (hI : INV X) : ok (g_Kinds_givesOf 3 p1 X) (fun r Y => (X = Y)) := by
  unfold g_Kinds_givesOf
  refine ok.ite (fun c1 => ?_) (fun c1 => ?_)
  · skip
    have g2 := i32_le p1
    exact ok.ret rfl
  · skip
    have g3 := i32_le p1
    refine ok.letE (v1 := (X.1 3 0)) rfl ?_
    have g4 : 0 ≤ (X.1 3 0).toInt ∧ (X.1 3 0).toInt ≤ 1549 := hI.1 3 0
    refine ok.ite (fun c5 => ?_) (fun c5 => ?_)
    · skip
      exact ok.ret rfl
    · skip
      refine ok.letE (v1 := 6) (by decide) ?_
      refine ok.mul (show _ ≤ p1.toInt * (5 : Int) ∧ p1.toInt * (5 : Int) ≤ _ from by omega) (fun x3 hx3 => ?_)
      have hx3 : x3.toInt = p1.toInt * (5 : Int) := hx3
      refine ok.add (show _ ≤ x3.toInt + (4 : Int) ∧ x3.toInt + (4 : Int) ≤ _ from by omega) (fun x4 hx4 => ?_)
      have hx4 : x4.toInt = x3.toInt + (4 : Int) := hx4
      refine ok.ck (show 0 ≤ x4.toInt ∧ x4.toInt < ((7745 : Nat) : Int) from by omega) ?_
      refine ok.letE (v1 := (X.1 6 (ix x4))) rfl ?_
      exact ok.ret rfl
set_option maxHeartbeats 4000000 in
theorem v_Kinds_withAnys_3 {p1 : Int32} {X : St} (hI : INV X) : ok (g_Kinds_withAnys 3 p1 X) (fun r Y => (X = Y)) := by
  unfold g_Kinds_withAnys
  refine ok.bd (v_Kinds_sortOf_3 hI) ?_
  rintro x1 _ rfl
  refine ok.ite (fun c2 => ?_) (fun c2 => ?_)
  · skip
    have g3 := i32_le x1
    exact ok.ret rfl
  · skip
    refine ok.bd (v_Kinds_sortOf_3 hI) ?_
    rintro x3 _ rfl
    refine ok.ite (fun c5 => ?_) (fun c5 => ?_)
    · skip
      have g6 := i32_le x3
      refine ok.bd (v_Kinds_takenBy_3 hI) ?_
      rintro x5 _ ⟨rfl, hp7⟩
      have hp7 : 0 ≤ x5.toInt ∧ x5.toInt ≤ 4 := hp7
      refine ok.add (show _ ≤ (4 : Int) + x5.toInt ∧ (4 : Int) + x5.toInt ≤ _ from by omega) (fun x7 hx7 => ?_)
      have hx7 : x7.toInt = (4 : Int) + x5.toInt := hx7
      exact ok.ret rfl
    · skip
      exact ok.ret rfl
def Qv0 : List Nat := [600, 800, 1000, 1200, 1400, 1600, 1800, 2000]
set_option maxHeartbeats 4000000 in
theorem v_Kinds_bucketOf {p0 : Int32} {X : St} (hI : INV X) : ok (g_Kinds_bucketOf p0 X) (fun r Y => (X = Y) ∧ (0 ≤ r.toInt ∧ r.toInt ≤ 511)) := by
  unfold g_Kinds_bucketOf
  refine ok.any (fun x1 => ?_)
  refine ok.any (fun x2 => ?_)
  refine ok.any (fun x3 => ?_)
  refine ok.any (fun x4 => ?_)
  refine ok.eqv (fun x5 hx5 => ?_)
  have hx5 : 0 ≤ x5.toInt ∧ x5.toInt ≤ 511 := by rw [hx5]; exact and_mask_511 _
  exact ok.ret ⟨rfl, (show 0 ≤ x5.toInt ∧ x5.toInt ≤ 511 from by omega)⟩
set_option maxHeartbeats 4000000 in
theorem v_Kinds_isSame_3_6 {p1 : Int32} {p2 : Int32} {p4 : Int32} {p5 : Int32} {X : St} (hI : INV X) (h0 : 0 ≤ p1.toInt ∧ p1.toInt ≤ 1548) (h1 : 0 ≤ p2.toInt ∧ p2.toInt ≤ 4) (h2 : 0 ≤ p4.toInt ∧ p4.toInt + p2.toInt ≤ 7745) : ok (g_Kinds_isSame 3 p1 p2 6 p4 p5 X) (fun r Y => (X = Y)) := by
  unfold g_Kinds_isSame
  refine ok.letE (v1 := 5) (by decide) ?_
  refine ok.ck (show 0 ≤ p1.toInt ∧ p1.toInt < ((1549 : Nat) : Int) from by omega) ?_
  refine ok.letE (v1 := (X.1 5 (ix p1))) rfl ?_
  have g1 : 0 ≤ (X.1 5 (ix p1)).toInt ∧ (X.1 5 (ix p1)).toInt ≤ 4 := hI.1 5 (ix p1)
  refine ok.ite (fun c2 => ?_) (fun c2 => ?_)
  · skip
    refine ok.letE (v1 := 6) (by decide) ?_
    refine ok.mul (show _ ≤ p1.toInt * (5 : Int) ∧ p1.toInt * (5 : Int) ≤ _ from by omega) (fun x4 hx4 => ?_)
    have hx4 : x4.toInt = p1.toInt * (5 : Int) := hx4
    refine ok.add (show _ ≤ x4.toInt + (4 : Int) ∧ x4.toInt + (4 : Int) ≤ _ from by omega) (fun x5 hx5 => ?_)
    have hx5 : x5.toInt = x4.toInt + (4 : Int) := hx5
    refine ok.ck (show 0 ≤ x5.toInt ∧ x5.toInt < ((7745 : Nat) : Int) from by omega) ?_
    refine ok.letE (v1 := (X.1 6 (ix x5))) rfl ?_
    refine ok.ite (fun c3 => ?_) (fun c3 => ?_)
    · skip
      have lpu4 : ∀ (n : Nat), ∀ (a_1u4 : Int32) (a_2u4 : Int32) (a_4u4 : Int32) (a_6u4 : Int32) (Zu4 : St), INV Zu4 → Fr YC [] X Zu4 → (0 ≤ a_1u4.toInt ∧ a_1u4.toInt ≤ 1548) → (0 ≤ a_2u4.toInt ∧ a_2u4.toInt ≤ 4) → (0 ≤ a_4u4.toInt ∧ a_4u4.toInt + a_2u4.toInt ≤ 7745) → (0 ≤ a_6u4.toInt ∧ a_6u4.toInt ≤ 5) → (5 - a_6u4.toInt).toNat < n → ok (g_Kinds_isSame_30 n 3 a_1u4 a_2u4 6 a_4u4 a_6u4 Zu4) (fun r Y => (X = Y)) := by
        intro n
        unfold g_Kinds_isSame_30
        refine lp_indN (P := fun (n : Nat) (r_u4 : Nat → Int32 → Int32 → Nat → Int32 → Int32 → St → Option (Int32 × St)) => ∀ (a_1u4 : Int32) (a_2u4 : Int32) (a_4u4 : Int32) (a_6u4 : Int32) (Zu4 : St), INV Zu4 → Fr YC [] X Zu4 → (0 ≤ a_1u4.toInt ∧ a_1u4.toInt ≤ 1548) → (0 ≤ a_2u4.toInt ∧ a_2u4.toInt ≤ 4) → (0 ≤ a_4u4.toInt ∧ a_4u4.toInt + a_2u4.toInt ≤ 7745) → (0 ≤ a_6u4.toInt ∧ a_6u4.toInt ≤ 5) → (5 - a_6u4.toInt).toNat < n → ok (r_u4 3 a_1u4 a_2u4 6 a_4u4 a_6u4 Zu4) (fun r Y => (X = Y))) ?_ ?_ n
        · intro a_1u4 a_2u4 a_4u4 a_6u4 Zu4 hIu4 hFu4 u4_0 u4_1 u4_2 u4_3  hm; exact absurd hm (Nat.not_lt_zero _)
        · intro n r_u4 ih_u4 a_1u4 a_2u4 a_4u4 a_6u4 Zu4 hIu4 hFu4 u4_0 u4_1 u4_2 u4_3  hmu4
          unfold g_Kinds_isSame_30_s
          refine ok.ite (fun c5 => ?_) (fun c5 => ?_)
          · skip
            exact ok.ret (Fr.nil hFu4).symm
          · skip
            refine ok.letE (v1 := 6) (by decide) ?_
            refine ok.mul (show _ ≤ a_1u4.toInt * (5 : Int) ∧ a_1u4.toInt * (5 : Int) ≤ _ from by omega) (fun x8 hx8 => ?_)
            have hx8 : x8.toInt = a_1u4.toInt * (5 : Int) := hx8
            refine ok.add (show _ ≤ x8.toInt + a_6u4.toInt ∧ x8.toInt + a_6u4.toInt ≤ _ from by omega) (fun x9 hx9 => ?_)
            have hx9 : x9.toInt = x8.toInt + a_6u4.toInt := hx9
            refine ok.ck (show 0 ≤ x9.toInt ∧ x9.toInt < ((7745 : Nat) : Int) from by omega) ?_
            refine ok.letE (v1 := (X.1 6 (ix x9))) (hFu4.1 6 (ix x9) (show (1200 : Nat) ∉ [] from by decide)) ?_
            refine ok.add (show _ ≤ a_4u4.toInt + a_6u4.toInt ∧ a_4u4.toInt + a_6u4.toInt ≤ _ from by omega) (fun x11 hx11 => ?_)
            have hx11 : x11.toInt = a_4u4.toInt + a_6u4.toInt := hx11
            refine ok.ck (show 0 ≤ x11.toInt ∧ x11.toInt < ((7745 : Nat) : Int) from by omega) ?_
            refine ok.letE (v1 := (X.1 6 (ix x11))) (hFu4.1 6 (ix x11) (show (1200 : Nat) ∉ [] from by decide)) ?_
            refine ok.ite (fun c6 => ?_) (fun c6 => ?_)
            · skip
              refine ok.inc (by decide) (show _ ≤ a_6u4.toInt + (1) ∧ a_6u4.toInt + (1) ≤ _ from by omega) (fun x13 hx13 => ?_)
              have hx13 : x13.toInt = a_6u4.toInt + (1) := hx13
              exact ih_u4 a_1u4 a_2u4 a_4u4 x13 Zu4 hIu4 (Fr.rf.tr hFu4 (fun _ q => q)) (show 0 ≤ a_1u4.toInt ∧ a_1u4.toInt ≤ 1548 from by omega) (show 0 ≤ a_2u4.toInt ∧ a_2u4.toInt ≤ 4 from by omega) (show 0 ≤ a_4u4.toInt ∧ a_4u4.toInt + a_2u4.toInt ≤ 7745 from by omega) (show 0 ≤ x13.toInt ∧ x13.toInt ≤ 5 from by omega) (show (5 - x13.toInt).toNat < _ from by omega)
            · skip
              exact ok.ret (Fr.nil hFu4).symm
      exact lpu4 BIG p1 p2 p4 (0 : Int32) X hI (Fr.rf : Fr YC [] _ _) (show 0 ≤ p1.toInt ∧ p1.toInt ≤ 1548 from by omega) (show 0 ≤ p2.toInt ∧ p2.toInt ≤ 4 from by omega) (show 0 ≤ p4.toInt ∧ p4.toInt + p2.toInt ≤ 7745 from by omega) (show 0 ≤ (0 : Int) ∧ (0 : Int) ≤ 5 from by omega) (show (5 - (0 : Int)).toNat < BIG from ltBIG (show _ < 100000 from by omega))
    · skip
      exact ok.ret rfl
  · skip
    exact ok.ret rfl
set_option maxHeartbeats 4000000 in
theorem v_Kinds_findOrAdd_3_6 {p1 : Int32} {p2 : Int32} {p4 : Int32} {p5 : Int32} {p6 : Int32} {X : St} (hI : INV X) (h0 : 0 ≤ p1.toInt ∧ p1.toInt ≤ 4) (h1 : 0 ≤ p2.toInt ∧ p2.toInt ≤ 4) (h2 : 0 ≤ p4.toInt ∧ p4.toInt + p2.toInt ≤ 7745) : ok (g_Kinds_findOrAdd 3 p1 p2 6 p4 p5 p6 X) (fun r Y => (Fr YC Qv0 X Y ∧ INV Y)) := by
  unfold g_Kinds_findOrAdd
  refine ok.bd (v_Kinds_bucketOf hI) ?_
  rintro x1 _ ⟨rfl, hp1⟩
  have hp1 : 0 ≤ x1.toInt ∧ x1.toInt ≤ 511 := hp1
  refine ok.letE (v1 := 9) (by decide) ?_
  refine ok.ck (show 0 ≤ x1.toInt ∧ x1.toInt < ((512 : Nat) : Int) from by omega) ?_
  refine ok.letE (v1 := (X.1 9 (ix x1))) rfl ?_
  have g2 : -1 ≤ (X.1 9 (ix x1)).toInt ∧ (X.1 9 (ix x1)).toInt ≤ 1548 := hI.1 9 (ix x1)
  have lpu3 : ∀ (n : Nat), ∀ (a_1u3 : Int32) (a_2u3 : Int32) (a_4u3 : Int32) (a_5u3 : Int32) (a_6u3 : Int32) (a_7u3 : Int32) (a_8u3 : Int32) (a_9u3 : Int32) (Zu3 : St), INV Zu3 → Fr YC Qv0 X Zu3 → (0 ≤ a_1u3.toInt ∧ a_1u3.toInt ≤ 4) → (0 ≤ a_2u3.toInt ∧ a_2u3.toInt ≤ 4) → (0 ≤ a_4u3.toInt ∧ a_4u3.toInt + a_2u3.toInt ≤ 7745) → (0 ≤ a_7u3.toInt ∧ a_7u3.toInt ≤ 511) → (-1 ≤ a_8u3.toInt ∧ a_8u3.toInt ≤ 1548) → (0 ≤ a_9u3.toInt ∧ a_9u3.toInt ≤ 1549) → (1550 - a_9u3.toInt).toNat < n → ok (g_Kinds_findOrAdd_19 n 3 a_1u3 a_2u3 6 a_4u3 a_5u3 a_6u3 a_7u3 a_8u3 a_9u3 Zu3) (fun r Y => (Fr YC Qv0 X Y ∧ INV Y)) := by
    intro n
    unfold g_Kinds_findOrAdd_19
    refine lp_indN (P := fun (n : Nat) (r_u3 : Nat → Int32 → Int32 → Nat → Int32 → Int32 → Int32 → Int32 → Int32 → Int32 → St → Option (Int32 × St)) => ∀ (a_1u3 : Int32) (a_2u3 : Int32) (a_4u3 : Int32) (a_5u3 : Int32) (a_6u3 : Int32) (a_7u3 : Int32) (a_8u3 : Int32) (a_9u3 : Int32) (Zu3 : St), INV Zu3 → Fr YC Qv0 X Zu3 → (0 ≤ a_1u3.toInt ∧ a_1u3.toInt ≤ 4) → (0 ≤ a_2u3.toInt ∧ a_2u3.toInt ≤ 4) → (0 ≤ a_4u3.toInt ∧ a_4u3.toInt + a_2u3.toInt ≤ 7745) → (0 ≤ a_7u3.toInt ∧ a_7u3.toInt ≤ 511) → (-1 ≤ a_8u3.toInt ∧ a_8u3.toInt ≤ 1548) → (0 ≤ a_9u3.toInt ∧ a_9u3.toInt ≤ 1549) → (1550 - a_9u3.toInt).toNat < n → ok (r_u3 3 a_1u3 a_2u3 6 a_4u3 a_5u3 a_6u3 a_7u3 a_8u3 a_9u3 Zu3) (fun r Y => (Fr YC Qv0 X Y ∧ INV Y))) ?_ ?_ n
    · intro a_1u3 a_2u3 a_4u3 a_5u3 a_6u3 a_7u3 a_8u3 a_9u3 Zu3 hIu3 hFu3 u3_0 u3_1 u3_2 u3_3 u3_4 u3_5  hm; exact absurd hm (Nat.not_lt_zero _)
    · intro n r_u3 ih_u3 a_1u3 a_2u3 a_4u3 a_5u3 a_6u3 a_7u3 a_8u3 a_9u3 Zu3 hIu3 hFu3 u3_0 u3_1 u3_2 u3_3 u3_4 u3_5  hmu3
      unfold g_Kinds_findOrAdd_19_s
      refine ok.ite (fun c4 => ?_) (fun c4 => ?_)
      · skip
        unfold g_Kinds_findOrAdd_77
        refine ok.letE (v1 := (Zu3.1 3 0)) rfl ?_
        have g5 : 0 ≤ (Zu3.1 3 0).toInt ∧ (Zu3.1 3 0).toInt ≤ 1549 := hIu3.1 3 0
        refine ok.ite (fun c6 => ?_) (fun c6 => ?_)
        · skip
          refine ok.letE (v1 := (Zu3.1 3 0)) rfl ?_
          refine ok.letE (v1 := (Zu3.1 3 0)) rfl ?_
          refine ok.add (show _ ≤ (Zu3.1 3 0).toInt + (1 : Int) ∧ (Zu3.1 3 0).toInt + (1 : Int) ≤ _ from by omega) (fun x8 hx8 => ?_)
          have hx8 : x8.toInt = (Zu3.1 3 0).toInt + (1 : Int) := hx8
          refine ok.wI (L := [600]) hIu3 (show 0 ≤ x8.toInt ∧ x8.toInt ≤ 1549 from by omega) (show (600 : Nat) ∈ [600] from by decide) (by decide) (fun Z7 hIZ7 hFZ7 hkZ7 hoZ7 => ?_)
          refine ok.letE (v1 := 4) (by decide) ?_
          refine ok.ck (show 0 ≤ (Zu3.1 3 0).toInt ∧ (Zu3.1 3 0).toInt < ((1549 : Nat) : Int) from by omega) ?_
          refine ok.wI (L := [800]) hIZ7 (show True from trivial) (show (800 : Nat) ∈ [800] from by decide) (by decide) (fun Z8 hIZ8 hFZ8 hkZ8 hoZ8 => ?_)
          refine ok.letE (v1 := 5) (by decide) ?_
          refine ok.ck (show 0 ≤ (Zu3.1 3 0).toInt ∧ (Zu3.1 3 0).toInt < ((1549 : Nat) : Int) from by omega) ?_
          refine ok.wI (L := [1000]) hIZ8 (show 0 ≤ a_2u3.toInt ∧ a_2u3.toInt ≤ 4 from by omega) (show (1000 : Nat) ∈ [1000] from by decide) (by decide) (fun Z9 hIZ9 hFZ9 hkZ9 hoZ9 => ?_)
          refine ok.letE (v1 := 7) (by decide) ?_
          refine ok.ck (show 0 ≤ (Zu3.1 3 0).toInt ∧ (Zu3.1 3 0).toInt < ((1549 : Nat) : Int) from by omega) ?_
          refine ok.wI (L := [1400]) hIZ9 (show True from trivial) (show (1400 : Nat) ∈ [1400] from by decide) (by decide) (fun Z10 hIZ10 hFZ10 hkZ10 hoZ10 => ?_)
          refine ok.letE (v1 := 6) (by decide) ?_
          refine ok.mul (show _ ≤ (Zu3.1 3 0).toInt * (5 : Int) ∧ (Zu3.1 3 0).toInt * (5 : Int) ≤ _ from by omega) (fun x17 hx17 => ?_)
          have hx17 : x17.toInt = (Zu3.1 3 0).toInt * (5 : Int) := hx17
          refine ok.add (show _ ≤ x17.toInt + (4 : Int) ∧ x17.toInt + (4 : Int) ≤ _ from by omega) (fun x18 hx18 => ?_)
          have hx18 : x18.toInt = x17.toInt + (4 : Int) := hx18
          refine ok.ck (show 0 ≤ x18.toInt ∧ x18.toInt < ((7745 : Nat) : Int) from by omega) ?_
          refine ok.wI (L := [1200]) hIZ10 (show True from trivial) (show (1200 : Nat) ∈ [1200] from by decide) (by decide) (fun Z11 hIZ11 hFZ11 hkZ11 hoZ11 => ?_)
          refine ok.ite (fun c12 => ?_) (fun c12 => ?_)
          · skip
            unfold g_Kinds_findOrAdd_162
            unfold g_Kinds_findOrAdd_167
            have lpu13 : ∀ (n : Nat), ∀ (a_2u13 : Int32) (a_4u13 : Int32) (a_7u13 : Int32) (a_8u13 : Int32) (a_9u13 : Int32) (a_10u13 : Int32) (Zu13 : St), INV Zu13 → Fr YC Qv0 X Zu13 → (0 ≤ a_2u13.toInt ∧ a_2u13.toInt ≤ 4) → (0 ≤ a_4u13.toInt ∧ a_4u13.toInt + a_2u13.toInt ≤ 7745) → (0 ≤ a_7u13.toInt ∧ a_7u13.toInt ≤ 511) → (0 ≤ a_8u13.toInt ∧ a_8u13.toInt ≤ 1548) → (0 ≤ a_10u13.toInt ∧ a_10u13.toInt ≤ 5) → (5 - a_10u13.toInt).toNat < n → ok (g_Kinds_findOrAdd_172 n 3 a_2u13 6 a_4u13 a_7u13 a_8u13 a_9u13 a_10u13 Zu13) (fun r Y => (Fr YC Qv0 X Y ∧ INV Y)) := by
              intro n
              unfold g_Kinds_findOrAdd_172
              refine lp_indN (P := fun (n : Nat) (r_u13 : Nat → Int32 → Nat → Int32 → Int32 → Int32 → Int32 → Int32 → St → Option (Int32 × St)) => ∀ (a_2u13 : Int32) (a_4u13 : Int32) (a_7u13 : Int32) (a_8u13 : Int32) (a_9u13 : Int32) (a_10u13 : Int32) (Zu13 : St), INV Zu13 → Fr YC Qv0 X Zu13 → (0 ≤ a_2u13.toInt ∧ a_2u13.toInt ≤ 4) → (0 ≤ a_4u13.toInt ∧ a_4u13.toInt + a_2u13.toInt ≤ 7745) → (0 ≤ a_7u13.toInt ∧ a_7u13.toInt ≤ 511) → (0 ≤ a_8u13.toInt ∧ a_8u13.toInt ≤ 1548) → (0 ≤ a_10u13.toInt ∧ a_10u13.toInt ≤ 5) → (5 - a_10u13.toInt).toNat < n → ok (r_u13 3 a_2u13 6 a_4u13 a_7u13 a_8u13 a_9u13 a_10u13 Zu13) (fun r Y => (Fr YC Qv0 X Y ∧ INV Y))) ?_ ?_ n
              · intro a_2u13 a_4u13 a_7u13 a_8u13 a_9u13 a_10u13 Zu13 hIu13 hFu13 u13_0 u13_1 u13_2 u13_3 u13_4  hm; exact absurd hm (Nat.not_lt_zero _)
              · intro n r_u13 ih_u13 a_2u13 a_4u13 a_7u13 a_8u13 a_9u13 a_10u13 Zu13 hIu13 hFu13 u13_0 u13_1 u13_2 u13_3 u13_4  hmu13
                unfold g_Kinds_findOrAdd_172_s
                refine ok.ite (fun c14 => ?_) (fun c14 => ?_)
                · skip
                  refine ok.letE (v1 := 8) (by decide) ?_
                  refine ok.ck (show 0 ≤ a_8u13.toInt ∧ a_8u13.toInt < ((1549 : Nat) : Int) from by omega) ?_
                  refine ok.wI (L := [1600]) hIu13 (show True from trivial) (show (1600 : Nat) ∈ [1600] from by decide) (by decide) (fun Z15 hIZ15 hFZ15 hkZ15 hoZ15 => ?_)
                  refine ok.letE (v1 := 10) (by decide) ?_
                  refine ok.letE (v1 := 9) (by decide) ?_
                  refine ok.ck (show 0 ≤ a_7u13.toInt ∧ a_7u13.toInt < ((512 : Nat) : Int) from by omega) ?_
                  refine ok.letE (v1 := (Zu13.1 9 (ix a_7u13))) (hFZ15.1 9 (ix a_7u13) (show (1800 : Nat) ∉ [1600] from by decide)) ?_
                  have g16 : -1 ≤ (Zu13.1 9 (ix a_7u13)).toInt ∧ (Zu13.1 9 (ix a_7u13)).toInt ≤ 1548 := hIu13.1 9 (ix a_7u13)
                  refine ok.ck (show 0 ≤ a_8u13.toInt ∧ a_8u13.toInt < ((1549 : Nat) : Int) from by omega) ?_
                  refine ok.wI (L := [2000]) hIZ15 (show -1 ≤ (Zu13.1 9 (ix a_7u13)).toInt ∧ (Zu13.1 9 (ix a_7u13)).toInt ≤ 1548 from by omega) (show (2000 : Nat) ∈ [2000] from by decide) (by decide) (fun Z17 hIZ17 hFZ17 hkZ17 hoZ17 => ?_)
                  refine ok.letE (v1 := 9) (by decide) ?_
                  refine ok.ck (show 0 ≤ a_7u13.toInt ∧ a_7u13.toInt < ((512 : Nat) : Int) from by omega) ?_
                  refine ok.wI (L := [1800]) hIZ17 (show -1 ≤ a_8u13.toInt ∧ a_8u13.toInt ≤ 1548 from by omega) (show (1800 : Nat) ∈ [1800] from by decide) (by decide) (fun Z18 hIZ18 hFZ18 hkZ18 hoZ18 => ?_)
                  exact ok.ret ⟨((((Fr.rf.tr hFu13 (fun _ q => q)).tr hFZ15 (by decide)).tr hFZ17 (by decide)).tr hFZ18 (by decide)), hIZ18⟩
                · skip
                  refine ok.letE (v1 := 6) (by decide) ?_
                  refine ok.mul (show _ ≤ a_8u13.toInt * (5 : Int) ∧ a_8u13.toInt * (5 : Int) ≤ _ from by omega) (fun x29 hx29 => ?_)
                  have hx29 : x29.toInt = a_8u13.toInt * (5 : Int) := hx29
                  refine ok.add (show _ ≤ x29.toInt + a_10u13.toInt ∧ x29.toInt + a_10u13.toInt ≤ _ from by omega) (fun x30 hx30 => ?_)
                  have hx30 : x30.toInt = x29.toInt + a_10u13.toInt := hx30
                  refine ok.add (show _ ≤ a_4u13.toInt + a_10u13.toInt ∧ a_4u13.toInt + a_10u13.toInt ≤ _ from by omega) (fun x31 hx31 => ?_)
                  have hx31 : x31.toInt = a_4u13.toInt + a_10u13.toInt := hx31
                  refine ok.ck (show 0 ≤ x31.toInt ∧ x31.toInt < ((7745 : Nat) : Int) from by omega) ?_
                  refine ok.letE (v1 := (Zu13.1 6 (ix x31))) rfl ?_
                  refine ok.ck (show 0 ≤ x30.toInt ∧ x30.toInt < ((7745 : Nat) : Int) from by omega) ?_
                  refine ok.wI (L := [1200]) hIu13 (show True from trivial) (show (1200 : Nat) ∈ [1200] from by decide) (by decide) (fun Z19 hIZ19 hFZ19 hkZ19 hoZ19 => ?_)
                  refine ok.ite (fun c20 => ?_) (fun c20 => ?_)
                  · skip
                    have g21 := i32_le a_9u13
                    refine ok.add (show _ ≤ a_4u13.toInt + a_10u13.toInt ∧ a_4u13.toInt + a_10u13.toInt ≤ _ from by omega) (fun x35 hx35 => ?_)
                    have hx35 : x35.toInt = a_4u13.toInt + a_10u13.toInt := hx35
                    refine ok.ck (show 0 ≤ x35.toInt ∧ x35.toInt < ((7745 : Nat) : Int) from by omega) ?_
                    refine ok.letE (v1 := (Z19.1 6 (ix x35))) rfl ?_
                    refine ok.bd (v_Kinds_hasAny_3 hIZ19) ?_
                    rintro x37 _ rfl
                    refine ok.ite (fun c23 => ?_) (fun c23 => ?_)
                    · skip
                      have g24 := i32_le x37
                      unfold g_Kinds_findOrAdd_221
                      refine ok.inc (by decide) (show _ ≤ a_10u13.toInt + (1) ∧ a_10u13.toInt + (1) ≤ _ from by omega) (fun x34 hx34 => ?_)
                      have hx34 : x34.toInt = a_10u13.toInt + (1) := hx34
                      exact ih_u13 a_2u13 a_4u13 a_7u13 a_8u13 (0 : Int32) x34 Z19 hIZ19 ((Fr.rf.tr hFu13 (fun _ q => q)).tr hFZ19 (by decide)) (show 0 ≤ a_2u13.toInt ∧ a_2u13.toInt ≤ 4 from by omega) (show 0 ≤ a_4u13.toInt ∧ a_4u13.toInt + a_2u13.toInt ≤ 7745 from by omega) (show 0 ≤ a_7u13.toInt ∧ a_7u13.toInt ≤ 511 from by omega) (show 0 ≤ a_8u13.toInt ∧ a_8u13.toInt ≤ 1548 from by omega) (show 0 ≤ x34.toInt ∧ x34.toInt ≤ 5 from by omega) (show (5 - x34.toInt).toNat < _ from by omega)
                    · skip
                      unfold g_Kinds_findOrAdd_216
                      unfold g_Kinds_findOrAdd_221
                      refine ok.inc (by decide) (show _ ≤ a_10u13.toInt + (1) ∧ a_10u13.toInt + (1) ≤ _ from by omega) (fun x34 hx34 => ?_)
                      have hx34 : x34.toInt = a_10u13.toInt + (1) := hx34
                      exact ih_u13 a_2u13 a_4u13 a_7u13 a_8u13 (1 : Int32) x34 Z19 hIZ19 ((Fr.rf.tr hFu13 (fun _ q => q)).tr hFZ19 (by decide)) (show 0 ≤ a_2u13.toInt ∧ a_2u13.toInt ≤ 4 from by omega) (show 0 ≤ a_4u13.toInt ∧ a_4u13.toInt + a_2u13.toInt ≤ 7745 from by omega) (show 0 ≤ a_7u13.toInt ∧ a_7u13.toInt ≤ 511 from by omega) (show 0 ≤ a_8u13.toInt ∧ a_8u13.toInt ≤ 1548 from by omega) (show 0 ≤ x34.toInt ∧ x34.toInt ≤ 5 from by omega) (show (5 - x34.toInt).toNat < _ from by omega)
                  · skip
                    unfold g_Kinds_findOrAdd_216
                    unfold g_Kinds_findOrAdd_221
                    refine ok.inc (by decide) (show _ ≤ a_10u13.toInt + (1) ∧ a_10u13.toInt + (1) ≤ _ from by omega) (fun x34 hx34 => ?_)
                    have hx34 : x34.toInt = a_10u13.toInt + (1) := hx34
                    exact ih_u13 a_2u13 a_4u13 a_7u13 a_8u13 (1 : Int32) x34 Z19 hIZ19 ((Fr.rf.tr hFu13 (fun _ q => q)).tr hFZ19 (by decide)) (show 0 ≤ a_2u13.toInt ∧ a_2u13.toInt ≤ 4 from by omega) (show 0 ≤ a_4u13.toInt ∧ a_4u13.toInt + a_2u13.toInt ≤ 7745 from by omega) (show 0 ≤ a_7u13.toInt ∧ a_7u13.toInt ≤ 511 from by omega) (show 0 ≤ a_8u13.toInt ∧ a_8u13.toInt ≤ 1548 from by omega) (show 0 ≤ x34.toInt ∧ x34.toInt ≤ 5 from by omega) (show (5 - x34.toInt).toNat < _ from by omega)
            exact lpu13 BIG a_2u3 a_4u3 a_7u3 (Zu3.1 3 0) (1 : Int32) (0 : Int32) Z11 hIZ11 ((((((Fr.rf.tr hFu3 (fun _ q => q)).tr hFZ7 (by decide)).tr hFZ8 (by decide)).tr hFZ9 (by decide)).tr hFZ10 (by decide)).tr hFZ11 (by decide)) (show 0 ≤ a_2u3.toInt ∧ a_2u3.toInt ≤ 4 from by omega) (show 0 ≤ a_4u3.toInt ∧ a_4u3.toInt + a_2u3.toInt ≤ 7745 from by omega) (show 0 ≤ a_7u3.toInt ∧ a_7u3.toInt ≤ 511 from by omega) (show 0 ≤ (Zu3.1 3 0).toInt ∧ (Zu3.1 3 0).toInt ≤ 1548 from by omega) (show 0 ≤ (0 : Int) ∧ (0 : Int) ≤ 5 from by omega) (show (5 - (0 : Int)).toNat < BIG from ltBIG (show _ < 100000 from by omega))
          · skip
            refine ok.ite (fun c25 => ?_) (fun c25 => ?_)
            · skip
              unfold g_Kinds_findOrAdd_166
              unfold g_Kinds_findOrAdd_167
              have lpu26 : ∀ (n : Nat), ∀ (a_2u26 : Int32) (a_4u26 : Int32) (a_7u26 : Int32) (a_8u26 : Int32) (a_9u26 : Int32) (a_10u26 : Int32) (Zu26 : St), INV Zu26 → Fr YC Qv0 X Zu26 → (0 ≤ a_2u26.toInt ∧ a_2u26.toInt ≤ 4) → (0 ≤ a_4u26.toInt ∧ a_4u26.toInt + a_2u26.toInt ≤ 7745) → (0 ≤ a_7u26.toInt ∧ a_7u26.toInt ≤ 511) → (0 ≤ a_8u26.toInt ∧ a_8u26.toInt ≤ 1548) → (0 ≤ a_10u26.toInt ∧ a_10u26.toInt ≤ 5) → (5 - a_10u26.toInt).toNat < n → ok (g_Kinds_findOrAdd_172 n 3 a_2u26 6 a_4u26 a_7u26 a_8u26 a_9u26 a_10u26 Zu26) (fun r Y => (Fr YC Qv0 X Y ∧ INV Y)) := by
                intro n
                unfold g_Kinds_findOrAdd_172
                refine lp_indN (P := fun (n : Nat) (r_u26 : Nat → Int32 → Nat → Int32 → Int32 → Int32 → Int32 → Int32 → St → Option (Int32 × St)) => ∀ (a_2u26 : Int32) (a_4u26 : Int32) (a_7u26 : Int32) (a_8u26 : Int32) (a_9u26 : Int32) (a_10u26 : Int32) (Zu26 : St), INV Zu26 → Fr YC Qv0 X Zu26 → (0 ≤ a_2u26.toInt ∧ a_2u26.toInt ≤ 4) → (0 ≤ a_4u26.toInt ∧ a_4u26.toInt + a_2u26.toInt ≤ 7745) → (0 ≤ a_7u26.toInt ∧ a_7u26.toInt ≤ 511) → (0 ≤ a_8u26.toInt ∧ a_8u26.toInt ≤ 1548) → (0 ≤ a_10u26.toInt ∧ a_10u26.toInt ≤ 5) → (5 - a_10u26.toInt).toNat < n → ok (r_u26 3 a_2u26 6 a_4u26 a_7u26 a_8u26 a_9u26 a_10u26 Zu26) (fun r Y => (Fr YC Qv0 X Y ∧ INV Y))) ?_ ?_ n
                · intro a_2u26 a_4u26 a_7u26 a_8u26 a_9u26 a_10u26 Zu26 hIu26 hFu26 u26_0 u26_1 u26_2 u26_3 u26_4  hm; exact absurd hm (Nat.not_lt_zero _)
                · intro n r_u26 ih_u26 a_2u26 a_4u26 a_7u26 a_8u26 a_9u26 a_10u26 Zu26 hIu26 hFu26 u26_0 u26_1 u26_2 u26_3 u26_4  hmu26
                  unfold g_Kinds_findOrAdd_172_s
                  refine ok.ite (fun c27 => ?_) (fun c27 => ?_)
                  · skip
                    refine ok.letE (v1 := 8) (by decide) ?_
                    refine ok.ck (show 0 ≤ a_8u26.toInt ∧ a_8u26.toInt < ((1549 : Nat) : Int) from by omega) ?_
                    refine ok.wI (L := [1600]) hIu26 (show True from trivial) (show (1600 : Nat) ∈ [1600] from by decide) (by decide) (fun Z28 hIZ28 hFZ28 hkZ28 hoZ28 => ?_)
                    refine ok.letE (v1 := 10) (by decide) ?_
                    refine ok.letE (v1 := 9) (by decide) ?_
                    refine ok.ck (show 0 ≤ a_7u26.toInt ∧ a_7u26.toInt < ((512 : Nat) : Int) from by omega) ?_
                    refine ok.letE (v1 := (Zu26.1 9 (ix a_7u26))) (hFZ28.1 9 (ix a_7u26) (show (1800 : Nat) ∉ [1600] from by decide)) ?_
                    have g29 : -1 ≤ (Zu26.1 9 (ix a_7u26)).toInt ∧ (Zu26.1 9 (ix a_7u26)).toInt ≤ 1548 := hIu26.1 9 (ix a_7u26)
                    refine ok.ck (show 0 ≤ a_8u26.toInt ∧ a_8u26.toInt < ((1549 : Nat) : Int) from by omega) ?_
                    refine ok.wI (L := [2000]) hIZ28 (show -1 ≤ (Zu26.1 9 (ix a_7u26)).toInt ∧ (Zu26.1 9 (ix a_7u26)).toInt ≤ 1548 from by omega) (show (2000 : Nat) ∈ [2000] from by decide) (by decide) (fun Z30 hIZ30 hFZ30 hkZ30 hoZ30 => ?_)
                    refine ok.letE (v1 := 9) (by decide) ?_
                    refine ok.ck (show 0 ≤ a_7u26.toInt ∧ a_7u26.toInt < ((512 : Nat) : Int) from by omega) ?_
                    refine ok.wI (L := [1800]) hIZ30 (show -1 ≤ a_8u26.toInt ∧ a_8u26.toInt ≤ 1548 from by omega) (show (1800 : Nat) ∈ [1800] from by decide) (by decide) (fun Z31 hIZ31 hFZ31 hkZ31 hoZ31 => ?_)
                    exact ok.ret ⟨((((Fr.rf.tr hFu26 (fun _ q => q)).tr hFZ28 (by decide)).tr hFZ30 (by decide)).tr hFZ31 (by decide)), hIZ31⟩
                  · skip
                    refine ok.letE (v1 := 6) (by decide) ?_
                    refine ok.mul (show _ ≤ a_8u26.toInt * (5 : Int) ∧ a_8u26.toInt * (5 : Int) ≤ _ from by omega) (fun x29 hx29 => ?_)
                    have hx29 : x29.toInt = a_8u26.toInt * (5 : Int) := hx29
                    refine ok.add (show _ ≤ x29.toInt + a_10u26.toInt ∧ x29.toInt + a_10u26.toInt ≤ _ from by omega) (fun x30 hx30 => ?_)
                    have hx30 : x30.toInt = x29.toInt + a_10u26.toInt := hx30
                    refine ok.add (show _ ≤ a_4u26.toInt + a_10u26.toInt ∧ a_4u26.toInt + a_10u26.toInt ≤ _ from by omega) (fun x31 hx31 => ?_)
                    have hx31 : x31.toInt = a_4u26.toInt + a_10u26.toInt := hx31
                    refine ok.ck (show 0 ≤ x31.toInt ∧ x31.toInt < ((7745 : Nat) : Int) from by omega) ?_
                    refine ok.letE (v1 := (Zu26.1 6 (ix x31))) rfl ?_
                    refine ok.ck (show 0 ≤ x30.toInt ∧ x30.toInt < ((7745 : Nat) : Int) from by omega) ?_
                    refine ok.wI (L := [1200]) hIu26 (show True from trivial) (show (1200 : Nat) ∈ [1200] from by decide) (by decide) (fun Z32 hIZ32 hFZ32 hkZ32 hoZ32 => ?_)
                    refine ok.ite (fun c33 => ?_) (fun c33 => ?_)
                    · skip
                      have g34 := i32_le a_9u26
                      refine ok.add (show _ ≤ a_4u26.toInt + a_10u26.toInt ∧ a_4u26.toInt + a_10u26.toInt ≤ _ from by omega) (fun x35 hx35 => ?_)
                      have hx35 : x35.toInt = a_4u26.toInt + a_10u26.toInt := hx35
                      refine ok.ck (show 0 ≤ x35.toInt ∧ x35.toInt < ((7745 : Nat) : Int) from by omega) ?_
                      refine ok.letE (v1 := (Z32.1 6 (ix x35))) rfl ?_
                      refine ok.bd (v_Kinds_hasAny_3 hIZ32) ?_
                      rintro x37 _ rfl
                      refine ok.ite (fun c36 => ?_) (fun c36 => ?_)
                      · skip
                        have g37 := i32_le x37
                        unfold g_Kinds_findOrAdd_221
                        refine ok.inc (by decide) (show _ ≤ a_10u26.toInt + (1) ∧ a_10u26.toInt + (1) ≤ _ from by omega) (fun x34 hx34 => ?_)
                        have hx34 : x34.toInt = a_10u26.toInt + (1) := hx34
                        exact ih_u26 a_2u26 a_4u26 a_7u26 a_8u26 (0 : Int32) x34 Z32 hIZ32 ((Fr.rf.tr hFu26 (fun _ q => q)).tr hFZ32 (by decide)) (show 0 ≤ a_2u26.toInt ∧ a_2u26.toInt ≤ 4 from by omega) (show 0 ≤ a_4u26.toInt ∧ a_4u26.toInt + a_2u26.toInt ≤ 7745 from by omega) (show 0 ≤ a_7u26.toInt ∧ a_7u26.toInt ≤ 511 from by omega) (show 0 ≤ a_8u26.toInt ∧ a_8u26.toInt ≤ 1548 from by omega) (show 0 ≤ x34.toInt ∧ x34.toInt ≤ 5 from by omega) (show (5 - x34.toInt).toNat < _ from by omega)
                      · skip
                        unfold g_Kinds_findOrAdd_216
                        unfold g_Kinds_findOrAdd_221
                        refine ok.inc (by decide) (show _ ≤ a_10u26.toInt + (1) ∧ a_10u26.toInt + (1) ≤ _ from by omega) (fun x34 hx34 => ?_)
                        have hx34 : x34.toInt = a_10u26.toInt + (1) := hx34
                        exact ih_u26 a_2u26 a_4u26 a_7u26 a_8u26 (1 : Int32) x34 Z32 hIZ32 ((Fr.rf.tr hFu26 (fun _ q => q)).tr hFZ32 (by decide)) (show 0 ≤ a_2u26.toInt ∧ a_2u26.toInt ≤ 4 from by omega) (show 0 ≤ a_4u26.toInt ∧ a_4u26.toInt + a_2u26.toInt ≤ 7745 from by omega) (show 0 ≤ a_7u26.toInt ∧ a_7u26.toInt ≤ 511 from by omega) (show 0 ≤ a_8u26.toInt ∧ a_8u26.toInt ≤ 1548 from by omega) (show 0 ≤ x34.toInt ∧ x34.toInt ≤ 5 from by omega) (show (5 - x34.toInt).toNat < _ from by omega)
                    · skip
                      unfold g_Kinds_findOrAdd_216
                      unfold g_Kinds_findOrAdd_221
                      refine ok.inc (by decide) (show _ ≤ a_10u26.toInt + (1) ∧ a_10u26.toInt + (1) ≤ _ from by omega) (fun x34 hx34 => ?_)
                      have hx34 : x34.toInt = a_10u26.toInt + (1) := hx34
                      exact ih_u26 a_2u26 a_4u26 a_7u26 a_8u26 (1 : Int32) x34 Z32 hIZ32 ((Fr.rf.tr hFu26 (fun _ q => q)).tr hFZ32 (by decide)) (show 0 ≤ a_2u26.toInt ∧ a_2u26.toInt ≤ 4 from by omega) (show 0 ≤ a_4u26.toInt ∧ a_4u26.toInt + a_2u26.toInt ≤ 7745 from by omega) (show 0 ≤ a_7u26.toInt ∧ a_7u26.toInt ≤ 511 from by omega) (show 0 ≤ a_8u26.toInt ∧ a_8u26.toInt ≤ 1548 from by omega) (show 0 ≤ x34.toInt ∧ x34.toInt ≤ 5 from by omega) (show (5 - x34.toInt).toNat < _ from by omega)
              exact lpu26 BIG a_2u3 a_4u3 a_7u3 (Zu3.1 3 0) (0 : Int32) (0 : Int32) Z11 hIZ11 ((((((Fr.rf.tr hFu3 (fun _ q => q)).tr hFZ7 (by decide)).tr hFZ8 (by decide)).tr hFZ9 (by decide)).tr hFZ10 (by decide)).tr hFZ11 (by decide)) (show 0 ≤ a_2u3.toInt ∧ a_2u3.toInt ≤ 4 from by omega) (show 0 ≤ a_4u3.toInt ∧ a_4u3.toInt + a_2u3.toInt ≤ 7745 from by omega) (show 0 ≤ a_7u3.toInt ∧ a_7u3.toInt ≤ 511 from by omega) (show 0 ≤ (Zu3.1 3 0).toInt ∧ (Zu3.1 3 0).toInt ≤ 1548 from by omega) (show 0 ≤ (0 : Int) ∧ (0 : Int) ≤ 5 from by omega) (show (5 - (0 : Int)).toNat < BIG from ltBIG (show _ < 100000 from by omega))
            · skip
              refine ok.bd (v_Kinds_hasAny_3 hIZ11) ?_
              rintro x39 _ rfl
              refine ok.ite (fun c39 => ?_) (fun c39 => ?_)
              · skip
                have g40 := i32_le x39
                unfold g_Kinds_findOrAdd_166
                unfold g_Kinds_findOrAdd_167
                have lpu41 : ∀ (n : Nat), ∀ (a_2u41 : Int32) (a_4u41 : Int32) (a_7u41 : Int32) (a_8u41 : Int32) (a_9u41 : Int32) (a_10u41 : Int32) (Zu41 : St), INV Zu41 → Fr YC Qv0 X Zu41 → (0 ≤ a_2u41.toInt ∧ a_2u41.toInt ≤ 4) → (0 ≤ a_4u41.toInt ∧ a_4u41.toInt + a_2u41.toInt ≤ 7745) → (0 ≤ a_7u41.toInt ∧ a_7u41.toInt ≤ 511) → (0 ≤ a_8u41.toInt ∧ a_8u41.toInt ≤ 1548) → (0 ≤ a_10u41.toInt ∧ a_10u41.toInt ≤ 5) → (5 - a_10u41.toInt).toNat < n → ok (g_Kinds_findOrAdd_172 n 3 a_2u41 6 a_4u41 a_7u41 a_8u41 a_9u41 a_10u41 Zu41) (fun r Y => (Fr YC Qv0 X Y ∧ INV Y)) := by
                  intro n
                  unfold g_Kinds_findOrAdd_172
                  refine lp_indN (P := fun (n : Nat) (r_u41 : Nat → Int32 → Nat → Int32 → Int32 → Int32 → Int32 → Int32 → St → Option (Int32 × St)) => ∀ (a_2u41 : Int32) (a_4u41 : Int32) (a_7u41 : Int32) (a_8u41 : Int32) (a_9u41 : Int32) (a_10u41 : Int32) (Zu41 : St), INV Zu41 → Fr YC Qv0 X Zu41 → (0 ≤ a_2u41.toInt ∧ a_2u41.toInt ≤ 4) → (0 ≤ a_4u41.toInt ∧ a_4u41.toInt + a_2u41.toInt ≤ 7745) → (0 ≤ a_7u41.toInt ∧ a_7u41.toInt ≤ 511) → (0 ≤ a_8u41.toInt ∧ a_8u41.toInt ≤ 1548) → (0 ≤ a_10u41.toInt ∧ a_10u41.toInt ≤ 5) → (5 - a_10u41.toInt).toNat < n → ok (r_u41 3 a_2u41 6 a_4u41 a_7u41 a_8u41 a_9u41 a_10u41 Zu41) (fun r Y => (Fr YC Qv0 X Y ∧ INV Y))) ?_ ?_ n
                  · intro a_2u41 a_4u41 a_7u41 a_8u41 a_9u41 a_10u41 Zu41 hIu41 hFu41 u41_0 u41_1 u41_2 u41_3 u41_4  hm; exact absurd hm (Nat.not_lt_zero _)
                  · intro n r_u41 ih_u41 a_2u41 a_4u41 a_7u41 a_8u41 a_9u41 a_10u41 Zu41 hIu41 hFu41 u41_0 u41_1 u41_2 u41_3 u41_4  hmu41
                    unfold g_Kinds_findOrAdd_172_s
                    refine ok.ite (fun c42 => ?_) (fun c42 => ?_)
                    · skip
                      refine ok.letE (v1 := 8) (by decide) ?_
                      refine ok.ck (show 0 ≤ a_8u41.toInt ∧ a_8u41.toInt < ((1549 : Nat) : Int) from by omega) ?_
                      refine ok.wI (L := [1600]) hIu41 (show True from trivial) (show (1600 : Nat) ∈ [1600] from by decide) (by decide) (fun Z43 hIZ43 hFZ43 hkZ43 hoZ43 => ?_)
                      refine ok.letE (v1 := 10) (by decide) ?_
                      refine ok.letE (v1 := 9) (by decide) ?_
                      refine ok.ck (show 0 ≤ a_7u41.toInt ∧ a_7u41.toInt < ((512 : Nat) : Int) from by omega) ?_
                      refine ok.letE (v1 := (Zu41.1 9 (ix a_7u41))) (hFZ43.1 9 (ix a_7u41) (show (1800 : Nat) ∉ [1600] from by decide)) ?_
                      have g44 : -1 ≤ (Zu41.1 9 (ix a_7u41)).toInt ∧ (Zu41.1 9 (ix a_7u41)).toInt ≤ 1548 := hIu41.1 9 (ix a_7u41)
                      refine ok.ck (show 0 ≤ a_8u41.toInt ∧ a_8u41.toInt < ((1549 : Nat) : Int) from by omega) ?_
                      refine ok.wI (L := [2000]) hIZ43 (show -1 ≤ (Zu41.1 9 (ix a_7u41)).toInt ∧ (Zu41.1 9 (ix a_7u41)).toInt ≤ 1548 from by omega) (show (2000 : Nat) ∈ [2000] from by decide) (by decide) (fun Z45 hIZ45 hFZ45 hkZ45 hoZ45 => ?_)
                      refine ok.letE (v1 := 9) (by decide) ?_
                      refine ok.ck (show 0 ≤ a_7u41.toInt ∧ a_7u41.toInt < ((512 : Nat) : Int) from by omega) ?_
                      refine ok.wI (L := [1800]) hIZ45 (show -1 ≤ a_8u41.toInt ∧ a_8u41.toInt ≤ 1548 from by omega) (show (1800 : Nat) ∈ [1800] from by decide) (by decide) (fun Z46 hIZ46 hFZ46 hkZ46 hoZ46 => ?_)
                      exact ok.ret ⟨((((Fr.rf.tr hFu41 (fun _ q => q)).tr hFZ43 (by decide)).tr hFZ45 (by decide)).tr hFZ46 (by decide)), hIZ46⟩
                    · skip
                      refine ok.letE (v1 := 6) (by decide) ?_
                      refine ok.mul (show _ ≤ a_8u41.toInt * (5 : Int) ∧ a_8u41.toInt * (5 : Int) ≤ _ from by omega) (fun x29 hx29 => ?_)
                      have hx29 : x29.toInt = a_8u41.toInt * (5 : Int) := hx29
                      refine ok.add (show _ ≤ x29.toInt + a_10u41.toInt ∧ x29.toInt + a_10u41.toInt ≤ _ from by omega) (fun x30 hx30 => ?_)
                      have hx30 : x30.toInt = x29.toInt + a_10u41.toInt := hx30
                      refine ok.add (show _ ≤ a_4u41.toInt + a_10u41.toInt ∧ a_4u41.toInt + a_10u41.toInt ≤ _ from by omega) (fun x31 hx31 => ?_)
                      have hx31 : x31.toInt = a_4u41.toInt + a_10u41.toInt := hx31
                      refine ok.ck (show 0 ≤ x31.toInt ∧ x31.toInt < ((7745 : Nat) : Int) from by omega) ?_
                      refine ok.letE (v1 := (Zu41.1 6 (ix x31))) rfl ?_
                      refine ok.ck (show 0 ≤ x30.toInt ∧ x30.toInt < ((7745 : Nat) : Int) from by omega) ?_
                      refine ok.wI (L := [1200]) hIu41 (show True from trivial) (show (1200 : Nat) ∈ [1200] from by decide) (by decide) (fun Z47 hIZ47 hFZ47 hkZ47 hoZ47 => ?_)
                      refine ok.ite (fun c48 => ?_) (fun c48 => ?_)
                      · skip
                        have g49 := i32_le a_9u41
                        refine ok.add (show _ ≤ a_4u41.toInt + a_10u41.toInt ∧ a_4u41.toInt + a_10u41.toInt ≤ _ from by omega) (fun x35 hx35 => ?_)
                        have hx35 : x35.toInt = a_4u41.toInt + a_10u41.toInt := hx35
                        refine ok.ck (show 0 ≤ x35.toInt ∧ x35.toInt < ((7745 : Nat) : Int) from by omega) ?_
                        refine ok.letE (v1 := (Z47.1 6 (ix x35))) rfl ?_
                        refine ok.bd (v_Kinds_hasAny_3 hIZ47) ?_
                        rintro x37 _ rfl
                        refine ok.ite (fun c51 => ?_) (fun c51 => ?_)
                        · skip
                          have g52 := i32_le x37
                          unfold g_Kinds_findOrAdd_221
                          refine ok.inc (by decide) (show _ ≤ a_10u41.toInt + (1) ∧ a_10u41.toInt + (1) ≤ _ from by omega) (fun x34 hx34 => ?_)
                          have hx34 : x34.toInt = a_10u41.toInt + (1) := hx34
                          exact ih_u41 a_2u41 a_4u41 a_7u41 a_8u41 (0 : Int32) x34 Z47 hIZ47 ((Fr.rf.tr hFu41 (fun _ q => q)).tr hFZ47 (by decide)) (show 0 ≤ a_2u41.toInt ∧ a_2u41.toInt ≤ 4 from by omega) (show 0 ≤ a_4u41.toInt ∧ a_4u41.toInt + a_2u41.toInt ≤ 7745 from by omega) (show 0 ≤ a_7u41.toInt ∧ a_7u41.toInt ≤ 511 from by omega) (show 0 ≤ a_8u41.toInt ∧ a_8u41.toInt ≤ 1548 from by omega) (show 0 ≤ x34.toInt ∧ x34.toInt ≤ 5 from by omega) (show (5 - x34.toInt).toNat < _ from by omega)
                        · skip
                          unfold g_Kinds_findOrAdd_216
                          unfold g_Kinds_findOrAdd_221
                          refine ok.inc (by decide) (show _ ≤ a_10u41.toInt + (1) ∧ a_10u41.toInt + (1) ≤ _ from by omega) (fun x34 hx34 => ?_)
                          have hx34 : x34.toInt = a_10u41.toInt + (1) := hx34
                          exact ih_u41 a_2u41 a_4u41 a_7u41 a_8u41 (1 : Int32) x34 Z47 hIZ47 ((Fr.rf.tr hFu41 (fun _ q => q)).tr hFZ47 (by decide)) (show 0 ≤ a_2u41.toInt ∧ a_2u41.toInt ≤ 4 from by omega) (show 0 ≤ a_4u41.toInt ∧ a_4u41.toInt + a_2u41.toInt ≤ 7745 from by omega) (show 0 ≤ a_7u41.toInt ∧ a_7u41.toInt ≤ 511 from by omega) (show 0 ≤ a_8u41.toInt ∧ a_8u41.toInt ≤ 1548 from by omega) (show 0 ≤ x34.toInt ∧ x34.toInt ≤ 5 from by omega) (show (5 - x34.toInt).toNat < _ from by omega)
                      · skip
                        unfold g_Kinds_findOrAdd_216
                        unfold g_Kinds_findOrAdd_221
                        refine ok.inc (by decide) (show _ ≤ a_10u41.toInt + (1) ∧ a_10u41.toInt + (1) ≤ _ from by omega) (fun x34 hx34 => ?_)
                        have hx34 : x34.toInt = a_10u41.toInt + (1) := hx34
                        exact ih_u41 a_2u41 a_4u41 a_7u41 a_8u41 (1 : Int32) x34 Z47 hIZ47 ((Fr.rf.tr hFu41 (fun _ q => q)).tr hFZ47 (by decide)) (show 0 ≤ a_2u41.toInt ∧ a_2u41.toInt ≤ 4 from by omega) (show 0 ≤ a_4u41.toInt ∧ a_4u41.toInt + a_2u41.toInt ≤ 7745 from by omega) (show 0 ≤ a_7u41.toInt ∧ a_7u41.toInt ≤ 511 from by omega) (show 0 ≤ a_8u41.toInt ∧ a_8u41.toInt ≤ 1548 from by omega) (show 0 ≤ x34.toInt ∧ x34.toInt ≤ 5 from by omega) (show (5 - x34.toInt).toNat < _ from by omega)
                exact lpu41 BIG a_2u3 a_4u3 a_7u3 (Zu3.1 3 0) (0 : Int32) (0 : Int32) Z11 hIZ11 ((((((Fr.rf.tr hFu3 (fun _ q => q)).tr hFZ7 (by decide)).tr hFZ8 (by decide)).tr hFZ9 (by decide)).tr hFZ10 (by decide)).tr hFZ11 (by decide)) (show 0 ≤ a_2u3.toInt ∧ a_2u3.toInt ≤ 4 from by omega) (show 0 ≤ a_4u3.toInt ∧ a_4u3.toInt + a_2u3.toInt ≤ 7745 from by omega) (show 0 ≤ a_7u3.toInt ∧ a_7u3.toInt ≤ 511 from by omega) (show 0 ≤ (Zu3.1 3 0).toInt ∧ (Zu3.1 3 0).toInt ≤ 1548 from by omega) (show 0 ≤ (0 : Int) ∧ (0 : Int) ≤ 5 from by omega) (show (5 - (0 : Int)).toNat < BIG from ltBIG (show _ < 100000 from by omega))
              · skip
                unfold g_Kinds_findOrAdd_162
                unfold g_Kinds_findOrAdd_167
                have lpu53 : ∀ (n : Nat), ∀ (a_2u53 : Int32) (a_4u53 : Int32) (a_7u53 : Int32) (a_8u53 : Int32) (a_9u53 : Int32) (a_10u53 : Int32) (Zu53 : St), INV Zu53 → Fr YC Qv0 X Zu53 → (0 ≤ a_2u53.toInt ∧ a_2u53.toInt ≤ 4) → (0 ≤ a_4u53.toInt ∧ a_4u53.toInt + a_2u53.toInt ≤ 7745) → (0 ≤ a_7u53.toInt ∧ a_7u53.toInt ≤ 511) → (0 ≤ a_8u53.toInt ∧ a_8u53.toInt ≤ 1548) → (0 ≤ a_10u53.toInt ∧ a_10u53.toInt ≤ 5) → (5 - a_10u53.toInt).toNat < n → ok (g_Kinds_findOrAdd_172 n 3 a_2u53 6 a_4u53 a_7u53 a_8u53 a_9u53 a_10u53 Zu53) (fun r Y => (Fr YC Qv0 X Y ∧ INV Y)) := by
                  intro n
                  unfold g_Kinds_findOrAdd_172
                  refine lp_indN (P := fun (n : Nat) (r_u53 : Nat → Int32 → Nat → Int32 → Int32 → Int32 → Int32 → Int32 → St → Option (Int32 × St)) => ∀ (a_2u53 : Int32) (a_4u53 : Int32) (a_7u53 : Int32) (a_8u53 : Int32) (a_9u53 : Int32) (a_10u53 : Int32) (Zu53 : St), INV Zu53 → Fr YC Qv0 X Zu53 → (0 ≤ a_2u53.toInt ∧ a_2u53.toInt ≤ 4) → (0 ≤ a_4u53.toInt ∧ a_4u53.toInt + a_2u53.toInt ≤ 7745) → (0 ≤ a_7u53.toInt ∧ a_7u53.toInt ≤ 511) → (0 ≤ a_8u53.toInt ∧ a_8u53.toInt ≤ 1548) → (0 ≤ a_10u53.toInt ∧ a_10u53.toInt ≤ 5) → (5 - a_10u53.toInt).toNat < n → ok (r_u53 3 a_2u53 6 a_4u53 a_7u53 a_8u53 a_9u53 a_10u53 Zu53) (fun r Y => (Fr YC Qv0 X Y ∧ INV Y))) ?_ ?_ n
                  · intro a_2u53 a_4u53 a_7u53 a_8u53 a_9u53 a_10u53 Zu53 hIu53 hFu53 u53_0 u53_1 u53_2 u53_3 u53_4  hm; exact absurd hm (Nat.not_lt_zero _)
                  · intro n r_u53 ih_u53 a_2u53 a_4u53 a_7u53 a_8u53 a_9u53 a_10u53 Zu53 hIu53 hFu53 u53_0 u53_1 u53_2 u53_3 u53_4  hmu53
                    unfold g_Kinds_findOrAdd_172_s
                    refine ok.ite (fun c54 => ?_) (fun c54 => ?_)
                    · skip
                      refine ok.letE (v1 := 8) (by decide) ?_
                      refine ok.ck (show 0 ≤ a_8u53.toInt ∧ a_8u53.toInt < ((1549 : Nat) : Int) from by omega) ?_
                      refine ok.wI (L := [1600]) hIu53 (show True from trivial) (show (1600 : Nat) ∈ [1600] from by decide) (by decide) (fun Z55 hIZ55 hFZ55 hkZ55 hoZ55 => ?_)
                      refine ok.letE (v1 := 10) (by decide) ?_
                      refine ok.letE (v1 := 9) (by decide) ?_
                      refine ok.ck (show 0 ≤ a_7u53.toInt ∧ a_7u53.toInt < ((512 : Nat) : Int) from by omega) ?_
                      refine ok.letE (v1 := (Zu53.1 9 (ix a_7u53))) (hFZ55.1 9 (ix a_7u53) (show (1800 : Nat) ∉ [1600] from by decide)) ?_
                      have g56 : -1 ≤ (Zu53.1 9 (ix a_7u53)).toInt ∧ (Zu53.1 9 (ix a_7u53)).toInt ≤ 1548 := hIu53.1 9 (ix a_7u53)
                      refine ok.ck (show 0 ≤ a_8u53.toInt ∧ a_8u53.toInt < ((1549 : Nat) : Int) from by omega) ?_
                      refine ok.wI (L := [2000]) hIZ55 (show -1 ≤ (Zu53.1 9 (ix a_7u53)).toInt ∧ (Zu53.1 9 (ix a_7u53)).toInt ≤ 1548 from by omega) (show (2000 : Nat) ∈ [2000] from by decide) (by decide) (fun Z57 hIZ57 hFZ57 hkZ57 hoZ57 => ?_)
                      refine ok.letE (v1 := 9) (by decide) ?_
                      refine ok.ck (show 0 ≤ a_7u53.toInt ∧ a_7u53.toInt < ((512 : Nat) : Int) from by omega) ?_
                      refine ok.wI (L := [1800]) hIZ57 (show -1 ≤ a_8u53.toInt ∧ a_8u53.toInt ≤ 1548 from by omega) (show (1800 : Nat) ∈ [1800] from by decide) (by decide) (fun Z58 hIZ58 hFZ58 hkZ58 hoZ58 => ?_)
                      exact ok.ret ⟨((((Fr.rf.tr hFu53 (fun _ q => q)).tr hFZ55 (by decide)).tr hFZ57 (by decide)).tr hFZ58 (by decide)), hIZ58⟩
                    · skip
                      refine ok.letE (v1 := 6) (by decide) ?_
                      refine ok.mul (show _ ≤ a_8u53.toInt * (5 : Int) ∧ a_8u53.toInt * (5 : Int) ≤ _ from by omega) (fun x29 hx29 => ?_)
                      have hx29 : x29.toInt = a_8u53.toInt * (5 : Int) := hx29
                      refine ok.add (show _ ≤ x29.toInt + a_10u53.toInt ∧ x29.toInt + a_10u53.toInt ≤ _ from by omega) (fun x30 hx30 => ?_)
                      have hx30 : x30.toInt = x29.toInt + a_10u53.toInt := hx30
                      refine ok.add (show _ ≤ a_4u53.toInt + a_10u53.toInt ∧ a_4u53.toInt + a_10u53.toInt ≤ _ from by omega) (fun x31 hx31 => ?_)
                      have hx31 : x31.toInt = a_4u53.toInt + a_10u53.toInt := hx31
                      refine ok.ck (show 0 ≤ x31.toInt ∧ x31.toInt < ((7745 : Nat) : Int) from by omega) ?_
                      refine ok.letE (v1 := (Zu53.1 6 (ix x31))) rfl ?_
                      refine ok.ck (show 0 ≤ x30.toInt ∧ x30.toInt < ((7745 : Nat) : Int) from by omega) ?_
                      refine ok.wI (L := [1200]) hIu53 (show True from trivial) (show (1200 : Nat) ∈ [1200] from by decide) (by decide) (fun Z59 hIZ59 hFZ59 hkZ59 hoZ59 => ?_)
                      refine ok.ite (fun c60 => ?_) (fun c60 => ?_)
                      · skip
                        have g61 := i32_le a_9u53
                        refine ok.add (show _ ≤ a_4u53.toInt + a_10u53.toInt ∧ a_4u53.toInt + a_10u53.toInt ≤ _ from by omega) (fun x35 hx35 => ?_)
                        have hx35 : x35.toInt = a_4u53.toInt + a_10u53.toInt := hx35
                        refine ok.ck (show 0 ≤ x35.toInt ∧ x35.toInt < ((7745 : Nat) : Int) from by omega) ?_
                        refine ok.letE (v1 := (Z59.1 6 (ix x35))) rfl ?_
                        refine ok.bd (v_Kinds_hasAny_3 hIZ59) ?_
                        rintro x37 _ rfl
                        refine ok.ite (fun c63 => ?_) (fun c63 => ?_)
                        · skip
                          have g64 := i32_le x37
                          unfold g_Kinds_findOrAdd_221
                          refine ok.inc (by decide) (show _ ≤ a_10u53.toInt + (1) ∧ a_10u53.toInt + (1) ≤ _ from by omega) (fun x34 hx34 => ?_)
                          have hx34 : x34.toInt = a_10u53.toInt + (1) := hx34
                          exact ih_u53 a_2u53 a_4u53 a_7u53 a_8u53 (0 : Int32) x34 Z59 hIZ59 ((Fr.rf.tr hFu53 (fun _ q => q)).tr hFZ59 (by decide)) (show 0 ≤ a_2u53.toInt ∧ a_2u53.toInt ≤ 4 from by omega) (show 0 ≤ a_4u53.toInt ∧ a_4u53.toInt + a_2u53.toInt ≤ 7745 from by omega) (show 0 ≤ a_7u53.toInt ∧ a_7u53.toInt ≤ 511 from by omega) (show 0 ≤ a_8u53.toInt ∧ a_8u53.toInt ≤ 1548 from by omega) (show 0 ≤ x34.toInt ∧ x34.toInt ≤ 5 from by omega) (show (5 - x34.toInt).toNat < _ from by omega)
                        · skip
                          unfold g_Kinds_findOrAdd_216
                          unfold g_Kinds_findOrAdd_221
                          refine ok.inc (by decide) (show _ ≤ a_10u53.toInt + (1) ∧ a_10u53.toInt + (1) ≤ _ from by omega) (fun x34 hx34 => ?_)
                          have hx34 : x34.toInt = a_10u53.toInt + (1) := hx34
                          exact ih_u53 a_2u53 a_4u53 a_7u53 a_8u53 (1 : Int32) x34 Z59 hIZ59 ((Fr.rf.tr hFu53 (fun _ q => q)).tr hFZ59 (by decide)) (show 0 ≤ a_2u53.toInt ∧ a_2u53.toInt ≤ 4 from by omega) (show 0 ≤ a_4u53.toInt ∧ a_4u53.toInt + a_2u53.toInt ≤ 7745 from by omega) (show 0 ≤ a_7u53.toInt ∧ a_7u53.toInt ≤ 511 from by omega) (show 0 ≤ a_8u53.toInt ∧ a_8u53.toInt ≤ 1548 from by omega) (show 0 ≤ x34.toInt ∧ x34.toInt ≤ 5 from by omega) (show (5 - x34.toInt).toNat < _ from by omega)
                      · skip
                        unfold g_Kinds_findOrAdd_216
                        unfold g_Kinds_findOrAdd_221
                        refine ok.inc (by decide) (show _ ≤ a_10u53.toInt + (1) ∧ a_10u53.toInt + (1) ≤ _ from by omega) (fun x34 hx34 => ?_)
                        have hx34 : x34.toInt = a_10u53.toInt + (1) := hx34
                        exact ih_u53 a_2u53 a_4u53 a_7u53 a_8u53 (1 : Int32) x34 Z59 hIZ59 ((Fr.rf.tr hFu53 (fun _ q => q)).tr hFZ59 (by decide)) (show 0 ≤ a_2u53.toInt ∧ a_2u53.toInt ≤ 4 from by omega) (show 0 ≤ a_4u53.toInt ∧ a_4u53.toInt + a_2u53.toInt ≤ 7745 from by omega) (show 0 ≤ a_7u53.toInt ∧ a_7u53.toInt ≤ 511 from by omega) (show 0 ≤ a_8u53.toInt ∧ a_8u53.toInt ≤ 1548 from by omega) (show 0 ≤ x34.toInt ∧ x34.toInt ≤ 5 from by omega) (show (5 - x34.toInt).toNat < _ from by omega)
                exact lpu53 BIG a_2u3 a_4u3 a_7u3 (Zu3.1 3 0) (1 : Int32) (0 : Int32) Z11 hIZ11 ((((((Fr.rf.tr hFu3 (fun _ q => q)).tr hFZ7 (by decide)).tr hFZ8 (by decide)).tr hFZ9 (by decide)).tr hFZ10 (by decide)).tr hFZ11 (by decide)) (show 0 ≤ a_2u3.toInt ∧ a_2u3.toInt ≤ 4 from by omega) (show 0 ≤ a_4u3.toInt ∧ a_4u3.toInt + a_2u3.toInt ≤ 7745 from by omega) (show 0 ≤ a_7u3.toInt ∧ a_7u3.toInt ≤ 511 from by omega) (show 0 ≤ (Zu3.1 3 0).toInt ∧ (Zu3.1 3 0).toInt ≤ 1548 from by omega) (show 0 ≤ (0 : Int) ∧ (0 : Int) ≤ 5 from by omega) (show (5 - (0 : Int)).toNat < BIG from ltBIG (show _ < 100000 from by omega))
        · skip
          exact ok.ret ⟨(Fr.rf.tr hFu3 (fun _ q => q)), hIu3⟩
      · skip
        refine ok.ite (fun c65 => ?_) (fun c65 => ?_)
        · skip
          unfold g_Kinds_findOrAdd_77
          refine ok.letE (v1 := (Zu3.1 3 0)) rfl ?_
          have g66 : 0 ≤ (Zu3.1 3 0).toInt ∧ (Zu3.1 3 0).toInt ≤ 1549 := hIu3.1 3 0
          refine ok.ite (fun c67 => ?_) (fun c67 => ?_)
          · skip
            refine ok.letE (v1 := (Zu3.1 3 0)) rfl ?_
            refine ok.letE (v1 := (Zu3.1 3 0)) rfl ?_
            refine ok.add (show _ ≤ (Zu3.1 3 0).toInt + (1 : Int) ∧ (Zu3.1 3 0).toInt + (1 : Int) ≤ _ from by omega) (fun x8 hx8 => ?_)
            have hx8 : x8.toInt = (Zu3.1 3 0).toInt + (1 : Int) := hx8
            refine ok.wI (L := [600]) hIu3 (show 0 ≤ x8.toInt ∧ x8.toInt ≤ 1549 from by omega) (show (600 : Nat) ∈ [600] from by decide) (by decide) (fun Z68 hIZ68 hFZ68 hkZ68 hoZ68 => ?_)
            refine ok.letE (v1 := 4) (by decide) ?_
            refine ok.ck (show 0 ≤ (Zu3.1 3 0).toInt ∧ (Zu3.1 3 0).toInt < ((1549 : Nat) : Int) from by omega) ?_
            refine ok.wI (L := [800]) hIZ68 (show True from trivial) (show (800 : Nat) ∈ [800] from by decide) (by decide) (fun Z69 hIZ69 hFZ69 hkZ69 hoZ69 => ?_)
            refine ok.letE (v1 := 5) (by decide) ?_
            refine ok.ck (show 0 ≤ (Zu3.1 3 0).toInt ∧ (Zu3.1 3 0).toInt < ((1549 : Nat) : Int) from by omega) ?_
            refine ok.wI (L := [1000]) hIZ69 (show 0 ≤ a_2u3.toInt ∧ a_2u3.toInt ≤ 4 from by omega) (show (1000 : Nat) ∈ [1000] from by decide) (by decide) (fun Z70 hIZ70 hFZ70 hkZ70 hoZ70 => ?_)
            refine ok.letE (v1 := 7) (by decide) ?_
            refine ok.ck (show 0 ≤ (Zu3.1 3 0).toInt ∧ (Zu3.1 3 0).toInt < ((1549 : Nat) : Int) from by omega) ?_
            refine ok.wI (L := [1400]) hIZ70 (show True from trivial) (show (1400 : Nat) ∈ [1400] from by decide) (by decide) (fun Z71 hIZ71 hFZ71 hkZ71 hoZ71 => ?_)
            refine ok.letE (v1 := 6) (by decide) ?_
            refine ok.mul (show _ ≤ (Zu3.1 3 0).toInt * (5 : Int) ∧ (Zu3.1 3 0).toInt * (5 : Int) ≤ _ from by omega) (fun x17 hx17 => ?_)
            have hx17 : x17.toInt = (Zu3.1 3 0).toInt * (5 : Int) := hx17
            refine ok.add (show _ ≤ x17.toInt + (4 : Int) ∧ x17.toInt + (4 : Int) ≤ _ from by omega) (fun x18 hx18 => ?_)
            have hx18 : x18.toInt = x17.toInt + (4 : Int) := hx18
            refine ok.ck (show 0 ≤ x18.toInt ∧ x18.toInt < ((7745 : Nat) : Int) from by omega) ?_
            refine ok.wI (L := [1200]) hIZ71 (show True from trivial) (show (1200 : Nat) ∈ [1200] from by decide) (by decide) (fun Z72 hIZ72 hFZ72 hkZ72 hoZ72 => ?_)
            refine ok.ite (fun c73 => ?_) (fun c73 => ?_)
            · skip
              unfold g_Kinds_findOrAdd_162
              unfold g_Kinds_findOrAdd_167
              have lpu74 : ∀ (n : Nat), ∀ (a_2u74 : Int32) (a_4u74 : Int32) (a_7u74 : Int32) (a_8u74 : Int32) (a_9u74 : Int32) (a_10u74 : Int32) (Zu74 : St), INV Zu74 → Fr YC Qv0 X Zu74 → (0 ≤ a_2u74.toInt ∧ a_2u74.toInt ≤ 4) → (0 ≤ a_4u74.toInt ∧ a_4u74.toInt + a_2u74.toInt ≤ 7745) → (0 ≤ a_7u74.toInt ∧ a_7u74.toInt ≤ 511) → (0 ≤ a_8u74.toInt ∧ a_8u74.toInt ≤ 1548) → (0 ≤ a_10u74.toInt ∧ a_10u74.toInt ≤ 5) → (5 - a_10u74.toInt).toNat < n → ok (g_Kinds_findOrAdd_172 n 3 a_2u74 6 a_4u74 a_7u74 a_8u74 a_9u74 a_10u74 Zu74) (fun r Y => (Fr YC Qv0 X Y ∧ INV Y)) := by
                intro n
                unfold g_Kinds_findOrAdd_172
                refine lp_indN (P := fun (n : Nat) (r_u74 : Nat → Int32 → Nat → Int32 → Int32 → Int32 → Int32 → Int32 → St → Option (Int32 × St)) => ∀ (a_2u74 : Int32) (a_4u74 : Int32) (a_7u74 : Int32) (a_8u74 : Int32) (a_9u74 : Int32) (a_10u74 : Int32) (Zu74 : St), INV Zu74 → Fr YC Qv0 X Zu74 → (0 ≤ a_2u74.toInt ∧ a_2u74.toInt ≤ 4) → (0 ≤ a_4u74.toInt ∧ a_4u74.toInt + a_2u74.toInt ≤ 7745) → (0 ≤ a_7u74.toInt ∧ a_7u74.toInt ≤ 511) → (0 ≤ a_8u74.toInt ∧ a_8u74.toInt ≤ 1548) → (0 ≤ a_10u74.toInt ∧ a_10u74.toInt ≤ 5) → (5 - a_10u74.toInt).toNat < n → ok (r_u74 3 a_2u74 6 a_4u74 a_7u74 a_8u74 a_9u74 a_10u74 Zu74) (fun r Y => (Fr YC Qv0 X Y ∧ INV Y))) ?_ ?_ n
                · intro a_2u74 a_4u74 a_7u74 a_8u74 a_9u74 a_10u74 Zu74 hIu74 hFu74 u74_0 u74_1 u74_2 u74_3 u74_4  hm; exact absurd hm (Nat.not_lt_zero _)
                · intro n r_u74 ih_u74 a_2u74 a_4u74 a_7u74 a_8u74 a_9u74 a_10u74 Zu74 hIu74 hFu74 u74_0 u74_1 u74_2 u74_3 u74_4  hmu74
                  unfold g_Kinds_findOrAdd_172_s
                  refine ok.ite (fun c75 => ?_) (fun c75 => ?_)
                  · skip
                    refine ok.letE (v1 := 8) (by decide) ?_
                    refine ok.ck (show 0 ≤ a_8u74.toInt ∧ a_8u74.toInt < ((1549 : Nat) : Int) from by omega) ?_
                    refine ok.wI (L := [1600]) hIu74 (show True from trivial) (show (1600 : Nat) ∈ [1600] from by decide) (by decide) (fun Z76 hIZ76 hFZ76 hkZ76 hoZ76 => ?_)
                    refine ok.letE (v1 := 10) (by decide) ?_
                    refine ok.letE (v1 := 9) (by decide) ?_
                    refine ok.ck (show 0 ≤ a_7u74.toInt ∧ a_7u74.toInt < ((512 : Nat) : Int) from by omega) ?_
                    refine ok.letE (v1 := (Zu74.1 9 (ix a_7u74))) (hFZ76.1 9 (ix a_7u74) (show (1800 : Nat) ∉ [1600] from by decide)) ?_
                    have g77 : -1 ≤ (Zu74.1 9 (ix a_7u74)).toInt ∧ (Zu74.1 9 (ix a_7u74)).toInt ≤ 1548 := hIu74.1 9 (ix a_7u74)
                    refine ok.ck (show 0 ≤ a_8u74.toInt ∧ a_8u74.toInt < ((1549 : Nat) : Int) from by omega) ?_
                    refine ok.wI (L := [2000]) hIZ76 (show -1 ≤ (Zu74.1 9 (ix a_7u74)).toInt ∧ (Zu74.1 9 (ix a_7u74)).toInt ≤ 1548 from by omega) (show (2000 : Nat) ∈ [2000] from by decide) (by decide) (fun Z78 hIZ78 hFZ78 hkZ78 hoZ78 => ?_)
                    refine ok.letE (v1 := 9) (by decide) ?_
                    refine ok.ck (show 0 ≤ a_7u74.toInt ∧ a_7u74.toInt < ((512 : Nat) : Int) from by omega) ?_
                    refine ok.wI (L := [1800]) hIZ78 (show -1 ≤ a_8u74.toInt ∧ a_8u74.toInt ≤ 1548 from by omega) (show (1800 : Nat) ∈ [1800] from by decide) (by decide) (fun Z79 hIZ79 hFZ79 hkZ79 hoZ79 => ?_)
                    exact ok.ret ⟨((((Fr.rf.tr hFu74 (fun _ q => q)).tr hFZ76 (by decide)).tr hFZ78 (by decide)).tr hFZ79 (by decide)), hIZ79⟩
                  · skip
                    refine ok.letE (v1 := 6) (by decide) ?_
                    refine ok.mul (show _ ≤ a_8u74.toInt * (5 : Int) ∧ a_8u74.toInt * (5 : Int) ≤ _ from by omega) (fun x29 hx29 => ?_)
                    have hx29 : x29.toInt = a_8u74.toInt * (5 : Int) := hx29
                    refine ok.add (show _ ≤ x29.toInt + a_10u74.toInt ∧ x29.toInt + a_10u74.toInt ≤ _ from by omega) (fun x30 hx30 => ?_)
                    have hx30 : x30.toInt = x29.toInt + a_10u74.toInt := hx30
                    refine ok.add (show _ ≤ a_4u74.toInt + a_10u74.toInt ∧ a_4u74.toInt + a_10u74.toInt ≤ _ from by omega) (fun x31 hx31 => ?_)
                    have hx31 : x31.toInt = a_4u74.toInt + a_10u74.toInt := hx31
                    refine ok.ck (show 0 ≤ x31.toInt ∧ x31.toInt < ((7745 : Nat) : Int) from by omega) ?_
                    refine ok.letE (v1 := (Zu74.1 6 (ix x31))) rfl ?_
                    refine ok.ck (show 0 ≤ x30.toInt ∧ x30.toInt < ((7745 : Nat) : Int) from by omega) ?_
                    refine ok.wI (L := [1200]) hIu74 (show True from trivial) (show (1200 : Nat) ∈ [1200] from by decide) (by decide) (fun Z80 hIZ80 hFZ80 hkZ80 hoZ80 => ?_)
                    refine ok.ite (fun c81 => ?_) (fun c81 => ?_)
                    · skip
                      have g82 := i32_le a_9u74
                      refine ok.add (show _ ≤ a_4u74.toInt + a_10u74.toInt ∧ a_4u74.toInt + a_10u74.toInt ≤ _ from by omega) (fun x35 hx35 => ?_)
                      have hx35 : x35.toInt = a_4u74.toInt + a_10u74.toInt := hx35
                      refine ok.ck (show 0 ≤ x35.toInt ∧ x35.toInt < ((7745 : Nat) : Int) from by omega) ?_
                      refine ok.letE (v1 := (Z80.1 6 (ix x35))) rfl ?_
                      refine ok.bd (v_Kinds_hasAny_3 hIZ80) ?_
                      rintro x37 _ rfl
                      refine ok.ite (fun c84 => ?_) (fun c84 => ?_)
                      · skip
                        have g85 := i32_le x37
                        unfold g_Kinds_findOrAdd_221
                        refine ok.inc (by decide) (show _ ≤ a_10u74.toInt + (1) ∧ a_10u74.toInt + (1) ≤ _ from by omega) (fun x34 hx34 => ?_)
                        have hx34 : x34.toInt = a_10u74.toInt + (1) := hx34
                        exact ih_u74 a_2u74 a_4u74 a_7u74 a_8u74 (0 : Int32) x34 Z80 hIZ80 ((Fr.rf.tr hFu74 (fun _ q => q)).tr hFZ80 (by decide)) (show 0 ≤ a_2u74.toInt ∧ a_2u74.toInt ≤ 4 from by omega) (show 0 ≤ a_4u74.toInt ∧ a_4u74.toInt + a_2u74.toInt ≤ 7745 from by omega) (show 0 ≤ a_7u74.toInt ∧ a_7u74.toInt ≤ 511 from by omega) (show 0 ≤ a_8u74.toInt ∧ a_8u74.toInt ≤ 1548 from by omega) (show 0 ≤ x34.toInt ∧ x34.toInt ≤ 5 from by omega) (show (5 - x34.toInt).toNat < _ from by omega)
                      · skip
                        unfold g_Kinds_findOrAdd_216
                        unfold g_Kinds_findOrAdd_221
                        refine ok.inc (by decide) (show _ ≤ a_10u74.toInt + (1) ∧ a_10u74.toInt + (1) ≤ _ from by omega) (fun x34 hx34 => ?_)
                        have hx34 : x34.toInt = a_10u74.toInt + (1) := hx34
                        exact ih_u74 a_2u74 a_4u74 a_7u74 a_8u74 (1 : Int32) x34 Z80 hIZ80 ((Fr.rf.tr hFu74 (fun _ q => q)).tr hFZ80 (by decide)) (show 0 ≤ a_2u74.toInt ∧ a_2u74.toInt ≤ 4 from by omega) (show 0 ≤ a_4u74.toInt ∧ a_4u74.toInt + a_2u74.toInt ≤ 7745 from by omega) (show 0 ≤ a_7u74.toInt ∧ a_7u74.toInt ≤ 511 from by omega) (show 0 ≤ a_8u74.toInt ∧ a_8u74.toInt ≤ 1548 from by omega) (show 0 ≤ x34.toInt ∧ x34.toInt ≤ 5 from by omega) (show (5 - x34.toInt).toNat < _ from by omega)
                    · skip
                      unfold g_Kinds_findOrAdd_216
                      unfold g_Kinds_findOrAdd_221
                      refine ok.inc (by decide) (show _ ≤ a_10u74.toInt + (1) ∧ a_10u74.toInt + (1) ≤ _ from by omega) (fun x34 hx34 => ?_)
                      have hx34 : x34.toInt = a_10u74.toInt + (1) := hx34
                      exact ih_u74 a_2u74 a_4u74 a_7u74 a_8u74 (1 : Int32) x34 Z80 hIZ80 ((Fr.rf.tr hFu74 (fun _ q => q)).tr hFZ80 (by decide)) (show 0 ≤ a_2u74.toInt ∧ a_2u74.toInt ≤ 4 from by omega) (show 0 ≤ a_4u74.toInt ∧ a_4u74.toInt + a_2u74.toInt ≤ 7745 from by omega) (show 0 ≤ a_7u74.toInt ∧ a_7u74.toInt ≤ 511 from by omega) (show 0 ≤ a_8u74.toInt ∧ a_8u74.toInt ≤ 1548 from by omega) (show 0 ≤ x34.toInt ∧ x34.toInt ≤ 5 from by omega) (show (5 - x34.toInt).toNat < _ from by omega)
              exact lpu74 BIG a_2u3 a_4u3 a_7u3 (Zu3.1 3 0) (1 : Int32) (0 : Int32) Z72 hIZ72 ((((((Fr.rf.tr hFu3 (fun _ q => q)).tr hFZ68 (by decide)).tr hFZ69 (by decide)).tr hFZ70 (by decide)).tr hFZ71 (by decide)).tr hFZ72 (by decide)) (show 0 ≤ a_2u3.toInt ∧ a_2u3.toInt ≤ 4 from by omega) (show 0 ≤ a_4u3.toInt ∧ a_4u3.toInt + a_2u3.toInt ≤ 7745 from by omega) (show 0 ≤ a_7u3.toInt ∧ a_7u3.toInt ≤ 511 from by omega) (show 0 ≤ (Zu3.1 3 0).toInt ∧ (Zu3.1 3 0).toInt ≤ 1548 from by omega) (show 0 ≤ (0 : Int) ∧ (0 : Int) ≤ 5 from by omega) (show (5 - (0 : Int)).toNat < BIG from ltBIG (show _ < 100000 from by omega))
            · skip
              refine ok.ite (fun c86 => ?_) (fun c86 => ?_)
              · skip
                unfold g_Kinds_findOrAdd_166
                unfold g_Kinds_findOrAdd_167
                have lpu87 : ∀ (n : Nat), ∀ (a_2u87 : Int32) (a_4u87 : Int32) (a_7u87 : Int32) (a_8u87 : Int32) (a_9u87 : Int32) (a_10u87 : Int32) (Zu87 : St), INV Zu87 → Fr YC Qv0 X Zu87 → (0 ≤ a_2u87.toInt ∧ a_2u87.toInt ≤ 4) → (0 ≤ a_4u87.toInt ∧ a_4u87.toInt + a_2u87.toInt ≤ 7745) → (0 ≤ a_7u87.toInt ∧ a_7u87.toInt ≤ 511) → (0 ≤ a_8u87.toInt ∧ a_8u87.toInt ≤ 1548) → (0 ≤ a_10u87.toInt ∧ a_10u87.toInt ≤ 5) → (5 - a_10u87.toInt).toNat < n → ok (g_Kinds_findOrAdd_172 n 3 a_2u87 6 a_4u87 a_7u87 a_8u87 a_9u87 a_10u87 Zu87) (fun r Y => (Fr YC Qv0 X Y ∧ INV Y)) := by
                  intro n
                  unfold g_Kinds_findOrAdd_172
                  refine lp_indN (P := fun (n : Nat) (r_u87 : Nat → Int32 → Nat → Int32 → Int32 → Int32 → Int32 → Int32 → St → Option (Int32 × St)) => ∀ (a_2u87 : Int32) (a_4u87 : Int32) (a_7u87 : Int32) (a_8u87 : Int32) (a_9u87 : Int32) (a_10u87 : Int32) (Zu87 : St), INV Zu87 → Fr YC Qv0 X Zu87 → (0 ≤ a_2u87.toInt ∧ a_2u87.toInt ≤ 4) → (0 ≤ a_4u87.toInt ∧ a_4u87.toInt + a_2u87.toInt ≤ 7745) → (0 ≤ a_7u87.toInt ∧ a_7u87.toInt ≤ 511) → (0 ≤ a_8u87.toInt ∧ a_8u87.toInt ≤ 1548) → (0 ≤ a_10u87.toInt ∧ a_10u87.toInt ≤ 5) → (5 - a_10u87.toInt).toNat < n → ok (r_u87 3 a_2u87 6 a_4u87 a_7u87 a_8u87 a_9u87 a_10u87 Zu87) (fun r Y => (Fr YC Qv0 X Y ∧ INV Y))) ?_ ?_ n
                  · intro a_2u87 a_4u87 a_7u87 a_8u87 a_9u87 a_10u87 Zu87 hIu87 hFu87 u87_0 u87_1 u87_2 u87_3 u87_4  hm; exact absurd hm (Nat.not_lt_zero _)
                  · intro n r_u87 ih_u87 a_2u87 a_4u87 a_7u87 a_8u87 a_9u87 a_10u87 Zu87 hIu87 hFu87 u87_0 u87_1 u87_2 u87_3 u87_4  hmu87
                    unfold g_Kinds_findOrAdd_172_s
                    refine ok.ite (fun c88 => ?_) (fun c88 => ?_)
                    · skip
                      refine ok.letE (v1 := 8) (by decide) ?_
                      refine ok.ck (show 0 ≤ a_8u87.toInt ∧ a_8u87.toInt < ((1549 : Nat) : Int) from by omega) ?_
                      refine ok.wI (L := [1600]) hIu87 (show True from trivial) (show (1600 : Nat) ∈ [1600] from by decide) (by decide) (fun Z89 hIZ89 hFZ89 hkZ89 hoZ89 => ?_)
                      refine ok.letE (v1 := 10) (by decide) ?_
                      refine ok.letE (v1 := 9) (by decide) ?_
                      refine ok.ck (show 0 ≤ a_7u87.toInt ∧ a_7u87.toInt < ((512 : Nat) : Int) from by omega) ?_
                      refine ok.letE (v1 := (Zu87.1 9 (ix a_7u87))) (hFZ89.1 9 (ix a_7u87) (show (1800 : Nat) ∉ [1600] from by decide)) ?_
                      have g90 : -1 ≤ (Zu87.1 9 (ix a_7u87)).toInt ∧ (Zu87.1 9 (ix a_7u87)).toInt ≤ 1548 := hIu87.1 9 (ix a_7u87)
                      refine ok.ck (show 0 ≤ a_8u87.toInt ∧ a_8u87.toInt < ((1549 : Nat) : Int) from by omega) ?_
                      refine ok.wI (L := [2000]) hIZ89 (show -1 ≤ (Zu87.1 9 (ix a_7u87)).toInt ∧ (Zu87.1 9 (ix a_7u87)).toInt ≤ 1548 from by omega) (show (2000 : Nat) ∈ [2000] from by decide) (by decide) (fun Z91 hIZ91 hFZ91 hkZ91 hoZ91 => ?_)
                      refine ok.letE (v1 := 9) (by decide) ?_
                      refine ok.ck (show 0 ≤ a_7u87.toInt ∧ a_7u87.toInt < ((512 : Nat) : Int) from by omega) ?_
                      refine ok.wI (L := [1800]) hIZ91 (show -1 ≤ a_8u87.toInt ∧ a_8u87.toInt ≤ 1548 from by omega) (show (1800 : Nat) ∈ [1800] from by decide) (by decide) (fun Z92 hIZ92 hFZ92 hkZ92 hoZ92 => ?_)
                      exact ok.ret ⟨((((Fr.rf.tr hFu87 (fun _ q => q)).tr hFZ89 (by decide)).tr hFZ91 (by decide)).tr hFZ92 (by decide)), hIZ92⟩
                    · skip
                      refine ok.letE (v1 := 6) (by decide) ?_
                      refine ok.mul (show _ ≤ a_8u87.toInt * (5 : Int) ∧ a_8u87.toInt * (5 : Int) ≤ _ from by omega) (fun x29 hx29 => ?_)
                      have hx29 : x29.toInt = a_8u87.toInt * (5 : Int) := hx29
                      refine ok.add (show _ ≤ x29.toInt + a_10u87.toInt ∧ x29.toInt + a_10u87.toInt ≤ _ from by omega) (fun x30 hx30 => ?_)
                      have hx30 : x30.toInt = x29.toInt + a_10u87.toInt := hx30
                      refine ok.add (show _ ≤ a_4u87.toInt + a_10u87.toInt ∧ a_4u87.toInt + a_10u87.toInt ≤ _ from by omega) (fun x31 hx31 => ?_)
                      have hx31 : x31.toInt = a_4u87.toInt + a_10u87.toInt := hx31
                      refine ok.ck (show 0 ≤ x31.toInt ∧ x31.toInt < ((7745 : Nat) : Int) from by omega) ?_
                      refine ok.letE (v1 := (Zu87.1 6 (ix x31))) rfl ?_
                      refine ok.ck (show 0 ≤ x30.toInt ∧ x30.toInt < ((7745 : Nat) : Int) from by omega) ?_
                      refine ok.wI (L := [1200]) hIu87 (show True from trivial) (show (1200 : Nat) ∈ [1200] from by decide) (by decide) (fun Z93 hIZ93 hFZ93 hkZ93 hoZ93 => ?_)
                      refine ok.ite (fun c94 => ?_) (fun c94 => ?_)
                      · skip
                        have g95 := i32_le a_9u87
                        refine ok.add (show _ ≤ a_4u87.toInt + a_10u87.toInt ∧ a_4u87.toInt + a_10u87.toInt ≤ _ from by omega) (fun x35 hx35 => ?_)
                        have hx35 : x35.toInt = a_4u87.toInt + a_10u87.toInt := hx35
                        refine ok.ck (show 0 ≤ x35.toInt ∧ x35.toInt < ((7745 : Nat) : Int) from by omega) ?_
                        refine ok.letE (v1 := (Z93.1 6 (ix x35))) rfl ?_
                        refine ok.bd (v_Kinds_hasAny_3 hIZ93) ?_
                        rintro x37 _ rfl
                        refine ok.ite (fun c97 => ?_) (fun c97 => ?_)
                        · skip
                          have g98 := i32_le x37
                          unfold g_Kinds_findOrAdd_221
                          refine ok.inc (by decide) (show _ ≤ a_10u87.toInt + (1) ∧ a_10u87.toInt + (1) ≤ _ from by omega) (fun x34 hx34 => ?_)
                          have hx34 : x34.toInt = a_10u87.toInt + (1) := hx34
                          exact ih_u87 a_2u87 a_4u87 a_7u87 a_8u87 (0 : Int32) x34 Z93 hIZ93 ((Fr.rf.tr hFu87 (fun _ q => q)).tr hFZ93 (by decide)) (show 0 ≤ a_2u87.toInt ∧ a_2u87.toInt ≤ 4 from by omega) (show 0 ≤ a_4u87.toInt ∧ a_4u87.toInt + a_2u87.toInt ≤ 7745 from by omega) (show 0 ≤ a_7u87.toInt ∧ a_7u87.toInt ≤ 511 from by omega) (show 0 ≤ a_8u87.toInt ∧ a_8u87.toInt ≤ 1548 from by omega) (show 0 ≤ x34.toInt ∧ x34.toInt ≤ 5 from by omega) (show (5 - x34.toInt).toNat < _ from by omega)
                        · skip
                          unfold g_Kinds_findOrAdd_216
                          unfold g_Kinds_findOrAdd_221
                          refine ok.inc (by decide) (show _ ≤ a_10u87.toInt + (1) ∧ a_10u87.toInt + (1) ≤ _ from by omega) (fun x34 hx34 => ?_)
                          have hx34 : x34.toInt = a_10u87.toInt + (1) := hx34
                          exact ih_u87 a_2u87 a_4u87 a_7u87 a_8u87 (1 : Int32) x34 Z93 hIZ93 ((Fr.rf.tr hFu87 (fun _ q => q)).tr hFZ93 (by decide)) (show 0 ≤ a_2u87.toInt ∧ a_2u87.toInt ≤ 4 from by omega) (show 0 ≤ a_4u87.toInt ∧ a_4u87.toInt + a_2u87.toInt ≤ 7745 from by omega) (show 0 ≤ a_7u87.toInt ∧ a_7u87.toInt ≤ 511 from by omega) (show 0 ≤ a_8u87.toInt ∧ a_8u87.toInt ≤ 1548 from by omega) (show 0 ≤ x34.toInt ∧ x34.toInt ≤ 5 from by omega) (show (5 - x34.toInt).toNat < _ from by omega)
                      · skip
                        unfold g_Kinds_findOrAdd_216
                        unfold g_Kinds_findOrAdd_221
                        refine ok.inc (by decide) (show _ ≤ a_10u87.toInt + (1) ∧ a_10u87.toInt + (1) ≤ _ from by omega) (fun x34 hx34 => ?_)
                        have hx34 : x34.toInt = a_10u87.toInt + (1) := hx34
                        exact ih_u87 a_2u87 a_4u87 a_7u87 a_8u87 (1 : Int32) x34 Z93 hIZ93 ((Fr.rf.tr hFu87 (fun _ q => q)).tr hFZ93 (by decide)) (show 0 ≤ a_2u87.toInt ∧ a_2u87.toInt ≤ 4 from by omega) (show 0 ≤ a_4u87.toInt ∧ a_4u87.toInt + a_2u87.toInt ≤ 7745 from by omega) (show 0 ≤ a_7u87.toInt ∧ a_7u87.toInt ≤ 511 from by omega) (show 0 ≤ a_8u87.toInt ∧ a_8u87.toInt ≤ 1548 from by omega) (show 0 ≤ x34.toInt ∧ x34.toInt ≤ 5 from by omega) (show (5 - x34.toInt).toNat < _ from by omega)
                exact lpu87 BIG a_2u3 a_4u3 a_7u3 (Zu3.1 3 0) (0 : Int32) (0 : Int32) Z72 hIZ72 ((((((Fr.rf.tr hFu3 (fun _ q => q)).tr hFZ68 (by decide)).tr hFZ69 (by decide)).tr hFZ70 (by decide)).tr hFZ71 (by decide)).tr hFZ72 (by decide)) (show 0 ≤ a_2u3.toInt ∧ a_2u3.toInt ≤ 4 from by omega) (show 0 ≤ a_4u3.toInt ∧ a_4u3.toInt + a_2u3.toInt ≤ 7745 from by omega) (show 0 ≤ a_7u3.toInt ∧ a_7u3.toInt ≤ 511 from by omega) (show 0 ≤ (Zu3.1 3 0).toInt ∧ (Zu3.1 3 0).toInt ≤ 1548 from by omega) (show 0 ≤ (0 : Int) ∧ (0 : Int) ≤ 5 from by omega) (show (5 - (0 : Int)).toNat < BIG from ltBIG (show _ < 100000 from by omega))
              · skip
                refine ok.bd (v_Kinds_hasAny_3 hIZ72) ?_
                rintro x39 _ rfl
                refine ok.ite (fun c100 => ?_) (fun c100 => ?_)
                · skip
                  have g101 := i32_le x39
                  unfold g_Kinds_findOrAdd_166
                  unfold g_Kinds_findOrAdd_167
                  have lpu102 : ∀ (n : Nat), ∀ (a_2u102 : Int32) (a_4u102 : Int32) (a_7u102 : Int32) (a_8u102 : Int32) (a_9u102 : Int32) (a_10u102 : Int32) (Zu102 : St), INV Zu102 → Fr YC Qv0 X Zu102 → (0 ≤ a_2u102.toInt ∧ a_2u102.toInt ≤ 4) → (0 ≤ a_4u102.toInt ∧ a_4u102.toInt + a_2u102.toInt ≤ 7745) → (0 ≤ a_7u102.toInt ∧ a_7u102.toInt ≤ 511) → (0 ≤ a_8u102.toInt ∧ a_8u102.toInt ≤ 1548) → (0 ≤ a_10u102.toInt ∧ a_10u102.toInt ≤ 5) → (5 - a_10u102.toInt).toNat < n → ok (g_Kinds_findOrAdd_172 n 3 a_2u102 6 a_4u102 a_7u102 a_8u102 a_9u102 a_10u102 Zu102) (fun r Y => (Fr YC Qv0 X Y ∧ INV Y)) := by
                    intro n
                    unfold g_Kinds_findOrAdd_172
                    refine lp_indN (P := fun (n : Nat) (r_u102 : Nat → Int32 → Nat → Int32 → Int32 → Int32 → Int32 → Int32 → St → Option (Int32 × St)) => ∀ (a_2u102 : Int32) (a_4u102 : Int32) (a_7u102 : Int32) (a_8u102 : Int32) (a_9u102 : Int32) (a_10u102 : Int32) (Zu102 : St), INV Zu102 → Fr YC Qv0 X Zu102 → (0 ≤ a_2u102.toInt ∧ a_2u102.toInt ≤ 4) → (0 ≤ a_4u102.toInt ∧ a_4u102.toInt + a_2u102.toInt ≤ 7745) → (0 ≤ a_7u102.toInt ∧ a_7u102.toInt ≤ 511) → (0 ≤ a_8u102.toInt ∧ a_8u102.toInt ≤ 1548) → (0 ≤ a_10u102.toInt ∧ a_10u102.toInt ≤ 5) → (5 - a_10u102.toInt).toNat < n → ok (r_u102 3 a_2u102 6 a_4u102 a_7u102 a_8u102 a_9u102 a_10u102 Zu102) (fun r Y => (Fr YC Qv0 X Y ∧ INV Y))) ?_ ?_ n
                    · intro a_2u102 a_4u102 a_7u102 a_8u102 a_9u102 a_10u102 Zu102 hIu102 hFu102 u102_0 u102_1 u102_2 u102_3 u102_4  hm; exact absurd hm (Nat.not_lt_zero _)
                    · intro n r_u102 ih_u102 a_2u102 a_4u102 a_7u102 a_8u102 a_9u102 a_10u102 Zu102 hIu102 hFu102 u102_0 u102_1 u102_2 u102_3 u102_4  hmu102
                      unfold g_Kinds_findOrAdd_172_s
                      refine ok.ite (fun c103 => ?_) (fun c103 => ?_)
                      · skip
                        refine ok.letE (v1 := 8) (by decide) ?_
                        refine ok.ck (show 0 ≤ a_8u102.toInt ∧ a_8u102.toInt < ((1549 : Nat) : Int) from by omega) ?_
                        refine ok.wI (L := [1600]) hIu102 (show True from trivial) (show (1600 : Nat) ∈ [1600] from by decide) (by decide) (fun Z104 hIZ104 hFZ104 hkZ104 hoZ104 => ?_)
                        refine ok.letE (v1 := 10) (by decide) ?_
                        refine ok.letE (v1 := 9) (by decide) ?_
                        refine ok.ck (show 0 ≤ a_7u102.toInt ∧ a_7u102.toInt < ((512 : Nat) : Int) from by omega) ?_
                        refine ok.letE (v1 := (Zu102.1 9 (ix a_7u102))) (hFZ104.1 9 (ix a_7u102) (show (1800 : Nat) ∉ [1600] from by decide)) ?_
                        have g105 : -1 ≤ (Zu102.1 9 (ix a_7u102)).toInt ∧ (Zu102.1 9 (ix a_7u102)).toInt ≤ 1548 := hIu102.1 9 (ix a_7u102)
                        refine ok.ck (show 0 ≤ a_8u102.toInt ∧ a_8u102.toInt < ((1549 : Nat) : Int) from by omega) ?_
                        refine ok.wI (L := [2000]) hIZ104 (show -1 ≤ (Zu102.1 9 (ix a_7u102)).toInt ∧ (Zu102.1 9 (ix a_7u102)).toInt ≤ 1548 from by omega) (show (2000 : Nat) ∈ [2000] from by decide) (by decide) (fun Z106 hIZ106 hFZ106 hkZ106 hoZ106 => ?_)
                        refine ok.letE (v1 := 9) (by decide) ?_
                        refine ok.ck (show 0 ≤ a_7u102.toInt ∧ a_7u102.toInt < ((512 : Nat) : Int) from by omega) ?_
                        refine ok.wI (L := [1800]) hIZ106 (show -1 ≤ a_8u102.toInt ∧ a_8u102.toInt ≤ 1548 from by omega) (show (1800 : Nat) ∈ [1800] from by decide) (by decide) (fun Z107 hIZ107 hFZ107 hkZ107 hoZ107 => ?_)
                        exact ok.ret ⟨((((Fr.rf.tr hFu102 (fun _ q => q)).tr hFZ104 (by decide)).tr hFZ106 (by decide)).tr hFZ107 (by decide)), hIZ107⟩
                      · skip
                        refine ok.letE (v1 := 6) (by decide) ?_
                        refine ok.mul (show _ ≤ a_8u102.toInt * (5 : Int) ∧ a_8u102.toInt * (5 : Int) ≤ _ from by omega) (fun x29 hx29 => ?_)
                        have hx29 : x29.toInt = a_8u102.toInt * (5 : Int) := hx29
                        refine ok.add (show _ ≤ x29.toInt + a_10u102.toInt ∧ x29.toInt + a_10u102.toInt ≤ _ from by omega) (fun x30 hx30 => ?_)
                        have hx30 : x30.toInt = x29.toInt + a_10u102.toInt := hx30
                        refine ok.add (show _ ≤ a_4u102.toInt + a_10u102.toInt ∧ a_4u102.toInt + a_10u102.toInt ≤ _ from by omega) (fun x31 hx31 => ?_)
                        have hx31 : x31.toInt = a_4u102.toInt + a_10u102.toInt := hx31
                        refine ok.ck (show 0 ≤ x31.toInt ∧ x31.toInt < ((7745 : Nat) : Int) from by omega) ?_
                        refine ok.letE (v1 := (Zu102.1 6 (ix x31))) rfl ?_
                        refine ok.ck (show 0 ≤ x30.toInt ∧ x30.toInt < ((7745 : Nat) : Int) from by omega) ?_
                        refine ok.wI (L := [1200]) hIu102 (show True from trivial) (show (1200 : Nat) ∈ [1200] from by decide) (by decide) (fun Z108 hIZ108 hFZ108 hkZ108 hoZ108 => ?_)
                        refine ok.ite (fun c109 => ?_) (fun c109 => ?_)
                        · skip
                          have g110 := i32_le a_9u102
                          refine ok.add (show _ ≤ a_4u102.toInt + a_10u102.toInt ∧ a_4u102.toInt + a_10u102.toInt ≤ _ from by omega) (fun x35 hx35 => ?_)
                          have hx35 : x35.toInt = a_4u102.toInt + a_10u102.toInt := hx35
                          refine ok.ck (show 0 ≤ x35.toInt ∧ x35.toInt < ((7745 : Nat) : Int) from by omega) ?_
                          refine ok.letE (v1 := (Z108.1 6 (ix x35))) rfl ?_
                          refine ok.bd (v_Kinds_hasAny_3 hIZ108) ?_
                          rintro x37 _ rfl
                          refine ok.ite (fun c112 => ?_) (fun c112 => ?_)
                          · skip
                            have g113 := i32_le x37
                            unfold g_Kinds_findOrAdd_221
                            refine ok.inc (by decide) (show _ ≤ a_10u102.toInt + (1) ∧ a_10u102.toInt + (1) ≤ _ from by omega) (fun x34 hx34 => ?_)
                            have hx34 : x34.toInt = a_10u102.toInt + (1) := hx34
                            exact ih_u102 a_2u102 a_4u102 a_7u102 a_8u102 (0 : Int32) x34 Z108 hIZ108 ((Fr.rf.tr hFu102 (fun _ q => q)).tr hFZ108 (by decide)) (show 0 ≤ a_2u102.toInt ∧ a_2u102.toInt ≤ 4 from by omega) (show 0 ≤ a_4u102.toInt ∧ a_4u102.toInt + a_2u102.toInt ≤ 7745 from by omega) (show 0 ≤ a_7u102.toInt ∧ a_7u102.toInt ≤ 511 from by omega) (show 0 ≤ a_8u102.toInt ∧ a_8u102.toInt ≤ 1548 from by omega) (show 0 ≤ x34.toInt ∧ x34.toInt ≤ 5 from by omega) (show (5 - x34.toInt).toNat < _ from by omega)
                          · skip
                            unfold g_Kinds_findOrAdd_216
                            unfold g_Kinds_findOrAdd_221
                            refine ok.inc (by decide) (show _ ≤ a_10u102.toInt + (1) ∧ a_10u102.toInt + (1) ≤ _ from by omega) (fun x34 hx34 => ?_)
                            have hx34 : x34.toInt = a_10u102.toInt + (1) := hx34
                            exact ih_u102 a_2u102 a_4u102 a_7u102 a_8u102 (1 : Int32) x34 Z108 hIZ108 ((Fr.rf.tr hFu102 (fun _ q => q)).tr hFZ108 (by decide)) (show 0 ≤ a_2u102.toInt ∧ a_2u102.toInt ≤ 4 from by omega) (show 0 ≤ a_4u102.toInt ∧ a_4u102.toInt + a_2u102.toInt ≤ 7745 from by omega) (show 0 ≤ a_7u102.toInt ∧ a_7u102.toInt ≤ 511 from by omega) (show 0 ≤ a_8u102.toInt ∧ a_8u102.toInt ≤ 1548 from by omega) (show 0 ≤ x34.toInt ∧ x34.toInt ≤ 5 from by omega) (show (5 - x34.toInt).toNat < _ from by omega)
                        · skip
                          unfold g_Kinds_findOrAdd_216
                          unfold g_Kinds_findOrAdd_221
                          refine ok.inc (by decide) (show _ ≤ a_10u102.toInt + (1) ∧ a_10u102.toInt + (1) ≤ _ from by omega) (fun x34 hx34 => ?_)
                          have hx34 : x34.toInt = a_10u102.toInt + (1) := hx34
                          exact ih_u102 a_2u102 a_4u102 a_7u102 a_8u102 (1 : Int32) x34 Z108 hIZ108 ((Fr.rf.tr hFu102 (fun _ q => q)).tr hFZ108 (by decide)) (show 0 ≤ a_2u102.toInt ∧ a_2u102.toInt ≤ 4 from by omega) (show 0 ≤ a_4u102.toInt ∧ a_4u102.toInt + a_2u102.toInt ≤ 7745 from by omega) (show 0 ≤ a_7u102.toInt ∧ a_7u102.toInt ≤ 511 from by omega) (show 0 ≤ a_8u102.toInt ∧ a_8u102.toInt ≤ 1548 from by omega) (show 0 ≤ x34.toInt ∧ x34.toInt ≤ 5 from by omega) (show (5 - x34.toInt).toNat < _ from by omega)
                  exact lpu102 BIG a_2u3 a_4u3 a_7u3 (Zu3.1 3 0) (0 : Int32) (0 : Int32) Z72 hIZ72 ((((((Fr.rf.tr hFu3 (fun _ q => q)).tr hFZ68 (by decide)).tr hFZ69 (by decide)).tr hFZ70 (by decide)).tr hFZ71 (by decide)).tr hFZ72 (by decide)) (show 0 ≤ a_2u3.toInt ∧ a_2u3.toInt ≤ 4 from by omega) (show 0 ≤ a_4u3.toInt ∧ a_4u3.toInt + a_2u3.toInt ≤ 7745 from by omega) (show 0 ≤ a_7u3.toInt ∧ a_7u3.toInt ≤ 511 from by omega) (show 0 ≤ (Zu3.1 3 0).toInt ∧ (Zu3.1 3 0).toInt ≤ 1548 from by omega) (show 0 ≤ (0 : Int) ∧ (0 : Int) ≤ 5 from by omega) (show (5 - (0 : Int)).toNat < BIG from ltBIG (show _ < 100000 from by omega))
                · skip
                  unfold g_Kinds_findOrAdd_162
                  unfold g_Kinds_findOrAdd_167
                  have lpu114 : ∀ (n : Nat), ∀ (a_2u114 : Int32) (a_4u114 : Int32) (a_7u114 : Int32) (a_8u114 : Int32) (a_9u114 : Int32) (a_10u114 : Int32) (Zu114 : St), INV Zu114 → Fr YC Qv0 X Zu114 → (0 ≤ a_2u114.toInt ∧ a_2u114.toInt ≤ 4) → (0 ≤ a_4u114.toInt ∧ a_4u114.toInt + a_2u114.toInt ≤ 7745) → (0 ≤ a_7u114.toInt ∧ a_7u114.toInt ≤ 511) → (0 ≤ a_8u114.toInt ∧ a_8u114.toInt ≤ 1548) → (0 ≤ a_10u114.toInt ∧ a_10u114.toInt ≤ 5) → (5 - a_10u114.toInt).toNat < n → ok (g_Kinds_findOrAdd_172 n 3 a_2u114 6 a_4u114 a_7u114 a_8u114 a_9u114 a_10u114 Zu114) (fun r Y => (Fr YC Qv0 X Y ∧ INV Y)) := by
                    intro n
                    unfold g_Kinds_findOrAdd_172
                    refine lp_indN (P := fun (n : Nat) (r_u114 : Nat → Int32 → Nat → Int32 → Int32 → Int32 → Int32 → Int32 → St → Option (Int32 × St)) => ∀ (a_2u114 : Int32) (a_4u114 : Int32) (a_7u114 : Int32) (a_8u114 : Int32) (a_9u114 : Int32) (a_10u114 : Int32) (Zu114 : St), INV Zu114 → Fr YC Qv0 X Zu114 → (0 ≤ a_2u114.toInt ∧ a_2u114.toInt ≤ 4) → (0 ≤ a_4u114.toInt ∧ a_4u114.toInt + a_2u114.toInt ≤ 7745) → (0 ≤ a_7u114.toInt ∧ a_7u114.toInt ≤ 511) → (0 ≤ a_8u114.toInt ∧ a_8u114.toInt ≤ 1548) → (0 ≤ a_10u114.toInt ∧ a_10u114.toInt ≤ 5) → (5 - a_10u114.toInt).toNat < n → ok (r_u114 3 a_2u114 6 a_4u114 a_7u114 a_8u114 a_9u114 a_10u114 Zu114) (fun r Y => (Fr YC Qv0 X Y ∧ INV Y))) ?_ ?_ n
                    · intro a_2u114 a_4u114 a_7u114 a_8u114 a_9u114 a_10u114 Zu114 hIu114 hFu114 u114_0 u114_1 u114_2 u114_3 u114_4  hm; exact absurd hm (Nat.not_lt_zero _)
                    · intro n r_u114 ih_u114 a_2u114 a_4u114 a_7u114 a_8u114 a_9u114 a_10u114 Zu114 hIu114 hFu114 u114_0 u114_1 u114_2 u114_3 u114_4  hmu114
                      unfold g_Kinds_findOrAdd_172_s
                      refine ok.ite (fun c115 => ?_) (fun c115 => ?_)
                      · skip
                        refine ok.letE (v1 := 8) (by decide) ?_
                        refine ok.ck (show 0 ≤ a_8u114.toInt ∧ a_8u114.toInt < ((1549 : Nat) : Int) from by omega) ?_
                        refine ok.wI (L := [1600]) hIu114 (show True from trivial) (show (1600 : Nat) ∈ [1600] from by decide) (by decide) (fun Z116 hIZ116 hFZ116 hkZ116 hoZ116 => ?_)
                        refine ok.letE (v1 := 10) (by decide) ?_
                        refine ok.letE (v1 := 9) (by decide) ?_
                        refine ok.ck (show 0 ≤ a_7u114.toInt ∧ a_7u114.toInt < ((512 : Nat) : Int) from by omega) ?_
                        refine ok.letE (v1 := (Zu114.1 9 (ix a_7u114))) (hFZ116.1 9 (ix a_7u114) (show (1800 : Nat) ∉ [1600] from by decide)) ?_
                        have g117 : -1 ≤ (Zu114.1 9 (ix a_7u114)).toInt ∧ (Zu114.1 9 (ix a_7u114)).toInt ≤ 1548 := hIu114.1 9 (ix a_7u114)
                        refine ok.ck (show 0 ≤ a_8u114.toInt ∧ a_8u114.toInt < ((1549 : Nat) : Int) from by omega) ?_
                        refine ok.wI (L := [2000]) hIZ116 (show -1 ≤ (Zu114.1 9 (ix a_7u114)).toInt ∧ (Zu114.1 9 (ix a_7u114)).toInt ≤ 1548 from by omega) (show (2000 : Nat) ∈ [2000] from by decide) (by decide) (fun Z118 hIZ118 hFZ118 hkZ118 hoZ118 => ?_)
                        refine ok.letE (v1 := 9) (by decide) ?_
                        refine ok.ck (show 0 ≤ a_7u114.toInt ∧ a_7u114.toInt < ((512 : Nat) : Int) from by omega) ?_
                        refine ok.wI (L := [1800]) hIZ118 (show -1 ≤ a_8u114.toInt ∧ a_8u114.toInt ≤ 1548 from by omega) (show (1800 : Nat) ∈ [1800] from by decide) (by decide) (fun Z119 hIZ119 hFZ119 hkZ119 hoZ119 => ?_)
                        exact ok.ret ⟨((((Fr.rf.tr hFu114 (fun _ q => q)).tr hFZ116 (by decide)).tr hFZ118 (by decide)).tr hFZ119 (by decide)), hIZ119⟩
                      · skip
                        refine ok.letE (v1 := 6) (by decide) ?_
                        refine ok.mul (show _ ≤ a_8u114.toInt * (5 : Int) ∧ a_8u114.toInt * (5 : Int) ≤ _ from by omega) (fun x29 hx29 => ?_)
                        have hx29 : x29.toInt = a_8u114.toInt * (5 : Int) := hx29
                        refine ok.add (show _ ≤ x29.toInt + a_10u114.toInt ∧ x29.toInt + a_10u114.toInt ≤ _ from by omega) (fun x30 hx30 => ?_)
                        have hx30 : x30.toInt = x29.toInt + a_10u114.toInt := hx30
                        refine ok.add (show _ ≤ a_4u114.toInt + a_10u114.toInt ∧ a_4u114.toInt + a_10u114.toInt ≤ _ from by omega) (fun x31 hx31 => ?_)
                        have hx31 : x31.toInt = a_4u114.toInt + a_10u114.toInt := hx31
                        refine ok.ck (show 0 ≤ x31.toInt ∧ x31.toInt < ((7745 : Nat) : Int) from by omega) ?_
                        refine ok.letE (v1 := (Zu114.1 6 (ix x31))) rfl ?_
                        refine ok.ck (show 0 ≤ x30.toInt ∧ x30.toInt < ((7745 : Nat) : Int) from by omega) ?_
                        refine ok.wI (L := [1200]) hIu114 (show True from trivial) (show (1200 : Nat) ∈ [1200] from by decide) (by decide) (fun Z120 hIZ120 hFZ120 hkZ120 hoZ120 => ?_)
                        refine ok.ite (fun c121 => ?_) (fun c121 => ?_)
                        · skip
                          have g122 := i32_le a_9u114
                          refine ok.add (show _ ≤ a_4u114.toInt + a_10u114.toInt ∧ a_4u114.toInt + a_10u114.toInt ≤ _ from by omega) (fun x35 hx35 => ?_)
                          have hx35 : x35.toInt = a_4u114.toInt + a_10u114.toInt := hx35
                          refine ok.ck (show 0 ≤ x35.toInt ∧ x35.toInt < ((7745 : Nat) : Int) from by omega) ?_
                          refine ok.letE (v1 := (Z120.1 6 (ix x35))) rfl ?_
                          refine ok.bd (v_Kinds_hasAny_3 hIZ120) ?_
                          rintro x37 _ rfl
                          refine ok.ite (fun c124 => ?_) (fun c124 => ?_)
                          · skip
                            have g125 := i32_le x37
                            unfold g_Kinds_findOrAdd_221
                            refine ok.inc (by decide) (show _ ≤ a_10u114.toInt + (1) ∧ a_10u114.toInt + (1) ≤ _ from by omega) (fun x34 hx34 => ?_)
                            have hx34 : x34.toInt = a_10u114.toInt + (1) := hx34
                            exact ih_u114 a_2u114 a_4u114 a_7u114 a_8u114 (0 : Int32) x34 Z120 hIZ120 ((Fr.rf.tr hFu114 (fun _ q => q)).tr hFZ120 (by decide)) (show 0 ≤ a_2u114.toInt ∧ a_2u114.toInt ≤ 4 from by omega) (show 0 ≤ a_4u114.toInt ∧ a_4u114.toInt + a_2u114.toInt ≤ 7745 from by omega) (show 0 ≤ a_7u114.toInt ∧ a_7u114.toInt ≤ 511 from by omega) (show 0 ≤ a_8u114.toInt ∧ a_8u114.toInt ≤ 1548 from by omega) (show 0 ≤ x34.toInt ∧ x34.toInt ≤ 5 from by omega) (show (5 - x34.toInt).toNat < _ from by omega)
                          · skip
                            unfold g_Kinds_findOrAdd_216
                            unfold g_Kinds_findOrAdd_221
                            refine ok.inc (by decide) (show _ ≤ a_10u114.toInt + (1) ∧ a_10u114.toInt + (1) ≤ _ from by omega) (fun x34 hx34 => ?_)
                            have hx34 : x34.toInt = a_10u114.toInt + (1) := hx34
                            exact ih_u114 a_2u114 a_4u114 a_7u114 a_8u114 (1 : Int32) x34 Z120 hIZ120 ((Fr.rf.tr hFu114 (fun _ q => q)).tr hFZ120 (by decide)) (show 0 ≤ a_2u114.toInt ∧ a_2u114.toInt ≤ 4 from by omega) (show 0 ≤ a_4u114.toInt ∧ a_4u114.toInt + a_2u114.toInt ≤ 7745 from by omega) (show 0 ≤ a_7u114.toInt ∧ a_7u114.toInt ≤ 511 from by omega) (show 0 ≤ a_8u114.toInt ∧ a_8u114.toInt ≤ 1548 from by omega) (show 0 ≤ x34.toInt ∧ x34.toInt ≤ 5 from by omega) (show (5 - x34.toInt).toNat < _ from by omega)
                        · skip
                          unfold g_Kinds_findOrAdd_216
                          unfold g_Kinds_findOrAdd_221
                          refine ok.inc (by decide) (show _ ≤ a_10u114.toInt + (1) ∧ a_10u114.toInt + (1) ≤ _ from by omega) (fun x34 hx34 => ?_)
                          have hx34 : x34.toInt = a_10u114.toInt + (1) := hx34
                          exact ih_u114 a_2u114 a_4u114 a_7u114 a_8u114 (1 : Int32) x34 Z120 hIZ120 ((Fr.rf.tr hFu114 (fun _ q => q)).tr hFZ120 (by decide)) (show 0 ≤ a_2u114.toInt ∧ a_2u114.toInt ≤ 4 from by omega) (show 0 ≤ a_4u114.toInt ∧ a_4u114.toInt + a_2u114.toInt ≤ 7745 from by omega) (show 0 ≤ a_7u114.toInt ∧ a_7u114.toInt ≤ 511 from by omega) (show 0 ≤ a_8u114.toInt ∧ a_8u114.toInt ≤ 1548 from by omega) (show 0 ≤ x34.toInt ∧ x34.toInt ≤ 5 from by omega) (show (5 - x34.toInt).toNat < _ from by omega)
                  exact lpu114 BIG a_2u3 a_4u3 a_7u3 (Zu3.1 3 0) (1 : Int32) (0 : Int32) Z72 hIZ72 ((((((Fr.rf.tr hFu3 (fun _ q => q)).tr hFZ68 (by decide)).tr hFZ69 (by decide)).tr hFZ70 (by decide)).tr hFZ71 (by decide)).tr hFZ72 (by decide)) (show 0 ≤ a_2u3.toInt ∧ a_2u3.toInt ≤ 4 from by omega) (show 0 ≤ a_4u3.toInt ∧ a_4u3.toInt + a_2u3.toInt ≤ 7745 from by omega) (show 0 ≤ a_7u3.toInt ∧ a_7u3.toInt ≤ 511 from by omega) (show 0 ≤ (Zu3.1 3 0).toInt ∧ (Zu3.1 3 0).toInt ≤ 1548 from by omega) (show 0 ≤ (0 : Int) ∧ (0 : Int) ≤ 5 from by omega) (show (5 - (0 : Int)).toNat < BIG from ltBIG (show _ < 100000 from by omega))
          · skip
            exact ok.ret ⟨(Fr.rf.tr hFu3 (fun _ q => q)), hIu3⟩
        · skip
          refine ok.letE (v1 := 4) (by decide) ?_
          refine ok.ck (show 0 ≤ a_8u3.toInt ∧ a_8u3.toInt < ((1549 : Nat) : Int) from by omega) ?_
          refine ok.letE (v1 := (Zu3.1 4 (ix a_8u3))) rfl ?_
          refine ok.ite (fun c126 => ?_) (fun c126 => ?_)
          · skip
            have g127 := i32_le (Zu3.1 4 (ix a_8u3))
            refine ok.bd (v_Kinds_isSame_3_6 hIu3 (show 0 ≤ a_8u3.toInt ∧ a_8u3.toInt ≤ 1548 from by omega) (show 0 ≤ a_2u3.toInt ∧ a_2u3.toInt ≤ 4 from by omega) (show 0 ≤ a_4u3.toInt ∧ a_4u3.toInt + a_2u3.toInt ≤ 7745 from by omega)) ?_
            rintro x46 _ rfl
            refine ok.ite (fun c129 => ?_) (fun c129 => ?_)
            · skip
              have g130 := i32_le x46
              unfold g_Kinds_findOrAdd_62
              refine ok.letE (v1 := 10) (by decide) ?_
              refine ok.ck (show 0 ≤ a_8u3.toInt ∧ a_8u3.toInt < ((1549 : Nat) : Int) from by omega) ?_
              refine ok.letE (v1 := (Zu3.1 10 (ix a_8u3))) rfl ?_
              have g131 : -1 ≤ (Zu3.1 10 (ix a_8u3)).toInt ∧ (Zu3.1 10 (ix a_8u3)).toInt ≤ 1548 := hIu3.1 10 (ix a_8u3)
              refine ok.inc (by decide) (show _ ≤ a_9u3.toInt + (1) ∧ a_9u3.toInt + (1) ≤ _ from by omega) (fun x45 hx45 => ?_)
              have hx45 : x45.toInt = a_9u3.toInt + (1) := hx45
              exact ih_u3 a_1u3 a_2u3 a_4u3 a_5u3 a_6u3 a_7u3 (Zu3.1 10 (ix a_8u3)) x45 Zu3 hIu3 (Fr.rf.tr hFu3 (fun _ q => q)) (show 0 ≤ a_1u3.toInt ∧ a_1u3.toInt ≤ 4 from by omega) (show 0 ≤ a_2u3.toInt ∧ a_2u3.toInt ≤ 4 from by omega) (show 0 ≤ a_4u3.toInt ∧ a_4u3.toInt + a_2u3.toInt ≤ 7745 from by omega) (show 0 ≤ a_7u3.toInt ∧ a_7u3.toInt ≤ 511 from by omega) (show -1 ≤ (Zu3.1 10 (ix a_8u3)).toInt ∧ (Zu3.1 10 (ix a_8u3)).toInt ≤ 1548 from by omega) (show 0 ≤ x45.toInt ∧ x45.toInt ≤ 1549 from by omega) (show (1550 - x45.toInt).toNat < _ from by omega)
            · skip
              exact ok.ret ⟨(Fr.rf.tr hFu3 (fun _ q => q)), hIu3⟩
          · skip
            unfold g_Kinds_findOrAdd_62
            refine ok.letE (v1 := 10) (by decide) ?_
            refine ok.ck (show 0 ≤ a_8u3.toInt ∧ a_8u3.toInt < ((1549 : Nat) : Int) from by omega) ?_
            refine ok.letE (v1 := (Zu3.1 10 (ix a_8u3))) rfl ?_
            have g132 : -1 ≤ (Zu3.1 10 (ix a_8u3)).toInt ∧ (Zu3.1 10 (ix a_8u3)).toInt ≤ 1548 := hIu3.1 10 (ix a_8u3)
            refine ok.inc (by decide) (show _ ≤ a_9u3.toInt + (1) ∧ a_9u3.toInt + (1) ≤ _ from by omega) (fun x45 hx45 => ?_)
            have hx45 : x45.toInt = a_9u3.toInt + (1) := hx45
            exact ih_u3 a_1u3 a_2u3 a_4u3 a_5u3 a_6u3 a_7u3 (Zu3.1 10 (ix a_8u3)) x45 Zu3 hIu3 (Fr.rf.tr hFu3 (fun _ q => q)) (show 0 ≤ a_1u3.toInt ∧ a_1u3.toInt ≤ 4 from by omega) (show 0 ≤ a_2u3.toInt ∧ a_2u3.toInt ≤ 4 from by omega) (show 0 ≤ a_4u3.toInt ∧ a_4u3.toInt + a_2u3.toInt ≤ 7745 from by omega) (show 0 ≤ a_7u3.toInt ∧ a_7u3.toInt ≤ 511 from by omega) (show -1 ≤ (Zu3.1 10 (ix a_8u3)).toInt ∧ (Zu3.1 10 (ix a_8u3)).toInt ≤ 1548 from by omega) (show 0 ≤ x45.toInt ∧ x45.toInt ≤ 1549 from by omega) (show (1550 - x45.toInt).toNat < _ from by omega)
  exact lpu3 BIG p1 p2 p4 p5 p6 x1 (X.1 9 (ix x1)) (0 : Int32) X hI (Fr.rf : Fr YC Qv0 _ _) (show 0 ≤ p1.toInt ∧ p1.toInt ≤ 4 from by omega) (show 0 ≤ p2.toInt ∧ p2.toInt ≤ 4 from by omega) (show 0 ≤ p4.toInt ∧ p4.toInt + p2.toInt ≤ 7745 from by omega) (show 0 ≤ x1.toInt ∧ x1.toInt ≤ 511 from by omega) (show -1 ≤ (X.1 9 (ix x1)).toInt ∧ (X.1 9 (ix x1)).toInt ≤ 1548 from by omega) (show 0 ≤ (0 : Int) ∧ (0 : Int) ≤ 1549 from by omega) (show (1550 - (0 : Int)).toNat < BIG from ltBIG (show _ < 100000 from by omega))
set_option maxHeartbeats 4000000 in
theorem v_Kinds_rowOf_3 {p1 : Int32} {X : St} (hI : INV X) : ok (g_Kinds_rowOf 3 p1 X) (fun r Y => (Fr YC Qv0 X Y ∧ INV Y)) := by
  unfold g_Kinds_rowOf
  refine ok.bd (v_Kinds_codeOf_3 hI) ?_
  rintro x1 _ rfl
  refine ok.any (fun x3 => ?_)
  refine ok.any (fun x4 => ?_)
  refine ok.letE (v1 := 6) (by decide) ?_
  refine ok.bd (v_Kinds_findOrAdd_3_6 hI (show 0 ≤ (3 : Int) ∧ (3 : Int) ≤ 4 from by omega) (show 0 ≤ (0 : Int) ∧ (0 : Int) ≤ 4 from by omega) (show 0 ≤ (0 : Int) ∧ (0 : Int) + (0 : Int) ≤ 7745 from by omega)) ?_
  rintro x6 Z3 ⟨hFZ3, hIZ3⟩
  exact ok.ret ⟨(Fr.rf.tr hFZ3 (fun _ q => q)), hIZ3⟩
theorem n10800_Qv0 : (10800 : Nat) ∉ Qv0 := by decide
set_option maxHeartbeats 4000000 in
theorem v_Kinds_isSame_3_54 {p1 : Int32} {p2 : Int32} {p4 : Int32} {p5 : Int32} {X : St} (hI : INV X) (h0 : 0 ≤ p1.toInt ∧ p1.toInt ≤ 1548) (h1 : 0 ≤ p2.toInt ∧ p2.toInt ≤ 4) (h2 : 0 ≤ p4.toInt ∧ p4.toInt + p2.toInt ≤ 164) : ok (g_Kinds_isSame 3 p1 p2 54 p4 p5 X) (fun r Y => (X = Y)) := by
  unfold g_Kinds_isSame
  refine ok.letE (v1 := 5) (by decide) ?_
  refine ok.ck (show 0 ≤ p1.toInt ∧ p1.toInt < ((1549 : Nat) : Int) from by omega) ?_
  refine ok.letE (v1 := (X.1 5 (ix p1))) rfl ?_
  have g1 : 0 ≤ (X.1 5 (ix p1)).toInt ∧ (X.1 5 (ix p1)).toInt ≤ 4 := hI.1 5 (ix p1)
  refine ok.ite (fun c2 => ?_) (fun c2 => ?_)
  · skip
    refine ok.letE (v1 := 6) (by decide) ?_
    refine ok.mul (show _ ≤ p1.toInt * (5 : Int) ∧ p1.toInt * (5 : Int) ≤ _ from by omega) (fun x4 hx4 => ?_)
    have hx4 : x4.toInt = p1.toInt * (5 : Int) := hx4
    refine ok.add (show _ ≤ x4.toInt + (4 : Int) ∧ x4.toInt + (4 : Int) ≤ _ from by omega) (fun x5 hx5 => ?_)
    have hx5 : x5.toInt = x4.toInt + (4 : Int) := hx5
    refine ok.ck (show 0 ≤ x5.toInt ∧ x5.toInt < ((7745 : Nat) : Int) from by omega) ?_
    refine ok.letE (v1 := (X.1 6 (ix x5))) rfl ?_
    refine ok.ite (fun c3 => ?_) (fun c3 => ?_)
    · skip
      have lpu4 : ∀ (n : Nat), ∀ (a_1u4 : Int32) (a_2u4 : Int32) (a_4u4 : Int32) (a_6u4 : Int32) (Zu4 : St), INV Zu4 → Fr YC [] X Zu4 → (0 ≤ a_1u4.toInt ∧ a_1u4.toInt ≤ 1548) → (0 ≤ a_2u4.toInt ∧ a_2u4.toInt ≤ 4) → (0 ≤ a_4u4.toInt ∧ a_4u4.toInt + a_2u4.toInt ≤ 164) → (0 ≤ a_6u4.toInt ∧ a_6u4.toInt ≤ 5) → (5 - a_6u4.toInt).toNat < n → ok (g_Kinds_isSame_30 n 3 a_1u4 a_2u4 54 a_4u4 a_6u4 Zu4) (fun r Y => (X = Y)) := by
        intro n
        unfold g_Kinds_isSame_30
        refine lp_indN (P := fun (n : Nat) (r_u4 : Nat → Int32 → Int32 → Nat → Int32 → Int32 → St → Option (Int32 × St)) => ∀ (a_1u4 : Int32) (a_2u4 : Int32) (a_4u4 : Int32) (a_6u4 : Int32) (Zu4 : St), INV Zu4 → Fr YC [] X Zu4 → (0 ≤ a_1u4.toInt ∧ a_1u4.toInt ≤ 1548) → (0 ≤ a_2u4.toInt ∧ a_2u4.toInt ≤ 4) → (0 ≤ a_4u4.toInt ∧ a_4u4.toInt + a_2u4.toInt ≤ 164) → (0 ≤ a_6u4.toInt ∧ a_6u4.toInt ≤ 5) → (5 - a_6u4.toInt).toNat < n → ok (r_u4 3 a_1u4 a_2u4 54 a_4u4 a_6u4 Zu4) (fun r Y => (X = Y))) ?_ ?_ n
        · intro a_1u4 a_2u4 a_4u4 a_6u4 Zu4 hIu4 hFu4 u4_0 u4_1 u4_2 u4_3  hm; exact absurd hm (Nat.not_lt_zero _)
        · intro n r_u4 ih_u4 a_1u4 a_2u4 a_4u4 a_6u4 Zu4 hIu4 hFu4 u4_0 u4_1 u4_2 u4_3  hmu4
          unfold g_Kinds_isSame_30_s
          refine ok.ite (fun c5 => ?_) (fun c5 => ?_)
          · skip
            exact ok.ret (Fr.nil hFu4).symm
          · skip
            refine ok.letE (v1 := 6) (by decide) ?_
            refine ok.mul (show _ ≤ a_1u4.toInt * (5 : Int) ∧ a_1u4.toInt * (5 : Int) ≤ _ from by omega) (fun x8 hx8 => ?_)
            have hx8 : x8.toInt = a_1u4.toInt * (5 : Int) := hx8
            refine ok.add (show _ ≤ x8.toInt + a_6u4.toInt ∧ x8.toInt + a_6u4.toInt ≤ _ from by omega) (fun x9 hx9 => ?_)
            have hx9 : x9.toInt = x8.toInt + a_6u4.toInt := hx9
            refine ok.ck (show 0 ≤ x9.toInt ∧ x9.toInt < ((7745 : Nat) : Int) from by omega) ?_
            refine ok.letE (v1 := (X.1 6 (ix x9))) (hFu4.1 6 (ix x9) (show (1200 : Nat) ∉ [] from by decide)) ?_
            refine ok.add (show _ ≤ a_4u4.toInt + a_6u4.toInt ∧ a_4u4.toInt + a_6u4.toInt ≤ _ from by omega) (fun x11 hx11 => ?_)
            have hx11 : x11.toInt = a_4u4.toInt + a_6u4.toInt := hx11
            refine ok.ck (show 0 ≤ x11.toInt ∧ x11.toInt < ((164 : Nat) : Int) from by omega) ?_
            refine ok.letE (v1 := (X.1 54 (ix x11))) (hFu4.1 54 (ix x11) (show (10800 : Nat) ∉ [] from by decide)) ?_
            refine ok.ite (fun c6 => ?_) (fun c6 => ?_)
            · skip
              refine ok.inc (by decide) (show _ ≤ a_6u4.toInt + (1) ∧ a_6u4.toInt + (1) ≤ _ from by omega) (fun x13 hx13 => ?_)
              have hx13 : x13.toInt = a_6u4.toInt + (1) := hx13
              exact ih_u4 a_1u4 a_2u4 a_4u4 x13 Zu4 hIu4 (Fr.rf.tr hFu4 (fun _ q => q)) (show 0 ≤ a_1u4.toInt ∧ a_1u4.toInt ≤ 1548 from by omega) (show 0 ≤ a_2u4.toInt ∧ a_2u4.toInt ≤ 4 from by omega) (show 0 ≤ a_4u4.toInt ∧ a_4u4.toInt + a_2u4.toInt ≤ 164 from by omega) (show 0 ≤ x13.toInt ∧ x13.toInt ≤ 5 from by omega) (show (5 - x13.toInt).toNat < _ from by omega)
            · skip
              exact ok.ret (Fr.nil hFu4).symm
      exact lpu4 BIG p1 p2 p4 (0 : Int32) X hI (Fr.rf : Fr YC [] _ _) (show 0 ≤ p1.toInt ∧ p1.toInt ≤ 1548 from by omega) (show 0 ≤ p2.toInt ∧ p2.toInt ≤ 4 from by omega) (show 0 ≤ p4.toInt ∧ p4.toInt + p2.toInt ≤ 164 from by omega) (show 0 ≤ (0 : Int) ∧ (0 : Int) ≤ 5 from by omega) (show (5 - (0 : Int)).toNat < BIG from ltBIG (show _ < 100000 from by omega))
    · skip
      exact ok.ret rfl
  · skip
    exact ok.ret rfl
set_option maxHeartbeats 4000000 in
theorem v_Kinds_findOrAdd_3_54 {p1 : Int32} {p2 : Int32} {p4 : Int32} {p5 : Int32} {p6 : Int32} {X : St} (hI : INV X) (h0 : 0 ≤ p1.toInt ∧ p1.toInt ≤ 4) (h1 : 0 ≤ p2.toInt ∧ p2.toInt ≤ 4) (h2 : 0 ≤ p4.toInt ∧ p4.toInt + p2.toInt ≤ 164) : ok (g_Kinds_findOrAdd 3 p1 p2 54 p4 p5 p6 X) (fun r Y => (Fr YC Qv0 X Y ∧ INV Y)) := by
  unfold g_Kinds_findOrAdd
  refine ok.bd (v_Kinds_bucketOf hI) ?_
  rintro x1 _ ⟨rfl, hp1⟩
  have hp1 : 0 ≤ x1.toInt ∧ x1.toInt ≤ 511 := hp1
  refine ok.letE (v1 := 9) (by decide) ?_
  refine ok.ck (show 0 ≤ x1.toInt ∧ x1.toInt < ((512 : Nat) : Int) from by omega) ?_
  refine ok.letE (v1 := (X.1 9 (ix x1))) rfl ?_
  have g2 : -1 ≤ (X.1 9 (ix x1)).toInt ∧ (X.1 9 (ix x1)).toInt ≤ 1548 := hI.1 9 (ix x1)
  have lpu3 : ∀ (n : Nat), ∀ (a_1u3 : Int32) (a_2u3 : Int32) (a_4u3 : Int32) (a_5u3 : Int32) (a_6u3 : Int32) (a_7u3 : Int32) (a_8u3 : Int32) (a_9u3 : Int32) (Zu3 : St), INV Zu3 → Fr YC Qv0 X Zu3 → (0 ≤ a_1u3.toInt ∧ a_1u3.toInt ≤ 4) → (0 ≤ a_2u3.toInt ∧ a_2u3.toInt ≤ 4) → (0 ≤ a_4u3.toInt ∧ a_4u3.toInt + a_2u3.toInt ≤ 164) → (0 ≤ a_7u3.toInt ∧ a_7u3.toInt ≤ 511) → (-1 ≤ a_8u3.toInt ∧ a_8u3.toInt ≤ 1548) → (0 ≤ a_9u3.toInt ∧ a_9u3.toInt ≤ 1549) → (1550 - a_9u3.toInt).toNat < n → ok (g_Kinds_findOrAdd_19 n 3 a_1u3 a_2u3 54 a_4u3 a_5u3 a_6u3 a_7u3 a_8u3 a_9u3 Zu3) (fun r Y => (Fr YC Qv0 X Y ∧ INV Y)) := by
    intro n
    unfold g_Kinds_findOrAdd_19
    refine lp_indN (P := fun (n : Nat) (r_u3 : Nat → Int32 → Int32 → Nat → Int32 → Int32 → Int32 → Int32 → Int32 → Int32 → St → Option (Int32 × St)) => ∀ (a_1u3 : Int32) (a_2u3 : Int32) (a_4u3 : Int32) (a_5u3 : Int32) (a_6u3 : Int32) (a_7u3 : Int32) (a_8u3 : Int32) (a_9u3 : Int32) (Zu3 : St), INV Zu3 → Fr YC Qv0 X Zu3 → (0 ≤ a_1u3.toInt ∧ a_1u3.toInt ≤ 4) → (0 ≤ a_2u3.toInt ∧ a_2u3.toInt ≤ 4) → (0 ≤ a_4u3.toInt ∧ a_4u3.toInt + a_2u3.toInt ≤ 164) → (0 ≤ a_7u3.toInt ∧ a_7u3.toInt ≤ 511) → (-1 ≤ a_8u3.toInt ∧ a_8u3.toInt ≤ 1548) → (0 ≤ a_9u3.toInt ∧ a_9u3.toInt ≤ 1549) → (1550 - a_9u3.toInt).toNat < n → ok (r_u3 3 a_1u3 a_2u3 54 a_4u3 a_5u3 a_6u3 a_7u3 a_8u3 a_9u3 Zu3) (fun r Y => (Fr YC Qv0 X Y ∧ INV Y))) ?_ ?_ n
    · intro a_1u3 a_2u3 a_4u3 a_5u3 a_6u3 a_7u3 a_8u3 a_9u3 Zu3 hIu3 hFu3 u3_0 u3_1 u3_2 u3_3 u3_4 u3_5  hm; exact absurd hm (Nat.not_lt_zero _)
    · intro n r_u3 ih_u3 a_1u3 a_2u3 a_4u3 a_5u3 a_6u3 a_7u3 a_8u3 a_9u3 Zu3 hIu3 hFu3 u3_0 u3_1 u3_2 u3_3 u3_4 u3_5  hmu3
      unfold g_Kinds_findOrAdd_19_s
      refine ok.ite (fun c4 => ?_) (fun c4 => ?_)
      · skip
        unfold g_Kinds_findOrAdd_77
        refine ok.letE (v1 := (Zu3.1 3 0)) rfl ?_
        have g5 : 0 ≤ (Zu3.1 3 0).toInt ∧ (Zu3.1 3 0).toInt ≤ 1549 := hIu3.1 3 0
        refine ok.ite (fun c6 => ?_) (fun c6 => ?_)
        · skip
          refine ok.letE (v1 := (Zu3.1 3 0)) rfl ?_
          refine ok.letE (v1 := (Zu3.1 3 0)) rfl ?_
          refine ok.add (show _ ≤ (Zu3.1 3 0).toInt + (1 : Int) ∧ (Zu3.1 3 0).toInt + (1 : Int) ≤ _ from by omega) (fun x8 hx8 => ?_)
          have hx8 : x8.toInt = (Zu3.1 3 0).toInt + (1 : Int) := hx8
          refine ok.wI (L := [600]) hIu3 (show 0 ≤ x8.toInt ∧ x8.toInt ≤ 1549 from by omega) (show (600 : Nat) ∈ [600] from by decide) (by decide) (fun Z7 hIZ7 hFZ7 hkZ7 hoZ7 => ?_)
          refine ok.letE (v1 := 4) (by decide) ?_
          refine ok.ck (show 0 ≤ (Zu3.1 3 0).toInt ∧ (Zu3.1 3 0).toInt < ((1549 : Nat) : Int) from by omega) ?_
          refine ok.wI (L := [800]) hIZ7 (show True from trivial) (show (800 : Nat) ∈ [800] from by decide) (by decide) (fun Z8 hIZ8 hFZ8 hkZ8 hoZ8 => ?_)
          refine ok.letE (v1 := 5) (by decide) ?_
          refine ok.ck (show 0 ≤ (Zu3.1 3 0).toInt ∧ (Zu3.1 3 0).toInt < ((1549 : Nat) : Int) from by omega) ?_
          refine ok.wI (L := [1000]) hIZ8 (show 0 ≤ a_2u3.toInt ∧ a_2u3.toInt ≤ 4 from by omega) (show (1000 : Nat) ∈ [1000] from by decide) (by decide) (fun Z9 hIZ9 hFZ9 hkZ9 hoZ9 => ?_)
          refine ok.letE (v1 := 7) (by decide) ?_
          refine ok.ck (show 0 ≤ (Zu3.1 3 0).toInt ∧ (Zu3.1 3 0).toInt < ((1549 : Nat) : Int) from by omega) ?_
          refine ok.wI (L := [1400]) hIZ9 (show True from trivial) (show (1400 : Nat) ∈ [1400] from by decide) (by decide) (fun Z10 hIZ10 hFZ10 hkZ10 hoZ10 => ?_)
          refine ok.letE (v1 := 6) (by decide) ?_
          refine ok.mul (show _ ≤ (Zu3.1 3 0).toInt * (5 : Int) ∧ (Zu3.1 3 0).toInt * (5 : Int) ≤ _ from by omega) (fun x17 hx17 => ?_)
          have hx17 : x17.toInt = (Zu3.1 3 0).toInt * (5 : Int) := hx17
          refine ok.add (show _ ≤ x17.toInt + (4 : Int) ∧ x17.toInt + (4 : Int) ≤ _ from by omega) (fun x18 hx18 => ?_)
          have hx18 : x18.toInt = x17.toInt + (4 : Int) := hx18
          refine ok.ck (show 0 ≤ x18.toInt ∧ x18.toInt < ((7745 : Nat) : Int) from by omega) ?_
          refine ok.wI (L := [1200]) hIZ10 (show True from trivial) (show (1200 : Nat) ∈ [1200] from by decide) (by decide) (fun Z11 hIZ11 hFZ11 hkZ11 hoZ11 => ?_)
          refine ok.ite (fun c12 => ?_) (fun c12 => ?_)
          · skip
            unfold g_Kinds_findOrAdd_162
            unfold g_Kinds_findOrAdd_167
            have lpu13 : ∀ (n : Nat), ∀ (a_2u13 : Int32) (a_4u13 : Int32) (a_7u13 : Int32) (a_8u13 : Int32) (a_9u13 : Int32) (a_10u13 : Int32) (Zu13 : St), INV Zu13 → Fr YC Qv0 X Zu13 → (0 ≤ a_2u13.toInt ∧ a_2u13.toInt ≤ 4) → (0 ≤ a_4u13.toInt ∧ a_4u13.toInt + a_2u13.toInt ≤ 164) → (0 ≤ a_7u13.toInt ∧ a_7u13.toInt ≤ 511) → (0 ≤ a_8u13.toInt ∧ a_8u13.toInt ≤ 1548) → (0 ≤ a_10u13.toInt ∧ a_10u13.toInt ≤ 5) → (5 - a_10u13.toInt).toNat < n → ok (g_Kinds_findOrAdd_172 n 3 a_2u13 54 a_4u13 a_7u13 a_8u13 a_9u13 a_10u13 Zu13) (fun r Y => (Fr YC Qv0 X Y ∧ INV Y)) := by
              intro n
              unfold g_Kinds_findOrAdd_172
              refine lp_indN (P := fun (n : Nat) (r_u13 : Nat → Int32 → Nat → Int32 → Int32 → Int32 → Int32 → Int32 → St → Option (Int32 × St)) => ∀ (a_2u13 : Int32) (a_4u13 : Int32) (a_7u13 : Int32) (a_8u13 : Int32) (a_9u13 : Int32) (a_10u13 : Int32) (Zu13 : St), INV Zu13 → Fr YC Qv0 X Zu13 → (0 ≤ a_2u13.toInt ∧ a_2u13.toInt ≤ 4) → (0 ≤ a_4u13.toInt ∧ a_4u13.toInt + a_2u13.toInt ≤ 164) → (0 ≤ a_7u13.toInt ∧ a_7u13.toInt ≤ 511) → (0 ≤ a_8u13.toInt ∧ a_8u13.toInt ≤ 1548) → (0 ≤ a_10u13.toInt ∧ a_10u13.toInt ≤ 5) → (5 - a_10u13.toInt).toNat < n → ok (r_u13 3 a_2u13 54 a_4u13 a_7u13 a_8u13 a_9u13 a_10u13 Zu13) (fun r Y => (Fr YC Qv0 X Y ∧ INV Y))) ?_ ?_ n
              · intro a_2u13 a_4u13 a_7u13 a_8u13 a_9u13 a_10u13 Zu13 hIu13 hFu13 u13_0 u13_1 u13_2 u13_3 u13_4  hm; exact absurd hm (Nat.not_lt_zero _)
              · intro n r_u13 ih_u13 a_2u13 a_4u13 a_7u13 a_8u13 a_9u13 a_10u13 Zu13 hIu13 hFu13 u13_0 u13_1 u13_2 u13_3 u13_4  hmu13
                unfold g_Kinds_findOrAdd_172_s
                refine ok.ite (fun c14 => ?_) (fun c14 => ?_)
                · skip
                  refine ok.letE (v1 := 8) (by decide) ?_
                  refine ok.ck (show 0 ≤ a_8u13.toInt ∧ a_8u13.toInt < ((1549 : Nat) : Int) from by omega) ?_
                  refine ok.wI (L := [1600]) hIu13 (show True from trivial) (show (1600 : Nat) ∈ [1600] from by decide) (by decide) (fun Z15 hIZ15 hFZ15 hkZ15 hoZ15 => ?_)
                  refine ok.letE (v1 := 10) (by decide) ?_
                  refine ok.letE (v1 := 9) (by decide) ?_
                  refine ok.ck (show 0 ≤ a_7u13.toInt ∧ a_7u13.toInt < ((512 : Nat) : Int) from by omega) ?_
                  refine ok.letE (v1 := (Zu13.1 9 (ix a_7u13))) (hFZ15.1 9 (ix a_7u13) (show (1800 : Nat) ∉ [1600] from by decide)) ?_
                  have g16 : -1 ≤ (Zu13.1 9 (ix a_7u13)).toInt ∧ (Zu13.1 9 (ix a_7u13)).toInt ≤ 1548 := hIu13.1 9 (ix a_7u13)
                  refine ok.ck (show 0 ≤ a_8u13.toInt ∧ a_8u13.toInt < ((1549 : Nat) : Int) from by omega) ?_
                  refine ok.wI (L := [2000]) hIZ15 (show -1 ≤ (Zu13.1 9 (ix a_7u13)).toInt ∧ (Zu13.1 9 (ix a_7u13)).toInt ≤ 1548 from by omega) (show (2000 : Nat) ∈ [2000] from by decide) (by decide) (fun Z17 hIZ17 hFZ17 hkZ17 hoZ17 => ?_)
                  refine ok.letE (v1 := 9) (by decide) ?_
                  refine ok.ck (show 0 ≤ a_7u13.toInt ∧ a_7u13.toInt < ((512 : Nat) : Int) from by omega) ?_
                  refine ok.wI (L := [1800]) hIZ17 (show -1 ≤ a_8u13.toInt ∧ a_8u13.toInt ≤ 1548 from by omega) (show (1800 : Nat) ∈ [1800] from by decide) (by decide) (fun Z18 hIZ18 hFZ18 hkZ18 hoZ18 => ?_)
                  exact ok.ret ⟨((((Fr.rf.tr hFu13 (fun _ q => q)).tr hFZ15 (by decide)).tr hFZ17 (by decide)).tr hFZ18 (by decide)), hIZ18⟩
                · skip
                  refine ok.letE (v1 := 6) (by decide) ?_
                  refine ok.mul (show _ ≤ a_8u13.toInt * (5 : Int) ∧ a_8u13.toInt * (5 : Int) ≤ _ from by omega) (fun x29 hx29 => ?_)
                  have hx29 : x29.toInt = a_8u13.toInt * (5 : Int) := hx29
                  refine ok.add (show _ ≤ x29.toInt + a_10u13.toInt ∧ x29.toInt + a_10u13.toInt ≤ _ from by omega) (fun x30 hx30 => ?_)
                  have hx30 : x30.toInt = x29.toInt + a_10u13.toInt := hx30
                  refine ok.add (show _ ≤ a_4u13.toInt + a_10u13.toInt ∧ a_4u13.toInt + a_10u13.toInt ≤ _ from by omega) (fun x31 hx31 => ?_)
                  have hx31 : x31.toInt = a_4u13.toInt + a_10u13.toInt := hx31
                  refine ok.ck (show 0 ≤ x31.toInt ∧ x31.toInt < ((164 : Nat) : Int) from by omega) ?_
                  refine ok.letE (v1 := (X.1 54 (ix x31))) (hFu13.1 54 (ix x31) n10800_Qv0) ?_
                  refine ok.ck (show 0 ≤ x30.toInt ∧ x30.toInt < ((7745 : Nat) : Int) from by omega) ?_
                  refine ok.wI (L := [1200]) hIu13 (show True from trivial) (show (1200 : Nat) ∈ [1200] from by decide) (by decide) (fun Z19 hIZ19 hFZ19 hkZ19 hoZ19 => ?_)
                  refine ok.ite (fun c20 => ?_) (fun c20 => ?_)
                  · skip
                    have g21 := i32_le a_9u13
                    refine ok.add (show _ ≤ a_4u13.toInt + a_10u13.toInt ∧ a_4u13.toInt + a_10u13.toInt ≤ _ from by omega) (fun x35 hx35 => ?_)
                    have hx35 : x35.toInt = a_4u13.toInt + a_10u13.toInt := hx35
                    refine ok.ck (show 0 ≤ x35.toInt ∧ x35.toInt < ((164 : Nat) : Int) from by omega) ?_
                    refine ok.letE (v1 := (X.1 54 (ix x35))) ((hFZ19.1 54 (ix x35) (show (10800 : Nat) ∉ [1200] from by decide)).trans (hFu13.1 54 (ix x35) n10800_Qv0)) ?_
                    refine ok.bd (v_Kinds_hasAny_3 hIZ19) ?_
                    rintro x37 _ rfl
                    refine ok.ite (fun c23 => ?_) (fun c23 => ?_)
                    · skip
                      have g24 := i32_le x37
                      unfold g_Kinds_findOrAdd_221
                      refine ok.inc (by decide) (show _ ≤ a_10u13.toInt + (1) ∧ a_10u13.toInt + (1) ≤ _ from by omega) (fun x34 hx34 => ?_)
                      have hx34 : x34.toInt = a_10u13.toInt + (1) := hx34
                      exact ih_u13 a_2u13 a_4u13 a_7u13 a_8u13 (0 : Int32) x34 Z19 hIZ19 ((Fr.rf.tr hFu13 (fun _ q => q)).tr hFZ19 (by decide)) (show 0 ≤ a_2u13.toInt ∧ a_2u13.toInt ≤ 4 from by omega) (show 0 ≤ a_4u13.toInt ∧ a_4u13.toInt + a_2u13.toInt ≤ 164 from by omega) (show 0 ≤ a_7u13.toInt ∧ a_7u13.toInt ≤ 511 from by omega) (show 0 ≤ a_8u13.toInt ∧ a_8u13.toInt ≤ 1548 from by omega) (show 0 ≤ x34.toInt ∧ x34.toInt ≤ 5 from by omega) (show (5 - x34.toInt).toNat < _ from by omega)
                    · skip
                      unfold g_Kinds_findOrAdd_216
                      unfold g_Kinds_findOrAdd_221
                      refine ok.inc (by decide) (show _ ≤ a_10u13.toInt + (1) ∧ a_10u13.toInt + (1) ≤ _ from by omega) (fun x34 hx34 => ?_)
                      have hx34 : x34.toInt = a_10u13.toInt + (1) := hx34
                      exact ih_u13 a_2u13 a_4u13 a_7u13 a_8u13 (1 : Int32) x34 Z19 hIZ19 ((Fr.rf.tr hFu13 (fun _ q => q)).tr hFZ19 (by decide)) (show 0 ≤ a_2u13.toInt ∧ a_2u13.toInt ≤ 4 from by omega) (show 0 ≤ a_4u13.toInt ∧ a_4u13.toInt + a_2u13.toInt ≤ 164 from by omega) (show 0 ≤ a_7u13.toInt ∧ a_7u13.toInt ≤ 511 from by omega) (show 0 ≤ a_8u13.toInt ∧ a_8u13.toInt ≤ 1548 from by omega) (show 0 ≤ x34.toInt ∧ x34.toInt ≤ 5 from by omega) (show (5 - x34.toInt).toNat < _ from by omega)
                  · skip
                    unfold g_Kinds_findOrAdd_216
                    unfold g_Kinds_findOrAdd_221
                    refine ok.inc (by decide) (show _ ≤ a_10u13.toInt + (1) ∧ a_10u13.toInt + (1) ≤ _ from by omega) (fun x34 hx34 => ?_)
                    have hx34 : x34.toInt = a_10u13.toInt + (1) := hx34
                    exact ih_u13 a_2u13 a_4u13 a_7u13 a_8u13 (1 : Int32) x34 Z19 hIZ19 ((Fr.rf.tr hFu13 (fun _ q => q)).tr hFZ19 (by decide)) (show 0 ≤ a_2u13.toInt ∧ a_2u13.toInt ≤ 4 from by omega) (show 0 ≤ a_4u13.toInt ∧ a_4u13.toInt + a_2u13.toInt ≤ 164 from by omega) (show 0 ≤ a_7u13.toInt ∧ a_7u13.toInt ≤ 511 from by omega) (show 0 ≤ a_8u13.toInt ∧ a_8u13.toInt ≤ 1548 from by omega) (show 0 ≤ x34.toInt ∧ x34.toInt ≤ 5 from by omega) (show (5 - x34.toInt).toNat < _ from by omega)
            exact lpu13 BIG a_2u3 a_4u3 a_7u3 (Zu3.1 3 0) (1 : Int32) (0 : Int32) Z11 hIZ11 ((((((Fr.rf.tr hFu3 (fun _ q => q)).tr hFZ7 (by decide)).tr hFZ8 (by decide)).tr hFZ9 (by decide)).tr hFZ10 (by decide)).tr hFZ11 (by decide)) (show 0 ≤ a_2u3.toInt ∧ a_2u3.toInt ≤ 4 from by omega) (show 0 ≤ a_4u3.toInt ∧ a_4u3.toInt + a_2u3.toInt ≤ 164 from by omega) (show 0 ≤ a_7u3.toInt ∧ a_7u3.toInt ≤ 511 from by omega) (show 0 ≤ (Zu3.1 3 0).toInt ∧ (Zu3.1 3 0).toInt ≤ 1548 from by omega) (show 0 ≤ (0 : Int) ∧ (0 : Int) ≤ 5 from by omega) (show (5 - (0 : Int)).toNat < BIG from ltBIG (show _ < 100000 from by omega))
          · skip
            refine ok.ite (fun c25 => ?_) (fun c25 => ?_)
            · skip
              unfold g_Kinds_findOrAdd_166
              unfold g_Kinds_findOrAdd_167
              have lpu26 : ∀ (n : Nat), ∀ (a_2u26 : Int32) (a_4u26 : Int32) (a_7u26 : Int32) (a_8u26 : Int32) (a_9u26 : Int32) (a_10u26 : Int32) (Zu26 : St), INV Zu26 → Fr YC Qv0 X Zu26 → (0 ≤ a_2u26.toInt ∧ a_2u26.toInt ≤ 4) → (0 ≤ a_4u26.toInt ∧ a_4u26.toInt + a_2u26.toInt ≤ 164) → (0 ≤ a_7u26.toInt ∧ a_7u26.toInt ≤ 511) → (0 ≤ a_8u26.toInt ∧ a_8u26.toInt ≤ 1548) → (0 ≤ a_10u26.toInt ∧ a_10u26.toInt ≤ 5) → (5 - a_10u26.toInt).toNat < n → ok (g_Kinds_findOrAdd_172 n 3 a_2u26 54 a_4u26 a_7u26 a_8u26 a_9u26 a_10u26 Zu26) (fun r Y => (Fr YC Qv0 X Y ∧ INV Y)) := by
                intro n
                unfold g_Kinds_findOrAdd_172
                refine lp_indN (P := fun (n : Nat) (r_u26 : Nat → Int32 → Nat → Int32 → Int32 → Int32 → Int32 → Int32 → St → Option (Int32 × St)) => ∀ (a_2u26 : Int32) (a_4u26 : Int32) (a_7u26 : Int32) (a_8u26 : Int32) (a_9u26 : Int32) (a_10u26 : Int32) (Zu26 : St), INV Zu26 → Fr YC Qv0 X Zu26 → (0 ≤ a_2u26.toInt ∧ a_2u26.toInt ≤ 4) → (0 ≤ a_4u26.toInt ∧ a_4u26.toInt + a_2u26.toInt ≤ 164) → (0 ≤ a_7u26.toInt ∧ a_7u26.toInt ≤ 511) → (0 ≤ a_8u26.toInt ∧ a_8u26.toInt ≤ 1548) → (0 ≤ a_10u26.toInt ∧ a_10u26.toInt ≤ 5) → (5 - a_10u26.toInt).toNat < n → ok (r_u26 3 a_2u26 54 a_4u26 a_7u26 a_8u26 a_9u26 a_10u26 Zu26) (fun r Y => (Fr YC Qv0 X Y ∧ INV Y))) ?_ ?_ n
                · intro a_2u26 a_4u26 a_7u26 a_8u26 a_9u26 a_10u26 Zu26 hIu26 hFu26 u26_0 u26_1 u26_2 u26_3 u26_4  hm; exact absurd hm (Nat.not_lt_zero _)
                · intro n r_u26 ih_u26 a_2u26 a_4u26 a_7u26 a_8u26 a_9u26 a_10u26 Zu26 hIu26 hFu26 u26_0 u26_1 u26_2 u26_3 u26_4  hmu26
                  unfold g_Kinds_findOrAdd_172_s
                  refine ok.ite (fun c27 => ?_) (fun c27 => ?_)
                  · skip
                    refine ok.letE (v1 := 8) (by decide) ?_
                    refine ok.ck (show 0 ≤ a_8u26.toInt ∧ a_8u26.toInt < ((1549 : Nat) : Int) from by omega) ?_
                    refine ok.wI (L := [1600]) hIu26 (show True from trivial) (show (1600 : Nat) ∈ [1600] from by decide) (by decide) (fun Z28 hIZ28 hFZ28 hkZ28 hoZ28 => ?_)
                    refine ok.letE (v1 := 10) (by decide) ?_
                    refine ok.letE (v1 := 9) (by decide) ?_
                    refine ok.ck (show 0 ≤ a_7u26.toInt ∧ a_7u26.toInt < ((512 : Nat) : Int) from by omega) ?_
                    refine ok.letE (v1 := (Zu26.1 9 (ix a_7u26))) (hFZ28.1 9 (ix a_7u26) (show (1800 : Nat) ∉ [1600] from by decide)) ?_
                    have g29 : -1 ≤ (Zu26.1 9 (ix a_7u26)).toInt ∧ (Zu26.1 9 (ix a_7u26)).toInt ≤ 1548 := hIu26.1 9 (ix a_7u26)
                    refine ok.ck (show 0 ≤ a_8u26.toInt ∧ a_8u26.toInt < ((1549 : Nat) : Int) from by omega) ?_
                    refine ok.wI (L := [2000]) hIZ28 (show -1 ≤ (Zu26.1 9 (ix a_7u26)).toInt ∧ (Zu26.1 9 (ix a_7u26)).toInt ≤ 1548 from by omega) (show (2000 : Nat) ∈ [2000] from by decide) (by decide) (fun Z30 hIZ30 hFZ30 hkZ30 hoZ30 => ?_)
                    refine ok.letE (v1 := 9) (by decide) ?_
                    refine ok.ck (show 0 ≤ a_7u26.toInt ∧ a_7u26.toInt < ((512 : Nat) : Int) from by omega) ?_
                    refine ok.wI (L := [1800]) hIZ30 (show -1 ≤ a_8u26.toInt ∧ a_8u26.toInt ≤ 1548 from by omega) (show (1800 : Nat) ∈ [1800] from by decide) (by decide) (fun Z31 hIZ31 hFZ31 hkZ31 hoZ31 => ?_)
                    exact ok.ret ⟨((((Fr.rf.tr hFu26 (fun _ q => q)).tr hFZ28 (by decide)).tr hFZ30 (by decide)).tr hFZ31 (by decide)), hIZ31⟩
                  · skip
                    refine ok.letE (v1 := 6) (by decide) ?_
                    refine ok.mul (show _ ≤ a_8u26.toInt * (5 : Int) ∧ a_8u26.toInt * (5 : Int) ≤ _ from by omega) (fun x29 hx29 => ?_)
                    have hx29 : x29.toInt = a_8u26.toInt * (5 : Int) := hx29
                    refine ok.add (show _ ≤ x29.toInt + a_10u26.toInt ∧ x29.toInt + a_10u26.toInt ≤ _ from by omega) (fun x30 hx30 => ?_)
                    have hx30 : x30.toInt = x29.toInt + a_10u26.toInt := hx30
                    refine ok.add (show _ ≤ a_4u26.toInt + a_10u26.toInt ∧ a_4u26.toInt + a_10u26.toInt ≤ _ from by omega) (fun x31 hx31 => ?_)
                    have hx31 : x31.toInt = a_4u26.toInt + a_10u26.toInt := hx31
                    refine ok.ck (show 0 ≤ x31.toInt ∧ x31.toInt < ((164 : Nat) : Int) from by omega) ?_
                    refine ok.letE (v1 := (X.1 54 (ix x31))) (hFu26.1 54 (ix x31) n10800_Qv0) ?_
                    refine ok.ck (show 0 ≤ x30.toInt ∧ x30.toInt < ((7745 : Nat) : Int) from by omega) ?_
                    refine ok.wI (L := [1200]) hIu26 (show True from trivial) (show (1200 : Nat) ∈ [1200] from by decide) (by decide) (fun Z32 hIZ32 hFZ32 hkZ32 hoZ32 => ?_)
                    refine ok.ite (fun c33 => ?_) (fun c33 => ?_)
                    · skip
                      have g34 := i32_le a_9u26
                      refine ok.add (show _ ≤ a_4u26.toInt + a_10u26.toInt ∧ a_4u26.toInt + a_10u26.toInt ≤ _ from by omega) (fun x35 hx35 => ?_)
                      have hx35 : x35.toInt = a_4u26.toInt + a_10u26.toInt := hx35
                      refine ok.ck (show 0 ≤ x35.toInt ∧ x35.toInt < ((164 : Nat) : Int) from by omega) ?_
                      refine ok.letE (v1 := (X.1 54 (ix x35))) ((hFZ32.1 54 (ix x35) (show (10800 : Nat) ∉ [1200] from by decide)).trans (hFu26.1 54 (ix x35) n10800_Qv0)) ?_
                      refine ok.bd (v_Kinds_hasAny_3 hIZ32) ?_
                      rintro x37 _ rfl
                      refine ok.ite (fun c36 => ?_) (fun c36 => ?_)
                      · skip
                        have g37 := i32_le x37
                        unfold g_Kinds_findOrAdd_221
                        refine ok.inc (by decide) (show _ ≤ a_10u26.toInt + (1) ∧ a_10u26.toInt + (1) ≤ _ from by omega) (fun x34 hx34 => ?_)
                        have hx34 : x34.toInt = a_10u26.toInt + (1) := hx34
                        exact ih_u26 a_2u26 a_4u26 a_7u26 a_8u26 (0 : Int32) x34 Z32 hIZ32 ((Fr.rf.tr hFu26 (fun _ q => q)).tr hFZ32 (by decide)) (show 0 ≤ a_2u26.toInt ∧ a_2u26.toInt ≤ 4 from by omega) (show 0 ≤ a_4u26.toInt ∧ a_4u26.toInt + a_2u26.toInt ≤ 164 from by omega) (show 0 ≤ a_7u26.toInt ∧ a_7u26.toInt ≤ 511 from by omega) (show 0 ≤ a_8u26.toInt ∧ a_8u26.toInt ≤ 1548 from by omega) (show 0 ≤ x34.toInt ∧ x34.toInt ≤ 5 from by omega) (show (5 - x34.toInt).toNat < _ from by omega)
                      · skip
                        unfold g_Kinds_findOrAdd_216
                        unfold g_Kinds_findOrAdd_221
                        refine ok.inc (by decide) (show _ ≤ a_10u26.toInt + (1) ∧ a_10u26.toInt + (1) ≤ _ from by omega) (fun x34 hx34 => ?_)
                        have hx34 : x34.toInt = a_10u26.toInt + (1) := hx34
                        exact ih_u26 a_2u26 a_4u26 a_7u26 a_8u26 (1 : Int32) x34 Z32 hIZ32 ((Fr.rf.tr hFu26 (fun _ q => q)).tr hFZ32 (by decide)) (show 0 ≤ a_2u26.toInt ∧ a_2u26.toInt ≤ 4 from by omega) (show 0 ≤ a_4u26.toInt ∧ a_4u26.toInt + a_2u26.toInt ≤ 164 from by omega) (show 0 ≤ a_7u26.toInt ∧ a_7u26.toInt ≤ 511 from by omega) (show 0 ≤ a_8u26.toInt ∧ a_8u26.toInt ≤ 1548 from by omega) (show 0 ≤ x34.toInt ∧ x34.toInt ≤ 5 from by omega) (show (5 - x34.toInt).toNat < _ from by omega)
                    · skip
                      unfold g_Kinds_findOrAdd_216
                      unfold g_Kinds_findOrAdd_221
                      refine ok.inc (by decide) (show _ ≤ a_10u26.toInt + (1) ∧ a_10u26.toInt + (1) ≤ _ from by omega) (fun x34 hx34 => ?_)
                      have hx34 : x34.toInt = a_10u26.toInt + (1) := hx34
                      exact ih_u26 a_2u26 a_4u26 a_7u26 a_8u26 (1 : Int32) x34 Z32 hIZ32 ((Fr.rf.tr hFu26 (fun _ q => q)).tr hFZ32 (by decide)) (show 0 ≤ a_2u26.toInt ∧ a_2u26.toInt ≤ 4 from by omega) (show 0 ≤ a_4u26.toInt ∧ a_4u26.toInt + a_2u26.toInt ≤ 164 from by omega) (show 0 ≤ a_7u26.toInt ∧ a_7u26.toInt ≤ 511 from by omega) (show 0 ≤ a_8u26.toInt ∧ a_8u26.toInt ≤ 1548 from by omega) (show 0 ≤ x34.toInt ∧ x34.toInt ≤ 5 from by omega) (show (5 - x34.toInt).toNat < _ from by omega)
              exact lpu26 BIG a_2u3 a_4u3 a_7u3 (Zu3.1 3 0) (0 : Int32) (0 : Int32) Z11 hIZ11 ((((((Fr.rf.tr hFu3 (fun _ q => q)).tr hFZ7 (by decide)).tr hFZ8 (by decide)).tr hFZ9 (by decide)).tr hFZ10 (by decide)).tr hFZ11 (by decide)) (show 0 ≤ a_2u3.toInt ∧ a_2u3.toInt ≤ 4 from by omega) (show 0 ≤ a_4u3.toInt ∧ a_4u3.toInt + a_2u3.toInt ≤ 164 from by omega) (show 0 ≤ a_7u3.toInt ∧ a_7u3.toInt ≤ 511 from by omega) (show 0 ≤ (Zu3.1 3 0).toInt ∧ (Zu3.1 3 0).toInt ≤ 1548 from by omega) (show 0 ≤ (0 : Int) ∧ (0 : Int) ≤ 5 from by omega) (show (5 - (0 : Int)).toNat < BIG from ltBIG (show _ < 100000 from by omega))
            · skip
              refine ok.bd (v_Kinds_hasAny_3 hIZ11) ?_
              rintro x39 _ rfl
              refine ok.ite (fun c39 => ?_) (fun c39 => ?_)
              · skip
                have g40 := i32_le x39
                unfold g_Kinds_findOrAdd_166
                unfold g_Kinds_findOrAdd_167
                have lpu41 : ∀ (n : Nat), ∀ (a_2u41 : Int32) (a_4u41 : Int32) (a_7u41 : Int32) (a_8u41 : Int32) (a_9u41 : Int32) (a_10u41 : Int32) (Zu41 : St), INV Zu41 → Fr YC Qv0 X Zu41 → (0 ≤ a_2u41.toInt ∧ a_2u41.toInt ≤ 4) → (0 ≤ a_4u41.toInt ∧ a_4u41.toInt + a_2u41.toInt ≤ 164) → (0 ≤ a_7u41.toInt ∧ a_7u41.toInt ≤ 511) → (0 ≤ a_8u41.toInt ∧ a_8u41.toInt ≤ 1548) → (0 ≤ a_10u41.toInt ∧ a_10u41.toInt ≤ 5) → (5 - a_10u41.toInt).toNat < n → ok (g_Kinds_findOrAdd_172 n 3 a_2u41 54 a_4u41 a_7u41 a_8u41 a_9u41 a_10u41 Zu41) (fun r Y => (Fr YC Qv0 X Y ∧ INV Y)) := by
                  intro n
                  unfold g_Kinds_findOrAdd_172
                  refine lp_indN (P := fun (n : Nat) (r_u41 : Nat → Int32 → Nat → Int32 → Int32 → Int32 → Int32 → Int32 → St → Option (Int32 × St)) => ∀ (a_2u41 : Int32) (a_4u41 : Int32) (a_7u41 : Int32) (a_8u41 : Int32) (a_9u41 : Int32) (a_10u41 : Int32) (Zu41 : St), INV Zu41 → Fr YC Qv0 X Zu41 → (0 ≤ a_2u41.toInt ∧ a_2u41.toInt ≤ 4) → (0 ≤ a_4u41.toInt ∧ a_4u41.toInt + a_2u41.toInt ≤ 164) → (0 ≤ a_7u41.toInt ∧ a_7u41.toInt ≤ 511) → (0 ≤ a_8u41.toInt ∧ a_8u41.toInt ≤ 1548) → (0 ≤ a_10u41.toInt ∧ a_10u41.toInt ≤ 5) → (5 - a_10u41.toInt).toNat < n → ok (r_u41 3 a_2u41 54 a_4u41 a_7u41 a_8u41 a_9u41 a_10u41 Zu41) (fun r Y => (Fr YC Qv0 X Y ∧ INV Y))) ?_ ?_ n
                  · intro a_2u41 a_4u41 a_7u41 a_8u41 a_9u41 a_10u41 Zu41 hIu41 hFu41 u41_0 u41_1 u41_2 u41_3 u41_4  hm; exact absurd hm (Nat.not_lt_zero _)
                  · intro n r_u41 ih_u41 a_2u41 a_4u41 a_7u41 a_8u41 a_9u41 a_10u41 Zu41 hIu41 hFu41 u41_0 u41_1 u41_2 u41_3 u41_4  hmu41
                    unfold g_Kinds_findOrAdd_172_s
                    refine ok.ite (fun c42 => ?_) (fun c42 => ?_)
                    · skip
                      refine ok.letE (v1 := 8) (by decide) ?_
                      refine ok.ck (show 0 ≤ a_8u41.toInt ∧ a_8u41.toInt < ((1549 : Nat) : Int) from by omega) ?_
                      refine ok.wI (L := [1600]) hIu41 (show True from trivial) (show (1600 : Nat) ∈ [1600] from by decide) (by decide) (fun Z43 hIZ43 hFZ43 hkZ43 hoZ43 => ?_)
                      refine ok.letE (v1 := 10) (by decide) ?_
                      refine ok.letE (v1 := 9) (by decide) ?_
                      refine ok.ck (show 0 ≤ a_7u41.toInt ∧ a_7u41.toInt < ((512 : Nat) : Int) from by omega) ?_
                      refine ok.letE (v1 := (Zu41.1 9 (ix a_7u41))) (hFZ43.1 9 (ix a_7u41) (show (1800 : Nat) ∉ [1600] from by decide)) ?_
                      have g44 : -1 ≤ (Zu41.1 9 (ix a_7u41)).toInt ∧ (Zu41.1 9 (ix a_7u41)).toInt ≤ 1548 := hIu41.1 9 (ix a_7u41)
                      refine ok.ck (show 0 ≤ a_8u41.toInt ∧ a_8u41.toInt < ((1549 : Nat) : Int) from by omega) ?_
                      refine ok.wI (L := [2000]) hIZ43 (show -1 ≤ (Zu41.1 9 (ix a_7u41)).toInt ∧ (Zu41.1 9 (ix a_7u41)).toInt ≤ 1548 from by omega) (show (2000 : Nat) ∈ [2000] from by decide) (by decide) (fun Z45 hIZ45 hFZ45 hkZ45 hoZ45 => ?_)
                      refine ok.letE (v1 := 9) (by decide) ?_
                      refine ok.ck (show 0 ≤ a_7u41.toInt ∧ a_7u41.toInt < ((512 : Nat) : Int) from by omega) ?_
                      refine ok.wI (L := [1800]) hIZ45 (show -1 ≤ a_8u41.toInt ∧ a_8u41.toInt ≤ 1548 from by omega) (show (1800 : Nat) ∈ [1800] from by decide) (by decide) (fun Z46 hIZ46 hFZ46 hkZ46 hoZ46 => ?_)
                      exact ok.ret ⟨((((Fr.rf.tr hFu41 (fun _ q => q)).tr hFZ43 (by decide)).tr hFZ45 (by decide)).tr hFZ46 (by decide)), hIZ46⟩
                    · skip
                      refine ok.letE (v1 := 6) (by decide) ?_
                      refine ok.mul (show _ ≤ a_8u41.toInt * (5 : Int) ∧ a_8u41.toInt * (5 : Int) ≤ _ from by omega) (fun x29 hx29 => ?_)
                      have hx29 : x29.toInt = a_8u41.toInt * (5 : Int) := hx29
                      refine ok.add (show _ ≤ x29.toInt + a_10u41.toInt ∧ x29.toInt + a_10u41.toInt ≤ _ from by omega) (fun x30 hx30 => ?_)
                      have hx30 : x30.toInt = x29.toInt + a_10u41.toInt := hx30
                      refine ok.add (show _ ≤ a_4u41.toInt + a_10u41.toInt ∧ a_4u41.toInt + a_10u41.toInt ≤ _ from by omega) (fun x31 hx31 => ?_)
                      have hx31 : x31.toInt = a_4u41.toInt + a_10u41.toInt := hx31
                      refine ok.ck (show 0 ≤ x31.toInt ∧ x31.toInt < ((164 : Nat) : Int) from by omega) ?_
                      refine ok.letE (v1 := (X.1 54 (ix x31))) (hFu41.1 54 (ix x31) n10800_Qv0) ?_
                      refine ok.ck (show 0 ≤ x30.toInt ∧ x30.toInt < ((7745 : Nat) : Int) from by omega) ?_
                      refine ok.wI (L := [1200]) hIu41 (show True from trivial) (show (1200 : Nat) ∈ [1200] from by decide) (by decide) (fun Z47 hIZ47 hFZ47 hkZ47 hoZ47 => ?_)
                      refine ok.ite (fun c48 => ?_) (fun c48 => ?_)
                      · skip
                        have g49 := i32_le a_9u41
                        refine ok.add (show _ ≤ a_4u41.toInt + a_10u41.toInt ∧ a_4u41.toInt + a_10u41.toInt ≤ _ from by omega) (fun x35 hx35 => ?_)
                        have hx35 : x35.toInt = a_4u41.toInt + a_10u41.toInt := hx35
                        refine ok.ck (show 0 ≤ x35.toInt ∧ x35.toInt < ((164 : Nat) : Int) from by omega) ?_
                        refine ok.letE (v1 := (X.1 54 (ix x35))) ((hFZ47.1 54 (ix x35) (show (10800 : Nat) ∉ [1200] from by decide)).trans (hFu41.1 54 (ix x35) n10800_Qv0)) ?_
                        refine ok.bd (v_Kinds_hasAny_3 hIZ47) ?_
                        rintro x37 _ rfl
                        refine ok.ite (fun c51 => ?_) (fun c51 => ?_)
                        · skip
                          have g52 := i32_le x37
                          unfold g_Kinds_findOrAdd_221
                          refine ok.inc (by decide) (show _ ≤ a_10u41.toInt + (1) ∧ a_10u41.toInt + (1) ≤ _ from by omega) (fun x34 hx34 => ?_)
                          have hx34 : x34.toInt = a_10u41.toInt + (1) := hx34
                          exact ih_u41 a_2u41 a_4u41 a_7u41 a_8u41 (0 : Int32) x34 Z47 hIZ47 ((Fr.rf.tr hFu41 (fun _ q => q)).tr hFZ47 (by decide)) (show 0 ≤ a_2u41.toInt ∧ a_2u41.toInt ≤ 4 from by omega) (show 0 ≤ a_4u41.toInt ∧ a_4u41.toInt + a_2u41.toInt ≤ 164 from by omega) (show 0 ≤ a_7u41.toInt ∧ a_7u41.toInt ≤ 511 from by omega) (show 0 ≤ a_8u41.toInt ∧ a_8u41.toInt ≤ 1548 from by omega) (show 0 ≤ x34.toInt ∧ x34.toInt ≤ 5 from by omega) (show (5 - x34.toInt).toNat < _ from by omega)
                        · skip
                          unfold g_Kinds_findOrAdd_216
                          unfold g_Kinds_findOrAdd_221
                          refine ok.inc (by decide) (show _ ≤ a_10u41.toInt + (1) ∧ a_10u41.toInt + (1) ≤ _ from by omega) (fun x34 hx34 => ?_)
                          have hx34 : x34.toInt = a_10u41.toInt + (1) := hx34
                          exact ih_u41 a_2u41 a_4u41 a_7u41 a_8u41 (1 : Int32) x34 Z47 hIZ47 ((Fr.rf.tr hFu41 (fun _ q => q)).tr hFZ47 (by decide)) (show 0 ≤ a_2u41.toInt ∧ a_2u41.toInt ≤ 4 from by omega) (show 0 ≤ a_4u41.toInt ∧ a_4u41.toInt + a_2u41.toInt ≤ 164 from by omega) (show 0 ≤ a_7u41.toInt ∧ a_7u41.toInt ≤ 511 from by omega) (show 0 ≤ a_8u41.toInt ∧ a_8u41.toInt ≤ 1548 from by omega) (show 0 ≤ x34.toInt ∧ x34.toInt ≤ 5 from by omega) (show (5 - x34.toInt).toNat < _ from by omega)
                      · skip
                        unfold g_Kinds_findOrAdd_216
                        unfold g_Kinds_findOrAdd_221
                        refine ok.inc (by decide) (show _ ≤ a_10u41.toInt + (1) ∧ a_10u41.toInt + (1) ≤ _ from by omega) (fun x34 hx34 => ?_)
                        have hx34 : x34.toInt = a_10u41.toInt + (1) := hx34
                        exact ih_u41 a_2u41 a_4u41 a_7u41 a_8u41 (1 : Int32) x34 Z47 hIZ47 ((Fr.rf.tr hFu41 (fun _ q => q)).tr hFZ47 (by decide)) (show 0 ≤ a_2u41.toInt ∧ a_2u41.toInt ≤ 4 from by omega) (show 0 ≤ a_4u41.toInt ∧ a_4u41.toInt + a_2u41.toInt ≤ 164 from by omega) (show 0 ≤ a_7u41.toInt ∧ a_7u41.toInt ≤ 511 from by omega) (show 0 ≤ a_8u41.toInt ∧ a_8u41.toInt ≤ 1548 from by omega) (show 0 ≤ x34.toInt ∧ x34.toInt ≤ 5 from by omega) (show (5 - x34.toInt).toNat < _ from by omega)
                exact lpu41 BIG a_2u3 a_4u3 a_7u3 (Zu3.1 3 0) (0 : Int32) (0 : Int32) Z11 hIZ11 ((((((Fr.rf.tr hFu3 (fun _ q => q)).tr hFZ7 (by decide)).tr hFZ8 (by decide)).tr hFZ9 (by decide)).tr hFZ10 (by decide)).tr hFZ11 (by decide)) (show 0 ≤ a_2u3.toInt ∧ a_2u3.toInt ≤ 4 from by omega) (show 0 ≤ a_4u3.toInt ∧ a_4u3.toInt + a_2u3.toInt ≤ 164 from by omega) (show 0 ≤ a_7u3.toInt ∧ a_7u3.toInt ≤ 511 from by omega) (show 0 ≤ (Zu3.1 3 0).toInt ∧ (Zu3.1 3 0).toInt ≤ 1548 from by omega) (show 0 ≤ (0 : Int) ∧ (0 : Int) ≤ 5 from by omega) (show (5 - (0 : Int)).toNat < BIG from ltBIG (show _ < 100000 from by omega))
              · skip
                unfold g_Kinds_findOrAdd_162
                unfold g_Kinds_findOrAdd_167
                have lpu53 : ∀ (n : Nat), ∀ (a_2u53 : Int32) (a_4u53 : Int32) (a_7u53 : Int32) (a_8u53 : Int32) (a_9u53 : Int32) (a_10u53 : Int32) (Zu53 : St), INV Zu53 → Fr YC Qv0 X Zu53 → (0 ≤ a_2u53.toInt ∧ a_2u53.toInt ≤ 4) → (0 ≤ a_4u53.toInt ∧ a_4u53.toInt + a_2u53.toInt ≤ 164) → (0 ≤ a_7u53.toInt ∧ a_7u53.toInt ≤ 511) → (0 ≤ a_8u53.toInt ∧ a_8u53.toInt ≤ 1548) → (0 ≤ a_10u53.toInt ∧ a_10u53.toInt ≤ 5) → (5 - a_10u53.toInt).toNat < n → ok (g_Kinds_findOrAdd_172 n 3 a_2u53 54 a_4u53 a_7u53 a_8u53 a_9u53 a_10u53 Zu53) (fun r Y => (Fr YC Qv0 X Y ∧ INV Y)) := by
                  intro n
                  unfold g_Kinds_findOrAdd_172
                  refine lp_indN (P := fun (n : Nat) (r_u53 : Nat → Int32 → Nat → Int32 → Int32 → Int32 → Int32 → Int32 → St → Option (Int32 × St)) => ∀ (a_2u53 : Int32) (a_4u53 : Int32) (a_7u53 : Int32) (a_8u53 : Int32) (a_9u53 : Int32) (a_10u53 : Int32) (Zu53 : St), INV Zu53 → Fr YC Qv0 X Zu53 → (0 ≤ a_2u53.toInt ∧ a_2u53.toInt ≤ 4) → (0 ≤ a_4u53.toInt ∧ a_4u53.toInt + a_2u53.toInt ≤ 164) → (0 ≤ a_7u53.toInt ∧ a_7u53.toInt ≤ 511) → (0 ≤ a_8u53.toInt ∧ a_8u53.toInt ≤ 1548) → (0 ≤ a_10u53.toInt ∧ a_10u53.toInt ≤ 5) → (5 - a_10u53.toInt).toNat < n → ok (r_u53 3 a_2u53 54 a_4u53 a_7u53 a_8u53 a_9u53 a_10u53 Zu53) (fun r Y => (Fr YC Qv0 X Y ∧ INV Y))) ?_ ?_ n
                  · intro a_2u53 a_4u53 a_7u53 a_8u53 a_9u53 a_10u53 Zu53 hIu53 hFu53 u53_0 u53_1 u53_2 u53_3 u53_4  hm; exact absurd hm (Nat.not_lt_zero _)
                  · intro n r_u53 ih_u53 a_2u53 a_4u53 a_7u53 a_8u53 a_9u53 a_10u53 Zu53 hIu53 hFu53 u53_0 u53_1 u53_2 u53_3 u53_4  hmu53
                    unfold g_Kinds_findOrAdd_172_s
                    refine ok.ite (fun c54 => ?_) (fun c54 => ?_)
                    · skip
                      refine ok.letE (v1 := 8) (by decide) ?_
                      refine ok.ck (show 0 ≤ a_8u53.toInt ∧ a_8u53.toInt < ((1549 : Nat) : Int) from by omega) ?_
                      refine ok.wI (L := [1600]) hIu53 (show True from trivial) (show (1600 : Nat) ∈ [1600] from by decide) (by decide) (fun Z55 hIZ55 hFZ55 hkZ55 hoZ55 => ?_)
                      refine ok.letE (v1 := 10) (by decide) ?_
                      refine ok.letE (v1 := 9) (by decide) ?_
                      refine ok.ck (show 0 ≤ a_7u53.toInt ∧ a_7u53.toInt < ((512 : Nat) : Int) from by omega) ?_
                      refine ok.letE (v1 := (Zu53.1 9 (ix a_7u53))) (hFZ55.1 9 (ix a_7u53) (show (1800 : Nat) ∉ [1600] from by decide)) ?_
                      have g56 : -1 ≤ (Zu53.1 9 (ix a_7u53)).toInt ∧ (Zu53.1 9 (ix a_7u53)).toInt ≤ 1548 := hIu53.1 9 (ix a_7u53)
                      refine ok.ck (show 0 ≤ a_8u53.toInt ∧ a_8u53.toInt < ((1549 : Nat) : Int) from by omega) ?_
                      refine ok.wI (L := [2000]) hIZ55 (show -1 ≤ (Zu53.1 9 (ix a_7u53)).toInt ∧ (Zu53.1 9 (ix a_7u53)).toInt ≤ 1548 from by omega) (show (2000 : Nat) ∈ [2000] from by decide) (by decide) (fun Z57 hIZ57 hFZ57 hkZ57 hoZ57 => ?_)
                      refine ok.letE (v1 := 9) (by decide) ?_
                      refine ok.ck (show 0 ≤ a_7u53.toInt ∧ a_7u53.toInt < ((512 : Nat) : Int) from by omega) ?_
                      refine ok.wI (L := [1800]) hIZ57 (show -1 ≤ a_8u53.toInt ∧ a_8u53.toInt ≤ 1548 from by omega) (show (1800 : Nat) ∈ [1800] from by decide) (by decide) (fun Z58 hIZ58 hFZ58 hkZ58 hoZ58 => ?_)
                      exact ok.ret ⟨((((Fr.rf.tr hFu53 (fun _ q => q)).tr hFZ55 (by decide)).tr hFZ57 (by decide)).tr hFZ58 (by decide)), hIZ58⟩
                    · skip
                      refine ok.letE (v1 := 6) (by decide) ?_
                      refine ok.mul (show _ ≤ a_8u53.toInt * (5 : Int) ∧ a_8u53.toInt * (5 : Int) ≤ _ from by omega) (fun x29 hx29 => ?_)
                      have hx29 : x29.toInt = a_8u53.toInt * (5 : Int) := hx29
                      refine ok.add (show _ ≤ x29.toInt + a_10u53.toInt ∧ x29.toInt + a_10u53.toInt ≤ _ from by omega) (fun x30 hx30 => ?_)
                      have hx30 : x30.toInt = x29.toInt + a_10u53.toInt := hx30
                      refine ok.add (show _ ≤ a_4u53.toInt + a_10u53.toInt ∧ a_4u53.toInt + a_10u53.toInt ≤ _ from by omega) (fun x31 hx31 => ?_)
                      have hx31 : x31.toInt = a_4u53.toInt + a_10u53.toInt := hx31
                      refine ok.ck (show 0 ≤ x31.toInt ∧ x31.toInt < ((164 : Nat) : Int) from by omega) ?_
                      refine ok.letE (v1 := (X.1 54 (ix x31))) (hFu53.1 54 (ix x31) n10800_Qv0) ?_
                      refine ok.ck (show 0 ≤ x30.toInt ∧ x30.toInt < ((7745 : Nat) : Int) from by omega) ?_
                      refine ok.wI (L := [1200]) hIu53 (show True from trivial) (show (1200 : Nat) ∈ [1200] from by decide) (by decide) (fun Z59 hIZ59 hFZ59 hkZ59 hoZ59 => ?_)
                      refine ok.ite (fun c60 => ?_) (fun c60 => ?_)
                      · skip
                        have g61 := i32_le a_9u53
                        refine ok.add (show _ ≤ a_4u53.toInt + a_10u53.toInt ∧ a_4u53.toInt + a_10u53.toInt ≤ _ from by omega) (fun x35 hx35 => ?_)
                        have hx35 : x35.toInt = a_4u53.toInt + a_10u53.toInt := hx35
                        refine ok.ck (show 0 ≤ x35.toInt ∧ x35.toInt < ((164 : Nat) : Int) from by omega) ?_
                        refine ok.letE (v1 := (X.1 54 (ix x35))) ((hFZ59.1 54 (ix x35) (show (10800 : Nat) ∉ [1200] from by decide)).trans (hFu53.1 54 (ix x35) n10800_Qv0)) ?_
                        refine ok.bd (v_Kinds_hasAny_3 hIZ59) ?_
                        rintro x37 _ rfl
                        refine ok.ite (fun c63 => ?_) (fun c63 => ?_)
                        · skip
                          have g64 := i32_le x37
                          unfold g_Kinds_findOrAdd_221
                          refine ok.inc (by decide) (show _ ≤ a_10u53.toInt + (1) ∧ a_10u53.toInt + (1) ≤ _ from by omega) (fun x34 hx34 => ?_)
                          have hx34 : x34.toInt = a_10u53.toInt + (1) := hx34
                          exact ih_u53 a_2u53 a_4u53 a_7u53 a_8u53 (0 : Int32) x34 Z59 hIZ59 ((Fr.rf.tr hFu53 (fun _ q => q)).tr hFZ59 (by decide)) (show 0 ≤ a_2u53.toInt ∧ a_2u53.toInt ≤ 4 from by omega) (show 0 ≤ a_4u53.toInt ∧ a_4u53.toInt + a_2u53.toInt ≤ 164 from by omega) (show 0 ≤ a_7u53.toInt ∧ a_7u53.toInt ≤ 511 from by omega) (show 0 ≤ a_8u53.toInt ∧ a_8u53.toInt ≤ 1548 from by omega) (show 0 ≤ x34.toInt ∧ x34.toInt ≤ 5 from by omega) (show (5 - x34.toInt).toNat < _ from by omega)
                        · skip
                          unfold g_Kinds_findOrAdd_216
                          unfold g_Kinds_findOrAdd_221
                          refine ok.inc (by decide) (show _ ≤ a_10u53.toInt + (1) ∧ a_10u53.toInt + (1) ≤ _ from by omega) (fun x34 hx34 => ?_)
                          have hx34 : x34.toInt = a_10u53.toInt + (1) := hx34
                          exact ih_u53 a_2u53 a_4u53 a_7u53 a_8u53 (1 : Int32) x34 Z59 hIZ59 ((Fr.rf.tr hFu53 (fun _ q => q)).tr hFZ59 (by decide)) (show 0 ≤ a_2u53.toInt ∧ a_2u53.toInt ≤ 4 from by omega) (show 0 ≤ a_4u53.toInt ∧ a_4u53.toInt + a_2u53.toInt ≤ 164 from by omega) (show 0 ≤ a_7u53.toInt ∧ a_7u53.toInt ≤ 511 from by omega) (show 0 ≤ a_8u53.toInt ∧ a_8u53.toInt ≤ 1548 from by omega) (show 0 ≤ x34.toInt ∧ x34.toInt ≤ 5 from by omega) (show (5 - x34.toInt).toNat < _ from by omega)
                      · skip
                        unfold g_Kinds_findOrAdd_216
                        unfold g_Kinds_findOrAdd_221
                        refine ok.inc (by decide) (show _ ≤ a_10u53.toInt + (1) ∧ a_10u53.toInt + (1) ≤ _ from by omega) (fun x34 hx34 => ?_)
                        have hx34 : x34.toInt = a_10u53.toInt + (1) := hx34
                        exact ih_u53 a_2u53 a_4u53 a_7u53 a_8u53 (1 : Int32) x34 Z59 hIZ59 ((Fr.rf.tr hFu53 (fun _ q => q)).tr hFZ59 (by decide)) (show 0 ≤ a_2u53.toInt ∧ a_2u53.toInt ≤ 4 from by omega) (show 0 ≤ a_4u53.toInt ∧ a_4u53.toInt + a_2u53.toInt ≤ 164 from by omega) (show 0 ≤ a_7u53.toInt ∧ a_7u53.toInt ≤ 511 from by omega) (show 0 ≤ a_8u53.toInt ∧ a_8u53.toInt ≤ 1548 from by omega) (show 0 ≤ x34.toInt ∧ x34.toInt ≤ 5 from by omega) (show (5 - x34.toInt).toNat < _ from by omega)
                exact lpu53 BIG a_2u3 a_4u3 a_7u3 (Zu3.1 3 0) (1 : Int32) (0 : Int32) Z11 hIZ11 ((((((Fr.rf.tr hFu3 (fun _ q => q)).tr hFZ7 (by decide)).tr hFZ8 (by decide)).tr hFZ9 (by decide)).tr hFZ10 (by decide)).tr hFZ11 (by decide)) (show 0 ≤ a_2u3.toInt ∧ a_2u3.toInt ≤ 4 from by omega) (show 0 ≤ a_4u3.toInt ∧ a_4u3.toInt + a_2u3.toInt ≤ 164 from by omega) (show 0 ≤ a_7u3.toInt ∧ a_7u3.toInt ≤ 511 from by omega) (show 0 ≤ (Zu3.1 3 0).toInt ∧ (Zu3.1 3 0).toInt ≤ 1548 from by omega) (show 0 ≤ (0 : Int) ∧ (0 : Int) ≤ 5 from by omega) (show (5 - (0 : Int)).toNat < BIG from ltBIG (show _ < 100000 from by omega))
        · skip
          exact ok.ret ⟨(Fr.rf.tr hFu3 (fun _ q => q)), hIu3⟩
      · skip
        refine ok.ite (fun c65 => ?_) (fun c65 => ?_)
        · skip
          unfold g_Kinds_findOrAdd_77
          refine ok.letE (v1 := (Zu3.1 3 0)) rfl ?_
          have g66 : 0 ≤ (Zu3.1 3 0).toInt ∧ (Zu3.1 3 0).toInt ≤ 1549 := hIu3.1 3 0
          refine ok.ite (fun c67 => ?_) (fun c67 => ?_)
          · skip
            refine ok.letE (v1 := (Zu3.1 3 0)) rfl ?_
            refine ok.letE (v1 := (Zu3.1 3 0)) rfl ?_
            refine ok.add (show _ ≤ (Zu3.1 3 0).toInt + (1 : Int) ∧ (Zu3.1 3 0).toInt + (1 : Int) ≤ _ from by omega) (fun x8 hx8 => ?_)
            have hx8 : x8.toInt = (Zu3.1 3 0).toInt + (1 : Int) := hx8
            refine ok.wI (L := [600]) hIu3 (show 0 ≤ x8.toInt ∧ x8.toInt ≤ 1549 from by omega) (show (600 : Nat) ∈ [600] from by decide) (by decide) (fun Z68 hIZ68 hFZ68 hkZ68 hoZ68 => ?_)
            refine ok.letE (v1 := 4) (by decide) ?_
            refine ok.ck (show 0 ≤ (Zu3.1 3 0).toInt ∧ (Zu3.1 3 0).toInt < ((1549 : Nat) : Int) from by omega) ?_
            refine ok.wI (L := [800]) hIZ68 (show True from trivial) (show (800 : Nat) ∈ [800] from by decide) (by decide) (fun Z69 hIZ69 hFZ69 hkZ69 hoZ69 => ?_)
            refine ok.letE (v1 := 5) (by decide) ?_
            refine ok.ck (show 0 ≤ (Zu3.1 3 0).toInt ∧ (Zu3.1 3 0).toInt < ((1549 : Nat) : Int) from by omega) ?_
            refine ok.wI (L := [1000]) hIZ69 (show 0 ≤ a_2u3.toInt ∧ a_2u3.toInt ≤ 4 from by omega) (show (1000 : Nat) ∈ [1000] from by decide) (by decide) (fun Z70 hIZ70 hFZ70 hkZ70 hoZ70 => ?_)
            refine ok.letE (v1 := 7) (by decide) ?_
            refine ok.ck (show 0 ≤ (Zu3.1 3 0).toInt ∧ (Zu3.1 3 0).toInt < ((1549 : Nat) : Int) from by omega) ?_
            refine ok.wI (L := [1400]) hIZ70 (show True from trivial) (show (1400 : Nat) ∈ [1400] from by decide) (by decide) (fun Z71 hIZ71 hFZ71 hkZ71 hoZ71 => ?_)
            refine ok.letE (v1 := 6) (by decide) ?_
            refine ok.mul (show _ ≤ (Zu3.1 3 0).toInt * (5 : Int) ∧ (Zu3.1 3 0).toInt * (5 : Int) ≤ _ from by omega) (fun x17 hx17 => ?_)
            have hx17 : x17.toInt = (Zu3.1 3 0).toInt * (5 : Int) := hx17
            refine ok.add (show _ ≤ x17.toInt + (4 : Int) ∧ x17.toInt + (4 : Int) ≤ _ from by omega) (fun x18 hx18 => ?_)
            have hx18 : x18.toInt = x17.toInt + (4 : Int) := hx18
            refine ok.ck (show 0 ≤ x18.toInt ∧ x18.toInt < ((7745 : Nat) : Int) from by omega) ?_
            refine ok.wI (L := [1200]) hIZ71 (show True from trivial) (show (1200 : Nat) ∈ [1200] from by decide) (by decide) (fun Z72 hIZ72 hFZ72 hkZ72 hoZ72 => ?_)
            refine ok.ite (fun c73 => ?_) (fun c73 => ?_)
            · skip
              unfold g_Kinds_findOrAdd_162
              unfold g_Kinds_findOrAdd_167
              have lpu74 : ∀ (n : Nat), ∀ (a_2u74 : Int32) (a_4u74 : Int32) (a_7u74 : Int32) (a_8u74 : Int32) (a_9u74 : Int32) (a_10u74 : Int32) (Zu74 : St), INV Zu74 → Fr YC Qv0 X Zu74 → (0 ≤ a_2u74.toInt ∧ a_2u74.toInt ≤ 4) → (0 ≤ a_4u74.toInt ∧ a_4u74.toInt + a_2u74.toInt ≤ 164) → (0 ≤ a_7u74.toInt ∧ a_7u74.toInt ≤ 511) → (0 ≤ a_8u74.toInt ∧ a_8u74.toInt ≤ 1548) → (0 ≤ a_10u74.toInt ∧ a_10u74.toInt ≤ 5) → (5 - a_10u74.toInt).toNat < n → ok (g_Kinds_findOrAdd_172 n 3 a_2u74 54 a_4u74 a_7u74 a_8u74 a_9u74 a_10u74 Zu74) (fun r Y => (Fr YC Qv0 X Y ∧ INV Y)) := by
                intro n
                unfold g_Kinds_findOrAdd_172
                refine lp_indN (P := fun (n : Nat) (r_u74 : Nat → Int32 → Nat → Int32 → Int32 → Int32 → Int32 → Int32 → St → Option (Int32 × St)) => ∀ (a_2u74 : Int32) (a_4u74 : Int32) (a_7u74 : Int32) (a_8u74 : Int32) (a_9u74 : Int32) (a_10u74 : Int32) (Zu74 : St), INV Zu74 → Fr YC Qv0 X Zu74 → (0 ≤ a_2u74.toInt ∧ a_2u74.toInt ≤ 4) → (0 ≤ a_4u74.toInt ∧ a_4u74.toInt + a_2u74.toInt ≤ 164) → (0 ≤ a_7u74.toInt ∧ a_7u74.toInt ≤ 511) → (0 ≤ a_8u74.toInt ∧ a_8u74.toInt ≤ 1548) → (0 ≤ a_10u74.toInt ∧ a_10u74.toInt ≤ 5) → (5 - a_10u74.toInt).toNat < n → ok (r_u74 3 a_2u74 54 a_4u74 a_7u74 a_8u74 a_9u74 a_10u74 Zu74) (fun r Y => (Fr YC Qv0 X Y ∧ INV Y))) ?_ ?_ n
                · intro a_2u74 a_4u74 a_7u74 a_8u74 a_9u74 a_10u74 Zu74 hIu74 hFu74 u74_0 u74_1 u74_2 u74_3 u74_4  hm; exact absurd hm (Nat.not_lt_zero _)
                · intro n r_u74 ih_u74 a_2u74 a_4u74 a_7u74 a_8u74 a_9u74 a_10u74 Zu74 hIu74 hFu74 u74_0 u74_1 u74_2 u74_3 u74_4  hmu74
                  unfold g_Kinds_findOrAdd_172_s
                  refine ok.ite (fun c75 => ?_) (fun c75 => ?_)
                  · skip
                    refine ok.letE (v1 := 8) (by decide) ?_
                    refine ok.ck (show 0 ≤ a_8u74.toInt ∧ a_8u74.toInt < ((1549 : Nat) : Int) from by omega) ?_
                    refine ok.wI (L := [1600]) hIu74 (show True from trivial) (show (1600 : Nat) ∈ [1600] from by decide) (by decide) (fun Z76 hIZ76 hFZ76 hkZ76 hoZ76 => ?_)
                    refine ok.letE (v1 := 10) (by decide) ?_
                    refine ok.letE (v1 := 9) (by decide) ?_
                    refine ok.ck (show 0 ≤ a_7u74.toInt ∧ a_7u74.toInt < ((512 : Nat) : Int) from by omega) ?_
                    refine ok.letE (v1 := (Zu74.1 9 (ix a_7u74))) (hFZ76.1 9 (ix a_7u74) (show (1800 : Nat) ∉ [1600] from by decide)) ?_
                    have g77 : -1 ≤ (Zu74.1 9 (ix a_7u74)).toInt ∧ (Zu74.1 9 (ix a_7u74)).toInt ≤ 1548 := hIu74.1 9 (ix a_7u74)
                    refine ok.ck (show 0 ≤ a_8u74.toInt ∧ a_8u74.toInt < ((1549 : Nat) : Int) from by omega) ?_
                    refine ok.wI (L := [2000]) hIZ76 (show -1 ≤ (Zu74.1 9 (ix a_7u74)).toInt ∧ (Zu74.1 9 (ix a_7u74)).toInt ≤ 1548 from by omega) (show (2000 : Nat) ∈ [2000] from by decide) (by decide) (fun Z78 hIZ78 hFZ78 hkZ78 hoZ78 => ?_)
                    refine ok.letE (v1 := 9) (by decide) ?_
                    refine ok.ck (show 0 ≤ a_7u74.toInt ∧ a_7u74.toInt < ((512 : Nat) : Int) from by omega) ?_
                    refine ok.wI (L := [1800]) hIZ78 (show -1 ≤ a_8u74.toInt ∧ a_8u74.toInt ≤ 1548 from by omega) (show (1800 : Nat) ∈ [1800] from by decide) (by decide) (fun Z79 hIZ79 hFZ79 hkZ79 hoZ79 => ?_)
                    exact ok.ret ⟨((((Fr.rf.tr hFu74 (fun _ q => q)).tr hFZ76 (by decide)).tr hFZ78 (by decide)).tr hFZ79 (by decide)), hIZ79⟩
                  · skip
                    refine ok.letE (v1 := 6) (by decide) ?_
                    refine ok.mul (show _ ≤ a_8u74.toInt * (5 : Int) ∧ a_8u74.toInt * (5 : Int) ≤ _ from by omega) (fun x29 hx29 => ?_)
                    have hx29 : x29.toInt = a_8u74.toInt * (5 : Int) := hx29
                    refine ok.add (show _ ≤ x29.toInt + a_10u74.toInt ∧ x29.toInt + a_10u74.toInt ≤ _ from by omega) (fun x30 hx30 => ?_)
                    have hx30 : x30.toInt = x29.toInt + a_10u74.toInt := hx30
                    refine ok.add (show _ ≤ a_4u74.toInt + a_10u74.toInt ∧ a_4u74.toInt + a_10u74.toInt ≤ _ from by omega) (fun x31 hx31 => ?_)
                    have hx31 : x31.toInt = a_4u74.toInt + a_10u74.toInt := hx31
                    refine ok.ck (show 0 ≤ x31.toInt ∧ x31.toInt < ((164 : Nat) : Int) from by omega) ?_
                    refine ok.letE (v1 := (X.1 54 (ix x31))) (hFu74.1 54 (ix x31) n10800_Qv0) ?_
                    refine ok.ck (show 0 ≤ x30.toInt ∧ x30.toInt < ((7745 : Nat) : Int) from by omega) ?_
                    refine ok.wI (L := [1200]) hIu74 (show True from trivial) (show (1200 : Nat) ∈ [1200] from by decide) (by decide) (fun Z80 hIZ80 hFZ80 hkZ80 hoZ80 => ?_)
                    refine ok.ite (fun c81 => ?_) (fun c81 => ?_)
                    · skip
                      have g82 := i32_le a_9u74
                      refine ok.add (show _ ≤ a_4u74.toInt + a_10u74.toInt ∧ a_4u74.toInt + a_10u74.toInt ≤ _ from by omega) (fun x35 hx35 => ?_)
                      have hx35 : x35.toInt = a_4u74.toInt + a_10u74.toInt := hx35
                      refine ok.ck (show 0 ≤ x35.toInt ∧ x35.toInt < ((164 : Nat) : Int) from by omega) ?_
                      refine ok.letE (v1 := (X.1 54 (ix x35))) ((hFZ80.1 54 (ix x35) (show (10800 : Nat) ∉ [1200] from by decide)).trans (hFu74.1 54 (ix x35) n10800_Qv0)) ?_
                      refine ok.bd (v_Kinds_hasAny_3 hIZ80) ?_
                      rintro x37 _ rfl
                      refine ok.ite (fun c84 => ?_) (fun c84 => ?_)
                      · skip
                        have g85 := i32_le x37
                        unfold g_Kinds_findOrAdd_221
                        refine ok.inc (by decide) (show _ ≤ a_10u74.toInt + (1) ∧ a_10u74.toInt + (1) ≤ _ from by omega) (fun x34 hx34 => ?_)
                        have hx34 : x34.toInt = a_10u74.toInt + (1) := hx34
                        exact ih_u74 a_2u74 a_4u74 a_7u74 a_8u74 (0 : Int32) x34 Z80 hIZ80 ((Fr.rf.tr hFu74 (fun _ q => q)).tr hFZ80 (by decide)) (show 0 ≤ a_2u74.toInt ∧ a_2u74.toInt ≤ 4 from by omega) (show 0 ≤ a_4u74.toInt ∧ a_4u74.toInt + a_2u74.toInt ≤ 164 from by omega) (show 0 ≤ a_7u74.toInt ∧ a_7u74.toInt ≤ 511 from by omega) (show 0 ≤ a_8u74.toInt ∧ a_8u74.toInt ≤ 1548 from by omega) (show 0 ≤ x34.toInt ∧ x34.toInt ≤ 5 from by omega) (show (5 - x34.toInt).toNat < _ from by omega)
                      · skip
                        unfold g_Kinds_findOrAdd_216
                        unfold g_Kinds_findOrAdd_221
                        refine ok.inc (by decide) (show _ ≤ a_10u74.toInt + (1) ∧ a_10u74.toInt + (1) ≤ _ from by omega) (fun x34 hx34 => ?_)
                        have hx34 : x34.toInt = a_10u74.toInt + (1) := hx34
                        exact ih_u74 a_2u74 a_4u74 a_7u74 a_8u74 (1 : Int32) x34 Z80 hIZ80 ((Fr.rf.tr hFu74 (fun _ q => q)).tr hFZ80 (by decide)) (show 0 ≤ a_2u74.toInt ∧ a_2u74.toInt ≤ 4 from by omega) (show 0 ≤ a_4u74.toInt ∧ a_4u74.toInt + a_2u74.toInt ≤ 164 from by omega) (show 0 ≤ a_7u74.toInt ∧ a_7u74.toInt ≤ 511 from by omega) (show 0 ≤ a_8u74.toInt ∧ a_8u74.toInt ≤ 1548 from by omega) (show 0 ≤ x34.toInt ∧ x34.toInt ≤ 5 from by omega) (show (5 - x34.toInt).toNat < _ from by omega)
                    · skip
                      unfold g_Kinds_findOrAdd_216
                      unfold g_Kinds_findOrAdd_221
                      refine ok.inc (by decide) (show _ ≤ a_10u74.toInt + (1) ∧ a_10u74.toInt + (1) ≤ _ from by omega) (fun x34 hx34 => ?_)
                      have hx34 : x34.toInt = a_10u74.toInt + (1) := hx34
                      exact ih_u74 a_2u74 a_4u74 a_7u74 a_8u74 (1 : Int32) x34 Z80 hIZ80 ((Fr.rf.tr hFu74 (fun _ q => q)).tr hFZ80 (by decide)) (show 0 ≤ a_2u74.toInt ∧ a_2u74.toInt ≤ 4 from by omega) (show 0 ≤ a_4u74.toInt ∧ a_4u74.toInt + a_2u74.toInt ≤ 164 from by omega) (show 0 ≤ a_7u74.toInt ∧ a_7u74.toInt ≤ 511 from by omega) (show 0 ≤ a_8u74.toInt ∧ a_8u74.toInt ≤ 1548 from by omega) (show 0 ≤ x34.toInt ∧ x34.toInt ≤ 5 from by omega) (show (5 - x34.toInt).toNat < _ from by omega)
              exact lpu74 BIG a_2u3 a_4u3 a_7u3 (Zu3.1 3 0) (1 : Int32) (0 : Int32) Z72 hIZ72 ((((((Fr.rf.tr hFu3 (fun _ q => q)).tr hFZ68 (by decide)).tr hFZ69 (by decide)).tr hFZ70 (by decide)).tr hFZ71 (by decide)).tr hFZ72 (by decide)) (show 0 ≤ a_2u3.toInt ∧ a_2u3.toInt ≤ 4 from by omega) (show 0 ≤ a_4u3.toInt ∧ a_4u3.toInt + a_2u3.toInt ≤ 164 from by omega) (show 0 ≤ a_7u3.toInt ∧ a_7u3.toInt ≤ 511 from by omega) (show 0 ≤ (Zu3.1 3 0).toInt ∧ (Zu3.1 3 0).toInt ≤ 1548 from by omega) (show 0 ≤ (0 : Int) ∧ (0 : Int) ≤ 5 from by omega) (show (5 - (0 : Int)).toNat < BIG from ltBIG (show _ < 100000 from by omega))
            · skip
              refine ok.ite (fun c86 => ?_) (fun c86 => ?_)
              · skip
                unfold g_Kinds_findOrAdd_166
                unfold g_Kinds_findOrAdd_167
                have lpu87 : ∀ (n : Nat), ∀ (a_2u87 : Int32) (a_4u87 : Int32) (a_7u87 : Int32) (a_8u87 : Int32) (a_9u87 : Int32) (a_10u87 : Int32) (Zu87 : St), INV Zu87 → Fr YC Qv0 X Zu87 → (0 ≤ a_2u87.toInt ∧ a_2u87.toInt ≤ 4) → (0 ≤ a_4u87.toInt ∧ a_4u87.toInt + a_2u87.toInt ≤ 164) → (0 ≤ a_7u87.toInt ∧ a_7u87.toInt ≤ 511) → (0 ≤ a_8u87.toInt ∧ a_8u87.toInt ≤ 1548) → (0 ≤ a_10u87.toInt ∧ a_10u87.toInt ≤ 5) → (5 - a_10u87.toInt).toNat < n → ok (g_Kinds_findOrAdd_172 n 3 a_2u87 54 a_4u87 a_7u87 a_8u87 a_9u87 a_10u87 Zu87) (fun r Y => (Fr YC Qv0 X Y ∧ INV Y)) := by
                  intro n
                  unfold g_Kinds_findOrAdd_172
                  refine lp_indN (P := fun (n : Nat) (r_u87 : Nat → Int32 → Nat → Int32 → Int32 → Int32 → Int32 → Int32 → St → Option (Int32 × St)) => ∀ (a_2u87 : Int32) (a_4u87 : Int32) (a_7u87 : Int32) (a_8u87 : Int32) (a_9u87 : Int32) (a_10u87 : Int32) (Zu87 : St), INV Zu87 → Fr YC Qv0 X Zu87 → (0 ≤ a_2u87.toInt ∧ a_2u87.toInt ≤ 4) → (0 ≤ a_4u87.toInt ∧ a_4u87.toInt + a_2u87.toInt ≤ 164) → (0 ≤ a_7u87.toInt ∧ a_7u87.toInt ≤ 511) → (0 ≤ a_8u87.toInt ∧ a_8u87.toInt ≤ 1548) → (0 ≤ a_10u87.toInt ∧ a_10u87.toInt ≤ 5) → (5 - a_10u87.toInt).toNat < n → ok (r_u87 3 a_2u87 54 a_4u87 a_7u87 a_8u87 a_9u87 a_10u87 Zu87) (fun r Y => (Fr YC Qv0 X Y ∧ INV Y))) ?_ ?_ n
                  · intro a_2u87 a_4u87 a_7u87 a_8u87 a_9u87 a_10u87 Zu87 hIu87 hFu87 u87_0 u87_1 u87_2 u87_3 u87_4  hm; exact absurd hm (Nat.not_lt_zero _)
                  · intro n r_u87 ih_u87 a_2u87 a_4u87 a_7u87 a_8u87 a_9u87 a_10u87 Zu87 hIu87 hFu87 u87_0 u87_1 u87_2 u87_3 u87_4  hmu87
                    unfold g_Kinds_findOrAdd_172_s
                    refine ok.ite (fun c88 => ?_) (fun c88 => ?_)
                    · skip
                      refine ok.letE (v1 := 8) (by decide) ?_
                      refine ok.ck (show 0 ≤ a_8u87.toInt ∧ a_8u87.toInt < ((1549 : Nat) : Int) from by omega) ?_
                      refine ok.wI (L := [1600]) hIu87 (show True from trivial) (show (1600 : Nat) ∈ [1600] from by decide) (by decide) (fun Z89 hIZ89 hFZ89 hkZ89 hoZ89 => ?_)
                      refine ok.letE (v1 := 10) (by decide) ?_
                      refine ok.letE (v1 := 9) (by decide) ?_
                      refine ok.ck (show 0 ≤ a_7u87.toInt ∧ a_7u87.toInt < ((512 : Nat) : Int) from by omega) ?_
                      refine ok.letE (v1 := (Zu87.1 9 (ix a_7u87))) (hFZ89.1 9 (ix a_7u87) (show (1800 : Nat) ∉ [1600] from by decide)) ?_
                      have g90 : -1 ≤ (Zu87.1 9 (ix a_7u87)).toInt ∧ (Zu87.1 9 (ix a_7u87)).toInt ≤ 1548 := hIu87.1 9 (ix a_7u87)
                      refine ok.ck (show 0 ≤ a_8u87.toInt ∧ a_8u87.toInt < ((1549 : Nat) : Int) from by omega) ?_
                      refine ok.wI (L := [2000]) hIZ89 (show -1 ≤ (Zu87.1 9 (ix a_7u87)).toInt ∧ (Zu87.1 9 (ix a_7u87)).toInt ≤ 1548 from by omega) (show (2000 : Nat) ∈ [2000] from by decide) (by decide) (fun Z91 hIZ91 hFZ91 hkZ91 hoZ91 => ?_)
                      refine ok.letE (v1 := 9) (by decide) ?_
                      refine ok.ck (show 0 ≤ a_7u87.toInt ∧ a_7u87.toInt < ((512 : Nat) : Int) from by omega) ?_
                      refine ok.wI (L := [1800]) hIZ91 (show -1 ≤ a_8u87.toInt ∧ a_8u87.toInt ≤ 1548 from by omega) (show (1800 : Nat) ∈ [1800] from by decide) (by decide) (fun Z92 hIZ92 hFZ92 hkZ92 hoZ92 => ?_)
                      exact ok.ret ⟨((((Fr.rf.tr hFu87 (fun _ q => q)).tr hFZ89 (by decide)).tr hFZ91 (by decide)).tr hFZ92 (by decide)), hIZ92⟩
                    · skip
                      refine ok.letE (v1 := 6) (by decide) ?_
                      refine ok.mul (show _ ≤ a_8u87.toInt * (5 : Int) ∧ a_8u87.toInt * (5 : Int) ≤ _ from by omega) (fun x29 hx29 => ?_)
                      have hx29 : x29.toInt = a_8u87.toInt * (5 : Int) := hx29
                      refine ok.add (show _ ≤ x29.toInt + a_10u87.toInt ∧ x29.toInt + a_10u87.toInt ≤ _ from by omega) (fun x30 hx30 => ?_)
                      have hx30 : x30.toInt = x29.toInt + a_10u87.toInt := hx30
                      refine ok.add (show _ ≤ a_4u87.toInt + a_10u87.toInt ∧ a_4u87.toInt + a_10u87.toInt ≤ _ from by omega) (fun x31 hx31 => ?_)
                      have hx31 : x31.toInt = a_4u87.toInt + a_10u87.toInt := hx31
                      refine ok.ck (show 0 ≤ x31.toInt ∧ x31.toInt < ((164 : Nat) : Int) from by omega) ?_
                      refine ok.letE (v1 := (X.1 54 (ix x31))) (hFu87.1 54 (ix x31) n10800_Qv0) ?_
                      refine ok.ck (show 0 ≤ x30.toInt ∧ x30.toInt < ((7745 : Nat) : Int) from by omega) ?_
                      refine ok.wI (L := [1200]) hIu87 (show True from trivial) (show (1200 : Nat) ∈ [1200] from by decide) (by decide) (fun Z93 hIZ93 hFZ93 hkZ93 hoZ93 => ?_)
                      refine ok.ite (fun c94 => ?_) (fun c94 => ?_)
                      · skip
                        have g95 := i32_le a_9u87
                        refine ok.add (show _ ≤ a_4u87.toInt + a_10u87.toInt ∧ a_4u87.toInt + a_10u87.toInt ≤ _ from by omega) (fun x35 hx35 => ?_)
                        have hx35 : x35.toInt = a_4u87.toInt + a_10u87.toInt := hx35
                        refine ok.ck (show 0 ≤ x35.toInt ∧ x35.toInt < ((164 : Nat) : Int) from by omega) ?_
                        refine ok.letE (v1 := (X.1 54 (ix x35))) ((hFZ93.1 54 (ix x35) (show (10800 : Nat) ∉ [1200] from by decide)).trans (hFu87.1 54 (ix x35) n10800_Qv0)) ?_
                        refine ok.bd (v_Kinds_hasAny_3 hIZ93) ?_
                        rintro x37 _ rfl
                        refine ok.ite (fun c97 => ?_) (fun c97 => ?_)
                        · skip
                          have g98 := i32_le x37
                          unfold g_Kinds_findOrAdd_221
                          refine ok.inc (by decide) (show _ ≤ a_10u87.toInt + (1) ∧ a_10u87.toInt + (1) ≤ _ from by omega) (fun x34 hx34 => ?_)
                          have hx34 : x34.toInt = a_10u87.toInt + (1) := hx34
                          exact ih_u87 a_2u87 a_4u87 a_7u87 a_8u87 (0 : Int32) x34 Z93 hIZ93 ((Fr.rf.tr hFu87 (fun _ q => q)).tr hFZ93 (by decide)) (show 0 ≤ a_2u87.toInt ∧ a_2u87.toInt ≤ 4 from by omega) (show 0 ≤ a_4u87.toInt ∧ a_4u87.toInt + a_2u87.toInt ≤ 164 from by omega) (show 0 ≤ a_7u87.toInt ∧ a_7u87.toInt ≤ 511 from by omega) (show 0 ≤ a_8u87.toInt ∧ a_8u87.toInt ≤ 1548 from by omega) (show 0 ≤ x34.toInt ∧ x34.toInt ≤ 5 from by omega) (show (5 - x34.toInt).toNat < _ from by omega)
                        · skip
                          unfold g_Kinds_findOrAdd_216
                          unfold g_Kinds_findOrAdd_221
                          refine ok.inc (by decide) (show _ ≤ a_10u87.toInt + (1) ∧ a_10u87.toInt + (1) ≤ _ from by omega) (fun x34 hx34 => ?_)
                          have hx34 : x34.toInt = a_10u87.toInt + (1) := hx34
                          exact ih_u87 a_2u87 a_4u87 a_7u87 a_8u87 (1 : Int32) x34 Z93 hIZ93 ((Fr.rf.tr hFu87 (fun _ q => q)).tr hFZ93 (by decide)) (show 0 ≤ a_2u87.toInt ∧ a_2u87.toInt ≤ 4 from by omega) (show 0 ≤ a_4u87.toInt ∧ a_4u87.toInt + a_2u87.toInt ≤ 164 from by omega) (show 0 ≤ a_7u87.toInt ∧ a_7u87.toInt ≤ 511 from by omega) (show 0 ≤ a_8u87.toInt ∧ a_8u87.toInt ≤ 1548 from by omega) (show 0 ≤ x34.toInt ∧ x34.toInt ≤ 5 from by omega) (show (5 - x34.toInt).toNat < _ from by omega)
                      · skip
                        unfold g_Kinds_findOrAdd_216
                        unfold g_Kinds_findOrAdd_221
                        refine ok.inc (by decide) (show _ ≤ a_10u87.toInt + (1) ∧ a_10u87.toInt + (1) ≤ _ from by omega) (fun x34 hx34 => ?_)
                        have hx34 : x34.toInt = a_10u87.toInt + (1) := hx34
                        exact ih_u87 a_2u87 a_4u87 a_7u87 a_8u87 (1 : Int32) x34 Z93 hIZ93 ((Fr.rf.tr hFu87 (fun _ q => q)).tr hFZ93 (by decide)) (show 0 ≤ a_2u87.toInt ∧ a_2u87.toInt ≤ 4 from by omega) (show 0 ≤ a_4u87.toInt ∧ a_4u87.toInt + a_2u87.toInt ≤ 164 from by omega) (show 0 ≤ a_7u87.toInt ∧ a_7u87.toInt ≤ 511 from by omega) (show 0 ≤ a_8u87.toInt ∧ a_8u87.toInt ≤ 1548 from by omega) (show 0 ≤ x34.toInt ∧ x34.toInt ≤ 5 from by omega) (show (5 - x34.toInt).toNat < _ from by omega)
                exact lpu87 BIG a_2u3 a_4u3 a_7u3 (Zu3.1 3 0) (0 : Int32) (0 : Int32) Z72 hIZ72 ((((((Fr.rf.tr hFu3 (fun _ q => q)).tr hFZ68 (by decide)).tr hFZ69 (by decide)).tr hFZ70 (by decide)).tr hFZ71 (by decide)).tr hFZ72 (by decide)) (show 0 ≤ a_2u3.toInt ∧ a_2u3.toInt ≤ 4 from by omega) (show 0 ≤ a_4u3.toInt ∧ a_4u3.toInt + a_2u3.toInt ≤ 164 from by omega) (show 0 ≤ a_7u3.toInt ∧ a_7u3.toInt ≤ 511 from by omega) (show 0 ≤ (Zu3.1 3 0).toInt ∧ (Zu3.1 3 0).toInt ≤ 1548 from by omega) (show 0 ≤ (0 : Int) ∧ (0 : Int) ≤ 5 from by omega) (show (5 - (0 : Int)).toNat < BIG from ltBIG (show _ < 100000 from by omega))
              · skip
                refine ok.bd (v_Kinds_hasAny_3 hIZ72) ?_
                rintro x39 _ rfl
                refine ok.ite (fun c100 => ?_) (fun c100 => ?_)
                · skip
                  have g101 := i32_le x39
                  unfold g_Kinds_findOrAdd_166
                  unfold g_Kinds_findOrAdd_167
                  have lpu102 : ∀ (n : Nat), ∀ (a_2u102 : Int32) (a_4u102 : Int32) (a_7u102 : Int32) (a_8u102 : Int32) (a_9u102 : Int32) (a_10u102 : Int32) (Zu102 : St), INV Zu102 → Fr YC Qv0 X Zu102 → (0 ≤ a_2u102.toInt ∧ a_2u102.toInt ≤ 4) → (0 ≤ a_4u102.toInt ∧ a_4u102.toInt + a_2u102.toInt ≤ 164) → (0 ≤ a_7u102.toInt ∧ a_7u102.toInt ≤ 511) → (0 ≤ a_8u102.toInt ∧ a_8u102.toInt ≤ 1548) → (0 ≤ a_10u102.toInt ∧ a_10u102.toInt ≤ 5) → (5 - a_10u102.toInt).toNat < n → ok (g_Kinds_findOrAdd_172 n 3 a_2u102 54 a_4u102 a_7u102 a_8u102 a_9u102 a_10u102 Zu102) (fun r Y => (Fr YC Qv0 X Y ∧ INV Y)) := by
                    intro n
                    unfold g_Kinds_findOrAdd_172
                    refine lp_indN (P := fun (n : Nat) (r_u102 : Nat → Int32 → Nat → Int32 → Int32 → Int32 → Int32 → Int32 → St → Option (Int32 × St)) => ∀ (a_2u102 : Int32) (a_4u102 : Int32) (a_7u102 : Int32) (a_8u102 : Int32) (a_9u102 : Int32) (a_10u102 : Int32) (Zu102 : St), INV Zu102 → Fr YC Qv0 X Zu102 → (0 ≤ a_2u102.toInt ∧ a_2u102.toInt ≤ 4) → (0 ≤ a_4u102.toInt ∧ a_4u102.toInt + a_2u102.toInt ≤ 164) → (0 ≤ a_7u102.toInt ∧ a_7u102.toInt ≤ 511) → (0 ≤ a_8u102.toInt ∧ a_8u102.toInt ≤ 1548) → (0 ≤ a_10u102.toInt ∧ a_10u102.toInt ≤ 5) → (5 - a_10u102.toInt).toNat < n → ok (r_u102 3 a_2u102 54 a_4u102 a_7u102 a_8u102 a_9u102 a_10u102 Zu102) (fun r Y => (Fr YC Qv0 X Y ∧ INV Y))) ?_ ?_ n
                    · intro a_2u102 a_4u102 a_7u102 a_8u102 a_9u102 a_10u102 Zu102 hIu102 hFu102 u102_0 u102_1 u102_2 u102_3 u102_4  hm; exact absurd hm (Nat.not_lt_zero _)
                    · intro n r_u102 ih_u102 a_2u102 a_4u102 a_7u102 a_8u102 a_9u102 a_10u102 Zu102 hIu102 hFu102 u102_0 u102_1 u102_2 u102_3 u102_4  hmu102
                      unfold g_Kinds_findOrAdd_172_s
                      refine ok.ite (fun c103 => ?_) (fun c103 => ?_)
                      · skip
                        refine ok.letE (v1 := 8) (by decide) ?_
                        refine ok.ck (show 0 ≤ a_8u102.toInt ∧ a_8u102.toInt < ((1549 : Nat) : Int) from by omega) ?_
                        refine ok.wI (L := [1600]) hIu102 (show True from trivial) (show (1600 : Nat) ∈ [1600] from by decide) (by decide) (fun Z104 hIZ104 hFZ104 hkZ104 hoZ104 => ?_)
                        refine ok.letE (v1 := 10) (by decide) ?_
                        refine ok.letE (v1 := 9) (by decide) ?_
                        refine ok.ck (show 0 ≤ a_7u102.toInt ∧ a_7u102.toInt < ((512 : Nat) : Int) from by omega) ?_
                        refine ok.letE (v1 := (Zu102.1 9 (ix a_7u102))) (hFZ104.1 9 (ix a_7u102) (show (1800 : Nat) ∉ [1600] from by decide)) ?_
                        have g105 : -1 ≤ (Zu102.1 9 (ix a_7u102)).toInt ∧ (Zu102.1 9 (ix a_7u102)).toInt ≤ 1548 := hIu102.1 9 (ix a_7u102)
                        refine ok.ck (show 0 ≤ a_8u102.toInt ∧ a_8u102.toInt < ((1549 : Nat) : Int) from by omega) ?_
                        refine ok.wI (L := [2000]) hIZ104 (show -1 ≤ (Zu102.1 9 (ix a_7u102)).toInt ∧ (Zu102.1 9 (ix a_7u102)).toInt ≤ 1548 from by omega) (show (2000 : Nat) ∈ [2000] from by decide) (by decide) (fun Z106 hIZ106 hFZ106 hkZ106 hoZ106 => ?_)
                        refine ok.letE (v1 := 9) (by decide) ?_
                        refine ok.ck (show 0 ≤ a_7u102.toInt ∧ a_7u102.toInt < ((512 : Nat) : Int) from by omega) ?_
                        refine ok.wI (L := [1800]) hIZ106 (show -1 ≤ a_8u102.toInt ∧ a_8u102.toInt ≤ 1548 from by omega) (show (1800 : Nat) ∈ [1800] from by decide) (by decide) (fun Z107 hIZ107 hFZ107 hkZ107 hoZ107 => ?_)
                        exact ok.ret ⟨((((Fr.rf.tr hFu102 (fun _ q => q)).tr hFZ104 (by decide)).tr hFZ106 (by decide)).tr hFZ107 (by decide)), hIZ107⟩
                      · skip
                        refine ok.letE (v1 := 6) (by decide) ?_
                        refine ok.mul (show _ ≤ a_8u102.toInt * (5 : Int) ∧ a_8u102.toInt * (5 : Int) ≤ _ from by omega) (fun x29 hx29 => ?_)
                        have hx29 : x29.toInt = a_8u102.toInt * (5 : Int) := hx29
                        refine ok.add (show _ ≤ x29.toInt + a_10u102.toInt ∧ x29.toInt + a_10u102.toInt ≤ _ from by omega) (fun x30 hx30 => ?_)
                        have hx30 : x30.toInt = x29.toInt + a_10u102.toInt := hx30
                        refine ok.add (show _ ≤ a_4u102.toInt + a_10u102.toInt ∧ a_4u102.toInt + a_10u102.toInt ≤ _ from by omega) (fun x31 hx31 => ?_)
                        have hx31 : x31.toInt = a_4u102.toInt + a_10u102.toInt := hx31
                        refine ok.ck (show 0 ≤ x31.toInt ∧ x31.toInt < ((164 : Nat) : Int) from by omega) ?_
                        refine ok.letE (v1 := (X.1 54 (ix x31))) (hFu102.1 54 (ix x31) n10800_Qv0) ?_
                        refine ok.ck (show 0 ≤ x30.toInt ∧ x30.toInt < ((7745 : Nat) : Int) from by omega) ?_
                        refine ok.wI (L := [1200]) hIu102 (show True from trivial) (show (1200 : Nat) ∈ [1200] from by decide) (by decide) (fun Z108 hIZ108 hFZ108 hkZ108 hoZ108 => ?_)
                        refine ok.ite (fun c109 => ?_) (fun c109 => ?_)
                        · skip
                          have g110 := i32_le a_9u102
                          refine ok.add (show _ ≤ a_4u102.toInt + a_10u102.toInt ∧ a_4u102.toInt + a_10u102.toInt ≤ _ from by omega) (fun x35 hx35 => ?_)
                          have hx35 : x35.toInt = a_4u102.toInt + a_10u102.toInt := hx35
                          refine ok.ck (show 0 ≤ x35.toInt ∧ x35.toInt < ((164 : Nat) : Int) from by omega) ?_
                          refine ok.letE (v1 := (X.1 54 (ix x35))) ((hFZ108.1 54 (ix x35) (show (10800 : Nat) ∉ [1200] from by decide)).trans (hFu102.1 54 (ix x35) n10800_Qv0)) ?_
                          refine ok.bd (v_Kinds_hasAny_3 hIZ108) ?_
                          rintro x37 _ rfl
                          refine ok.ite (fun c112 => ?_) (fun c112 => ?_)
                          · skip
                            have g113 := i32_le x37
                            unfold g_Kinds_findOrAdd_221
                            refine ok.inc (by decide) (show _ ≤ a_10u102.toInt + (1) ∧ a_10u102.toInt + (1) ≤ _ from by omega) (fun x34 hx34 => ?_)
                            have hx34 : x34.toInt = a_10u102.toInt + (1) := hx34
                            exact ih_u102 a_2u102 a_4u102 a_7u102 a_8u102 (0 : Int32) x34 Z108 hIZ108 ((Fr.rf.tr hFu102 (fun _ q => q)).tr hFZ108 (by decide)) (show 0 ≤ a_2u102.toInt ∧ a_2u102.toInt ≤ 4 from by omega) (show 0 ≤ a_4u102.toInt ∧ a_4u102.toInt + a_2u102.toInt ≤ 164 from by omega) (show 0 ≤ a_7u102.toInt ∧ a_7u102.toInt ≤ 511 from by omega) (show 0 ≤ a_8u102.toInt ∧ a_8u102.toInt ≤ 1548 from by omega) (show 0 ≤ x34.toInt ∧ x34.toInt ≤ 5 from by omega) (show (5 - x34.toInt).toNat < _ from by omega)
                          · skip
                            unfold g_Kinds_findOrAdd_216
                            unfold g_Kinds_findOrAdd_221
                            refine ok.inc (by decide) (show _ ≤ a_10u102.toInt + (1) ∧ a_10u102.toInt + (1) ≤ _ from by omega) (fun x34 hx34 => ?_)
                            have hx34 : x34.toInt = a_10u102.toInt + (1) := hx34
                            exact ih_u102 a_2u102 a_4u102 a_7u102 a_8u102 (1 : Int32) x34 Z108 hIZ108 ((Fr.rf.tr hFu102 (fun _ q => q)).tr hFZ108 (by decide)) (show 0 ≤ a_2u102.toInt ∧ a_2u102.toInt ≤ 4 from by omega) (show 0 ≤ a_4u102.toInt ∧ a_4u102.toInt + a_2u102.toInt ≤ 164 from by omega) (show 0 ≤ a_7u102.toInt ∧ a_7u102.toInt ≤ 511 from by omega) (show 0 ≤ a_8u102.toInt ∧ a_8u102.toInt ≤ 1548 from by omega) (show 0 ≤ x34.toInt ∧ x34.toInt ≤ 5 from by omega) (show (5 - x34.toInt).toNat < _ from by omega)
                        · skip
                          unfold g_Kinds_findOrAdd_216
                          unfold g_Kinds_findOrAdd_221
                          refine ok.inc (by decide) (show _ ≤ a_10u102.toInt + (1) ∧ a_10u102.toInt + (1) ≤ _ from by omega) (fun x34 hx34 => ?_)
                          have hx34 : x34.toInt = a_10u102.toInt + (1) := hx34
                          exact ih_u102 a_2u102 a_4u102 a_7u102 a_8u102 (1 : Int32) x34 Z108 hIZ108 ((Fr.rf.tr hFu102 (fun _ q => q)).tr hFZ108 (by decide)) (show 0 ≤ a_2u102.toInt ∧ a_2u102.toInt ≤ 4 from by omega) (show 0 ≤ a_4u102.toInt ∧ a_4u102.toInt + a_2u102.toInt ≤ 164 from by omega) (show 0 ≤ a_7u102.toInt ∧ a_7u102.toInt ≤ 511 from by omega) (show 0 ≤ a_8u102.toInt ∧ a_8u102.toInt ≤ 1548 from by omega) (show 0 ≤ x34.toInt ∧ x34.toInt ≤ 5 from by omega) (show (5 - x34.toInt).toNat < _ from by omega)
                  exact lpu102 BIG a_2u3 a_4u3 a_7u3 (Zu3.1 3 0) (0 : Int32) (0 : Int32) Z72 hIZ72 ((((((Fr.rf.tr hFu3 (fun _ q => q)).tr hFZ68 (by decide)).tr hFZ69 (by decide)).tr hFZ70 (by decide)).tr hFZ71 (by decide)).tr hFZ72 (by decide)) (show 0 ≤ a_2u3.toInt ∧ a_2u3.toInt ≤ 4 from by omega) (show 0 ≤ a_4u3.toInt ∧ a_4u3.toInt + a_2u3.toInt ≤ 164 from by omega) (show 0 ≤ a_7u3.toInt ∧ a_7u3.toInt ≤ 511 from by omega) (show 0 ≤ (Zu3.1 3 0).toInt ∧ (Zu3.1 3 0).toInt ≤ 1548 from by omega) (show 0 ≤ (0 : Int) ∧ (0 : Int) ≤ 5 from by omega) (show (5 - (0 : Int)).toNat < BIG from ltBIG (show _ < 100000 from by omega))
                · skip
                  unfold g_Kinds_findOrAdd_162
                  unfold g_Kinds_findOrAdd_167
                  have lpu114 : ∀ (n : Nat), ∀ (a_2u114 : Int32) (a_4u114 : Int32) (a_7u114 : Int32) (a_8u114 : Int32) (a_9u114 : Int32) (a_10u114 : Int32) (Zu114 : St), INV Zu114 → Fr YC Qv0 X Zu114 → (0 ≤ a_2u114.toInt ∧ a_2u114.toInt ≤ 4) → (0 ≤ a_4u114.toInt ∧ a_4u114.toInt + a_2u114.toInt ≤ 164) → (0 ≤ a_7u114.toInt ∧ a_7u114.toInt ≤ 511) → (0 ≤ a_8u114.toInt ∧ a_8u114.toInt ≤ 1548) → (0 ≤ a_10u114.toInt ∧ a_10u114.toInt ≤ 5) → (5 - a_10u114.toInt).toNat < n → ok (g_Kinds_findOrAdd_172 n 3 a_2u114 54 a_4u114 a_7u114 a_8u114 a_9u114 a_10u114 Zu114) (fun r Y => (Fr YC Qv0 X Y ∧ INV Y)) := by
                    intro n
                    unfold g_Kinds_findOrAdd_172
                    refine lp_indN (P := fun (n : Nat) (r_u114 : Nat → Int32 → Nat → Int32 → Int32 → Int32 → Int32 → Int32 → St → Option (Int32 × St)) => ∀ (a_2u114 : Int32) (a_4u114 : Int32) (a_7u114 : Int32) (a_8u114 : Int32) (a_9u114 : Int32) (a_10u114 : Int32) (Zu114 : St), INV Zu114 → Fr YC Qv0 X Zu114 → (0 ≤ a_2u114.toInt ∧ a_2u114.toInt ≤ 4) → (0 ≤ a_4u114.toInt ∧ a_4u114.toInt + a_2u114.toInt ≤ 164) → (0 ≤ a_7u114.toInt ∧ a_7u114.toInt ≤ 511) → (0 ≤ a_8u114.toInt ∧ a_8u114.toInt ≤ 1548) → (0 ≤ a_10u114.toInt ∧ a_10u114.toInt ≤ 5) → (5 - a_10u114.toInt).toNat < n → ok (r_u114 3 a_2u114 54 a_4u114 a_7u114 a_8u114 a_9u114 a_10u114 Zu114) (fun r Y => (Fr YC Qv0 X Y ∧ INV Y))) ?_ ?_ n
                    · intro a_2u114 a_4u114 a_7u114 a_8u114 a_9u114 a_10u114 Zu114 hIu114 hFu114 u114_0 u114_1 u114_2 u114_3 u114_4  hm; exact absurd hm (Nat.not_lt_zero _)
                    · intro n r_u114 ih_u114 a_2u114 a_4u114 a_7u114 a_8u114 a_9u114 a_10u114 Zu114 hIu114 hFu114 u114_0 u114_1 u114_2 u114_3 u114_4  hmu114
                      unfold g_Kinds_findOrAdd_172_s
                      refine ok.ite (fun c115 => ?_) (fun c115 => ?_)
                      · skip
                        refine ok.letE (v1 := 8) (by decide) ?_
                        refine ok.ck (show 0 ≤ a_8u114.toInt ∧ a_8u114.toInt < ((1549 : Nat) : Int) from by omega) ?_
                        refine ok.wI (L := [1600]) hIu114 (show True from trivial) (show (1600 : Nat) ∈ [1600] from by decide) (by decide) (fun Z116 hIZ116 hFZ116 hkZ116 hoZ116 => ?_)
                        refine ok.letE (v1 := 10) (by decide) ?_
                        refine ok.letE (v1 := 9) (by decide) ?_
                        refine ok.ck (show 0 ≤ a_7u114.toInt ∧ a_7u114.toInt < ((512 : Nat) : Int) from by omega) ?_
                        refine ok.letE (v1 := (Zu114.1 9 (ix a_7u114))) (hFZ116.1 9 (ix a_7u114) (show (1800 : Nat) ∉ [1600] from by decide)) ?_
                        have g117 : -1 ≤ (Zu114.1 9 (ix a_7u114)).toInt ∧ (Zu114.1 9 (ix a_7u114)).toInt ≤ 1548 := hIu114.1 9 (ix a_7u114)
                        refine ok.ck (show 0 ≤ a_8u114.toInt ∧ a_8u114.toInt < ((1549 : Nat) : Int) from by omega) ?_
                        refine ok.wI (L := [2000]) hIZ116 (show -1 ≤ (Zu114.1 9 (ix a_7u114)).toInt ∧ (Zu114.1 9 (ix a_7u114)).toInt ≤ 1548 from by omega) (show (2000 : Nat) ∈ [2000] from by decide) (by decide) (fun Z118 hIZ118 hFZ118 hkZ118 hoZ118 => ?_)
                        refine ok.letE (v1 := 9) (by decide) ?_
                        refine ok.ck (show 0 ≤ a_7u114.toInt ∧ a_7u114.toInt < ((512 : Nat) : Int) from by omega) ?_
                        refine ok.wI (L := [1800]) hIZ118 (show -1 ≤ a_8u114.toInt ∧ a_8u114.toInt ≤ 1548 from by omega) (show (1800 : Nat) ∈ [1800] from by decide) (by decide) (fun Z119 hIZ119 hFZ119 hkZ119 hoZ119 => ?_)
                        exact ok.ret ⟨((((Fr.rf.tr hFu114 (fun _ q => q)).tr hFZ116 (by decide)).tr hFZ118 (by decide)).tr hFZ119 (by decide)), hIZ119⟩
                      · skip
                        refine ok.letE (v1 := 6) (by decide) ?_
                        refine ok.mul (show _ ≤ a_8u114.toInt * (5 : Int) ∧ a_8u114.toInt * (5 : Int) ≤ _ from by omega) (fun x29 hx29 => ?_)
                        have hx29 : x29.toInt = a_8u114.toInt * (5 : Int) := hx29
                        refine ok.add (show _ ≤ x29.toInt + a_10u114.toInt ∧ x29.toInt + a_10u114.toInt ≤ _ from by omega) (fun x30 hx30 => ?_)
                        have hx30 : x30.toInt = x29.toInt + a_10u114.toInt := hx30
                        refine ok.add (show _ ≤ a_4u114.toInt + a_10u114.toInt ∧ a_4u114.toInt + a_10u114.toInt ≤ _ from by omega) (fun x31 hx31 => ?_)
                        have hx31 : x31.toInt = a_4u114.toInt + a_10u114.toInt := hx31
                        refine ok.ck (show 0 ≤ x31.toInt ∧ x31.toInt < ((164 : Nat) : Int) from by omega) ?_
                        refine ok.letE (v1 := (X.1 54 (ix x31))) (hFu114.1 54 (ix x31) n10800_Qv0) ?_
                        refine ok.ck (show 0 ≤ x30.toInt ∧ x30.toInt < ((7745 : Nat) : Int) from by omega) ?_
                        refine ok.wI (L := [1200]) hIu114 (show True from trivial) (show (1200 : Nat) ∈ [1200] from by decide) (by decide) (fun Z120 hIZ120 hFZ120 hkZ120 hoZ120 => ?_)
                        refine ok.ite (fun c121 => ?_) (fun c121 => ?_)
                        · skip
                          have g122 := i32_le a_9u114
                          refine ok.add (show _ ≤ a_4u114.toInt + a_10u114.toInt ∧ a_4u114.toInt + a_10u114.toInt ≤ _ from by omega) (fun x35 hx35 => ?_)
                          have hx35 : x35.toInt = a_4u114.toInt + a_10u114.toInt := hx35
                          refine ok.ck (show 0 ≤ x35.toInt ∧ x35.toInt < ((164 : Nat) : Int) from by omega) ?_
                          refine ok.letE (v1 := (X.1 54 (ix x35))) ((hFZ120.1 54 (ix x35) (show (10800 : Nat) ∉ [1200] from by decide)).trans (hFu114.1 54 (ix x35) n10800_Qv0)) ?_
                          refine ok.bd (v_Kinds_hasAny_3 hIZ120) ?_
                          rintro x37 _ rfl
                          refine ok.ite (fun c124 => ?_) (fun c124 => ?_)
                          · skip
                            have g125 := i32_le x37
                            unfold g_Kinds_findOrAdd_221
                            refine ok.inc (by decide) (show _ ≤ a_10u114.toInt + (1) ∧ a_10u114.toInt + (1) ≤ _ from by omega) (fun x34 hx34 => ?_)
                            have hx34 : x34.toInt = a_10u114.toInt + (1) := hx34
                            exact ih_u114 a_2u114 a_4u114 a_7u114 a_8u114 (0 : Int32) x34 Z120 hIZ120 ((Fr.rf.tr hFu114 (fun _ q => q)).tr hFZ120 (by decide)) (show 0 ≤ a_2u114.toInt ∧ a_2u114.toInt ≤ 4 from by omega) (show 0 ≤ a_4u114.toInt ∧ a_4u114.toInt + a_2u114.toInt ≤ 164 from by omega) (show 0 ≤ a_7u114.toInt ∧ a_7u114.toInt ≤ 511 from by omega) (show 0 ≤ a_8u114.toInt ∧ a_8u114.toInt ≤ 1548 from by omega) (show 0 ≤ x34.toInt ∧ x34.toInt ≤ 5 from by omega) (show (5 - x34.toInt).toNat < _ from by omega)
                          · skip
                            unfold g_Kinds_findOrAdd_216
                            unfold g_Kinds_findOrAdd_221
                            refine ok.inc (by decide) (show _ ≤ a_10u114.toInt + (1) ∧ a_10u114.toInt + (1) ≤ _ from by omega) (fun x34 hx34 => ?_)
                            have hx34 : x34.toInt = a_10u114.toInt + (1) := hx34
                            exact ih_u114 a_2u114 a_4u114 a_7u114 a_8u114 (1 : Int32) x34 Z120 hIZ120 ((Fr.rf.tr hFu114 (fun _ q => q)).tr hFZ120 (by decide)) (show 0 ≤ a_2u114.toInt ∧ a_2u114.toInt ≤ 4 from by omega) (show 0 ≤ a_4u114.toInt ∧ a_4u114.toInt + a_2u114.toInt ≤ 164 from by omega) (show 0 ≤ a_7u114.toInt ∧ a_7u114.toInt ≤ 511 from by omega) (show 0 ≤ a_8u114.toInt ∧ a_8u114.toInt ≤ 1548 from by omega) (show 0 ≤ x34.toInt ∧ x34.toInt ≤ 5 from by omega) (show (5 - x34.toInt).toNat < _ from by omega)
                        · skip
                          unfold g_Kinds_findOrAdd_216
                          unfold g_Kinds_findOrAdd_221
                          refine ok.inc (by decide) (show _ ≤ a_10u114.toInt + (1) ∧ a_10u114.toInt + (1) ≤ _ from by omega) (fun x34 hx34 => ?_)
                          have hx34 : x34.toInt = a_10u114.toInt + (1) := hx34
                          exact ih_u114 a_2u114 a_4u114 a_7u114 a_8u114 (1 : Int32) x34 Z120 hIZ120 ((Fr.rf.tr hFu114 (fun _ q => q)).tr hFZ120 (by decide)) (show 0 ≤ a_2u114.toInt ∧ a_2u114.toInt ≤ 4 from by omega) (show 0 ≤ a_4u114.toInt ∧ a_4u114.toInt + a_2u114.toInt ≤ 164 from by omega) (show 0 ≤ a_7u114.toInt ∧ a_7u114.toInt ≤ 511 from by omega) (show 0 ≤ a_8u114.toInt ∧ a_8u114.toInt ≤ 1548 from by omega) (show 0 ≤ x34.toInt ∧ x34.toInt ≤ 5 from by omega) (show (5 - x34.toInt).toNat < _ from by omega)
                  exact lpu114 BIG a_2u3 a_4u3 a_7u3 (Zu3.1 3 0) (1 : Int32) (0 : Int32) Z72 hIZ72 ((((((Fr.rf.tr hFu3 (fun _ q => q)).tr hFZ68 (by decide)).tr hFZ69 (by decide)).tr hFZ70 (by decide)).tr hFZ71 (by decide)).tr hFZ72 (by decide)) (show 0 ≤ a_2u3.toInt ∧ a_2u3.toInt ≤ 4 from by omega) (show 0 ≤ a_4u3.toInt ∧ a_4u3.toInt + a_2u3.toInt ≤ 164 from by omega) (show 0 ≤ a_7u3.toInt ∧ a_7u3.toInt ≤ 511 from by omega) (show 0 ≤ (Zu3.1 3 0).toInt ∧ (Zu3.1 3 0).toInt ≤ 1548 from by omega) (show 0 ≤ (0 : Int) ∧ (0 : Int) ≤ 5 from by omega) (show (5 - (0 : Int)).toNat < BIG from ltBIG (show _ < 100000 from by omega))
          · skip
            exact ok.ret ⟨(Fr.rf.tr hFu3 (fun _ q => q)), hIu3⟩
        · skip
          refine ok.letE (v1 := 4) (by decide) ?_
          refine ok.ck (show 0 ≤ a_8u3.toInt ∧ a_8u3.toInt < ((1549 : Nat) : Int) from by omega) ?_
          refine ok.letE (v1 := (Zu3.1 4 (ix a_8u3))) rfl ?_
          refine ok.ite (fun c126 => ?_) (fun c126 => ?_)
          · skip
            have g127 := i32_le (Zu3.1 4 (ix a_8u3))
            refine ok.bd (v_Kinds_isSame_3_54 hIu3 (show 0 ≤ a_8u3.toInt ∧ a_8u3.toInt ≤ 1548 from by omega) (show 0 ≤ a_2u3.toInt ∧ a_2u3.toInt ≤ 4 from by omega) (show 0 ≤ a_4u3.toInt ∧ a_4u3.toInt + a_2u3.toInt ≤ 164 from by omega)) ?_
            rintro x46 _ rfl
            refine ok.ite (fun c129 => ?_) (fun c129 => ?_)
            · skip
              have g130 := i32_le x46
              unfold g_Kinds_findOrAdd_62
              refine ok.letE (v1 := 10) (by decide) ?_
              refine ok.ck (show 0 ≤ a_8u3.toInt ∧ a_8u3.toInt < ((1549 : Nat) : Int) from by omega) ?_
              refine ok.letE (v1 := (Zu3.1 10 (ix a_8u3))) rfl ?_
              have g131 : -1 ≤ (Zu3.1 10 (ix a_8u3)).toInt ∧ (Zu3.1 10 (ix a_8u3)).toInt ≤ 1548 := hIu3.1 10 (ix a_8u3)
              refine ok.inc (by decide) (show _ ≤ a_9u3.toInt + (1) ∧ a_9u3.toInt + (1) ≤ _ from by omega) (fun x45 hx45 => ?_)
              have hx45 : x45.toInt = a_9u3.toInt + (1) := hx45
              exact ih_u3 a_1u3 a_2u3 a_4u3 a_5u3 a_6u3 a_7u3 (Zu3.1 10 (ix a_8u3)) x45 Zu3 hIu3 (Fr.rf.tr hFu3 (fun _ q => q)) (show 0 ≤ a_1u3.toInt ∧ a_1u3.toInt ≤ 4 from by omega) (show 0 ≤ a_2u3.toInt ∧ a_2u3.toInt ≤ 4 from by omega) (show 0 ≤ a_4u3.toInt ∧ a_4u3.toInt + a_2u3.toInt ≤ 164 from by omega) (show 0 ≤ a_7u3.toInt ∧ a_7u3.toInt ≤ 511 from by omega) (show -1 ≤ (Zu3.1 10 (ix a_8u3)).toInt ∧ (Zu3.1 10 (ix a_8u3)).toInt ≤ 1548 from by omega) (show 0 ≤ x45.toInt ∧ x45.toInt ≤ 1549 from by omega) (show (1550 - x45.toInt).toNat < _ from by omega)
            · skip
              exact ok.ret ⟨(Fr.rf.tr hFu3 (fun _ q => q)), hIu3⟩
          · skip
            unfold g_Kinds_findOrAdd_62
            refine ok.letE (v1 := 10) (by decide) ?_
            refine ok.ck (show 0 ≤ a_8u3.toInt ∧ a_8u3.toInt < ((1549 : Nat) : Int) from by omega) ?_
            refine ok.letE (v1 := (Zu3.1 10 (ix a_8u3))) rfl ?_
            have g132 : -1 ≤ (Zu3.1 10 (ix a_8u3)).toInt ∧ (Zu3.1 10 (ix a_8u3)).toInt ≤ 1548 := hIu3.1 10 (ix a_8u3)
            refine ok.inc (by decide) (show _ ≤ a_9u3.toInt + (1) ∧ a_9u3.toInt + (1) ≤ _ from by omega) (fun x45 hx45 => ?_)
            have hx45 : x45.toInt = a_9u3.toInt + (1) := hx45
            exact ih_u3 a_1u3 a_2u3 a_4u3 a_5u3 a_6u3 a_7u3 (Zu3.1 10 (ix a_8u3)) x45 Zu3 hIu3 (Fr.rf.tr hFu3 (fun _ q => q)) (show 0 ≤ a_1u3.toInt ∧ a_1u3.toInt ≤ 4 from by omega) (show 0 ≤ a_2u3.toInt ∧ a_2u3.toInt ≤ 4 from by omega) (show 0 ≤ a_4u3.toInt ∧ a_4u3.toInt + a_2u3.toInt ≤ 164 from by omega) (show 0 ≤ a_7u3.toInt ∧ a_7u3.toInt ≤ 511 from by omega) (show -1 ≤ (Zu3.1 10 (ix a_8u3)).toInt ∧ (Zu3.1 10 (ix a_8u3)).toInt ≤ 1548 from by omega) (show 0 ≤ x45.toInt ∧ x45.toInt ≤ 1549 from by omega) (show (1550 - x45.toInt).toNat < _ from by omega)
  exact lpu3 BIG p1 p2 p4 p5 p6 x1 (X.1 9 (ix x1)) (0 : Int32) X hI (Fr.rf : Fr YC Qv0 _ _) (show 0 ≤ p1.toInt ∧ p1.toInt ≤ 4 from by omega) (show 0 ≤ p2.toInt ∧ p2.toInt ≤ 4 from by omega) (show 0 ≤ p4.toInt ∧ p4.toInt + p2.toInt ≤ 164 from by omega) (show 0 ≤ x1.toInt ∧ x1.toInt ≤ 511 from by omega) (show -1 ≤ (X.1 9 (ix x1)).toInt ∧ (X.1 9 (ix x1)).toInt ≤ 1548 from by omega) (show 0 ≤ (0 : Int) ∧ (0 : Int) ≤ 1549 from by omega) (show (1550 - (0 : Int)).toNat < BIG from ltBIG (show _ < 100000 from by omega))
set_option maxHeartbeats 4000000 in
theorem v_Kinds_functionOf_3_54 {p2 : Int32} {p3 : Int32} {p4 : Int32} {X : St} (hI : INV X) : ok (g_Kinds_functionOf 3 54 p2 p3 p4 X) (fun r Y => (Fr YC Qv0 X Y ∧ INV Y)) := by
  unfold g_Kinds_functionOf
  refine ok.ite (fun c1 => ?_) (fun c1 => ?_)
  · skip
    have g2 := i32_le p3
    exact ok.ret ⟨(Fr.rf : Fr YC Qv0 _ _), hI⟩
  · skip
    have g3 := i32_le p3
    refine ok.ite (fun c4 => ?_) (fun c4 => ?_)
    · skip
      exact ok.ret ⟨(Fr.rf : Fr YC Qv0 _ _), hI⟩
    · skip
      refine ok.ite (fun c5 => ?_) (fun c5 => ?_)
      · skip
        have g6 := i32_le p2
        exact ok.ret ⟨(Fr.rf : Fr YC Qv0 _ _), hI⟩
      · skip
        have g7 := i32_le p2
        refine ok.letE (v1 := (164 : Int32)) (by decide) ?_
        refine ok.sub (show _ ≤ (164 : Int) - p3.toInt ∧ (164 : Int) - p3.toInt ≤ _ from by omega) (fun x2 hx2 => ?_)
        have hx2 : x2.toInt = (164 : Int) - p3.toInt := hx2
        refine ok.ite (fun c8 => ?_) (fun c8 => ?_)
        · skip
          refine ok.add (show _ ≤ (7 : Int) + p3.toInt ∧ (7 : Int) + p3.toInt ≤ _ from by omega) (fun x3 hx3 => ?_)
          have hx3 : x3.toInt = (7 : Int) + p3.toInt := hx3
          have lpu9 : ∀ (n : Nat), ∀ (a_2u9 : Int32) (a_3u9 : Int32) (a_4u9 : Int32) (a_5u9 : Int32) (a_6u9 : Int32) (Zu9 : St), INV Zu9 → Fr YC Qv0 X Zu9 → (0 ≤ a_3u9.toInt ∧ a_3u9.toInt ≤ 4) → (0 ≤ a_2u9.toInt ∧ a_2u9.toInt + a_3u9.toInt ≤ 164) → (0 ≤ a_6u9.toInt ∧ a_6u9.toInt ≤ 5) → (5 - a_6u9.toInt).toNat < n → ok (g_Kinds_functionOf_32 n 3 54 a_2u9 a_3u9 a_4u9 a_5u9 a_6u9 Zu9) (fun r Y => (Fr YC Qv0 X Y ∧ INV Y)) := by
            intro n
            unfold g_Kinds_functionOf_32
            refine lp_indN (P := fun (n : Nat) (r_u9 : Nat → Nat → Int32 → Int32 → Int32 → Int32 → Int32 → St → Option (Int32 × St)) => ∀ (a_2u9 : Int32) (a_3u9 : Int32) (a_4u9 : Int32) (a_5u9 : Int32) (a_6u9 : Int32) (Zu9 : St), INV Zu9 → Fr YC Qv0 X Zu9 → (0 ≤ a_3u9.toInt ∧ a_3u9.toInt ≤ 4) → (0 ≤ a_2u9.toInt ∧ a_2u9.toInt + a_3u9.toInt ≤ 164) → (0 ≤ a_6u9.toInt ∧ a_6u9.toInt ≤ 5) → (5 - a_6u9.toInt).toNat < n → ok (r_u9 3 54 a_2u9 a_3u9 a_4u9 a_5u9 a_6u9 Zu9) (fun r Y => (Fr YC Qv0 X Y ∧ INV Y))) ?_ ?_ n
            · intro a_2u9 a_3u9 a_4u9 a_5u9 a_6u9 Zu9 hIu9 hFu9 u9_0 u9_1 u9_2  hm; exact absurd hm (Nat.not_lt_zero _)
            · intro n r_u9 ih_u9 a_2u9 a_3u9 a_4u9 a_5u9 a_6u9 Zu9 hIu9 hFu9 u9_0 u9_1 u9_2  hmu9
              unfold g_Kinds_functionOf_32_s
              refine ok.ite (fun c10 => ?_) (fun c10 => ?_)
              · skip
                refine ok.any (fun x4 => ?_)
                refine ok.bd (v_Kinds_codeOf_3 hIu9) ?_
                rintro x5 _ rfl
                refine ok.any (fun x7 => ?_)
                refine ok.bd (v_Kinds_findOrAdd_3_54 hIu9 (show 0 ≤ (4 : Int) ∧ (4 : Int) ≤ 4 from by omega) (show 0 ≤ a_3u9.toInt ∧ a_3u9.toInt ≤ 4 from by omega) (show 0 ≤ a_2u9.toInt ∧ a_2u9.toInt + a_3u9.toInt ≤ 164 from by omega)) ?_
                rintro x8 Z13 ⟨hFZ13, hIZ13⟩
                exact ok.ret ⟨((Fr.rf.tr hFu9 (fun _ q => q)).tr hFZ13 (fun _ q => q)), hIZ13⟩
              · skip
                refine ok.any (fun x10 => ?_)
                refine ok.add (show _ ≤ a_2u9.toInt + a_6u9.toInt ∧ a_2u9.toInt + a_6u9.toInt ≤ _ from by omega) (fun x11 hx11 => ?_)
                have hx11 : x11.toInt = a_2u9.toInt + a_6u9.toInt := hx11
                refine ok.ck (show 0 ≤ x11.toInt ∧ x11.toInt < ((164 : Nat) : Int) from by omega) ?_
                refine ok.letE (v1 := (X.1 54 (ix x11))) (hFu9.1 54 (ix x11) n10800_Qv0) ?_
                refine ok.bd (v_Kinds_codeOf_3 hIu9) ?_
                rintro x13 _ rfl
                refine ok.any (fun x15 => ?_)
                refine ok.inc (by decide) (show _ ≤ a_6u9.toInt + (1) ∧ a_6u9.toInt + (1) ≤ _ from by omega) (fun x16 hx16 => ?_)
                have hx16 : x16.toInt = a_6u9.toInt + (1) := hx16
                exact ih_u9 a_2u9 a_3u9 a_4u9 x15 x16 Zu9 hIu9 (Fr.rf.tr hFu9 (fun _ q => q)) (show 0 ≤ a_3u9.toInt ∧ a_3u9.toInt ≤ 4 from by omega) (show 0 ≤ a_2u9.toInt ∧ a_2u9.toInt + a_3u9.toInt ≤ 164 from by omega) (show 0 ≤ x16.toInt ∧ x16.toInt ≤ 5 from by omega) (show (5 - x16.toInt).toNat < _ from by omega)
          exact lpu9 BIG p2 p3 p4 x3 (0 : Int32) X hI (Fr.rf : Fr YC Qv0 _ _) (show 0 ≤ p3.toInt ∧ p3.toInt ≤ 4 from by omega) (show 0 ≤ p2.toInt ∧ p2.toInt + p3.toInt ≤ 164 from by omega) (show 0 ≤ (0 : Int) ∧ (0 : Int) ≤ 5 from by omega) (show (5 - (0 : Int)).toNat < BIG from ltBIG (show _ < 100000 from by omega))
        · skip
          exact ok.ret ⟨(Fr.rf : Fr YC Qv0 _ _), hI⟩
set_option maxHeartbeats 4000000 in
theorem v_Kinds_cutTo_3 {p1 : Int32} {X : St} (hI : INV X) : ok (g_Kinds_cutTo 3 p1 X) (fun r Y => (Fr YC [600, 1800] X Y ∧ INV Y)) := by
  unfold g_Kinds_cutTo
  refine ok.letE (v1 := (X.1 3 0)) rfl ?_
  have g1 : 0 ≤ (X.1 3 0).toInt ∧ (X.1 3 0).toInt ≤ 1549 := hI.1 3 0
  refine ok.sub (show _ ≤ (X.1 3 0).toInt - (1 : Int) ∧ (X.1 3 0).toInt - (1 : Int) ≤ _ from by omega) (fun x2 hx2 => ?_)
  have hx2 : x2.toInt = (X.1 3 0).toInt - (1 : Int) := hx2
  have lpu2 : ∀ (n : Nat), ∀ (a_1u2 : Int32) (a_2u2 : Int32) (Zu2 : St), INV Zu2 → Fr YC [600, 1800] X Zu2 → (-1 ≤ a_2u2.toInt ∧ a_2u2.toInt ≤ 1548) → (a_2u2.toInt + 1).toNat < n → ok (g_Kinds_cutTo_7 n 3 a_1u2 a_2u2 Zu2) (fun r Y => (Fr YC [600, 1800] X Y ∧ INV Y)) := by
    intro n
    unfold g_Kinds_cutTo_7
    refine lp_indN (P := fun (n : Nat) (r_u2 : Nat → Int32 → Int32 → St → Option (Int32 × St)) => ∀ (a_1u2 : Int32) (a_2u2 : Int32) (Zu2 : St), INV Zu2 → Fr YC [600, 1800] X Zu2 → (-1 ≤ a_2u2.toInt ∧ a_2u2.toInt ≤ 1548) → (a_2u2.toInt + 1).toNat < n → ok (r_u2 3 a_1u2 a_2u2 Zu2) (fun r Y => (Fr YC [600, 1800] X Y ∧ INV Y))) ?_ ?_ n
    · intro a_1u2 a_2u2 Zu2 hIu2 hFu2 u2_0  hm; exact absurd hm (Nat.not_lt_zero _)
    · intro n r_u2 ih_u2 a_1u2 a_2u2 Zu2 hIu2 hFu2 u2_0  hmu2
      unfold g_Kinds_cutTo_7_s
      refine ok.ite (fun c3 => ?_) (fun c3 => ?_)
      · skip
        have g4 := i32_le a_1u2
        exact ok.ret ⟨(Fr.rf.tr hFu2 (fun _ q => q)), hIu2⟩
      · skip
        have g5 := i32_le a_1u2
        refine ok.ite (fun c6 => ?_) (fun c6 => ?_)
        · skip
          exact ok.ret ⟨(Fr.rf.tr hFu2 (fun _ q => q)), hIu2⟩
        · skip
          refine ok.letE (v1 := 9) (by decide) ?_
          refine ok.letE (v1 := 7) (by decide) ?_
          refine ok.ck (show 0 ≤ a_2u2.toInt ∧ a_2u2.toInt < ((1549 : Nat) : Int) from by omega) ?_
          refine ok.letE (v1 := (X.1 7 (ix a_2u2))) (hFu2.1 7 (ix a_2u2) (show (1400 : Nat) ∉ [600, 1800] from by decide)) ?_
          refine ok.bd (v_Kinds_bucketOf hIu2) ?_
          rintro x6 _ ⟨rfl, hp7⟩
          have hp7 : 0 ≤ x6.toInt ∧ x6.toInt ≤ 511 := hp7
          refine ok.letE (v1 := 10) (by decide) ?_
          refine ok.ck (show 0 ≤ a_2u2.toInt ∧ a_2u2.toInt < ((1549 : Nat) : Int) from by omega) ?_
          refine ok.letE (v1 := (X.1 10 (ix a_2u2))) (hFu2.1 10 (ix a_2u2) (show (2000 : Nat) ∉ [600, 1800] from by decide)) ?_
          have g8 : -1 ≤ (X.1 10 (ix a_2u2)).toInt ∧ (X.1 10 (ix a_2u2)).toInt ≤ 1548 := hI.1 10 (ix a_2u2)
          refine ok.ck (show 0 ≤ x6.toInt ∧ x6.toInt < ((512 : Nat) : Int) from by omega) ?_
          refine ok.wI (L := [1800]) hIu2 (show -1 ≤ (X.1 10 (ix a_2u2)).toInt ∧ (X.1 10 (ix a_2u2)).toInt ≤ 1548 from by omega) (show (1800 : Nat) ∈ [1800] from by decide) (by decide) (fun Z9 hIZ9 hFZ9 hkZ9 hoZ9 => ?_)
          refine ok.wI (L := [600]) hIZ9 (show 0 ≤ a_2u2.toInt ∧ a_2u2.toInt ≤ 1549 from by omega) (show (600 : Nat) ∈ [600] from by decide) (by decide) (fun Z10 hIZ10 hFZ10 hkZ10 hoZ10 => ?_)
          refine ok.inc (by decide) (show _ ≤ a_2u2.toInt + (-1) ∧ a_2u2.toInt + (-1) ≤ _ from by omega) (fun x12 hx12 => ?_)
          have hx12 : x12.toInt = a_2u2.toInt + (-1) := hx12
          exact ih_u2 a_1u2 x12 Z10 hIZ10 (((Fr.rf.tr hFu2 (fun _ q => q)).tr hFZ9 (by decide)).tr hFZ10 (by decide)) (show -1 ≤ x12.toInt ∧ x12.toInt ≤ 1548 from by omega) (show (x12.toInt + 1).toNat < _ from by omega)
  exact lpu2 BIG p1 x2 X hI (Fr.rf : Fr YC [600, 1800] _ _) (show -1 ≤ x2.toInt ∧ x2.toInt ≤ 1548 from by omega) (show (x2.toInt + 1).toNat < BIG from ltBIG (show _ < 100000 from by omega))
set_option maxHeartbeats 4000000 in
theorem v_Kinds_forgetTexts_3 {X : St} (hI : INV X) : ok (g_Kinds_forgetTexts 3 X) (fun r Y => (Fr YC [600, 1800] X Y ∧ INV Y)) := by
  unfold g_Kinds_forgetTexts
  refine ok.bd (v_Kinds_cutTo_3 hI) ?_
  rintro r_1 Z3 ⟨hFZ3, hIZ3⟩
  exact ok.ret ⟨(Fr.rf.tr hFZ3 (fun _ q => q)), hIZ3⟩
set_option maxHeartbeats 4000000 in
theorem v_Program_emit_2 {p1 : Int32} {p2 : Int32} {p3 : Int32} {X : St} (hI : INV X) (h0 : 0 ≤ p1.toInt ∧ p1.toInt ≤ 36) (h1 : 0 ≤ p3.toInt ∧ p3.toInt ≤ 3000) (h2 : (p1.toInt = 10 ∨ p1.toInt = 16 ∨ p1.toInt = 32) → 0 ≤ p2.toInt ∧ p2.toInt ≤ 9000) : ok (g_Program_emit 2 p1 p2 p3 X) (fun r Y => (Fr YC [406, 4000, 4200, 4400, 4600] X Y ∧ INV Y) ∧ (0 ≤ r.toInt ∧ r.toInt ≤ 9079) ∧ ((X.1 2 6).toInt ≤ (Y.1 2 6).toInt) ∧ ((QX 2 20 21 0 X) → (QX 2 20 21 0 Y)) ∧ ((QX 2 20 21 1 X) → (QX 2 20 21 1 Y))) := by
  unfold g_Program_emit
  refine ok.letE (v1 := (X.1 2 6)) rfl ?_
  have g1 : 0 ≤ (X.1 2 6).toInt ∧ (X.1 2 6).toInt ≤ 9080 := hI.1 2 6
  refine ok.ite (fun c2 => ?_) (fun c2 => ?_)
  · skip
    refine ok.letE (v1 := 20) (by decide) ?_
    refine ok.letE (v1 := (X.1 2 6)) rfl ?_
    refine ok.ck (show 0 ≤ (X.1 2 6).toInt ∧ (X.1 2 6).toInt < ((9080 : Nat) : Int) from by omega) ?_
    refine ok.wI (L := [4000]) hI (show 0 ≤ p1.toInt ∧ p1.toInt ≤ 36 from by omega) (show (4000 : Nat) ∈ [4000] from by decide) (by decide) (fun Z3 hIZ3 hFZ3 hkZ3 hoZ3 => ?_)
    refine ok.letE (v1 := 21) (by decide) ?_
    refine ok.letE (v1 := (X.1 2 6)) (hFZ3.1 2 6 (show (406 : Nat) ∉ [4000] from by decide)) ?_
    refine ok.ck (show 0 ≤ (X.1 2 6).toInt ∧ (X.1 2 6).toInt < ((9080 : Nat) : Int) from by omega) ?_
    refine ok.wI (L := [4200]) hIZ3 (show True from trivial) (show (4200 : Nat) ∈ [4200] from by decide) (by decide) (fun Z4 hIZ4 hFZ4 hkZ4 hoZ4 => ?_)
    refine ok.letE (v1 := 22) (by decide) ?_
    refine ok.letE (v1 := (X.1 2 6)) ((hFZ4.1 2 6 (show (406 : Nat) ∉ [4200] from by decide)).trans (hFZ3.1 2 6 (show (406 : Nat) ∉ [4000] from by decide))) ?_
    refine ok.ck (show 0 ≤ (X.1 2 6).toInt ∧ (X.1 2 6).toInt < ((9080 : Nat) : Int) from by omega) ?_
    refine ok.wI (L := [4400]) hIZ4 (show True from trivial) (show (4400 : Nat) ∈ [4400] from by decide) (by decide) (fun Z5 hIZ5 hFZ5 hkZ5 hoZ5 => ?_)
    refine ok.letE (v1 := 23) (by decide) ?_
    refine ok.letE (v1 := (X.1 2 6)) (((hFZ5.1 2 6 (show (406 : Nat) ∉ [4400] from by decide)).trans (hFZ4.1 2 6 (show (406 : Nat) ∉ [4200] from by decide))).trans (hFZ3.1 2 6 (show (406 : Nat) ∉ [4000] from by decide))) ?_
    refine ok.ck (show 0 ≤ (X.1 2 6).toInt ∧ (X.1 2 6).toInt < ((9080 : Nat) : Int) from by omega) ?_
    refine ok.wI (L := [4600]) hIZ5 (show 0 ≤ p3.toInt ∧ p3.toInt ≤ 3000 from by omega) (show (4600 : Nat) ∈ [4600] from by decide) (by decide) (fun Z6 hIZ6 hFZ6 hkZ6 hoZ6 => ?_)
    refine ok.letE (v1 := (X.1 2 6)) ((((hFZ6.1 2 6 (show (406 : Nat) ∉ [4600] from by decide)).trans (hFZ5.1 2 6 (show (406 : Nat) ∉ [4400] from by decide))).trans (hFZ4.1 2 6 (show (406 : Nat) ∉ [4200] from by decide))).trans (hFZ3.1 2 6 (show (406 : Nat) ∉ [4000] from by decide))) ?_
    refine ok.add (show _ ≤ (X.1 2 6).toInt + (1 : Int) ∧ (X.1 2 6).toInt + (1 : Int) ≤ _ from by omega) (fun x15 hx15 => ?_)
    have hx15 : x15.toInt = (X.1 2 6).toInt + (1 : Int) := hx15
    refine ok.wI (L := [406]) hIZ6 (show 0 ≤ x15.toInt ∧ x15.toInt ≤ 9080 from by omega) (show (406 : Nat) ∈ [406] from by decide) (by decide) (fun Z7 hIZ7 hFZ7 hkZ7 hoZ7 => ?_)
    refine ok.letE (v1 := x15) hkZ7 ?_
    refine ok.sub (show _ ≤ x15.toInt - (1 : Int) ∧ x15.toInt - (1 : Int) ≤ _ from by omega) (fun x18 hx18 => ?_)
    have hx18 : x18.toInt = x15.toInt - (1 : Int) := hx18
    exact ok.ret ⟨⟨(((((Fr.rf.tr hFZ3 (by decide)).tr hFZ4 (by decide)).tr hFZ5 (by decide)).tr hFZ6 (by decide)).tr hFZ7 (by decide)), hIZ7⟩, (show 0 ≤ x18.toInt ∧ x18.toInt ≤ 9079 from by omega), (show (X.1 2 6).toInt ≤ (Z7.1 2 6).toInt from by have := (show 0 ≤ (X.1 2 6).toInt ∧ (X.1 2 6).toInt ≤ 9080 from hI.1 2 6); have := (show (Z7.1 2 6).toInt = x15.toInt from congrArg Int32.toInt hkZ7); omega), (fun hq => (QX.emit hI (show (0 : Int) ≤ 0 from by decide) (ixc (by omega)) (show (Z7.1 2 6).toInt = (X.1 2 6).toInt + 1 from by have := (show (Z7.1 2 6).toInt = x15.toInt from congrArg Int32.toInt hkZ7); have := (show 0 ≤ (X.1 2 6).toInt ∧ (X.1 2 6).toInt ≤ 9080 from hI.1 2 6); omega) (((((hFZ7.1 20 (ix (X.1 2 6)) (show (4000 : Nat) ∉ [406] from by decide)).trans (hFZ6.1 20 (ix (X.1 2 6)) (show (4000 : Nat) ∉ [4600] from by decide))).trans (hFZ5.1 20 (ix (X.1 2 6)) (show (4000 : Nat) ∉ [4400] from by decide))).trans (hFZ4.1 20 (ix (X.1 2 6)) (show (4000 : Nat) ∉ [4200] from by decide))).trans hkZ3) ((((hFZ7.1 21 (ix (X.1 2 6)) (show (4200 : Nat) ∉ [406] from by decide)).trans (hFZ6.1 21 (ix (X.1 2 6)) (show (4200 : Nat) ∉ [4600] from by decide))).trans (hFZ5.1 21 (ix (X.1 2 6)) (show (4200 : Nat) ∉ [4400] from by decide))).trans hkZ4) (fun i hi => ((((hFZ7.1 20 i (show (4000 : Nat) ∉ [406] from by decide)).trans (hFZ6.1 20 i (show (4000 : Nat) ∉ [4600] from by decide))).trans (hFZ5.1 20 i (show (4000 : Nat) ∉ [4400] from by decide))).trans (hFZ4.1 20 i (show (4000 : Nat) ∉ [4200] from by decide))).trans (hoZ3 i hi)) (fun i hi => ((((hFZ7.1 21 i (show (4200 : Nat) ∉ [406] from by decide)).trans (hFZ6.1 21 i (show (4200 : Nat) ∉ [4600] from by decide))).trans (hFZ5.1 21 i (show (4200 : Nat) ∉ [4400] from by decide))).trans (hoZ4 i hi)).trans (hFZ3.1 21 i (show (4200 : Nat) ∉ [4000] from by decide))) (show (p1.toInt = 10 ∨ p1.toInt = 16 ∨ p1.toInt = 32) → 0 ≤ p2.toInt ∧ p2.toInt ≤ 9000 from h2) (show Fr YC [406, 4000, 4200, 4400, 4600] X Z7 from (((((Fr.rf.tr hFZ3 (by decide)).tr hFZ4 (by decide)).tr hFZ5 (by decide)).tr hFZ6 (by decide)).tr hFZ7 (by decide))) ⟨(show (9203 : Nat) ∉ [406, 4000, 4200, 4400, 4600] from by decide), (show (9401 : Nat) ∉ [406, 4000, 4200, 4400, 4600] from by decide), (show (9402 : Nat) ∉ [406, 4000, 4200, 4400, 4600] from by decide), (show (9403 : Nat) ∉ [406, 4000, 4200, 4400, 4600] from by decide), (show (9404 : Nat) ∉ [406, 4000, 4200, 4400, 4600] from by decide), (show (9205 : Nat) ∉ [406, 4000, 4200, 4400, 4600] from by decide)⟩ hq)), (fun hq => (QX.emit hI (show (0 : Int) ≤ 1 from by decide) (ixc (by omega)) (show (Z7.1 2 6).toInt = (X.1 2 6).toInt + 1 from by have := (show (Z7.1 2 6).toInt = x15.toInt from congrArg Int32.toInt hkZ7); have := (show 0 ≤ (X.1 2 6).toInt ∧ (X.1 2 6).toInt ≤ 9080 from hI.1 2 6); omega) (((((hFZ7.1 20 (ix (X.1 2 6)) (show (4000 : Nat) ∉ [406] from by decide)).trans (hFZ6.1 20 (ix (X.1 2 6)) (show (4000 : Nat) ∉ [4600] from by decide))).trans (hFZ5.1 20 (ix (X.1 2 6)) (show (4000 : Nat) ∉ [4400] from by decide))).trans (hFZ4.1 20 (ix (X.1 2 6)) (show (4000 : Nat) ∉ [4200] from by decide))).trans hkZ3) ((((hFZ7.1 21 (ix (X.1 2 6)) (show (4200 : Nat) ∉ [406] from by decide)).trans (hFZ6.1 21 (ix (X.1 2 6)) (show (4200 : Nat) ∉ [4600] from by decide))).trans (hFZ5.1 21 (ix (X.1 2 6)) (show (4200 : Nat) ∉ [4400] from by decide))).trans hkZ4) (fun i hi => ((((hFZ7.1 20 i (show (4000 : Nat) ∉ [406] from by decide)).trans (hFZ6.1 20 i (show (4000 : Nat) ∉ [4600] from by decide))).trans (hFZ5.1 20 i (show (4000 : Nat) ∉ [4400] from by decide))).trans (hFZ4.1 20 i (show (4000 : Nat) ∉ [4200] from by decide))).trans (hoZ3 i hi)) (fun i hi => ((((hFZ7.1 21 i (show (4200 : Nat) ∉ [406] from by decide)).trans (hFZ6.1 21 i (show (4200 : Nat) ∉ [4600] from by decide))).trans (hFZ5.1 21 i (show (4200 : Nat) ∉ [4400] from by decide))).trans (hoZ4 i hi)).trans (hFZ3.1 21 i (show (4200 : Nat) ∉ [4000] from by decide))) (show (p1.toInt = 10 ∨ p1.toInt = 16 ∨ p1.toInt = 32) → 0 ≤ p2.toInt ∧ p2.toInt ≤ 9000 from h2) (show Fr YC [406, 4000, 4200, 4400, 4600] X Z7 from (((((Fr.rf.tr hFZ3 (by decide)).tr hFZ4 (by decide)).tr hFZ5 (by decide)).tr hFZ6 (by decide)).tr hFZ7 (by decide))) ⟨(show (9203 : Nat) ∉ [406, 4000, 4200, 4400, 4600] from by decide), (show (9401 : Nat) ∉ [406, 4000, 4200, 4400, 4600] from by decide), (show (9402 : Nat) ∉ [406, 4000, 4200, 4400, 4600] from by decide), (show (9403 : Nat) ∉ [406, 4000, 4200, 4400, 4600] from by decide), (show (9404 : Nat) ∉ [406, 4000, 4200, 4400, 4600] from by decide), (show (9205 : Nat) ∉ [406, 4000, 4200, 4400, 4600] from by decide)⟩ hq))⟩
  · skip
    exact ok.ret ⟨⟨(Fr.rf : Fr YC [406, 4000, 4200, 4400, 4600] _ _), hI⟩, (show 0 ≤ (9079 : Int) ∧ (9079 : Int) ≤ 9079 from by omega), (show (X.1 2 6).toInt ≤ (X.1 2 6).toInt from by have := (show 0 ≤ (X.1 2 6).toInt ∧ (X.1 2 6).toInt ≤ 9080 from hI.1 2 6); omega), (fun hq => hq), (fun hq => hq)⟩
set_option maxHeartbeats 4000000 in
theorem v_Program_clear_2 {X : St} (hI : INV X) : ok (g_Program_clear 2 X) (fun r Y => (Fr YC [401, 402, 406, 600, 1800, 3600] X Y ∧ INV Y)) := by
  unfold g_Program_clear
  refine ok.letE (v1 := 3) (by decide) ?_
  refine ok.bd (v_Kinds_forgetTexts_3 hI) ?_
  rintro r_1 Z3 ⟨hFZ3, hIZ3⟩
  refine ok.wI (L := [401]) hIZ3 (show 0 ≤ (0 : Int) ∧ (0 : Int) ≤ 40 from by omega) (show (401 : Nat) ∈ [401] from by decide) (by decide) (fun Z4 hIZ4 hFZ4 hkZ4 hoZ4 => ?_)
  refine ok.wI (L := [402]) hIZ4 (show -1 ≤ (-1 : Int) ∧ (-1 : Int) ≤ 39 from by omega) (show (402 : Nat) ∈ [402] from by decide) (by decide) (fun Z5 hIZ5 hFZ5 hkZ5 hoZ5 => ?_)
  refine ok.wI (L := [406]) hIZ5 (show 0 ≤ (0 : Int) ∧ (0 : Int) ≤ 9080 from by omega) (show (406 : Nat) ∈ [406] from by decide) (by decide) (fun Z6 hIZ6 hFZ6 hkZ6 hoZ6 => ?_)
  have lpu7 : ∀ (n : Nat), ∀ (a_1u7 : Int32) (Zu7 : St), INV Zu7 → Fr YC [401, 402, 406, 600, 1800, 3600] X Zu7 → (0 ≤ a_1u7.toInt ∧ a_1u7.toInt ≤ 40) → (41 - a_1u7.toInt).toNat < n → ok (g_Program_clear_24 n 2 a_1u7 Zu7) (fun r Y => (Fr YC [401, 402, 406, 600, 1800, 3600] X Y ∧ INV Y)) := by
    intro n
    unfold g_Program_clear_24
    refine lp_indN (P := fun (n : Nat) (r_u7 : Nat → Int32 → St → Option (Int32 × St)) => ∀ (a_1u7 : Int32) (Zu7 : St), INV Zu7 → Fr YC [401, 402, 406, 600, 1800, 3600] X Zu7 → (0 ≤ a_1u7.toInt ∧ a_1u7.toInt ≤ 40) → (41 - a_1u7.toInt).toNat < n → ok (r_u7 2 a_1u7 Zu7) (fun r Y => (Fr YC [401, 402, 406, 600, 1800, 3600] X Y ∧ INV Y))) ?_ ?_ n
    · intro a_1u7 Zu7 hIu7 hFu7 u7_0  hm; exact absurd hm (Nat.not_lt_zero _)
    · intro n r_u7 ih_u7 a_1u7 Zu7 hIu7 hFu7 u7_0  hmu7
      unfold g_Program_clear_24_s
      refine ok.ite (fun c8 => ?_) (fun c8 => ?_)
      · skip
        exact ok.ret ⟨(Fr.rf.tr hFu7 (fun _ q => q)), hIu7⟩
      · skip
        refine ok.letE (v1 := 18) (by decide) ?_
        refine ok.ck (show 0 ≤ a_1u7.toInt ∧ a_1u7.toInt < ((40 : Nat) : Int) from by omega) ?_
        refine ok.wI (L := [3600]) hIu7 (show True from trivial) (show (3600 : Nat) ∈ [3600] from by decide) (by decide) (fun Z9 hIZ9 hFZ9 hkZ9 hoZ9 => ?_)
        refine ok.inc (by decide) (show _ ≤ a_1u7.toInt + (1) ∧ a_1u7.toInt + (1) ≤ _ from by omega) (fun x8 hx8 => ?_)
        have hx8 : x8.toInt = a_1u7.toInt + (1) := hx8
        exact ih_u7 x8 Z9 hIZ9 ((Fr.rf.tr hFu7 (fun _ q => q)).tr hFZ9 (by decide)) (show 0 ≤ x8.toInt ∧ x8.toInt ≤ 40 from by omega) (show (41 - x8.toInt).toNat < _ from by omega)
  exact lpu7 BIG (0 : Int32) Z6 hIZ6 ((((Fr.rf.tr hFZ3 (by decide)).tr hFZ4 (by decide)).tr hFZ5 (by decide)).tr hFZ6 (by decide)) (show 0 ≤ (0 : Int) ∧ (0 : Int) ≤ 40 from by omega) (show (41 - (0 : Int)).toNat < BIG from ltBIG (show _ < 100000 from by omega))
set_option maxHeartbeats 4000000 in
theorem v_Program_partOfName_2 {q1 : Int64} {X : St} (hI : INV X) : ok (g_Program_partOfName 2 q1 X) (fun r Y => (X = Y) ∧ (-1 ≤ r.toInt ∧ r.toInt ≤ 39)) := by
  unfold g_Program_partOfName
  have lpu1 : ∀ (n : Nat), ∀ (l_1u1 : Int64) (a_3u1 : Int32) (Zu1 : St), INV Zu1 → Fr YC [] X Zu1 → (0 ≤ a_3u1.toInt ∧ a_3u1.toInt ≤ 40) → (41 - a_3u1.toInt).toNat < n → ok (g_Program_partOfName_2 n 2 l_1u1 a_3u1 Zu1) (fun r Y => (X = Y) ∧ (-1 ≤ r.toInt ∧ r.toInt ≤ 39)) := by
    intro n
    unfold g_Program_partOfName_2
    refine lp_indN (P := fun (n : Nat) (r_u1 : Nat → Int64 → Int32 → St → Option (Int32 × St)) => ∀ (l_1u1 : Int64) (a_3u1 : Int32) (Zu1 : St), INV Zu1 → Fr YC [] X Zu1 → (0 ≤ a_3u1.toInt ∧ a_3u1.toInt ≤ 40) → (41 - a_3u1.toInt).toNat < n → ok (r_u1 2 l_1u1 a_3u1 Zu1) (fun r Y => (X = Y) ∧ (-1 ≤ r.toInt ∧ r.toInt ≤ 39))) ?_ ?_ n
    · intro l_1u1 a_3u1 Zu1 hIu1 hFu1 u1_0  hm; exact absurd hm (Nat.not_lt_zero _)
    · intro n r_u1 ih_u1 l_1u1 a_3u1 Zu1 hIu1 hFu1 u1_0  hmu1
      unfold g_Program_partOfName_2_s
      refine ok.letE (v1 := (X.1 2 1)) (hFu1.1 2 1 (show (401 : Nat) ∉ [] from by decide)) ?_
      have g2 : 0 ≤ (X.1 2 1).toInt ∧ (X.1 2 1).toInt ≤ 40 := hI.1 2 1
      refine ok.ite (fun c3 => ?_) (fun c3 => ?_)
      · skip
        exact ok.ret ⟨(Fr.nil hFu1).symm, (show -1 ≤ (-1 : Int) ∧ (-1 : Int) ≤ 39 from by omega)⟩
      · skip
        refine ok.letE (v1 := 12) (by decide) ?_
        refine ok.ck (show 0 ≤ a_3u1.toInt ∧ a_3u1.toInt < ((40 : Nat) : Int) from by omega) ?_
        refine ok.any (fun y3 => ?_)
        refine ok.any (fun x4 => ?_)
        refine ok.ite (fun c4 => ?_) (fun c4 => ?_)
        · skip
          have g5 := i32_le x4
          exact ok.ret ⟨(Fr.nil hFu1).symm, (show -1 ≤ a_3u1.toInt ∧ a_3u1.toInt ≤ 39 from by omega)⟩
        · skip
          refine ok.inc (by decide) (show _ ≤ a_3u1.toInt + (1) ∧ a_3u1.toInt + (1) ≤ _ from by omega) (fun x5 hx5 => ?_)
          have hx5 : x5.toInt = a_3u1.toInt + (1) := hx5
          exact ih_u1 l_1u1 x5 Zu1 hIu1 (Fr.rf.tr hFu1 (fun _ q => q)) (show 0 ≤ x5.toInt ∧ x5.toInt ≤ 40 from by omega) (show (41 - x5.toInt).toNat < _ from by omega)
  exact lpu1 BIG q1 (0 : Int32) X hI (Fr.rf : Fr YC [] _ _) (show 0 ≤ (0 : Int) ∧ (0 : Int) ≤ 40 from by omega) (show (41 - (0 : Int)).toNat < BIG from ltBIG (show _ < 100000 from by omega))
set_option maxHeartbeats 4000000 in
theorem v_Program_paramsOf_2 {p1 : Int32} {X : St} (hI : INV X) : ok (g_Program_paramsOf 2 p1 X) (fun r Y => (X = Y)) := by
  unfold g_Program_paramsOf
  refine ok.ite (fun c1 => ?_) (fun c1 => ?_)
  · skip
    have g2 := i32_le p1
    exact ok.ret rfl
  · skip
    have g3 := i32_le p1
    refine ok.letE (v1 := (X.1 2 1)) rfl ?_
    have g4 : 0 ≤ (X.1 2 1).toInt ∧ (X.1 2 1).toInt ≤ 40 := hI.1 2 1
    refine ok.ite (fun c5 => ?_) (fun c5 => ?_)
    · skip
      exact ok.ret rfl
    · skip
      refine ok.letE (v1 := 15) (by decide) ?_
      refine ok.ck (show 0 ≤ p1.toInt ∧ p1.toInt < ((40 : Nat) : Int) from by omega) ?_
      refine ok.letE (v1 := (X.1 15 (ix p1))) rfl ?_
      have g6 : 0 ≤ (X.1 15 (ix p1)).toInt ∧ (X.1 15 (ix p1)).toInt ≤ 4 := hI.1 15 (ix p1)
      exact ok.ret rfl
set_option maxHeartbeats 4000000 in
theorem v_Program_letterOf_2 {p1 : Int32} {p2 : Int32} {X : St} (hI : INV X) (h0 : 0 ≤ p1.toInt ∧ p1.toInt ≤ 39) : ok (g_Program_letterOf 2 p1 p2 X) (fun r Y => (X = Y)) := by
  unfold g_Program_letterOf
  refine ok.ite (fun c1 => ?_) (fun c1 => ?_)
  · skip
    have g2 := i32_le p2
    exact ok.ret rfl
  · skip
    have g3 := i32_le p2
    refine ok.letE (v1 := 13) (by decide) ?_
    refine ok.ck (show 0 ≤ p1.toInt ∧ p1.toInt < ((40 : Nat) : Int) from by omega) ?_
    refine ok.letE (v1 := (X.1 13 (ix p1))) rfl ?_
    refine ok.ite (fun c4 => ?_) (fun c4 => ?_)
    · skip
      have g5 := i32_le (X.1 13 (ix p1))
      refine ok.letE (v1 := 12) (by decide) ?_
      refine ok.ck (show 0 ≤ p1.toInt ∧ p1.toInt < ((40 : Nat) : Int) from by omega) ?_
      refine ok.any (fun y4 => ?_)
      refine ok.letE (v1 := 13) (by decide) ?_
      refine ok.ck (show 0 ≤ p1.toInt ∧ p1.toInt < ((40 : Nat) : Int) from by omega) ?_
      refine ok.letE (v1 := (X.1 13 (ix p1))) rfl ?_
      refine ok.sub (show _ ≤ (X.1 13 (ix p1)).toInt - (1 : Int) ∧ (X.1 13 (ix p1)).toInt - (1 : Int) ≤ _ from by omega) (fun x7 hx7 => ?_)
      have hx7 : x7.toInt = (X.1 13 (ix p1)).toInt - (1 : Int) := hx7
      refine ok.sub (show _ ≤ x7.toInt - p2.toInt ∧ x7.toInt - p2.toInt ≤ _ from by omega) (fun x8 hx8 => ?_)
      have hx8 : x8.toInt = x7.toInt - p2.toInt := hx8
      refine ok.any (fun x9 => ?_)
      refine ok.any (fun y10 => ?_)
      refine ok.letE (v1 := (y10.toInt32)) rfl ?_
      refine ok.eqv (fun x12 hx12 => ?_)
      have hx12 : 0 ≤ x12.toInt ∧ x12.toInt ≤ 255 := by rw [hx12]; exact and_mask_255 _
      exact ok.ret rfl
    · skip
      exact ok.ret rfl
set_option maxHeartbeats 4000000 in
theorem v_Guards_lay_55 {p1 : Int32} {p2 : Int32} {p3 : Int32} {p4 : Int32} {p5 : Int32} {X : St} (hI : INV X) : ok (g_Guards_lay p1 p2 p3 p4 p5 X) (fun r Y => (Fr YC [11005, 11200, 11400, 11600, 11800, 12000] X Y ∧ INV Y)) := by
  unfold g_Guards_lay
  refine ok.letE (v1 := (X.1 55 5)) rfl ?_
  have g1 : 0 ≤ (X.1 55 5).toInt ∧ (X.1 55 5).toInt ≤ 3000 := hI.1 55 5
  refine ok.ite (fun c2 => ?_) (fun c2 => ?_)
  · skip
    refine ok.letE (v1 := (X.1 55 5)) rfl ?_
    refine ok.ck (show 0 ≤ (X.1 55 5).toInt ∧ (X.1 55 5).toInt < ((3000 : Nat) : Int) from by omega) ?_
    refine ok.wI (L := [11200]) hI (show True from trivial) (show (11200 : Nat) ∈ [11200] from by decide) (by decide) (fun Z3 hIZ3 hFZ3 hkZ3 hoZ3 => ?_)
    refine ok.letE (v1 := (X.1 55 5)) (hFZ3.1 55 5 (show (11005 : Nat) ∉ [11200] from by decide)) ?_
    refine ok.ck (show 0 ≤ (X.1 55 5).toInt ∧ (X.1 55 5).toInt < ((3000 : Nat) : Int) from by omega) ?_
    refine ok.wI (L := [11400]) hIZ3 (show True from trivial) (show (11400 : Nat) ∈ [11400] from by decide) (by decide) (fun Z4 hIZ4 hFZ4 hkZ4 hoZ4 => ?_)
    refine ok.letE (v1 := (X.1 55 5)) ((hFZ4.1 55 5 (show (11005 : Nat) ∉ [11400] from by decide)).trans (hFZ3.1 55 5 (show (11005 : Nat) ∉ [11200] from by decide))) ?_
    refine ok.ck (show 0 ≤ (X.1 55 5).toInt ∧ (X.1 55 5).toInt < ((3000 : Nat) : Int) from by omega) ?_
    refine ok.wI (L := [11600]) hIZ4 (show True from trivial) (show (11600 : Nat) ∈ [11600] from by decide) (by decide) (fun Z5 hIZ5 hFZ5 hkZ5 hoZ5 => ?_)
    refine ok.letE (v1 := (X.1 55 5)) (((hFZ5.1 55 5 (show (11005 : Nat) ∉ [11600] from by decide)).trans (hFZ4.1 55 5 (show (11005 : Nat) ∉ [11400] from by decide))).trans (hFZ3.1 55 5 (show (11005 : Nat) ∉ [11200] from by decide))) ?_
    refine ok.ck (show 0 ≤ (X.1 55 5).toInt ∧ (X.1 55 5).toInt < ((3000 : Nat) : Int) from by omega) ?_
    refine ok.wI (L := [11800]) hIZ5 (show True from trivial) (show (11800 : Nat) ∈ [11800] from by decide) (by decide) (fun Z6 hIZ6 hFZ6 hkZ6 hoZ6 => ?_)
    refine ok.letE (v1 := (X.1 55 5)) ((((hFZ6.1 55 5 (show (11005 : Nat) ∉ [11800] from by decide)).trans (hFZ5.1 55 5 (show (11005 : Nat) ∉ [11600] from by decide))).trans (hFZ4.1 55 5 (show (11005 : Nat) ∉ [11400] from by decide))).trans (hFZ3.1 55 5 (show (11005 : Nat) ∉ [11200] from by decide))) ?_
    refine ok.ck (show 0 ≤ (X.1 55 5).toInt ∧ (X.1 55 5).toInt < ((3000 : Nat) : Int) from by omega) ?_
    refine ok.wI (L := [12000]) hIZ6 (show True from trivial) (show (12000 : Nat) ∈ [12000] from by decide) (by decide) (fun Z7 hIZ7 hFZ7 hkZ7 hoZ7 => ?_)
    refine ok.letE (v1 := (X.1 55 5)) (((((hFZ7.1 55 5 (show (11005 : Nat) ∉ [12000] from by decide)).trans (hFZ6.1 55 5 (show (11005 : Nat) ∉ [11800] from by decide))).trans (hFZ5.1 55 5 (show (11005 : Nat) ∉ [11600] from by decide))).trans (hFZ4.1 55 5 (show (11005 : Nat) ∉ [11400] from by decide))).trans (hFZ3.1 55 5 (show (11005 : Nat) ∉ [11200] from by decide))) ?_
    refine ok.add (show _ ≤ (X.1 55 5).toInt + (1 : Int) ∧ (X.1 55 5).toInt + (1 : Int) ≤ _ from by omega) (fun x13 hx13 => ?_)
    have hx13 : x13.toInt = (X.1 55 5).toInt + (1 : Int) := hx13
    refine ok.wI (L := [11005]) hIZ7 (show 0 ≤ x13.toInt ∧ x13.toInt ≤ 3000 from by omega) (show (11005 : Nat) ∈ [11005] from by decide) (by decide) (fun Z8 hIZ8 hFZ8 hkZ8 hoZ8 => ?_)
    refine ok.letE (v1 := x13) hkZ8 ?_
    refine ok.sub (show _ ≤ x13.toInt - (1 : Int) ∧ x13.toInt - (1 : Int) ≤ _ from by omega) (fun x16 hx16 => ?_)
    have hx16 : x16.toInt = x13.toInt - (1 : Int) := hx16
    exact ok.ret ⟨((((((Fr.rf.tr hFZ3 (by decide)).tr hFZ4 (by decide)).tr hFZ5 (by decide)).tr hFZ6 (by decide)).tr hFZ7 (by decide)).tr hFZ8 (by decide)), hIZ8⟩
  · skip
    exact ok.ret ⟨(Fr.rf : Fr YC [11005, 11200, 11400, 11600, 11800, 12000] _ _), hI⟩
set_option maxHeartbeats 4000000 in
theorem v_Heap_clear {X : St} (hI : INV X) : ok (g_Heap_clear X) (fun r Y => (Fr YC [14200, 14201, 14202] X Y ∧ INV Y)) := by
  unfold g_Heap_clear
  refine ok.wI (L := [14200]) hI (show 0 ≤ (0 : Int) ∧ (0 : Int) ≤ 1000 from by omega) (show (14200 : Nat) ∈ [14200] from by decide) (by decide) (fun Z1 hIZ1 hFZ1 hkZ1 hoZ1 => ?_)
  refine ok.wI (L := [14201]) hIZ1 (show 0 ≤ (0 : Int) ∧ (0 : Int) ≤ 4000 from by omega) (show (14201 : Nat) ∈ [14201] from by decide) (by decide) (fun Z2 hIZ2 hFZ2 hkZ2 hoZ2 => ?_)
  refine ok.wI (L := [14202]) hIZ2 (show 0 ≤ (0 : Int) ∧ (0 : Int) ≤ 1000 from by omega) (show (14202 : Nat) ∈ [14202] from by decide) (by decide) (fun Z3 hIZ3 hFZ3 hkZ3 hoZ3 => ?_)
  exact ok.ret ⟨(((Fr.rf.tr hFZ1 (by decide)).tr hFZ2 (by decide)).tr hFZ3 (by decide)), hIZ3⟩
set_option maxHeartbeats 4000000 in
theorem v_Heap_valueOf {p0 : Int32} {p1 : Int32} {X : St} (hI : INV X) : ok (g_Heap_valueOf p0 p1 X) (fun r Y => (X = Y)) := by
  unfold g_Heap_valueOf
  refine ok.any (fun y1 => ?_)
  refine ok.any (fun y2 => ?_)
  refine ok.any (fun y3 => ?_)
  refine ok.any (fun y4 => ?_)
  refine ok.any (fun y5 => ?_)
  exact ok.ret rfl
set_option maxHeartbeats 4000000 in
theorem v_Heap_newRow {p1 : Int32} {q2 : Int64} {X : St} (hI : INV X) (h0 : (X.1 71 0).toInt ≤ 999) (h1 : 0 ≤ p1.toInt ∧ p1.toInt ≤ 4000) (h2 : (X.1 71 1).toInt + p1.toInt ≤ 4000) : ok (g_Heap_newRow p1 q2 X) (fun r Y => (Fr YC [14200, 14201, 14400, 14600, 14800] X Y ∧ INV Y)) := by
  unfold g_Heap_newRow
  refine ok.letE (v1 := (X.1 71 0)) rfl ?_
  have g1 : 0 ≤ (X.1 71 0).toInt ∧ (X.1 71 0).toInt ≤ 1000 := hI.1 71 0
  refine ok.letE (v1 := (X.1 71 0)) rfl ?_
  refine ok.add (show _ ≤ (X.1 71 0).toInt + (1 : Int) ∧ (X.1 71 0).toInt + (1 : Int) ≤ _ from by omega) (fun x3 hx3 => ?_)
  have hx3 : x3.toInt = (X.1 71 0).toInt + (1 : Int) := hx3
  refine ok.wI (L := [14200]) hI (show 0 ≤ x3.toInt ∧ x3.toInt ≤ 1000 from by omega) (show (14200 : Nat) ∈ [14200] from by decide) (by decide) (fun Z2 hIZ2 hFZ2 hkZ2 hoZ2 => ?_)
  refine ok.letE (v1 := (X.1 71 1)) (hFZ2.1 71 1 (show (14201 : Nat) ∉ [14200] from by decide)) ?_
  have g3 : 0 ≤ (X.1 71 1).toInt ∧ (X.1 71 1).toInt ≤ 4000 := hI.1 71 1
  refine ok.ck (show 0 ≤ (X.1 71 0).toInt ∧ (X.1 71 0).toInt < ((1000 : Nat) : Int) from by omega) ?_
  refine ok.nr hIZ2 (show 0 ≤ (X.1 71 1).toInt from by omega) (show 0 ≤ p1.toInt from by omega) (show (X.1 71 1).toInt + p1.toInt ≤ 4000 from by omega) (show 0 ≤ (X.1 71 0).toInt ∧ (X.1 71 0).toInt < ((1000 : Nat) : Int) from by omega) (fun Z4 hIZ4 hFZ4 => ?_)
  have lpu5 : ∀ (n : Nat), ∀ (a_1u5 : Int32) (l_2u5 : Int64) (a_4u5 : Int32) (a_5u5 : Int32) (Zu5 : St), INV Zu5 → Fr YC [14200, 14201, 14400, 14600, 14800] X Zu5 → (0 ≤ a_1u5.toInt ∧ a_1u5.toInt ≤ 4000) → ((Zu5.1 71 1).toInt + a_1u5.toInt ≤ 4000) → (0 ≤ a_5u5.toInt ∧ a_5u5.toInt ≤ 4000) → (4001 - a_5u5.toInt).toNat < n → ok (g_Heap_newRow_38 n a_1u5 l_2u5 a_4u5 a_5u5 Zu5) (fun r Y => (Fr YC [14200, 14201, 14400, 14600, 14800] X Y ∧ INV Y)) := by
    intro n
    unfold g_Heap_newRow_38
    refine lp_indN (P := fun (n : Nat) (r_u5 : Int32 → Int64 → Int32 → Int32 → St → Option (Int64 × St)) => ∀ (a_1u5 : Int32) (l_2u5 : Int64) (a_4u5 : Int32) (a_5u5 : Int32) (Zu5 : St), INV Zu5 → Fr YC [14200, 14201, 14400, 14600, 14800] X Zu5 → (0 ≤ a_1u5.toInt ∧ a_1u5.toInt ≤ 4000) → ((Zu5.1 71 1).toInt + a_1u5.toInt ≤ 4000) → (0 ≤ a_5u5.toInt ∧ a_5u5.toInt ≤ 4000) → (4001 - a_5u5.toInt).toNat < n → ok (r_u5 a_1u5 l_2u5 a_4u5 a_5u5 Zu5) (fun r Y => (Fr YC [14200, 14201, 14400, 14600, 14800] X Y ∧ INV Y))) ?_ ?_ n
    · intro a_1u5 l_2u5 a_4u5 a_5u5 Zu5 hIu5 hFu5 u5_0 u5_1 u5_2  hm; exact absurd hm (Nat.not_lt_zero _)
    · intro n r_u5 ih_u5 a_1u5 l_2u5 a_4u5 a_5u5 Zu5 hIu5 hFu5 u5_0 u5_1 u5_2  hmu5
      unfold g_Heap_newRow_38_s
      refine ok.ite (fun c6 => ?_) (fun c6 => ?_)
      · skip
        refine ok.letE (v1 := (Zu5.1 71 1)) rfl ?_
        have g7 : 0 ≤ (Zu5.1 71 1).toInt ∧ (Zu5.1 71 1).toInt ≤ 4000 := hIu5.1 71 1
        refine ok.add (show _ ≤ (Zu5.1 71 1).toInt + a_1u5.toInt ∧ (Zu5.1 71 1).toInt + a_1u5.toInt ≤ _ from by omega) (fun x9 hx9 => ?_)
        have hx9 : x9.toInt = (Zu5.1 71 1).toInt + a_1u5.toInt := hx9
        refine ok.wI (L := [14201]) hIu5 (show 0 ≤ x9.toInt ∧ x9.toInt ≤ 4000 from by omega) (show (14201 : Nat) ∈ [14201] from by decide) (by decide) (fun Z8 hIZ8 hFZ8 hkZ8 hoZ8 => ?_)
        refine ok.bd (v_Heap_valueOf hIZ8) ?_
        rintro y11 _ rfl
        exact ok.ret ⟨((Fr.rf.tr hFu5 (fun _ q => q)).tr hFZ8 (by decide)), hIZ8⟩
      · skip
        refine ok.letE (v1 := (Zu5.1 71 1)) rfl ?_
        have g10 : 0 ≤ (Zu5.1 71 1).toInt ∧ (Zu5.1 71 1).toInt ≤ 4000 := hIu5.1 71 1
        refine ok.add (show _ ≤ (Zu5.1 71 1).toInt + a_5u5.toInt ∧ (Zu5.1 71 1).toInt + a_5u5.toInt ≤ _ from by omega) (fun x14 hx14 => ?_)
        have hx14 : x14.toInt = (Zu5.1 71 1).toInt + a_5u5.toInt := hx14
        refine ok.ck (show 0 ≤ x14.toInt ∧ x14.toInt < ((4000 : Nat) : Int) from by omega) ?_
        refine ok.wL (L := [14800]) hIu5 (show (14800 : Nat) ∈ [14800] from by decide) (fun Z11 hIZ11 hFZ11 heZ11 => ?_)
        refine ok.inc (by decide) (show _ ≤ a_5u5.toInt + (1) ∧ a_5u5.toInt + (1) ≤ _ from by omega) (fun x16 hx16 => ?_)
        have hx16 : x16.toInt = a_5u5.toInt + (1) := hx16
        exact ih_u5 a_1u5 l_2u5 a_4u5 x16 Z11 hIZ11 ((Fr.rf.tr hFu5 (fun _ q => q)).tr hFZ11 (by decide)) (show 0 ≤ a_1u5.toInt ∧ a_1u5.toInt ≤ 4000 from by omega) (show (Z11.1 71 1).toInt + a_1u5.toInt ≤ 4000 from by have := (show (Z11.1 71 1).toInt = (Zu5.1 71 1).toInt from congrArg Int32.toInt (congrFun (congrFun heZ11 71) 1)); have := (show 0 ≤ (Zu5.1 71 1).toInt ∧ (Zu5.1 71 1).toInt ≤ 4000 from hIu5.1 71 1); omega) (show 0 ≤ x16.toInt ∧ x16.toInt ≤ 4000 from by omega) (show (4001 - x16.toInt).toNat < _ from by omega)
  exact lpu5 BIG p1 q2 (X.1 71 0) (0 : Int32) Z4 hIZ4 ((Fr.rf.tr hFZ2 (by decide)).tr hFZ4 (by decide)) (show 0 ≤ p1.toInt ∧ p1.toInt ≤ 4000 from by omega) (show (Z4.1 71 1).toInt + p1.toInt ≤ 4000 from by have := (show (Z4.1 71 1).toInt = (X.1 71 1).toInt from congrArg Int32.toInt ((hFZ4.1 71 1 (show (14201 : Nat) ∉ [14400, 14600] from by decide)).trans (hFZ2.1 71 1 (show (14201 : Nat) ∉ [14200] from by decide)))); have := (show 0 ≤ (X.1 71 1).toInt ∧ (X.1 71 1).toInt ≤ 4000 from hI.1 71 1); omega) (show 0 ≤ (0 : Int) ∧ (0 : Int) ≤ 4000 from by omega) (show (4001 - (0 : Int)).toNat < BIG from ltBIG (show _ < 100000 from by omega))
set_option maxHeartbeats 4000000 in
theorem v_Heap_hasRoom {p1 : Int32} {X : St} (hI : INV X) : ok (g_Heap_hasRoom p1 X) (fun r Y => (X = Y) ∧ (r.toInt = 0 ∨ (r.toInt = 1 ∧ (X.1 71 0).toInt + (X.1 71 2).toInt ≤ 999 ∧ (X.1 71 1).toInt + p1.toInt ≤ 4000))) := by
  unfold g_Heap_hasRoom
  refine ok.letE (v1 := (X.1 71 0)) rfl ?_
  have g1 : 0 ≤ (X.1 71 0).toInt ∧ (X.1 71 0).toInt ≤ 1000 := hI.1 71 0
  refine ok.letE (v1 := (X.1 71 2)) rfl ?_
  have g2 : 0 ≤ (X.1 71 2).toInt ∧ (X.1 71 2).toInt ≤ 1000 := hI.1 71 2
  refine ok.add (show _ ≤ (X.1 71 0).toInt + (X.1 71 2).toInt ∧ (X.1 71 0).toInt + (X.1 71 2).toInt ≤ _ from by omega) (fun x3 hx3 => ?_)
  have hx3 : x3.toInt = (X.1 71 0).toInt + (X.1 71 2).toInt := hx3
  refine ok.ite (fun c3 => ?_) (fun c3 => ?_)
  · skip
    exact ok.ret ⟨rfl, (show (0 : Int) = 0 ∨ ((0 : Int) = 1 ∧ (X.1 71 0).toInt + (X.1 71 2).toInt ≤ 999 ∧ (X.1 71 1).toInt + p1.toInt ≤ 4000) from by have := (show 0 ≤ (X.1 71 0).toInt ∧ (X.1 71 0).toInt ≤ 1000 from hI.1 71 0); have := (show 0 ≤ (X.1 71 2).toInt ∧ (X.1 71 2).toInt ≤ 1000 from hI.1 71 2); have := (show 0 ≤ (X.1 71 1).toInt ∧ (X.1 71 1).toInt ≤ 4000 from hI.1 71 1); omega)⟩
  · skip
    refine ok.letE (v1 := (X.1 71 1)) rfl ?_
    have g4 : 0 ≤ (X.1 71 1).toInt ∧ (X.1 71 1).toInt ≤ 4000 := hI.1 71 1
    refine ok.sub (show _ ≤ (4000 : Int) - (X.1 71 1).toInt ∧ (4000 : Int) - (X.1 71 1).toInt ≤ _ from by omega) (fun x5 hx5 => ?_)
    have hx5 : x5.toInt = (4000 : Int) - (X.1 71 1).toInt := hx5
    refine ok.ite (fun c5 => ?_) (fun c5 => ?_)
    · skip
      have g6 := i32_le p1
      exact ok.ret ⟨rfl, (show (0 : Int) = 0 ∨ ((0 : Int) = 1 ∧ (X.1 71 0).toInt + (X.1 71 2).toInt ≤ 999 ∧ (X.1 71 1).toInt + p1.toInt ≤ 4000) from by have := (show 0 ≤ (X.1 71 0).toInt ∧ (X.1 71 0).toInt ≤ 1000 from hI.1 71 0); have := (show 0 ≤ (X.1 71 2).toInt ∧ (X.1 71 2).toInt ≤ 1000 from hI.1 71 2); have := (show 0 ≤ (X.1 71 1).toInt ∧ (X.1 71 1).toInt ≤ 4000 from hI.1 71 1); omega)⟩
    · skip
      have g7 := i32_le p1
      exact ok.ret ⟨rfl, (show (1 : Int) = 0 ∨ ((1 : Int) = 1 ∧ (X.1 71 0).toInt + (X.1 71 2).toInt ≤ 999 ∧ (X.1 71 1).toInt + p1.toInt ≤ 4000) from by have := (show 0 ≤ (X.1 71 0).toInt ∧ (X.1 71 0).toInt ≤ 1000 from hI.1 71 0); have := (show 0 ≤ (X.1 71 2).toInt ∧ (X.1 71 2).toInt ≤ 1000 from hI.1 71 2); have := (show 0 ≤ (X.1 71 1).toInt ∧ (X.1 71 1).toInt ≤ 4000 from hI.1 71 1); omega)⟩
set_option maxHeartbeats 4000000 in
theorem v_Heap_wrappingOf {q1 : Int64} {X : St} (hI : INV X) : ok (g_Heap_wrappingOf q1 X) (fun r Y => (X = Y) ∧ (-1 ≤ r.toInt ∧ r.toInt ≤ 999)) := by
  unfold g_Heap_wrappingOf
  refine ok.letE (v1 := (q1.toInt32)) rfl ?_
  refine ok.any (fun y2 => ?_)
  refine ok.any (fun x3 => ?_)
  refine ok.ite (fun c1 => ?_) (fun c1 => ?_)
  · skip
    have g2 := i32_le x3
    refine ok.ite (fun c3 => ?_) (fun c3 => ?_)
    · skip
      exact ok.ret ⟨rfl, (show -1 ≤ (-1 : Int) ∧ (-1 : Int) ≤ 999 from by omega)⟩
    · skip
      refine ok.letE (v1 := (X.1 71 2)) rfl ?_
      have g4 : 0 ≤ (X.1 71 2).toInt ∧ (X.1 71 2).toInt ≤ 1000 := hI.1 71 2
      refine ok.ite (fun c5 => ?_) (fun c5 => ?_)
      · skip
        exact ok.ret ⟨rfl, (show -1 ≤ (-1 : Int) ∧ (-1 : Int) ≤ 999 from by omega)⟩
      · skip
        exact ok.ret ⟨rfl, (show -1 ≤ (q1.toInt32).toInt ∧ (q1.toInt32).toInt ≤ 999 from by omega)⟩
  · skip
    exact ok.ret ⟨rfl, (show -1 ≤ (-1 : Int) ∧ (-1 : Int) ≤ 999 from by omega)⟩
set_option maxHeartbeats 4000000 in
theorem v_Heap_core {q1 : Int64} {X : St} (hI : INV X) : ok (g_Heap_core q1 X) (fun r Y => (X = Y)) := by
  unfold g_Heap_core
  refine ok.bd (v_Heap_wrappingOf hI) ?_
  rintro x1 _ ⟨rfl, hp1⟩
  have hp1 : -1 ≤ x1.toInt ∧ x1.toInt ≤ 999 := hp1
  have lpu2 : ∀ (n : Nat), ∀ (l_3u2 : Int64) (a_5u2 : Int32) (a_6u2 : Int32) (Zu2 : St), INV Zu2 → Fr YC [] X Zu2 → (-1 ≤ a_5u2.toInt ∧ a_5u2.toInt ≤ 999) → (0 ≤ a_6u2.toInt ∧ a_6u2.toInt ≤ 20) → (21 - a_6u2.toInt).toNat < n → ok (g_Heap_core_12 n l_3u2 a_5u2 a_6u2 Zu2) (fun r Y => (X = Y)) := by
    intro n
    unfold g_Heap_core_12
    refine lp_indN (P := fun (n : Nat) (r_u2 : Int64 → Int32 → Int32 → St → Option (Int64 × St)) => ∀ (l_3u2 : Int64) (a_5u2 : Int32) (a_6u2 : Int32) (Zu2 : St), INV Zu2 → Fr YC [] X Zu2 → (-1 ≤ a_5u2.toInt ∧ a_5u2.toInt ≤ 999) → (0 ≤ a_6u2.toInt ∧ a_6u2.toInt ≤ 20) → (21 - a_6u2.toInt).toNat < n → ok (r_u2 l_3u2 a_5u2 a_6u2 Zu2) (fun r Y => (X = Y))) ?_ ?_ n
    · intro l_3u2 a_5u2 a_6u2 Zu2 hIu2 hFu2 u2_0 u2_1  hm; exact absurd hm (Nat.not_lt_zero _)
    · intro n r_u2 ih_u2 l_3u2 a_5u2 a_6u2 Zu2 hIu2 hFu2 u2_0 u2_1  hmu2
      unfold g_Heap_core_12_s
      refine ok.ite (fun c3 => ?_) (fun c3 => ?_)
      · skip
        exact ok.ret (Fr.nil hFu2).symm
      · skip
        refine ok.ite (fun c4 => ?_) (fun c4 => ?_)
        · skip
          exact ok.ret (Fr.nil hFu2).symm
        · skip
          refine ok.ck (show 0 ≤ a_5u2.toInt ∧ a_5u2.toInt < ((1000 : Nat) : Int) from by omega) ?_
          refine ok.any (fun y3 => ?_)
          refine ok.bd (v_Heap_wrappingOf hIu2) ?_
          rintro x4 _ ⟨rfl, hp5⟩
          have hp5 : -1 ≤ x4.toInt ∧ x4.toInt ≤ 999 := hp5
          refine ok.inc (by decide) (show _ ≤ a_6u2.toInt + (1) ∧ a_6u2.toInt + (1) ≤ _ from by omega) (fun x6 hx6 => ?_)
          have hx6 : x6.toInt = a_6u2.toInt + (1) := hx6
          exact ih_u2 y3 x4 x6 Zu2 hIu2 (Fr.rf.tr hFu2 (fun _ q => q)) (show -1 ≤ x4.toInt ∧ x4.toInt ≤ 999 from by omega) (show 0 ≤ x6.toInt ∧ x6.toInt ≤ 20 from by omega) (show (21 - x6.toInt).toNat < _ from by omega)
  exact lpu2 BIG q1 x1 (0 : Int32) X hI (Fr.rf : Fr YC [] _ _) (show -1 ≤ x1.toInt ∧ x1.toInt ≤ 999 from by omega) (show 0 ≤ (0 : Int) ∧ (0 : Int) ≤ 20 from by omega) (show (21 - (0 : Int)).toNat < BIG from ltBIG (show _ < 100000 from by omega))
set_option maxHeartbeats 4000000 in
theorem v_Heap_wrappingsAround {q1 : Int64} {X : St} (hI : INV X) : ok (g_Heap_wrappingsAround q1 X) (fun r Y => (X = Y)) := by
  unfold g_Heap_wrappingsAround
  refine ok.bd (v_Heap_wrappingOf hI) ?_
  rintro x1 _ ⟨rfl, hp1⟩
  have hp1 : -1 ≤ x1.toInt ∧ x1.toInt ≤ 999 := hp1
  refine ok.ite (fun c2 => ?_) (fun c2 => ?_)
  · skip
    exact ok.ret rfl
  · skip
    refine ok.ck (show 0 ≤ x1.toInt ∧ x1.toInt < ((1000 : Nat) : Int) from by omega) ?_
    refine ok.letE (v1 := (X.1 81 (ix x1))) rfl ?_
    exact ok.ret rfl
set_option maxHeartbeats 4000000 in
theorem v_Heap_contentOf {q0 : Int64} {X : St} (hI : INV X) : ok (g_Heap_contentOf q0 X) (fun r Y => (X = Y)) := by
  unfold g_Heap_contentOf
  refine ok.letE (v1 := (q0.toInt32)) rfl ?_
  exact ok.ret rfl
set_option maxHeartbeats 4000000 in
theorem v_Heap_sortOf {q0 : Int64} {X : St} (hI : INV X) : ok (g_Heap_sortOf q0 X) (fun r Y => (X = Y)) := by
  unfold g_Heap_sortOf
  refine ok.any (fun y1 => ?_)
  refine ok.letE (v1 := (y1.toInt32)) rfl ?_
  exact ok.ret rfl
set_option maxHeartbeats 4000000 in
theorem v_Heap_lengthOf {q1 : Int64} {X : St} (hI : INV X) : ok (g_Heap_lengthOf q1 X) (fun r Y => (X = Y)) := by
  unfold g_Heap_lengthOf
  refine ok.bd (v_Heap_contentOf hI) ?_
  rintro x1 _ rfl
  refine ok.bd (v_Heap_sortOf hI) ?_
  rintro x3 _ rfl
  refine ok.ite (fun c3 => ?_) (fun c3 => ?_)
  · skip
    have g4 := i32_le x3
    refine ok.ite (fun c5 => ?_) (fun c5 => ?_)
    · skip
      have g6 := i32_le x1
      exact ok.ret rfl
    · skip
      have g7 := i32_le x1
      refine ok.letE (v1 := (X.1 71 0)) rfl ?_
      have g8 : 0 ≤ (X.1 71 0).toInt ∧ (X.1 71 0).toInt ≤ 1000 := hI.1 71 0
      refine ok.ite (fun c9 => ?_) (fun c9 => ?_)
      · skip
        exact ok.ret rfl
      · skip
        refine ok.ck (show 0 ≤ x1.toInt ∧ x1.toInt < ((1000 : Nat) : Int) from by omega) ?_
        refine ok.letE (v1 := (X.1 73 (ix x1))) rfl ?_
        have g10 : 0 ≤ (X.1 73 (ix x1)).toInt ∧ (X.1 73 (ix x1)).toInt ≤ 4000 := hI.1 73 (ix x1)
        exact ok.ret rfl
  · skip
    exact ok.ret rfl
set_option maxHeartbeats 4000000 in
theorem v_Heap_hasPlace {q1 : Int64} {p3 : Int32} {X : St} (hI : INV X) : ok (g_Heap_hasPlace q1 p3 X) (fun r Y => (X = Y)) := by
  unfold g_Heap_hasPlace
  refine ok.ite (fun c1 => ?_) (fun c1 => ?_)
  · skip
    have g2 := i32_le p3
    exact ok.ret rfl
  · skip
    have g3 := i32_le p3
    refine ok.bd (v_Heap_lengthOf hI) ?_
    rintro x1 _ rfl
    refine ok.ite (fun c5 => ?_) (fun c5 => ?_)
    · skip
      exact ok.ret rfl
    · skip
      have g6 := i32_le x1
      exact ok.ret rfl
theorem hp_len {q1 : Int64} {X : St} (hI : INV X) : ok (g_Heap_lengthOf q1 X) (fun r Y => X = Y ∧ (r.toInt = -1 ∨ (0 ≤ (q1.toInt32).toInt ∧ (q1.toInt32).toInt < 1000 ∧ r = X.1 73 (ix q1.toInt32)))) := by
  have g0 : 0 ≤ (X.1 71 0).toInt ∧ (X.1 71 0).toInt ≤ 1000 := hI.1 71 0
  have l1 : (-1 : Int32).toInt = -1 := by decide
  unfold g_Heap_lengthOf
  refine ok.bd (show ok (g_Heap_contentOf q1 X) (fun r Y => X = Y ∧ r = q1.toInt32) from by unfold g_Heap_contentOf; exact ok.letV (ok.ret ⟨rfl, rfl⟩)) ?_
  rintro r _ ⟨rfl, rfl⟩
  refine ok.bd (v_Heap_sortOf hI) ?_
  rintro r _ rfl
  refine ok.ite (fun _ => ?_) (fun _ => ok.ret ⟨rfl, Or.inl l1⟩)
  refine ok.ite (fun _ => ok.ret ⟨rfl, Or.inl l1⟩) (fun c => ?_)
  refine ok.letV (ok.ite (fun _ => ok.ret ⟨rfl, Or.inl l1⟩) (fun c2 => ?_))
  exact ok.ck (show 0 ≤ (q1.toInt32).toInt ∧ (q1.toInt32).toInt < ((1000 : Nat) : Int) from by omega) (ok.letV (ok.ret ⟨rfl, Or.inr ⟨by omega, by omega, rfl⟩⟩))
theorem hp_has {q1 : Int64} {p3 : Int32} {X : St} (hI : INV X) : ok (g_Heap_hasPlace q1 p3 X) (fun r Y => X = Y ∧ (r.toInt = 0 ∨ (0 ≤ p3.toInt ∧ 0 ≤ (q1.toInt32).toInt ∧ (q1.toInt32).toInt < 1000 ∧ p3.toInt < (X.1 73 (ix q1.toInt32)).toInt))) := by
  have l0 : (0 : Int32).toInt = 0 := by decide
  unfold g_Heap_hasPlace
  refine ok.ite (fun _ => ok.ret ⟨rfl, Or.inl l0⟩) (fun c => ?_)
  refine ok.bd (hp_len hI) ?_
  rintro r _ ⟨rfl, h⟩
  refine ok.ite (fun _ => ok.ret ⟨rfl, Or.inl l0⟩) (fun c2 => ok.ret ⟨rfl, Or.inr ?_⟩)
  rcases h with h | ⟨h1, h2, h3⟩
  · omega
  · rw [h3] at c2
    exact ⟨by omega, h1, h2, by omega⟩
theorem v_Heap_fetch {q1 : Int64} {p3 : Int32} {X : St} (hI : INV X) : ok (g_Heap_fetch q1 p3 X) (fun _ Y => (X = Y)) := by
  unfold g_Heap_fetch
  refine ok.bd (hp_has hI) ?_
  rintro r _ ⟨rfl, h⟩
  refine ok.ite (fun _ => ok.ret rfl) (fun c => ?_)
  refine ok.bd (show ok (g_Heap_contentOf q1 X) (fun r Y => X = Y ∧ r = q1.toInt32) from by unfold g_Heap_contentOf; exact ok.letV (ok.ret ⟨rfl, rfl⟩)) ?_
  rintro r _ ⟨rfl, rfl⟩
  rcases h with h | ⟨h1, h2, h3, h4⟩
  · omega
  · have g1 : 0 ≤ (X.1 72 (ix q1.toInt32)).toInt ∧ (X.1 72 (ix q1.toInt32)).toInt ≤ 4000 := hI.1 72 _
    have g2 : 0 ≤ (X.1 73 (ix q1.toInt32)).toInt ∧ (X.1 73 (ix q1.toInt32)).toInt ≤ 4000 := hI.1 73 _
    have g3 := hI.2 (ix q1.toInt32)
    refine ok.ck (show 0 ≤ (q1.toInt32).toInt ∧ (q1.toInt32).toInt < ((1000 : Nat) : Int) from by omega) (ok.letV (ok.add (by omega) (fun x hx => ?_)))
    exact ok.ck (show 0 ≤ x.toInt ∧ x.toInt < ((4000 : Nat) : Int) from by omega) (ok.letV (ok.ret rfl))
theorem v_Heap_store {q1 : Int64} {p3 : Int32} {q4 : Int64} {X : St} (hI : INV X) : ok (g_Heap_store q1 p3 q4 X) (fun _ Y => (Fr YC [14800] X Y ∧ INV Y)) := by
  unfold g_Heap_store
  refine ok.bd (hp_has hI) ?_
  rintro r _ ⟨rfl, h⟩
  refine ok.ite (fun _ => ok.ret ⟨Fr.rf, hI⟩) (fun c => ?_)
  refine ok.bd (show ok (g_Heap_contentOf q1 X) (fun r Y => X = Y ∧ r = q1.toInt32) from by unfold g_Heap_contentOf; exact ok.letV (ok.ret ⟨rfl, rfl⟩)) ?_
  rintro r _ ⟨rfl, rfl⟩
  rcases h with h | ⟨h1, h2, h3, h4⟩
  · omega
  · have g1 : 0 ≤ (X.1 72 (ix q1.toInt32)).toInt ∧ (X.1 72 (ix q1.toInt32)).toInt ≤ 4000 := hI.1 72 _
    have g2 : 0 ≤ (X.1 73 (ix q1.toInt32)).toInt ∧ (X.1 73 (ix q1.toInt32)).toInt ≤ 4000 := hI.1 73 _
    have g3 := hI.2 (ix q1.toInt32)
    refine ok.ck (show 0 ≤ (q1.toInt32).toInt ∧ (q1.toInt32).toInt < ((1000 : Nat) : Int) from by omega) (ok.letV (ok.add (by omega) (fun x hx => ?_)))
    refine ok.ck (show 0 ≤ x.toInt ∧ x.toInt < ((4000 : Nat) : Int) from by omega) (ok.wL (L := [14800]) hI (show (14800 : Nat) ∈ [14800] from by decide) (fun Z hZ hF _ => ok.ret ⟨hF, hZ⟩))
def Qv1 : List Nat := [600, 800, 1000, 1200, 1400, 1600, 1800, 2000, 12400, 12600, 12800, 13000]
theorem n12201_Qv1 : (12201 : Nat) ∉ Qv1 := by decide
theorem n3000_Qv1 : (3000 : Nat) ∉ Qv1 := by decide
theorem n3400_Qv1 : (3400 : Nat) ∉ Qv1 := by decide
set_option maxHeartbeats 4000000 in
theorem v_Judging_asTold_J2 {p1 : Int32} {p2 : Int32} {X : St} (hI : INV X) (hr61_1 : X.2.2 61 1 = 3) (h0 : 0 ≤ p1.toInt ∧ p1.toInt ≤ 39) : ok (g_Judging_asTold p1 p2 X) (fun r Y => (X = Y)) := by
  unfold g_Judging_asTold
  refine ok.ck (by rw [hr61_1]; decide) ?_
  refine ok.letE (v1 := 2) (by rw [hr61_1]) ?_
  refine ok.letE (v1 := 18) (by decide) ?_
  refine ok.ck (show 0 ≤ p1.toInt ∧ p1.toInt < ((40 : Nat) : Int) from by omega) ?_
  refine ok.letE (v1 := (X.1 18 (ix p1))) rfl ?_
  refine ok.ite (fun c1 => ?_) (fun c1 => ?_)
  · skip
    have g2 := i32_le (X.1 18 (ix p1))
    exact ok.ret rfl
  · skip
    exact ok.ret rfl
theorem n12202_Qv1 : (12202 : Nat) ∉ Qv1 := by decide
theorem n12600_Qv0 : (12600 : Nat) ∉ Qv0 := by decide
set_option maxHeartbeats 4000000 in
theorem v_Kinds_isSame_3_63 {p1 : Int32} {p2 : Int32} {p4 : Int32} {p5 : Int32} {X : St} (hI : INV X) (h0 : 0 ≤ p1.toInt ∧ p1.toInt ≤ 1548) (h1 : 0 ≤ p2.toInt ∧ p2.toInt ≤ 4) (h2 : 0 ≤ p4.toInt ∧ p4.toInt + p2.toInt ≤ 160) : ok (g_Kinds_isSame 3 p1 p2 63 p4 p5 X) (fun r Y => (X = Y)) := by
  unfold g_Kinds_isSame
  refine ok.letE (v1 := 5) (by decide) ?_
  refine ok.ck (show 0 ≤ p1.toInt ∧ p1.toInt < ((1549 : Nat) : Int) from by omega) ?_
  refine ok.letE (v1 := (X.1 5 (ix p1))) rfl ?_
  have g1 : 0 ≤ (X.1 5 (ix p1)).toInt ∧ (X.1 5 (ix p1)).toInt ≤ 4 := hI.1 5 (ix p1)
  refine ok.ite (fun c2 => ?_) (fun c2 => ?_)
  · skip
    refine ok.letE (v1 := 6) (by decide) ?_
    refine ok.mul (show _ ≤ p1.toInt * (5 : Int) ∧ p1.toInt * (5 : Int) ≤ _ from by omega) (fun x4 hx4 => ?_)
    have hx4 : x4.toInt = p1.toInt * (5 : Int) := hx4
    refine ok.add (show _ ≤ x4.toInt + (4 : Int) ∧ x4.toInt + (4 : Int) ≤ _ from by omega) (fun x5 hx5 => ?_)
    have hx5 : x5.toInt = x4.toInt + (4 : Int) := hx5
    refine ok.ck (show 0 ≤ x5.toInt ∧ x5.toInt < ((7745 : Nat) : Int) from by omega) ?_
    refine ok.letE (v1 := (X.1 6 (ix x5))) rfl ?_
    refine ok.ite (fun c3 => ?_) (fun c3 => ?_)
    · skip
      have lpu4 : ∀ (n : Nat), ∀ (a_1u4 : Int32) (a_2u4 : Int32) (a_4u4 : Int32) (a_6u4 : Int32) (Zu4 : St), INV Zu4 → Fr YC [] X Zu4 → (0 ≤ a_1u4.toInt ∧ a_1u4.toInt ≤ 1548) → (0 ≤ a_2u4.toInt ∧ a_2u4.toInt ≤ 4) → (0 ≤ a_4u4.toInt ∧ a_4u4.toInt + a_2u4.toInt ≤ 160) → (0 ≤ a_6u4.toInt ∧ a_6u4.toInt ≤ 5) → (5 - a_6u4.toInt).toNat < n → ok (g_Kinds_isSame_30 n 3 a_1u4 a_2u4 63 a_4u4 a_6u4 Zu4) (fun r Y => (X = Y)) := by
        intro n
        unfold g_Kinds_isSame_30
        refine lp_indN (P := fun (n : Nat) (r_u4 : Nat → Int32 → Int32 → Nat → Int32 → Int32 → St → Option (Int32 × St)) => ∀ (a_1u4 : Int32) (a_2u4 : Int32) (a_4u4 : Int32) (a_6u4 : Int32) (Zu4 : St), INV Zu4 → Fr YC [] X Zu4 → (0 ≤ a_1u4.toInt ∧ a_1u4.toInt ≤ 1548) → (0 ≤ a_2u4.toInt ∧ a_2u4.toInt ≤ 4) → (0 ≤ a_4u4.toInt ∧ a_4u4.toInt + a_2u4.toInt ≤ 160) → (0 ≤ a_6u4.toInt ∧ a_6u4.toInt ≤ 5) → (5 - a_6u4.toInt).toNat < n → ok (r_u4 3 a_1u4 a_2u4 63 a_4u4 a_6u4 Zu4) (fun r Y => (X = Y))) ?_ ?_ n
        · intro a_1u4 a_2u4 a_4u4 a_6u4 Zu4 hIu4 hFu4 u4_0 u4_1 u4_2 u4_3  hm; exact absurd hm (Nat.not_lt_zero _)
        · intro n r_u4 ih_u4 a_1u4 a_2u4 a_4u4 a_6u4 Zu4 hIu4 hFu4 u4_0 u4_1 u4_2 u4_3  hmu4
          unfold g_Kinds_isSame_30_s
          refine ok.ite (fun c5 => ?_) (fun c5 => ?_)
          · skip
            exact ok.ret (Fr.nil hFu4).symm
          · skip
            refine ok.letE (v1 := 6) (by decide) ?_
            refine ok.mul (show _ ≤ a_1u4.toInt * (5 : Int) ∧ a_1u4.toInt * (5 : Int) ≤ _ from by omega) (fun x8 hx8 => ?_)
            have hx8 : x8.toInt = a_1u4.toInt * (5 : Int) := hx8
            refine ok.add (show _ ≤ x8.toInt + a_6u4.toInt ∧ x8.toInt + a_6u4.toInt ≤ _ from by omega) (fun x9 hx9 => ?_)
            have hx9 : x9.toInt = x8.toInt + a_6u4.toInt := hx9
            refine ok.ck (show 0 ≤ x9.toInt ∧ x9.toInt < ((7745 : Nat) : Int) from by omega) ?_
            refine ok.letE (v1 := (X.1 6 (ix x9))) (hFu4.1 6 (ix x9) (show (1200 : Nat) ∉ [] from by decide)) ?_
            refine ok.add (show _ ≤ a_4u4.toInt + a_6u4.toInt ∧ a_4u4.toInt + a_6u4.toInt ≤ _ from by omega) (fun x11 hx11 => ?_)
            have hx11 : x11.toInt = a_4u4.toInt + a_6u4.toInt := hx11
            refine ok.ck (show 0 ≤ x11.toInt ∧ x11.toInt < ((160 : Nat) : Int) from by omega) ?_
            refine ok.letE (v1 := (X.1 63 (ix x11))) (hFu4.1 63 (ix x11) (show (12600 : Nat) ∉ [] from by decide)) ?_
            refine ok.ite (fun c6 => ?_) (fun c6 => ?_)
            · skip
              refine ok.inc (by decide) (show _ ≤ a_6u4.toInt + (1) ∧ a_6u4.toInt + (1) ≤ _ from by omega) (fun x13 hx13 => ?_)
              have hx13 : x13.toInt = a_6u4.toInt + (1) := hx13
              exact ih_u4 a_1u4 a_2u4 a_4u4 x13 Zu4 hIu4 (Fr.rf.tr hFu4 (fun _ q => q)) (show 0 ≤ a_1u4.toInt ∧ a_1u4.toInt ≤ 1548 from by omega) (show 0 ≤ a_2u4.toInt ∧ a_2u4.toInt ≤ 4 from by omega) (show 0 ≤ a_4u4.toInt ∧ a_4u4.toInt + a_2u4.toInt ≤ 160 from by omega) (show 0 ≤ x13.toInt ∧ x13.toInt ≤ 5 from by omega) (show (5 - x13.toInt).toNat < _ from by omega)
            · skip
              exact ok.ret (Fr.nil hFu4).symm
      exact lpu4 BIG p1 p2 p4 (0 : Int32) X hI (Fr.rf : Fr YC [] _ _) (show 0 ≤ p1.toInt ∧ p1.toInt ≤ 1548 from by omega) (show 0 ≤ p2.toInt ∧ p2.toInt ≤ 4 from by omega) (show 0 ≤ p4.toInt ∧ p4.toInt + p2.toInt ≤ 160 from by omega) (show 0 ≤ (0 : Int) ∧ (0 : Int) ≤ 5 from by omega) (show (5 - (0 : Int)).toNat < BIG from ltBIG (show _ < 100000 from by omega))
    · skip
      exact ok.ret rfl
  · skip
    exact ok.ret rfl
set_option maxHeartbeats 4000000 in
theorem v_Kinds_findOrAdd_3_63 {p1 : Int32} {p2 : Int32} {p4 : Int32} {p5 : Int32} {p6 : Int32} {X : St} (hI : INV X) (h0 : 0 ≤ p1.toInt ∧ p1.toInt ≤ 4) (h1 : 0 ≤ p2.toInt ∧ p2.toInt ≤ 4) (h2 : 0 ≤ p4.toInt ∧ p4.toInt + p2.toInt ≤ 160) : ok (g_Kinds_findOrAdd 3 p1 p2 63 p4 p5 p6 X) (fun r Y => (Fr YC Qv0 X Y ∧ INV Y)) := by
  unfold g_Kinds_findOrAdd
  refine ok.bd (v_Kinds_bucketOf hI) ?_
  rintro x1 _ ⟨rfl, hp1⟩
  have hp1 : 0 ≤ x1.toInt ∧ x1.toInt ≤ 511 := hp1
  refine ok.letE (v1 := 9) (by decide) ?_
  refine ok.ck (show 0 ≤ x1.toInt ∧ x1.toInt < ((512 : Nat) : Int) from by omega) ?_
  refine ok.letE (v1 := (X.1 9 (ix x1))) rfl ?_
  have g2 : -1 ≤ (X.1 9 (ix x1)).toInt ∧ (X.1 9 (ix x1)).toInt ≤ 1548 := hI.1 9 (ix x1)
  have lpu3 : ∀ (n : Nat), ∀ (a_1u3 : Int32) (a_2u3 : Int32) (a_4u3 : Int32) (a_5u3 : Int32) (a_6u3 : Int32) (a_7u3 : Int32) (a_8u3 : Int32) (a_9u3 : Int32) (Zu3 : St), INV Zu3 → Fr YC Qv0 X Zu3 → (0 ≤ a_1u3.toInt ∧ a_1u3.toInt ≤ 4) → (0 ≤ a_2u3.toInt ∧ a_2u3.toInt ≤ 4) → (0 ≤ a_4u3.toInt ∧ a_4u3.toInt + a_2u3.toInt ≤ 160) → (0 ≤ a_7u3.toInt ∧ a_7u3.toInt ≤ 511) → (-1 ≤ a_8u3.toInt ∧ a_8u3.toInt ≤ 1548) → (0 ≤ a_9u3.toInt ∧ a_9u3.toInt ≤ 1549) → (1550 - a_9u3.toInt).toNat < n → ok (g_Kinds_findOrAdd_19 n 3 a_1u3 a_2u3 63 a_4u3 a_5u3 a_6u3 a_7u3 a_8u3 a_9u3 Zu3) (fun r Y => (Fr YC Qv0 X Y ∧ INV Y)) := by
    intro n
    unfold g_Kinds_findOrAdd_19
    refine lp_indN (P := fun (n : Nat) (r_u3 : Nat → Int32 → Int32 → Nat → Int32 → Int32 → Int32 → Int32 → Int32 → Int32 → St → Option (Int32 × St)) => ∀ (a_1u3 : Int32) (a_2u3 : Int32) (a_4u3 : Int32) (a_5u3 : Int32) (a_6u3 : Int32) (a_7u3 : Int32) (a_8u3 : Int32) (a_9u3 : Int32) (Zu3 : St), INV Zu3 → Fr YC Qv0 X Zu3 → (0 ≤ a_1u3.toInt ∧ a_1u3.toInt ≤ 4) → (0 ≤ a_2u3.toInt ∧ a_2u3.toInt ≤ 4) → (0 ≤ a_4u3.toInt ∧ a_4u3.toInt + a_2u3.toInt ≤ 160) → (0 ≤ a_7u3.toInt ∧ a_7u3.toInt ≤ 511) → (-1 ≤ a_8u3.toInt ∧ a_8u3.toInt ≤ 1548) → (0 ≤ a_9u3.toInt ∧ a_9u3.toInt ≤ 1549) → (1550 - a_9u3.toInt).toNat < n → ok (r_u3 3 a_1u3 a_2u3 63 a_4u3 a_5u3 a_6u3 a_7u3 a_8u3 a_9u3 Zu3) (fun r Y => (Fr YC Qv0 X Y ∧ INV Y))) ?_ ?_ n
    · intro a_1u3 a_2u3 a_4u3 a_5u3 a_6u3 a_7u3 a_8u3 a_9u3 Zu3 hIu3 hFu3 u3_0 u3_1 u3_2 u3_3 u3_4 u3_5  hm; exact absurd hm (Nat.not_lt_zero _)
    · intro n r_u3 ih_u3 a_1u3 a_2u3 a_4u3 a_5u3 a_6u3 a_7u3 a_8u3 a_9u3 Zu3 hIu3 hFu3 u3_0 u3_1 u3_2 u3_3 u3_4 u3_5  hmu3
      unfold g_Kinds_findOrAdd_19_s
      refine ok.ite (fun c4 => ?_) (fun c4 => ?_)
      · skip
        unfold g_Kinds_findOrAdd_77
        refine ok.letE (v1 := (Zu3.1 3 0)) rfl ?_
        have g5 : 0 ≤ (Zu3.1 3 0).toInt ∧ (Zu3.1 3 0).toInt ≤ 1549 := hIu3.1 3 0
        refine ok.ite (fun c6 => ?_) (fun c6 => ?_)
        · skip
          refine ok.letE (v1 := (Zu3.1 3 0)) rfl ?_
          refine ok.letE (v1 := (Zu3.1 3 0)) rfl ?_
          refine ok.add (show _ ≤ (Zu3.1 3 0).toInt + (1 : Int) ∧ (Zu3.1 3 0).toInt + (1 : Int) ≤ _ from by omega) (fun x8 hx8 => ?_)
          have hx8 : x8.toInt = (Zu3.1 3 0).toInt + (1 : Int) := hx8
          refine ok.wI (L := [600]) hIu3 (show 0 ≤ x8.toInt ∧ x8.toInt ≤ 1549 from by omega) (show (600 : Nat) ∈ [600] from by decide) (by decide) (fun Z7 hIZ7 hFZ7 hkZ7 hoZ7 => ?_)
          refine ok.letE (v1 := 4) (by decide) ?_
          refine ok.ck (show 0 ≤ (Zu3.1 3 0).toInt ∧ (Zu3.1 3 0).toInt < ((1549 : Nat) : Int) from by omega) ?_
          refine ok.wI (L := [800]) hIZ7 (show True from trivial) (show (800 : Nat) ∈ [800] from by decide) (by decide) (fun Z8 hIZ8 hFZ8 hkZ8 hoZ8 => ?_)
          refine ok.letE (v1 := 5) (by decide) ?_
          refine ok.ck (show 0 ≤ (Zu3.1 3 0).toInt ∧ (Zu3.1 3 0).toInt < ((1549 : Nat) : Int) from by omega) ?_
          refine ok.wI (L := [1000]) hIZ8 (show 0 ≤ a_2u3.toInt ∧ a_2u3.toInt ≤ 4 from by omega) (show (1000 : Nat) ∈ [1000] from by decide) (by decide) (fun Z9 hIZ9 hFZ9 hkZ9 hoZ9 => ?_)
          refine ok.letE (v1 := 7) (by decide) ?_
          refine ok.ck (show 0 ≤ (Zu3.1 3 0).toInt ∧ (Zu3.1 3 0).toInt < ((1549 : Nat) : Int) from by omega) ?_
          refine ok.wI (L := [1400]) hIZ9 (show True from trivial) (show (1400 : Nat) ∈ [1400] from by decide) (by decide) (fun Z10 hIZ10 hFZ10 hkZ10 hoZ10 => ?_)
          refine ok.letE (v1 := 6) (by decide) ?_
          refine ok.mul (show _ ≤ (Zu3.1 3 0).toInt * (5 : Int) ∧ (Zu3.1 3 0).toInt * (5 : Int) ≤ _ from by omega) (fun x17 hx17 => ?_)
          have hx17 : x17.toInt = (Zu3.1 3 0).toInt * (5 : Int) := hx17
          refine ok.add (show _ ≤ x17.toInt + (4 : Int) ∧ x17.toInt + (4 : Int) ≤ _ from by omega) (fun x18 hx18 => ?_)
          have hx18 : x18.toInt = x17.toInt + (4 : Int) := hx18
          refine ok.ck (show 0 ≤ x18.toInt ∧ x18.toInt < ((7745 : Nat) : Int) from by omega) ?_
          refine ok.wI (L := [1200]) hIZ10 (show True from trivial) (show (1200 : Nat) ∈ [1200] from by decide) (by decide) (fun Z11 hIZ11 hFZ11 hkZ11 hoZ11 => ?_)
          refine ok.ite (fun c12 => ?_) (fun c12 => ?_)
          · skip
            unfold g_Kinds_findOrAdd_162
            unfold g_Kinds_findOrAdd_167
            have lpu13 : ∀ (n : Nat), ∀ (a_2u13 : Int32) (a_4u13 : Int32) (a_7u13 : Int32) (a_8u13 : Int32) (a_9u13 : Int32) (a_10u13 : Int32) (Zu13 : St), INV Zu13 → Fr YC Qv0 X Zu13 → (0 ≤ a_2u13.toInt ∧ a_2u13.toInt ≤ 4) → (0 ≤ a_4u13.toInt ∧ a_4u13.toInt + a_2u13.toInt ≤ 160) → (0 ≤ a_7u13.toInt ∧ a_7u13.toInt ≤ 511) → (0 ≤ a_8u13.toInt ∧ a_8u13.toInt ≤ 1548) → (0 ≤ a_10u13.toInt ∧ a_10u13.toInt ≤ 5) → (5 - a_10u13.toInt).toNat < n → ok (g_Kinds_findOrAdd_172 n 3 a_2u13 63 a_4u13 a_7u13 a_8u13 a_9u13 a_10u13 Zu13) (fun r Y => (Fr YC Qv0 X Y ∧ INV Y)) := by
              intro n
              unfold g_Kinds_findOrAdd_172
              refine lp_indN (P := fun (n : Nat) (r_u13 : Nat → Int32 → Nat → Int32 → Int32 → Int32 → Int32 → Int32 → St → Option (Int32 × St)) => ∀ (a_2u13 : Int32) (a_4u13 : Int32) (a_7u13 : Int32) (a_8u13 : Int32) (a_9u13 : Int32) (a_10u13 : Int32) (Zu13 : St), INV Zu13 → Fr YC Qv0 X Zu13 → (0 ≤ a_2u13.toInt ∧ a_2u13.toInt ≤ 4) → (0 ≤ a_4u13.toInt ∧ a_4u13.toInt + a_2u13.toInt ≤ 160) → (0 ≤ a_7u13.toInt ∧ a_7u13.toInt ≤ 511) → (0 ≤ a_8u13.toInt ∧ a_8u13.toInt ≤ 1548) → (0 ≤ a_10u13.toInt ∧ a_10u13.toInt ≤ 5) → (5 - a_10u13.toInt).toNat < n → ok (r_u13 3 a_2u13 63 a_4u13 a_7u13 a_8u13 a_9u13 a_10u13 Zu13) (fun r Y => (Fr YC Qv0 X Y ∧ INV Y))) ?_ ?_ n
              · intro a_2u13 a_4u13 a_7u13 a_8u13 a_9u13 a_10u13 Zu13 hIu13 hFu13 u13_0 u13_1 u13_2 u13_3 u13_4  hm; exact absurd hm (Nat.not_lt_zero _)
              · intro n r_u13 ih_u13 a_2u13 a_4u13 a_7u13 a_8u13 a_9u13 a_10u13 Zu13 hIu13 hFu13 u13_0 u13_1 u13_2 u13_3 u13_4  hmu13
                unfold g_Kinds_findOrAdd_172_s
                refine ok.ite (fun c14 => ?_) (fun c14 => ?_)
                · skip
                  refine ok.letE (v1 := 8) (by decide) ?_
                  refine ok.ck (show 0 ≤ a_8u13.toInt ∧ a_8u13.toInt < ((1549 : Nat) : Int) from by omega) ?_
                  refine ok.wI (L := [1600]) hIu13 (show True from trivial) (show (1600 : Nat) ∈ [1600] from by decide) (by decide) (fun Z15 hIZ15 hFZ15 hkZ15 hoZ15 => ?_)
                  refine ok.letE (v1 := 10) (by decide) ?_
                  refine ok.letE (v1 := 9) (by decide) ?_
                  refine ok.ck (show 0 ≤ a_7u13.toInt ∧ a_7u13.toInt < ((512 : Nat) : Int) from by omega) ?_
                  refine ok.letE (v1 := (Zu13.1 9 (ix a_7u13))) (hFZ15.1 9 (ix a_7u13) (show (1800 : Nat) ∉ [1600] from by decide)) ?_
                  have g16 : -1 ≤ (Zu13.1 9 (ix a_7u13)).toInt ∧ (Zu13.1 9 (ix a_7u13)).toInt ≤ 1548 := hIu13.1 9 (ix a_7u13)
                  refine ok.ck (show 0 ≤ a_8u13.toInt ∧ a_8u13.toInt < ((1549 : Nat) : Int) from by omega) ?_
                  refine ok.wI (L := [2000]) hIZ15 (show -1 ≤ (Zu13.1 9 (ix a_7u13)).toInt ∧ (Zu13.1 9 (ix a_7u13)).toInt ≤ 1548 from by omega) (show (2000 : Nat) ∈ [2000] from by decide) (by decide) (fun Z17 hIZ17 hFZ17 hkZ17 hoZ17 => ?_)
                  refine ok.letE (v1 := 9) (by decide) ?_
                  refine ok.ck (show 0 ≤ a_7u13.toInt ∧ a_7u13.toInt < ((512 : Nat) : Int) from by omega) ?_
                  refine ok.wI (L := [1800]) hIZ17 (show -1 ≤ a_8u13.toInt ∧ a_8u13.toInt ≤ 1548 from by omega) (show (1800 : Nat) ∈ [1800] from by decide) (by decide) (fun Z18 hIZ18 hFZ18 hkZ18 hoZ18 => ?_)
                  exact ok.ret ⟨((((Fr.rf.tr hFu13 (fun _ q => q)).tr hFZ15 (by decide)).tr hFZ17 (by decide)).tr hFZ18 (by decide)), hIZ18⟩
                · skip
                  refine ok.letE (v1 := 6) (by decide) ?_
                  refine ok.mul (show _ ≤ a_8u13.toInt * (5 : Int) ∧ a_8u13.toInt * (5 : Int) ≤ _ from by omega) (fun x29 hx29 => ?_)
                  have hx29 : x29.toInt = a_8u13.toInt * (5 : Int) := hx29
                  refine ok.add (show _ ≤ x29.toInt + a_10u13.toInt ∧ x29.toInt + a_10u13.toInt ≤ _ from by omega) (fun x30 hx30 => ?_)
                  have hx30 : x30.toInt = x29.toInt + a_10u13.toInt := hx30
                  refine ok.add (show _ ≤ a_4u13.toInt + a_10u13.toInt ∧ a_4u13.toInt + a_10u13.toInt ≤ _ from by omega) (fun x31 hx31 => ?_)
                  have hx31 : x31.toInt = a_4u13.toInt + a_10u13.toInt := hx31
                  refine ok.ck (show 0 ≤ x31.toInt ∧ x31.toInt < ((160 : Nat) : Int) from by omega) ?_
                  refine ok.letE (v1 := (X.1 63 (ix x31))) (hFu13.1 63 (ix x31) n12600_Qv0) ?_
                  refine ok.ck (show 0 ≤ x30.toInt ∧ x30.toInt < ((7745 : Nat) : Int) from by omega) ?_
                  refine ok.wI (L := [1200]) hIu13 (show True from trivial) (show (1200 : Nat) ∈ [1200] from by decide) (by decide) (fun Z19 hIZ19 hFZ19 hkZ19 hoZ19 => ?_)
                  refine ok.ite (fun c20 => ?_) (fun c20 => ?_)
                  · skip
                    have g21 := i32_le a_9u13
                    refine ok.add (show _ ≤ a_4u13.toInt + a_10u13.toInt ∧ a_4u13.toInt + a_10u13.toInt ≤ _ from by omega) (fun x35 hx35 => ?_)
                    have hx35 : x35.toInt = a_4u13.toInt + a_10u13.toInt := hx35
                    refine ok.ck (show 0 ≤ x35.toInt ∧ x35.toInt < ((160 : Nat) : Int) from by omega) ?_
                    refine ok.letE (v1 := (X.1 63 (ix x35))) ((hFZ19.1 63 (ix x35) (show (12600 : Nat) ∉ [1200] from by decide)).trans (hFu13.1 63 (ix x35) n12600_Qv0)) ?_
                    refine ok.bd (v_Kinds_hasAny_3 hIZ19) ?_
                    rintro x37 _ rfl
                    refine ok.ite (fun c23 => ?_) (fun c23 => ?_)
                    · skip
                      have g24 := i32_le x37
                      unfold g_Kinds_findOrAdd_221
                      refine ok.inc (by decide) (show _ ≤ a_10u13.toInt + (1) ∧ a_10u13.toInt + (1) ≤ _ from by omega) (fun x34 hx34 => ?_)
                      have hx34 : x34.toInt = a_10u13.toInt + (1) := hx34
                      exact ih_u13 a_2u13 a_4u13 a_7u13 a_8u13 (0 : Int32) x34 Z19 hIZ19 ((Fr.rf.tr hFu13 (fun _ q => q)).tr hFZ19 (by decide)) (show 0 ≤ a_2u13.toInt ∧ a_2u13.toInt ≤ 4 from by omega) (show 0 ≤ a_4u13.toInt ∧ a_4u13.toInt + a_2u13.toInt ≤ 160 from by omega) (show 0 ≤ a_7u13.toInt ∧ a_7u13.toInt ≤ 511 from by omega) (show 0 ≤ a_8u13.toInt ∧ a_8u13.toInt ≤ 1548 from by omega) (show 0 ≤ x34.toInt ∧ x34.toInt ≤ 5 from by omega) (show (5 - x34.toInt).toNat < _ from by omega)
                    · skip
                      unfold g_Kinds_findOrAdd_216
                      unfold g_Kinds_findOrAdd_221
                      refine ok.inc (by decide) (show _ ≤ a_10u13.toInt + (1) ∧ a_10u13.toInt + (1) ≤ _ from by omega) (fun x34 hx34 => ?_)
                      have hx34 : x34.toInt = a_10u13.toInt + (1) := hx34
                      exact ih_u13 a_2u13 a_4u13 a_7u13 a_8u13 (1 : Int32) x34 Z19 hIZ19 ((Fr.rf.tr hFu13 (fun _ q => q)).tr hFZ19 (by decide)) (show 0 ≤ a_2u13.toInt ∧ a_2u13.toInt ≤ 4 from by omega) (show 0 ≤ a_4u13.toInt ∧ a_4u13.toInt + a_2u13.toInt ≤ 160 from by omega) (show 0 ≤ a_7u13.toInt ∧ a_7u13.toInt ≤ 511 from by omega) (show 0 ≤ a_8u13.toInt ∧ a_8u13.toInt ≤ 1548 from by omega) (show 0 ≤ x34.toInt ∧ x34.toInt ≤ 5 from by omega) (show (5 - x34.toInt).toNat < _ from by omega)
                  · skip
                    unfold g_Kinds_findOrAdd_216
                    unfold g_Kinds_findOrAdd_221
                    refine ok.inc (by decide) (show _ ≤ a_10u13.toInt + (1) ∧ a_10u13.toInt + (1) ≤ _ from by omega) (fun x34 hx34 => ?_)
                    have hx34 : x34.toInt = a_10u13.toInt + (1) := hx34
                    exact ih_u13 a_2u13 a_4u13 a_7u13 a_8u13 (1 : Int32) x34 Z19 hIZ19 ((Fr.rf.tr hFu13 (fun _ q => q)).tr hFZ19 (by decide)) (show 0 ≤ a_2u13.toInt ∧ a_2u13.toInt ≤ 4 from by omega) (show 0 ≤ a_4u13.toInt ∧ a_4u13.toInt + a_2u13.toInt ≤ 160 from by omega) (show 0 ≤ a_7u13.toInt ∧ a_7u13.toInt ≤ 511 from by omega) (show 0 ≤ a_8u13.toInt ∧ a_8u13.toInt ≤ 1548 from by omega) (show 0 ≤ x34.toInt ∧ x34.toInt ≤ 5 from by omega) (show (5 - x34.toInt).toNat < _ from by omega)
            exact lpu13 BIG a_2u3 a_4u3 a_7u3 (Zu3.1 3 0) (1 : Int32) (0 : Int32) Z11 hIZ11 ((((((Fr.rf.tr hFu3 (fun _ q => q)).tr hFZ7 (by decide)).tr hFZ8 (by decide)).tr hFZ9 (by decide)).tr hFZ10 (by decide)).tr hFZ11 (by decide)) (show 0 ≤ a_2u3.toInt ∧ a_2u3.toInt ≤ 4 from by omega) (show 0 ≤ a_4u3.toInt ∧ a_4u3.toInt + a_2u3.toInt ≤ 160 from by omega) (show 0 ≤ a_7u3.toInt ∧ a_7u3.toInt ≤ 511 from by omega) (show 0 ≤ (Zu3.1 3 0).toInt ∧ (Zu3.1 3 0).toInt ≤ 1548 from by omega) (show 0 ≤ (0 : Int) ∧ (0 : Int) ≤ 5 from by omega) (show (5 - (0 : Int)).toNat < BIG from ltBIG (show _ < 100000 from by omega))
          · skip
            refine ok.ite (fun c25 => ?_) (fun c25 => ?_)
            · skip
              unfold g_Kinds_findOrAdd_166
              unfold g_Kinds_findOrAdd_167
              have lpu26 : ∀ (n : Nat), ∀ (a_2u26 : Int32) (a_4u26 : Int32) (a_7u26 : Int32) (a_8u26 : Int32) (a_9u26 : Int32) (a_10u26 : Int32) (Zu26 : St), INV Zu26 → Fr YC Qv0 X Zu26 → (0 ≤ a_2u26.toInt ∧ a_2u26.toInt ≤ 4) → (0 ≤ a_4u26.toInt ∧ a_4u26.toInt + a_2u26.toInt ≤ 160) → (0 ≤ a_7u26.toInt ∧ a_7u26.toInt ≤ 511) → (0 ≤ a_8u26.toInt ∧ a_8u26.toInt ≤ 1548) → (0 ≤ a_10u26.toInt ∧ a_10u26.toInt ≤ 5) → (5 - a_10u26.toInt).toNat < n → ok (g_Kinds_findOrAdd_172 n 3 a_2u26 63 a_4u26 a_7u26 a_8u26 a_9u26 a_10u26 Zu26) (fun r Y => (Fr YC Qv0 X Y ∧ INV Y)) := by
                intro n
                unfold g_Kinds_findOrAdd_172
                refine lp_indN (P := fun (n : Nat) (r_u26 : Nat → Int32 → Nat → Int32 → Int32 → Int32 → Int32 → Int32 → St → Option (Int32 × St)) => ∀ (a_2u26 : Int32) (a_4u26 : Int32) (a_7u26 : Int32) (a_8u26 : Int32) (a_9u26 : Int32) (a_10u26 : Int32) (Zu26 : St), INV Zu26 → Fr YC Qv0 X Zu26 → (0 ≤ a_2u26.toInt ∧ a_2u26.toInt ≤ 4) → (0 ≤ a_4u26.toInt ∧ a_4u26.toInt + a_2u26.toInt ≤ 160) → (0 ≤ a_7u26.toInt ∧ a_7u26.toInt ≤ 511) → (0 ≤ a_8u26.toInt ∧ a_8u26.toInt ≤ 1548) → (0 ≤ a_10u26.toInt ∧ a_10u26.toInt ≤ 5) → (5 - a_10u26.toInt).toNat < n → ok (r_u26 3 a_2u26 63 a_4u26 a_7u26 a_8u26 a_9u26 a_10u26 Zu26) (fun r Y => (Fr YC Qv0 X Y ∧ INV Y))) ?_ ?_ n
                · intro a_2u26 a_4u26 a_7u26 a_8u26 a_9u26 a_10u26 Zu26 hIu26 hFu26 u26_0 u26_1 u26_2 u26_3 u26_4  hm; exact absurd hm (Nat.not_lt_zero _)
                · intro n r_u26 ih_u26 a_2u26 a_4u26 a_7u26 a_8u26 a_9u26 a_10u26 Zu26 hIu26 hFu26 u26_0 u26_1 u26_2 u26_3 u26_4  hmu26
                  unfold g_Kinds_findOrAdd_172_s
                  refine ok.ite (fun c27 => ?_) (fun c27 => ?_)
                  · skip
                    refine ok.letE (v1 := 8) (by decide) ?_
                    refine ok.ck (show 0 ≤ a_8u26.toInt ∧ a_8u26.toInt < ((1549 : Nat) : Int) from by omega) ?_
                    refine ok.wI (L := [1600]) hIu26 (show True from trivial) (show (1600 : Nat) ∈ [1600] from by decide) (by decide) (fun Z28 hIZ28 hFZ28 hkZ28 hoZ28 => ?_)
                    refine ok.letE (v1 := 10) (by decide) ?_
                    refine ok.letE (v1 := 9) (by decide) ?_
                    refine ok.ck (show 0 ≤ a_7u26.toInt ∧ a_7u26.toInt < ((512 : Nat) : Int) from by omega) ?_
                    refine ok.letE (v1 := (Zu26.1 9 (ix a_7u26))) (hFZ28.1 9 (ix a_7u26) (show (1800 : Nat) ∉ [1600] from by decide)) ?_
                    have g29 : -1 ≤ (Zu26.1 9 (ix a_7u26)).toInt ∧ (Zu26.1 9 (ix a_7u26)).toInt ≤ 1548 := hIu26.1 9 (ix a_7u26)
                    refine ok.ck (show 0 ≤ a_8u26.toInt ∧ a_8u26.toInt < ((1549 : Nat) : Int) from by omega) ?_
                    refine ok.wI (L := [2000]) hIZ28 (show -1 ≤ (Zu26.1 9 (ix a_7u26)).toInt ∧ (Zu26.1 9 (ix a_7u26)).toInt ≤ 1548 from by omega) (show (2000 : Nat) ∈ [2000] from by decide) (by decide) (fun Z30 hIZ30 hFZ30 hkZ30 hoZ30 => ?_)
                    refine ok.letE (v1 := 9) (by decide) ?_
                    refine ok.ck (show 0 ≤ a_7u26.toInt ∧ a_7u26.toInt < ((512 : Nat) : Int) from by omega) ?_
                    refine ok.wI (L := [1800]) hIZ30 (show -1 ≤ a_8u26.toInt ∧ a_8u26.toInt ≤ 1548 from by omega) (show (1800 : Nat) ∈ [1800] from by decide) (by decide) (fun Z31 hIZ31 hFZ31 hkZ31 hoZ31 => ?_)
                    exact ok.ret ⟨((((Fr.rf.tr hFu26 (fun _ q => q)).tr hFZ28 (by decide)).tr hFZ30 (by decide)).tr hFZ31 (by decide)), hIZ31⟩
                  · skip
                    refine ok.letE (v1 := 6) (by decide) ?_
                    refine ok.mul (show _ ≤ a_8u26.toInt * (5 : Int) ∧ a_8u26.toInt * (5 : Int) ≤ _ from by omega) (fun x29 hx29 => ?_)
                    have hx29 : x29.toInt = a_8u26.toInt * (5 : Int) := hx29
                    refine ok.add (show _ ≤ x29.toInt + a_10u26.toInt ∧ x29.toInt + a_10u26.toInt ≤ _ from by omega) (fun x30 hx30 => ?_)
                    have hx30 : x30.toInt = x29.toInt + a_10u26.toInt := hx30
                    refine ok.add (show _ ≤ a_4u26.toInt + a_10u26.toInt ∧ a_4u26.toInt + a_10u26.toInt ≤ _ from by omega) (fun x31 hx31 => ?_)
                    have hx31 : x31.toInt = a_4u26.toInt + a_10u26.toInt := hx31
                    refine ok.ck (show 0 ≤ x31.toInt ∧ x31.toInt < ((160 : Nat) : Int) from by omega) ?_
                    refine ok.letE (v1 := (X.1 63 (ix x31))) (hFu26.1 63 (ix x31) n12600_Qv0) ?_
                    refine ok.ck (show 0 ≤ x30.toInt ∧ x30.toInt < ((7745 : Nat) : Int) from by omega) ?_
                    refine ok.wI (L := [1200]) hIu26 (show True from trivial) (show (1200 : Nat) ∈ [1200] from by decide) (by decide) (fun Z32 hIZ32 hFZ32 hkZ32 hoZ32 => ?_)
                    refine ok.ite (fun c33 => ?_) (fun c33 => ?_)
                    · skip
                      have g34 := i32_le a_9u26
                      refine ok.add (show _ ≤ a_4u26.toInt + a_10u26.toInt ∧ a_4u26.toInt + a_10u26.toInt ≤ _ from by omega) (fun x35 hx35 => ?_)
                      have hx35 : x35.toInt = a_4u26.toInt + a_10u26.toInt := hx35
                      refine ok.ck (show 0 ≤ x35.toInt ∧ x35.toInt < ((160 : Nat) : Int) from by omega) ?_
                      refine ok.letE (v1 := (X.1 63 (ix x35))) ((hFZ32.1 63 (ix x35) (show (12600 : Nat) ∉ [1200] from by decide)).trans (hFu26.1 63 (ix x35) n12600_Qv0)) ?_
                      refine ok.bd (v_Kinds_hasAny_3 hIZ32) ?_
                      rintro x37 _ rfl
                      refine ok.ite (fun c36 => ?_) (fun c36 => ?_)
                      · skip
                        have g37 := i32_le x37
                        unfold g_Kinds_findOrAdd_221
                        refine ok.inc (by decide) (show _ ≤ a_10u26.toInt + (1) ∧ a_10u26.toInt + (1) ≤ _ from by omega) (fun x34 hx34 => ?_)
                        have hx34 : x34.toInt = a_10u26.toInt + (1) := hx34
                        exact ih_u26 a_2u26 a_4u26 a_7u26 a_8u26 (0 : Int32) x34 Z32 hIZ32 ((Fr.rf.tr hFu26 (fun _ q => q)).tr hFZ32 (by decide)) (show 0 ≤ a_2u26.toInt ∧ a_2u26.toInt ≤ 4 from by omega) (show 0 ≤ a_4u26.toInt ∧ a_4u26.toInt + a_2u26.toInt ≤ 160 from by omega) (show 0 ≤ a_7u26.toInt ∧ a_7u26.toInt ≤ 511 from by omega) (show 0 ≤ a_8u26.toInt ∧ a_8u26.toInt ≤ 1548 from by omega) (show 0 ≤ x34.toInt ∧ x34.toInt ≤ 5 from by omega) (show (5 - x34.toInt).toNat < _ from by omega)
                      · skip
                        unfold g_Kinds_findOrAdd_216
                        unfold g_Kinds_findOrAdd_221
                        refine ok.inc (by decide) (show _ ≤ a_10u26.toInt + (1) ∧ a_10u26.toInt + (1) ≤ _ from by omega) (fun x34 hx34 => ?_)
                        have hx34 : x34.toInt = a_10u26.toInt + (1) := hx34
                        exact ih_u26 a_2u26 a_4u26 a_7u26 a_8u26 (1 : Int32) x34 Z32 hIZ32 ((Fr.rf.tr hFu26 (fun _ q => q)).tr hFZ32 (by decide)) (show 0 ≤ a_2u26.toInt ∧ a_2u26.toInt ≤ 4 from by omega) (show 0 ≤ a_4u26.toInt ∧ a_4u26.toInt + a_2u26.toInt ≤ 160 from by omega) (show 0 ≤ a_7u26.toInt ∧ a_7u26.toInt ≤ 511 from by omega) (show 0 ≤ a_8u26.toInt ∧ a_8u26.toInt ≤ 1548 from by omega) (show 0 ≤ x34.toInt ∧ x34.toInt ≤ 5 from by omega) (show (5 - x34.toInt).toNat < _ from by omega)
                    · skip
                      unfold g_Kinds_findOrAdd_216
                      unfold g_Kinds_findOrAdd_221
                      refine ok.inc (by decide) (show _ ≤ a_10u26.toInt + (1) ∧ a_10u26.toInt + (1) ≤ _ from by omega) (fun x34 hx34 => ?_)
                      have hx34 : x34.toInt = a_10u26.toInt + (1) := hx34
                      exact ih_u26 a_2u26 a_4u26 a_7u26 a_8u26 (1 : Int32) x34 Z32 hIZ32 ((Fr.rf.tr hFu26 (fun _ q => q)).tr hFZ32 (by decide)) (show 0 ≤ a_2u26.toInt ∧ a_2u26.toInt ≤ 4 from by omega) (show 0 ≤ a_4u26.toInt ∧ a_4u26.toInt + a_2u26.toInt ≤ 160 from by omega) (show 0 ≤ a_7u26.toInt ∧ a_7u26.toInt ≤ 511 from by omega) (show 0 ≤ a_8u26.toInt ∧ a_8u26.toInt ≤ 1548 from by omega) (show 0 ≤ x34.toInt ∧ x34.toInt ≤ 5 from by omega) (show (5 - x34.toInt).toNat < _ from by omega)
              exact lpu26 BIG a_2u3 a_4u3 a_7u3 (Zu3.1 3 0) (0 : Int32) (0 : Int32) Z11 hIZ11 ((((((Fr.rf.tr hFu3 (fun _ q => q)).tr hFZ7 (by decide)).tr hFZ8 (by decide)).tr hFZ9 (by decide)).tr hFZ10 (by decide)).tr hFZ11 (by decide)) (show 0 ≤ a_2u3.toInt ∧ a_2u3.toInt ≤ 4 from by omega) (show 0 ≤ a_4u3.toInt ∧ a_4u3.toInt + a_2u3.toInt ≤ 160 from by omega) (show 0 ≤ a_7u3.toInt ∧ a_7u3.toInt ≤ 511 from by omega) (show 0 ≤ (Zu3.1 3 0).toInt ∧ (Zu3.1 3 0).toInt ≤ 1548 from by omega) (show 0 ≤ (0 : Int) ∧ (0 : Int) ≤ 5 from by omega) (show (5 - (0 : Int)).toNat < BIG from ltBIG (show _ < 100000 from by omega))
            · skip
              refine ok.bd (v_Kinds_hasAny_3 hIZ11) ?_
              rintro x39 _ rfl
              refine ok.ite (fun c39 => ?_) (fun c39 => ?_)
              · skip
                have g40 := i32_le x39
                unfold g_Kinds_findOrAdd_166
                unfold g_Kinds_findOrAdd_167
                have lpu41 : ∀ (n : Nat), ∀ (a_2u41 : Int32) (a_4u41 : Int32) (a_7u41 : Int32) (a_8u41 : Int32) (a_9u41 : Int32) (a_10u41 : Int32) (Zu41 : St), INV Zu41 → Fr YC Qv0 X Zu41 → (0 ≤ a_2u41.toInt ∧ a_2u41.toInt ≤ 4) → (0 ≤ a_4u41.toInt ∧ a_4u41.toInt + a_2u41.toInt ≤ 160) → (0 ≤ a_7u41.toInt ∧ a_7u41.toInt ≤ 511) → (0 ≤ a_8u41.toInt ∧ a_8u41.toInt ≤ 1548) → (0 ≤ a_10u41.toInt ∧ a_10u41.toInt ≤ 5) → (5 - a_10u41.toInt).toNat < n → ok (g_Kinds_findOrAdd_172 n 3 a_2u41 63 a_4u41 a_7u41 a_8u41 a_9u41 a_10u41 Zu41) (fun r Y => (Fr YC Qv0 X Y ∧ INV Y)) := by
                  intro n
                  unfold g_Kinds_findOrAdd_172
                  refine lp_indN (P := fun (n : Nat) (r_u41 : Nat → Int32 → Nat → Int32 → Int32 → Int32 → Int32 → Int32 → St → Option (Int32 × St)) => ∀ (a_2u41 : Int32) (a_4u41 : Int32) (a_7u41 : Int32) (a_8u41 : Int32) (a_9u41 : Int32) (a_10u41 : Int32) (Zu41 : St), INV Zu41 → Fr YC Qv0 X Zu41 → (0 ≤ a_2u41.toInt ∧ a_2u41.toInt ≤ 4) → (0 ≤ a_4u41.toInt ∧ a_4u41.toInt + a_2u41.toInt ≤ 160) → (0 ≤ a_7u41.toInt ∧ a_7u41.toInt ≤ 511) → (0 ≤ a_8u41.toInt ∧ a_8u41.toInt ≤ 1548) → (0 ≤ a_10u41.toInt ∧ a_10u41.toInt ≤ 5) → (5 - a_10u41.toInt).toNat < n → ok (r_u41 3 a_2u41 63 a_4u41 a_7u41 a_8u41 a_9u41 a_10u41 Zu41) (fun r Y => (Fr YC Qv0 X Y ∧ INV Y))) ?_ ?_ n
                  · intro a_2u41 a_4u41 a_7u41 a_8u41 a_9u41 a_10u41 Zu41 hIu41 hFu41 u41_0 u41_1 u41_2 u41_3 u41_4  hm; exact absurd hm (Nat.not_lt_zero _)
                  · intro n r_u41 ih_u41 a_2u41 a_4u41 a_7u41 a_8u41 a_9u41 a_10u41 Zu41 hIu41 hFu41 u41_0 u41_1 u41_2 u41_3 u41_4  hmu41
                    unfold g_Kinds_findOrAdd_172_s
                    refine ok.ite (fun c42 => ?_) (fun c42 => ?_)
                    · skip
                      refine ok.letE (v1 := 8) (by decide) ?_
                      refine ok.ck (show 0 ≤ a_8u41.toInt ∧ a_8u41.toInt < ((1549 : Nat) : Int) from by omega) ?_
                      refine ok.wI (L := [1600]) hIu41 (show True from trivial) (show (1600 : Nat) ∈ [1600] from by decide) (by decide) (fun Z43 hIZ43 hFZ43 hkZ43 hoZ43 => ?_)
                      refine ok.letE (v1 := 10) (by decide) ?_
                      refine ok.letE (v1 := 9) (by decide) ?_
                      refine ok.ck (show 0 ≤ a_7u41.toInt ∧ a_7u41.toInt < ((512 : Nat) : Int) from by omega) ?_
                      refine ok.letE (v1 := (Zu41.1 9 (ix a_7u41))) (hFZ43.1 9 (ix a_7u41) (show (1800 : Nat) ∉ [1600] from by decide)) ?_
                      have g44 : -1 ≤ (Zu41.1 9 (ix a_7u41)).toInt ∧ (Zu41.1 9 (ix a_7u41)).toInt ≤ 1548 := hIu41.1 9 (ix a_7u41)
                      refine ok.ck (show 0 ≤ a_8u41.toInt ∧ a_8u41.toInt < ((1549 : Nat) : Int) from by omega) ?_
                      refine ok.wI (L := [2000]) hIZ43 (show -1 ≤ (Zu41.1 9 (ix a_7u41)).toInt ∧ (Zu41.1 9 (ix a_7u41)).toInt ≤ 1548 from by omega) (show (2000 : Nat) ∈ [2000] from by decide) (by decide) (fun Z45 hIZ45 hFZ45 hkZ45 hoZ45 => ?_)
                      refine ok.letE (v1 := 9) (by decide) ?_
                      refine ok.ck (show 0 ≤ a_7u41.toInt ∧ a_7u41.toInt < ((512 : Nat) : Int) from by omega) ?_
                      refine ok.wI (L := [1800]) hIZ45 (show -1 ≤ a_8u41.toInt ∧ a_8u41.toInt ≤ 1548 from by omega) (show (1800 : Nat) ∈ [1800] from by decide) (by decide) (fun Z46 hIZ46 hFZ46 hkZ46 hoZ46 => ?_)
                      exact ok.ret ⟨((((Fr.rf.tr hFu41 (fun _ q => q)).tr hFZ43 (by decide)).tr hFZ45 (by decide)).tr hFZ46 (by decide)), hIZ46⟩
                    · skip
                      refine ok.letE (v1 := 6) (by decide) ?_
                      refine ok.mul (show _ ≤ a_8u41.toInt * (5 : Int) ∧ a_8u41.toInt * (5 : Int) ≤ _ from by omega) (fun x29 hx29 => ?_)
                      have hx29 : x29.toInt = a_8u41.toInt * (5 : Int) := hx29
                      refine ok.add (show _ ≤ x29.toInt + a_10u41.toInt ∧ x29.toInt + a_10u41.toInt ≤ _ from by omega) (fun x30 hx30 => ?_)
                      have hx30 : x30.toInt = x29.toInt + a_10u41.toInt := hx30
                      refine ok.add (show _ ≤ a_4u41.toInt + a_10u41.toInt ∧ a_4u41.toInt + a_10u41.toInt ≤ _ from by omega) (fun x31 hx31 => ?_)
                      have hx31 : x31.toInt = a_4u41.toInt + a_10u41.toInt := hx31
                      refine ok.ck (show 0 ≤ x31.toInt ∧ x31.toInt < ((160 : Nat) : Int) from by omega) ?_
                      refine ok.letE (v1 := (X.1 63 (ix x31))) (hFu41.1 63 (ix x31) n12600_Qv0) ?_
                      refine ok.ck (show 0 ≤ x30.toInt ∧ x30.toInt < ((7745 : Nat) : Int) from by omega) ?_
                      refine ok.wI (L := [1200]) hIu41 (show True from trivial) (show (1200 : Nat) ∈ [1200] from by decide) (by decide) (fun Z47 hIZ47 hFZ47 hkZ47 hoZ47 => ?_)
                      refine ok.ite (fun c48 => ?_) (fun c48 => ?_)
                      · skip
                        have g49 := i32_le a_9u41
                        refine ok.add (show _ ≤ a_4u41.toInt + a_10u41.toInt ∧ a_4u41.toInt + a_10u41.toInt ≤ _ from by omega) (fun x35 hx35 => ?_)
                        have hx35 : x35.toInt = a_4u41.toInt + a_10u41.toInt := hx35
                        refine ok.ck (show 0 ≤ x35.toInt ∧ x35.toInt < ((160 : Nat) : Int) from by omega) ?_
                        refine ok.letE (v1 := (X.1 63 (ix x35))) ((hFZ47.1 63 (ix x35) (show (12600 : Nat) ∉ [1200] from by decide)).trans (hFu41.1 63 (ix x35) n12600_Qv0)) ?_
                        refine ok.bd (v_Kinds_hasAny_3 hIZ47) ?_
                        rintro x37 _ rfl
                        refine ok.ite (fun c51 => ?_) (fun c51 => ?_)
                        · skip
                          have g52 := i32_le x37
                          unfold g_Kinds_findOrAdd_221
                          refine ok.inc (by decide) (show _ ≤ a_10u41.toInt + (1) ∧ a_10u41.toInt + (1) ≤ _ from by omega) (fun x34 hx34 => ?_)
                          have hx34 : x34.toInt = a_10u41.toInt + (1) := hx34
                          exact ih_u41 a_2u41 a_4u41 a_7u41 a_8u41 (0 : Int32) x34 Z47 hIZ47 ((Fr.rf.tr hFu41 (fun _ q => q)).tr hFZ47 (by decide)) (show 0 ≤ a_2u41.toInt ∧ a_2u41.toInt ≤ 4 from by omega) (show 0 ≤ a_4u41.toInt ∧ a_4u41.toInt + a_2u41.toInt ≤ 160 from by omega) (show 0 ≤ a_7u41.toInt ∧ a_7u41.toInt ≤ 511 from by omega) (show 0 ≤ a_8u41.toInt ∧ a_8u41.toInt ≤ 1548 from by omega) (show 0 ≤ x34.toInt ∧ x34.toInt ≤ 5 from by omega) (show (5 - x34.toInt).toNat < _ from by omega)
                        · skip
                          unfold g_Kinds_findOrAdd_216
                          unfold g_Kinds_findOrAdd_221
                          refine ok.inc (by decide) (show _ ≤ a_10u41.toInt + (1) ∧ a_10u41.toInt + (1) ≤ _ from by omega) (fun x34 hx34 => ?_)
                          have hx34 : x34.toInt = a_10u41.toInt + (1) := hx34
                          exact ih_u41 a_2u41 a_4u41 a_7u41 a_8u41 (1 : Int32) x34 Z47 hIZ47 ((Fr.rf.tr hFu41 (fun _ q => q)).tr hFZ47 (by decide)) (show 0 ≤ a_2u41.toInt ∧ a_2u41.toInt ≤ 4 from by omega) (show 0 ≤ a_4u41.toInt ∧ a_4u41.toInt + a_2u41.toInt ≤ 160 from by omega) (show 0 ≤ a_7u41.toInt ∧ a_7u41.toInt ≤ 511 from by omega) (show 0 ≤ a_8u41.toInt ∧ a_8u41.toInt ≤ 1548 from by omega) (show 0 ≤ x34.toInt ∧ x34.toInt ≤ 5 from by omega) (show (5 - x34.toInt).toNat < _ from by omega)
                      · skip
                        unfold g_Kinds_findOrAdd_216
                        unfold g_Kinds_findOrAdd_221
                        refine ok.inc (by decide) (show _ ≤ a_10u41.toInt + (1) ∧ a_10u41.toInt + (1) ≤ _ from by omega) (fun x34 hx34 => ?_)
                        have hx34 : x34.toInt = a_10u41.toInt + (1) := hx34
                        exact ih_u41 a_2u41 a_4u41 a_7u41 a_8u41 (1 : Int32) x34 Z47 hIZ47 ((Fr.rf.tr hFu41 (fun _ q => q)).tr hFZ47 (by decide)) (show 0 ≤ a_2u41.toInt ∧ a_2u41.toInt ≤ 4 from by omega) (show 0 ≤ a_4u41.toInt ∧ a_4u41.toInt + a_2u41.toInt ≤ 160 from by omega) (show 0 ≤ a_7u41.toInt ∧ a_7u41.toInt ≤ 511 from by omega) (show 0 ≤ a_8u41.toInt ∧ a_8u41.toInt ≤ 1548 from by omega) (show 0 ≤ x34.toInt ∧ x34.toInt ≤ 5 from by omega) (show (5 - x34.toInt).toNat < _ from by omega)
                exact lpu41 BIG a_2u3 a_4u3 a_7u3 (Zu3.1 3 0) (0 : Int32) (0 : Int32) Z11 hIZ11 ((((((Fr.rf.tr hFu3 (fun _ q => q)).tr hFZ7 (by decide)).tr hFZ8 (by decide)).tr hFZ9 (by decide)).tr hFZ10 (by decide)).tr hFZ11 (by decide)) (show 0 ≤ a_2u3.toInt ∧ a_2u3.toInt ≤ 4 from by omega) (show 0 ≤ a_4u3.toInt ∧ a_4u3.toInt + a_2u3.toInt ≤ 160 from by omega) (show 0 ≤ a_7u3.toInt ∧ a_7u3.toInt ≤ 511 from by omega) (show 0 ≤ (Zu3.1 3 0).toInt ∧ (Zu3.1 3 0).toInt ≤ 1548 from by omega) (show 0 ≤ (0 : Int) ∧ (0 : Int) ≤ 5 from by omega) (show (5 - (0 : Int)).toNat < BIG from ltBIG (show _ < 100000 from by omega))
              · skip
                unfold g_Kinds_findOrAdd_162
                unfold g_Kinds_findOrAdd_167
                have lpu53 : ∀ (n : Nat), ∀ (a_2u53 : Int32) (a_4u53 : Int32) (a_7u53 : Int32) (a_8u53 : Int32) (a_9u53 : Int32) (a_10u53 : Int32) (Zu53 : St), INV Zu53 → Fr YC Qv0 X Zu53 → (0 ≤ a_2u53.toInt ∧ a_2u53.toInt ≤ 4) → (0 ≤ a_4u53.toInt ∧ a_4u53.toInt + a_2u53.toInt ≤ 160) → (0 ≤ a_7u53.toInt ∧ a_7u53.toInt ≤ 511) → (0 ≤ a_8u53.toInt ∧ a_8u53.toInt ≤ 1548) → (0 ≤ a_10u53.toInt ∧ a_10u53.toInt ≤ 5) → (5 - a_10u53.toInt).toNat < n → ok (g_Kinds_findOrAdd_172 n 3 a_2u53 63 a_4u53 a_7u53 a_8u53 a_9u53 a_10u53 Zu53) (fun r Y => (Fr YC Qv0 X Y ∧ INV Y)) := by
                  intro n
                  unfold g_Kinds_findOrAdd_172
                  refine lp_indN (P := fun (n : Nat) (r_u53 : Nat → Int32 → Nat → Int32 → Int32 → Int32 → Int32 → Int32 → St → Option (Int32 × St)) => ∀ (a_2u53 : Int32) (a_4u53 : Int32) (a_7u53 : Int32) (a_8u53 : Int32) (a_9u53 : Int32) (a_10u53 : Int32) (Zu53 : St), INV Zu53 → Fr YC Qv0 X Zu53 → (0 ≤ a_2u53.toInt ∧ a_2u53.toInt ≤ 4) → (0 ≤ a_4u53.toInt ∧ a_4u53.toInt + a_2u53.toInt ≤ 160) → (0 ≤ a_7u53.toInt ∧ a_7u53.toInt ≤ 511) → (0 ≤ a_8u53.toInt ∧ a_8u53.toInt ≤ 1548) → (0 ≤ a_10u53.toInt ∧ a_10u53.toInt ≤ 5) → (5 - a_10u53.toInt).toNat < n → ok (r_u53 3 a_2u53 63 a_4u53 a_7u53 a_8u53 a_9u53 a_10u53 Zu53) (fun r Y => (Fr YC Qv0 X Y ∧ INV Y))) ?_ ?_ n
                  · intro a_2u53 a_4u53 a_7u53 a_8u53 a_9u53 a_10u53 Zu53 hIu53 hFu53 u53_0 u53_1 u53_2 u53_3 u53_4  hm; exact absurd hm (Nat.not_lt_zero _)
                  · intro n r_u53 ih_u53 a_2u53 a_4u53 a_7u53 a_8u53 a_9u53 a_10u53 Zu53 hIu53 hFu53 u53_0 u53_1 u53_2 u53_3 u53_4  hmu53
                    unfold g_Kinds_findOrAdd_172_s
                    refine ok.ite (fun c54 => ?_) (fun c54 => ?_)
                    · skip
                      refine ok.letE (v1 := 8) (by decide) ?_
                      refine ok.ck (show 0 ≤ a_8u53.toInt ∧ a_8u53.toInt < ((1549 : Nat) : Int) from by omega) ?_
                      refine ok.wI (L := [1600]) hIu53 (show True from trivial) (show (1600 : Nat) ∈ [1600] from by decide) (by decide) (fun Z55 hIZ55 hFZ55 hkZ55 hoZ55 => ?_)
                      refine ok.letE (v1 := 10) (by decide) ?_
                      refine ok.letE (v1 := 9) (by decide) ?_
                      refine ok.ck (show 0 ≤ a_7u53.toInt ∧ a_7u53.toInt < ((512 : Nat) : Int) from by omega) ?_
                      refine ok.letE (v1 := (Zu53.1 9 (ix a_7u53))) (hFZ55.1 9 (ix a_7u53) (show (1800 : Nat) ∉ [1600] from by decide)) ?_
                      have g56 : -1 ≤ (Zu53.1 9 (ix a_7u53)).toInt ∧ (Zu53.1 9 (ix a_7u53)).toInt ≤ 1548 := hIu53.1 9 (ix a_7u53)
                      refine ok.ck (show 0 ≤ a_8u53.toInt ∧ a_8u53.toInt < ((1549 : Nat) : Int) from by omega) ?_
                      refine ok.wI (L := [2000]) hIZ55 (show -1 ≤ (Zu53.1 9 (ix a_7u53)).toInt ∧ (Zu53.1 9 (ix a_7u53)).toInt ≤ 1548 from by omega) (show (2000 : Nat) ∈ [2000] from by decide) (by decide) (fun Z57 hIZ57 hFZ57 hkZ57 hoZ57 => ?_)
                      refine ok.letE (v1 := 9) (by decide) ?_
                      refine ok.ck (show 0 ≤ a_7u53.toInt ∧ a_7u53.toInt < ((512 : Nat) : Int) from by omega) ?_
                      refine ok.wI (L := [1800]) hIZ57 (show -1 ≤ a_8u53.toInt ∧ a_8u53.toInt ≤ 1548 from by omega) (show (1800 : Nat) ∈ [1800] from by decide) (by decide) (fun Z58 hIZ58 hFZ58 hkZ58 hoZ58 => ?_)
                      exact ok.ret ⟨((((Fr.rf.tr hFu53 (fun _ q => q)).tr hFZ55 (by decide)).tr hFZ57 (by decide)).tr hFZ58 (by decide)), hIZ58⟩
                    · skip
                      refine ok.letE (v1 := 6) (by decide) ?_
                      refine ok.mul (show _ ≤ a_8u53.toInt * (5 : Int) ∧ a_8u53.toInt * (5 : Int) ≤ _ from by omega) (fun x29 hx29 => ?_)
                      have hx29 : x29.toInt = a_8u53.toInt * (5 : Int) := hx29
                      refine ok.add (show _ ≤ x29.toInt + a_10u53.toInt ∧ x29.toInt + a_10u53.toInt ≤ _ from by omega) (fun x30 hx30 => ?_)
                      have hx30 : x30.toInt = x29.toInt + a_10u53.toInt := hx30
                      refine ok.add (show _ ≤ a_4u53.toInt + a_10u53.toInt ∧ a_4u53.toInt + a_10u53.toInt ≤ _ from by omega) (fun x31 hx31 => ?_)
                      have hx31 : x31.toInt = a_4u53.toInt + a_10u53.toInt := hx31
                      refine ok.ck (show 0 ≤ x31.toInt ∧ x31.toInt < ((160 : Nat) : Int) from by omega) ?_
                      refine ok.letE (v1 := (X.1 63 (ix x31))) (hFu53.1 63 (ix x31) n12600_Qv0) ?_
                      refine ok.ck (show 0 ≤ x30.toInt ∧ x30.toInt < ((7745 : Nat) : Int) from by omega) ?_
                      refine ok.wI (L := [1200]) hIu53 (show True from trivial) (show (1200 : Nat) ∈ [1200] from by decide) (by decide) (fun Z59 hIZ59 hFZ59 hkZ59 hoZ59 => ?_)
                      refine ok.ite (fun c60 => ?_) (fun c60 => ?_)
                      · skip
                        have g61 := i32_le a_9u53
                        refine ok.add (show _ ≤ a_4u53.toInt + a_10u53.toInt ∧ a_4u53.toInt + a_10u53.toInt ≤ _ from by omega) (fun x35 hx35 => ?_)
                        have hx35 : x35.toInt = a_4u53.toInt + a_10u53.toInt := hx35
                        refine ok.ck (show 0 ≤ x35.toInt ∧ x35.toInt < ((160 : Nat) : Int) from by omega) ?_
                        refine ok.letE (v1 := (X.1 63 (ix x35))) ((hFZ59.1 63 (ix x35) (show (12600 : Nat) ∉ [1200] from by decide)).trans (hFu53.1 63 (ix x35) n12600_Qv0)) ?_
                        refine ok.bd (v_Kinds_hasAny_3 hIZ59) ?_
                        rintro x37 _ rfl
                        refine ok.ite (fun c63 => ?_) (fun c63 => ?_)
                        · skip
                          have g64 := i32_le x37
                          unfold g_Kinds_findOrAdd_221
                          refine ok.inc (by decide) (show _ ≤ a_10u53.toInt + (1) ∧ a_10u53.toInt + (1) ≤ _ from by omega) (fun x34 hx34 => ?_)
                          have hx34 : x34.toInt = a_10u53.toInt + (1) := hx34
                          exact ih_u53 a_2u53 a_4u53 a_7u53 a_8u53 (0 : Int32) x34 Z59 hIZ59 ((Fr.rf.tr hFu53 (fun _ q => q)).tr hFZ59 (by decide)) (show 0 ≤ a_2u53.toInt ∧ a_2u53.toInt ≤ 4 from by omega) (show 0 ≤ a_4u53.toInt ∧ a_4u53.toInt + a_2u53.toInt ≤ 160 from by omega) (show 0 ≤ a_7u53.toInt ∧ a_7u53.toInt ≤ 511 from by omega) (show 0 ≤ a_8u53.toInt ∧ a_8u53.toInt ≤ 1548 from by omega) (show 0 ≤ x34.toInt ∧ x34.toInt ≤ 5 from by omega) (show (5 - x34.toInt).toNat < _ from by omega)
                        · skip
                          unfold g_Kinds_findOrAdd_216
                          unfold g_Kinds_findOrAdd_221
                          refine ok.inc (by decide) (show _ ≤ a_10u53.toInt + (1) ∧ a_10u53.toInt + (1) ≤ _ from by omega) (fun x34 hx34 => ?_)
                          have hx34 : x34.toInt = a_10u53.toInt + (1) := hx34
                          exact ih_u53 a_2u53 a_4u53 a_7u53 a_8u53 (1 : Int32) x34 Z59 hIZ59 ((Fr.rf.tr hFu53 (fun _ q => q)).tr hFZ59 (by decide)) (show 0 ≤ a_2u53.toInt ∧ a_2u53.toInt ≤ 4 from by omega) (show 0 ≤ a_4u53.toInt ∧ a_4u53.toInt + a_2u53.toInt ≤ 160 from by omega) (show 0 ≤ a_7u53.toInt ∧ a_7u53.toInt ≤ 511 from by omega) (show 0 ≤ a_8u53.toInt ∧ a_8u53.toInt ≤ 1548 from by omega) (show 0 ≤ x34.toInt ∧ x34.toInt ≤ 5 from by omega) (show (5 - x34.toInt).toNat < _ from by omega)
                      · skip
                        unfold g_Kinds_findOrAdd_216
                        unfold g_Kinds_findOrAdd_221
                        refine ok.inc (by decide) (show _ ≤ a_10u53.toInt + (1) ∧ a_10u53.toInt + (1) ≤ _ from by omega) (fun x34 hx34 => ?_)
                        have hx34 : x34.toInt = a_10u53.toInt + (1) := hx34
                        exact ih_u53 a_2u53 a_4u53 a_7u53 a_8u53 (1 : Int32) x34 Z59 hIZ59 ((Fr.rf.tr hFu53 (fun _ q => q)).tr hFZ59 (by decide)) (show 0 ≤ a_2u53.toInt ∧ a_2u53.toInt ≤ 4 from by omega) (show 0 ≤ a_4u53.toInt ∧ a_4u53.toInt + a_2u53.toInt ≤ 160 from by omega) (show 0 ≤ a_7u53.toInt ∧ a_7u53.toInt ≤ 511 from by omega) (show 0 ≤ a_8u53.toInt ∧ a_8u53.toInt ≤ 1548 from by omega) (show 0 ≤ x34.toInt ∧ x34.toInt ≤ 5 from by omega) (show (5 - x34.toInt).toNat < _ from by omega)
                exact lpu53 BIG a_2u3 a_4u3 a_7u3 (Zu3.1 3 0) (1 : Int32) (0 : Int32) Z11 hIZ11 ((((((Fr.rf.tr hFu3 (fun _ q => q)).tr hFZ7 (by decide)).tr hFZ8 (by decide)).tr hFZ9 (by decide)).tr hFZ10 (by decide)).tr hFZ11 (by decide)) (show 0 ≤ a_2u3.toInt ∧ a_2u3.toInt ≤ 4 from by omega) (show 0 ≤ a_4u3.toInt ∧ a_4u3.toInt + a_2u3.toInt ≤ 160 from by omega) (show 0 ≤ a_7u3.toInt ∧ a_7u3.toInt ≤ 511 from by omega) (show 0 ≤ (Zu3.1 3 0).toInt ∧ (Zu3.1 3 0).toInt ≤ 1548 from by omega) (show 0 ≤ (0 : Int) ∧ (0 : Int) ≤ 5 from by omega) (show (5 - (0 : Int)).toNat < BIG from ltBIG (show _ < 100000 from by omega))
        · skip
          exact ok.ret ⟨(Fr.rf.tr hFu3 (fun _ q => q)), hIu3⟩
      · skip
        refine ok.ite (fun c65 => ?_) (fun c65 => ?_)
        · skip
          unfold g_Kinds_findOrAdd_77
          refine ok.letE (v1 := (Zu3.1 3 0)) rfl ?_
          have g66 : 0 ≤ (Zu3.1 3 0).toInt ∧ (Zu3.1 3 0).toInt ≤ 1549 := hIu3.1 3 0
          refine ok.ite (fun c67 => ?_) (fun c67 => ?_)
          · skip
            refine ok.letE (v1 := (Zu3.1 3 0)) rfl ?_
            refine ok.letE (v1 := (Zu3.1 3 0)) rfl ?_
            refine ok.add (show _ ≤ (Zu3.1 3 0).toInt + (1 : Int) ∧ (Zu3.1 3 0).toInt + (1 : Int) ≤ _ from by omega) (fun x8 hx8 => ?_)
            have hx8 : x8.toInt = (Zu3.1 3 0).toInt + (1 : Int) := hx8
            refine ok.wI (L := [600]) hIu3 (show 0 ≤ x8.toInt ∧ x8.toInt ≤ 1549 from by omega) (show (600 : Nat) ∈ [600] from by decide) (by decide) (fun Z68 hIZ68 hFZ68 hkZ68 hoZ68 => ?_)
            refine ok.letE (v1 := 4) (by decide) ?_
            refine ok.ck (show 0 ≤ (Zu3.1 3 0).toInt ∧ (Zu3.1 3 0).toInt < ((1549 : Nat) : Int) from by omega) ?_
            refine ok.wI (L := [800]) hIZ68 (show True from trivial) (show (800 : Nat) ∈ [800] from by decide) (by decide) (fun Z69 hIZ69 hFZ69 hkZ69 hoZ69 => ?_)
            refine ok.letE (v1 := 5) (by decide) ?_
            refine ok.ck (show 0 ≤ (Zu3.1 3 0).toInt ∧ (Zu3.1 3 0).toInt < ((1549 : Nat) : Int) from by omega) ?_
            refine ok.wI (L := [1000]) hIZ69 (show 0 ≤ a_2u3.toInt ∧ a_2u3.toInt ≤ 4 from by omega) (show (1000 : Nat) ∈ [1000] from by decide) (by decide) (fun Z70 hIZ70 hFZ70 hkZ70 hoZ70 => ?_)
            refine ok.letE (v1 := 7) (by decide) ?_
            refine ok.ck (show 0 ≤ (Zu3.1 3 0).toInt ∧ (Zu3.1 3 0).toInt < ((1549 : Nat) : Int) from by omega) ?_
            refine ok.wI (L := [1400]) hIZ70 (show True from trivial) (show (1400 : Nat) ∈ [1400] from by decide) (by decide) (fun Z71 hIZ71 hFZ71 hkZ71 hoZ71 => ?_)
            refine ok.letE (v1 := 6) (by decide) ?_
            refine ok.mul (show _ ≤ (Zu3.1 3 0).toInt * (5 : Int) ∧ (Zu3.1 3 0).toInt * (5 : Int) ≤ _ from by omega) (fun x17 hx17 => ?_)
            have hx17 : x17.toInt = (Zu3.1 3 0).toInt * (5 : Int) := hx17
            refine ok.add (show _ ≤ x17.toInt + (4 : Int) ∧ x17.toInt + (4 : Int) ≤ _ from by omega) (fun x18 hx18 => ?_)
            have hx18 : x18.toInt = x17.toInt + (4 : Int) := hx18
            refine ok.ck (show 0 ≤ x18.toInt ∧ x18.toInt < ((7745 : Nat) : Int) from by omega) ?_
            refine ok.wI (L := [1200]) hIZ71 (show True from trivial) (show (1200 : Nat) ∈ [1200] from by decide) (by decide) (fun Z72 hIZ72 hFZ72 hkZ72 hoZ72 => ?_)
            refine ok.ite (fun c73 => ?_) (fun c73 => ?_)
            · skip
              unfold g_Kinds_findOrAdd_162
              unfold g_Kinds_findOrAdd_167
              have lpu74 : ∀ (n : Nat), ∀ (a_2u74 : Int32) (a_4u74 : Int32) (a_7u74 : Int32) (a_8u74 : Int32) (a_9u74 : Int32) (a_10u74 : Int32) (Zu74 : St), INV Zu74 → Fr YC Qv0 X Zu74 → (0 ≤ a_2u74.toInt ∧ a_2u74.toInt ≤ 4) → (0 ≤ a_4u74.toInt ∧ a_4u74.toInt + a_2u74.toInt ≤ 160) → (0 ≤ a_7u74.toInt ∧ a_7u74.toInt ≤ 511) → (0 ≤ a_8u74.toInt ∧ a_8u74.toInt ≤ 1548) → (0 ≤ a_10u74.toInt ∧ a_10u74.toInt ≤ 5) → (5 - a_10u74.toInt).toNat < n → ok (g_Kinds_findOrAdd_172 n 3 a_2u74 63 a_4u74 a_7u74 a_8u74 a_9u74 a_10u74 Zu74) (fun r Y => (Fr YC Qv0 X Y ∧ INV Y)) := by
                intro n
                unfold g_Kinds_findOrAdd_172
                refine lp_indN (P := fun (n : Nat) (r_u74 : Nat → Int32 → Nat → Int32 → Int32 → Int32 → Int32 → Int32 → St → Option (Int32 × St)) => ∀ (a_2u74 : Int32) (a_4u74 : Int32) (a_7u74 : Int32) (a_8u74 : Int32) (a_9u74 : Int32) (a_10u74 : Int32) (Zu74 : St), INV Zu74 → Fr YC Qv0 X Zu74 → (0 ≤ a_2u74.toInt ∧ a_2u74.toInt ≤ 4) → (0 ≤ a_4u74.toInt ∧ a_4u74.toInt + a_2u74.toInt ≤ 160) → (0 ≤ a_7u74.toInt ∧ a_7u74.toInt ≤ 511) → (0 ≤ a_8u74.toInt ∧ a_8u74.toInt ≤ 1548) → (0 ≤ a_10u74.toInt ∧ a_10u74.toInt ≤ 5) → (5 - a_10u74.toInt).toNat < n → ok (r_u74 3 a_2u74 63 a_4u74 a_7u74 a_8u74 a_9u74 a_10u74 Zu74) (fun r Y => (Fr YC Qv0 X Y ∧ INV Y))) ?_ ?_ n
                · intro a_2u74 a_4u74 a_7u74 a_8u74 a_9u74 a_10u74 Zu74 hIu74 hFu74 u74_0 u74_1 u74_2 u74_3 u74_4  hm; exact absurd hm (Nat.not_lt_zero _)
                · intro n r_u74 ih_u74 a_2u74 a_4u74 a_7u74 a_8u74 a_9u74 a_10u74 Zu74 hIu74 hFu74 u74_0 u74_1 u74_2 u74_3 u74_4  hmu74
                  unfold g_Kinds_findOrAdd_172_s
                  refine ok.ite (fun c75 => ?_) (fun c75 => ?_)
                  · skip
                    refine ok.letE (v1 := 8) (by decide) ?_
                    refine ok.ck (show 0 ≤ a_8u74.toInt ∧ a_8u74.toInt < ((1549 : Nat) : Int) from by omega) ?_
                    refine ok.wI (L := [1600]) hIu74 (show True from trivial) (show (1600 : Nat) ∈ [1600] from by decide) (by decide) (fun Z76 hIZ76 hFZ76 hkZ76 hoZ76 => ?_)
                    refine ok.letE (v1 := 10) (by decide) ?_
                    refine ok.letE (v1 := 9) (by decide) ?_
                    refine ok.ck (show 0 ≤ a_7u74.toInt ∧ a_7u74.toInt < ((512 : Nat) : Int) from by omega) ?_
                    refine ok.letE (v1 := (Zu74.1 9 (ix a_7u74))) (hFZ76.1 9 (ix a_7u74) (show (1800 : Nat) ∉ [1600] from by decide)) ?_
                    have g77 : -1 ≤ (Zu74.1 9 (ix a_7u74)).toInt ∧ (Zu74.1 9 (ix a_7u74)).toInt ≤ 1548 := hIu74.1 9 (ix a_7u74)
                    refine ok.ck (show 0 ≤ a_8u74.toInt ∧ a_8u74.toInt < ((1549 : Nat) : Int) from by omega) ?_
                    refine ok.wI (L := [2000]) hIZ76 (show -1 ≤ (Zu74.1 9 (ix a_7u74)).toInt ∧ (Zu74.1 9 (ix a_7u74)).toInt ≤ 1548 from by omega) (show (2000 : Nat) ∈ [2000] from by decide) (by decide) (fun Z78 hIZ78 hFZ78 hkZ78 hoZ78 => ?_)
                    refine ok.letE (v1 := 9) (by decide) ?_
                    refine ok.ck (show 0 ≤ a_7u74.toInt ∧ a_7u74.toInt < ((512 : Nat) : Int) from by omega) ?_
                    refine ok.wI (L := [1800]) hIZ78 (show -1 ≤ a_8u74.toInt ∧ a_8u74.toInt ≤ 1548 from by omega) (show (1800 : Nat) ∈ [1800] from by decide) (by decide) (fun Z79 hIZ79 hFZ79 hkZ79 hoZ79 => ?_)
                    exact ok.ret ⟨((((Fr.rf.tr hFu74 (fun _ q => q)).tr hFZ76 (by decide)).tr hFZ78 (by decide)).tr hFZ79 (by decide)), hIZ79⟩
                  · skip
                    refine ok.letE (v1 := 6) (by decide) ?_
                    refine ok.mul (show _ ≤ a_8u74.toInt * (5 : Int) ∧ a_8u74.toInt * (5 : Int) ≤ _ from by omega) (fun x29 hx29 => ?_)
                    have hx29 : x29.toInt = a_8u74.toInt * (5 : Int) := hx29
                    refine ok.add (show _ ≤ x29.toInt + a_10u74.toInt ∧ x29.toInt + a_10u74.toInt ≤ _ from by omega) (fun x30 hx30 => ?_)
                    have hx30 : x30.toInt = x29.toInt + a_10u74.toInt := hx30
                    refine ok.add (show _ ≤ a_4u74.toInt + a_10u74.toInt ∧ a_4u74.toInt + a_10u74.toInt ≤ _ from by omega) (fun x31 hx31 => ?_)
                    have hx31 : x31.toInt = a_4u74.toInt + a_10u74.toInt := hx31
                    refine ok.ck (show 0 ≤ x31.toInt ∧ x31.toInt < ((160 : Nat) : Int) from by omega) ?_
                    refine ok.letE (v1 := (X.1 63 (ix x31))) (hFu74.1 63 (ix x31) n12600_Qv0) ?_
                    refine ok.ck (show 0 ≤ x30.toInt ∧ x30.toInt < ((7745 : Nat) : Int) from by omega) ?_
                    refine ok.wI (L := [1200]) hIu74 (show True from trivial) (show (1200 : Nat) ∈ [1200] from by decide) (by decide) (fun Z80 hIZ80 hFZ80 hkZ80 hoZ80 => ?_)
                    refine ok.ite (fun c81 => ?_) (fun c81 => ?_)
                    · skip
                      have g82 := i32_le a_9u74
                      refine ok.add (show _ ≤ a_4u74.toInt + a_10u74.toInt ∧ a_4u74.toInt + a_10u74.toInt ≤ _ from by omega) (fun x35 hx35 => ?_)
                      have hx35 : x35.toInt = a_4u74.toInt + a_10u74.toInt := hx35
                      refine ok.ck (show 0 ≤ x35.toInt ∧ x35.toInt < ((160 : Nat) : Int) from by omega) ?_
                      refine ok.letE (v1 := (X.1 63 (ix x35))) ((hFZ80.1 63 (ix x35) (show (12600 : Nat) ∉ [1200] from by decide)).trans (hFu74.1 63 (ix x35) n12600_Qv0)) ?_
                      refine ok.bd (v_Kinds_hasAny_3 hIZ80) ?_
                      rintro x37 _ rfl
                      refine ok.ite (fun c84 => ?_) (fun c84 => ?_)
                      · skip
                        have g85 := i32_le x37
                        unfold g_Kinds_findOrAdd_221
                        refine ok.inc (by decide) (show _ ≤ a_10u74.toInt + (1) ∧ a_10u74.toInt + (1) ≤ _ from by omega) (fun x34 hx34 => ?_)
                        have hx34 : x34.toInt = a_10u74.toInt + (1) := hx34
                        exact ih_u74 a_2u74 a_4u74 a_7u74 a_8u74 (0 : Int32) x34 Z80 hIZ80 ((Fr.rf.tr hFu74 (fun _ q => q)).tr hFZ80 (by decide)) (show 0 ≤ a_2u74.toInt ∧ a_2u74.toInt ≤ 4 from by omega) (show 0 ≤ a_4u74.toInt ∧ a_4u74.toInt + a_2u74.toInt ≤ 160 from by omega) (show 0 ≤ a_7u74.toInt ∧ a_7u74.toInt ≤ 511 from by omega) (show 0 ≤ a_8u74.toInt ∧ a_8u74.toInt ≤ 1548 from by omega) (show 0 ≤ x34.toInt ∧ x34.toInt ≤ 5 from by omega) (show (5 - x34.toInt).toNat < _ from by omega)
                      · skip
                        unfold g_Kinds_findOrAdd_216
                        unfold g_Kinds_findOrAdd_221
                        refine ok.inc (by decide) (show _ ≤ a_10u74.toInt + (1) ∧ a_10u74.toInt + (1) ≤ _ from by omega) (fun x34 hx34 => ?_)
                        have hx34 : x34.toInt = a_10u74.toInt + (1) := hx34
                        exact ih_u74 a_2u74 a_4u74 a_7u74 a_8u74 (1 : Int32) x34 Z80 hIZ80 ((Fr.rf.tr hFu74 (fun _ q => q)).tr hFZ80 (by decide)) (show 0 ≤ a_2u74.toInt ∧ a_2u74.toInt ≤ 4 from by omega) (show 0 ≤ a_4u74.toInt ∧ a_4u74.toInt + a_2u74.toInt ≤ 160 from by omega) (show 0 ≤ a_7u74.toInt ∧ a_7u74.toInt ≤ 511 from by omega) (show 0 ≤ a_8u74.toInt ∧ a_8u74.toInt ≤ 1548 from by omega) (show 0 ≤ x34.toInt ∧ x34.toInt ≤ 5 from by omega) (show (5 - x34.toInt).toNat < _ from by omega)
                    · skip
                      unfold g_Kinds_findOrAdd_216
                      unfold g_Kinds_findOrAdd_221
                      refine ok.inc (by decide) (show _ ≤ a_10u74.toInt + (1) ∧ a_10u74.toInt + (1) ≤ _ from by omega) (fun x34 hx34 => ?_)
                      have hx34 : x34.toInt = a_10u74.toInt + (1) := hx34
                      exact ih_u74 a_2u74 a_4u74 a_7u74 a_8u74 (1 : Int32) x34 Z80 hIZ80 ((Fr.rf.tr hFu74 (fun _ q => q)).tr hFZ80 (by decide)) (show 0 ≤ a_2u74.toInt ∧ a_2u74.toInt ≤ 4 from by omega) (show 0 ≤ a_4u74.toInt ∧ a_4u74.toInt + a_2u74.toInt ≤ 160 from by omega) (show 0 ≤ a_7u74.toInt ∧ a_7u74.toInt ≤ 511 from by omega) (show 0 ≤ a_8u74.toInt ∧ a_8u74.toInt ≤ 1548 from by omega) (show 0 ≤ x34.toInt ∧ x34.toInt ≤ 5 from by omega) (show (5 - x34.toInt).toNat < _ from by omega)
              exact lpu74 BIG a_2u3 a_4u3 a_7u3 (Zu3.1 3 0) (1 : Int32) (0 : Int32) Z72 hIZ72 ((((((Fr.rf.tr hFu3 (fun _ q => q)).tr hFZ68 (by decide)).tr hFZ69 (by decide)).tr hFZ70 (by decide)).tr hFZ71 (by decide)).tr hFZ72 (by decide)) (show 0 ≤ a_2u3.toInt ∧ a_2u3.toInt ≤ 4 from by omega) (show 0 ≤ a_4u3.toInt ∧ a_4u3.toInt + a_2u3.toInt ≤ 160 from by omega) (show 0 ≤ a_7u3.toInt ∧ a_7u3.toInt ≤ 511 from by omega) (show 0 ≤ (Zu3.1 3 0).toInt ∧ (Zu3.1 3 0).toInt ≤ 1548 from by omega) (show 0 ≤ (0 : Int) ∧ (0 : Int) ≤ 5 from by omega) (show (5 - (0 : Int)).toNat < BIG from ltBIG (show _ < 100000 from by omega))
            · skip
              refine ok.ite (fun c86 => ?_) (fun c86 => ?_)
              · skip
                unfold g_Kinds_findOrAdd_166
                unfold g_Kinds_findOrAdd_167
                have lpu87 : ∀ (n : Nat), ∀ (a_2u87 : Int32) (a_4u87 : Int32) (a_7u87 : Int32) (a_8u87 : Int32) (a_9u87 : Int32) (a_10u87 : Int32) (Zu87 : St), INV Zu87 → Fr YC Qv0 X Zu87 → (0 ≤ a_2u87.toInt ∧ a_2u87.toInt ≤ 4) → (0 ≤ a_4u87.toInt ∧ a_4u87.toInt + a_2u87.toInt ≤ 160) → (0 ≤ a_7u87.toInt ∧ a_7u87.toInt ≤ 511) → (0 ≤ a_8u87.toInt ∧ a_8u87.toInt ≤ 1548) → (0 ≤ a_10u87.toInt ∧ a_10u87.toInt ≤ 5) → (5 - a_10u87.toInt).toNat < n → ok (g_Kinds_findOrAdd_172 n 3 a_2u87 63 a_4u87 a_7u87 a_8u87 a_9u87 a_10u87 Zu87) (fun r Y => (Fr YC Qv0 X Y ∧ INV Y)) := by
                  intro n
                  unfold g_Kinds_findOrAdd_172
                  refine lp_indN (P := fun (n : Nat) (r_u87 : Nat → Int32 → Nat → Int32 → Int32 → Int32 → Int32 → Int32 → St → Option (Int32 × St)) => ∀ (a_2u87 : Int32) (a_4u87 : Int32) (a_7u87 : Int32) (a_8u87 : Int32) (a_9u87 : Int32) (a_10u87 : Int32) (Zu87 : St), INV Zu87 → Fr YC Qv0 X Zu87 → (0 ≤ a_2u87.toInt ∧ a_2u87.toInt ≤ 4) → (0 ≤ a_4u87.toInt ∧ a_4u87.toInt + a_2u87.toInt ≤ 160) → (0 ≤ a_7u87.toInt ∧ a_7u87.toInt ≤ 511) → (0 ≤ a_8u87.toInt ∧ a_8u87.toInt ≤ 1548) → (0 ≤ a_10u87.toInt ∧ a_10u87.toInt ≤ 5) → (5 - a_10u87.toInt).toNat < n → ok (r_u87 3 a_2u87 63 a_4u87 a_7u87 a_8u87 a_9u87 a_10u87 Zu87) (fun r Y => (Fr YC Qv0 X Y ∧ INV Y))) ?_ ?_ n
                  · intro a_2u87 a_4u87 a_7u87 a_8u87 a_9u87 a_10u87 Zu87 hIu87 hFu87 u87_0 u87_1 u87_2 u87_3 u87_4  hm; exact absurd hm (Nat.not_lt_zero _)
                  · intro n r_u87 ih_u87 a_2u87 a_4u87 a_7u87 a_8u87 a_9u87 a_10u87 Zu87 hIu87 hFu87 u87_0 u87_1 u87_2 u87_3 u87_4  hmu87
                    unfold g_Kinds_findOrAdd_172_s
                    refine ok.ite (fun c88 => ?_) (fun c88 => ?_)
                    · skip
                      refine ok.letE (v1 := 8) (by decide) ?_
                      refine ok.ck (show 0 ≤ a_8u87.toInt ∧ a_8u87.toInt < ((1549 : Nat) : Int) from by omega) ?_
                      refine ok.wI (L := [1600]) hIu87 (show True from trivial) (show (1600 : Nat) ∈ [1600] from by decide) (by decide) (fun Z89 hIZ89 hFZ89 hkZ89 hoZ89 => ?_)
                      refine ok.letE (v1 := 10) (by decide) ?_
                      refine ok.letE (v1 := 9) (by decide) ?_
                      refine ok.ck (show 0 ≤ a_7u87.toInt ∧ a_7u87.toInt < ((512 : Nat) : Int) from by omega) ?_
                      refine ok.letE (v1 := (Zu87.1 9 (ix a_7u87))) (hFZ89.1 9 (ix a_7u87) (show (1800 : Nat) ∉ [1600] from by decide)) ?_
                      have g90 : -1 ≤ (Zu87.1 9 (ix a_7u87)).toInt ∧ (Zu87.1 9 (ix a_7u87)).toInt ≤ 1548 := hIu87.1 9 (ix a_7u87)
                      refine ok.ck (show 0 ≤ a_8u87.toInt ∧ a_8u87.toInt < ((1549 : Nat) : Int) from by omega) ?_
                      refine ok.wI (L := [2000]) hIZ89 (show -1 ≤ (Zu87.1 9 (ix a_7u87)).toInt ∧ (Zu87.1 9 (ix a_7u87)).toInt ≤ 1548 from by omega) (show (2000 : Nat) ∈ [2000] from by decide) (by decide) (fun Z91 hIZ91 hFZ91 hkZ91 hoZ91 => ?_)
                      refine ok.letE (v1 := 9) (by decide) ?_
                      refine ok.ck (show 0 ≤ a_7u87.toInt ∧ a_7u87.toInt < ((512 : Nat) : Int) from by omega) ?_
                      refine ok.wI (L := [1800]) hIZ91 (show -1 ≤ a_8u87.toInt ∧ a_8u87.toInt ≤ 1548 from by omega) (show (1800 : Nat) ∈ [1800] from by decide) (by decide) (fun Z92 hIZ92 hFZ92 hkZ92 hoZ92 => ?_)
                      exact ok.ret ⟨((((Fr.rf.tr hFu87 (fun _ q => q)).tr hFZ89 (by decide)).tr hFZ91 (by decide)).tr hFZ92 (by decide)), hIZ92⟩
                    · skip
                      refine ok.letE (v1 := 6) (by decide) ?_
                      refine ok.mul (show _ ≤ a_8u87.toInt * (5 : Int) ∧ a_8u87.toInt * (5 : Int) ≤ _ from by omega) (fun x29 hx29 => ?_)
                      have hx29 : x29.toInt = a_8u87.toInt * (5 : Int) := hx29
                      refine ok.add (show _ ≤ x29.toInt + a_10u87.toInt ∧ x29.toInt + a_10u87.toInt ≤ _ from by omega) (fun x30 hx30 => ?_)
                      have hx30 : x30.toInt = x29.toInt + a_10u87.toInt := hx30
                      refine ok.add (show _ ≤ a_4u87.toInt + a_10u87.toInt ∧ a_4u87.toInt + a_10u87.toInt ≤ _ from by omega) (fun x31 hx31 => ?_)
                      have hx31 : x31.toInt = a_4u87.toInt + a_10u87.toInt := hx31
                      refine ok.ck (show 0 ≤ x31.toInt ∧ x31.toInt < ((160 : Nat) : Int) from by omega) ?_
                      refine ok.letE (v1 := (X.1 63 (ix x31))) (hFu87.1 63 (ix x31) n12600_Qv0) ?_
                      refine ok.ck (show 0 ≤ x30.toInt ∧ x30.toInt < ((7745 : Nat) : Int) from by omega) ?_
                      refine ok.wI (L := [1200]) hIu87 (show True from trivial) (show (1200 : Nat) ∈ [1200] from by decide) (by decide) (fun Z93 hIZ93 hFZ93 hkZ93 hoZ93 => ?_)
                      refine ok.ite (fun c94 => ?_) (fun c94 => ?_)
                      · skip
                        have g95 := i32_le a_9u87
                        refine ok.add (show _ ≤ a_4u87.toInt + a_10u87.toInt ∧ a_4u87.toInt + a_10u87.toInt ≤ _ from by omega) (fun x35 hx35 => ?_)
                        have hx35 : x35.toInt = a_4u87.toInt + a_10u87.toInt := hx35
                        refine ok.ck (show 0 ≤ x35.toInt ∧ x35.toInt < ((160 : Nat) : Int) from by omega) ?_
                        refine ok.letE (v1 := (X.1 63 (ix x35))) ((hFZ93.1 63 (ix x35) (show (12600 : Nat) ∉ [1200] from by decide)).trans (hFu87.1 63 (ix x35) n12600_Qv0)) ?_
                        refine ok.bd (v_Kinds_hasAny_3 hIZ93) ?_
                        rintro x37 _ rfl
                        refine ok.ite (fun c97 => ?_) (fun c97 => ?_)
                        · skip
                          have g98 := i32_le x37
                          unfold g_Kinds_findOrAdd_221
                          refine ok.inc (by decide) (show _ ≤ a_10u87.toInt + (1) ∧ a_10u87.toInt + (1) ≤ _ from by omega) (fun x34 hx34 => ?_)
                          have hx34 : x34.toInt = a_10u87.toInt + (1) := hx34
                          exact ih_u87 a_2u87 a_4u87 a_7u87 a_8u87 (0 : Int32) x34 Z93 hIZ93 ((Fr.rf.tr hFu87 (fun _ q => q)).tr hFZ93 (by decide)) (show 0 ≤ a_2u87.toInt ∧ a_2u87.toInt ≤ 4 from by omega) (show 0 ≤ a_4u87.toInt ∧ a_4u87.toInt + a_2u87.toInt ≤ 160 from by omega) (show 0 ≤ a_7u87.toInt ∧ a_7u87.toInt ≤ 511 from by omega) (show 0 ≤ a_8u87.toInt ∧ a_8u87.toInt ≤ 1548 from by omega) (show 0 ≤ x34.toInt ∧ x34.toInt ≤ 5 from by omega) (show (5 - x34.toInt).toNat < _ from by omega)
                        · skip
                          unfold g_Kinds_findOrAdd_216
                          unfold g_Kinds_findOrAdd_221
                          refine ok.inc (by decide) (show _ ≤ a_10u87.toInt + (1) ∧ a_10u87.toInt + (1) ≤ _ from by omega) (fun x34 hx34 => ?_)
                          have hx34 : x34.toInt = a_10u87.toInt + (1) := hx34
                          exact ih_u87 a_2u87 a_4u87 a_7u87 a_8u87 (1 : Int32) x34 Z93 hIZ93 ((Fr.rf.tr hFu87 (fun _ q => q)).tr hFZ93 (by decide)) (show 0 ≤ a_2u87.toInt ∧ a_2u87.toInt ≤ 4 from by omega) (show 0 ≤ a_4u87.toInt ∧ a_4u87.toInt + a_2u87.toInt ≤ 160 from by omega) (show 0 ≤ a_7u87.toInt ∧ a_7u87.toInt ≤ 511 from by omega) (show 0 ≤ a_8u87.toInt ∧ a_8u87.toInt ≤ 1548 from by omega) (show 0 ≤ x34.toInt ∧ x34.toInt ≤ 5 from by omega) (show (5 - x34.toInt).toNat < _ from by omega)
                      · skip
                        unfold g_Kinds_findOrAdd_216
                        unfold g_Kinds_findOrAdd_221
                        refine ok.inc (by decide) (show _ ≤ a_10u87.toInt + (1) ∧ a_10u87.toInt + (1) ≤ _ from by omega) (fun x34 hx34 => ?_)
                        have hx34 : x34.toInt = a_10u87.toInt + (1) := hx34
                        exact ih_u87 a_2u87 a_4u87 a_7u87 a_8u87 (1 : Int32) x34 Z93 hIZ93 ((Fr.rf.tr hFu87 (fun _ q => q)).tr hFZ93 (by decide)) (show 0 ≤ a_2u87.toInt ∧ a_2u87.toInt ≤ 4 from by omega) (show 0 ≤ a_4u87.toInt ∧ a_4u87.toInt + a_2u87.toInt ≤ 160 from by omega) (show 0 ≤ a_7u87.toInt ∧ a_7u87.toInt ≤ 511 from by omega) (show 0 ≤ a_8u87.toInt ∧ a_8u87.toInt ≤ 1548 from by omega) (show 0 ≤ x34.toInt ∧ x34.toInt ≤ 5 from by omega) (show (5 - x34.toInt).toNat < _ from by omega)
                exact lpu87 BIG a_2u3 a_4u3 a_7u3 (Zu3.1 3 0) (0 : Int32) (0 : Int32) Z72 hIZ72 ((((((Fr.rf.tr hFu3 (fun _ q => q)).tr hFZ68 (by decide)).tr hFZ69 (by decide)).tr hFZ70 (by decide)).tr hFZ71 (by decide)).tr hFZ72 (by decide)) (show 0 ≤ a_2u3.toInt ∧ a_2u3.toInt ≤ 4 from by omega) (show 0 ≤ a_4u3.toInt ∧ a_4u3.toInt + a_2u3.toInt ≤ 160 from by omega) (show 0 ≤ a_7u3.toInt ∧ a_7u3.toInt ≤ 511 from by omega) (show 0 ≤ (Zu3.1 3 0).toInt ∧ (Zu3.1 3 0).toInt ≤ 1548 from by omega) (show 0 ≤ (0 : Int) ∧ (0 : Int) ≤ 5 from by omega) (show (5 - (0 : Int)).toNat < BIG from ltBIG (show _ < 100000 from by omega))
              · skip
                refine ok.bd (v_Kinds_hasAny_3 hIZ72) ?_
                rintro x39 _ rfl
                refine ok.ite (fun c100 => ?_) (fun c100 => ?_)
                · skip
                  have g101 := i32_le x39
                  unfold g_Kinds_findOrAdd_166
                  unfold g_Kinds_findOrAdd_167
                  have lpu102 : ∀ (n : Nat), ∀ (a_2u102 : Int32) (a_4u102 : Int32) (a_7u102 : Int32) (a_8u102 : Int32) (a_9u102 : Int32) (a_10u102 : Int32) (Zu102 : St), INV Zu102 → Fr YC Qv0 X Zu102 → (0 ≤ a_2u102.toInt ∧ a_2u102.toInt ≤ 4) → (0 ≤ a_4u102.toInt ∧ a_4u102.toInt + a_2u102.toInt ≤ 160) → (0 ≤ a_7u102.toInt ∧ a_7u102.toInt ≤ 511) → (0 ≤ a_8u102.toInt ∧ a_8u102.toInt ≤ 1548) → (0 ≤ a_10u102.toInt ∧ a_10u102.toInt ≤ 5) → (5 - a_10u102.toInt).toNat < n → ok (g_Kinds_findOrAdd_172 n 3 a_2u102 63 a_4u102 a_7u102 a_8u102 a_9u102 a_10u102 Zu102) (fun r Y => (Fr YC Qv0 X Y ∧ INV Y)) := by
                    intro n
                    unfold g_Kinds_findOrAdd_172
                    refine lp_indN (P := fun (n : Nat) (r_u102 : Nat → Int32 → Nat → Int32 → Int32 → Int32 → Int32 → Int32 → St → Option (Int32 × St)) => ∀ (a_2u102 : Int32) (a_4u102 : Int32) (a_7u102 : Int32) (a_8u102 : Int32) (a_9u102 : Int32) (a_10u102 : Int32) (Zu102 : St), INV Zu102 → Fr YC Qv0 X Zu102 → (0 ≤ a_2u102.toInt ∧ a_2u102.toInt ≤ 4) → (0 ≤ a_4u102.toInt ∧ a_4u102.toInt + a_2u102.toInt ≤ 160) → (0 ≤ a_7u102.toInt ∧ a_7u102.toInt ≤ 511) → (0 ≤ a_8u102.toInt ∧ a_8u102.toInt ≤ 1548) → (0 ≤ a_10u102.toInt ∧ a_10u102.toInt ≤ 5) → (5 - a_10u102.toInt).toNat < n → ok (r_u102 3 a_2u102 63 a_4u102 a_7u102 a_8u102 a_9u102 a_10u102 Zu102) (fun r Y => (Fr YC Qv0 X Y ∧ INV Y))) ?_ ?_ n
                    · intro a_2u102 a_4u102 a_7u102 a_8u102 a_9u102 a_10u102 Zu102 hIu102 hFu102 u102_0 u102_1 u102_2 u102_3 u102_4  hm; exact absurd hm (Nat.not_lt_zero _)
                    · intro n r_u102 ih_u102 a_2u102 a_4u102 a_7u102 a_8u102 a_9u102 a_10u102 Zu102 hIu102 hFu102 u102_0 u102_1 u102_2 u102_3 u102_4  hmu102
                      unfold g_Kinds_findOrAdd_172_s
                      refine ok.ite (fun c103 => ?_) (fun c103 => ?_)
                      · skip
                        refine ok.letE (v1 := 8) (by decide) ?_
                        refine ok.ck (show 0 ≤ a_8u102.toInt ∧ a_8u102.toInt < ((1549 : Nat) : Int) from by omega) ?_
                        refine ok.wI (L := [1600]) hIu102 (show True from trivial) (show (1600 : Nat) ∈ [1600] from by decide) (by decide) (fun Z104 hIZ104 hFZ104 hkZ104 hoZ104 => ?_)
                        refine ok.letE (v1 := 10) (by decide) ?_
                        refine ok.letE (v1 := 9) (by decide) ?_
                        refine ok.ck (show 0 ≤ a_7u102.toInt ∧ a_7u102.toInt < ((512 : Nat) : Int) from by omega) ?_
                        refine ok.letE (v1 := (Zu102.1 9 (ix a_7u102))) (hFZ104.1 9 (ix a_7u102) (show (1800 : Nat) ∉ [1600] from by decide)) ?_
                        have g105 : -1 ≤ (Zu102.1 9 (ix a_7u102)).toInt ∧ (Zu102.1 9 (ix a_7u102)).toInt ≤ 1548 := hIu102.1 9 (ix a_7u102)
                        refine ok.ck (show 0 ≤ a_8u102.toInt ∧ a_8u102.toInt < ((1549 : Nat) : Int) from by omega) ?_
                        refine ok.wI (L := [2000]) hIZ104 (show -1 ≤ (Zu102.1 9 (ix a_7u102)).toInt ∧ (Zu102.1 9 (ix a_7u102)).toInt ≤ 1548 from by omega) (show (2000 : Nat) ∈ [2000] from by decide) (by decide) (fun Z106 hIZ106 hFZ106 hkZ106 hoZ106 => ?_)
                        refine ok.letE (v1 := 9) (by decide) ?_
                        refine ok.ck (show 0 ≤ a_7u102.toInt ∧ a_7u102.toInt < ((512 : Nat) : Int) from by omega) ?_
                        refine ok.wI (L := [1800]) hIZ106 (show -1 ≤ a_8u102.toInt ∧ a_8u102.toInt ≤ 1548 from by omega) (show (1800 : Nat) ∈ [1800] from by decide) (by decide) (fun Z107 hIZ107 hFZ107 hkZ107 hoZ107 => ?_)
                        exact ok.ret ⟨((((Fr.rf.tr hFu102 (fun _ q => q)).tr hFZ104 (by decide)).tr hFZ106 (by decide)).tr hFZ107 (by decide)), hIZ107⟩
                      · skip
                        refine ok.letE (v1 := 6) (by decide) ?_
                        refine ok.mul (show _ ≤ a_8u102.toInt * (5 : Int) ∧ a_8u102.toInt * (5 : Int) ≤ _ from by omega) (fun x29 hx29 => ?_)
                        have hx29 : x29.toInt = a_8u102.toInt * (5 : Int) := hx29
                        refine ok.add (show _ ≤ x29.toInt + a_10u102.toInt ∧ x29.toInt + a_10u102.toInt ≤ _ from by omega) (fun x30 hx30 => ?_)
                        have hx30 : x30.toInt = x29.toInt + a_10u102.toInt := hx30
                        refine ok.add (show _ ≤ a_4u102.toInt + a_10u102.toInt ∧ a_4u102.toInt + a_10u102.toInt ≤ _ from by omega) (fun x31 hx31 => ?_)
                        have hx31 : x31.toInt = a_4u102.toInt + a_10u102.toInt := hx31
                        refine ok.ck (show 0 ≤ x31.toInt ∧ x31.toInt < ((160 : Nat) : Int) from by omega) ?_
                        refine ok.letE (v1 := (X.1 63 (ix x31))) (hFu102.1 63 (ix x31) n12600_Qv0) ?_
                        refine ok.ck (show 0 ≤ x30.toInt ∧ x30.toInt < ((7745 : Nat) : Int) from by omega) ?_
                        refine ok.wI (L := [1200]) hIu102 (show True from trivial) (show (1200 : Nat) ∈ [1200] from by decide) (by decide) (fun Z108 hIZ108 hFZ108 hkZ108 hoZ108 => ?_)
                        refine ok.ite (fun c109 => ?_) (fun c109 => ?_)
                        · skip
                          have g110 := i32_le a_9u102
                          refine ok.add (show _ ≤ a_4u102.toInt + a_10u102.toInt ∧ a_4u102.toInt + a_10u102.toInt ≤ _ from by omega) (fun x35 hx35 => ?_)
                          have hx35 : x35.toInt = a_4u102.toInt + a_10u102.toInt := hx35
                          refine ok.ck (show 0 ≤ x35.toInt ∧ x35.toInt < ((160 : Nat) : Int) from by omega) ?_
                          refine ok.letE (v1 := (X.1 63 (ix x35))) ((hFZ108.1 63 (ix x35) (show (12600 : Nat) ∉ [1200] from by decide)).trans (hFu102.1 63 (ix x35) n12600_Qv0)) ?_
                          refine ok.bd (v_Kinds_hasAny_3 hIZ108) ?_
                          rintro x37 _ rfl
                          refine ok.ite (fun c112 => ?_) (fun c112 => ?_)
                          · skip
                            have g113 := i32_le x37
                            unfold g_Kinds_findOrAdd_221
                            refine ok.inc (by decide) (show _ ≤ a_10u102.toInt + (1) ∧ a_10u102.toInt + (1) ≤ _ from by omega) (fun x34 hx34 => ?_)
                            have hx34 : x34.toInt = a_10u102.toInt + (1) := hx34
                            exact ih_u102 a_2u102 a_4u102 a_7u102 a_8u102 (0 : Int32) x34 Z108 hIZ108 ((Fr.rf.tr hFu102 (fun _ q => q)).tr hFZ108 (by decide)) (show 0 ≤ a_2u102.toInt ∧ a_2u102.toInt ≤ 4 from by omega) (show 0 ≤ a_4u102.toInt ∧ a_4u102.toInt + a_2u102.toInt ≤ 160 from by omega) (show 0 ≤ a_7u102.toInt ∧ a_7u102.toInt ≤ 511 from by omega) (show 0 ≤ a_8u102.toInt ∧ a_8u102.toInt ≤ 1548 from by omega) (show 0 ≤ x34.toInt ∧ x34.toInt ≤ 5 from by omega) (show (5 - x34.toInt).toNat < _ from by omega)
                          · skip
                            unfold g_Kinds_findOrAdd_216
                            unfold g_Kinds_findOrAdd_221
                            refine ok.inc (by decide) (show _ ≤ a_10u102.toInt + (1) ∧ a_10u102.toInt + (1) ≤ _ from by omega) (fun x34 hx34 => ?_)
                            have hx34 : x34.toInt = a_10u102.toInt + (1) := hx34
                            exact ih_u102 a_2u102 a_4u102 a_7u102 a_8u102 (1 : Int32) x34 Z108 hIZ108 ((Fr.rf.tr hFu102 (fun _ q => q)).tr hFZ108 (by decide)) (show 0 ≤ a_2u102.toInt ∧ a_2u102.toInt ≤ 4 from by omega) (show 0 ≤ a_4u102.toInt ∧ a_4u102.toInt + a_2u102.toInt ≤ 160 from by omega) (show 0 ≤ a_7u102.toInt ∧ a_7u102.toInt ≤ 511 from by omega) (show 0 ≤ a_8u102.toInt ∧ a_8u102.toInt ≤ 1548 from by omega) (show 0 ≤ x34.toInt ∧ x34.toInt ≤ 5 from by omega) (show (5 - x34.toInt).toNat < _ from by omega)
                        · skip
                          unfold g_Kinds_findOrAdd_216
                          unfold g_Kinds_findOrAdd_221
                          refine ok.inc (by decide) (show _ ≤ a_10u102.toInt + (1) ∧ a_10u102.toInt + (1) ≤ _ from by omega) (fun x34 hx34 => ?_)
                          have hx34 : x34.toInt = a_10u102.toInt + (1) := hx34
                          exact ih_u102 a_2u102 a_4u102 a_7u102 a_8u102 (1 : Int32) x34 Z108 hIZ108 ((Fr.rf.tr hFu102 (fun _ q => q)).tr hFZ108 (by decide)) (show 0 ≤ a_2u102.toInt ∧ a_2u102.toInt ≤ 4 from by omega) (show 0 ≤ a_4u102.toInt ∧ a_4u102.toInt + a_2u102.toInt ≤ 160 from by omega) (show 0 ≤ a_7u102.toInt ∧ a_7u102.toInt ≤ 511 from by omega) (show 0 ≤ a_8u102.toInt ∧ a_8u102.toInt ≤ 1548 from by omega) (show 0 ≤ x34.toInt ∧ x34.toInt ≤ 5 from by omega) (show (5 - x34.toInt).toNat < _ from by omega)
                  exact lpu102 BIG a_2u3 a_4u3 a_7u3 (Zu3.1 3 0) (0 : Int32) (0 : Int32) Z72 hIZ72 ((((((Fr.rf.tr hFu3 (fun _ q => q)).tr hFZ68 (by decide)).tr hFZ69 (by decide)).tr hFZ70 (by decide)).tr hFZ71 (by decide)).tr hFZ72 (by decide)) (show 0 ≤ a_2u3.toInt ∧ a_2u3.toInt ≤ 4 from by omega) (show 0 ≤ a_4u3.toInt ∧ a_4u3.toInt + a_2u3.toInt ≤ 160 from by omega) (show 0 ≤ a_7u3.toInt ∧ a_7u3.toInt ≤ 511 from by omega) (show 0 ≤ (Zu3.1 3 0).toInt ∧ (Zu3.1 3 0).toInt ≤ 1548 from by omega) (show 0 ≤ (0 : Int) ∧ (0 : Int) ≤ 5 from by omega) (show (5 - (0 : Int)).toNat < BIG from ltBIG (show _ < 100000 from by omega))
                · skip
                  unfold g_Kinds_findOrAdd_162
                  unfold g_Kinds_findOrAdd_167
                  have lpu114 : ∀ (n : Nat), ∀ (a_2u114 : Int32) (a_4u114 : Int32) (a_7u114 : Int32) (a_8u114 : Int32) (a_9u114 : Int32) (a_10u114 : Int32) (Zu114 : St), INV Zu114 → Fr YC Qv0 X Zu114 → (0 ≤ a_2u114.toInt ∧ a_2u114.toInt ≤ 4) → (0 ≤ a_4u114.toInt ∧ a_4u114.toInt + a_2u114.toInt ≤ 160) → (0 ≤ a_7u114.toInt ∧ a_7u114.toInt ≤ 511) → (0 ≤ a_8u114.toInt ∧ a_8u114.toInt ≤ 1548) → (0 ≤ a_10u114.toInt ∧ a_10u114.toInt ≤ 5) → (5 - a_10u114.toInt).toNat < n → ok (g_Kinds_findOrAdd_172 n 3 a_2u114 63 a_4u114 a_7u114 a_8u114 a_9u114 a_10u114 Zu114) (fun r Y => (Fr YC Qv0 X Y ∧ INV Y)) := by
                    intro n
                    unfold g_Kinds_findOrAdd_172
                    refine lp_indN (P := fun (n : Nat) (r_u114 : Nat → Int32 → Nat → Int32 → Int32 → Int32 → Int32 → Int32 → St → Option (Int32 × St)) => ∀ (a_2u114 : Int32) (a_4u114 : Int32) (a_7u114 : Int32) (a_8u114 : Int32) (a_9u114 : Int32) (a_10u114 : Int32) (Zu114 : St), INV Zu114 → Fr YC Qv0 X Zu114 → (0 ≤ a_2u114.toInt ∧ a_2u114.toInt ≤ 4) → (0 ≤ a_4u114.toInt ∧ a_4u114.toInt + a_2u114.toInt ≤ 160) → (0 ≤ a_7u114.toInt ∧ a_7u114.toInt ≤ 511) → (0 ≤ a_8u114.toInt ∧ a_8u114.toInt ≤ 1548) → (0 ≤ a_10u114.toInt ∧ a_10u114.toInt ≤ 5) → (5 - a_10u114.toInt).toNat < n → ok (r_u114 3 a_2u114 63 a_4u114 a_7u114 a_8u114 a_9u114 a_10u114 Zu114) (fun r Y => (Fr YC Qv0 X Y ∧ INV Y))) ?_ ?_ n
                    · intro a_2u114 a_4u114 a_7u114 a_8u114 a_9u114 a_10u114 Zu114 hIu114 hFu114 u114_0 u114_1 u114_2 u114_3 u114_4  hm; exact absurd hm (Nat.not_lt_zero _)
                    · intro n r_u114 ih_u114 a_2u114 a_4u114 a_7u114 a_8u114 a_9u114 a_10u114 Zu114 hIu114 hFu114 u114_0 u114_1 u114_2 u114_3 u114_4  hmu114
                      unfold g_Kinds_findOrAdd_172_s
                      refine ok.ite (fun c115 => ?_) (fun c115 => ?_)
                      · skip
                        refine ok.letE (v1 := 8) (by decide) ?_
                        refine ok.ck (show 0 ≤ a_8u114.toInt ∧ a_8u114.toInt < ((1549 : Nat) : Int) from by omega) ?_
                        refine ok.wI (L := [1600]) hIu114 (show True from trivial) (show (1600 : Nat) ∈ [1600] from by decide) (by decide) (fun Z116 hIZ116 hFZ116 hkZ116 hoZ116 => ?_)
                        refine ok.letE (v1 := 10) (by decide) ?_
                        refine ok.letE (v1 := 9) (by decide) ?_
                        refine ok.ck (show 0 ≤ a_7u114.toInt ∧ a_7u114.toInt < ((512 : Nat) : Int) from by omega) ?_
                        refine ok.letE (v1 := (Zu114.1 9 (ix a_7u114))) (hFZ116.1 9 (ix a_7u114) (show (1800 : Nat) ∉ [1600] from by decide)) ?_
                        have g117 : -1 ≤ (Zu114.1 9 (ix a_7u114)).toInt ∧ (Zu114.1 9 (ix a_7u114)).toInt ≤ 1548 := hIu114.1 9 (ix a_7u114)
                        refine ok.ck (show 0 ≤ a_8u114.toInt ∧ a_8u114.toInt < ((1549 : Nat) : Int) from by omega) ?_
                        refine ok.wI (L := [2000]) hIZ116 (show -1 ≤ (Zu114.1 9 (ix a_7u114)).toInt ∧ (Zu114.1 9 (ix a_7u114)).toInt ≤ 1548 from by omega) (show (2000 : Nat) ∈ [2000] from by decide) (by decide) (fun Z118 hIZ118 hFZ118 hkZ118 hoZ118 => ?_)
                        refine ok.letE (v1 := 9) (by decide) ?_
                        refine ok.ck (show 0 ≤ a_7u114.toInt ∧ a_7u114.toInt < ((512 : Nat) : Int) from by omega) ?_
                        refine ok.wI (L := [1800]) hIZ118 (show -1 ≤ a_8u114.toInt ∧ a_8u114.toInt ≤ 1548 from by omega) (show (1800 : Nat) ∈ [1800] from by decide) (by decide) (fun Z119 hIZ119 hFZ119 hkZ119 hoZ119 => ?_)
                        exact ok.ret ⟨((((Fr.rf.tr hFu114 (fun _ q => q)).tr hFZ116 (by decide)).tr hFZ118 (by decide)).tr hFZ119 (by decide)), hIZ119⟩
                      · skip
                        refine ok.letE (v1 := 6) (by decide) ?_
                        refine ok.mul (show _ ≤ a_8u114.toInt * (5 : Int) ∧ a_8u114.toInt * (5 : Int) ≤ _ from by omega) (fun x29 hx29 => ?_)
                        have hx29 : x29.toInt = a_8u114.toInt * (5 : Int) := hx29
                        refine ok.add (show _ ≤ x29.toInt + a_10u114.toInt ∧ x29.toInt + a_10u114.toInt ≤ _ from by omega) (fun x30 hx30 => ?_)
                        have hx30 : x30.toInt = x29.toInt + a_10u114.toInt := hx30
                        refine ok.add (show _ ≤ a_4u114.toInt + a_10u114.toInt ∧ a_4u114.toInt + a_10u114.toInt ≤ _ from by omega) (fun x31 hx31 => ?_)
                        have hx31 : x31.toInt = a_4u114.toInt + a_10u114.toInt := hx31
                        refine ok.ck (show 0 ≤ x31.toInt ∧ x31.toInt < ((160 : Nat) : Int) from by omega) ?_
                        refine ok.letE (v1 := (X.1 63 (ix x31))) (hFu114.1 63 (ix x31) n12600_Qv0) ?_
                        refine ok.ck (show 0 ≤ x30.toInt ∧ x30.toInt < ((7745 : Nat) : Int) from by omega) ?_
                        refine ok.wI (L := [1200]) hIu114 (show True from trivial) (show (1200 : Nat) ∈ [1200] from by decide) (by decide) (fun Z120 hIZ120 hFZ120 hkZ120 hoZ120 => ?_)
                        refine ok.ite (fun c121 => ?_) (fun c121 => ?_)
                        · skip
                          have g122 := i32_le a_9u114
                          refine ok.add (show _ ≤ a_4u114.toInt + a_10u114.toInt ∧ a_4u114.toInt + a_10u114.toInt ≤ _ from by omega) (fun x35 hx35 => ?_)
                          have hx35 : x35.toInt = a_4u114.toInt + a_10u114.toInt := hx35
                          refine ok.ck (show 0 ≤ x35.toInt ∧ x35.toInt < ((160 : Nat) : Int) from by omega) ?_
                          refine ok.letE (v1 := (X.1 63 (ix x35))) ((hFZ120.1 63 (ix x35) (show (12600 : Nat) ∉ [1200] from by decide)).trans (hFu114.1 63 (ix x35) n12600_Qv0)) ?_
                          refine ok.bd (v_Kinds_hasAny_3 hIZ120) ?_
                          rintro x37 _ rfl
                          refine ok.ite (fun c124 => ?_) (fun c124 => ?_)
                          · skip
                            have g125 := i32_le x37
                            unfold g_Kinds_findOrAdd_221
                            refine ok.inc (by decide) (show _ ≤ a_10u114.toInt + (1) ∧ a_10u114.toInt + (1) ≤ _ from by omega) (fun x34 hx34 => ?_)
                            have hx34 : x34.toInt = a_10u114.toInt + (1) := hx34
                            exact ih_u114 a_2u114 a_4u114 a_7u114 a_8u114 (0 : Int32) x34 Z120 hIZ120 ((Fr.rf.tr hFu114 (fun _ q => q)).tr hFZ120 (by decide)) (show 0 ≤ a_2u114.toInt ∧ a_2u114.toInt ≤ 4 from by omega) (show 0 ≤ a_4u114.toInt ∧ a_4u114.toInt + a_2u114.toInt ≤ 160 from by omega) (show 0 ≤ a_7u114.toInt ∧ a_7u114.toInt ≤ 511 from by omega) (show 0 ≤ a_8u114.toInt ∧ a_8u114.toInt ≤ 1548 from by omega) (show 0 ≤ x34.toInt ∧ x34.toInt ≤ 5 from by omega) (show (5 - x34.toInt).toNat < _ from by omega)
                          · skip
                            unfold g_Kinds_findOrAdd_216
                            unfold g_Kinds_findOrAdd_221
                            refine ok.inc (by decide) (show _ ≤ a_10u114.toInt + (1) ∧ a_10u114.toInt + (1) ≤ _ from by omega) (fun x34 hx34 => ?_)
                            have hx34 : x34.toInt = a_10u114.toInt + (1) := hx34
                            exact ih_u114 a_2u114 a_4u114 a_7u114 a_8u114 (1 : Int32) x34 Z120 hIZ120 ((Fr.rf.tr hFu114 (fun _ q => q)).tr hFZ120 (by decide)) (show 0 ≤ a_2u114.toInt ∧ a_2u114.toInt ≤ 4 from by omega) (show 0 ≤ a_4u114.toInt ∧ a_4u114.toInt + a_2u114.toInt ≤ 160 from by omega) (show 0 ≤ a_7u114.toInt ∧ a_7u114.toInt ≤ 511 from by omega) (show 0 ≤ a_8u114.toInt ∧ a_8u114.toInt ≤ 1548 from by omega) (show 0 ≤ x34.toInt ∧ x34.toInt ≤ 5 from by omega) (show (5 - x34.toInt).toNat < _ from by omega)
                        · skip
                          unfold g_Kinds_findOrAdd_216
                          unfold g_Kinds_findOrAdd_221
                          refine ok.inc (by decide) (show _ ≤ a_10u114.toInt + (1) ∧ a_10u114.toInt + (1) ≤ _ from by omega) (fun x34 hx34 => ?_)
                          have hx34 : x34.toInt = a_10u114.toInt + (1) := hx34
                          exact ih_u114 a_2u114 a_4u114 a_7u114 a_8u114 (1 : Int32) x34 Z120 hIZ120 ((Fr.rf.tr hFu114 (fun _ q => q)).tr hFZ120 (by decide)) (show 0 ≤ a_2u114.toInt ∧ a_2u114.toInt ≤ 4 from by omega) (show 0 ≤ a_4u114.toInt ∧ a_4u114.toInt + a_2u114.toInt ≤ 160 from by omega) (show 0 ≤ a_7u114.toInt ∧ a_7u114.toInt ≤ 511 from by omega) (show 0 ≤ a_8u114.toInt ∧ a_8u114.toInt ≤ 1548 from by omega) (show 0 ≤ x34.toInt ∧ x34.toInt ≤ 5 from by omega) (show (5 - x34.toInt).toNat < _ from by omega)
                  exact lpu114 BIG a_2u3 a_4u3 a_7u3 (Zu3.1 3 0) (1 : Int32) (0 : Int32) Z72 hIZ72 ((((((Fr.rf.tr hFu3 (fun _ q => q)).tr hFZ68 (by decide)).tr hFZ69 (by decide)).tr hFZ70 (by decide)).tr hFZ71 (by decide)).tr hFZ72 (by decide)) (show 0 ≤ a_2u3.toInt ∧ a_2u3.toInt ≤ 4 from by omega) (show 0 ≤ a_4u3.toInt ∧ a_4u3.toInt + a_2u3.toInt ≤ 160 from by omega) (show 0 ≤ a_7u3.toInt ∧ a_7u3.toInt ≤ 511 from by omega) (show 0 ≤ (Zu3.1 3 0).toInt ∧ (Zu3.1 3 0).toInt ≤ 1548 from by omega) (show 0 ≤ (0 : Int) ∧ (0 : Int) ≤ 5 from by omega) (show (5 - (0 : Int)).toNat < BIG from ltBIG (show _ < 100000 from by omega))
          · skip
            exact ok.ret ⟨(Fr.rf.tr hFu3 (fun _ q => q)), hIu3⟩
        · skip
          refine ok.letE (v1 := 4) (by decide) ?_
          refine ok.ck (show 0 ≤ a_8u3.toInt ∧ a_8u3.toInt < ((1549 : Nat) : Int) from by omega) ?_
          refine ok.letE (v1 := (Zu3.1 4 (ix a_8u3))) rfl ?_
          refine ok.ite (fun c126 => ?_) (fun c126 => ?_)
          · skip
            have g127 := i32_le (Zu3.1 4 (ix a_8u3))
            refine ok.bd (v_Kinds_isSame_3_63 hIu3 (show 0 ≤ a_8u3.toInt ∧ a_8u3.toInt ≤ 1548 from by omega) (show 0 ≤ a_2u3.toInt ∧ a_2u3.toInt ≤ 4 from by omega) (show 0 ≤ a_4u3.toInt ∧ a_4u3.toInt + a_2u3.toInt ≤ 160 from by omega)) ?_
            rintro x46 _ rfl
            refine ok.ite (fun c129 => ?_) (fun c129 => ?_)
            · skip
              have g130 := i32_le x46
              unfold g_Kinds_findOrAdd_62
              refine ok.letE (v1 := 10) (by decide) ?_
              refine ok.ck (show 0 ≤ a_8u3.toInt ∧ a_8u3.toInt < ((1549 : Nat) : Int) from by omega) ?_
              refine ok.letE (v1 := (Zu3.1 10 (ix a_8u3))) rfl ?_
              have g131 : -1 ≤ (Zu3.1 10 (ix a_8u3)).toInt ∧ (Zu3.1 10 (ix a_8u3)).toInt ≤ 1548 := hIu3.1 10 (ix a_8u3)
              refine ok.inc (by decide) (show _ ≤ a_9u3.toInt + (1) ∧ a_9u3.toInt + (1) ≤ _ from by omega) (fun x45 hx45 => ?_)
              have hx45 : x45.toInt = a_9u3.toInt + (1) := hx45
              exact ih_u3 a_1u3 a_2u3 a_4u3 a_5u3 a_6u3 a_7u3 (Zu3.1 10 (ix a_8u3)) x45 Zu3 hIu3 (Fr.rf.tr hFu3 (fun _ q => q)) (show 0 ≤ a_1u3.toInt ∧ a_1u3.toInt ≤ 4 from by omega) (show 0 ≤ a_2u3.toInt ∧ a_2u3.toInt ≤ 4 from by omega) (show 0 ≤ a_4u3.toInt ∧ a_4u3.toInt + a_2u3.toInt ≤ 160 from by omega) (show 0 ≤ a_7u3.toInt ∧ a_7u3.toInt ≤ 511 from by omega) (show -1 ≤ (Zu3.1 10 (ix a_8u3)).toInt ∧ (Zu3.1 10 (ix a_8u3)).toInt ≤ 1548 from by omega) (show 0 ≤ x45.toInt ∧ x45.toInt ≤ 1549 from by omega) (show (1550 - x45.toInt).toNat < _ from by omega)
            · skip
              exact ok.ret ⟨(Fr.rf.tr hFu3 (fun _ q => q)), hIu3⟩
          · skip
            unfold g_Kinds_findOrAdd_62
            refine ok.letE (v1 := 10) (by decide) ?_
            refine ok.ck (show 0 ≤ a_8u3.toInt ∧ a_8u3.toInt < ((1549 : Nat) : Int) from by omega) ?_
            refine ok.letE (v1 := (Zu3.1 10 (ix a_8u3))) rfl ?_
            have g132 : -1 ≤ (Zu3.1 10 (ix a_8u3)).toInt ∧ (Zu3.1 10 (ix a_8u3)).toInt ≤ 1548 := hIu3.1 10 (ix a_8u3)
            refine ok.inc (by decide) (show _ ≤ a_9u3.toInt + (1) ∧ a_9u3.toInt + (1) ≤ _ from by omega) (fun x45 hx45 => ?_)
            have hx45 : x45.toInt = a_9u3.toInt + (1) := hx45
            exact ih_u3 a_1u3 a_2u3 a_4u3 a_5u3 a_6u3 a_7u3 (Zu3.1 10 (ix a_8u3)) x45 Zu3 hIu3 (Fr.rf.tr hFu3 (fun _ q => q)) (show 0 ≤ a_1u3.toInt ∧ a_1u3.toInt ≤ 4 from by omega) (show 0 ≤ a_2u3.toInt ∧ a_2u3.toInt ≤ 4 from by omega) (show 0 ≤ a_4u3.toInt ∧ a_4u3.toInt + a_2u3.toInt ≤ 160 from by omega) (show 0 ≤ a_7u3.toInt ∧ a_7u3.toInt ≤ 511 from by omega) (show -1 ≤ (Zu3.1 10 (ix a_8u3)).toInt ∧ (Zu3.1 10 (ix a_8u3)).toInt ≤ 1548 from by omega) (show 0 ≤ x45.toInt ∧ x45.toInt ≤ 1549 from by omega) (show (1550 - x45.toInt).toNat < _ from by omega)
  exact lpu3 BIG p1 p2 p4 p5 p6 x1 (X.1 9 (ix x1)) (0 : Int32) X hI (Fr.rf : Fr YC Qv0 _ _) (show 0 ≤ p1.toInt ∧ p1.toInt ≤ 4 from by omega) (show 0 ≤ p2.toInt ∧ p2.toInt ≤ 4 from by omega) (show 0 ≤ p4.toInt ∧ p4.toInt + p2.toInt ≤ 160 from by omega) (show 0 ≤ x1.toInt ∧ x1.toInt ≤ 511 from by omega) (show -1 ≤ (X.1 9 (ix x1)).toInt ∧ (X.1 9 (ix x1)).toInt ≤ 1548 from by omega) (show 0 ≤ (0 : Int) ∧ (0 : Int) ≤ 1549 from by omega) (show (1550 - (0 : Int)).toNat < BIG from ltBIG (show _ < 100000 from by omega))
set_option maxHeartbeats 4000000 in
theorem v_Kinds_functionOf_3_63 {p2 : Int32} {p3 : Int32} {p4 : Int32} {X : St} (hI : INV X) : ok (g_Kinds_functionOf 3 63 p2 p3 p4 X) (fun r Y => (Fr YC Qv0 X Y ∧ INV Y)) := by
  unfold g_Kinds_functionOf
  refine ok.ite (fun c1 => ?_) (fun c1 => ?_)
  · skip
    have g2 := i32_le p3
    exact ok.ret ⟨(Fr.rf : Fr YC Qv0 _ _), hI⟩
  · skip
    have g3 := i32_le p3
    refine ok.ite (fun c4 => ?_) (fun c4 => ?_)
    · skip
      exact ok.ret ⟨(Fr.rf : Fr YC Qv0 _ _), hI⟩
    · skip
      refine ok.ite (fun c5 => ?_) (fun c5 => ?_)
      · skip
        have g6 := i32_le p2
        exact ok.ret ⟨(Fr.rf : Fr YC Qv0 _ _), hI⟩
      · skip
        have g7 := i32_le p2
        refine ok.letE (v1 := (160 : Int32)) (by decide) ?_
        refine ok.sub (show _ ≤ (160 : Int) - p3.toInt ∧ (160 : Int) - p3.toInt ≤ _ from by omega) (fun x2 hx2 => ?_)
        have hx2 : x2.toInt = (160 : Int) - p3.toInt := hx2
        refine ok.ite (fun c8 => ?_) (fun c8 => ?_)
        · skip
          refine ok.add (show _ ≤ (7 : Int) + p3.toInt ∧ (7 : Int) + p3.toInt ≤ _ from by omega) (fun x3 hx3 => ?_)
          have hx3 : x3.toInt = (7 : Int) + p3.toInt := hx3
          have lpu9 : ∀ (n : Nat), ∀ (a_2u9 : Int32) (a_3u9 : Int32) (a_4u9 : Int32) (a_5u9 : Int32) (a_6u9 : Int32) (Zu9 : St), INV Zu9 → Fr YC Qv0 X Zu9 → (0 ≤ a_3u9.toInt ∧ a_3u9.toInt ≤ 4) → (0 ≤ a_2u9.toInt ∧ a_2u9.toInt + a_3u9.toInt ≤ 160) → (0 ≤ a_6u9.toInt ∧ a_6u9.toInt ≤ 5) → (5 - a_6u9.toInt).toNat < n → ok (g_Kinds_functionOf_32 n 3 63 a_2u9 a_3u9 a_4u9 a_5u9 a_6u9 Zu9) (fun r Y => (Fr YC Qv0 X Y ∧ INV Y)) := by
            intro n
            unfold g_Kinds_functionOf_32
            refine lp_indN (P := fun (n : Nat) (r_u9 : Nat → Nat → Int32 → Int32 → Int32 → Int32 → Int32 → St → Option (Int32 × St)) => ∀ (a_2u9 : Int32) (a_3u9 : Int32) (a_4u9 : Int32) (a_5u9 : Int32) (a_6u9 : Int32) (Zu9 : St), INV Zu9 → Fr YC Qv0 X Zu9 → (0 ≤ a_3u9.toInt ∧ a_3u9.toInt ≤ 4) → (0 ≤ a_2u9.toInt ∧ a_2u9.toInt + a_3u9.toInt ≤ 160) → (0 ≤ a_6u9.toInt ∧ a_6u9.toInt ≤ 5) → (5 - a_6u9.toInt).toNat < n → ok (r_u9 3 63 a_2u9 a_3u9 a_4u9 a_5u9 a_6u9 Zu9) (fun r Y => (Fr YC Qv0 X Y ∧ INV Y))) ?_ ?_ n
            · intro a_2u9 a_3u9 a_4u9 a_5u9 a_6u9 Zu9 hIu9 hFu9 u9_0 u9_1 u9_2  hm; exact absurd hm (Nat.not_lt_zero _)
            · intro n r_u9 ih_u9 a_2u9 a_3u9 a_4u9 a_5u9 a_6u9 Zu9 hIu9 hFu9 u9_0 u9_1 u9_2  hmu9
              unfold g_Kinds_functionOf_32_s
              refine ok.ite (fun c10 => ?_) (fun c10 => ?_)
              · skip
                refine ok.any (fun x4 => ?_)
                refine ok.bd (v_Kinds_codeOf_3 hIu9) ?_
                rintro x5 _ rfl
                refine ok.any (fun x7 => ?_)
                refine ok.bd (v_Kinds_findOrAdd_3_63 hIu9 (show 0 ≤ (4 : Int) ∧ (4 : Int) ≤ 4 from by omega) (show 0 ≤ a_3u9.toInt ∧ a_3u9.toInt ≤ 4 from by omega) (show 0 ≤ a_2u9.toInt ∧ a_2u9.toInt + a_3u9.toInt ≤ 160 from by omega)) ?_
                rintro x8 Z13 ⟨hFZ13, hIZ13⟩
                exact ok.ret ⟨((Fr.rf.tr hFu9 (fun _ q => q)).tr hFZ13 (fun _ q => q)), hIZ13⟩
              · skip
                refine ok.any (fun x10 => ?_)
                refine ok.add (show _ ≤ a_2u9.toInt + a_6u9.toInt ∧ a_2u9.toInt + a_6u9.toInt ≤ _ from by omega) (fun x11 hx11 => ?_)
                have hx11 : x11.toInt = a_2u9.toInt + a_6u9.toInt := hx11
                refine ok.ck (show 0 ≤ x11.toInt ∧ x11.toInt < ((160 : Nat) : Int) from by omega) ?_
                refine ok.letE (v1 := (X.1 63 (ix x11))) (hFu9.1 63 (ix x11) n12600_Qv0) ?_
                refine ok.bd (v_Kinds_codeOf_3 hIu9) ?_
                rintro x13 _ rfl
                refine ok.any (fun x15 => ?_)
                refine ok.inc (by decide) (show _ ≤ a_6u9.toInt + (1) ∧ a_6u9.toInt + (1) ≤ _ from by omega) (fun x16 hx16 => ?_)
                have hx16 : x16.toInt = a_6u9.toInt + (1) := hx16
                exact ih_u9 a_2u9 a_3u9 a_4u9 x15 x16 Zu9 hIu9 (Fr.rf.tr hFu9 (fun _ q => q)) (show 0 ≤ a_3u9.toInt ∧ a_3u9.toInt ≤ 4 from by omega) (show 0 ≤ a_2u9.toInt ∧ a_2u9.toInt + a_3u9.toInt ≤ 160 from by omega) (show 0 ≤ x16.toInt ∧ x16.toInt ≤ 5 from by omega) (show (5 - x16.toInt).toNat < _ from by omega)
          exact lpu9 BIG p2 p3 p4 x3 (0 : Int32) X hI (Fr.rf : Fr YC Qv0 _ _) (show 0 ≤ p3.toInt ∧ p3.toInt ≤ 4 from by omega) (show 0 ≤ p2.toInt ∧ p2.toInt + p3.toInt ≤ 160 from by omega) (show 0 ≤ (0 : Int) ∧ (0 : Int) ≤ 5 from by omega) (show (5 - (0 : Int)).toNat < BIG from ltBIG (show _ < 100000 from by omega))
        · skip
          exact ok.ret ⟨(Fr.rf : Fr YC Qv0 _ _), hI⟩
theorem n12202_Qv0 : (12202 : Nat) ∉ Qv0 := by decide
theorem sQv0_Qv1 : ∀ k ∈ Qv0, k ∈ Qv1 := by decide
theorem n3200_Qv1 : (3200 : Nat) ∉ Qv1 := by decide
set_option maxHeartbeats 4000000 in
theorem v_Judging_takeHeader_J2 {p1 : Int32} {X : St} (hI : INV X) (hr61_1 : X.2.2 61 1 = 3) (hr61_2 : X.2.2 61 2 = 4) (h0 : 0 ≤ p1.toInt ∧ p1.toInt ≤ 39) : ok (g_Judging_takeHeader p1 X) (fun r Y => (Fr YC Qv1 X Y ∧ INV Y)) := by
  unfold g_Judging_takeHeader
  refine ok.mul (show _ ≤ p1.toInt * (4 : Int) ∧ p1.toInt * (4 : Int) ≤ _ from by omega) (fun x1 hx1 => ?_)
  have hx1 : x1.toInt = p1.toInt * (4 : Int) := hx1
  have lpu1 : ∀ (n : Nat), ∀ (a_1u1 : Int32) (a_2u1 : Int32) (a_3u1 : Int32) (Zu1 : St), INV Zu1 → Fr YC Qv1 X Zu1 → (0 ≤ a_1u1.toInt ∧ a_1u1.toInt ≤ 39) → (a_2u1.toInt = 4 * a_1u1.toInt) → (0 ≤ a_3u1.toInt ∧ a_3u1.toInt ≤ 4) → (5 - a_3u1.toInt).toNat < n → ok (g_Judging_takeHeader_6 n a_1u1 a_2u1 a_3u1 Zu1) (fun r Y => (Fr YC Qv1 X Y ∧ INV Y)) := by
    intro n
    unfold g_Judging_takeHeader_6
    refine lp_indN (P := fun (n : Nat) (r_u1 : Int32 → Int32 → Int32 → St → Option (Int32 × St)) => ∀ (a_1u1 : Int32) (a_2u1 : Int32) (a_3u1 : Int32) (Zu1 : St), INV Zu1 → Fr YC Qv1 X Zu1 → (0 ≤ a_1u1.toInt ∧ a_1u1.toInt ≤ 39) → (a_2u1.toInt = 4 * a_1u1.toInt) → (0 ≤ a_3u1.toInt ∧ a_3u1.toInt ≤ 4) → (5 - a_3u1.toInt).toNat < n → ok (r_u1 a_1u1 a_2u1 a_3u1 Zu1) (fun r Y => (Fr YC Qv1 X Y ∧ INV Y))) ?_ ?_ n
    · intro a_1u1 a_2u1 a_3u1 Zu1 hIu1 hFu1 u1_0 u1_1 u1_2  hm; exact absurd hm (Nat.not_lt_zero _)
    · intro n r_u1 ih_u1 a_1u1 a_2u1 a_3u1 Zu1 hIu1 hFu1 u1_0 u1_1 u1_2  hmu1
      unfold g_Judging_takeHeader_6_s
      refine ok.ck (by rw [((hFu1.2.2 61 1 n12201_Qv1).trans hr61_1)]; decide) ?_
      refine ok.letE (v1 := 2) (by rw [((hFu1.2.2 61 1 n12201_Qv1).trans hr61_1)]) ?_
      refine ok.letE (v1 := 15) (by decide) ?_
      refine ok.ck (show 0 ≤ a_1u1.toInt ∧ a_1u1.toInt < ((40 : Nat) : Int) from by omega) ?_
      refine ok.letE (v1 := (X.1 15 (ix a_1u1))) (hFu1.1 15 (ix a_1u1) n3000_Qv1) ?_
      have g2 : 0 ≤ (X.1 15 (ix a_1u1)).toInt ∧ (X.1 15 (ix a_1u1)).toInt ≤ 4 := hI.1 15 (ix a_1u1)
      refine ok.ite (fun c3 => ?_) (fun c3 => ?_)
      · skip
        refine ok.ck (by rw [((hFu1.2.2 61 1 n12201_Qv1).trans hr61_1)]; decide) ?_
        refine ok.letE (v1 := 2) (by rw [((hFu1.2.2 61 1 n12201_Qv1).trans hr61_1)]) ?_
        refine ok.letE (v1 := 17) (by decide) ?_
        refine ok.ck (show 0 ≤ a_1u1.toInt ∧ a_1u1.toInt < ((40 : Nat) : Int) from by omega) ?_
        refine ok.letE (v1 := (X.1 17 (ix a_1u1))) (hFu1.1 17 (ix a_1u1) n3400_Qv1) ?_
        refine ok.bd (v_Judging_asTold_J2 hIu1 ((hFu1.2.2 61 1 n12201_Qv1).trans hr61_1) (show 0 ≤ a_1u1.toInt ∧ a_1u1.toInt ≤ 39 from by omega)) ?_
        rintro x8 _ rfl
        refine ok.ck (show 0 ≤ a_1u1.toInt ∧ a_1u1.toInt < ((40 : Nat) : Int) from by omega) ?_
        refine ok.wI (L := [12800]) hIu1 (show True from trivial) (show (12800 : Nat) ∈ [12800] from by decide) (by decide) (fun Z5 hIZ5 hFZ5 hkZ5 hoZ5 => ?_)
        refine ok.ck (by rw [(((hFZ5.2.2 61 2 (show (12202 : Nat) ∉ [12800] from by decide)).trans (hFu1.2.2 61 2 n12202_Qv1)).trans hr61_2)]; decide) ?_
        refine ok.letE (v1 := 3) (by rw [(((hFZ5.2.2 61 2 (show (12202 : Nat) ∉ [12800] from by decide)).trans (hFu1.2.2 61 2 n12202_Qv1)).trans hr61_2)]) ?_
        refine ok.ck (by rw [(((hFZ5.2.2 61 1 (show (12201 : Nat) ∉ [12800] from by decide)).trans (hFu1.2.2 61 1 n12201_Qv1)).trans hr61_1)]; decide) ?_
        refine ok.letE (v1 := 2) (by rw [(((hFZ5.2.2 61 1 (show (12201 : Nat) ∉ [12800] from by decide)).trans (hFu1.2.2 61 1 n12201_Qv1)).trans hr61_1)]) ?_
        refine ok.letE (v1 := 15) (by decide) ?_
        refine ok.ck (show 0 ≤ a_1u1.toInt ∧ a_1u1.toInt < ((40 : Nat) : Int) from by omega) ?_
        refine ok.letE (v1 := (X.1 15 (ix a_1u1))) ((hFZ5.1 15 (ix a_1u1) (show (3000 : Nat) ∉ [12800] from by decide)).trans (hFu1.1 15 (ix a_1u1) n3000_Qv1)) ?_
        refine ok.ck (show 0 ≤ a_1u1.toInt ∧ a_1u1.toInt < ((40 : Nat) : Int) from by omega) ?_
        refine ok.letE (v1 := x8) hkZ5 ?_
        refine ok.bd (v_Kinds_functionOf_3_63 hIZ5) ?_
        rintro x16 Z7 ⟨hFZ7, hIZ7⟩
        refine ok.ck (show 0 ≤ a_1u1.toInt ∧ a_1u1.toInt < ((40 : Nat) : Int) from by omega) ?_
        refine ok.wI (L := [13000]) hIZ7 (show True from trivial) (show (13000 : Nat) ∈ [13000] from by decide) (by decide) (fun Z8 hIZ8 hFZ8 hkZ8 hoZ8 => ?_)
        refine ok.ck (by rw [(((((hFZ8.2.2 61 2 (show (12202 : Nat) ∉ [13000] from by decide)).trans (hFZ7.2.2 61 2 n12202_Qv0)).trans (hFZ5.2.2 61 2 (show (12202 : Nat) ∉ [12800] from by decide))).trans (hFu1.2.2 61 2 n12202_Qv1)).trans hr61_2)]; decide) ?_
        refine ok.letE (v1 := 3) (by rw [(((((hFZ8.2.2 61 2 (show (12202 : Nat) ∉ [13000] from by decide)).trans (hFZ7.2.2 61 2 n12202_Qv0)).trans (hFZ5.2.2 61 2 (show (12202 : Nat) ∉ [12800] from by decide))).trans (hFu1.2.2 61 2 n12202_Qv1)).trans hr61_2)]) ?_
        refine ok.ck (show 0 ≤ a_1u1.toInt ∧ a_1u1.toInt < ((40 : Nat) : Int) from by omega) ?_
        refine ok.letE (v1 := x16) hkZ8 ?_
        refine ok.bd (v_Kinds_hasAny_3 hIZ8) ?_
        rintro x21 _ rfl
        refine ok.ck (show 0 ≤ a_1u1.toInt ∧ a_1u1.toInt < ((40 : Nat) : Int) from by omega) ?_
        refine ok.wI (L := [12400]) hIZ8 (show True from trivial) (show (12400 : Nat) ∈ [12400] from by decide) (by decide) (fun Z10 hIZ10 hFZ10 hkZ10 hoZ10 => ?_)
        exact ok.ret ⟨(((((Fr.rf.tr hFu1 (fun _ q => q)).tr hFZ5 (by decide)).tr hFZ7 sQv0_Qv1).tr hFZ8 (by decide)).tr hFZ10 (by decide)), hIZ10⟩
      · skip
        refine ok.add (show _ ≤ a_2u1.toInt + a_3u1.toInt ∧ a_2u1.toInt + a_3u1.toInt ≤ _ from by omega) (fun x24 hx24 => ?_)
        have hx24 : x24.toInt = a_2u1.toInt + a_3u1.toInt := hx24
        refine ok.ck (by rw [((hFu1.2.2 61 1 n12201_Qv1).trans hr61_1)]; decide) ?_
        refine ok.letE (v1 := 2) (by rw [((hFu1.2.2 61 1 n12201_Qv1).trans hr61_1)]) ?_
        refine ok.letE (v1 := 16) (by decide) ?_
        refine ok.add (show _ ≤ a_2u1.toInt + a_3u1.toInt ∧ a_2u1.toInt + a_3u1.toInt ≤ _ from by omega) (fun x27 hx27 => ?_)
        have hx27 : x27.toInt = a_2u1.toInt + a_3u1.toInt := hx27
        refine ok.ck (show 0 ≤ x27.toInt ∧ x27.toInt < ((160 : Nat) : Int) from by omega) ?_
        refine ok.letE (v1 := (X.1 16 (ix x27))) (hFu1.1 16 (ix x27) n3200_Qv1) ?_
        refine ok.bd (v_Judging_asTold_J2 hIu1 ((hFu1.2.2 61 1 n12201_Qv1).trans hr61_1) (show 0 ≤ a_1u1.toInt ∧ a_1u1.toInt ≤ 39 from by omega)) ?_
        rintro x29 _ rfl
        refine ok.ck (show 0 ≤ x24.toInt ∧ x24.toInt < ((160 : Nat) : Int) from by omega) ?_
        refine ok.wI (L := [12600]) hIu1 (show True from trivial) (show (12600 : Nat) ∈ [12600] from by decide) (by decide) (fun Z12 hIZ12 hFZ12 hkZ12 hoZ12 => ?_)
        refine ok.inc (by decide) (show _ ≤ a_3u1.toInt + (1) ∧ a_3u1.toInt + (1) ≤ _ from by omega) (fun x32 hx32 => ?_)
        have hx32 : x32.toInt = a_3u1.toInt + (1) := hx32
        exact ih_u1 a_1u1 a_2u1 x32 Z12 hIZ12 ((Fr.rf.tr hFu1 (fun _ q => q)).tr hFZ12 (by decide)) (show 0 ≤ a_1u1.toInt ∧ a_1u1.toInt ≤ 39 from by omega) (show a_2u1.toInt = 4 * a_1u1.toInt from by omega) (show 0 ≤ x32.toInt ∧ x32.toInt ≤ 4 from by omega) (show (5 - x32.toInt).toNat < _ from by omega)
  exact lpu1 BIG p1 x1 (0 : Int32) X hI (Fr.rf : Fr YC Qv1 _ _) (show 0 ≤ p1.toInt ∧ p1.toInt ≤ 39 from by omega) (show x1.toInt = 4 * p1.toInt from by omega) (show 0 ≤ (0 : Int) ∧ (0 : Int) ≤ 4 from by omega) (show (5 - (0 : Int)).toNat < BIG from ltBIG (show _ < 100000 from by omega))
def Qv2 : List Nat := [4400, 11005, 11200, 11400, 11600, 11800, 12000, 12214]
theorem n13400_Qv2 : (13400 : Nat) ∉ Qv2 := by decide
theorem n13600_Qv2 : (13600 : Nat) ∉ Qv2 := by decide
theorem n12203_Qv2 : (12203 : Nat) ∉ Qv2 := by decide
def Qv3 : List Nat := [4400, 11005, 11200, 11400, 11600, 11800, 12000]
set_option maxHeartbeats 4000000 in
theorem v_Guards_lay {p1 : Int32} {p2 : Int32} {p3 : Int32} {p4 : Int32} {p5 : Int32} {X : St} (hI : INV X) : ok (g_Guards_lay p1 p2 p3 p4 p5 X) (fun r Y => (Fr YC [11005, 11200, 11400, 11600, 11800, 12000] X Y ∧ INV Y)) := by
  unfold g_Guards_lay
  refine ok.letE (v1 := (X.1 55 5)) rfl ?_
  have g1 : 0 ≤ (X.1 55 5).toInt ∧ (X.1 55 5).toInt ≤ 3000 := hI.1 55 5
  refine ok.ite (fun c2 => ?_) (fun c2 => ?_)
  · skip
    refine ok.letE (v1 := (X.1 55 5)) rfl ?_
    refine ok.ck (show 0 ≤ (X.1 55 5).toInt ∧ (X.1 55 5).toInt < ((3000 : Nat) : Int) from by omega) ?_
    refine ok.wI (L := [11200]) hI (show True from trivial) (show (11200 : Nat) ∈ [11200] from by decide) (by decide) (fun Z3 hIZ3 hFZ3 hkZ3 hoZ3 => ?_)
    refine ok.letE (v1 := (X.1 55 5)) (hFZ3.1 55 5 (show (11005 : Nat) ∉ [11200] from by decide)) ?_
    refine ok.ck (show 0 ≤ (X.1 55 5).toInt ∧ (X.1 55 5).toInt < ((3000 : Nat) : Int) from by omega) ?_
    refine ok.wI (L := [11400]) hIZ3 (show True from trivial) (show (11400 : Nat) ∈ [11400] from by decide) (by decide) (fun Z4 hIZ4 hFZ4 hkZ4 hoZ4 => ?_)
    refine ok.letE (v1 := (X.1 55 5)) ((hFZ4.1 55 5 (show (11005 : Nat) ∉ [11400] from by decide)).trans (hFZ3.1 55 5 (show (11005 : Nat) ∉ [11200] from by decide))) ?_
    refine ok.ck (show 0 ≤ (X.1 55 5).toInt ∧ (X.1 55 5).toInt < ((3000 : Nat) : Int) from by omega) ?_
    refine ok.wI (L := [11600]) hIZ4 (show True from trivial) (show (11600 : Nat) ∈ [11600] from by decide) (by decide) (fun Z5 hIZ5 hFZ5 hkZ5 hoZ5 => ?_)
    refine ok.letE (v1 := (X.1 55 5)) (((hFZ5.1 55 5 (show (11005 : Nat) ∉ [11600] from by decide)).trans (hFZ4.1 55 5 (show (11005 : Nat) ∉ [11400] from by decide))).trans (hFZ3.1 55 5 (show (11005 : Nat) ∉ [11200] from by decide))) ?_
    refine ok.ck (show 0 ≤ (X.1 55 5).toInt ∧ (X.1 55 5).toInt < ((3000 : Nat) : Int) from by omega) ?_
    refine ok.wI (L := [11800]) hIZ5 (show True from trivial) (show (11800 : Nat) ∈ [11800] from by decide) (by decide) (fun Z6 hIZ6 hFZ6 hkZ6 hoZ6 => ?_)
    refine ok.letE (v1 := (X.1 55 5)) ((((hFZ6.1 55 5 (show (11005 : Nat) ∉ [11800] from by decide)).trans (hFZ5.1 55 5 (show (11005 : Nat) ∉ [11600] from by decide))).trans (hFZ4.1 55 5 (show (11005 : Nat) ∉ [11400] from by decide))).trans (hFZ3.1 55 5 (show (11005 : Nat) ∉ [11200] from by decide))) ?_
    refine ok.ck (show 0 ≤ (X.1 55 5).toInt ∧ (X.1 55 5).toInt < ((3000 : Nat) : Int) from by omega) ?_
    refine ok.wI (L := [12000]) hIZ6 (show True from trivial) (show (12000 : Nat) ∈ [12000] from by decide) (by decide) (fun Z7 hIZ7 hFZ7 hkZ7 hoZ7 => ?_)
    refine ok.letE (v1 := (X.1 55 5)) (((((hFZ7.1 55 5 (show (11005 : Nat) ∉ [12000] from by decide)).trans (hFZ6.1 55 5 (show (11005 : Nat) ∉ [11800] from by decide))).trans (hFZ5.1 55 5 (show (11005 : Nat) ∉ [11600] from by decide))).trans (hFZ4.1 55 5 (show (11005 : Nat) ∉ [11400] from by decide))).trans (hFZ3.1 55 5 (show (11005 : Nat) ∉ [11200] from by decide))) ?_
    refine ok.add (show _ ≤ (X.1 55 5).toInt + (1 : Int) ∧ (X.1 55 5).toInt + (1 : Int) ≤ _ from by omega) (fun x13 hx13 => ?_)
    have hx13 : x13.toInt = (X.1 55 5).toInt + (1 : Int) := hx13
    refine ok.wI (L := [11005]) hIZ7 (show 0 ≤ x13.toInt ∧ x13.toInt ≤ 3000 from by omega) (show (11005 : Nat) ∈ [11005] from by decide) (by decide) (fun Z8 hIZ8 hFZ8 hkZ8 hoZ8 => ?_)
    refine ok.letE (v1 := x13) hkZ8 ?_
    refine ok.sub (show _ ≤ x13.toInt - (1 : Int) ∧ x13.toInt - (1 : Int) ≤ _ from by omega) (fun x16 hx16 => ?_)
    have hx16 : x16.toInt = x13.toInt - (1 : Int) := hx16
    exact ok.ret ⟨((((((Fr.rf.tr hFZ3 (by decide)).tr hFZ4 (by decide)).tr hFZ5 (by decide)).tr hFZ6 (by decide)).tr hFZ7 (by decide)).tr hFZ8 (by decide)), hIZ8⟩
  · skip
    exact ok.ret ⟨(Fr.rf : Fr YC [11005, 11200, 11400, 11600, 11800, 12000] _ _), hI⟩
theorem s11005x11200x11400x11600x11800x12000_Qv3 : ∀ k ∈ [11005, 11200, 11400, 11600, 11800, 12000], k ∈ Qv3 := by decide
set_option maxHeartbeats 4000000 in
theorem v_Judging_layGuard_J2 {p1 : Int32} {p2 : Int32} {p3 : Int32} {p4 : Int32} {X : St} (hI : INV X) (hr61_0 : X.2.2 61 0 = 56) (hr61_1 : X.2.2 61 1 = 3) (h0 : 0 ≤ p1.toInt ∧ p1.toInt ≤ 9079) : ok (g_Judging_layGuard p1 p2 p3 p4 X) (fun r Y => (Fr YC Qv3 X Y ∧ INV Y)) := by
  unfold g_Judging_layGuard
  refine ok.ck (by rw [hr61_1]; decide) ?_
  refine ok.letE (v1 := 2) (by rw [hr61_1]) ?_
  refine ok.letE (v1 := 22) (by decide) ?_
  refine ok.ck hr61_0 ?_
  refine ok.ck (by rw [hr61_1]; decide) ?_
  refine ok.letE (v1 := 2) (by rw [hr61_1]) ?_
  refine ok.letE (v1 := 23) (by decide) ?_
  refine ok.ck (show 0 ≤ p1.toInt ∧ p1.toInt < ((9080 : Nat) : Int) from by omega) ?_
  refine ok.letE (v1 := (X.1 23 (ix p1))) rfl ?_
  have g1 : 0 ≤ (X.1 23 (ix p1)).toInt ∧ (X.1 23 (ix p1)).toInt ≤ 3000 := hI.1 23 (ix p1)
  refine ok.letE (v1 := (X.1 61 3)) rfl ?_
  have g2 : 0 ≤ (X.1 61 3).toInt ∧ (X.1 61 3).toInt ≤ 39 := hI.1 61 3
  refine ok.bd (v_Guards_lay hI) ?_
  rintro x7 Z4 ⟨hFZ4, hIZ4⟩
  refine ok.ck (show 0 ≤ p1.toInt ∧ p1.toInt < ((9080 : Nat) : Int) from by omega) ?_
  refine ok.wI (L := [4400]) hIZ4 (show True from trivial) (show (4400 : Nat) ∈ [4400] from by decide) (by decide) (fun Z5 hIZ5 hFZ5 hkZ5 hoZ5 => ?_)
  exact ok.ret ⟨((Fr.rf.tr hFZ4 s11005x11200x11400x11600x11800x12000_Qv3).tr hFZ5 (by decide)), hIZ5⟩
theorem n12200_Qv2 : (12200 : Nat) ∉ Qv2 := by decide
theorem n12201_Qv2 : (12201 : Nat) ∉ Qv2 := by decide
theorem sQv3_Qv2 : ∀ k ∈ Qv3, k ∈ Qv2 := by decide
set_option maxHeartbeats 4000000 in
theorem v_Judging_mix_J2 {p1 : Int32} {X : St} (hI : INV X) (hr61_0 : X.2.2 61 0 = 56) (hr61_1 : X.2.2 61 1 = 3) (h0 : 0 ≤ p1.toInt ∧ p1.toInt ≤ 20001) : ok (g_Judging_mix p1 X) (fun r Y => (Fr YC Qv2 X Y ∧ INV Y)) := by
  unfold g_Judging_mix
  refine ok.letE (v1 := (X.1 61 14)) rfl ?_
  have g1 : 0 ≤ (X.1 61 14).toInt ∧ (X.1 61 14).toInt ≤ 3000 := hI.1 61 14
  refine ok.sub (show _ ≤ (X.1 61 14).toInt - p1.toInt ∧ (X.1 61 14).toInt - p1.toInt ≤ _ from by omega) (fun x2 hx2 => ?_)
  have hx2 : x2.toInt = (X.1 61 14).toInt - p1.toInt := hx2
  refine ok.eqv (fun x3 hx3 => ?_)
  have hx3 : ((0 : Int) < x2.toInt ∧ x3.toInt = x2.toInt) ∨ (¬ ((0 : Int) < x2.toInt) ∧ x3.toInt = (0 : Int)) := by
    rw [hx3]
    by_cases gc : (0 : Int32) < x2
    · rw [if_pos gc]; exact Or.inl ⟨(Int32.lt_iff_toInt_lt.mp gc), rfl⟩
    · rw [if_neg gc]; exact Or.inr ⟨(fun z => gc (Int32.lt_iff_toInt_lt.mpr z)), rfl⟩
  refine ok.letE (v1 := (X.1 61 14)) rfl ?_
  refine ok.ite (fun c2 => ?_) (fun c2 => ?_)
  · skip
    unfold g_Judging_mix_29
    have lpu3 : ∀ (n : Nat), ∀ (a_2u3 : Int32) (a_3u3 : Int32) (a_4u3 : Int32) (a_5u3 : Int32) (Zu3 : St), INV Zu3 → Fr YC Qv2 X Zu3 → (0 ≤ a_2u3.toInt ∧ a_2u3.toInt ≤ 3000) → (0 ≤ a_5u3.toInt ∧ a_5u3.toInt ≤ 3000) → (3001 - a_5u3.toInt).toNat < n → ok (g_Judging_mix_36 n a_2u3 a_3u3 a_4u3 a_5u3 Zu3) (fun r Y => (Fr YC Qv2 X Y ∧ INV Y)) := by
      intro n
      unfold g_Judging_mix_36
      refine lp_indN (P := fun (n : Nat) (r_u3 : Int32 → Int32 → Int32 → Int32 → St → Option (Int32 × St)) => ∀ (a_2u3 : Int32) (a_3u3 : Int32) (a_4u3 : Int32) (a_5u3 : Int32) (Zu3 : St), INV Zu3 → Fr YC Qv2 X Zu3 → (0 ≤ a_2u3.toInt ∧ a_2u3.toInt ≤ 3000) → (0 ≤ a_5u3.toInt ∧ a_5u3.toInt ≤ 3000) → (3001 - a_5u3.toInt).toNat < n → ok (r_u3 a_2u3 a_3u3 a_4u3 a_5u3 Zu3) (fun r Y => (Fr YC Qv2 X Y ∧ INV Y))) ?_ ?_ n
      · intro a_2u3 a_3u3 a_4u3 a_5u3 Zu3 hIu3 hFu3 u3_0 u3_1  hm; exact absurd hm (Nat.not_lt_zero _)
      · intro n r_u3 ih_u3 a_2u3 a_3u3 a_4u3 a_5u3 Zu3 hIu3 hFu3 u3_0 u3_1  hmu3
        unfold g_Judging_mix_36_s
        refine ok.letE (v1 := (Zu3.1 61 14)) rfl ?_
        have g4 : 0 ≤ (Zu3.1 61 14).toInt ∧ (Zu3.1 61 14).toInt ≤ 3000 := hIu3.1 61 14
        refine ok.ite (fun c5 => ?_) (fun c5 => ?_)
        · skip
          have lpu6 : ∀ (n : Nat), ∀ (a_2u6 : Int32) (a_3u6 : Int32) (a_4u6 : Int32) (a_5u6 : Int32) (Zu6 : St), INV Zu6 → Fr YC Qv2 X Zu6 → (0 ≤ a_2u6.toInt ∧ a_2u6.toInt ≤ 3000) → (0 ≤ a_5u6.toInt ∧ a_5u6.toInt ≤ 3000) → (3001 - a_5u6.toInt).toNat < n → ok (g_Judging_mix_77 n a_2u6 a_3u6 a_4u6 a_5u6 Zu6) (fun r Y => (Fr YC Qv2 X Y ∧ INV Y)) := by
            intro n
            unfold g_Judging_mix_77
            refine lp_indN (P := fun (n : Nat) (r_u6 : Int32 → Int32 → Int32 → Int32 → St → Option (Int32 × St)) => ∀ (a_2u6 : Int32) (a_3u6 : Int32) (a_4u6 : Int32) (a_5u6 : Int32) (Zu6 : St), INV Zu6 → Fr YC Qv2 X Zu6 → (0 ≤ a_2u6.toInt ∧ a_2u6.toInt ≤ 3000) → (0 ≤ a_5u6.toInt ∧ a_5u6.toInt ≤ 3000) → (3001 - a_5u6.toInt).toNat < n → ok (r_u6 a_2u6 a_3u6 a_4u6 a_5u6 Zu6) (fun r Y => (Fr YC Qv2 X Y ∧ INV Y))) ?_ ?_ n
            · intro a_2u6 a_3u6 a_4u6 a_5u6 Zu6 hIu6 hFu6 u6_0 u6_1  hm; exact absurd hm (Nat.not_lt_zero _)
            · intro n r_u6 ih_u6 a_2u6 a_3u6 a_4u6 a_5u6 Zu6 hIu6 hFu6 u6_0 u6_1  hmu6
              unfold g_Judging_mix_77_s
              refine ok.letE (v1 := (Zu6.1 61 14)) rfl ?_
              have g7 : 0 ≤ (Zu6.1 61 14).toInt ∧ (Zu6.1 61 14).toInt ≤ 3000 := hIu6.1 61 14
              refine ok.ite (fun c8 => ?_) (fun c8 => ?_)
              · skip
                unfold g_Judging_mix_131
                refine ok.wI (L := [12214]) hIu6 (show 0 ≤ a_2u6.toInt ∧ a_2u6.toInt ≤ 3000 from by omega) (show (12214 : Nat) ∈ [12214] from by decide) (by decide) (fun Z9 hIZ9 hFZ9 hkZ9 hoZ9 => ?_)
                refine ok.ite (fun c10 => ?_) (fun c10 => ?_)
                · skip
                  have g11 := i32_le a_4u6
                  exact ok.ret ⟨((Fr.rf.tr hFu6 (fun _ q => q)).tr hFZ9 (by decide)), hIZ9⟩
                · skip
                  exact ok.ret ⟨((Fr.rf.tr hFu6 (fun _ q => q)).tr hFZ9 (by decide)), hIZ9⟩
              · skip
                refine ok.ite (fun c12 => ?_) (fun c12 => ?_)
                · skip
                  have g13 := i32_le a_4u6
                  refine ok.ck (show 0 ≤ a_5u6.toInt ∧ a_5u6.toInt < ((3000 : Nat) : Int) from by omega) ?_
                  refine ok.letE (v1 := (X.1 67 (ix a_5u6))) (hFu6.1 67 (ix a_5u6) n13400_Qv2) ?_
                  refine ok.ite (fun c14 => ?_) (fun c14 => ?_)
                  · skip
                    have g15 := i32_le (X.1 67 (ix a_5u6))
                    unfold g_Judging_mix_125
                    refine ok.inc (by decide) (show _ ≤ a_5u6.toInt + (1) ∧ a_5u6.toInt + (1) ≤ _ from by omega) (fun x9 hx9 => ?_)
                    have hx9 : x9.toInt = a_5u6.toInt + (1) := hx9
                    exact ih_u6 a_2u6 a_3u6 a_4u6 x9 Zu6 hIu6 (Fr.rf.tr hFu6 (fun _ q => q)) (show 0 ≤ a_2u6.toInt ∧ a_2u6.toInt ≤ 3000 from by omega) (show 0 ≤ x9.toInt ∧ x9.toInt ≤ 3000 from by omega) (show (3001 - x9.toInt).toNat < _ from by omega)
                  · skip
                    refine ok.ck (show 0 ≤ a_5u6.toInt ∧ a_5u6.toInt < ((3000 : Nat) : Int) from by omega) ?_
                    refine ok.letE (v1 := (X.1 68 (ix a_5u6))) (hFu6.1 68 (ix a_5u6) n13600_Qv2) ?_
                    have g16 : 0 ≤ (X.1 68 (ix a_5u6)).toInt ∧ (X.1 68 (ix a_5u6)).toInt ≤ 9079 := hI.1 68 (ix a_5u6)
                    refine ok.ck (show 0 ≤ a_5u6.toInt ∧ a_5u6.toInt < ((3000 : Nat) : Int) from by omega) ?_
                    refine ok.letE (v1 := (X.1 67 (ix a_5u6))) (hFu6.1 67 (ix a_5u6) n13400_Qv2) ?_
                    refine ok.letE (v1 := (X.1 61 3)) (hFu6.1 61 3 n12203_Qv2) ?_
                    have g17 : 0 ≤ (X.1 61 3).toInt ∧ (X.1 61 3).toInt ≤ 39 := hI.1 61 3
                    refine ok.bd (v_Judging_layGuard_J2 hIu6 ((hFu6.2.2 61 0 n12200_Qv2).trans hr61_0) ((hFu6.2.2 61 1 n12201_Qv2).trans hr61_1) (show 0 ≤ (X.1 68 (ix a_5u6)).toInt ∧ (X.1 68 (ix a_5u6)).toInt ≤ 9079 from by omega)) ?_
                    rintro r_18 Z20 ⟨hFZ20, hIZ20⟩
                    unfold g_Judging_mix_125
                    refine ok.inc (by decide) (show _ ≤ a_5u6.toInt + (1) ∧ a_5u6.toInt + (1) ≤ _ from by omega) (fun x9 hx9 => ?_)
                    have hx9 : x9.toInt = a_5u6.toInt + (1) := hx9
                    exact ih_u6 a_2u6 a_3u6 a_4u6 x9 Z20 hIZ20 ((Fr.rf.tr hFu6 (fun _ q => q)).tr hFZ20 sQv3_Qv2) (show 0 ≤ a_2u6.toInt ∧ a_2u6.toInt ≤ 3000 from by omega) (show 0 ≤ x9.toInt ∧ x9.toInt ≤ 3000 from by omega) (show (3001 - x9.toInt).toNat < _ from by omega)
                · skip
                  unfold g_Judging_mix_131
                  refine ok.wI (L := [12214]) hIu6 (show 0 ≤ a_2u6.toInt ∧ a_2u6.toInt ≤ 3000 from by omega) (show (12214 : Nat) ∈ [12214] from by decide) (by decide) (fun Z21 hIZ21 hFZ21 hkZ21 hoZ21 => ?_)
                  refine ok.ite (fun c22 => ?_) (fun c22 => ?_)
                  · skip
                    have g23 := i32_le a_4u6
                    exact ok.ret ⟨((Fr.rf.tr hFu6 (fun _ q => q)).tr hFZ21 (by decide)), hIZ21⟩
                  · skip
                    exact ok.ret ⟨((Fr.rf.tr hFu6 (fun _ q => q)).tr hFZ21 (by decide)), hIZ21⟩
          exact lpu6 BIG a_2u3 a_3u3 a_4u3 a_2u3 Zu3 hIu3 (Fr.rf.tr hFu3 (fun _ q => q)) (show 0 ≤ a_2u3.toInt ∧ a_2u3.toInt ≤ 3000 from by omega) (show 0 ≤ a_2u3.toInt ∧ a_2u3.toInt ≤ 3000 from by omega) (show (3001 - a_2u3.toInt).toNat < BIG from ltBIG (show _ < 100000 from by omega))
        · skip
          refine ok.ite (fun c24 => ?_) (fun c24 => ?_)
          · skip
            have g25 := i32_le a_4u3
            unfold g_Judging_mix_65
            unfold g_Judging_mix_66
            refine ok.inc (by decide) (show _ ≤ a_5u3.toInt + (1) ∧ a_5u3.toInt + (1) ≤ _ from by omega) (fun x14 hx14 => ?_)
            have hx14 : x14.toInt = a_5u3.toInt + (1) := hx14
            exact ih_u3 a_2u3 a_3u3 (0 : Int32) x14 Zu3 hIu3 (Fr.rf.tr hFu3 (fun _ q => q)) (show 0 ≤ a_2u3.toInt ∧ a_2u3.toInt ≤ 3000 from by omega) (show 0 ≤ x14.toInt ∧ x14.toInt ≤ 3000 from by omega) (show (3001 - x14.toInt).toNat < _ from by omega)
          · skip
            refine ok.ck (show 0 ≤ a_5u3.toInt ∧ a_5u3.toInt < ((3000 : Nat) : Int) from by omega) ?_
            refine ok.letE (v1 := (X.1 67 (ix a_5u3))) (hFu3.1 67 (ix a_5u3) n13400_Qv2) ?_
            refine ok.ite (fun c26 => ?_) (fun c26 => ?_)
            · skip
              unfold g_Judging_mix_66
              refine ok.inc (by decide) (show _ ≤ a_5u3.toInt + (1) ∧ a_5u3.toInt + (1) ≤ _ from by omega) (fun x14 hx14 => ?_)
              have hx14 : x14.toInt = a_5u3.toInt + (1) := hx14
              exact ih_u3 a_2u3 a_3u3 (1 : Int32) x14 Zu3 hIu3 (Fr.rf.tr hFu3 (fun _ q => q)) (show 0 ≤ a_2u3.toInt ∧ a_2u3.toInt ≤ 3000 from by omega) (show 0 ≤ x14.toInt ∧ x14.toInt ≤ 3000 from by omega) (show (3001 - x14.toInt).toNat < _ from by omega)
            · skip
              unfold g_Judging_mix_65
              unfold g_Judging_mix_66
              refine ok.inc (by decide) (show _ ≤ a_5u3.toInt + (1) ∧ a_5u3.toInt + (1) ≤ _ from by omega) (fun x14 hx14 => ?_)
              have hx14 : x14.toInt = a_5u3.toInt + (1) := hx14
              exact ih_u3 a_2u3 a_3u3 (0 : Int32) x14 Zu3 hIu3 (Fr.rf.tr hFu3 (fun _ q => q)) (show 0 ≤ a_2u3.toInt ∧ a_2u3.toInt ≤ 3000 from by omega) (show 0 ≤ x14.toInt ∧ x14.toInt ≤ 3000 from by omega) (show (3001 - x14.toInt).toNat < _ from by omega)
    exact lpu3 BIG x3 (2 : Int32) (1 : Int32) x3 X hI (Fr.rf : Fr YC Qv2 _ _) (show 0 ≤ x3.toInt ∧ x3.toInt ≤ 3000 from by omega) (show 0 ≤ x3.toInt ∧ x3.toInt ≤ 3000 from by omega) (show (3001 - x3.toInt).toNat < BIG from ltBIG (show _ < 100000 from by omega))
  · skip
    refine ok.ck (show 0 ≤ x3.toInt ∧ x3.toInt < ((3000 : Nat) : Int) from by omega) ?_
    refine ok.letE (v1 := (X.1 67 (ix x3))) rfl ?_
    unfold g_Judging_mix_29
    have lpu27 : ∀ (n : Nat), ∀ (a_2u27 : Int32) (a_3u27 : Int32) (a_4u27 : Int32) (a_5u27 : Int32) (Zu27 : St), INV Zu27 → Fr YC Qv2 X Zu27 → (0 ≤ a_2u27.toInt ∧ a_2u27.toInt ≤ 3000) → (0 ≤ a_5u27.toInt ∧ a_5u27.toInt ≤ 3000) → (3001 - a_5u27.toInt).toNat < n → ok (g_Judging_mix_36 n a_2u27 a_3u27 a_4u27 a_5u27 Zu27) (fun r Y => (Fr YC Qv2 X Y ∧ INV Y)) := by
      intro n
      unfold g_Judging_mix_36
      refine lp_indN (P := fun (n : Nat) (r_u27 : Int32 → Int32 → Int32 → Int32 → St → Option (Int32 × St)) => ∀ (a_2u27 : Int32) (a_3u27 : Int32) (a_4u27 : Int32) (a_5u27 : Int32) (Zu27 : St), INV Zu27 → Fr YC Qv2 X Zu27 → (0 ≤ a_2u27.toInt ∧ a_2u27.toInt ≤ 3000) → (0 ≤ a_5u27.toInt ∧ a_5u27.toInt ≤ 3000) → (3001 - a_5u27.toInt).toNat < n → ok (r_u27 a_2u27 a_3u27 a_4u27 a_5u27 Zu27) (fun r Y => (Fr YC Qv2 X Y ∧ INV Y))) ?_ ?_ n
      · intro a_2u27 a_3u27 a_4u27 a_5u27 Zu27 hIu27 hFu27 u27_0 u27_1  hm; exact absurd hm (Nat.not_lt_zero _)
      · intro n r_u27 ih_u27 a_2u27 a_3u27 a_4u27 a_5u27 Zu27 hIu27 hFu27 u27_0 u27_1  hmu27
        unfold g_Judging_mix_36_s
        refine ok.letE (v1 := (Zu27.1 61 14)) rfl ?_
        have g28 : 0 ≤ (Zu27.1 61 14).toInt ∧ (Zu27.1 61 14).toInt ≤ 3000 := hIu27.1 61 14
        refine ok.ite (fun c29 => ?_) (fun c29 => ?_)
        · skip
          have lpu30 : ∀ (n : Nat), ∀ (a_2u30 : Int32) (a_3u30 : Int32) (a_4u30 : Int32) (a_5u30 : Int32) (Zu30 : St), INV Zu30 → Fr YC Qv2 X Zu30 → (0 ≤ a_2u30.toInt ∧ a_2u30.toInt ≤ 3000) → (0 ≤ a_5u30.toInt ∧ a_5u30.toInt ≤ 3000) → (3001 - a_5u30.toInt).toNat < n → ok (g_Judging_mix_77 n a_2u30 a_3u30 a_4u30 a_5u30 Zu30) (fun r Y => (Fr YC Qv2 X Y ∧ INV Y)) := by
            intro n
            unfold g_Judging_mix_77
            refine lp_indN (P := fun (n : Nat) (r_u30 : Int32 → Int32 → Int32 → Int32 → St → Option (Int32 × St)) => ∀ (a_2u30 : Int32) (a_3u30 : Int32) (a_4u30 : Int32) (a_5u30 : Int32) (Zu30 : St), INV Zu30 → Fr YC Qv2 X Zu30 → (0 ≤ a_2u30.toInt ∧ a_2u30.toInt ≤ 3000) → (0 ≤ a_5u30.toInt ∧ a_5u30.toInt ≤ 3000) → (3001 - a_5u30.toInt).toNat < n → ok (r_u30 a_2u30 a_3u30 a_4u30 a_5u30 Zu30) (fun r Y => (Fr YC Qv2 X Y ∧ INV Y))) ?_ ?_ n
            · intro a_2u30 a_3u30 a_4u30 a_5u30 Zu30 hIu30 hFu30 u30_0 u30_1  hm; exact absurd hm (Nat.not_lt_zero _)
            · intro n r_u30 ih_u30 a_2u30 a_3u30 a_4u30 a_5u30 Zu30 hIu30 hFu30 u30_0 u30_1  hmu30
              unfold g_Judging_mix_77_s
              refine ok.letE (v1 := (Zu30.1 61 14)) rfl ?_
              have g31 : 0 ≤ (Zu30.1 61 14).toInt ∧ (Zu30.1 61 14).toInt ≤ 3000 := hIu30.1 61 14
              refine ok.ite (fun c32 => ?_) (fun c32 => ?_)
              · skip
                unfold g_Judging_mix_131
                refine ok.wI (L := [12214]) hIu30 (show 0 ≤ a_2u30.toInt ∧ a_2u30.toInt ≤ 3000 from by omega) (show (12214 : Nat) ∈ [12214] from by decide) (by decide) (fun Z33 hIZ33 hFZ33 hkZ33 hoZ33 => ?_)
                refine ok.ite (fun c34 => ?_) (fun c34 => ?_)
                · skip
                  have g35 := i32_le a_4u30
                  exact ok.ret ⟨((Fr.rf.tr hFu30 (fun _ q => q)).tr hFZ33 (by decide)), hIZ33⟩
                · skip
                  exact ok.ret ⟨((Fr.rf.tr hFu30 (fun _ q => q)).tr hFZ33 (by decide)), hIZ33⟩
              · skip
                refine ok.ite (fun c36 => ?_) (fun c36 => ?_)
                · skip
                  have g37 := i32_le a_4u30
                  refine ok.ck (show 0 ≤ a_5u30.toInt ∧ a_5u30.toInt < ((3000 : Nat) : Int) from by omega) ?_
                  refine ok.letE (v1 := (X.1 67 (ix a_5u30))) (hFu30.1 67 (ix a_5u30) n13400_Qv2) ?_
                  refine ok.ite (fun c38 => ?_) (fun c38 => ?_)
                  · skip
                    have g39 := i32_le (X.1 67 (ix a_5u30))
                    unfold g_Judging_mix_125
                    refine ok.inc (by decide) (show _ ≤ a_5u30.toInt + (1) ∧ a_5u30.toInt + (1) ≤ _ from by omega) (fun x9 hx9 => ?_)
                    have hx9 : x9.toInt = a_5u30.toInt + (1) := hx9
                    exact ih_u30 a_2u30 a_3u30 a_4u30 x9 Zu30 hIu30 (Fr.rf.tr hFu30 (fun _ q => q)) (show 0 ≤ a_2u30.toInt ∧ a_2u30.toInt ≤ 3000 from by omega) (show 0 ≤ x9.toInt ∧ x9.toInt ≤ 3000 from by omega) (show (3001 - x9.toInt).toNat < _ from by omega)
                  · skip
                    refine ok.ck (show 0 ≤ a_5u30.toInt ∧ a_5u30.toInt < ((3000 : Nat) : Int) from by omega) ?_
                    refine ok.letE (v1 := (X.1 68 (ix a_5u30))) (hFu30.1 68 (ix a_5u30) n13600_Qv2) ?_
                    have g40 : 0 ≤ (X.1 68 (ix a_5u30)).toInt ∧ (X.1 68 (ix a_5u30)).toInt ≤ 9079 := hI.1 68 (ix a_5u30)
                    refine ok.ck (show 0 ≤ a_5u30.toInt ∧ a_5u30.toInt < ((3000 : Nat) : Int) from by omega) ?_
                    refine ok.letE (v1 := (X.1 67 (ix a_5u30))) (hFu30.1 67 (ix a_5u30) n13400_Qv2) ?_
                    refine ok.letE (v1 := (X.1 61 3)) (hFu30.1 61 3 n12203_Qv2) ?_
                    have g41 : 0 ≤ (X.1 61 3).toInt ∧ (X.1 61 3).toInt ≤ 39 := hI.1 61 3
                    refine ok.bd (v_Judging_layGuard_J2 hIu30 ((hFu30.2.2 61 0 n12200_Qv2).trans hr61_0) ((hFu30.2.2 61 1 n12201_Qv2).trans hr61_1) (show 0 ≤ (X.1 68 (ix a_5u30)).toInt ∧ (X.1 68 (ix a_5u30)).toInt ≤ 9079 from by omega)) ?_
                    rintro r_42 Z44 ⟨hFZ44, hIZ44⟩
                    unfold g_Judging_mix_125
                    refine ok.inc (by decide) (show _ ≤ a_5u30.toInt + (1) ∧ a_5u30.toInt + (1) ≤ _ from by omega) (fun x9 hx9 => ?_)
                    have hx9 : x9.toInt = a_5u30.toInt + (1) := hx9
                    exact ih_u30 a_2u30 a_3u30 a_4u30 x9 Z44 hIZ44 ((Fr.rf.tr hFu30 (fun _ q => q)).tr hFZ44 sQv3_Qv2) (show 0 ≤ a_2u30.toInt ∧ a_2u30.toInt ≤ 3000 from by omega) (show 0 ≤ x9.toInt ∧ x9.toInt ≤ 3000 from by omega) (show (3001 - x9.toInt).toNat < _ from by omega)
                · skip
                  unfold g_Judging_mix_131
                  refine ok.wI (L := [12214]) hIu30 (show 0 ≤ a_2u30.toInt ∧ a_2u30.toInt ≤ 3000 from by omega) (show (12214 : Nat) ∈ [12214] from by decide) (by decide) (fun Z45 hIZ45 hFZ45 hkZ45 hoZ45 => ?_)
                  refine ok.ite (fun c46 => ?_) (fun c46 => ?_)
                  · skip
                    have g47 := i32_le a_4u30
                    exact ok.ret ⟨((Fr.rf.tr hFu30 (fun _ q => q)).tr hFZ45 (by decide)), hIZ45⟩
                  · skip
                    exact ok.ret ⟨((Fr.rf.tr hFu30 (fun _ q => q)).tr hFZ45 (by decide)), hIZ45⟩
          exact lpu30 BIG a_2u27 a_3u27 a_4u27 a_2u27 Zu27 hIu27 (Fr.rf.tr hFu27 (fun _ q => q)) (show 0 ≤ a_2u27.toInt ∧ a_2u27.toInt ≤ 3000 from by omega) (show 0 ≤ a_2u27.toInt ∧ a_2u27.toInt ≤ 3000 from by omega) (show (3001 - a_2u27.toInt).toNat < BIG from ltBIG (show _ < 100000 from by omega))
        · skip
          refine ok.ite (fun c48 => ?_) (fun c48 => ?_)
          · skip
            have g49 := i32_le a_4u27
            unfold g_Judging_mix_65
            unfold g_Judging_mix_66
            refine ok.inc (by decide) (show _ ≤ a_5u27.toInt + (1) ∧ a_5u27.toInt + (1) ≤ _ from by omega) (fun x14 hx14 => ?_)
            have hx14 : x14.toInt = a_5u27.toInt + (1) := hx14
            exact ih_u27 a_2u27 a_3u27 (0 : Int32) x14 Zu27 hIu27 (Fr.rf.tr hFu27 (fun _ q => q)) (show 0 ≤ a_2u27.toInt ∧ a_2u27.toInt ≤ 3000 from by omega) (show 0 ≤ x14.toInt ∧ x14.toInt ≤ 3000 from by omega) (show (3001 - x14.toInt).toNat < _ from by omega)
          · skip
            refine ok.ck (show 0 ≤ a_5u27.toInt ∧ a_5u27.toInt < ((3000 : Nat) : Int) from by omega) ?_
            refine ok.letE (v1 := (X.1 67 (ix a_5u27))) (hFu27.1 67 (ix a_5u27) n13400_Qv2) ?_
            refine ok.ite (fun c50 => ?_) (fun c50 => ?_)
            · skip
              unfold g_Judging_mix_66
              refine ok.inc (by decide) (show _ ≤ a_5u27.toInt + (1) ∧ a_5u27.toInt + (1) ≤ _ from by omega) (fun x14 hx14 => ?_)
              have hx14 : x14.toInt = a_5u27.toInt + (1) := hx14
              exact ih_u27 a_2u27 a_3u27 (1 : Int32) x14 Zu27 hIu27 (Fr.rf.tr hFu27 (fun _ q => q)) (show 0 ≤ a_2u27.toInt ∧ a_2u27.toInt ≤ 3000 from by omega) (show 0 ≤ x14.toInt ∧ x14.toInt ≤ 3000 from by omega) (show (3001 - x14.toInt).toNat < _ from by omega)
            · skip
              unfold g_Judging_mix_65
              unfold g_Judging_mix_66
              refine ok.inc (by decide) (show _ ≤ a_5u27.toInt + (1) ∧ a_5u27.toInt + (1) ≤ _ from by omega) (fun x14 hx14 => ?_)
              have hx14 : x14.toInt = a_5u27.toInt + (1) := hx14
              exact ih_u27 a_2u27 a_3u27 (0 : Int32) x14 Zu27 hIu27 (Fr.rf.tr hFu27 (fun _ q => q)) (show 0 ≤ a_2u27.toInt ∧ a_2u27.toInt ≤ 3000 from by omega) (show 0 ≤ x14.toInt ∧ x14.toInt ≤ 3000 from by omega) (show (3001 - x14.toInt).toNat < _ from by omega)
    exact lpu27 BIG x3 (X.1 67 (ix x3)) (1 : Int32) x3 X hI (Fr.rf : Fr YC Qv2 _ _) (show 0 ≤ x3.toInt ∧ x3.toInt ≤ 3000 from by omega) (show 0 ≤ x3.toInt ∧ x3.toInt ≤ 3000 from by omega) (show (3001 - x3.toInt).toNat < BIG from ltBIG (show _ < 100000 from by omega))
def Qv4 : List Nat := [600, 800, 1000, 1200, 1400, 1600, 1800, 2000, 4400, 11005, 11200, 11400, 11600, 11800, 12000, 12214, 12400, 13200, 13400]
set_option maxHeartbeats 4000000 in
theorem v_Judging_push_J2 {p1 : Int32} {X : St} (hI : INV X) (hr61_2 : X.2.2 61 2 = 4) : ok (g_Judging_push p1 X) (fun r Y => (Fr YC [12214, 12400, 13400] X Y ∧ INV Y)) := by
  unfold g_Judging_push
  refine ok.letE (v1 := (X.1 61 14)) rfl ?_
  have g1 : 0 ≤ (X.1 61 14).toInt ∧ (X.1 61 14).toInt ≤ 3000 := hI.1 61 14
  refine ok.ite (fun c2 => ?_) (fun c2 => ?_)
  · skip
    unfold g_Judging_push_30
    refine ok.letE (v1 := (X.1 61 3)) rfl ?_
    have g3 : 0 ≤ (X.1 61 3).toInt ∧ (X.1 61 3).toInt ≤ 39 := hI.1 61 3
    refine ok.letE (v1 := (X.1 61 3)) rfl ?_
    refine ok.ck (show 0 ≤ (X.1 61 3).toInt ∧ (X.1 61 3).toInt < ((40 : Nat) : Int) from by omega) ?_
    refine ok.letE (v1 := (X.1 62 (ix (X.1 61 3)))) rfl ?_
    refine ok.ite (fun c4 => ?_) (fun c4 => ?_)
    · skip
      have g5 := i32_le (X.1 62 (ix (X.1 61 3)))
      refine ok.ck (by rw [hr61_2]; decide) ?_
      refine ok.letE (v1 := 3) (by rw [hr61_2]) ?_
      refine ok.bd (v_Kinds_hasAny_3 hI) ?_
      rintro x7 _ rfl
      refine ok.ite (fun c7 => ?_) (fun c7 => ?_)
      · skip
        have g8 := i32_le x7
        unfold g_Judging_push_66
        refine ok.ck (show 0 ≤ (X.1 61 3).toInt ∧ (X.1 61 3).toInt < ((40 : Nat) : Int) from by omega) ?_
        refine ok.wI (L := [12400]) hI (show True from trivial) (show (12400 : Nat) ∈ [12400] from by decide) (by decide) (fun Z9 hIZ9 hFZ9 hkZ9 hoZ9 => ?_)
        exact ok.ret ⟨(Fr.rf.tr hFZ9 (by decide)), hIZ9⟩
      · skip
        unfold g_Judging_push_61
        unfold g_Judging_push_66
        refine ok.ck (show 0 ≤ (X.1 61 3).toInt ∧ (X.1 61 3).toInt < ((40 : Nat) : Int) from by omega) ?_
        refine ok.wI (L := [12400]) hI (show True from trivial) (show (12400 : Nat) ∈ [12400] from by decide) (by decide) (fun Z10 hIZ10 hFZ10 hkZ10 hoZ10 => ?_)
        exact ok.ret ⟨(Fr.rf.tr hFZ10 (by decide)), hIZ10⟩
    · skip
      unfold g_Judging_push_61
      unfold g_Judging_push_66
      refine ok.ck (show 0 ≤ (X.1 61 3).toInt ∧ (X.1 61 3).toInt < ((40 : Nat) : Int) from by omega) ?_
      refine ok.wI (L := [12400]) hI (show True from trivial) (show (12400 : Nat) ∈ [12400] from by decide) (by decide) (fun Z11 hIZ11 hFZ11 hkZ11 hoZ11 => ?_)
      exact ok.ret ⟨(Fr.rf.tr hFZ11 (by decide)), hIZ11⟩
  · skip
    refine ok.letE (v1 := (X.1 61 14)) rfl ?_
    refine ok.ck (show 0 ≤ (X.1 61 14).toInt ∧ (X.1 61 14).toInt < ((3000 : Nat) : Int) from by omega) ?_
    refine ok.wI (L := [13400]) hI (show True from trivial) (show (13400 : Nat) ∈ [13400] from by decide) (by decide) (fun Z12 hIZ12 hFZ12 hkZ12 hoZ12 => ?_)
    refine ok.letE (v1 := (X.1 61 14)) (hFZ12.1 61 14 (show (12214 : Nat) ∉ [13400] from by decide)) ?_
    refine ok.add (show _ ≤ (X.1 61 14).toInt + (1 : Int) ∧ (X.1 61 14).toInt + (1 : Int) ≤ _ from by omega) (fun x12 hx12 => ?_)
    have hx12 : x12.toInt = (X.1 61 14).toInt + (1 : Int) := hx12
    refine ok.wI (L := [12214]) hIZ12 (show 0 ≤ x12.toInt ∧ x12.toInt ≤ 3000 from by omega) (show (12214 : Nat) ∈ [12214] from by decide) (by decide) (fun Z13 hIZ13 hFZ13 hkZ13 hoZ13 => ?_)
    unfold g_Judging_push_30
    refine ok.letE (v1 := (X.1 61 3)) ((hFZ13.1 61 3 (show (12203 : Nat) ∉ [12214] from by decide)).trans (hFZ12.1 61 3 (show (12203 : Nat) ∉ [13400] from by decide))) ?_
    have g14 : 0 ≤ (X.1 61 3).toInt ∧ (X.1 61 3).toInt ≤ 39 := hI.1 61 3
    refine ok.letE (v1 := (X.1 61 3)) ((hFZ13.1 61 3 (show (12203 : Nat) ∉ [12214] from by decide)).trans (hFZ12.1 61 3 (show (12203 : Nat) ∉ [13400] from by decide))) ?_
    refine ok.ck (show 0 ≤ (X.1 61 3).toInt ∧ (X.1 61 3).toInt < ((40 : Nat) : Int) from by omega) ?_
    refine ok.letE (v1 := (X.1 62 (ix (X.1 61 3)))) ((hFZ13.1 62 (ix (X.1 61 3)) (show (12400 : Nat) ∉ [12214] from by decide)).trans (hFZ12.1 62 (ix (X.1 61 3)) (show (12400 : Nat) ∉ [13400] from by decide))) ?_
    refine ok.ite (fun c15 => ?_) (fun c15 => ?_)
    · skip
      have g16 := i32_le (X.1 62 (ix (X.1 61 3)))
      refine ok.ck (by rw [(((hFZ13.2.2 61 2 (show (12202 : Nat) ∉ [12214] from by decide)).trans (hFZ12.2.2 61 2 (show (12202 : Nat) ∉ [13400] from by decide))).trans hr61_2)]; decide) ?_
      refine ok.letE (v1 := 3) (by rw [(((hFZ13.2.2 61 2 (show (12202 : Nat) ∉ [12214] from by decide)).trans (hFZ12.2.2 61 2 (show (12202 : Nat) ∉ [13400] from by decide))).trans hr61_2)]) ?_
      refine ok.bd (v_Kinds_hasAny_3 hIZ13) ?_
      rintro x7 _ rfl
      refine ok.ite (fun c18 => ?_) (fun c18 => ?_)
      · skip
        have g19 := i32_le x7
        unfold g_Judging_push_66
        refine ok.ck (show 0 ≤ (X.1 61 3).toInt ∧ (X.1 61 3).toInt < ((40 : Nat) : Int) from by omega) ?_
        refine ok.wI (L := [12400]) hIZ13 (show True from trivial) (show (12400 : Nat) ∈ [12400] from by decide) (by decide) (fun Z20 hIZ20 hFZ20 hkZ20 hoZ20 => ?_)
        exact ok.ret ⟨(((Fr.rf.tr hFZ12 (by decide)).tr hFZ13 (by decide)).tr hFZ20 (by decide)), hIZ20⟩
      · skip
        unfold g_Judging_push_61
        unfold g_Judging_push_66
        refine ok.ck (show 0 ≤ (X.1 61 3).toInt ∧ (X.1 61 3).toInt < ((40 : Nat) : Int) from by omega) ?_
        refine ok.wI (L := [12400]) hIZ13 (show True from trivial) (show (12400 : Nat) ∈ [12400] from by decide) (by decide) (fun Z21 hIZ21 hFZ21 hkZ21 hoZ21 => ?_)
        exact ok.ret ⟨(((Fr.rf.tr hFZ12 (by decide)).tr hFZ13 (by decide)).tr hFZ21 (by decide)), hIZ21⟩
    · skip
      unfold g_Judging_push_61
      unfold g_Judging_push_66
      refine ok.ck (show 0 ≤ (X.1 61 3).toInt ∧ (X.1 61 3).toInt < ((40 : Nat) : Int) from by omega) ?_
      refine ok.wI (L := [12400]) hIZ13 (show True from trivial) (show (12400 : Nat) ∈ [12400] from by decide) (by decide) (fun Z22 hIZ22 hFZ22 hkZ22 hoZ22 => ?_)
      exact ok.ret ⟨(((Fr.rf.tr hFZ12 (by decide)).tr hFZ13 (by decide)).tr hFZ22 (by decide)), hIZ22⟩
set_option maxHeartbeats 4000000 in
theorem v_Judging_pop {X : St} (hI : INV X) : ok (g_Judging_pop X) (fun r Y => (Fr YC [12214] X Y ∧ INV Y)) := by
  unfold g_Judging_pop
  refine ok.letE (v1 := (X.1 61 14)) rfl ?_
  have g1 : 0 ≤ (X.1 61 14).toInt ∧ (X.1 61 14).toInt ≤ 3000 := hI.1 61 14
  refine ok.ite (fun c2 => ?_) (fun c2 => ?_)
  · skip
    refine ok.letE (v1 := (X.1 61 14)) rfl ?_
    refine ok.sub (show _ ≤ (X.1 61 14).toInt - (1 : Int) ∧ (X.1 61 14).toInt - (1 : Int) ≤ _ from by omega) (fun x3 hx3 => ?_)
    have hx3 : x3.toInt = (X.1 61 14).toInt - (1 : Int) := hx3
    refine ok.wI (L := [12214]) hI (show 0 ≤ x3.toInt ∧ x3.toInt ≤ 3000 from by omega) (show (12214 : Nat) ∈ [12214] from by decide) (by decide) (fun Z3 hIZ3 hFZ3 hkZ3 hoZ3 => ?_)
    refine ok.letE (v1 := x3) hkZ3 ?_
    refine ok.ck (show 0 ≤ x3.toInt ∧ x3.toInt < ((3000 : Nat) : Int) from by omega) ?_
    refine ok.letE (v1 := (X.1 67 (ix x3))) (hFZ3.1 67 (ix x3) (show (13400 : Nat) ∉ [12214] from by decide)) ?_
    exact ok.ret ⟨(Fr.rf.tr hFZ3 (fun _ q => q)), hIZ3⟩
  · skip
    exact ok.ret ⟨(Fr.rf : Fr YC [12214] _ _), hI⟩
set_option maxHeartbeats 4000000 in
theorem v_Judging_bind {p1 : Int32} {X : St} (hI : INV X) : ok (g_Judging_bind p1 X) (fun r Y => (Fr YC [12214, 13200] X Y ∧ INV Y)) := by
  unfold g_Judging_bind
  refine ok.bd (v_Judging_pop hI) ?_
  rintro x1 Z2 ⟨hFZ2, hIZ2⟩
  refine ok.ite (fun c3 => ?_) (fun c3 => ?_)
  · skip
    have g4 := i32_le p1
    exact ok.ret ⟨(Fr.rf.tr hFZ2 (by decide)), hIZ2⟩
  · skip
    have g5 := i32_le p1
    refine ok.ite (fun c6 => ?_) (fun c6 => ?_)
    · skip
      exact ok.ret ⟨(Fr.rf.tr hFZ2 (by decide)), hIZ2⟩
    · skip
      refine ok.ck (show 0 ≤ p1.toInt ∧ p1.toInt < ((44 : Nat) : Int) from by omega) ?_
      refine ok.wI (L := [13200]) hIZ2 (show True from trivial) (show (13200 : Nat) ∈ [13200] from by decide) (by decide) (fun Z7 hIZ7 hFZ7 hkZ7 hoZ7 => ?_)
      exact ok.ret ⟨((Fr.rf.tr hFZ2 (by decide)).tr hFZ7 (by decide)), hIZ7⟩
theorem n12202_Qv2 : (12202 : Nat) ∉ Qv2 := by decide
theorem sQv2_Qv4 : ∀ k ∈ Qv2, k ∈ Qv4 := by decide
theorem sQv0_Qv4 : ∀ k ∈ Qv0, k ∈ Qv4 := by decide
set_option maxHeartbeats 4000000 in
theorem v_Judging_judgePlain_J2 {p1 : Int32} {p2 : Int32} {X : St} (hI : INV X) (hr61_0 : X.2.2 61 0 = 56) (hr61_1 : X.2.2 61 1 = 3) (hr61_2 : X.2.2 61 2 = 4) (h0 : 0 ≤ p1.toInt ∧ p1.toInt ≤ 10) (h1 : p1.toInt = 10 → 0 ≤ p2.toInt ∧ p2.toInt ≤ 20000) : ok (g_Judging_judgePlain p1 p2 X) (fun r Y => (Fr YC Qv4 X Y ∧ INV Y)) := by
  unfold g_Judging_judgePlain
  refine ok.ite (fun c1 => ?_) (fun c1 => ?_)
  · skip
    exact ok.ret ⟨(Fr.rf : Fr YC Qv4 _ _), hI⟩
  · skip
    refine ok.ite (fun c2 => ?_) (fun c2 => ?_)
    · skip
      refine ok.bd (v_Judging_push_J2 hI hr61_2) ?_
      rintro r_3 Z5 ⟨hFZ5, hIZ5⟩
      exact ok.ret ⟨(Fr.rf.tr hFZ5 (by decide)), hIZ5⟩
    · skip
      refine ok.ite (fun c6 => ?_) (fun c6 => ?_)
      · skip
        refine ok.bd (v_Judging_push_J2 hI hr61_2) ?_
        rintro r_7 Z9 ⟨hFZ9, hIZ9⟩
        exact ok.ret ⟨(Fr.rf.tr hFZ9 (by decide)), hIZ9⟩
      · skip
        refine ok.ite (fun c10 => ?_) (fun c10 => ?_)
        · skip
          refine ok.ite (fun c11 => ?_) (fun c11 => ?_)
          · skip
            have g12 := i32_le p2
            unfold g_Judging_judgePlain_95
            unfold g_Judging_judgePlain_96
            refine ok.bd (v_Judging_push_J2 hI hr61_2) ?_
            rintro r_13 Z15 ⟨hFZ15, hIZ15⟩
            exact ok.ret ⟨(Fr.rf.tr hFZ15 (by decide)), hIZ15⟩
          · skip
            have g16 := i32_le p2
            refine ok.ite (fun c17 => ?_) (fun c17 => ?_)
            · skip
              unfold g_Judging_judgePlain_95
              unfold g_Judging_judgePlain_96
              refine ok.bd (v_Judging_push_J2 hI hr61_2) ?_
              rintro r_18 Z20 ⟨hFZ20, hIZ20⟩
              exact ok.ret ⟨(Fr.rf.tr hFZ20 (by decide)), hIZ20⟩
            · skip
              refine ok.ck (show 0 ≤ p2.toInt ∧ p2.toInt < ((44 : Nat) : Int) from by omega) ?_
              refine ok.letE (v1 := (X.1 66 (ix p2))) rfl ?_
              unfold g_Judging_judgePlain_96
              refine ok.bd (v_Judging_push_J2 hI hr61_2) ?_
              rintro r_21 Z23 ⟨hFZ23, hIZ23⟩
              exact ok.ret ⟨(Fr.rf.tr hFZ23 (by decide)), hIZ23⟩
        · skip
          refine ok.ite (fun c24 => ?_) (fun c24 => ?_)
          · skip
            refine ok.ite (fun c25 => ?_) (fun c25 => ?_)
            · skip
              have g26 := i32_le p2
              unfold g_Judging_judgePlain_122
              unfold g_Judging_judgePlain_123
              refine ok.bd (v_Judging_push_J2 hI hr61_2) ?_
              rintro r_27 Z29 ⟨hFZ29, hIZ29⟩
              exact ok.ret ⟨(Fr.rf.tr hFZ29 (by decide)), hIZ29⟩
            · skip
              have g30 := i32_le p2
              refine ok.ite (fun c31 => ?_) (fun c31 => ?_)
              · skip
                unfold g_Judging_judgePlain_122
                unfold g_Judging_judgePlain_123
                refine ok.bd (v_Judging_push_J2 hI hr61_2) ?_
                rintro r_32 Z34 ⟨hFZ34, hIZ34⟩
                exact ok.ret ⟨(Fr.rf.tr hFZ34 (by decide)), hIZ34⟩
              · skip
                refine ok.ck (show 0 ≤ p2.toInt ∧ p2.toInt < ((40 : Nat) : Int) from by omega) ?_
                refine ok.letE (v1 := (X.1 65 (ix p2))) rfl ?_
                unfold g_Judging_judgePlain_123
                refine ok.bd (v_Judging_push_J2 hI hr61_2) ?_
                rintro r_35 Z37 ⟨hFZ37, hIZ37⟩
                exact ok.ret ⟨(Fr.rf.tr hFZ37 (by decide)), hIZ37⟩
          · skip
            refine ok.ite (fun c38 => ?_) (fun c38 => ?_)
            · skip
              refine ok.bd (v_Judging_bind hI) ?_
              rintro r_39 Z41 ⟨hFZ41, hIZ41⟩
              exact ok.ret ⟨(Fr.rf.tr hFZ41 (by decide)), hIZ41⟩
            · skip
              refine ok.ite (fun c42 => ?_) (fun c42 => ?_)
              · skip
                refine ok.bd (v_Judging_pop hI) ?_
                rintro x15 Z44 ⟨hFZ44, hIZ44⟩
                exact ok.ret ⟨(Fr.rf.tr hFZ44 (by decide)), hIZ44⟩
              · skip
                refine ok.ite (fun c45 => ?_) (fun c45 => ?_)
                · skip
                  exact ok.ret ⟨(Fr.rf : Fr YC Qv4 _ _), hI⟩
                · skip
                  refine ok.ite (fun c46 => ?_) (fun c46 => ?_)
                  · skip
                    refine ok.bd (v_Judging_mix_J2 hI hr61_0 hr61_1 (show 0 ≤ (2 : Int) ∧ (2 : Int) ≤ 20001 from by omega)) ?_
                    rintro x19 Z48 ⟨hFZ48, hIZ48⟩
                    refine ok.bd (v_Judging_push_J2 hIZ48 ((hFZ48.2.2 61 2 n12202_Qv2).trans hr61_2)) ?_
                    rintro r_49 Z51 ⟨hFZ51, hIZ51⟩
                    exact ok.ret ⟨((Fr.rf.tr hFZ48 sQv2_Qv4).tr hFZ51 (by decide)), hIZ51⟩
                  · skip
                    refine ok.ite (fun c52 => ?_) (fun c52 => ?_)
                    · skip
                      refine ok.bd (v_Judging_pop hI) ?_
                      rintro x23 Z54 ⟨hFZ54, hIZ54⟩
                      exact ok.ret ⟨(Fr.rf.tr hFZ54 (by decide)), hIZ54⟩
                    · skip
                      refine ok.ck (by rw [hr61_2]; decide) ?_
                      refine ok.letE (v1 := 3) (by rw [hr61_2]) ?_
                      refine ok.bd (v_Judging_mix_J2 hI hr61_0 hr61_1 (show 0 ≤ p2.toInt ∧ p2.toInt ≤ 20001 from by omega)) ?_
                      rintro x26 Z56 ⟨hFZ56, hIZ56⟩
                      refine ok.bd (v_Kinds_rowOf_3 hIZ56) ?_
                      rintro x28 Z58 ⟨hFZ58, hIZ58⟩
                      refine ok.bd (v_Judging_push_J2 hIZ58 (((hFZ58.2.2 61 2 n12202_Qv0).trans (hFZ56.2.2 61 2 n12202_Qv2)).trans hr61_2)) ?_
                      rintro r_59 Z61 ⟨hFZ61, hIZ61⟩
                      exact ok.ret ⟨(((Fr.rf.tr hFZ56 sQv2_Qv4).tr hFZ58 sQv0_Qv4).tr hFZ61 (by decide)), hIZ61⟩
def Qv5 : List Nat := [600, 800, 1000, 1200, 1400, 1600, 1800, 2000, 12214, 12400, 13400]
set_option maxHeartbeats 4000000 in
theorem v_Judging_below {p1 : Int32} {X : St} (hI : INV X) (h0 : 0 ≤ p1.toInt ∧ p1.toInt ≤ 20001) : ok (g_Judging_below p1 X) (fun r Y => (X = Y)) := by
  unfold g_Judging_below
  refine ok.letE (v1 := (X.1 61 14)) rfl ?_
  have g1 : 0 ≤ (X.1 61 14).toInt ∧ (X.1 61 14).toInt ≤ 3000 := hI.1 61 14
  refine ok.sub (show _ ≤ (X.1 61 14).toInt - (1 : Int) ∧ (X.1 61 14).toInt - (1 : Int) ≤ _ from by omega) (fun x2 hx2 => ?_)
  have hx2 : x2.toInt = (X.1 61 14).toInt - (1 : Int) := hx2
  refine ok.sub (show _ ≤ x2.toInt - p1.toInt ∧ x2.toInt - p1.toInt ≤ _ from by omega) (fun x3 hx3 => ?_)
  have hx3 : x3.toInt = x2.toInt - p1.toInt := hx3
  refine ok.ite (fun c2 => ?_) (fun c2 => ?_)
  · skip
    exact ok.ret rfl
  · skip
    refine ok.ck (show 0 ≤ x3.toInt ∧ x3.toInt < ((3000 : Nat) : Int) from by omega) ?_
    refine ok.letE (v1 := (X.1 67 (ix x3))) rfl ?_
    exact ok.ret rfl
set_option maxHeartbeats 4000000 in
theorem v_Judging_replace_J2 {p1 : Int32} {p2 : Int32} {X : St} (hI : INV X) (hr61_2 : X.2.2 61 2 = 4) (h0 : 0 ≤ p1.toInt ∧ p1.toInt ≤ 20001) : ok (g_Judging_replace p1 p2 X) (fun r Y => (Fr YC [12214, 12400, 13400] X Y ∧ INV Y)) := by
  unfold g_Judging_replace
  refine ok.letE (v1 := (X.1 61 14)) rfl ?_
  have g1 : 0 ≤ (X.1 61 14).toInt ∧ (X.1 61 14).toInt ≤ 3000 := hI.1 61 14
  refine ok.sub (show _ ≤ (X.1 61 14).toInt - p1.toInt ∧ (X.1 61 14).toInt - p1.toInt ≤ _ from by omega) (fun x2 hx2 => ?_)
  have hx2 : x2.toInt = (X.1 61 14).toInt - p1.toInt := hx2
  refine ok.eqv (fun x3 hx3 => ?_)
  have hx3 : ((0 : Int) < x2.toInt ∧ x3.toInt = x2.toInt) ∨ (¬ ((0 : Int) < x2.toInt) ∧ x3.toInt = (0 : Int)) := by
    rw [hx3]
    by_cases gc : (0 : Int32) < x2
    · rw [if_pos gc]; exact Or.inl ⟨(Int32.lt_iff_toInt_lt.mp gc), rfl⟩
    · rw [if_neg gc]; exact Or.inr ⟨(fun z => gc (Int32.lt_iff_toInt_lt.mpr z)), rfl⟩
  refine ok.wI (L := [12214]) hI (show 0 ≤ x3.toInt ∧ x3.toInt ≤ 3000 from by omega) (show (12214 : Nat) ∈ [12214] from by decide) (by decide) (fun Z2 hIZ2 hFZ2 hkZ2 hoZ2 => ?_)
  refine ok.bd (v_Judging_push_J2 hIZ2 ((hFZ2.2.2 61 2 (show (12202 : Nat) ∉ [12214] from by decide)).trans hr61_2)) ?_
  rintro r_3 Z5 ⟨hFZ5, hIZ5⟩
  exact ok.ret ⟨((Fr.rf.tr hFZ2 (by decide)).tr hFZ5 (fun _ q => q)), hIZ5⟩
theorem sQv0_Qv5 : ∀ k ∈ Qv0, k ∈ Qv5 := by decide
set_option maxHeartbeats 4000000 in
theorem v_Judging_judgeWork_J2 {p1 : Int32} {p2 : Int32} {X : St} (hI : INV X) (hr61_2 : X.2.2 61 2 = 4) (h0 : 11 ≤ p1.toInt ∧ p1.toInt ≤ 26) (h1 : p1.toInt = 16 → 0 ≤ p2.toInt ∧ p2.toInt ≤ 20000) : ok (g_Judging_judgeWork p1 p2 X) (fun r Y => (Fr YC Qv5 X Y ∧ INV Y)) := by
  unfold g_Judging_judgeWork
  refine ok.ite (fun c1 => ?_) (fun c1 => ?_)
  · skip
    refine ok.ck (by rw [hr61_2]; decide) ?_
    refine ok.letE (v1 := 3) (by rw [hr61_2]) ?_
    refine ok.bd (v_Judging_below hI (show 0 ≤ (0 : Int) ∧ (0 : Int) ≤ 20001 from by omega)) ?_
    rintro x3 _ rfl
    refine ok.bd (v_Kinds_rowOf_3 hI) ?_
    rintro x5 Z4 ⟨hFZ4, hIZ4⟩
    refine ok.bd (v_Judging_replace_J2 hIZ4 ((hFZ4.2.2 61 2 n12202_Qv0).trans hr61_2) (show 0 ≤ (2 : Int) ∧ (2 : Int) ≤ 20001 from by omega)) ?_
    rintro r_5 Z7 ⟨hFZ7, hIZ7⟩
    exact ok.ret ⟨((Fr.rf.tr hFZ4 sQv0_Qv5).tr hFZ7 (by decide)), hIZ7⟩
  · skip
    refine ok.ite (fun c8 => ?_) (fun c8 => ?_)
    · skip
      refine ok.bd (v_Judging_replace_J2 hI hr61_2 (show 0 ≤ (1 : Int) ∧ (1 : Int) ≤ 20001 from by omega)) ?_
      rintro r_9 Z11 ⟨hFZ11, hIZ11⟩
      exact ok.ret ⟨(Fr.rf.tr hFZ11 (by decide)), hIZ11⟩
    · skip
      refine ok.ite (fun c12 => ?_) (fun c12 => ?_)
      · skip
        refine ok.bd (v_Judging_replace_J2 hI hr61_2 (show 0 ≤ (1 : Int) ∧ (1 : Int) ≤ 20001 from by omega)) ?_
        rintro r_13 Z15 ⟨hFZ15, hIZ15⟩
        exact ok.ret ⟨(Fr.rf.tr hFZ15 (by decide)), hIZ15⟩
      · skip
        refine ok.ite (fun c16 => ?_) (fun c16 => ?_)
        · skip
          refine ok.ck (by rw [hr61_2]; decide) ?_
          refine ok.letE (v1 := 3) (by rw [hr61_2]) ?_
          refine ok.bd (v_Judging_below hI (show 0 ≤ (1 : Int) ∧ (1 : Int) ≤ 20001 from by omega)) ?_
          rintro x14 _ rfl
          refine ok.bd (v_Kinds_givesOf_3 hI) ?_
          rintro x16 _ rfl
          refine ok.bd (v_Judging_replace_J2 hI hr61_2 (show 0 ≤ (2 : Int) ∧ (2 : Int) ≤ 20001 from by omega)) ?_
          rintro r_19 Z21 ⟨hFZ21, hIZ21⟩
          exact ok.ret ⟨(Fr.rf.tr hFZ21 (by decide)), hIZ21⟩
        · skip
          refine ok.ite (fun c22 => ?_) (fun c22 => ?_)
          · skip
            refine ok.ck (by rw [hr61_2]; decide) ?_
            refine ok.letE (v1 := 3) (by rw [hr61_2]) ?_
            refine ok.bd (v_Judging_below hI (show 0 ≤ (2 : Int) ∧ (2 : Int) ≤ 20001 from by omega)) ?_
            rintro x21 _ rfl
            refine ok.bd (v_Kinds_givesOf_3 hI) ?_
            rintro x23 _ rfl
            refine ok.bd (v_Judging_replace_J2 hI hr61_2 (show 0 ≤ (3 : Int) ∧ (3 : Int) ≤ 20001 from by omega)) ?_
            rintro r_25 Z27 ⟨hFZ27, hIZ27⟩
            exact ok.ret ⟨(Fr.rf.tr hFZ27 (by decide)), hIZ27⟩
          · skip
            refine ok.ite (fun c28 => ?_) (fun c28 => ?_)
            · skip
              refine ok.add (show _ ≤ p2.toInt + (1 : Int) ∧ p2.toInt + (1 : Int) ≤ _ from by omega) (fun x27 hx27 => ?_)
              have hx27 : x27.toInt = p2.toInt + (1 : Int) := hx27
              refine ok.ck (by rw [hr61_2]; decide) ?_
              refine ok.letE (v1 := 3) (by rw [hr61_2]) ?_
              refine ok.bd (v_Judging_below hI (show 0 ≤ p2.toInt ∧ p2.toInt ≤ 20001 from by omega)) ?_
              rintro x29 _ rfl
              refine ok.bd (v_Kinds_givesOf_3 hI) ?_
              rintro x31 _ rfl
              refine ok.bd (v_Judging_replace_J2 hI hr61_2 (show 0 ≤ x27.toInt ∧ x27.toInt ≤ 20001 from by omega)) ?_
              rintro r_31 Z33 ⟨hFZ33, hIZ33⟩
              exact ok.ret ⟨(Fr.rf.tr hFZ33 (by decide)), hIZ33⟩
            · skip
              refine ok.ite (fun c34 => ?_) (fun c34 => ?_)
              · skip
                refine ok.bd (v_Judging_pop hI) ?_
                rintro x35 Z36 ⟨hFZ36, hIZ36⟩
                exact ok.ret ⟨(Fr.rf.tr hFZ36 (by decide)), hIZ36⟩
              · skip
                refine ok.ite (fun c37 => ?_) (fun c37 => ?_)
                · skip
                  refine ok.bd (v_Judging_replace_J2 hI hr61_2 (show 0 ≤ (1 : Int) ∧ (1 : Int) ≤ 20001 from by omega)) ?_
                  rintro r_38 Z40 ⟨hFZ40, hIZ40⟩
                  exact ok.ret ⟨(Fr.rf.tr hFZ40 (by decide)), hIZ40⟩
                · skip
                  refine ok.ite (fun c41 => ?_) (fun c41 => ?_)
                  · skip
                    refine ok.bd (v_Judging_replace_J2 hI hr61_2 (show 0 ≤ (1 : Int) ∧ (1 : Int) ≤ 20001 from by omega)) ?_
                    rintro r_42 Z44 ⟨hFZ44, hIZ44⟩
                    exact ok.ret ⟨(Fr.rf.tr hFZ44 (by decide)), hIZ44⟩
                  · skip
                    refine ok.ite (fun c45 => ?_) (fun c45 => ?_)
                    · skip
                      refine ok.bd (v_Judging_replace_J2 hI hr61_2 (show 0 ≤ (2 : Int) ∧ (2 : Int) ≤ 20001 from by omega)) ?_
                      rintro r_46 Z48 ⟨hFZ48, hIZ48⟩
                      exact ok.ret ⟨(Fr.rf.tr hFZ48 (by decide)), hIZ48⟩
                    · skip
                      refine ok.ite (fun c49 => ?_) (fun c49 => ?_)
                      · skip
                        refine ok.bd (v_Judging_replace_J2 hI hr61_2 (show 0 ≤ (2 : Int) ∧ (2 : Int) ≤ 20001 from by omega)) ?_
                        rintro r_50 Z52 ⟨hFZ52, hIZ52⟩
                        exact ok.ret ⟨(Fr.rf.tr hFZ52 (by decide)), hIZ52⟩
                      · skip
                        refine ok.bd (v_Judging_replace_J2 hI hr61_2 (show 0 ≤ (2 : Int) ∧ (2 : Int) ≤ 20001 from by omega)) ?_
                        rintro r_53 Z55 ⟨hFZ55, hIZ55⟩
                        exact ok.ret ⟨(Fr.rf.tr hFZ55 (by decide)), hIZ55⟩
def Qv6 : List Nat := [4400, 11005, 11200, 11400, 11600, 11800, 12000, 12204, 12205, 13400, 13800]
def Qv7 : List Nat := [4400, 11005, 11200, 11400, 11600, 11800, 12000, 12204, 12205, 13400]
set_option maxHeartbeats 4000000 in
theorem v_Judging_setTop {p1 : Int32} {X : St} (hI : INV X) : ok (g_Judging_setTop p1 X) (fun r Y => (Fr YC [13400] X Y ∧ INV Y)) := by
  unfold g_Judging_setTop
  refine ok.letE (v1 := (X.1 61 14)) rfl ?_
  have g1 : 0 ≤ (X.1 61 14).toInt ∧ (X.1 61 14).toInt ≤ 3000 := hI.1 61 14
  refine ok.sub (show _ ≤ (X.1 61 14).toInt - (1 : Int) ∧ (X.1 61 14).toInt - (1 : Int) ≤ _ from by omega) (fun x2 hx2 => ?_)
  have hx2 : x2.toInt = (X.1 61 14).toInt - (1 : Int) := hx2
  refine ok.eqv (fun x3 hx3 => ?_)
  have hx3 : ((0 : Int) < x2.toInt ∧ x3.toInt = x2.toInt) ∨ (¬ ((0 : Int) < x2.toInt) ∧ x3.toInt = (0 : Int)) := by
    rw [hx3]
    by_cases gc : (0 : Int32) < x2
    · rw [if_pos gc]; exact Or.inl ⟨(Int32.lt_iff_toInt_lt.mp gc), rfl⟩
    · rw [if_neg gc]; exact Or.inr ⟨(fun z => gc (Int32.lt_iff_toInt_lt.mpr z)), rfl⟩
  refine ok.ck (show 0 ≤ x3.toInt ∧ x3.toInt < ((3000 : Nat) : Int) from by omega) ?_
  refine ok.wI (L := [13400]) hI (show True from trivial) (show (13400 : Nat) ∈ [13400] from by decide) (by decide) (fun Z2 hIZ2 hFZ2 hkZ2 hoZ2 => ?_)
  exact ok.ret ⟨(Fr.rf.tr hFZ2 (fun _ q => q)), hIZ2⟩
theorem sQv3_Qv7 : ∀ k ∈ Qv3, k ∈ Qv7 := by decide
set_option maxHeartbeats 4000000 in
theorem v_Judging_refuse_J2 {p1 : Int32} {p2 : Int32} {X : St} (hI : INV X) (hr61_1 : X.2.2 61 1 = 3) (h0 : 0 ≤ p2.toInt ∧ p2.toInt ≤ 9079) : ok (g_Judging_refuse p1 p2 X) (fun r Y => (Fr YC [12204, 12205] X Y ∧ INV Y)) := by
  unfold g_Judging_refuse
  refine ok.wI (L := [12204]) hI (show True from trivial) (show (12204 : Nat) ∈ [12204] from by decide) (by decide) (fun Z1 hIZ1 hFZ1 hkZ1 hoZ1 => ?_)
  refine ok.ck (by rw [((hFZ1.2.2 61 1 (show (12201 : Nat) ∉ [12204] from by decide)).trans hr61_1)]; decide) ?_
  refine ok.letE (v1 := 2) (by rw [((hFZ1.2.2 61 1 (show (12201 : Nat) ∉ [12204] from by decide)).trans hr61_1)]) ?_
  refine ok.letE (v1 := 23) (by decide) ?_
  refine ok.ck (show 0 ≤ p2.toInt ∧ p2.toInt < ((9080 : Nat) : Int) from by omega) ?_
  refine ok.letE (v1 := (X.1 23 (ix p2))) (hFZ1.1 23 (ix p2) (show (4600 : Nat) ∉ [12204] from by decide)) ?_
  have g2 : 0 ≤ (X.1 23 (ix p2)).toInt ∧ (X.1 23 (ix p2)).toInt ≤ 3000 := hI.1 23 (ix p2)
  refine ok.wI (L := [12205]) hIZ1 (show True from trivial) (show (12205 : Nat) ∈ [12205] from by decide) (by decide) (fun Z3 hIZ3 hFZ3 hkZ3 hoZ3 => ?_)
  exact ok.ret ⟨((Fr.rf.tr hFZ1 (by decide)).tr hFZ3 (by decide)), hIZ3⟩
set_option maxHeartbeats 4000000 in
theorem v_Judging_meetForm_J2 {p1 : Int32} {p2 : Int32} {p3 : Int32} {X : St} (hI : INV X) (hr61_0 : X.2.2 61 0 = 56) (hr61_1 : X.2.2 61 1 = 3) (hr61_2 : X.2.2 61 2 = 4) (h0 : 0 ≤ p1.toInt ∧ p1.toInt ≤ 9079) : ok (g_Judging_meetForm p1 p2 p3 X) (fun r Y => (Fr YC Qv7 X Y ∧ INV Y)) := by
  unfold g_Judging_meetForm
  refine ok.bd (v_Judging_below hI (show 0 ≤ (0 : Int) ∧ (0 : Int) ≤ 20001 from by omega)) ?_
  rintro x1 _ rfl
  refine ok.ite (fun c2 => ?_) (fun c2 => ?_)
  · skip
    have g3 := i32_le x1
    refine ok.letE (v1 := (X.1 61 3)) rfl ?_
    have g4 : 0 ≤ (X.1 61 3).toInt ∧ (X.1 61 3).toInt ≤ 39 := hI.1 61 3
    refine ok.bd (v_Judging_layGuard_J2 hI hr61_0 hr61_1 (show 0 ≤ p1.toInt ∧ p1.toInt ≤ 9079 from by omega)) ?_
    rintro r_5 Z7 ⟨hFZ7, hIZ7⟩
    refine ok.bd (v_Judging_setTop hIZ7) ?_
    rintro r_8 Z10 ⟨hFZ10, hIZ10⟩
    exact ok.ret ⟨((Fr.rf.tr hFZ7 sQv3_Qv7).tr hFZ10 (by decide)), hIZ10⟩
  · skip
    refine ok.ck (by rw [hr61_2]; decide) ?_
    refine ok.letE (v1 := 3) (by rw [hr61_2]) ?_
    refine ok.bd (v_Kinds_sortOf_3 hI) ?_
    rintro x4 _ rfl
    refine ok.ite (fun c12 => ?_) (fun c12 => ?_)
    · skip
      exact ok.ret ⟨(Fr.rf : Fr YC Qv7 _ _), hI⟩
    · skip
      refine ok.bd (v_Judging_refuse_J2 hI hr61_1 (show 0 ≤ p1.toInt ∧ p1.toInt ≤ 9079 from by omega)) ?_
      rintro r_13 Z15 ⟨hFZ15, hIZ15⟩
      exact ok.ret ⟨(Fr.rf.tr hFZ15 (by decide)), hIZ15⟩
theorem n12202_Qv7 : (12202 : Nat) ∉ Qv7 := by decide
theorem n12201_Qv7 : (12201 : Nat) ∉ Qv7 := by decide
theorem n4000_Qv7 : (4000 : Nat) ∉ Qv7 := by decide
theorem n12214_Qv7 : (12214 : Nat) ∉ Qv7 := by decide
theorem n12203_Qv7 : (12203 : Nat) ∉ Qv7 := by decide
theorem sQv7_Qv6 : ∀ k ∈ Qv7, k ∈ Qv6 := by decide
theorem n4200_Qv7 : (4200 : Nat) ∉ Qv7 := by decide
set_option maxHeartbeats 4000000 in
theorem v_Judging_meetCalled_J2 {p1 : Int32} {p2 : Int32} {X : St} (hI : INV X) (hr61_0 : X.2.2 61 0 = 56) (hr61_1 : X.2.2 61 1 = 3) (hr61_2 : X.2.2 61 2 = 4) (h0 : 0 ≤ p1.toInt ∧ p1.toInt ≤ 9079) : ok (g_Judging_meetCalled p1 p2 X) (fun r Y => (Fr YC Qv6 X Y ∧ INV Y)) := by
  unfold g_Judging_meetCalled
  refine ok.any (fun x1 => ?_)
  refine ok.bd (v_Judging_meetForm_J2 hI hr61_0 hr61_1 hr61_2 (show 0 ≤ p1.toInt ∧ p1.toInt ≤ 9079 from by omega)) ?_
  rintro r_1 Z3 ⟨hFZ3, hIZ3⟩
  refine ok.letE (v1 := (Z3.1 61 4)) rfl ?_
  refine ok.ite (fun c4 => ?_) (fun c4 => ?_)
  · skip
    have g5 := i32_le (Z3.1 61 4)
    refine ok.ck (by rw [((hFZ3.2.2 61 2 n12202_Qv7).trans hr61_2)]; decide) ?_
    refine ok.letE (v1 := 3) (by rw [((hFZ3.2.2 61 2 n12202_Qv7).trans hr61_2)]) ?_
    refine ok.bd (v_Judging_below hIZ3 (show 0 ≤ (0 : Int) ∧ (0 : Int) ≤ 20001 from by omega)) ?_
    rintro x17 _ rfl
    refine ok.bd (v_Kinds_takenBy_3 hIZ3) ?_
    rintro x19 _ ⟨rfl, hp7⟩
    have hp7 : 0 ≤ x19.toInt ∧ x19.toInt ≤ 4 := hp7
    refine ok.ite (fun c8 => ?_) (fun c8 => ?_)
    · skip
      have g9 := i32_le p2
      unfold g_Judging_meetCalled_39
      refine ok.ck (by rw [((hFZ3.2.2 61 1 n12201_Qv7).trans hr61_1)]; decide) ?_
      refine ok.letE (v1 := 2) (by rw [((hFZ3.2.2 61 1 n12201_Qv7).trans hr61_1)]) ?_
      refine ok.letE (v1 := 20) (by decide) ?_
      refine ok.ck (show 0 ≤ p1.toInt ∧ p1.toInt < ((9080 : Nat) : Int) from by omega) ?_
      refine ok.letE (v1 := (X.1 20 (ix p1))) (hFZ3.1 20 (ix p1) n4000_Qv7) ?_
      have g10 : 0 ≤ (X.1 20 (ix p1)).toInt ∧ (X.1 20 (ix p1)).toInt ≤ 36 := hI.1 20 (ix p1)
      refine ok.ite (fun c11 => ?_) (fun c11 => ?_)
      · skip
        refine ok.ite (fun c12 => ?_) (fun c12 => ?_)
        · skip
          unfold g_Judging_meetCalled_61
          unfold g_Judging_meetCalled_62
          refine ok.letE (v1 := (X.1 61 14)) (hFZ3.1 61 14 n12214_Qv7) ?_
          have g13 : 0 ≤ (X.1 61 14).toInt ∧ (X.1 61 14).toInt ≤ 3000 := hI.1 61 14
          refine ok.sub (show _ ≤ (X.1 61 14).toInt - (1 : Int) ∧ (X.1 61 14).toInt - (1 : Int) ≤ _ from by omega) (fun x8 hx8 => ?_)
          have hx8 : x8.toInt = (X.1 61 14).toInt - (1 : Int) := hx8
          refine ok.eqv (fun x9 hx9 => ?_)
          have hx9 : ((0 : Int) < x8.toInt ∧ x9.toInt = x8.toInt) ∨ (¬ ((0 : Int) < x8.toInt) ∧ x9.toInt = (0 : Int)) := by
            rw [hx9]
            by_cases gc : (0 : Int32) < x8
            · rw [if_pos gc]; exact Or.inl ⟨(Int32.lt_iff_toInt_lt.mp gc), rfl⟩
            · rw [if_neg gc]; exact Or.inr ⟨(fun z => gc (Int32.lt_iff_toInt_lt.mpr z)), rfl⟩
          have l15 : ((0) : Int32).toInt = (0) := by decide
          refine ok.ite (fun c14 => ?_) (fun c14 => absurd (show (0 : Int32).toInt = 0 from by omega) c14)
          refine ok.letE (v1 := (X.1 61 3)) (hFZ3.1 61 3 n12203_Qv7) ?_
          have g16 : 0 ≤ (X.1 61 3).toInt ∧ (X.1 61 3).toInt ≤ 39 := hI.1 61 3
          unfold g_Judging_meetCalled_99
          refine ok.ck (show 0 ≤ x9.toInt ∧ x9.toInt < ((3000 : Nat) : Int) from by omega) ?_
          refine ok.wI (L := [13800]) hIZ3 (show True from trivial) (show (13800 : Nat) ∈ [13800] from by decide) (by decide) (fun Z17 hIZ17 hFZ17 hkZ17 hoZ17 => ?_)
          exact ok.ret ⟨((Fr.rf.tr hFZ3 sQv7_Qv6).tr hFZ17 (by decide)), hIZ17⟩
        · skip
          unfold g_Judging_meetCalled_62
          refine ok.letE (v1 := (X.1 61 14)) (hFZ3.1 61 14 n12214_Qv7) ?_
          have g18 : 0 ≤ (X.1 61 14).toInt ∧ (X.1 61 14).toInt ≤ 3000 := hI.1 61 14
          refine ok.sub (show _ ≤ (X.1 61 14).toInt - (1 : Int) ∧ (X.1 61 14).toInt - (1 : Int) ≤ _ from by omega) (fun x8 hx8 => ?_)
          have hx8 : x8.toInt = (X.1 61 14).toInt - (1 : Int) := hx8
          refine ok.eqv (fun x9 hx9 => ?_)
          have hx9 : ((0 : Int) < x8.toInt ∧ x9.toInt = x8.toInt) ∨ (¬ ((0 : Int) < x8.toInt) ∧ x9.toInt = (0 : Int)) := by
            rw [hx9]
            by_cases gc : (0 : Int32) < x8
            · rw [if_pos gc]; exact Or.inl ⟨(Int32.lt_iff_toInt_lt.mp gc), rfl⟩
            · rw [if_neg gc]; exact Or.inr ⟨(fun z => gc (Int32.lt_iff_toInt_lt.mpr z)), rfl⟩
          have l20 : ((1) : Int32).toInt = (1) := by decide
          refine ok.ite (fun c19 => absurd c19 (show ¬ ((1 : Int32).toInt = 0) from by omega)) (fun c19 => ?_)
          refine ok.ck (by rw [((hFZ3.2.2 61 1 n12201_Qv7).trans hr61_1)]; decide) ?_
          refine ok.letE (v1 := 2) (by rw [((hFZ3.2.2 61 1 n12201_Qv7).trans hr61_1)]) ?_
          refine ok.letE (v1 := 21) (by decide) ?_
          refine ok.sub (show _ ≤ p1.toInt - (1 : Int) ∧ p1.toInt - (1 : Int) ≤ _ from by omega) (fun x14 hx14 => ?_)
          have hx14 : x14.toInt = p1.toInt - (1 : Int) := hx14
          refine ok.ck (show 0 ≤ x14.toInt ∧ x14.toInt < ((9080 : Nat) : Int) from by omega) ?_
          refine ok.letE (v1 := (X.1 21 (ix x14))) (hFZ3.1 21 (ix x14) n4200_Qv7) ?_
          unfold g_Judging_meetCalled_99
          refine ok.ck (show 0 ≤ x9.toInt ∧ x9.toInt < ((3000 : Nat) : Int) from by omega) ?_
          refine ok.wI (L := [13800]) hIZ3 (show True from trivial) (show (13800 : Nat) ∈ [13800] from by decide) (by decide) (fun Z21 hIZ21 hFZ21 hkZ21 hoZ21 => ?_)
          exact ok.ret ⟨((Fr.rf.tr hFZ3 sQv7_Qv6).tr hFZ21 (by decide)), hIZ21⟩
      · skip
        unfold g_Judging_meetCalled_61
        unfold g_Judging_meetCalled_62
        refine ok.letE (v1 := (X.1 61 14)) (hFZ3.1 61 14 n12214_Qv7) ?_
        have g22 : 0 ≤ (X.1 61 14).toInt ∧ (X.1 61 14).toInt ≤ 3000 := hI.1 61 14
        refine ok.sub (show _ ≤ (X.1 61 14).toInt - (1 : Int) ∧ (X.1 61 14).toInt - (1 : Int) ≤ _ from by omega) (fun x8 hx8 => ?_)
        have hx8 : x8.toInt = (X.1 61 14).toInt - (1 : Int) := hx8
        refine ok.eqv (fun x9 hx9 => ?_)
        have hx9 : ((0 : Int) < x8.toInt ∧ x9.toInt = x8.toInt) ∨ (¬ ((0 : Int) < x8.toInt) ∧ x9.toInt = (0 : Int)) := by
          rw [hx9]
          by_cases gc : (0 : Int32) < x8
          · rw [if_pos gc]; exact Or.inl ⟨(Int32.lt_iff_toInt_lt.mp gc), rfl⟩
          · rw [if_neg gc]; exact Or.inr ⟨(fun z => gc (Int32.lt_iff_toInt_lt.mpr z)), rfl⟩
        have l24 : ((0) : Int32).toInt = (0) := by decide
        refine ok.ite (fun c23 => ?_) (fun c23 => absurd (show (0 : Int32).toInt = 0 from by omega) c23)
        refine ok.letE (v1 := (X.1 61 3)) (hFZ3.1 61 3 n12203_Qv7) ?_
        have g25 : 0 ≤ (X.1 61 3).toInt ∧ (X.1 61 3).toInt ≤ 39 := hI.1 61 3
        unfold g_Judging_meetCalled_99
        refine ok.ck (show 0 ≤ x9.toInt ∧ x9.toInt < ((3000 : Nat) : Int) from by omega) ?_
        refine ok.wI (L := [13800]) hIZ3 (show True from trivial) (show (13800 : Nat) ∈ [13800] from by decide) (by decide) (fun Z26 hIZ26 hFZ26 hkZ26 hoZ26 => ?_)
        exact ok.ret ⟨((Fr.rf.tr hFZ3 sQv7_Qv6).tr hFZ26 (by decide)), hIZ26⟩
    · skip
      refine ok.bd (v_Judging_refuse_J2 hIZ3 ((hFZ3.2.2 61 1 n12201_Qv7).trans hr61_1) (show 0 ≤ p1.toInt ∧ p1.toInt ≤ 9079 from by omega)) ?_
      rintro r_27 Z29 ⟨hFZ29, hIZ29⟩
      unfold g_Judging_meetCalled_39
      refine ok.ck (by rw [(((hFZ29.2.2 61 1 (show (12201 : Nat) ∉ [12204, 12205] from by decide)).trans (hFZ3.2.2 61 1 n12201_Qv7)).trans hr61_1)]; decide) ?_
      refine ok.letE (v1 := 2) (by rw [(((hFZ29.2.2 61 1 (show (12201 : Nat) ∉ [12204, 12205] from by decide)).trans (hFZ3.2.2 61 1 n12201_Qv7)).trans hr61_1)]) ?_
      refine ok.letE (v1 := 20) (by decide) ?_
      refine ok.ck (show 0 ≤ p1.toInt ∧ p1.toInt < ((9080 : Nat) : Int) from by omega) ?_
      refine ok.letE (v1 := (X.1 20 (ix p1))) ((hFZ29.1 20 (ix p1) (show (4000 : Nat) ∉ [12204, 12205] from by decide)).trans (hFZ3.1 20 (ix p1) n4000_Qv7)) ?_
      have g30 : 0 ≤ (X.1 20 (ix p1)).toInt ∧ (X.1 20 (ix p1)).toInt ≤ 36 := hI.1 20 (ix p1)
      refine ok.ite (fun c31 => ?_) (fun c31 => ?_)
      · skip
        refine ok.ite (fun c32 => ?_) (fun c32 => ?_)
        · skip
          unfold g_Judging_meetCalled_61
          unfold g_Judging_meetCalled_62
          refine ok.letE (v1 := (X.1 61 14)) ((hFZ29.1 61 14 (show (12214 : Nat) ∉ [12204, 12205] from by decide)).trans (hFZ3.1 61 14 n12214_Qv7)) ?_
          have g33 : 0 ≤ (X.1 61 14).toInt ∧ (X.1 61 14).toInt ≤ 3000 := hI.1 61 14
          refine ok.sub (show _ ≤ (X.1 61 14).toInt - (1 : Int) ∧ (X.1 61 14).toInt - (1 : Int) ≤ _ from by omega) (fun x8 hx8 => ?_)
          have hx8 : x8.toInt = (X.1 61 14).toInt - (1 : Int) := hx8
          refine ok.eqv (fun x9 hx9 => ?_)
          have hx9 : ((0 : Int) < x8.toInt ∧ x9.toInt = x8.toInt) ∨ (¬ ((0 : Int) < x8.toInt) ∧ x9.toInt = (0 : Int)) := by
            rw [hx9]
            by_cases gc : (0 : Int32) < x8
            · rw [if_pos gc]; exact Or.inl ⟨(Int32.lt_iff_toInt_lt.mp gc), rfl⟩
            · rw [if_neg gc]; exact Or.inr ⟨(fun z => gc (Int32.lt_iff_toInt_lt.mpr z)), rfl⟩
          have l35 : ((0) : Int32).toInt = (0) := by decide
          refine ok.ite (fun c34 => ?_) (fun c34 => absurd (show (0 : Int32).toInt = 0 from by omega) c34)
          refine ok.letE (v1 := (X.1 61 3)) ((hFZ29.1 61 3 (show (12203 : Nat) ∉ [12204, 12205] from by decide)).trans (hFZ3.1 61 3 n12203_Qv7)) ?_
          have g36 : 0 ≤ (X.1 61 3).toInt ∧ (X.1 61 3).toInt ≤ 39 := hI.1 61 3
          unfold g_Judging_meetCalled_99
          refine ok.ck (show 0 ≤ x9.toInt ∧ x9.toInt < ((3000 : Nat) : Int) from by omega) ?_
          refine ok.wI (L := [13800]) hIZ29 (show True from trivial) (show (13800 : Nat) ∈ [13800] from by decide) (by decide) (fun Z37 hIZ37 hFZ37 hkZ37 hoZ37 => ?_)
          exact ok.ret ⟨(((Fr.rf.tr hFZ3 sQv7_Qv6).tr hFZ29 (by decide)).tr hFZ37 (by decide)), hIZ37⟩
        · skip
          unfold g_Judging_meetCalled_62
          refine ok.letE (v1 := (X.1 61 14)) ((hFZ29.1 61 14 (show (12214 : Nat) ∉ [12204, 12205] from by decide)).trans (hFZ3.1 61 14 n12214_Qv7)) ?_
          have g38 : 0 ≤ (X.1 61 14).toInt ∧ (X.1 61 14).toInt ≤ 3000 := hI.1 61 14
          refine ok.sub (show _ ≤ (X.1 61 14).toInt - (1 : Int) ∧ (X.1 61 14).toInt - (1 : Int) ≤ _ from by omega) (fun x8 hx8 => ?_)
          have hx8 : x8.toInt = (X.1 61 14).toInt - (1 : Int) := hx8
          refine ok.eqv (fun x9 hx9 => ?_)
          have hx9 : ((0 : Int) < x8.toInt ∧ x9.toInt = x8.toInt) ∨ (¬ ((0 : Int) < x8.toInt) ∧ x9.toInt = (0 : Int)) := by
            rw [hx9]
            by_cases gc : (0 : Int32) < x8
            · rw [if_pos gc]; exact Or.inl ⟨(Int32.lt_iff_toInt_lt.mp gc), rfl⟩
            · rw [if_neg gc]; exact Or.inr ⟨(fun z => gc (Int32.lt_iff_toInt_lt.mpr z)), rfl⟩
          have l40 : ((1) : Int32).toInt = (1) := by decide
          refine ok.ite (fun c39 => absurd c39 (show ¬ ((1 : Int32).toInt = 0) from by omega)) (fun c39 => ?_)
          refine ok.ck (by rw [(((hFZ29.2.2 61 1 (show (12201 : Nat) ∉ [12204, 12205] from by decide)).trans (hFZ3.2.2 61 1 n12201_Qv7)).trans hr61_1)]; decide) ?_
          refine ok.letE (v1 := 2) (by rw [(((hFZ29.2.2 61 1 (show (12201 : Nat) ∉ [12204, 12205] from by decide)).trans (hFZ3.2.2 61 1 n12201_Qv7)).trans hr61_1)]) ?_
          refine ok.letE (v1 := 21) (by decide) ?_
          refine ok.sub (show _ ≤ p1.toInt - (1 : Int) ∧ p1.toInt - (1 : Int) ≤ _ from by omega) (fun x14 hx14 => ?_)
          have hx14 : x14.toInt = p1.toInt - (1 : Int) := hx14
          refine ok.ck (show 0 ≤ x14.toInt ∧ x14.toInt < ((9080 : Nat) : Int) from by omega) ?_
          refine ok.letE (v1 := (X.1 21 (ix x14))) ((hFZ29.1 21 (ix x14) (show (4200 : Nat) ∉ [12204, 12205] from by decide)).trans (hFZ3.1 21 (ix x14) n4200_Qv7)) ?_
          unfold g_Judging_meetCalled_99
          refine ok.ck (show 0 ≤ x9.toInt ∧ x9.toInt < ((3000 : Nat) : Int) from by omega) ?_
          refine ok.wI (L := [13800]) hIZ29 (show True from trivial) (show (13800 : Nat) ∈ [13800] from by decide) (by decide) (fun Z41 hIZ41 hFZ41 hkZ41 hoZ41 => ?_)
          exact ok.ret ⟨(((Fr.rf.tr hFZ3 sQv7_Qv6).tr hFZ29 (by decide)).tr hFZ41 (by decide)), hIZ41⟩
      · skip
        unfold g_Judging_meetCalled_61
        unfold g_Judging_meetCalled_62
        refine ok.letE (v1 := (X.1 61 14)) ((hFZ29.1 61 14 (show (12214 : Nat) ∉ [12204, 12205] from by decide)).trans (hFZ3.1 61 14 n12214_Qv7)) ?_
        have g42 : 0 ≤ (X.1 61 14).toInt ∧ (X.1 61 14).toInt ≤ 3000 := hI.1 61 14
        refine ok.sub (show _ ≤ (X.1 61 14).toInt - (1 : Int) ∧ (X.1 61 14).toInt - (1 : Int) ≤ _ from by omega) (fun x8 hx8 => ?_)
        have hx8 : x8.toInt = (X.1 61 14).toInt - (1 : Int) := hx8
        refine ok.eqv (fun x9 hx9 => ?_)
        have hx9 : ((0 : Int) < x8.toInt ∧ x9.toInt = x8.toInt) ∨ (¬ ((0 : Int) < x8.toInt) ∧ x9.toInt = (0 : Int)) := by
          rw [hx9]
          by_cases gc : (0 : Int32) < x8
          · rw [if_pos gc]; exact Or.inl ⟨(Int32.lt_iff_toInt_lt.mp gc), rfl⟩
          · rw [if_neg gc]; exact Or.inr ⟨(fun z => gc (Int32.lt_iff_toInt_lt.mpr z)), rfl⟩
        have l44 : ((0) : Int32).toInt = (0) := by decide
        refine ok.ite (fun c43 => ?_) (fun c43 => absurd (show (0 : Int32).toInt = 0 from by omega) c43)
        refine ok.letE (v1 := (X.1 61 3)) ((hFZ29.1 61 3 (show (12203 : Nat) ∉ [12204, 12205] from by decide)).trans (hFZ3.1 61 3 n12203_Qv7)) ?_
        have g45 : 0 ≤ (X.1 61 3).toInt ∧ (X.1 61 3).toInt ≤ 39 := hI.1 61 3
        unfold g_Judging_meetCalled_99
        refine ok.ck (show 0 ≤ x9.toInt ∧ x9.toInt < ((3000 : Nat) : Int) from by omega) ?_
        refine ok.wI (L := [13800]) hIZ29 (show True from trivial) (show (13800 : Nat) ∈ [13800] from by decide) (by decide) (fun Z46 hIZ46 hFZ46 hkZ46 hoZ46 => ?_)
        exact ok.ret ⟨(((Fr.rf.tr hFZ3 sQv7_Qv6).tr hFZ29 (by decide)).tr hFZ46 (by decide)), hIZ46⟩
  · skip
    unfold g_Judging_meetCalled_39
    refine ok.ck (by rw [((hFZ3.2.2 61 1 n12201_Qv7).trans hr61_1)]; decide) ?_
    refine ok.letE (v1 := 2) (by rw [((hFZ3.2.2 61 1 n12201_Qv7).trans hr61_1)]) ?_
    refine ok.letE (v1 := 20) (by decide) ?_
    refine ok.ck (show 0 ≤ p1.toInt ∧ p1.toInt < ((9080 : Nat) : Int) from by omega) ?_
    refine ok.letE (v1 := (X.1 20 (ix p1))) (hFZ3.1 20 (ix p1) n4000_Qv7) ?_
    have g47 : 0 ≤ (X.1 20 (ix p1)).toInt ∧ (X.1 20 (ix p1)).toInt ≤ 36 := hI.1 20 (ix p1)
    refine ok.ite (fun c48 => ?_) (fun c48 => ?_)
    · skip
      refine ok.ite (fun c49 => ?_) (fun c49 => ?_)
      · skip
        unfold g_Judging_meetCalled_61
        unfold g_Judging_meetCalled_62
        refine ok.letE (v1 := (X.1 61 14)) (hFZ3.1 61 14 n12214_Qv7) ?_
        have g50 : 0 ≤ (X.1 61 14).toInt ∧ (X.1 61 14).toInt ≤ 3000 := hI.1 61 14
        refine ok.sub (show _ ≤ (X.1 61 14).toInt - (1 : Int) ∧ (X.1 61 14).toInt - (1 : Int) ≤ _ from by omega) (fun x8 hx8 => ?_)
        have hx8 : x8.toInt = (X.1 61 14).toInt - (1 : Int) := hx8
        refine ok.eqv (fun x9 hx9 => ?_)
        have hx9 : ((0 : Int) < x8.toInt ∧ x9.toInt = x8.toInt) ∨ (¬ ((0 : Int) < x8.toInt) ∧ x9.toInt = (0 : Int)) := by
          rw [hx9]
          by_cases gc : (0 : Int32) < x8
          · rw [if_pos gc]; exact Or.inl ⟨(Int32.lt_iff_toInt_lt.mp gc), rfl⟩
          · rw [if_neg gc]; exact Or.inr ⟨(fun z => gc (Int32.lt_iff_toInt_lt.mpr z)), rfl⟩
        have l52 : ((0) : Int32).toInt = (0) := by decide
        refine ok.ite (fun c51 => ?_) (fun c51 => absurd (show (0 : Int32).toInt = 0 from by omega) c51)
        refine ok.letE (v1 := (X.1 61 3)) (hFZ3.1 61 3 n12203_Qv7) ?_
        have g53 : 0 ≤ (X.1 61 3).toInt ∧ (X.1 61 3).toInt ≤ 39 := hI.1 61 3
        unfold g_Judging_meetCalled_99
        refine ok.ck (show 0 ≤ x9.toInt ∧ x9.toInt < ((3000 : Nat) : Int) from by omega) ?_
        refine ok.wI (L := [13800]) hIZ3 (show True from trivial) (show (13800 : Nat) ∈ [13800] from by decide) (by decide) (fun Z54 hIZ54 hFZ54 hkZ54 hoZ54 => ?_)
        exact ok.ret ⟨((Fr.rf.tr hFZ3 sQv7_Qv6).tr hFZ54 (by decide)), hIZ54⟩
      · skip
        unfold g_Judging_meetCalled_62
        refine ok.letE (v1 := (X.1 61 14)) (hFZ3.1 61 14 n12214_Qv7) ?_
        have g55 : 0 ≤ (X.1 61 14).toInt ∧ (X.1 61 14).toInt ≤ 3000 := hI.1 61 14
        refine ok.sub (show _ ≤ (X.1 61 14).toInt - (1 : Int) ∧ (X.1 61 14).toInt - (1 : Int) ≤ _ from by omega) (fun x8 hx8 => ?_)
        have hx8 : x8.toInt = (X.1 61 14).toInt - (1 : Int) := hx8
        refine ok.eqv (fun x9 hx9 => ?_)
        have hx9 : ((0 : Int) < x8.toInt ∧ x9.toInt = x8.toInt) ∨ (¬ ((0 : Int) < x8.toInt) ∧ x9.toInt = (0 : Int)) := by
          rw [hx9]
          by_cases gc : (0 : Int32) < x8
          · rw [if_pos gc]; exact Or.inl ⟨(Int32.lt_iff_toInt_lt.mp gc), rfl⟩
          · rw [if_neg gc]; exact Or.inr ⟨(fun z => gc (Int32.lt_iff_toInt_lt.mpr z)), rfl⟩
        have l57 : ((1) : Int32).toInt = (1) := by decide
        refine ok.ite (fun c56 => absurd c56 (show ¬ ((1 : Int32).toInt = 0) from by omega)) (fun c56 => ?_)
        refine ok.ck (by rw [((hFZ3.2.2 61 1 n12201_Qv7).trans hr61_1)]; decide) ?_
        refine ok.letE (v1 := 2) (by rw [((hFZ3.2.2 61 1 n12201_Qv7).trans hr61_1)]) ?_
        refine ok.letE (v1 := 21) (by decide) ?_
        refine ok.sub (show _ ≤ p1.toInt - (1 : Int) ∧ p1.toInt - (1 : Int) ≤ _ from by omega) (fun x14 hx14 => ?_)
        have hx14 : x14.toInt = p1.toInt - (1 : Int) := hx14
        refine ok.ck (show 0 ≤ x14.toInt ∧ x14.toInt < ((9080 : Nat) : Int) from by omega) ?_
        refine ok.letE (v1 := (X.1 21 (ix x14))) (hFZ3.1 21 (ix x14) n4200_Qv7) ?_
        unfold g_Judging_meetCalled_99
        refine ok.ck (show 0 ≤ x9.toInt ∧ x9.toInt < ((3000 : Nat) : Int) from by omega) ?_
        refine ok.wI (L := [13800]) hIZ3 (show True from trivial) (show (13800 : Nat) ∈ [13800] from by decide) (by decide) (fun Z58 hIZ58 hFZ58 hkZ58 hoZ58 => ?_)
        exact ok.ret ⟨((Fr.rf.tr hFZ3 sQv7_Qv6).tr hFZ58 (by decide)), hIZ58⟩
    · skip
      unfold g_Judging_meetCalled_61
      unfold g_Judging_meetCalled_62
      refine ok.letE (v1 := (X.1 61 14)) (hFZ3.1 61 14 n12214_Qv7) ?_
      have g59 : 0 ≤ (X.1 61 14).toInt ∧ (X.1 61 14).toInt ≤ 3000 := hI.1 61 14
      refine ok.sub (show _ ≤ (X.1 61 14).toInt - (1 : Int) ∧ (X.1 61 14).toInt - (1 : Int) ≤ _ from by omega) (fun x8 hx8 => ?_)
      have hx8 : x8.toInt = (X.1 61 14).toInt - (1 : Int) := hx8
      refine ok.eqv (fun x9 hx9 => ?_)
      have hx9 : ((0 : Int) < x8.toInt ∧ x9.toInt = x8.toInt) ∨ (¬ ((0 : Int) < x8.toInt) ∧ x9.toInt = (0 : Int)) := by
        rw [hx9]
        by_cases gc : (0 : Int32) < x8
        · rw [if_pos gc]; exact Or.inl ⟨(Int32.lt_iff_toInt_lt.mp gc), rfl⟩
        · rw [if_neg gc]; exact Or.inr ⟨(fun z => gc (Int32.lt_iff_toInt_lt.mpr z)), rfl⟩
      have l61 : ((0) : Int32).toInt = (0) := by decide
      refine ok.ite (fun c60 => ?_) (fun c60 => absurd (show (0 : Int32).toInt = 0 from by omega) c60)
      refine ok.letE (v1 := (X.1 61 3)) (hFZ3.1 61 3 n12203_Qv7) ?_
      have g62 : 0 ≤ (X.1 61 3).toInt ∧ (X.1 61 3).toInt ≤ 39 := hI.1 61 3
      unfold g_Judging_meetCalled_99
      refine ok.ck (show 0 ≤ x9.toInt ∧ x9.toInt < ((3000 : Nat) : Int) from by omega) ?_
      refine ok.wI (L := [13800]) hIZ3 (show True from trivial) (show (13800 : Nat) ∈ [13800] from by decide) (by decide) (fun Z63 hIZ63 hFZ63 hkZ63 hoZ63 => ?_)
      exact ok.ret ⟨((Fr.rf.tr hFZ3 sQv7_Qv6).tr hFZ63 (by decide)), hIZ63⟩
set_option maxHeartbeats 4000000 in
theorem v_Judging_takerBelow_J2 {p1 : Int32} {X : St} (hI : INV X) (h0 : 0 ≤ p1.toInt ∧ p1.toInt ≤ 20001) : ok (g_Judging_takerBelow p1 X) (fun r Y => (X = Y)) := by
  unfold g_Judging_takerBelow
  refine ok.letE (v1 := (X.1 61 14)) rfl ?_
  have g1 : 0 ≤ (X.1 61 14).toInt ∧ (X.1 61 14).toInt ≤ 3000 := hI.1 61 14
  refine ok.sub (show _ ≤ (X.1 61 14).toInt - (1 : Int) ∧ (X.1 61 14).toInt - (1 : Int) ≤ _ from by omega) (fun x2 hx2 => ?_)
  have hx2 : x2.toInt = (X.1 61 14).toInt - (1 : Int) := hx2
  refine ok.sub (show _ ≤ x2.toInt - p1.toInt ∧ x2.toInt - p1.toInt ≤ _ from by omega) (fun x3 hx3 => ?_)
  have hx3 : x3.toInt = x2.toInt - p1.toInt := hx3
  refine ok.ite (fun c2 => ?_) (fun c2 => ?_)
  · skip
    refine ok.letE (v1 := (X.1 61 3)) rfl ?_
    have g3 : 0 ≤ (X.1 61 3).toInt ∧ (X.1 61 3).toInt ≤ 39 := hI.1 61 3
    exact ok.ret rfl
  · skip
    refine ok.ck (show 0 ≤ x3.toInt ∧ x3.toInt < ((3000 : Nat) : Int) from by omega) ?_
    refine ok.letE (v1 := (X.1 69 (ix x3))) rfl ?_
    exact ok.ret rfl
def Qv8 : List Nat := [4400, 11005, 11200, 11400, 11600, 11800, 12000, 12204, 12205, 12400, 13400, 13600, 13800]
/-- fit of kinds, by depth -/
def FIS3 (m : Nat) (f : Nat → Int32 → Int32 → Int32 → St → Option (Int32 × St)) : Prop := ∀ (a b d : Int32) (X : St), INV X → 0 ≤ d.toInt → 64 ≤ (m : Int) + d.toInt → d.toInt ≤ 41 → ok (f 3 a b d X) (fun _ Y => X = Y)
theorem fit9_3 {m : Nat} {v : Nat → Int32 → Int32 → Int32 → St → Option (Int32 × St)} (hv : FIS3 m v) {d : Int32} (hd : 0 ≤ d.toInt ∧ d.toInt ≤ 41) (hm : 64 ≤ (m + 1 : Nat) + d.toInt) {X : St} (hI : INV X) : ∀ (k i : Nat) (a b c : Int32) (N : Nat), i + k = 1549 → k < N → c.toInt = (i : Int) → ok (g_Kinds_fit_9 v N 3 d a b c X) (fun _ Y => X = Y) := by
  intro k
  induction k with
  | zero =>
    intro i a b c N hi hN hc
    obtain ⟨N, rfl⟩ : ∃ q, N = q + 1 := ⟨N - 1, by omega⟩
    unfold g_Kinds_fit_9
    rw [lp_succ]
    unfold g_Kinds_fit_9_s
    exact ok.ite (fun _ => ok.ret rfl) (fun z => absurd (show 1549 ≤ c.toInt by omega) z)
  | succ k ih =>
    intro i a b c N hi hN hc
    obtain ⟨N, rfl⟩ : ∃ q, N = q + 1 := ⟨N - 1, by omega⟩
    unfold g_Kinds_fit_9
    rw [lp_succ]
    unfold g_Kinds_fit_9_s
    refine ok.ite (fun _ => ok.ret rfl) (fun _ => ok.ite (fun _ => ok.ret rfl) (fun _ => ok.ite (fun _ => ok.ret rfl) (fun _ => ok.ite (fun _ => ok.ret rfl) (fun _ => ?_))))
    refine ok.bd (v_Kinds_sortOf_3 hI) ?_
    rintro r1 _ rfl
    refine ok.bd (v_Kinds_sortOf_3 hI) ?_
    rintro r2 _ rfl
    refine ok.ite (fun _ => ?_) (fun _ => ok.ret rfl)
    refine ok.bd (v_Kinds_takenBy_3 hI) ?_
    rintro r3 _ ⟨rfl, h3⟩
    refine ok.bd (v_Kinds_takenBy_3 hI) ?_
    rintro r4 _ ⟨rfl, h4⟩
    refine ok.ite (fun _ => ?_) (fun _ => ok.ret rfl)
    refine ok.ite (fun hd40 => ?_) (fun _ => ok.ret rfl)
    have inner : ∀ (q j : Nat) (p : Int32) (M : Nat), j + q = 5 → q < M → p.toInt = (j : Int) → ok (g_Kinds_fit_79 v (lp (fun _ _ _ _ _ _ => none) (g_Kinds_fit_9_s v) N) M 3 d a b c p X) (fun _ Y => X = Y) := by
      intro q
      induction q with
      | zero =>
        intro j p M hj hM hp
        obtain ⟨M, rfl⟩ : ∃ q, M = q + 1 := ⟨M - 1, by omega⟩
        unfold g_Kinds_fit_79
        rw [lp_succ]
        unfold g_Kinds_fit_79_s
        refine ok.bd (v_Kinds_takenBy_3 hI) ?_
        rintro r5 _ ⟨rfl, h5⟩
        refine ok.ite (fun _ => ?_) (fun z => by omega)
        refine ok.bd (v_Kinds_givesOf_3 hI) ?_
        rintro r6 _ rfl
        refine ok.bd (v_Kinds_givesOf_3 hI) ?_
        rintro r7 _ rfl
        refine ok.inc (by decide) (by omega) (fun x hx => ?_)
        have key := ih (i + 1) r6 r7 x N (by omega) (by omega) (by omega)
        unfold g_Kinds_fit_9 at key
        exact key
      | succ q ihq =>
        intro j p M hj hM hp
        obtain ⟨M, rfl⟩ : ∃ q, M = q + 1 := ⟨M - 1, by omega⟩
        unfold g_Kinds_fit_79
        rw [lp_succ]
        unfold g_Kinds_fit_79_s
        refine ok.bd (v_Kinds_takenBy_3 hI) ?_
        rintro r5 _ ⟨rfl, h5⟩
        refine ok.ite (fun _ => ?_) (fun z => ?_)
        · refine ok.bd (v_Kinds_givesOf_3 hI) ?_
          rintro r6 _ rfl
          refine ok.bd (v_Kinds_givesOf_3 hI) ?_
          rintro r7 _ rfl
          refine ok.inc (by decide) (by omega) (fun x hx => ?_)
          have key := ih (i + 1) r6 r7 x N (by omega) (by omega) (by omega)
          unfold g_Kinds_fit_9 at key
          exact key
        · refine ok.bd (v_Kinds_paramOf_3 hI) ?_
          rintro r6 _ rfl
          refine ok.bd (v_Kinds_paramOf_3 hI) ?_
          rintro r7 _ rfl
          have z1 : (1 : Int32).toInt = 1 := rfl
          refine ok.add (by rw [z1]; omega) (fun x hx => ?_)
          rw [z1] at hx
          refine ok.bd (hv r6 r7 x X hI (by omega) (by omega) (by omega)) ?_
          rintro r8 _ rfl
          refine ok.ite (fun _ => ok.ret rfl) (fun _ => ok.inc (by decide) (by omega) (fun y hy => ?_))
          have key := ihq (j + 1) y M (by omega) (by omega) (by omega)
          unfold g_Kinds_fit_79 at key
          exact key
    exact inner 5 0 0 BIG (by omega) (ltBIG (by decide)) rfl
theorem recfit_3 : ∀ m, FIS3 m (rec_fit m) := by
  intro m
  induction m with
  | zero =>
    intro a b d X hI h0 h1 h2
    omega
  | succ m ih =>
    intro a b d X hI h0 h1 h2
    unfold rec_fit
    rw [lp_succ]
    show ok (g_Kinds_fit_b _ 3 a b d X) _
    unfold g_Kinds_fit_b
    unfold rec_fit at ih
    exact fit9_3 ih ⟨h0, h2⟩ h1 hI 1549 0 a b 0 BIG (by omega) (ltBIG (by decide)) rfl
theorem v_Kinds_fit_3 {p1 p2 p3 : Int32} {X : St} (hI : INV X) (h0 : p3.toInt = 0) : ok (g_Kinds_fit 3 p1 p2 p3 X) (fun _ Y => (X = Y)) := by
  unfold g_Kinds_fit
  exact recfit_3 64 p1 p2 p3 X hI (by omega) (by omega) (by omega)
set_option maxHeartbeats 4000000 in
theorem v_Judging_meet_J2 {p1 : Int32} {p2 : Int32} {p3 : Int32} {X : St} (hI : INV X) (hr61_0 : X.2.2 61 0 = 56) (hr61_1 : X.2.2 61 1 = 3) (hr61_2 : X.2.2 61 2 = 4) (h0 : 0 ≤ p1.toInt ∧ p1.toInt ≤ 9079) : ok (g_Judging_meet p1 p2 p3 X) (fun r Y => (Fr YC Qv7 X Y ∧ INV Y)) := by
  unfold g_Judging_meet
  refine ok.bd (v_Judging_below hI (show 0 ≤ (0 : Int) ∧ (0 : Int) ≤ 20001 from by omega)) ?_
  rintro x1 _ rfl
  refine ok.ck (by rw [hr61_2]; decide) ?_
  refine ok.letE (v1 := 3) (by rw [hr61_2]) ?_
  refine ok.bd (v_Kinds_fit_3 hI (show (0 : Int) = 0 from by omega)) ?_
  rintro x4 _ rfl
  refine ok.ite (fun c3 => ?_) (fun c3 => ?_)
  · skip
    have g4 := i32_le x4
    refine ok.bd (v_Judging_refuse_J2 hI hr61_1 (show 0 ≤ p1.toInt ∧ p1.toInt ≤ 9079 from by omega)) ?_
    rintro r_5 Z7 ⟨hFZ7, hIZ7⟩
    exact ok.ret ⟨(Fr.rf.tr hFZ7 (by decide)), hIZ7⟩
  · skip
    refine ok.ite (fun c8 => ?_) (fun c8 => ?_)
    · skip
      exact ok.ret ⟨(Fr.rf : Fr YC Qv7 _ _), hI⟩
    · skip
      refine ok.bd (v_Judging_layGuard_J2 hI hr61_0 hr61_1 (show 0 ≤ p1.toInt ∧ p1.toInt ≤ 9079 from by omega)) ?_
      rintro r_9 Z11 ⟨hFZ11, hIZ11⟩
      refine ok.bd (v_Judging_setTop hIZ11) ?_
      rintro r_12 Z14 ⟨hFZ14, hIZ14⟩
      exact ok.ret ⟨((Fr.rf.tr hFZ11 sQv3_Qv7).tr hFZ14 (by decide)), hIZ14⟩
theorem sQv7_Qv8 : ∀ k ∈ Qv7, k ∈ Qv8 := by decide
theorem sQv6_Qv8 : ∀ k ∈ Qv6, k ∈ Qv8 := by decide
set_option maxHeartbeats 4000000 in
theorem v_Judging_takerBelow {p1 : Int32} {X : St} (hI : INV X) (h0 : 0 ≤ p1.toInt ∧ p1.toInt ≤ 20001) : ok (g_Judging_takerBelow p1 X) (fun r Y => (X = Y)) := by
  unfold g_Judging_takerBelow
  refine ok.letE (v1 := (X.1 61 14)) rfl ?_
  have g1 : 0 ≤ (X.1 61 14).toInt ∧ (X.1 61 14).toInt ≤ 3000 := hI.1 61 14
  refine ok.sub (show _ ≤ (X.1 61 14).toInt - (1 : Int) ∧ (X.1 61 14).toInt - (1 : Int) ≤ _ from by omega) (fun x2 hx2 => ?_)
  have hx2 : x2.toInt = (X.1 61 14).toInt - (1 : Int) := hx2
  refine ok.sub (show _ ≤ x2.toInt - p1.toInt ∧ x2.toInt - p1.toInt ≤ _ from by omega) (fun x3 hx3 => ?_)
  have hx3 : x3.toInt = x2.toInt - p1.toInt := hx3
  refine ok.ite (fun c2 => ?_) (fun c2 => ?_)
  · skip
    refine ok.letE (v1 := (X.1 61 3)) rfl ?_
    have g3 : 0 ≤ (X.1 61 3).toInt ∧ (X.1 61 3).toInt ≤ 39 := hI.1 61 3
    exact ok.ret rfl
  · skip
    refine ok.ck (show 0 ≤ x3.toInt ∧ x3.toInt < ((3000 : Nat) : Int) from by omega) ?_
    refine ok.letE (v1 := (X.1 69 (ix x3))) rfl ?_
    exact ok.ret rfl
set_option maxHeartbeats 4000000 in
theorem v_Judging_judgeAsking_J2 {p1 : Int32} {X : St} (hI : INV X) (hr61_0 : X.2.2 61 0 = 56) (hr61_1 : X.2.2 61 1 = 3) (hr61_2 : X.2.2 61 2 = 4) (h0 : 0 ≤ p1.toInt ∧ p1.toInt ≤ 9079) (h1 : (X.1 20 (ix p1)).toInt = 32 → 0 ≤ (X.1 21 (ix p1)).toInt ∧ (X.1 21 (ix p1)).toInt ≤ 20000) : ok (g_Judging_judgeAsking p1 X) (fun r Y => (Fr YC Qv8 X Y ∧ INV Y)) := by
  unfold g_Judging_judgeAsking
  refine ok.ck (by rw [hr61_1]; decide) ?_
  refine ok.letE (v1 := 2) (by rw [hr61_1]) ?_
  refine ok.letE (v1 := 21) (by decide) ?_
  refine ok.ck (show 0 ≤ p1.toInt ∧ p1.toInt < ((9080 : Nat) : Int) from by omega) ?_
  refine ok.letE (v1 := (X.1 21 (ix p1))) rfl ?_
  refine ok.ck (by rw [hr61_1]; decide) ?_
  refine ok.letE (v1 := 2) (by rw [hr61_1]) ?_
  refine ok.letE (v1 := 20) (by decide) ?_
  refine ok.ck (show 0 ≤ p1.toInt ∧ p1.toInt < ((9080 : Nat) : Int) from by omega) ?_
  refine ok.letE (v1 := (X.1 20 (ix p1))) rfl ?_
  have g1 : 0 ≤ (X.1 20 (ix p1)).toInt ∧ (X.1 20 (ix p1)).toInt ≤ 36 := hI.1 20 (ix p1)
  refine ok.ite (fun c2 => ?_) (fun c2 => ?_)
  · skip
    refine ok.letE (v1 := (X.1 61 3)) rfl ?_
    have g3 : 0 ≤ (X.1 61 3).toInt ∧ (X.1 61 3).toInt ≤ 39 := hI.1 61 3
    refine ok.bd (v_Judging_meet_J2 hI hr61_0 hr61_1 hr61_2 (show 0 ≤ p1.toInt ∧ p1.toInt ≤ 9079 from by omega)) ?_
    rintro r_4 Z6 ⟨hFZ6, hIZ6⟩
    exact ok.ret ⟨(Fr.rf.tr hFZ6 sQv7_Qv8), hIZ6⟩
  · skip
    refine ok.ite (fun c7 => ?_) (fun c7 => ?_)
    · skip
      refine ok.letE (v1 := (X.1 61 3)) rfl ?_
      have g8 : 0 ≤ (X.1 61 3).toInt ∧ (X.1 61 3).toInt ≤ 39 := hI.1 61 3
      refine ok.bd (v_Judging_meet_J2 hI hr61_0 hr61_1 hr61_2 (show 0 ≤ p1.toInt ∧ p1.toInt ≤ 9079 from by omega)) ?_
      rintro r_9 Z11 ⟨hFZ11, hIZ11⟩
      exact ok.ret ⟨(Fr.rf.tr hFZ11 sQv7_Qv8), hIZ11⟩
    · skip
      refine ok.ite (fun c12 => ?_) (fun c12 => ?_)
      · skip
        refine ok.bd (v_Judging_meetForm_J2 hI hr61_0 hr61_1 hr61_2 (show 0 ≤ p1.toInt ∧ p1.toInt ≤ 9079 from by omega)) ?_
        rintro r_13 Z15 ⟨hFZ15, hIZ15⟩
        exact ok.ret ⟨(Fr.rf.tr hFZ15 sQv7_Qv8), hIZ15⟩
      · skip
        refine ok.ite (fun c16 => ?_) (fun c16 => ?_)
        · skip
          refine ok.bd (v_Judging_meetCalled_J2 hI hr61_0 hr61_1 hr61_2 (show 0 ≤ p1.toInt ∧ p1.toInt ≤ 9079 from by omega)) ?_
          rintro r_17 Z19 ⟨hFZ19, hIZ19⟩
          exact ok.ret ⟨(Fr.rf.tr hFZ19 sQv6_Qv8), hIZ19⟩
        · skip
          refine ok.ite (fun c20 => ?_) (fun c20 => ?_)
          · skip
            refine ok.bd (v_Judging_meetCalled_J2 hI hr61_0 hr61_1 hr61_2 (show 0 ≤ p1.toInt ∧ p1.toInt ≤ 9079 from by omega)) ?_
            rintro r_21 Z23 ⟨hFZ23, hIZ23⟩
            exact ok.ret ⟨(Fr.rf.tr hFZ23 sQv6_Qv8), hIZ23⟩
          · skip
            refine ok.ite (fun c24 => ?_) (fun c24 => ?_)
            · skip
              refine ok.ck (by rw [hr61_2]; decide) ?_
              refine ok.letE (v1 := 3) (by rw [hr61_2]) ?_
              refine ok.add (show _ ≤ (X.1 21 (ix p1)).toInt + (1 : Int) ∧ (X.1 21 (ix p1)).toInt + (1 : Int) ≤ _ from by omega) (fun x21 hx21 => ?_)
              have hx21 : x21.toInt = (X.1 21 (ix p1)).toInt + (1 : Int) := hx21
              refine ok.bd (v_Judging_below hI (show 0 ≤ x21.toInt ∧ x21.toInt ≤ 20001 from by omega)) ?_
              rintro x22 _ rfl
              refine ok.bd (v_Kinds_paramOf_3 hI) ?_
              rintro x24 _ rfl
              refine ok.add (show _ ≤ (X.1 21 (ix p1)).toInt + (1 : Int) ∧ (X.1 21 (ix p1)).toInt + (1 : Int) ≤ _ from by omega) (fun x26 hx26 => ?_)
              have hx26 : x26.toInt = (X.1 21 (ix p1)).toInt + (1 : Int) := hx26
              refine ok.bd (v_Judging_takerBelow hI (show 0 ≤ x26.toInt ∧ x26.toInt ≤ 20001 from by omega)) ?_
              rintro x27 _ rfl
              refine ok.bd (v_Judging_meet_J2 hI hr61_0 hr61_1 hr61_2 (show 0 ≤ p1.toInt ∧ p1.toInt ≤ 9079 from by omega)) ?_
              rintro r_28 Z30 ⟨hFZ30, hIZ30⟩
              exact ok.ret ⟨(Fr.rf.tr hFZ30 sQv7_Qv8), hIZ30⟩
            · skip
              refine ok.ite (fun c31 => ?_) (fun c31 => ?_)
              · skip
                refine ok.ck (by rw [hr61_2]; decide) ?_
                refine ok.letE (v1 := 3) (by rw [hr61_2]) ?_
                refine ok.bd (v_Judging_below hI (show 0 ≤ (2 : Int) ∧ (2 : Int) ≤ 20001 from by omega)) ?_
                rintro x32 _ rfl
                refine ok.bd (v_Kinds_givesOf_3 hI) ?_
                rintro x34 _ rfl
                refine ok.letE (v1 := (X.1 61 3)) rfl ?_
                have g34 : 0 ≤ (X.1 61 3).toInt ∧ (X.1 61 3).toInt ≤ 39 := hI.1 61 3
                refine ok.bd (v_Judging_meet_J2 hI hr61_0 hr61_1 hr61_2 (show 0 ≤ p1.toInt ∧ p1.toInt ≤ 9079 from by omega)) ?_
                rintro r_35 Z37 ⟨hFZ37, hIZ37⟩
                exact ok.ret ⟨(Fr.rf.tr hFZ37 sQv7_Qv8), hIZ37⟩
              · skip
                refine ok.ite (fun c38 => ?_) (fun c38 => ?_)
                · skip
                  refine ok.letE (v1 := (X.1 61 3)) rfl ?_
                  have g39 : 0 ≤ (X.1 61 3).toInt ∧ (X.1 61 3).toInt ≤ 39 := hI.1 61 3
                  refine ok.letE (v1 := (X.1 61 3)) rfl ?_
                  refine ok.ck (show 0 ≤ (X.1 61 3).toInt ∧ (X.1 61 3).toInt < ((40 : Nat) : Int) from by omega) ?_
                  refine ok.letE (v1 := (X.1 62 (ix (X.1 61 3)))) rfl ?_
                  refine ok.ite (fun c40 => ?_) (fun c40 => ?_)
                  · skip
                    have g41 := i32_le (X.1 62 (ix (X.1 61 3)))
                    refine ok.ck (by rw [hr61_2]; decide) ?_
                    refine ok.letE (v1 := 3) (by rw [hr61_2]) ?_
                    refine ok.letE (v1 := (X.1 61 3)) rfl ?_
                    refine ok.bd (v_Judging_asTold_J2 hI hr61_1 (show 0 ≤ (X.1 61 3).toInt ∧ (X.1 61 3).toInt ≤ 39 from by omega)) ?_
                    rintro x50 _ rfl
                    refine ok.bd (v_Kinds_hasAny_3 hI) ?_
                    rintro x52 _ rfl
                    refine ok.ite (fun c44 => ?_) (fun c44 => ?_)
                    · skip
                      have g45 := i32_le x52
                      unfold g_Judging_judgeAsking_211
                      refine ok.ck (show 0 ≤ (X.1 61 3).toInt ∧ (X.1 61 3).toInt < ((40 : Nat) : Int) from by omega) ?_
                      refine ok.wI (L := [12400]) hI (show True from trivial) (show (12400 : Nat) ∈ [12400] from by decide) (by decide) (fun Z46 hIZ46 hFZ46 hkZ46 hoZ46 => ?_)
                      refine ok.letE (v1 := (X.1 61 3)) (hFZ46.1 61 3 (show (12203 : Nat) ∉ [12400] from by decide)) ?_
                      refine ok.bd (v_Judging_asTold_J2 hIZ46 ((hFZ46.2.2 61 1 (show (12201 : Nat) ∉ [12400] from by decide)).trans hr61_1) (show 0 ≤ (X.1 61 3).toInt ∧ (X.1 61 3).toInt ≤ 39 from by omega)) ?_
                      rintro x44 _ rfl
                      refine ok.letE (v1 := (X.1 61 3)) (hFZ46.1 61 3 (show (12203 : Nat) ∉ [12400] from by decide)) ?_
                      refine ok.bd (v_Judging_meet_J2 hIZ46 ((hFZ46.2.2 61 0 (show (12200 : Nat) ∉ [12400] from by decide)).trans hr61_0) ((hFZ46.2.2 61 1 (show (12201 : Nat) ∉ [12400] from by decide)).trans hr61_1) ((hFZ46.2.2 61 2 (show (12202 : Nat) ∉ [12400] from by decide)).trans hr61_2) (show 0 ≤ p1.toInt ∧ p1.toInt ≤ 9079 from by omega)) ?_
                      rintro r_48 Z50 ⟨hFZ50, hIZ50⟩
                      exact ok.ret ⟨((Fr.rf.tr hFZ46 (by decide)).tr hFZ50 sQv7_Qv8), hIZ50⟩
                    · skip
                      unfold g_Judging_judgeAsking_206
                      unfold g_Judging_judgeAsking_211
                      refine ok.ck (show 0 ≤ (X.1 61 3).toInt ∧ (X.1 61 3).toInt < ((40 : Nat) : Int) from by omega) ?_
                      refine ok.wI (L := [12400]) hI (show True from trivial) (show (12400 : Nat) ∈ [12400] from by decide) (by decide) (fun Z51 hIZ51 hFZ51 hkZ51 hoZ51 => ?_)
                      refine ok.letE (v1 := (X.1 61 3)) (hFZ51.1 61 3 (show (12203 : Nat) ∉ [12400] from by decide)) ?_
                      refine ok.bd (v_Judging_asTold_J2 hIZ51 ((hFZ51.2.2 61 1 (show (12201 : Nat) ∉ [12400] from by decide)).trans hr61_1) (show 0 ≤ (X.1 61 3).toInt ∧ (X.1 61 3).toInt ≤ 39 from by omega)) ?_
                      rintro x44 _ rfl
                      refine ok.letE (v1 := (X.1 61 3)) (hFZ51.1 61 3 (show (12203 : Nat) ∉ [12400] from by decide)) ?_
                      refine ok.bd (v_Judging_meet_J2 hIZ51 ((hFZ51.2.2 61 0 (show (12200 : Nat) ∉ [12400] from by decide)).trans hr61_0) ((hFZ51.2.2 61 1 (show (12201 : Nat) ∉ [12400] from by decide)).trans hr61_1) ((hFZ51.2.2 61 2 (show (12202 : Nat) ∉ [12400] from by decide)).trans hr61_2) (show 0 ≤ p1.toInt ∧ p1.toInt ≤ 9079 from by omega)) ?_
                      rintro r_53 Z55 ⟨hFZ55, hIZ55⟩
                      exact ok.ret ⟨((Fr.rf.tr hFZ51 (by decide)).tr hFZ55 sQv7_Qv8), hIZ55⟩
                  · skip
                    unfold g_Judging_judgeAsking_206
                    unfold g_Judging_judgeAsking_211
                    refine ok.ck (show 0 ≤ (X.1 61 3).toInt ∧ (X.1 61 3).toInt < ((40 : Nat) : Int) from by omega) ?_
                    refine ok.wI (L := [12400]) hI (show True from trivial) (show (12400 : Nat) ∈ [12400] from by decide) (by decide) (fun Z56 hIZ56 hFZ56 hkZ56 hoZ56 => ?_)
                    refine ok.letE (v1 := (X.1 61 3)) (hFZ56.1 61 3 (show (12203 : Nat) ∉ [12400] from by decide)) ?_
                    refine ok.bd (v_Judging_asTold_J2 hIZ56 ((hFZ56.2.2 61 1 (show (12201 : Nat) ∉ [12400] from by decide)).trans hr61_1) (show 0 ≤ (X.1 61 3).toInt ∧ (X.1 61 3).toInt ≤ 39 from by omega)) ?_
                    rintro x44 _ rfl
                    refine ok.letE (v1 := (X.1 61 3)) (hFZ56.1 61 3 (show (12203 : Nat) ∉ [12400] from by decide)) ?_
                    refine ok.bd (v_Judging_meet_J2 hIZ56 ((hFZ56.2.2 61 0 (show (12200 : Nat) ∉ [12400] from by decide)).trans hr61_0) ((hFZ56.2.2 61 1 (show (12201 : Nat) ∉ [12400] from by decide)).trans hr61_1) ((hFZ56.2.2 61 2 (show (12202 : Nat) ∉ [12400] from by decide)).trans hr61_2) (show 0 ≤ p1.toInt ∧ p1.toInt ≤ 9079 from by omega)) ?_
                    rintro r_58 Z60 ⟨hFZ60, hIZ60⟩
                    exact ok.ret ⟨((Fr.rf.tr hFZ56 (by decide)).tr hFZ60 sQv7_Qv8), hIZ60⟩
                · skip
                  refine ok.ite (fun c61 => ?_) (fun c61 => ?_)
                  · skip
                    refine ok.letE (v1 := (X.1 61 3)) rfl ?_
                    have g62 : 0 ≤ (X.1 61 3).toInt ∧ (X.1 61 3).toInt ≤ 39 := hI.1 61 3
                    refine ok.ck (show 0 ≤ (X.1 61 3).toInt ∧ (X.1 61 3).toInt < ((40 : Nat) : Int) from by omega) ?_
                    refine ok.letE (v1 := (X.1 64 (ix (X.1 61 3)))) rfl ?_
                    refine ok.letE (v1 := (X.1 61 3)) rfl ?_
                    refine ok.bd (v_Judging_meet_J2 hI hr61_0 hr61_1 hr61_2 (show 0 ≤ p1.toInt ∧ p1.toInt ≤ 9079 from by omega)) ?_
                    rintro r_63 Z65 ⟨hFZ65, hIZ65⟩
                    exact ok.ret ⟨(Fr.rf.tr hFZ65 sQv7_Qv8), hIZ65⟩
                  · skip
                    refine ok.letE (v1 := (X.1 61 14)) rfl ?_
                    have g66 : 0 ≤ (X.1 61 14).toInt ∧ (X.1 61 14).toInt ≤ 3000 := hI.1 61 14
                    refine ok.sub (show _ ≤ (X.1 61 14).toInt - (1 : Int) ∧ (X.1 61 14).toInt - (1 : Int) ≤ _ from by omega) (fun x60 hx60 => ?_)
                    have hx60 : x60.toInt = (X.1 61 14).toInt - (1 : Int) := hx60
                    refine ok.eqv (fun x61 hx61 => ?_)
                    have hx61 : ((0 : Int) < x60.toInt ∧ x61.toInt = x60.toInt) ∨ (¬ ((0 : Int) < x60.toInt) ∧ x61.toInt = (0 : Int)) := by
                      rw [hx61]
                      by_cases gc : (0 : Int32) < x60
                      · rw [if_pos gc]; exact Or.inl ⟨(Int32.lt_iff_toInt_lt.mp gc), rfl⟩
                      · rw [if_neg gc]; exact Or.inr ⟨(fun z => gc (Int32.lt_iff_toInt_lt.mpr z)), rfl⟩
                    refine ok.ck (show 0 ≤ x61.toInt ∧ x61.toInt < ((3000 : Nat) : Int) from by omega) ?_
                    refine ok.wI (L := [13600]) hI (show 0 ≤ p1.toInt ∧ p1.toInt ≤ 9079 from by omega) (show (13600 : Nat) ∈ [13600] from by decide) (by decide) (fun Z67 hIZ67 hFZ67 hkZ67 hoZ67 => ?_)
                    exact ok.ret ⟨(Fr.rf.tr hFZ67 (by decide)), hIZ67⟩
