/-! the methods -/
set_option maxHeartbeats 4000000 in
theorem v_Court_putFour {p1 : Int32} {X : St} (hI : INV X) : ok (g_Court_putFour p1 X) (fun r Y => (Fr YC [1, 200] X Y ∧ INV Y) ∧ ((X.1 0 1).toInt + 4 ≤ 3000 → (Y.1 0 1).toInt = (X.1 0 1).toInt + 4)) := by
  unfold g_Court_putFour
  have lpu1 : ∀ (n : Nat), ∀ (a_1u1 : Int32) (a_2u1 : Int32) (Zu1 : St), INV Zu1 → Fr YC [1, 200] X Zu1 → (-8 ≤ a_2u1.toInt ∧ a_2u1.toInt ≤ 24) → ((X.1 0 1).toInt + 4 ≤ 3000 → 8 * ((Zu1.1 0 1).toInt - (X.1 0 1).toInt) = 24 - a_2u1.toInt) → (a_2u1.toInt + 9).toNat < n → ok (g_Court_putFour_3 n a_1u1 a_2u1 Zu1) (fun r Y => (Fr YC [1, 200] X Y ∧ INV Y) ∧ ((X.1 0 1).toInt + 4 ≤ 3000 → (Y.1 0 1).toInt = (X.1 0 1).toInt + 4)) := by
    intro n
    unfold g_Court_putFour_3
    refine lp_indN (P := fun (n : Nat) (r_u1 : Int32 → Int32 → St → Option (Int32 × St)) => ∀ (a_1u1 : Int32) (a_2u1 : Int32) (Zu1 : St), INV Zu1 → Fr YC [1, 200] X Zu1 → (-8 ≤ a_2u1.toInt ∧ a_2u1.toInt ≤ 24) → ((X.1 0 1).toInt + 4 ≤ 3000 → 8 * ((Zu1.1 0 1).toInt - (X.1 0 1).toInt) = 24 - a_2u1.toInt) → (a_2u1.toInt + 9).toNat < n → ok (r_u1 a_1u1 a_2u1 Zu1) (fun r Y => (Fr YC [1, 200] X Y ∧ INV Y) ∧ ((X.1 0 1).toInt + 4 ≤ 3000 → (Y.1 0 1).toInt = (X.1 0 1).toInt + 4))) ?_ ?_ n
    · intro a_1u1 a_2u1 Zu1 hIu1 hFu1 u1_0 u1_1  hm; exact absurd hm (Nat.not_lt_zero _)
    · intro n r_u1 ih_u1 a_1u1 a_2u1 Zu1 hIu1 hFu1 u1_0 u1_1  hmu1
      unfold g_Court_putFour_3_s
      refine ok.ite (fun c2 => ?_) (fun c2 => ?_)
      · skip
        exact ok.ret ⟨⟨(Fr.rf.tr hFu1 (fun _ q => q)), hIu1⟩, (show (X.1 0 1).toInt + 4 ≤ 3000 → (Zu1.1 0 1).toInt = (X.1 0 1).toInt + 4 from by have := (show 0 ≤ (X.1 0 1).toInt ∧ (X.1 0 1).toInt ≤ 3000 from hI.1 0 1); have := (show 0 ≤ (Zu1.1 0 1).toInt ∧ (Zu1.1 0 1).toInt ≤ 3000 from hIu1.1 0 1); omega)⟩
      · skip
        refine ok.letE (v1 := (Zu1.1 0 1)) rfl ?_
        have g3 : 0 ≤ (Zu1.1 0 1).toInt ∧ (Zu1.1 0 1).toInt ≤ 3000 := hIu1.1 0 1
        refine ok.ite (fun c4 => ?_) (fun c4 => ?_)
        · skip
          unfold g_Court_putFour_40
          refine ok.inc (by decide) (show _ ≤ a_2u1.toInt + (-8) ∧ a_2u1.toInt + (-8) ≤ _ from by omega) (fun x2 hx2 => ?_)
          have hx2 : x2.toInt = a_2u1.toInt + (-8) := hx2
          exact ih_u1 a_1u1 x2 Zu1 hIu1 (Fr.rf.tr hFu1 (fun _ q => q)) (show -8 ≤ x2.toInt ∧ x2.toInt ≤ 24 from by omega) (show (X.1 0 1).toInt + 4 ≤ 3000 → 8 * ((Zu1.1 0 1).toInt - (X.1 0 1).toInt) = 24 - x2.toInt from by have := (show 0 ≤ (X.1 0 1).toInt ∧ (X.1 0 1).toInt ≤ 3000 from hI.1 0 1); have := (show 0 ≤ (Zu1.1 0 1).toInt ∧ (Zu1.1 0 1).toInt ≤ 3000 from hIu1.1 0 1); omega) (show (x2.toInt + 9).toNat < _ from by omega)
        · skip
          refine ok.letE (v1 := (Zu1.1 0 1)) rfl ?_
          refine ok.any (fun x4 => ?_)
          refine ok.any (fun x5 => ?_)
          refine ok.ck (show 0 ≤ (Zu1.1 0 1).toInt ∧ (Zu1.1 0 1).toInt < ((3000 : Nat) : Int) from by omega) ?_
          refine ok.wI (L := [200]) hIu1 (show True from trivial) (show (200 : Nat) ∈ [200] from by decide) (by decide) (fun Z5 hIZ5 hFZ5 hkZ5 hoZ5 => ?_)
          refine ok.letE (v1 := (Zu1.1 0 1)) (hFZ5.1 0 1 (show (1 : Nat) ∉ [200] from by decide)) ?_
          refine ok.add (show _ ≤ (Zu1.1 0 1).toInt + (1 : Int) ∧ (Zu1.1 0 1).toInt + (1 : Int) ≤ _ from by omega) (fun x8 hx8 => ?_)
          have hx8 : x8.toInt = (Zu1.1 0 1).toInt + (1 : Int) := hx8
          refine ok.wI (L := [1]) hIZ5 (show 0 ≤ x8.toInt ∧ x8.toInt ≤ 3000 from by omega) (show (1 : Nat) ∈ [1] from by decide) (by decide) (fun Z6 hIZ6 hFZ6 hkZ6 hoZ6 => ?_)
          unfold g_Court_putFour_40
          refine ok.inc (by decide) (show _ ≤ a_2u1.toInt + (-8) ∧ a_2u1.toInt + (-8) ≤ _ from by omega) (fun x2 hx2 => ?_)
          have hx2 : x2.toInt = a_2u1.toInt + (-8) := hx2
          exact ih_u1 a_1u1 x2 Z6 hIZ6 (((Fr.rf.tr hFu1 (fun _ q => q)).tr hFZ5 (by decide)).tr hFZ6 (by decide)) (show -8 ≤ x2.toInt ∧ x2.toInt ≤ 24 from by omega) (show (X.1 0 1).toInt + 4 ≤ 3000 → 8 * ((Z6.1 0 1).toInt - (X.1 0 1).toInt) = 24 - x2.toInt from by have := (show 0 ≤ (X.1 0 1).toInt ∧ (X.1 0 1).toInt ≤ 3000 from hI.1 0 1); have := (show (Z6.1 0 1).toInt = x8.toInt from congrArg Int32.toInt hkZ6); omega) (show (x2.toInt + 9).toNat < _ from by omega)
  exact lpu1 BIG p1 (24 : Int32) X hI (Fr.rf : Fr YC [1, 200] _ _) (show -8 ≤ (24 : Int) ∧ (24 : Int) ≤ 24 from by omega) (show (X.1 0 1).toInt + 4 ≤ 3000 → 8 * ((X.1 0 1).toInt - (X.1 0 1).toInt) = 24 - (24 : Int) from by have := (show 0 ≤ (X.1 0 1).toInt ∧ (X.1 0 1).toInt ≤ 3000 from hI.1 0 1); omega) (show ((24 : Int) + 9).toNat < BIG from ltBIG (show _ < 100000 from by omega))
set_option maxHeartbeats 4000000 in
theorem v_Court_feed_C2 {p1 : Int32} {p2 : Int32} {p3 : Int32} {p4 : Int32} {p5 : Int32} {X : St} (hI : INV X) : ok (g_Court_feed p1 p2 p3 p4 p5 X) (fun r Y => (Fr YC [1, 200] X Y ∧ INV Y) ∧ (((X.1 0 1).toInt ≤ 2980 ∧ (Y.1 0 1).toInt = (X.1 0 1).toInt + 20 ∧ r.toInt = (Y.1 0 1).toInt) ∨ (2980 < (X.1 0 1).toInt ∧ (Y.1 0 1).toInt = (X.1 0 1).toInt ∧ r.toInt = -1))) := by
  unfold g_Court_feed
  refine ok.letE (v1 := (X.1 0 1)) rfl ?_
  have g1 : 0 ≤ (X.1 0 1).toInt ∧ (X.1 0 1).toInt ≤ 3000 := hI.1 0 1
  refine ok.add (show _ ≤ (X.1 0 1).toInt + (20 : Int) ∧ (X.1 0 1).toInt + (20 : Int) ≤ _ from by omega) (fun x2 hx2 => ?_)
  have hx2 : x2.toInt = (X.1 0 1).toInt + (20 : Int) := hx2
  refine ok.ite (fun c2 => ?_) (fun c2 => ?_)
  · skip
    refine ok.bd (v_Court_putFour hI) ?_
    rintro r_3 Z5 ⟨⟨hFZ5, hIZ5⟩, hp4⟩
    have hp4 : (X.1 0 1).toInt + 4 ≤ 3000 → (Z5.1 0 1).toInt = (X.1 0 1).toInt + 4 := hp4
    have := (show 0 ≤ (X.1 0 1).toInt ∧ (X.1 0 1).toInt ≤ 3000 from hI.1 0 1)
    have := (show 0 ≤ (Z5.1 0 1).toInt ∧ (Z5.1 0 1).toInt ≤ 3000 from hIZ5.1 0 1)
    refine ok.bd (v_Court_putFour hIZ5) ?_
    rintro r_6 Z8 ⟨⟨hFZ8, hIZ8⟩, hp7⟩
    have hp7 : (Z5.1 0 1).toInt + 4 ≤ 3000 → (Z8.1 0 1).toInt = (Z5.1 0 1).toInt + 4 := hp7
    have := (show 0 ≤ (Z5.1 0 1).toInt ∧ (Z5.1 0 1).toInt ≤ 3000 from hIZ5.1 0 1)
    have := (show 0 ≤ (Z8.1 0 1).toInt ∧ (Z8.1 0 1).toInt ≤ 3000 from hIZ8.1 0 1)
    refine ok.bd (v_Court_putFour hIZ8) ?_
    rintro r_9 Z11 ⟨⟨hFZ11, hIZ11⟩, hp10⟩
    have hp10 : (Z8.1 0 1).toInt + 4 ≤ 3000 → (Z11.1 0 1).toInt = (Z8.1 0 1).toInt + 4 := hp10
    have := (show 0 ≤ (Z8.1 0 1).toInt ∧ (Z8.1 0 1).toInt ≤ 3000 from hIZ8.1 0 1)
    have := (show 0 ≤ (Z11.1 0 1).toInt ∧ (Z11.1 0 1).toInt ≤ 3000 from hIZ11.1 0 1)
    refine ok.bd (v_Court_putFour hIZ11) ?_
    rintro r_12 Z14 ⟨⟨hFZ14, hIZ14⟩, hp13⟩
    have hp13 : (Z11.1 0 1).toInt + 4 ≤ 3000 → (Z14.1 0 1).toInt = (Z11.1 0 1).toInt + 4 := hp13
    have := (show 0 ≤ (Z11.1 0 1).toInt ∧ (Z11.1 0 1).toInt ≤ 3000 from hIZ11.1 0 1)
    have := (show 0 ≤ (Z14.1 0 1).toInt ∧ (Z14.1 0 1).toInt ≤ 3000 from hIZ14.1 0 1)
    refine ok.bd (v_Court_putFour hIZ14) ?_
    rintro r_15 Z17 ⟨⟨hFZ17, hIZ17⟩, hp16⟩
    have hp16 : (Z14.1 0 1).toInt + 4 ≤ 3000 → (Z17.1 0 1).toInt = (Z14.1 0 1).toInt + 4 := hp16
    have := (show 0 ≤ (Z14.1 0 1).toInt ∧ (Z14.1 0 1).toInt ≤ 3000 from hIZ14.1 0 1)
    have := (show 0 ≤ (Z17.1 0 1).toInt ∧ (Z17.1 0 1).toInt ≤ 3000 from hIZ17.1 0 1)
    refine ok.letE (v1 := (Z17.1 0 1)) rfl ?_
    have g18 : 0 ≤ (Z17.1 0 1).toInt ∧ (Z17.1 0 1).toInt ≤ 3000 := hIZ17.1 0 1
    exact ok.ret ⟨⟨(((((Fr.rf.tr hFZ5 (fun _ q => q)).tr hFZ8 (fun _ q => q)).tr hFZ11 (fun _ q => q)).tr hFZ14 (fun _ q => q)).tr hFZ17 (fun _ q => q)), hIZ17⟩, (show ((X.1 0 1).toInt ≤ 2980 ∧ (Z17.1 0 1).toInt = (X.1 0 1).toInt + 20 ∧ (Z17.1 0 1).toInt = (Z17.1 0 1).toInt) ∨ (2980 < (X.1 0 1).toInt ∧ (Z17.1 0 1).toInt = (X.1 0 1).toInt ∧ (Z17.1 0 1).toInt = -1) from by have := (show 0 ≤ (X.1 0 1).toInt ∧ (X.1 0 1).toInt ≤ 3000 from hI.1 0 1); have := (show 0 ≤ (Z17.1 0 1).toInt ∧ (Z17.1 0 1).toInt ≤ 3000 from hIZ17.1 0 1); omega)⟩
  · skip
    exact ok.ret ⟨⟨(Fr.rf : Fr YC [1, 200] _ _), hI⟩, (show ((X.1 0 1).toInt ≤ 2980 ∧ (X.1 0 1).toInt = (X.1 0 1).toInt + 20 ∧ (-1 : Int) = (X.1 0 1).toInt) ∨ (2980 < (X.1 0 1).toInt ∧ (X.1 0 1).toInt = (X.1 0 1).toInt ∧ (-1 : Int) = -1) from by have := (show 0 ≤ (X.1 0 1).toInt ∧ (X.1 0 1).toInt ≤ 3000 from hI.1 0 1); omega)⟩
set_option maxHeartbeats 4000000 in
theorem v_Court_end_C2 {p1 : Int32} {X : St} (hI : INV X) : ok (g_Court_end p1 X) (fun r Y => (Fr YC [1] X Y ∧ INV Y) ∧ ((0 ≤ p1.toInt ∧ p1.toInt ≤ (X.1 0 1).toInt ∧ r.toInt = p1.toInt ∧ (Y.1 0 1).toInt = p1.toInt) ∨ (¬ (0 ≤ p1.toInt ∧ p1.toInt ≤ (X.1 0 1).toInt) ∧ r.toInt = -1 ∧ (Y.1 0 1).toInt = (X.1 0 1).toInt))) := by
  unfold g_Court_end
  refine ok.ite (fun c1 => ?_) (fun c1 => ?_)
  · skip
    have g2 := i32_le p1
    exact ok.ret ⟨⟨(Fr.rf : Fr YC [1] _ _), hI⟩, (show (0 ≤ p1.toInt ∧ p1.toInt ≤ (X.1 0 1).toInt ∧ (-1 : Int) = p1.toInt ∧ (X.1 0 1).toInt = p1.toInt) ∨ (¬ (0 ≤ p1.toInt ∧ p1.toInt ≤ (X.1 0 1).toInt) ∧ (-1 : Int) = -1 ∧ (X.1 0 1).toInt = (X.1 0 1).toInt) from by have := (show 0 ≤ (X.1 0 1).toInt ∧ (X.1 0 1).toInt ≤ 3000 from hI.1 0 1); omega)⟩
  · skip
    have g3 := i32_le p1
    refine ok.letE (v1 := (X.1 0 1)) rfl ?_
    have g4 : 0 ≤ (X.1 0 1).toInt ∧ (X.1 0 1).toInt ≤ 3000 := hI.1 0 1
    refine ok.ite (fun c5 => ?_) (fun c5 => ?_)
    · skip
      refine ok.wI (L := [1]) hI (show 0 ≤ p1.toInt ∧ p1.toInt ≤ 3000 from by omega) (show (1 : Nat) ∈ [1] from by decide) (by decide) (fun Z6 hIZ6 hFZ6 hkZ6 hoZ6 => ?_)
      exact ok.ret ⟨⟨(Fr.rf.tr hFZ6 (fun _ q => q)), hIZ6⟩, (show (0 ≤ p1.toInt ∧ p1.toInt ≤ (X.1 0 1).toInt ∧ p1.toInt = p1.toInt ∧ (Z6.1 0 1).toInt = p1.toInt) ∨ (¬ (0 ≤ p1.toInt ∧ p1.toInt ≤ (X.1 0 1).toInt) ∧ p1.toInt = -1 ∧ (Z6.1 0 1).toInt = (X.1 0 1).toInt) from by have := (show 0 ≤ (X.1 0 1).toInt ∧ (X.1 0 1).toInt ≤ 3000 from hI.1 0 1); have := (show (Z6.1 0 1).toInt = p1.toInt from congrArg Int32.toInt hkZ6); omega)⟩
    · skip
      exact ok.ret ⟨⟨(Fr.rf : Fr YC [1] _ _), hI⟩, (show (0 ≤ p1.toInt ∧ p1.toInt ≤ (X.1 0 1).toInt ∧ (-1 : Int) = p1.toInt ∧ (X.1 0 1).toInt = p1.toInt) ∨ (¬ (0 ≤ p1.toInt ∧ p1.toInt ≤ (X.1 0 1).toInt) ∧ (-1 : Int) = -1 ∧ (X.1 0 1).toInt = (X.1 0 1).toInt) from by have := (show 0 ≤ (X.1 0 1).toInt ∧ (X.1 0 1).toInt ≤ 3000 from hI.1 0 1); omega)⟩
set_option maxHeartbeats 4000000 in
theorem v_Court_fault_C2 {p1 : Int32} {X : St} (hI : INV X) : ok (g_Court_fault p1 X) (fun r Y => (X = Y)) := by
  unfold g_Court_fault
  refine ok.ite (fun c1 => ?_) (fun c1 => ?_)
  · skip
    have g2 := i32_le p1
    refine ok.letE (v1 := (X.1 0 7)) rfl ?_
    exact ok.ret rfl
  · skip
    refine ok.ite (fun c3 => ?_) (fun c3 => ?_)
    · skip
      have g4 := i32_le p1
      refine ok.letE (v1 := (X.1 0 8)) rfl ?_
      exact ok.ret rfl
    · skip
      exact ok.ret rfl
set_option maxHeartbeats 4000000 in
theorem v_Court_isPart_C2 {p1 : Int32} {X : St} (hI : INV X) (hr0_9 : X.2.2 0 9 = 3) : ok (g_Court_isPart p1 X) (fun r Y => (X = Y) ∧ (r.toInt = 0 ∨ (r.toInt = 1 ∧ 0 ≤ p1.toInt ∧ p1.toInt ≤ 39))) := by
  unfold g_Court_isPart
  refine ok.letE (v1 := (X.1 0 3)) rfl ?_
  refine ok.ite (fun c1 => ?_) (fun c1 => ?_)
  · skip
    have g2 := i32_le (X.1 0 3)
    exact ok.ret ⟨rfl, (show (0 : Int) = 0 ∨ ((0 : Int) = 1 ∧ 0 ≤ p1.toInt ∧ p1.toInt ≤ 39) from by omega)⟩
  · skip
    refine ok.ite (fun c3 => ?_) (fun c3 => ?_)
    · skip
      have g4 := i32_le p1
      exact ok.ret ⟨rfl, (show (0 : Int) = 0 ∨ ((0 : Int) = 1 ∧ 0 ≤ p1.toInt ∧ p1.toInt ≤ 39) from by omega)⟩
    · skip
      have g5 := i32_le p1
      refine ok.ck (by rw [hr0_9]; decide) ?_
      refine ok.letE (v1 := 2) (by rw [hr0_9]) ?_
      refine ok.letE (v1 := (X.1 2 1)) rfl ?_
      have g6 : 0 ≤ (X.1 2 1).toInt ∧ (X.1 2 1).toInt ≤ 40 := hI.1 2 1
      refine ok.ite (fun c7 => ?_) (fun c7 => ?_)
      · skip
        exact ok.ret ⟨rfl, (show (0 : Int) = 0 ∨ ((0 : Int) = 1 ∧ 0 ≤ p1.toInt ∧ p1.toInt ≤ 39) from by omega)⟩
      · skip
        exact ok.ret ⟨rfl, (show (1 : Int) = 0 ∨ ((1 : Int) = 1 ∧ 0 ≤ p1.toInt ∧ p1.toInt ≤ 39) from by omega)⟩
set_option maxHeartbeats 4000000 in
theorem v_Court_tell_C2 {p1 : Int32} {p2 : Int32} {X : St} (hI : INV X) (hr0_9 : X.2.2 0 9 = 3) : ok (g_Court_tell p1 p2 X) (fun r Y => (Fr YC [4, 3600] X Y ∧ INV Y)) := by
  unfold g_Court_tell
  refine ok.bd (v_Court_isPart_C2 hI hr0_9) ?_
  rintro x1 _ ⟨rfl, hp1⟩
  have hp1 : x1.toInt = 0 ∨ (x1.toInt = 1 ∧ 0 ≤ p1.toInt ∧ p1.toInt ≤ 39) := hp1
  refine ok.ite (fun c2 => ?_) (fun c2 => ?_)
  · skip
    have g3 := i32_le x1
    exact ok.ret ⟨(Fr.rf : Fr YC [4, 3600] _ _), hI⟩
  · skip
    refine ok.ck (by rw [hr0_9]; decide) ?_
    refine ok.letE (v1 := 2) (by rw [hr0_9]) ?_
    refine ok.letE (v1 := 18) (by decide) ?_
    refine ok.ck (show 0 ≤ p1.toInt ∧ p1.toInt < ((40 : Nat) : Int) from by omega) ?_
    refine ok.wI (L := [3600]) hI (show True from trivial) (show (3600 : Nat) ∈ [3600] from by decide) (by decide) (fun Z4 hIZ4 hFZ4 hkZ4 hoZ4 => ?_)
    refine ok.wI (L := [4]) hIZ4 (show True from trivial) (show (4 : Nat) ∈ [4] from by decide) (by decide) (fun Z5 hIZ5 hFZ5 hkZ5 hoZ5 => ?_)
    exact ok.ret ⟨((Fr.rf.tr hFZ4 (by decide)).tr hFZ5 (by decide)), hIZ5⟩
def Qv65 : List Nat := [4, 7, 8, 600, 800, 1000, 1200, 1400, 1600, 1800, 2000, 4400, 11005, 11200, 11400, 11600, 11800, 12000, 12200, 12201, 12202, 12203, 12204, 12205, 12214, 12400, 12600, 12800, 13000, 13200, 13400, 13600, 13800]
theorem n406_Qv65 : (406 : Nat) ∉ Qv65 := by decide
theorem n401_Qv65 : (401 : Nat) ∉ Qv65 := by decide
theorem n4000_Qv65 : (4000 : Nat) ∉ Qv65 := by decide
theorem n4200_Qv65 : (4200 : Nat) ∉ Qv65 := by decide
theorem n3800_Qv65 : (3800 : Nat) ∉ Qv65 := by decide
theorem sQv10_Qv65 : ∀ k ∈ Qv10, k ∈ Qv65 := by decide
set_option maxHeartbeats 4000000 in
theorem v_Court_judge_C2 {X : St} (hI : INV X) (hr0_9 : X.2.2 0 9 = 3) (hP : PGC 2 20 21 19 X) : ok (g_Court_judge X) (fun r Y => (Fr YC Qv65 X Y ∧ INV Y)) := by
  unfold g_Court_judge
  refine ok.wI (L := [4]) hI (show True from trivial) (show (4 : Nat) ∈ [4] from by decide) (by decide) (fun Z1 hIZ1 hFZ1 hkZ1 hoZ1 => ?_)
  refine ok.wI (L := [7]) hIZ1 (show True from trivial) (show (7 : Nat) ∈ [7] from by decide) (by decide) (fun Z2 hIZ2 hFZ2 hkZ2 hoZ2 => ?_)
  refine ok.wI (L := [8]) hIZ2 (show True from trivial) (show (8 : Nat) ∈ [8] from by decide) (by decide) (fun Z3 hIZ3 hFZ3 hkZ3 hoZ3 => ?_)
  refine ok.letE (v1 := (X.1 0 3)) (((hFZ3.1 0 3 (show (3 : Nat) ∉ [8] from by decide)).trans (hFZ2.1 0 3 (show (3 : Nat) ∉ [7] from by decide))).trans (hFZ1.1 0 3 (show (3 : Nat) ∉ [4] from by decide))) ?_
  refine ok.ite (fun c4 => ?_) (fun c4 => ?_)
  · skip
    have g5 := i32_le (X.1 0 3)
    exact ok.ret ⟨(((Fr.rf.tr hFZ1 (by decide)).tr hFZ2 (by decide)).tr hFZ3 (by decide)), hIZ3⟩
  · skip
    refine ok.ck (by rw [((((hFZ3.2.2 0 9 (show (9 : Nat) ∉ [8] from by decide)).trans (hFZ2.2.2 0 9 (show (9 : Nat) ∉ [7] from by decide))).trans (hFZ1.2.2 0 9 (show (9 : Nat) ∉ [4] from by decide))).trans hr0_9)]; decide) ?_
    refine ok.letE (v1 := 2) (by rw [((((hFZ3.2.2 0 9 (show (9 : Nat) ∉ [8] from by decide)).trans (hFZ2.2.2 0 9 (show (9 : Nat) ∉ [7] from by decide))).trans (hFZ1.2.2 0 9 (show (9 : Nat) ∉ [4] from by decide))).trans hr0_9)]) ?_
    refine ok.bd (v_Judging_judgeAll_2_55 hIZ3 (PGC.fr hP (((Fr.rf.tr hFZ1 (by decide)).tr hFZ2 (by decide)).tr hFZ3 (by decide)) ⟨n406_Qv65, n401_Qv65, fun j => n4000_Qv65, fun j => n4200_Qv65, fun j => n3800_Qv65⟩)) ?_
    rintro r_6 Z8 ⟨hFZ8, hIZ8⟩
    refine ok.letE (v1 := (Z8.1 61 4)) rfl ?_
    refine ok.wI (L := [7]) hIZ8 (show True from trivial) (show (7 : Nat) ∈ [7] from by decide) (by decide) (fun Z9 hIZ9 hFZ9 hkZ9 hoZ9 => ?_)
    refine ok.letE (v1 := (Z8.1 61 5)) (hFZ9.1 61 5 (show (12205 : Nat) ∉ [7] from by decide)) ?_
    refine ok.wI (L := [8]) hIZ9 (show True from trivial) (show (8 : Nat) ∈ [8] from by decide) (by decide) (fun Z10 hIZ10 hFZ10 hkZ10 hoZ10 => ?_)
    refine ok.letE (v1 := (Z8.1 61 4)) ((hFZ10.1 0 7 (show (7 : Nat) ∉ [8] from by decide)).trans hkZ9) ?_
    refine ok.ite (fun c11 => ?_) (fun c11 => ?_)
    · skip
      have g12 := i32_le (Z8.1 61 4)
      unfold g_Court_judge_74
      have l13 : ((1) : Int32).toInt = (1) := by decide
      refine ok.ck (show (1 : Int32).toInt = 0 ∨ (1 : Int32).toInt = 1 from by omega) ?_
      refine ok.wI (L := [4]) hIZ10 (show True from trivial) (show (4 : Nat) ∈ [4] from by decide) (by decide) (fun Z14 hIZ14 hFZ14 hkZ14 hoZ14 => ?_)
      refine ok.letE (v1 := (1 : Int32)) hkZ14 ?_
      refine ok.ite (fun c15 => absurd c15 (show ¬ ((1 : Int32).toInt = 0) from by omega)) (fun c15 => ?_)
      refine ok.letE (v1 := (Z8.1 55 5)) (((hFZ14.1 55 5 (show (11005 : Nat) ∉ [4] from by decide)).trans (hFZ10.1 55 5 (show (11005 : Nat) ∉ [8] from by decide))).trans (hFZ9.1 55 5 (show (11005 : Nat) ∉ [7] from by decide))) ?_
      have g16 : 0 ≤ (Z8.1 55 5).toInt ∧ (Z8.1 55 5).toInt ≤ 3000 := hIZ8.1 55 5
      exact ok.ret ⟨(((((((Fr.rf.tr hFZ1 (by decide)).tr hFZ2 (by decide)).tr hFZ3 (by decide)).tr hFZ8 sQv10_Qv65).tr hFZ9 (by decide)).tr hFZ10 (by decide)).tr hFZ14 (by decide)), hIZ14⟩
    · skip
      unfold g_Court_judge_74
      have l17 : ((0) : Int32).toInt = (0) := by decide
      refine ok.ck (show (0 : Int32).toInt = 0 ∨ (0 : Int32).toInt = 1 from by omega) ?_
      refine ok.wI (L := [4]) hIZ10 (show True from trivial) (show (4 : Nat) ∈ [4] from by decide) (by decide) (fun Z18 hIZ18 hFZ18 hkZ18 hoZ18 => ?_)
      refine ok.letE (v1 := (0 : Int32)) hkZ18 ?_
      refine ok.ite (fun c19 => ?_) (fun c19 => absurd (show (0 : Int32).toInt = 0 from by omega) c19)
      exact ok.ret ⟨(((((((Fr.rf.tr hFZ1 (by decide)).tr hFZ2 (by decide)).tr hFZ3 (by decide)).tr hFZ8 sQv10_Qv65).tr hFZ9 (by decide)).tr hFZ10 (by decide)).tr hFZ18 (by decide)), hIZ18⟩
set_option maxHeartbeats 4000000 in
theorem v_Court_guard_C2 {p1 : Int32} {p2 : Int32} {X : St} (hI : INV X) (hr0_9 : X.2.2 0 9 = 3) : ok (g_Court_guard p1 p2 X) (fun r Y => (X = Y)) := by
  unfold g_Court_guard
  refine ok.letE (v1 := (X.1 0 4)) rfl ?_
  refine ok.ite (fun c1 => ?_) (fun c1 => ?_)
  · skip
    have g2 := i32_le (X.1 0 4)
    exact ok.ret rfl
  · skip
    refine ok.ite (fun c3 => ?_) (fun c3 => ?_)
    · skip
      have g4 := i32_le p1
      exact ok.ret rfl
    · skip
      have g5 := i32_le p1
      refine ok.letE (v1 := (X.1 55 5)) rfl ?_
      have g6 : 0 ≤ (X.1 55 5).toInt ∧ (X.1 55 5).toInt ≤ 3000 := hI.1 55 5
      refine ok.ite (fun c7 => ?_) (fun c7 => ?_)
      · skip
        refine ok.ite (fun c8 => ?_) (fun c8 => ?_)
        · skip
          have g9 := i32_le p2
          refine ok.ck (show 0 ≤ p1.toInt ∧ p1.toInt < ((3000 : Nat) : Int) from by omega) ?_
          refine ok.letE (v1 := (X.1 56 (ix p1))) rfl ?_
          exact ok.ret rfl
        · skip
          refine ok.ite (fun c10 => ?_) (fun c10 => ?_)
          · skip
            have g11 := i32_le p2
            refine ok.ck (show 0 ≤ p1.toInt ∧ p1.toInt < ((3000 : Nat) : Int) from by omega) ?_
            refine ok.letE (v1 := (X.1 57 (ix p1))) rfl ?_
            exact ok.ret rfl
          · skip
            refine ok.ite (fun c12 => ?_) (fun c12 => ?_)
            · skip
              have g13 := i32_le p2
              refine ok.ck (show 0 ≤ p1.toInt ∧ p1.toInt < ((3000 : Nat) : Int) from by omega) ?_
              refine ok.letE (v1 := (X.1 58 (ix p1))) rfl ?_
              exact ok.ret rfl
            · skip
              refine ok.ite (fun c14 => ?_) (fun c14 => ?_)
              · skip
                have g15 := i32_le p2
                refine ok.ck (by rw [hr0_9]; decide) ?_
                refine ok.letE (v1 := 2) (by rw [hr0_9]) ?_
                refine ok.letE (v1 := 3) (by decide) ?_
                refine ok.ck (show 0 ≤ p1.toInt ∧ p1.toInt < ((3000 : Nat) : Int) from by omega) ?_
                refine ok.letE (v1 := (X.1 59 (ix p1))) rfl ?_
                refine ok.bd (v_Kinds_codeOf_3 hI) ?_
                rintro x13 _ rfl
                exact ok.ret rfl
              · skip
                refine ok.ite (fun c17 => ?_) (fun c17 => ?_)
                · skip
                  have g18 := i32_le p2
                  refine ok.ck (by rw [hr0_9]; decide) ?_
                  refine ok.letE (v1 := 2) (by rw [hr0_9]) ?_
                  refine ok.letE (v1 := 3) (by decide) ?_
                  refine ok.ck (show 0 ≤ p1.toInt ∧ p1.toInt < ((3000 : Nat) : Int) from by omega) ?_
                  refine ok.letE (v1 := (X.1 60 (ix p1))) rfl ?_
                  refine ok.bd (v_Kinds_codeOf_3 hI) ?_
                  rintro x19 _ rfl
                  exact ok.ret rfl
                · skip
                  exact ok.ret rfl
      · skip
        exact ok.ret rfl
set_option maxHeartbeats 4000000 in
theorem v_Court_part_C2 {p1 : Int32} {p2 : Int32} {X : St} (hI : INV X) (hr0_9 : X.2.2 0 9 = 3) : ok (g_Court_part p1 p2 X) (fun r Y => (X = Y)) := by
  unfold g_Court_part
  refine ok.bd (v_Court_isPart_C2 hI hr0_9) ?_
  rintro x1 _ ⟨rfl, hp1⟩
  have hp1 : x1.toInt = 0 ∨ (x1.toInt = 1 ∧ 0 ≤ p1.toInt ∧ p1.toInt ≤ 39) := hp1
  refine ok.ite (fun c2 => ?_) (fun c2 => ?_)
  · skip
    have g3 := i32_le x1
    exact ok.ret rfl
  · skip
    refine ok.ite (fun c4 => ?_) (fun c4 => ?_)
    · skip
      have g5 := i32_le p2
      refine ok.ck (by rw [hr0_9]; decide) ?_
      refine ok.letE (v1 := 2) (by rw [hr0_9]) ?_
      refine ok.letE (v1 := 18) (by decide) ?_
      refine ok.ck (show 0 ≤ p1.toInt ∧ p1.toInt < ((40 : Nat) : Int) from by omega) ?_
      refine ok.letE (v1 := (X.1 18 (ix p1))) rfl ?_
      refine ok.ite (fun c6 => ?_) (fun c6 => ?_)
      · skip
        have g7 := i32_le (X.1 18 (ix p1))
        exact ok.ret rfl
      · skip
        exact ok.ret rfl
    · skip
      refine ok.ite (fun c8 => ?_) (fun c8 => ?_)
      · skip
        have g9 := i32_le p2
        refine ok.ck (by rw [hr0_9]; decide) ?_
        refine ok.letE (v1 := 2) (by rw [hr0_9]) ?_
        refine ok.letE (v1 := 15) (by decide) ?_
        refine ok.ck (show 0 ≤ p1.toInt ∧ p1.toInt < ((40 : Nat) : Int) from by omega) ?_
        refine ok.letE (v1 := (X.1 15 (ix p1))) rfl ?_
        have g10 : 0 ≤ (X.1 15 (ix p1)).toInt ∧ (X.1 15 (ix p1)).toInt ≤ 4 := hI.1 15 (ix p1)
        exact ok.ret rfl
      · skip
        refine ok.ite (fun c11 => ?_) (fun c11 => ?_)
        · skip
          have g12 := i32_le p2
          refine ok.ck (by rw [hr0_9]; decide) ?_
          refine ok.letE (v1 := 2) (by rw [hr0_9]) ?_
          refine ok.letE (v1 := 13) (by decide) ?_
          refine ok.ck (show 0 ≤ p1.toInt ∧ p1.toInt < ((40 : Nat) : Int) from by omega) ?_
          refine ok.letE (v1 := (X.1 13 (ix p1))) rfl ?_
          exact ok.ret rfl
        · skip
          refine ok.ite (fun c13 => ?_) (fun c13 => ?_)
          · skip
            have g14 := i32_le p2
            refine ok.letE (v1 := (X.1 0 4)) rfl ?_
            refine ok.ite (fun c15 => ?_) (fun c15 => ?_)
            · skip
              have g16 := i32_le (X.1 0 4)
              exact ok.ret rfl
            · skip
              refine ok.ck (show 0 ≤ p1.toInt ∧ p1.toInt < ((40 : Nat) : Int) from by omega) ?_
              refine ok.letE (v1 := (X.1 62 (ix p1))) rfl ?_
              refine ok.ite (fun c17 => ?_) (fun c17 => ?_)
              · skip
                have g18 := i32_le (X.1 62 (ix p1))
                exact ok.ret rfl
              · skip
                exact ok.ret rfl
          · skip
            refine ok.ite (fun c19 => ?_) (fun c19 => ?_)
            · skip
              have g20 := i32_le p2
              refine ok.ck (by rw [hr0_9]; decide) ?_
              refine ok.letE (v1 := 2) (by rw [hr0_9]) ?_
              refine ok.letE (v1 := 14) (by decide) ?_
              refine ok.ck (show 0 ≤ p1.toInt ∧ p1.toInt < ((40 : Nat) : Int) from by omega) ?_
              refine ok.letE (v1 := (X.1 14 (ix p1))) rfl ?_
              exact ok.ret rfl
            · skip
              refine ok.ck (by rw [hr0_9]; decide) ?_
              refine ok.letE (v1 := 2) (by rw [hr0_9]) ?_
              refine ok.any (fun x23 => ?_)
              refine ok.bd (v_Program_letterOf_2 hI (show 0 ≤ p1.toInt ∧ p1.toInt ≤ 39 from by omega)) ?_
              rintro x24 _ rfl
              exact ok.ret rfl
def Qv66 : List Nat := [5, 14000, 14002, 14003, 14004, 14005, 14006, 14007, 14008, 14009, 14010, 14011, 14015, 14018, 14200, 14201, 14202, 14400, 14600, 14800, 15000, 15200, 15400, 15600, 15800, 16000, 16200, 16400, 16600, 16800, 17000, 17200, 17400]
set_option maxHeartbeats 4000000 in
theorem v_Court_isFuel {p0 : Int32} {X : St} (hI : INV X) : ok (g_Court_isFuel p0 X) (fun r Y => (X = Y)) := by
  unfold g_Court_isFuel
  refine ok.ite (fun c1 => ?_) (fun c1 => ?_)
  · skip
    have g2 := i32_le p0
    exact ok.ret rfl
  · skip
    have g3 := i32_le p0
    refine ok.ite (fun c4 => ?_) (fun c4 => ?_)
    · skip
      exact ok.ret rfl
    · skip
      exact ok.ret rfl
theorem n406_Qv66 : (406 : Nat) ∉ Qv66 := by decide
theorem n401_Qv66 : (401 : Nat) ∉ Qv66 := by decide
theorem n4000_Qv66 : (4000 : Nat) ∉ Qv66 := by decide
theorem n4200_Qv66 : (4200 : Nat) ∉ Qv66 := by decide
theorem n3800_Qv66 : (3800 : Nat) ∉ Qv66 := by decide
theorem sQv11_Qv66 : ∀ k ∈ Qv11, k ∈ Qv66 := by decide
set_option maxHeartbeats 4000000 in
theorem v_Court_run_C2 {p1 : Int32} {X : St} (hI : INV X) (hr0_9 : X.2.2 0 9 = 3) (hP : PGC 2 20 21 19 X) : ok (g_Court_run p1 X) (fun r Y => (Fr YC Qv66 X Y ∧ INV Y)) := by
  unfold g_Court_run
  refine ok.letE (v1 := (X.1 0 4)) rfl ?_
  refine ok.ite (fun c1 => ?_) (fun c1 => ?_)
  · skip
    have g2 := i32_le (X.1 0 4)
    exact ok.ret ⟨(Fr.rf : Fr YC Qv66 _ _), hI⟩
  · skip
    refine ok.bd (v_Court_isFuel hI) ?_
    rintro x2 _ rfl
    refine ok.ite (fun c4 => ?_) (fun c4 => ?_)
    · skip
      have g5 := i32_le x2
      exact ok.ret ⟨(Fr.rf : Fr YC Qv66 _ _), hI⟩
    · skip
      refine ok.wI (L := [5]) hI (show True from trivial) (show (5 : Nat) ∈ [5] from by decide) (by decide) (fun Z6 hIZ6 hFZ6 hkZ6 hoZ6 => ?_)
      refine ok.ck (by rw [((hFZ6.2.2 0 9 (show (9 : Nat) ∉ [5] from by decide)).trans hr0_9)]; decide) ?_
      refine ok.letE (v1 := 2) (by rw [((hFZ6.2.2 0 9 (show (9 : Nat) ∉ [5] from by decide)).trans hr0_9)]) ?_
      refine ok.bd (v_Running_runAll_2_55 hIZ6 (show (1 : Int) = 0 ∨ (1 : Int) = 1 from by omega) (PGC.fr hP (Fr.rf.tr hFZ6 (by decide)) ⟨n406_Qv66, n401_Qv66, fun j => n4000_Qv66, fun j => n4200_Qv66, fun j => n3800_Qv66⟩)) ?_
      rintro x6 Z8 ⟨hFZ8, hIZ8⟩
      exact ok.ret ⟨((Fr.rf.tr hFZ6 (by decide)).tr hFZ8 sQv11_Qv66), hIZ8⟩
set_option maxHeartbeats 4000000 in
theorem v_Court_runUntold_C2 {p1 : Int32} {X : St} (hI : INV X) (hr0_9 : X.2.2 0 9 = 3) (hP : PGC 2 20 21 19 X) : ok (g_Court_runUntold p1 X) (fun r Y => (Fr YC Qv66 X Y ∧ INV Y)) := by
  unfold g_Court_runUntold
  refine ok.letE (v1 := (X.1 0 3)) rfl ?_
  refine ok.ite (fun c1 => ?_) (fun c1 => ?_)
  · skip
    have g2 := i32_le (X.1 0 3)
    exact ok.ret ⟨(Fr.rf : Fr YC Qv66 _ _), hI⟩
  · skip
    refine ok.bd (v_Court_isFuel hI) ?_
    rintro x2 _ rfl
    refine ok.ite (fun c4 => ?_) (fun c4 => ?_)
    · skip
      have g5 := i32_le x2
      exact ok.ret ⟨(Fr.rf : Fr YC Qv66 _ _), hI⟩
    · skip
      refine ok.wI (L := [5]) hI (show True from trivial) (show (5 : Nat) ∈ [5] from by decide) (by decide) (fun Z6 hIZ6 hFZ6 hkZ6 hoZ6 => ?_)
      refine ok.ck (by rw [((hFZ6.2.2 0 9 (show (9 : Nat) ∉ [5] from by decide)).trans hr0_9)]; decide) ?_
      refine ok.letE (v1 := 2) (by rw [((hFZ6.2.2 0 9 (show (9 : Nat) ∉ [5] from by decide)).trans hr0_9)]) ?_
      refine ok.bd (v_Running_runAll_2_55 hIZ6 (show (0 : Int) = 0 ∨ (0 : Int) = 1 from by omega) (PGC.fr hP (Fr.rf.tr hFZ6 (by decide)) ⟨n406_Qv66, n401_Qv66, fun j => n4000_Qv66, fun j => n4200_Qv66, fun j => n3800_Qv66⟩)) ?_
      rintro x6 Z8 ⟨hFZ8, hIZ8⟩
      exact ok.ret ⟨((Fr.rf.tr hFZ6 (by decide)).tr hFZ8 sQv11_Qv66), hIZ8⟩
set_option maxHeartbeats 4000000 in
theorem v_Court_told_C2 {p1 : Int32} {X : St} (hI : INV X) : ok (g_Court_told p1 X) (fun r Y => (X = Y)) := by
  unfold g_Court_told
  refine ok.letE (v1 := (X.1 0 5)) rfl ?_
  refine ok.ite (fun c1 => ?_) (fun c1 => ?_)
  · skip
    have g2 := i32_le (X.1 0 5)
    exact ok.ret rfl
  · skip
    refine ok.bd (v_Running_tellOf hI) ?_
    rintro x2 _ rfl
    exact ok.ret rfl
set_option maxHeartbeats 4000000 in
theorem v_Court_out_C2 {p1 : Int32} {X : St} (hI : INV X) : ok (g_Court_out p1 X) (fun r Y => (X = Y)) := by
  unfold g_Court_out
  refine ok.letE (v1 := (X.1 0 5)) rfl ?_
  refine ok.ite (fun c1 => ?_) (fun c1 => ?_)
  · skip
    have g2 := i32_le (X.1 0 5)
    exact ok.ret rfl
  · skip
    refine ok.ite (fun c3 => ?_) (fun c3 => ?_)
    · skip
      have g4 := i32_le p1
      exact ok.ret rfl
    · skip
      have g5 := i32_le p1
      refine ok.letE (v1 := (X.1 70 18)) rfl ?_
      have g6 : 0 ≤ (X.1 70 18).toInt ∧ (X.1 70 18).toInt ≤ 200 := hI.1 70 18
      refine ok.ite (fun c7 => ?_) (fun c7 => ?_)
      · skip
        refine ok.ck (show 0 ≤ p1.toInt ∧ p1.toInt < ((200 : Nat) : Int) from by omega) ?_
        refine ok.letE (v1 := (X.1 86 (ix p1))) rfl ?_
        exact ok.ret rfl
      · skip
        exact ok.ret rfl
set_option maxHeartbeats 4000000 in
theorem v_Court_asked_C2 {p1 : Int32} {p2 : Int32} {X : St} (hI : INV X) (hr0_9 : X.2.2 0 9 = 3) : ok (g_Court_asked p1 p2 X) (fun r Y => (X = Y)) := by
  unfold g_Court_asked
  refine ok.letE (v1 := (X.1 0 5)) rfl ?_
  refine ok.ite (fun c1 => ?_) (fun c1 => ?_)
  · skip
    have g2 := i32_le (X.1 0 5)
    exact ok.ret rfl
  · skip
    refine ok.bd (v_Court_isPart_C2 hI hr0_9) ?_
    rintro x2 _ ⟨rfl, hp3⟩
    have hp3 : x2.toInt = 0 ∨ (x2.toInt = 1 ∧ 0 ≤ p1.toInt ∧ p1.toInt ≤ 39) := hp3
    refine ok.ite (fun c4 => ?_) (fun c4 => ?_)
    · skip
      have g5 := i32_le x2
      exact ok.ret rfl
    · skip
      refine ok.bd (v_Court_isPart_C2 hI hr0_9) ?_
      rintro x4 _ ⟨rfl, hp6⟩
      have hp6 : x4.toInt = 0 ∨ (x4.toInt = 1 ∧ 0 ≤ p2.toInt ∧ p2.toInt ≤ 39) := hp6
      refine ok.ite (fun c7 => ?_) (fun c7 => ?_)
      · skip
        have g8 := i32_le x4
        exact ok.ret rfl
      · skip
        refine ok.mul (show _ ≤ p1.toInt * (40 : Int) ∧ p1.toInt * (40 : Int) ≤ _ from by omega) (fun x6 hx6 => ?_)
        have hx6 : x6.toInt = p1.toInt * (40 : Int) := hx6
        refine ok.add (show _ ≤ x6.toInt + p2.toInt ∧ x6.toInt + p2.toInt ≤ _ from by omega) (fun x7 hx7 => ?_)
        have hx7 : x7.toInt = x6.toInt + p2.toInt := hx7
        refine ok.ck (show 0 ≤ x7.toInt ∧ x7.toInt < ((1600 : Nat) : Int) from by omega) ?_
        refine ok.letE (v1 := (X.1 87 (ix x7))) rfl ?_
        exact ok.ret rfl
set_option maxHeartbeats 4000000 in
theorem v_Court_about_C2 {p1 : Int32} {X : St} (hI : INV X) (hr0_9 : X.2.2 0 9 = 3) : ok (g_Court_about p1 X) (fun r Y => (X = Y)) := by
  unfold g_Court_about
  refine ok.ite (fun c1 => ?_) (fun c1 => ?_)
  · skip
    have g2 := i32_le p1
    refine ok.letE (v1 := (X.1 0 1)) rfl ?_
    have g3 : 0 ≤ (X.1 0 1).toInt ∧ (X.1 0 1).toInt ≤ 3000 := hI.1 0 1
    exact ok.ret rfl
  · skip
    refine ok.ite (fun c4 => ?_) (fun c4 => ?_)
    · skip
      have g5 := i32_le p1
      refine ok.letE (v1 := (X.1 0 3)) rfl ?_
      refine ok.ite (fun c6 => ?_) (fun c6 => ?_)
      · skip
        have g7 := i32_le (X.1 0 3)
        exact ok.ret rfl
      · skip
        refine ok.ck (by rw [hr0_9]; decide) ?_
        refine ok.letE (v1 := 2) (by rw [hr0_9]) ?_
        refine ok.letE (v1 := (X.1 2 1)) rfl ?_
        have g8 : 0 ≤ (X.1 2 1).toInt ∧ (X.1 2 1).toInt ≤ 40 := hI.1 2 1
        exact ok.ret rfl
    · skip
      refine ok.ite (fun c9 => ?_) (fun c9 => ?_)
      · skip
        have g10 := i32_le p1
        refine ok.letE (v1 := (X.1 0 4)) rfl ?_
        refine ok.ite (fun c11 => ?_) (fun c11 => ?_)
        · skip
          have g12 := i32_le (X.1 0 4)
          exact ok.ret rfl
        · skip
          exact ok.ret rfl
      · skip
        refine ok.ite (fun c13 => ?_) (fun c13 => ?_)
        · skip
          have g14 := i32_le p1
          refine ok.letE (v1 := (X.1 0 4)) rfl ?_
          refine ok.ite (fun c15 => ?_) (fun c15 => ?_)
          · skip
            have g16 := i32_le (X.1 0 4)
            exact ok.ret rfl
          · skip
            refine ok.letE (v1 := (X.1 55 5)) rfl ?_
            have g17 : 0 ≤ (X.1 55 5).toInt ∧ (X.1 55 5).toInt ≤ 3000 := hI.1 55 5
            exact ok.ret rfl
        · skip
          exact ok.ret rfl
def Qv67 : List Nat := [1, 7, 8, 4801, 4802, 4805, 4806, 5000, 5200, 5400, 5600, 5800, 6000, 6200, 6400, 6800, 7000, 7200, 7400, 7600, 7800, 8000, 8200, 8400, 8600, 8800, 9000, 9201, 9202, 9203, 9204, 9205, 9206, 9209, 9400, 9401, 9402, 9403, 9404, 9405, 9406, 9407, 9800, 10000, 10200, 10400, 10600, 10800]
def Qv68 : List Nat := [1, 2, 3, 4, 5, 7, 8, 9, 4801, 4802, 4805, 4806, 5000, 5200, 5400, 5600, 5800, 6000, 6200, 6400, 6800, 7000, 7200, 7400, 7600, 7800, 8000, 8200, 8400, 8600, 8800, 9000, 9201, 9202, 9203, 9204, 9205, 9206, 9209, 9400, 9401, 9402, 9403, 9404, 9405, 9406, 9407, 9800, 10000, 10200, 10400, 10600, 10800]
theorem n9_Qv63 : (9 : Nat) ∉ Qv63 := by decide
theorem n2_Qv63 : (2 : Nat) ∉ Qv63 := by decide
theorem n1_Qv63 : (1 : Nat) ∉ Qv63 := by decide
theorem sQv63_Qv67 : ∀ k ∈ Qv63, k ∈ Qv67 := by decide
theorem sQv67_Qv68 : ∀ k ∈ Qv67, k ∈ Qv68 := by decide
theorem n406_Qv67 : (406 : Nat) ∉ Qv67 := by decide
theorem n401_Qv67 : (401 : Nat) ∉ Qv67 := by decide
theorem n4000_Qv67 : (4000 : Nat) ∉ Qv67 := by decide
theorem n4200_Qv67 : (4200 : Nat) ∉ Qv67 := by decide
theorem n3800_Qv67 : (3800 : Nat) ∉ Qv67 := by decide
theorem rd_C2 {X : St} (hI : INV X) (hr9 : X.2.2 0 9 = 3) (hr2 : X.2.2 0 2 = 25) (hP : PGC 2 20 21 19 X) : ok (g_Court_read X) (fun _ Y => INV Y ∧ (Y.1 0 1).toInt = 0 ∧ ((Y.2.2 0 9 = 3 ∧ Y.2.2 0 2 = 25 ∧ PGC 2 20 21 19 Y) ∨ (Y.2.2 0 9 = 25 ∧ Y.2.2 0 2 = 3 ∧ PGC 24 42 43 41 Y))) := by
  have g1 : 0 ≤ (X.1 0 1).toInt ∧ (X.1 0 1).toInt ≤ 3000 := hI.1 0 1
  unfold g_Court_read
  refine ok.ck (by rw [hr2]; decide) (ok.letE (v1 := 24) (by rw [hr2]) (ok.letE (v1 := X.1 0 1) rfl ?_))
  refine ok.bd (v_readInto_R24T hI g1) ?_
  rintro q Z1 ⟨⟨hF1, hI1⟩, hp1⟩
  have r9 : Z1.2.2 0 9 = 3 := (hF1.2.2 0 9 n9_Qv63).trans hr9
  have r2 : Z1.2.2 0 2 = 25 := (hF1.2.2 0 2 n2_Qv63).trans hr2
  refine ok.wI (L := [1]) hI1 (show 0 ≤ (0 : Int) ∧ (0 : Int) ≤ 3000 from by decide) (show (1 : Nat) ∈ [1] from by decide) (by decide) (fun Z2 hI2 hF2 hk2 _ => ?_)
  refine ok.letE (v1 := Z1.1 46 3) (hF2.1 46 3 (show (9203 : Nat) ∉ [1] from by decide)) ?_
  refine ok.wI (L := [7]) hI2 (show True from trivial) (show (7 : Nat) ∈ [7] from by decide) (by decide) (fun Z3 hI3 hF3 hk3 _ => ?_)
  refine ok.any (fun x7 => ?_)
  refine ok.wI (L := [8]) hI3 (show True from trivial) (show (8 : Nat) ∈ [8] from by decide) (by decide) (fun Z4 hI4 hF4 hk4 _ => ?_)
  have hW : Fr YC [1, 7, 8] Z1 Z4 := ((Fr.mono hF2 (by decide)).tr hF3 (by decide)).tr hF4 (by decide)
  have hA : Fr YC Qv67 X Z4 := (Fr.mono hF1 sQv63_Qv67).tr hW (by decide)
  have t4 : (Z4.1 0 1).toInt = 0 := (congrArg Int32.toInt ((hF4.1 0 1 (show (1 : Nat) ∉ [8] from by decide)).trans ((hF3.1 0 1 (show (1 : Nat) ∉ [7] from by decide)).trans hk2))).trans rfl
  have r94 : Z4.2.2 0 9 = 3 := (hW.2.2 0 9 (show (9 : Nat) ∉ [1, 7, 8] from by decide)).trans r9
  have r24 : Z4.2.2 0 2 = 25 := (hW.2.2 0 2 (show (2 : Nat) ∉ [1, 7, 8] from by decide)).trans r2
  refine ok.letE (v1 := Z1.1 46 3) ((hF4.1 0 7 (show (7 : Nat) ∉ [8] from by decide)).trans hk3) (ok.ite (fun c => ?_) (fun c => ok.ret ⟨hI4, t4, Or.inl ⟨r94, r24, PGC.fr hP hA ⟨n406_Qv67, n401_Qv67, fun j => n4000_Qv67, fun j => n4200_Qv67, fun j => n3800_Qv67⟩⟩⟩))
  have hp4 : PGC 24 42 43 41 Z4 := PGC.fr (hp1 c) hW ⟨(show (4806 : Nat) ∉ [1, 7, 8] from by decide), (show (4801 : Nat) ∉ [1, 7, 8] from by decide), fun j => (show (8400 : Nat) ∉ [1, 7, 8] from by decide), fun j => (show (8600 : Nat) ∉ [1, 7, 8] from by decide), fun j => (show (8200 : Nat) ∉ [1, 7, 8] from by decide)⟩
  refine ok.ck (by rw [r94]; decide) (ok.letE (v1 := 2) (by rw [r94]) ?_)
  refine ok.ck (by rw [r24]; decide) (ok.letE (v1 := 24) (by rw [r24]) ?_)
  refine ok.wR (L := [9]) hI4 (show (9 : Nat) ∈ [9] from by decide) (fun Z5 hI5 hF5 he5 hR5 => ?_)
  refine ok.wR (L := [2]) hI5 (show (2 : Nat) ∈ [2] from by decide) (fun Z6 hI6 hF6 he6 hR6 => ?_)
  refine ok.wI (L := [3]) hI6 (show True from trivial) (show (3 : Nat) ∈ [3] from by decide) (by decide) (fun Z7 hI7 hF7 _ _ => ?_)
  refine ok.wI (L := [4]) hI7 (show True from trivial) (show (4 : Nat) ∈ [4] from by decide) (by decide) (fun Z8 hI8 hF8 _ _ => ?_)
  refine ok.wI (L := [5]) hI8 (show True from trivial) (show (5 : Nat) ∈ [5] from by decide) (by decide) (fun Z9 hI9 hF9 _ _ => ?_)
  have hV : Fr YC [3, 4, 5] Z6 Z9 := ((Fr.mono hF7 (by decide)).tr hF8 (by decide)).tr hF9 (by decide)
  have hU : Fr YC [2, 3, 4, 5, 9] Z4 Z9 := ((Fr.mono hF5 (by decide)).tr hF6 (by decide)).tr hV (by decide)
  have r99 : Z9.2.2 0 9 = 25 := (hV.2.2 0 9 (show (9 : Nat) ∉ [3, 4, 5] from by decide)).trans ((hF6.2.2 0 9 (show (9 : Nat) ∉ [2] from by decide)).trans hR5)
  have r29 : Z9.2.2 0 2 = 3 := (hV.2.2 0 2 (show (2 : Nat) ∉ [3, 4, 5] from by decide)).trans hR6
  refine ok.ck (by rw [r99]; decide) (ok.letE (v1 := 24) (by rw [r99]) (ok.letV (ok.ret ?_)))
  exact ⟨hI9, (congrArg Int32.toInt (hU.1 0 1 (show (1 : Nat) ∉ [2, 3, 4, 5, 9] from by decide))).trans t4, Or.inr ⟨r99, r29, PGC.fr hp4 hU ⟨(show (4806 : Nat) ∉ [2, 3, 4, 5, 9] from by decide), (show (4801 : Nat) ∉ [2, 3, 4, 5, 9] from by decide), fun j => (show (8400 : Nat) ∉ [2, 3, 4, 5, 9] from by decide), fun j => (show (8600 : Nat) ∉ [2, 3, 4, 5, 9] from by decide), fun j => (show (8200 : Nat) ∉ [2, 3, 4, 5, 9] from by decide)⟩⟩⟩
set_option maxHeartbeats 4000000 in
theorem v_Court_feed_C24 {p1 : Int32} {p2 : Int32} {p3 : Int32} {p4 : Int32} {p5 : Int32} {X : St} (hI : INV X) : ok (g_Court_feed p1 p2 p3 p4 p5 X) (fun r Y => (Fr YC [1, 200] X Y ∧ INV Y) ∧ (((X.1 0 1).toInt ≤ 2980 ∧ (Y.1 0 1).toInt = (X.1 0 1).toInt + 20 ∧ r.toInt = (Y.1 0 1).toInt) ∨ (2980 < (X.1 0 1).toInt ∧ (Y.1 0 1).toInt = (X.1 0 1).toInt ∧ r.toInt = -1))) := by
  unfold g_Court_feed
  refine ok.letE (v1 := (X.1 0 1)) rfl ?_
  have g1 : 0 ≤ (X.1 0 1).toInt ∧ (X.1 0 1).toInt ≤ 3000 := hI.1 0 1
  refine ok.add (show _ ≤ (X.1 0 1).toInt + (20 : Int) ∧ (X.1 0 1).toInt + (20 : Int) ≤ _ from by omega) (fun x2 hx2 => ?_)
  have hx2 : x2.toInt = (X.1 0 1).toInt + (20 : Int) := hx2
  refine ok.ite (fun c2 => ?_) (fun c2 => ?_)
  · skip
    refine ok.bd (v_Court_putFour hI) ?_
    rintro r_3 Z5 ⟨⟨hFZ5, hIZ5⟩, hp4⟩
    have hp4 : (X.1 0 1).toInt + 4 ≤ 3000 → (Z5.1 0 1).toInt = (X.1 0 1).toInt + 4 := hp4
    have := (show 0 ≤ (X.1 0 1).toInt ∧ (X.1 0 1).toInt ≤ 3000 from hI.1 0 1)
    have := (show 0 ≤ (Z5.1 0 1).toInt ∧ (Z5.1 0 1).toInt ≤ 3000 from hIZ5.1 0 1)
    refine ok.bd (v_Court_putFour hIZ5) ?_
    rintro r_6 Z8 ⟨⟨hFZ8, hIZ8⟩, hp7⟩
    have hp7 : (Z5.1 0 1).toInt + 4 ≤ 3000 → (Z8.1 0 1).toInt = (Z5.1 0 1).toInt + 4 := hp7
    have := (show 0 ≤ (Z5.1 0 1).toInt ∧ (Z5.1 0 1).toInt ≤ 3000 from hIZ5.1 0 1)
    have := (show 0 ≤ (Z8.1 0 1).toInt ∧ (Z8.1 0 1).toInt ≤ 3000 from hIZ8.1 0 1)
    refine ok.bd (v_Court_putFour hIZ8) ?_
    rintro r_9 Z11 ⟨⟨hFZ11, hIZ11⟩, hp10⟩
    have hp10 : (Z8.1 0 1).toInt + 4 ≤ 3000 → (Z11.1 0 1).toInt = (Z8.1 0 1).toInt + 4 := hp10
    have := (show 0 ≤ (Z8.1 0 1).toInt ∧ (Z8.1 0 1).toInt ≤ 3000 from hIZ8.1 0 1)
    have := (show 0 ≤ (Z11.1 0 1).toInt ∧ (Z11.1 0 1).toInt ≤ 3000 from hIZ11.1 0 1)
    refine ok.bd (v_Court_putFour hIZ11) ?_
    rintro r_12 Z14 ⟨⟨hFZ14, hIZ14⟩, hp13⟩
    have hp13 : (Z11.1 0 1).toInt + 4 ≤ 3000 → (Z14.1 0 1).toInt = (Z11.1 0 1).toInt + 4 := hp13
    have := (show 0 ≤ (Z11.1 0 1).toInt ∧ (Z11.1 0 1).toInt ≤ 3000 from hIZ11.1 0 1)
    have := (show 0 ≤ (Z14.1 0 1).toInt ∧ (Z14.1 0 1).toInt ≤ 3000 from hIZ14.1 0 1)
    refine ok.bd (v_Court_putFour hIZ14) ?_
    rintro r_15 Z17 ⟨⟨hFZ17, hIZ17⟩, hp16⟩
    have hp16 : (Z14.1 0 1).toInt + 4 ≤ 3000 → (Z17.1 0 1).toInt = (Z14.1 0 1).toInt + 4 := hp16
    have := (show 0 ≤ (Z14.1 0 1).toInt ∧ (Z14.1 0 1).toInt ≤ 3000 from hIZ14.1 0 1)
    have := (show 0 ≤ (Z17.1 0 1).toInt ∧ (Z17.1 0 1).toInt ≤ 3000 from hIZ17.1 0 1)
    refine ok.letE (v1 := (Z17.1 0 1)) rfl ?_
    have g18 : 0 ≤ (Z17.1 0 1).toInt ∧ (Z17.1 0 1).toInt ≤ 3000 := hIZ17.1 0 1
    exact ok.ret ⟨⟨(((((Fr.rf.tr hFZ5 (fun _ q => q)).tr hFZ8 (fun _ q => q)).tr hFZ11 (fun _ q => q)).tr hFZ14 (fun _ q => q)).tr hFZ17 (fun _ q => q)), hIZ17⟩, (show ((X.1 0 1).toInt ≤ 2980 ∧ (Z17.1 0 1).toInt = (X.1 0 1).toInt + 20 ∧ (Z17.1 0 1).toInt = (Z17.1 0 1).toInt) ∨ (2980 < (X.1 0 1).toInt ∧ (Z17.1 0 1).toInt = (X.1 0 1).toInt ∧ (Z17.1 0 1).toInt = -1) from by have := (show 0 ≤ (X.1 0 1).toInt ∧ (X.1 0 1).toInt ≤ 3000 from hI.1 0 1); have := (show 0 ≤ (Z17.1 0 1).toInt ∧ (Z17.1 0 1).toInt ≤ 3000 from hIZ17.1 0 1); omega)⟩
  · skip
    exact ok.ret ⟨⟨(Fr.rf : Fr YC [1, 200] _ _), hI⟩, (show ((X.1 0 1).toInt ≤ 2980 ∧ (X.1 0 1).toInt = (X.1 0 1).toInt + 20 ∧ (-1 : Int) = (X.1 0 1).toInt) ∨ (2980 < (X.1 0 1).toInt ∧ (X.1 0 1).toInt = (X.1 0 1).toInt ∧ (-1 : Int) = -1) from by have := (show 0 ≤ (X.1 0 1).toInt ∧ (X.1 0 1).toInt ≤ 3000 from hI.1 0 1); omega)⟩
set_option maxHeartbeats 4000000 in
theorem v_Court_end_C24 {p1 : Int32} {X : St} (hI : INV X) : ok (g_Court_end p1 X) (fun r Y => (Fr YC [1] X Y ∧ INV Y) ∧ ((0 ≤ p1.toInt ∧ p1.toInt ≤ (X.1 0 1).toInt ∧ r.toInt = p1.toInt ∧ (Y.1 0 1).toInt = p1.toInt) ∨ (¬ (0 ≤ p1.toInt ∧ p1.toInt ≤ (X.1 0 1).toInt) ∧ r.toInt = -1 ∧ (Y.1 0 1).toInt = (X.1 0 1).toInt))) := by
  unfold g_Court_end
  refine ok.ite (fun c1 => ?_) (fun c1 => ?_)
  · skip
    have g2 := i32_le p1
    exact ok.ret ⟨⟨(Fr.rf : Fr YC [1] _ _), hI⟩, (show (0 ≤ p1.toInt ∧ p1.toInt ≤ (X.1 0 1).toInt ∧ (-1 : Int) = p1.toInt ∧ (X.1 0 1).toInt = p1.toInt) ∨ (¬ (0 ≤ p1.toInt ∧ p1.toInt ≤ (X.1 0 1).toInt) ∧ (-1 : Int) = -1 ∧ (X.1 0 1).toInt = (X.1 0 1).toInt) from by have := (show 0 ≤ (X.1 0 1).toInt ∧ (X.1 0 1).toInt ≤ 3000 from hI.1 0 1); omega)⟩
  · skip
    have g3 := i32_le p1
    refine ok.letE (v1 := (X.1 0 1)) rfl ?_
    have g4 : 0 ≤ (X.1 0 1).toInt ∧ (X.1 0 1).toInt ≤ 3000 := hI.1 0 1
    refine ok.ite (fun c5 => ?_) (fun c5 => ?_)
    · skip
      refine ok.wI (L := [1]) hI (show 0 ≤ p1.toInt ∧ p1.toInt ≤ 3000 from by omega) (show (1 : Nat) ∈ [1] from by decide) (by decide) (fun Z6 hIZ6 hFZ6 hkZ6 hoZ6 => ?_)
      exact ok.ret ⟨⟨(Fr.rf.tr hFZ6 (fun _ q => q)), hIZ6⟩, (show (0 ≤ p1.toInt ∧ p1.toInt ≤ (X.1 0 1).toInt ∧ p1.toInt = p1.toInt ∧ (Z6.1 0 1).toInt = p1.toInt) ∨ (¬ (0 ≤ p1.toInt ∧ p1.toInt ≤ (X.1 0 1).toInt) ∧ p1.toInt = -1 ∧ (Z6.1 0 1).toInt = (X.1 0 1).toInt) from by have := (show 0 ≤ (X.1 0 1).toInt ∧ (X.1 0 1).toInt ≤ 3000 from hI.1 0 1); have := (show (Z6.1 0 1).toInt = p1.toInt from congrArg Int32.toInt hkZ6); omega)⟩
    · skip
      exact ok.ret ⟨⟨(Fr.rf : Fr YC [1] _ _), hI⟩, (show (0 ≤ p1.toInt ∧ p1.toInt ≤ (X.1 0 1).toInt ∧ (-1 : Int) = p1.toInt ∧ (X.1 0 1).toInt = p1.toInt) ∨ (¬ (0 ≤ p1.toInt ∧ p1.toInt ≤ (X.1 0 1).toInt) ∧ (-1 : Int) = -1 ∧ (X.1 0 1).toInt = (X.1 0 1).toInt) from by have := (show 0 ≤ (X.1 0 1).toInt ∧ (X.1 0 1).toInt ≤ 3000 from hI.1 0 1); omega)⟩
set_option maxHeartbeats 4000000 in
theorem v_Court_fault_C24 {p1 : Int32} {X : St} (hI : INV X) : ok (g_Court_fault p1 X) (fun r Y => (X = Y)) := by
  unfold g_Court_fault
  refine ok.ite (fun c1 => ?_) (fun c1 => ?_)
  · skip
    have g2 := i32_le p1
    refine ok.letE (v1 := (X.1 0 7)) rfl ?_
    exact ok.ret rfl
  · skip
    refine ok.ite (fun c3 => ?_) (fun c3 => ?_)
    · skip
      have g4 := i32_le p1
      refine ok.letE (v1 := (X.1 0 8)) rfl ?_
      exact ok.ret rfl
    · skip
      exact ok.ret rfl
set_option maxHeartbeats 4000000 in
theorem v_Court_isPart_C24 {p1 : Int32} {X : St} (hI : INV X) (hr0_9 : X.2.2 0 9 = 25) : ok (g_Court_isPart p1 X) (fun r Y => (X = Y) ∧ (r.toInt = 0 ∨ (r.toInt = 1 ∧ 0 ≤ p1.toInt ∧ p1.toInt ≤ 39))) := by
  unfold g_Court_isPart
  refine ok.letE (v1 := (X.1 0 3)) rfl ?_
  refine ok.ite (fun c1 => ?_) (fun c1 => ?_)
  · skip
    have g2 := i32_le (X.1 0 3)
    exact ok.ret ⟨rfl, (show (0 : Int) = 0 ∨ ((0 : Int) = 1 ∧ 0 ≤ p1.toInt ∧ p1.toInt ≤ 39) from by omega)⟩
  · skip
    refine ok.ite (fun c3 => ?_) (fun c3 => ?_)
    · skip
      have g4 := i32_le p1
      exact ok.ret ⟨rfl, (show (0 : Int) = 0 ∨ ((0 : Int) = 1 ∧ 0 ≤ p1.toInt ∧ p1.toInt ≤ 39) from by omega)⟩
    · skip
      have g5 := i32_le p1
      refine ok.ck (by rw [hr0_9]; decide) ?_
      refine ok.letE (v1 := 24) (by rw [hr0_9]) ?_
      refine ok.letE (v1 := (X.1 24 1)) rfl ?_
      have g6 : 0 ≤ (X.1 24 1).toInt ∧ (X.1 24 1).toInt ≤ 40 := hI.1 24 1
      refine ok.ite (fun c7 => ?_) (fun c7 => ?_)
      · skip
        exact ok.ret ⟨rfl, (show (0 : Int) = 0 ∨ ((0 : Int) = 1 ∧ 0 ≤ p1.toInt ∧ p1.toInt ≤ 39) from by omega)⟩
      · skip
        exact ok.ret ⟨rfl, (show (1 : Int) = 0 ∨ ((1 : Int) = 1 ∧ 0 ≤ p1.toInt ∧ p1.toInt ≤ 39) from by omega)⟩
set_option maxHeartbeats 4000000 in
theorem v_Court_tell_C24 {p1 : Int32} {p2 : Int32} {X : St} (hI : INV X) (hr0_9 : X.2.2 0 9 = 25) : ok (g_Court_tell p1 p2 X) (fun r Y => (Fr YC [4, 8000] X Y ∧ INV Y)) := by
  unfold g_Court_tell
  refine ok.bd (v_Court_isPart_C24 hI hr0_9) ?_
  rintro x1 _ ⟨rfl, hp1⟩
  have hp1 : x1.toInt = 0 ∨ (x1.toInt = 1 ∧ 0 ≤ p1.toInt ∧ p1.toInt ≤ 39) := hp1
  refine ok.ite (fun c2 => ?_) (fun c2 => ?_)
  · skip
    have g3 := i32_le x1
    exact ok.ret ⟨(Fr.rf : Fr YC [4, 8000] _ _), hI⟩
  · skip
    refine ok.ck (by rw [hr0_9]; decide) ?_
    refine ok.letE (v1 := 24) (by rw [hr0_9]) ?_
    refine ok.letE (v1 := 40) (by decide) ?_
    refine ok.ck (show 0 ≤ p1.toInt ∧ p1.toInt < ((40 : Nat) : Int) from by omega) ?_
    refine ok.wI (L := [8000]) hI (show True from trivial) (show (8000 : Nat) ∈ [8000] from by decide) (by decide) (fun Z4 hIZ4 hFZ4 hkZ4 hoZ4 => ?_)
    refine ok.wI (L := [4]) hIZ4 (show True from trivial) (show (4 : Nat) ∈ [4] from by decide) (by decide) (fun Z5 hIZ5 hFZ5 hkZ5 hoZ5 => ?_)
    exact ok.ret ⟨((Fr.rf.tr hFZ4 (by decide)).tr hFZ5 (by decide)), hIZ5⟩
def Qv69 : List Nat := [4, 7, 8, 5000, 5200, 5400, 5600, 5800, 6000, 6200, 6400, 8800, 11005, 11200, 11400, 11600, 11800, 12000, 12200, 12201, 12202, 12203, 12204, 12205, 12214, 12400, 12600, 12800, 13000, 13200, 13400, 13600, 13800]
theorem n4806_Qv69 : (4806 : Nat) ∉ Qv69 := by decide
theorem n4801_Qv69 : (4801 : Nat) ∉ Qv69 := by decide
theorem n8400_Qv69 : (8400 : Nat) ∉ Qv69 := by decide
theorem n8600_Qv69 : (8600 : Nat) ∉ Qv69 := by decide
theorem n8200_Qv69 : (8200 : Nat) ∉ Qv69 := by decide
theorem sQv25_Qv69 : ∀ k ∈ Qv25, k ∈ Qv69 := by decide
set_option maxHeartbeats 4000000 in
theorem v_Court_judge_C24 {X : St} (hI : INV X) (hr0_9 : X.2.2 0 9 = 25) (hP : PGC 24 42 43 41 X) : ok (g_Court_judge X) (fun r Y => (Fr YC Qv69 X Y ∧ INV Y)) := by
  unfold g_Court_judge
  refine ok.wI (L := [4]) hI (show True from trivial) (show (4 : Nat) ∈ [4] from by decide) (by decide) (fun Z1 hIZ1 hFZ1 hkZ1 hoZ1 => ?_)
  refine ok.wI (L := [7]) hIZ1 (show True from trivial) (show (7 : Nat) ∈ [7] from by decide) (by decide) (fun Z2 hIZ2 hFZ2 hkZ2 hoZ2 => ?_)
  refine ok.wI (L := [8]) hIZ2 (show True from trivial) (show (8 : Nat) ∈ [8] from by decide) (by decide) (fun Z3 hIZ3 hFZ3 hkZ3 hoZ3 => ?_)
  refine ok.letE (v1 := (X.1 0 3)) (((hFZ3.1 0 3 (show (3 : Nat) ∉ [8] from by decide)).trans (hFZ2.1 0 3 (show (3 : Nat) ∉ [7] from by decide))).trans (hFZ1.1 0 3 (show (3 : Nat) ∉ [4] from by decide))) ?_
  refine ok.ite (fun c4 => ?_) (fun c4 => ?_)
  · skip
    have g5 := i32_le (X.1 0 3)
    exact ok.ret ⟨(((Fr.rf.tr hFZ1 (by decide)).tr hFZ2 (by decide)).tr hFZ3 (by decide)), hIZ3⟩
  · skip
    refine ok.ck (by rw [((((hFZ3.2.2 0 9 (show (9 : Nat) ∉ [8] from by decide)).trans (hFZ2.2.2 0 9 (show (9 : Nat) ∉ [7] from by decide))).trans (hFZ1.2.2 0 9 (show (9 : Nat) ∉ [4] from by decide))).trans hr0_9)]; decide) ?_
    refine ok.letE (v1 := 24) (by rw [((((hFZ3.2.2 0 9 (show (9 : Nat) ∉ [8] from by decide)).trans (hFZ2.2.2 0 9 (show (9 : Nat) ∉ [7] from by decide))).trans (hFZ1.2.2 0 9 (show (9 : Nat) ∉ [4] from by decide))).trans hr0_9)]) ?_
    refine ok.bd (v_Judging_judgeAll_24_55 hIZ3 (PGC.fr hP (((Fr.rf.tr hFZ1 (by decide)).tr hFZ2 (by decide)).tr hFZ3 (by decide)) ⟨n4806_Qv69, n4801_Qv69, fun j => n8400_Qv69, fun j => n8600_Qv69, fun j => n8200_Qv69⟩)) ?_
    rintro r_6 Z8 ⟨hFZ8, hIZ8⟩
    refine ok.letE (v1 := (Z8.1 61 4)) rfl ?_
    refine ok.wI (L := [7]) hIZ8 (show True from trivial) (show (7 : Nat) ∈ [7] from by decide) (by decide) (fun Z9 hIZ9 hFZ9 hkZ9 hoZ9 => ?_)
    refine ok.letE (v1 := (Z8.1 61 5)) (hFZ9.1 61 5 (show (12205 : Nat) ∉ [7] from by decide)) ?_
    refine ok.wI (L := [8]) hIZ9 (show True from trivial) (show (8 : Nat) ∈ [8] from by decide) (by decide) (fun Z10 hIZ10 hFZ10 hkZ10 hoZ10 => ?_)
    refine ok.letE (v1 := (Z8.1 61 4)) ((hFZ10.1 0 7 (show (7 : Nat) ∉ [8] from by decide)).trans hkZ9) ?_
    refine ok.ite (fun c11 => ?_) (fun c11 => ?_)
    · skip
      have g12 := i32_le (Z8.1 61 4)
      unfold g_Court_judge_74
      have l13 : ((1) : Int32).toInt = (1) := by decide
      refine ok.ck (show (1 : Int32).toInt = 0 ∨ (1 : Int32).toInt = 1 from by omega) ?_
      refine ok.wI (L := [4]) hIZ10 (show True from trivial) (show (4 : Nat) ∈ [4] from by decide) (by decide) (fun Z14 hIZ14 hFZ14 hkZ14 hoZ14 => ?_)
      refine ok.letE (v1 := (1 : Int32)) hkZ14 ?_
      refine ok.ite (fun c15 => absurd c15 (show ¬ ((1 : Int32).toInt = 0) from by omega)) (fun c15 => ?_)
      refine ok.letE (v1 := (Z8.1 55 5)) (((hFZ14.1 55 5 (show (11005 : Nat) ∉ [4] from by decide)).trans (hFZ10.1 55 5 (show (11005 : Nat) ∉ [8] from by decide))).trans (hFZ9.1 55 5 (show (11005 : Nat) ∉ [7] from by decide))) ?_
      have g16 : 0 ≤ (Z8.1 55 5).toInt ∧ (Z8.1 55 5).toInt ≤ 3000 := hIZ8.1 55 5
      exact ok.ret ⟨(((((((Fr.rf.tr hFZ1 (by decide)).tr hFZ2 (by decide)).tr hFZ3 (by decide)).tr hFZ8 sQv25_Qv69).tr hFZ9 (by decide)).tr hFZ10 (by decide)).tr hFZ14 (by decide)), hIZ14⟩
    · skip
      unfold g_Court_judge_74
      have l17 : ((0) : Int32).toInt = (0) := by decide
      refine ok.ck (show (0 : Int32).toInt = 0 ∨ (0 : Int32).toInt = 1 from by omega) ?_
      refine ok.wI (L := [4]) hIZ10 (show True from trivial) (show (4 : Nat) ∈ [4] from by decide) (by decide) (fun Z18 hIZ18 hFZ18 hkZ18 hoZ18 => ?_)
      refine ok.letE (v1 := (0 : Int32)) hkZ18 ?_
      refine ok.ite (fun c19 => ?_) (fun c19 => absurd (show (0 : Int32).toInt = 0 from by omega) c19)
      exact ok.ret ⟨(((((((Fr.rf.tr hFZ1 (by decide)).tr hFZ2 (by decide)).tr hFZ3 (by decide)).tr hFZ8 sQv25_Qv69).tr hFZ9 (by decide)).tr hFZ10 (by decide)).tr hFZ18 (by decide)), hIZ18⟩
set_option maxHeartbeats 4000000 in
theorem v_Court_guard_C24 {p1 : Int32} {p2 : Int32} {X : St} (hI : INV X) (hr0_9 : X.2.2 0 9 = 25) : ok (g_Court_guard p1 p2 X) (fun r Y => (X = Y)) := by
  unfold g_Court_guard
  refine ok.letE (v1 := (X.1 0 4)) rfl ?_
  refine ok.ite (fun c1 => ?_) (fun c1 => ?_)
  · skip
    have g2 := i32_le (X.1 0 4)
    exact ok.ret rfl
  · skip
    refine ok.ite (fun c3 => ?_) (fun c3 => ?_)
    · skip
      have g4 := i32_le p1
      exact ok.ret rfl
    · skip
      have g5 := i32_le p1
      refine ok.letE (v1 := (X.1 55 5)) rfl ?_
      have g6 : 0 ≤ (X.1 55 5).toInt ∧ (X.1 55 5).toInt ≤ 3000 := hI.1 55 5
      refine ok.ite (fun c7 => ?_) (fun c7 => ?_)
      · skip
        refine ok.ite (fun c8 => ?_) (fun c8 => ?_)
        · skip
          have g9 := i32_le p2
          refine ok.ck (show 0 ≤ p1.toInt ∧ p1.toInt < ((3000 : Nat) : Int) from by omega) ?_
          refine ok.letE (v1 := (X.1 56 (ix p1))) rfl ?_
          exact ok.ret rfl
        · skip
          refine ok.ite (fun c10 => ?_) (fun c10 => ?_)
          · skip
            have g11 := i32_le p2
            refine ok.ck (show 0 ≤ p1.toInt ∧ p1.toInt < ((3000 : Nat) : Int) from by omega) ?_
            refine ok.letE (v1 := (X.1 57 (ix p1))) rfl ?_
            exact ok.ret rfl
          · skip
            refine ok.ite (fun c12 => ?_) (fun c12 => ?_)
            · skip
              have g13 := i32_le p2
              refine ok.ck (show 0 ≤ p1.toInt ∧ p1.toInt < ((3000 : Nat) : Int) from by omega) ?_
              refine ok.letE (v1 := (X.1 58 (ix p1))) rfl ?_
              exact ok.ret rfl
            · skip
              refine ok.ite (fun c14 => ?_) (fun c14 => ?_)
              · skip
                have g15 := i32_le p2
                refine ok.ck (by rw [hr0_9]; decide) ?_
                refine ok.letE (v1 := 24) (by rw [hr0_9]) ?_
                refine ok.letE (v1 := 25) (by decide) ?_
                refine ok.ck (show 0 ≤ p1.toInt ∧ p1.toInt < ((3000 : Nat) : Int) from by omega) ?_
                refine ok.letE (v1 := (X.1 59 (ix p1))) rfl ?_
                refine ok.bd (v_Kinds_codeOf_25 hI) ?_
                rintro x13 _ rfl
                exact ok.ret rfl
              · skip
                refine ok.ite (fun c17 => ?_) (fun c17 => ?_)
                · skip
                  have g18 := i32_le p2
                  refine ok.ck (by rw [hr0_9]; decide) ?_
                  refine ok.letE (v1 := 24) (by rw [hr0_9]) ?_
                  refine ok.letE (v1 := 25) (by decide) ?_
                  refine ok.ck (show 0 ≤ p1.toInt ∧ p1.toInt < ((3000 : Nat) : Int) from by omega) ?_
                  refine ok.letE (v1 := (X.1 60 (ix p1))) rfl ?_
                  refine ok.bd (v_Kinds_codeOf_25 hI) ?_
                  rintro x19 _ rfl
                  exact ok.ret rfl
                · skip
                  exact ok.ret rfl
      · skip
        exact ok.ret rfl
set_option maxHeartbeats 4000000 in
theorem v_Program_letterOf_24 {p1 : Int32} {p2 : Int32} {X : St} (hI : INV X) (h0 : 0 ≤ p1.toInt ∧ p1.toInt ≤ 39) : ok (g_Program_letterOf 24 p1 p2 X) (fun r Y => (X = Y)) := by
  unfold g_Program_letterOf
  refine ok.ite (fun c1 => ?_) (fun c1 => ?_)
  · skip
    have g2 := i32_le p2
    exact ok.ret rfl
  · skip
    have g3 := i32_le p2
    refine ok.letE (v1 := 35) (by decide) ?_
    refine ok.ck (show 0 ≤ p1.toInt ∧ p1.toInt < ((40 : Nat) : Int) from by omega) ?_
    refine ok.letE (v1 := (X.1 35 (ix p1))) rfl ?_
    refine ok.ite (fun c4 => ?_) (fun c4 => ?_)
    · skip
      have g5 := i32_le (X.1 35 (ix p1))
      refine ok.letE (v1 := 34) (by decide) ?_
      refine ok.ck (show 0 ≤ p1.toInt ∧ p1.toInt < ((40 : Nat) : Int) from by omega) ?_
      refine ok.any (fun y4 => ?_)
      refine ok.letE (v1 := 35) (by decide) ?_
      refine ok.ck (show 0 ≤ p1.toInt ∧ p1.toInt < ((40 : Nat) : Int) from by omega) ?_
      refine ok.letE (v1 := (X.1 35 (ix p1))) rfl ?_
      refine ok.sub (show _ ≤ (X.1 35 (ix p1)).toInt - (1 : Int) ∧ (X.1 35 (ix p1)).toInt - (1 : Int) ≤ _ from by omega) (fun x7 hx7 => ?_)
      have hx7 : x7.toInt = (X.1 35 (ix p1)).toInt - (1 : Int) := hx7
      refine ok.sub (show _ ≤ x7.toInt - p2.toInt ∧ x7.toInt - p2.toInt ≤ _ from by omega) (fun x8 hx8 => ?_)
      have hx8 : x8.toInt = x7.toInt - p2.toInt := hx8
      refine ok.any (fun x9 => ?_)
      refine ok.any (fun y10 => ?_)
      refine ok.letE (v1 := (y10.toInt32)) rfl ?_
      refine ok.eqv (fun x12 hx12 => ?_)
      have hx12 : 0 ≤ x12.toInt ∧ x12.toInt ≤ 255 := by rw [hx12]; exact and_mask_255 _
      exact ok.ret rfl
    · skip
      exact ok.ret rfl
set_option maxHeartbeats 4000000 in
theorem v_Court_part_C24 {p1 : Int32} {p2 : Int32} {X : St} (hI : INV X) (hr0_9 : X.2.2 0 9 = 25) : ok (g_Court_part p1 p2 X) (fun r Y => (X = Y)) := by
  unfold g_Court_part
  refine ok.bd (v_Court_isPart_C24 hI hr0_9) ?_
  rintro x1 _ ⟨rfl, hp1⟩
  have hp1 : x1.toInt = 0 ∨ (x1.toInt = 1 ∧ 0 ≤ p1.toInt ∧ p1.toInt ≤ 39) := hp1
  refine ok.ite (fun c2 => ?_) (fun c2 => ?_)
  · skip
    have g3 := i32_le x1
    exact ok.ret rfl
  · skip
    refine ok.ite (fun c4 => ?_) (fun c4 => ?_)
    · skip
      have g5 := i32_le p2
      refine ok.ck (by rw [hr0_9]; decide) ?_
      refine ok.letE (v1 := 24) (by rw [hr0_9]) ?_
      refine ok.letE (v1 := 40) (by decide) ?_
      refine ok.ck (show 0 ≤ p1.toInt ∧ p1.toInt < ((40 : Nat) : Int) from by omega) ?_
      refine ok.letE (v1 := (X.1 40 (ix p1))) rfl ?_
      refine ok.ite (fun c6 => ?_) (fun c6 => ?_)
      · skip
        have g7 := i32_le (X.1 40 (ix p1))
        exact ok.ret rfl
      · skip
        exact ok.ret rfl
    · skip
      refine ok.ite (fun c8 => ?_) (fun c8 => ?_)
      · skip
        have g9 := i32_le p2
        refine ok.ck (by rw [hr0_9]; decide) ?_
        refine ok.letE (v1 := 24) (by rw [hr0_9]) ?_
        refine ok.letE (v1 := 37) (by decide) ?_
        refine ok.ck (show 0 ≤ p1.toInt ∧ p1.toInt < ((40 : Nat) : Int) from by omega) ?_
        refine ok.letE (v1 := (X.1 37 (ix p1))) rfl ?_
        have g10 : 0 ≤ (X.1 37 (ix p1)).toInt ∧ (X.1 37 (ix p1)).toInt ≤ 4 := hI.1 37 (ix p1)
        exact ok.ret rfl
      · skip
        refine ok.ite (fun c11 => ?_) (fun c11 => ?_)
        · skip
          have g12 := i32_le p2
          refine ok.ck (by rw [hr0_9]; decide) ?_
          refine ok.letE (v1 := 24) (by rw [hr0_9]) ?_
          refine ok.letE (v1 := 35) (by decide) ?_
          refine ok.ck (show 0 ≤ p1.toInt ∧ p1.toInt < ((40 : Nat) : Int) from by omega) ?_
          refine ok.letE (v1 := (X.1 35 (ix p1))) rfl ?_
          exact ok.ret rfl
        · skip
          refine ok.ite (fun c13 => ?_) (fun c13 => ?_)
          · skip
            have g14 := i32_le p2
            refine ok.letE (v1 := (X.1 0 4)) rfl ?_
            refine ok.ite (fun c15 => ?_) (fun c15 => ?_)
            · skip
              have g16 := i32_le (X.1 0 4)
              exact ok.ret rfl
            · skip
              refine ok.ck (show 0 ≤ p1.toInt ∧ p1.toInt < ((40 : Nat) : Int) from by omega) ?_
              refine ok.letE (v1 := (X.1 62 (ix p1))) rfl ?_
              refine ok.ite (fun c17 => ?_) (fun c17 => ?_)
              · skip
                have g18 := i32_le (X.1 62 (ix p1))
                exact ok.ret rfl
              · skip
                exact ok.ret rfl
          · skip
            refine ok.ite (fun c19 => ?_) (fun c19 => ?_)
            · skip
              have g20 := i32_le p2
              refine ok.ck (by rw [hr0_9]; decide) ?_
              refine ok.letE (v1 := 24) (by rw [hr0_9]) ?_
              refine ok.letE (v1 := 36) (by decide) ?_
              refine ok.ck (show 0 ≤ p1.toInt ∧ p1.toInt < ((40 : Nat) : Int) from by omega) ?_
              refine ok.letE (v1 := (X.1 36 (ix p1))) rfl ?_
              exact ok.ret rfl
            · skip
              refine ok.ck (by rw [hr0_9]; decide) ?_
              refine ok.letE (v1 := 24) (by rw [hr0_9]) ?_
              refine ok.any (fun x23 => ?_)
              refine ok.bd (v_Program_letterOf_24 hI (show 0 ≤ p1.toInt ∧ p1.toInt ≤ 39 from by omega)) ?_
              rintro x24 _ rfl
              exact ok.ret rfl
theorem n4806_Qv66 : (4806 : Nat) ∉ Qv66 := by decide
theorem n4801_Qv66 : (4801 : Nat) ∉ Qv66 := by decide
theorem n8400_Qv66 : (8400 : Nat) ∉ Qv66 := by decide
theorem n8600_Qv66 : (8600 : Nat) ∉ Qv66 := by decide
theorem n8200_Qv66 : (8200 : Nat) ∉ Qv66 := by decide
set_option maxHeartbeats 4000000 in
theorem v_Court_run_C24 {p1 : Int32} {X : St} (hI : INV X) (hr0_9 : X.2.2 0 9 = 25) (hP : PGC 24 42 43 41 X) : ok (g_Court_run p1 X) (fun r Y => (Fr YC Qv66 X Y ∧ INV Y)) := by
  unfold g_Court_run
  refine ok.letE (v1 := (X.1 0 4)) rfl ?_
  refine ok.ite (fun c1 => ?_) (fun c1 => ?_)
  · skip
    have g2 := i32_le (X.1 0 4)
    exact ok.ret ⟨(Fr.rf : Fr YC Qv66 _ _), hI⟩
  · skip
    refine ok.bd (v_Court_isFuel hI) ?_
    rintro x2 _ rfl
    refine ok.ite (fun c4 => ?_) (fun c4 => ?_)
    · skip
      have g5 := i32_le x2
      exact ok.ret ⟨(Fr.rf : Fr YC Qv66 _ _), hI⟩
    · skip
      refine ok.wI (L := [5]) hI (show True from trivial) (show (5 : Nat) ∈ [5] from by decide) (by decide) (fun Z6 hIZ6 hFZ6 hkZ6 hoZ6 => ?_)
      refine ok.ck (by rw [((hFZ6.2.2 0 9 (show (9 : Nat) ∉ [5] from by decide)).trans hr0_9)]; decide) ?_
      refine ok.letE (v1 := 24) (by rw [((hFZ6.2.2 0 9 (show (9 : Nat) ∉ [5] from by decide)).trans hr0_9)]) ?_
      refine ok.bd (v_Running_runAll_24_55 hIZ6 (show (1 : Int) = 0 ∨ (1 : Int) = 1 from by omega) (PGC.fr hP (Fr.rf.tr hFZ6 (by decide)) ⟨n4806_Qv66, n4801_Qv66, fun j => n8400_Qv66, fun j => n8600_Qv66, fun j => n8200_Qv66⟩)) ?_
      rintro x6 Z8 ⟨hFZ8, hIZ8⟩
      exact ok.ret ⟨((Fr.rf.tr hFZ6 (by decide)).tr hFZ8 sQv11_Qv66), hIZ8⟩
set_option maxHeartbeats 4000000 in
theorem v_Court_runUntold_C24 {p1 : Int32} {X : St} (hI : INV X) (hr0_9 : X.2.2 0 9 = 25) (hP : PGC 24 42 43 41 X) : ok (g_Court_runUntold p1 X) (fun r Y => (Fr YC Qv66 X Y ∧ INV Y)) := by
  unfold g_Court_runUntold
  refine ok.letE (v1 := (X.1 0 3)) rfl ?_
  refine ok.ite (fun c1 => ?_) (fun c1 => ?_)
  · skip
    have g2 := i32_le (X.1 0 3)
    exact ok.ret ⟨(Fr.rf : Fr YC Qv66 _ _), hI⟩
  · skip
    refine ok.bd (v_Court_isFuel hI) ?_
    rintro x2 _ rfl
    refine ok.ite (fun c4 => ?_) (fun c4 => ?_)
    · skip
      have g5 := i32_le x2
      exact ok.ret ⟨(Fr.rf : Fr YC Qv66 _ _), hI⟩
    · skip
      refine ok.wI (L := [5]) hI (show True from trivial) (show (5 : Nat) ∈ [5] from by decide) (by decide) (fun Z6 hIZ6 hFZ6 hkZ6 hoZ6 => ?_)
      refine ok.ck (by rw [((hFZ6.2.2 0 9 (show (9 : Nat) ∉ [5] from by decide)).trans hr0_9)]; decide) ?_
      refine ok.letE (v1 := 24) (by rw [((hFZ6.2.2 0 9 (show (9 : Nat) ∉ [5] from by decide)).trans hr0_9)]) ?_
      refine ok.bd (v_Running_runAll_24_55 hIZ6 (show (0 : Int) = 0 ∨ (0 : Int) = 1 from by omega) (PGC.fr hP (Fr.rf.tr hFZ6 (by decide)) ⟨n4806_Qv66, n4801_Qv66, fun j => n8400_Qv66, fun j => n8600_Qv66, fun j => n8200_Qv66⟩)) ?_
      rintro x6 Z8 ⟨hFZ8, hIZ8⟩
      exact ok.ret ⟨((Fr.rf.tr hFZ6 (by decide)).tr hFZ8 sQv11_Qv66), hIZ8⟩
set_option maxHeartbeats 4000000 in
theorem v_Court_told_C24 {p1 : Int32} {X : St} (hI : INV X) : ok (g_Court_told p1 X) (fun r Y => (X = Y)) := by
  unfold g_Court_told
  refine ok.letE (v1 := (X.1 0 5)) rfl ?_
  refine ok.ite (fun c1 => ?_) (fun c1 => ?_)
  · skip
    have g2 := i32_le (X.1 0 5)
    exact ok.ret rfl
  · skip
    refine ok.bd (v_Running_tellOf hI) ?_
    rintro x2 _ rfl
    exact ok.ret rfl
set_option maxHeartbeats 4000000 in
theorem v_Court_out_C24 {p1 : Int32} {X : St} (hI : INV X) : ok (g_Court_out p1 X) (fun r Y => (X = Y)) := by
  unfold g_Court_out
  refine ok.letE (v1 := (X.1 0 5)) rfl ?_
  refine ok.ite (fun c1 => ?_) (fun c1 => ?_)
  · skip
    have g2 := i32_le (X.1 0 5)
    exact ok.ret rfl
  · skip
    refine ok.ite (fun c3 => ?_) (fun c3 => ?_)
    · skip
      have g4 := i32_le p1
      exact ok.ret rfl
    · skip
      have g5 := i32_le p1
      refine ok.letE (v1 := (X.1 70 18)) rfl ?_
      have g6 : 0 ≤ (X.1 70 18).toInt ∧ (X.1 70 18).toInt ≤ 200 := hI.1 70 18
      refine ok.ite (fun c7 => ?_) (fun c7 => ?_)
      · skip
        refine ok.ck (show 0 ≤ p1.toInt ∧ p1.toInt < ((200 : Nat) : Int) from by omega) ?_
        refine ok.letE (v1 := (X.1 86 (ix p1))) rfl ?_
        exact ok.ret rfl
      · skip
        exact ok.ret rfl
set_option maxHeartbeats 4000000 in
theorem v_Court_asked_C24 {p1 : Int32} {p2 : Int32} {X : St} (hI : INV X) (hr0_9 : X.2.2 0 9 = 25) : ok (g_Court_asked p1 p2 X) (fun r Y => (X = Y)) := by
  unfold g_Court_asked
  refine ok.letE (v1 := (X.1 0 5)) rfl ?_
  refine ok.ite (fun c1 => ?_) (fun c1 => ?_)
  · skip
    have g2 := i32_le (X.1 0 5)
    exact ok.ret rfl
  · skip
    refine ok.bd (v_Court_isPart_C24 hI hr0_9) ?_
    rintro x2 _ ⟨rfl, hp3⟩
    have hp3 : x2.toInt = 0 ∨ (x2.toInt = 1 ∧ 0 ≤ p1.toInt ∧ p1.toInt ≤ 39) := hp3
    refine ok.ite (fun c4 => ?_) (fun c4 => ?_)
    · skip
      have g5 := i32_le x2
      exact ok.ret rfl
    · skip
      refine ok.bd (v_Court_isPart_C24 hI hr0_9) ?_
      rintro x4 _ ⟨rfl, hp6⟩
      have hp6 : x4.toInt = 0 ∨ (x4.toInt = 1 ∧ 0 ≤ p2.toInt ∧ p2.toInt ≤ 39) := hp6
      refine ok.ite (fun c7 => ?_) (fun c7 => ?_)
      · skip
        have g8 := i32_le x4
        exact ok.ret rfl
      · skip
        refine ok.mul (show _ ≤ p1.toInt * (40 : Int) ∧ p1.toInt * (40 : Int) ≤ _ from by omega) (fun x6 hx6 => ?_)
        have hx6 : x6.toInt = p1.toInt * (40 : Int) := hx6
        refine ok.add (show _ ≤ x6.toInt + p2.toInt ∧ x6.toInt + p2.toInt ≤ _ from by omega) (fun x7 hx7 => ?_)
        have hx7 : x7.toInt = x6.toInt + p2.toInt := hx7
        refine ok.ck (show 0 ≤ x7.toInt ∧ x7.toInt < ((1600 : Nat) : Int) from by omega) ?_
        refine ok.letE (v1 := (X.1 87 (ix x7))) rfl ?_
        exact ok.ret rfl
set_option maxHeartbeats 4000000 in
theorem v_Court_about_C24 {p1 : Int32} {X : St} (hI : INV X) (hr0_9 : X.2.2 0 9 = 25) : ok (g_Court_about p1 X) (fun r Y => (X = Y)) := by
  unfold g_Court_about
  refine ok.ite (fun c1 => ?_) (fun c1 => ?_)
  · skip
    have g2 := i32_le p1
    refine ok.letE (v1 := (X.1 0 1)) rfl ?_
    have g3 : 0 ≤ (X.1 0 1).toInt ∧ (X.1 0 1).toInt ≤ 3000 := hI.1 0 1
    exact ok.ret rfl
  · skip
    refine ok.ite (fun c4 => ?_) (fun c4 => ?_)
    · skip
      have g5 := i32_le p1
      refine ok.letE (v1 := (X.1 0 3)) rfl ?_
      refine ok.ite (fun c6 => ?_) (fun c6 => ?_)
      · skip
        have g7 := i32_le (X.1 0 3)
        exact ok.ret rfl
      · skip
        refine ok.ck (by rw [hr0_9]; decide) ?_
        refine ok.letE (v1 := 24) (by rw [hr0_9]) ?_
        refine ok.letE (v1 := (X.1 24 1)) rfl ?_
        have g8 : 0 ≤ (X.1 24 1).toInt ∧ (X.1 24 1).toInt ≤ 40 := hI.1 24 1
        exact ok.ret rfl
    · skip
      refine ok.ite (fun c9 => ?_) (fun c9 => ?_)
      · skip
        have g10 := i32_le p1
        refine ok.letE (v1 := (X.1 0 4)) rfl ?_
        refine ok.ite (fun c11 => ?_) (fun c11 => ?_)
        · skip
          have g12 := i32_le (X.1 0 4)
          exact ok.ret rfl
        · skip
          exact ok.ret rfl
      · skip
        refine ok.ite (fun c13 => ?_) (fun c13 => ?_)
        · skip
          have g14 := i32_le p1
          refine ok.letE (v1 := (X.1 0 4)) rfl ?_
          refine ok.ite (fun c15 => ?_) (fun c15 => ?_)
          · skip
            have g16 := i32_le (X.1 0 4)
            exact ok.ret rfl
          · skip
            refine ok.letE (v1 := (X.1 55 5)) rfl ?_
            have g17 : 0 ≤ (X.1 55 5).toInt ∧ (X.1 55 5).toInt ≤ 3000 := hI.1 55 5
            exact ok.ret rfl
        · skip
          exact ok.ret rfl
def Qv70 : List Nat := [1, 7, 8, 401, 402, 405, 406, 600, 800, 1000, 1200, 1400, 1600, 1800, 2000, 2400, 2600, 2800, 3000, 3200, 3400, 3600, 3800, 4000, 4200, 4400, 4600, 9201, 9202, 9203, 9204, 9205, 9206, 9209, 9400, 9401, 9402, 9403, 9404, 9405, 9406, 9407, 9800, 10000, 10200, 10400, 10600, 10800]
def Qv71 : List Nat := [1, 2, 3, 4, 5, 7, 8, 9, 401, 402, 405, 406, 600, 800, 1000, 1200, 1400, 1600, 1800, 2000, 2400, 2600, 2800, 3000, 3200, 3400, 3600, 3800, 4000, 4200, 4400, 4600, 9201, 9202, 9203, 9204, 9205, 9206, 9209, 9400, 9401, 9402, 9403, 9404, 9405, 9406, 9407, 9800, 10000, 10200, 10400, 10600, 10800]
theorem n9_Qv50 : (9 : Nat) ∉ Qv50 := by decide
theorem n2_Qv50 : (2 : Nat) ∉ Qv50 := by decide
theorem n1_Qv50 : (1 : Nat) ∉ Qv50 := by decide
theorem sQv50_Qv70 : ∀ k ∈ Qv50, k ∈ Qv70 := by decide
theorem sQv70_Qv71 : ∀ k ∈ Qv70, k ∈ Qv71 := by decide
theorem n4806_Qv70 : (4806 : Nat) ∉ Qv70 := by decide
theorem n4801_Qv70 : (4801 : Nat) ∉ Qv70 := by decide
theorem n8400_Qv70 : (8400 : Nat) ∉ Qv70 := by decide
theorem n8600_Qv70 : (8600 : Nat) ∉ Qv70 := by decide
theorem n8200_Qv70 : (8200 : Nat) ∉ Qv70 := by decide
theorem rd_C24 {X : St} (hI : INV X) (hr9 : X.2.2 0 9 = 25) (hr2 : X.2.2 0 2 = 3) (hP : PGC 24 42 43 41 X) : ok (g_Court_read X) (fun _ Y => INV Y ∧ (Y.1 0 1).toInt = 0 ∧ ((Y.2.2 0 9 = 25 ∧ Y.2.2 0 2 = 3 ∧ PGC 24 42 43 41 Y) ∨ (Y.2.2 0 9 = 3 ∧ Y.2.2 0 2 = 25 ∧ PGC 2 20 21 19 Y))) := by
  have g1 : 0 ≤ (X.1 0 1).toInt ∧ (X.1 0 1).toInt ≤ 3000 := hI.1 0 1
  unfold g_Court_read
  refine ok.ck (by rw [hr2]; decide) (ok.letE (v1 := 2) (by rw [hr2]) (ok.letE (v1 := X.1 0 1) rfl ?_))
  refine ok.bd (v_readInto_R2T hI g1) ?_
  rintro q Z1 ⟨⟨hF1, hI1⟩, hp1⟩
  have r9 : Z1.2.2 0 9 = 25 := (hF1.2.2 0 9 n9_Qv50).trans hr9
  have r2 : Z1.2.2 0 2 = 3 := (hF1.2.2 0 2 n2_Qv50).trans hr2
  refine ok.wI (L := [1]) hI1 (show 0 ≤ (0 : Int) ∧ (0 : Int) ≤ 3000 from by decide) (show (1 : Nat) ∈ [1] from by decide) (by decide) (fun Z2 hI2 hF2 hk2 _ => ?_)
  refine ok.letE (v1 := Z1.1 46 3) (hF2.1 46 3 (show (9203 : Nat) ∉ [1] from by decide)) ?_
  refine ok.wI (L := [7]) hI2 (show True from trivial) (show (7 : Nat) ∈ [7] from by decide) (by decide) (fun Z3 hI3 hF3 hk3 _ => ?_)
  refine ok.any (fun x7 => ?_)
  refine ok.wI (L := [8]) hI3 (show True from trivial) (show (8 : Nat) ∈ [8] from by decide) (by decide) (fun Z4 hI4 hF4 hk4 _ => ?_)
  have hW : Fr YC [1, 7, 8] Z1 Z4 := ((Fr.mono hF2 (by decide)).tr hF3 (by decide)).tr hF4 (by decide)
  have hA : Fr YC Qv70 X Z4 := (Fr.mono hF1 sQv50_Qv70).tr hW (by decide)
  have t4 : (Z4.1 0 1).toInt = 0 := (congrArg Int32.toInt ((hF4.1 0 1 (show (1 : Nat) ∉ [8] from by decide)).trans ((hF3.1 0 1 (show (1 : Nat) ∉ [7] from by decide)).trans hk2))).trans rfl
  have r94 : Z4.2.2 0 9 = 25 := (hW.2.2 0 9 (show (9 : Nat) ∉ [1, 7, 8] from by decide)).trans r9
  have r24 : Z4.2.2 0 2 = 3 := (hW.2.2 0 2 (show (2 : Nat) ∉ [1, 7, 8] from by decide)).trans r2
  refine ok.letE (v1 := Z1.1 46 3) ((hF4.1 0 7 (show (7 : Nat) ∉ [8] from by decide)).trans hk3) (ok.ite (fun c => ?_) (fun c => ok.ret ⟨hI4, t4, Or.inl ⟨r94, r24, PGC.fr hP hA ⟨n4806_Qv70, n4801_Qv70, fun j => n8400_Qv70, fun j => n8600_Qv70, fun j => n8200_Qv70⟩⟩⟩))
  have hp4 : PGC 2 20 21 19 Z4 := PGC.fr (hp1 c) hW ⟨(show (406 : Nat) ∉ [1, 7, 8] from by decide), (show (401 : Nat) ∉ [1, 7, 8] from by decide), fun j => (show (4000 : Nat) ∉ [1, 7, 8] from by decide), fun j => (show (4200 : Nat) ∉ [1, 7, 8] from by decide), fun j => (show (3800 : Nat) ∉ [1, 7, 8] from by decide)⟩
  refine ok.ck (by rw [r94]; decide) (ok.letE (v1 := 24) (by rw [r94]) ?_)
  refine ok.ck (by rw [r24]; decide) (ok.letE (v1 := 2) (by rw [r24]) ?_)
  refine ok.wR (L := [9]) hI4 (show (9 : Nat) ∈ [9] from by decide) (fun Z5 hI5 hF5 he5 hR5 => ?_)
  refine ok.wR (L := [2]) hI5 (show (2 : Nat) ∈ [2] from by decide) (fun Z6 hI6 hF6 he6 hR6 => ?_)
  refine ok.wI (L := [3]) hI6 (show True from trivial) (show (3 : Nat) ∈ [3] from by decide) (by decide) (fun Z7 hI7 hF7 _ _ => ?_)
  refine ok.wI (L := [4]) hI7 (show True from trivial) (show (4 : Nat) ∈ [4] from by decide) (by decide) (fun Z8 hI8 hF8 _ _ => ?_)
  refine ok.wI (L := [5]) hI8 (show True from trivial) (show (5 : Nat) ∈ [5] from by decide) (by decide) (fun Z9 hI9 hF9 _ _ => ?_)
  have hV : Fr YC [3, 4, 5] Z6 Z9 := ((Fr.mono hF7 (by decide)).tr hF8 (by decide)).tr hF9 (by decide)
  have hU : Fr YC [2, 3, 4, 5, 9] Z4 Z9 := ((Fr.mono hF5 (by decide)).tr hF6 (by decide)).tr hV (by decide)
  have r99 : Z9.2.2 0 9 = 3 := (hV.2.2 0 9 (show (9 : Nat) ∉ [3, 4, 5] from by decide)).trans ((hF6.2.2 0 9 (show (9 : Nat) ∉ [2] from by decide)).trans hR5)
  have r29 : Z9.2.2 0 2 = 25 := (hV.2.2 0 2 (show (2 : Nat) ∉ [3, 4, 5] from by decide)).trans hR6
  refine ok.ck (by rw [r99]; decide) (ok.letE (v1 := 2) (by rw [r99]) (ok.letV (ok.ret ?_)))
  exact ⟨hI9, (congrArg Int32.toInt (hU.1 0 1 (show (1 : Nat) ∉ [2, 3, 4, 5, 9] from by decide))).trans t4, Or.inr ⟨r99, r29, PGC.fr hp4 hU ⟨(show (406 : Nat) ∉ [2, 3, 4, 5, 9] from by decide), (show (401 : Nat) ∉ [2, 3, 4, 5, 9] from by decide), fun j => (show (4000 : Nat) ∉ [2, 3, 4, 5, 9] from by decide), fun j => (show (4200 : Nat) ∉ [2, 3, 4, 5, 9] from by decide), fun j => (show (3800 : Nat) ∉ [2, 3, 4, 5, 9] from by decide)⟩⟩⟩
/-- what stands of the class between its calls -/
def JC (X : St) : Prop := INV X ∧ ((X.2.2 0 9 = 3 ∧ X.2.2 0 2 = 25 ∧ PGC 2 20 21 19 X) ∨ (X.2.2 0 9 = 25 ∧ X.2.2 0 2 = 3 ∧ PGC 24 42 43 41 X))
theorem jc_feed {X : St} {p1 : Int32} {p2 : Int32} {p3 : Int32} {p4 : Int32} {p5 : Int32} (h : JC X) : ok (g_Court_feed p1 p2 p3 p4 p5 X) (fun r Y => JC Y ∧ (((X.1 0 1).toInt ≤ 2980 ∧ (Y.1 0 1).toInt = (X.1 0 1).toInt + 20 ∧ r.toInt = (Y.1 0 1).toInt) ∨ (2980 < (X.1 0 1).toInt ∧ (Y.1 0 1).toInt = (X.1 0 1).toInt ∧ r.toInt = -1))) := by
  obtain ⟨hI, ⟨hr9, hr2, hP⟩ | ⟨hr9, hr2, hP⟩⟩ := h
  · refine ok.mono (v_Court_feed_C2 hI) ?_
    rintro r Y ⟨⟨hF, hIY⟩, hq⟩
    exact ⟨⟨hIY, Or.inl ⟨(hF.2.2 0 9 (show (9 : Nat) ∉ [1, 200] from by decide)).trans hr9, (hF.2.2 0 2 (show (2 : Nat) ∉ [1, 200] from by decide)).trans hr2, (PGC.fr hP hF ⟨(show (406 : Nat) ∉ [1, 200] from by decide), (show (401 : Nat) ∉ [1, 200] from by decide), fun j => (show (4000 : Nat) ∉ [1, 200] from by decide), fun j => (show (4200 : Nat) ∉ [1, 200] from by decide), fun j => (show (3800 : Nat) ∉ [1, 200] from by decide)⟩)⟩⟩, hq⟩
  · refine ok.mono (v_Court_feed_C24 hI) ?_
    rintro r Y ⟨⟨hF, hIY⟩, hq⟩
    exact ⟨⟨hIY, Or.inr ⟨(hF.2.2 0 9 (show (9 : Nat) ∉ [1, 200] from by decide)).trans hr9, (hF.2.2 0 2 (show (2 : Nat) ∉ [1, 200] from by decide)).trans hr2, (PGC.fr hP hF ⟨(show (4806 : Nat) ∉ [1, 200] from by decide), (show (4801 : Nat) ∉ [1, 200] from by decide), fun j => (show (8400 : Nat) ∉ [1, 200] from by decide), fun j => (show (8600 : Nat) ∉ [1, 200] from by decide), fun j => (show (8200 : Nat) ∉ [1, 200] from by decide)⟩)⟩⟩, hq⟩
theorem jc_end {X : St} {p1 : Int32} (h : JC X) : ok (g_Court_end p1 X) (fun r Y => JC Y ∧ ((0 ≤ p1.toInt ∧ p1.toInt ≤ (X.1 0 1).toInt ∧ r.toInt = p1.toInt ∧ (Y.1 0 1).toInt = p1.toInt) ∨ (¬ (0 ≤ p1.toInt ∧ p1.toInt ≤ (X.1 0 1).toInt) ∧ r.toInt = -1 ∧ (Y.1 0 1).toInt = (X.1 0 1).toInt))) := by
  obtain ⟨hI, ⟨hr9, hr2, hP⟩ | ⟨hr9, hr2, hP⟩⟩ := h
  · refine ok.mono (v_Court_end_C2 hI) ?_
    rintro r Y ⟨⟨hF, hIY⟩, hq⟩
    exact ⟨⟨hIY, Or.inl ⟨(hF.2.2 0 9 (show (9 : Nat) ∉ [1] from by decide)).trans hr9, (hF.2.2 0 2 (show (2 : Nat) ∉ [1] from by decide)).trans hr2, (PGC.fr hP hF ⟨(show (406 : Nat) ∉ [1] from by decide), (show (401 : Nat) ∉ [1] from by decide), fun j => (show (4000 : Nat) ∉ [1] from by decide), fun j => (show (4200 : Nat) ∉ [1] from by decide), fun j => (show (3800 : Nat) ∉ [1] from by decide)⟩)⟩⟩, hq⟩
  · refine ok.mono (v_Court_end_C24 hI) ?_
    rintro r Y ⟨⟨hF, hIY⟩, hq⟩
    exact ⟨⟨hIY, Or.inr ⟨(hF.2.2 0 9 (show (9 : Nat) ∉ [1] from by decide)).trans hr9, (hF.2.2 0 2 (show (2 : Nat) ∉ [1] from by decide)).trans hr2, (PGC.fr hP hF ⟨(show (4806 : Nat) ∉ [1] from by decide), (show (4801 : Nat) ∉ [1] from by decide), fun j => (show (8400 : Nat) ∉ [1] from by decide), fun j => (show (8600 : Nat) ∉ [1] from by decide), fun j => (show (8200 : Nat) ∉ [1] from by decide)⟩)⟩⟩, hq⟩
theorem jc_fault {X : St} {p1 : Int32} (h : JC X) : ok (g_Court_fault p1 X) (fun r Y => JC Y ∧ (Y.1 0 1).toInt = (X.1 0 1).toInt) := by
  obtain ⟨hI, ⟨hr9, hr2, hP⟩ | ⟨hr9, hr2, hP⟩⟩ := h
  · refine ok.mono (v_Court_fault_C2 hI) ?_
    rintro r Y rfl
    exact ⟨⟨hI, Or.inl ⟨hr9, hr2, hP⟩⟩, rfl⟩
  · refine ok.mono (v_Court_fault_C24 hI) ?_
    rintro r Y rfl
    exact ⟨⟨hI, Or.inr ⟨hr9, hr2, hP⟩⟩, rfl⟩
theorem jc_tell {X : St} {p1 : Int32} {p2 : Int32} (h : JC X) : ok (g_Court_tell p1 p2 X) (fun r Y => JC Y ∧ (Y.1 0 1).toInt = (X.1 0 1).toInt) := by
  obtain ⟨hI, ⟨hr9, hr2, hP⟩ | ⟨hr9, hr2, hP⟩⟩ := h
  · refine ok.mono (v_Court_tell_C2 hI hr9) ?_
    rintro r Y ⟨hF, hIY⟩
    exact ⟨⟨hIY, Or.inl ⟨(hF.2.2 0 9 (show (9 : Nat) ∉ [4, 3600] from by decide)).trans hr9, (hF.2.2 0 2 (show (2 : Nat) ∉ [4, 3600] from by decide)).trans hr2, (PGC.fr hP hF ⟨(show (406 : Nat) ∉ [4, 3600] from by decide), (show (401 : Nat) ∉ [4, 3600] from by decide), fun j => (show (4000 : Nat) ∉ [4, 3600] from by decide), fun j => (show (4200 : Nat) ∉ [4, 3600] from by decide), fun j => (show (3800 : Nat) ∉ [4, 3600] from by decide)⟩)⟩⟩, (congrArg Int32.toInt (hF.1 0 1 (show (1 : Nat) ∉ [4, 3600] from by decide)))⟩
  · refine ok.mono (v_Court_tell_C24 hI hr9) ?_
    rintro r Y ⟨hF, hIY⟩
    exact ⟨⟨hIY, Or.inr ⟨(hF.2.2 0 9 (show (9 : Nat) ∉ [4, 8000] from by decide)).trans hr9, (hF.2.2 0 2 (show (2 : Nat) ∉ [4, 8000] from by decide)).trans hr2, (PGC.fr hP hF ⟨(show (4806 : Nat) ∉ [4, 8000] from by decide), (show (4801 : Nat) ∉ [4, 8000] from by decide), fun j => (show (8400 : Nat) ∉ [4, 8000] from by decide), fun j => (show (8600 : Nat) ∉ [4, 8000] from by decide), fun j => (show (8200 : Nat) ∉ [4, 8000] from by decide)⟩)⟩⟩, (congrArg Int32.toInt (hF.1 0 1 (show (1 : Nat) ∉ [4, 8000] from by decide)))⟩
theorem n1_Qv65 : (1 : Nat) ∉ Qv65 := by decide
theorem n9_Qv65 : (9 : Nat) ∉ Qv65 := by decide
theorem n2_Qv65 : (2 : Nat) ∉ Qv65 := by decide
theorem n1_Qv69 : (1 : Nat) ∉ Qv69 := by decide
theorem n9_Qv69 : (9 : Nat) ∉ Qv69 := by decide
theorem n2_Qv69 : (2 : Nat) ∉ Qv69 := by decide
theorem jc_judge {X : St} (h : JC X) : ok (g_Court_judge X) (fun r Y => JC Y ∧ (Y.1 0 1).toInt = (X.1 0 1).toInt) := by
  obtain ⟨hI, ⟨hr9, hr2, hP⟩ | ⟨hr9, hr2, hP⟩⟩ := h
  · refine ok.mono (v_Court_judge_C2 hI hr9 hP) ?_
    rintro r Y ⟨hF, hIY⟩
    exact ⟨⟨hIY, Or.inl ⟨(hF.2.2 0 9 n9_Qv65).trans hr9, (hF.2.2 0 2 n2_Qv65).trans hr2, (PGC.fr hP hF ⟨n406_Qv65, n401_Qv65, fun j => n4000_Qv65, fun j => n4200_Qv65, fun j => n3800_Qv65⟩)⟩⟩, (congrArg Int32.toInt (hF.1 0 1 n1_Qv65))⟩
  · refine ok.mono (v_Court_judge_C24 hI hr9 hP) ?_
    rintro r Y ⟨hF, hIY⟩
    exact ⟨⟨hIY, Or.inr ⟨(hF.2.2 0 9 n9_Qv69).trans hr9, (hF.2.2 0 2 n2_Qv69).trans hr2, (PGC.fr hP hF ⟨n4806_Qv69, n4801_Qv69, fun j => n8400_Qv69, fun j => n8600_Qv69, fun j => n8200_Qv69⟩)⟩⟩, (congrArg Int32.toInt (hF.1 0 1 n1_Qv69))⟩
theorem jc_guard {X : St} {p1 : Int32} {p2 : Int32} (h : JC X) : ok (g_Court_guard p1 p2 X) (fun r Y => JC Y ∧ (Y.1 0 1).toInt = (X.1 0 1).toInt) := by
  obtain ⟨hI, ⟨hr9, hr2, hP⟩ | ⟨hr9, hr2, hP⟩⟩ := h
  · refine ok.mono (v_Court_guard_C2 hI hr9) ?_
    rintro r Y rfl
    exact ⟨⟨hI, Or.inl ⟨hr9, hr2, hP⟩⟩, rfl⟩
  · refine ok.mono (v_Court_guard_C24 hI hr9) ?_
    rintro r Y rfl
    exact ⟨⟨hI, Or.inr ⟨hr9, hr2, hP⟩⟩, rfl⟩
theorem jc_part {X : St} {p1 : Int32} {p2 : Int32} (h : JC X) : ok (g_Court_part p1 p2 X) (fun r Y => JC Y ∧ (Y.1 0 1).toInt = (X.1 0 1).toInt) := by
  obtain ⟨hI, ⟨hr9, hr2, hP⟩ | ⟨hr9, hr2, hP⟩⟩ := h
  · refine ok.mono (v_Court_part_C2 hI hr9) ?_
    rintro r Y rfl
    exact ⟨⟨hI, Or.inl ⟨hr9, hr2, hP⟩⟩, rfl⟩
  · refine ok.mono (v_Court_part_C24 hI hr9) ?_
    rintro r Y rfl
    exact ⟨⟨hI, Or.inr ⟨hr9, hr2, hP⟩⟩, rfl⟩
theorem n1_Qv66 : (1 : Nat) ∉ Qv66 := by decide
theorem n9_Qv66 : (9 : Nat) ∉ Qv66 := by decide
theorem n2_Qv66 : (2 : Nat) ∉ Qv66 := by decide
theorem jc_run {X : St} {p1 : Int32} (h : JC X) : ok (g_Court_run p1 X) (fun r Y => JC Y ∧ (Y.1 0 1).toInt = (X.1 0 1).toInt) := by
  obtain ⟨hI, ⟨hr9, hr2, hP⟩ | ⟨hr9, hr2, hP⟩⟩ := h
  · refine ok.mono (v_Court_run_C2 hI hr9 hP) ?_
    rintro r Y ⟨hF, hIY⟩
    exact ⟨⟨hIY, Or.inl ⟨(hF.2.2 0 9 n9_Qv66).trans hr9, (hF.2.2 0 2 n2_Qv66).trans hr2, (PGC.fr hP hF ⟨n406_Qv66, n401_Qv66, fun j => n4000_Qv66, fun j => n4200_Qv66, fun j => n3800_Qv66⟩)⟩⟩, (congrArg Int32.toInt (hF.1 0 1 n1_Qv66))⟩
  · refine ok.mono (v_Court_run_C24 hI hr9 hP) ?_
    rintro r Y ⟨hF, hIY⟩
    exact ⟨⟨hIY, Or.inr ⟨(hF.2.2 0 9 n9_Qv66).trans hr9, (hF.2.2 0 2 n2_Qv66).trans hr2, (PGC.fr hP hF ⟨n4806_Qv66, n4801_Qv66, fun j => n8400_Qv66, fun j => n8600_Qv66, fun j => n8200_Qv66⟩)⟩⟩, (congrArg Int32.toInt (hF.1 0 1 n1_Qv66))⟩
theorem jc_runUntold {X : St} {p1 : Int32} (h : JC X) : ok (g_Court_runUntold p1 X) (fun r Y => JC Y ∧ (Y.1 0 1).toInt = (X.1 0 1).toInt) := by
  obtain ⟨hI, ⟨hr9, hr2, hP⟩ | ⟨hr9, hr2, hP⟩⟩ := h
  · refine ok.mono (v_Court_runUntold_C2 hI hr9 hP) ?_
    rintro r Y ⟨hF, hIY⟩
    exact ⟨⟨hIY, Or.inl ⟨(hF.2.2 0 9 n9_Qv66).trans hr9, (hF.2.2 0 2 n2_Qv66).trans hr2, (PGC.fr hP hF ⟨n406_Qv66, n401_Qv66, fun j => n4000_Qv66, fun j => n4200_Qv66, fun j => n3800_Qv66⟩)⟩⟩, (congrArg Int32.toInt (hF.1 0 1 n1_Qv66))⟩
  · refine ok.mono (v_Court_runUntold_C24 hI hr9 hP) ?_
    rintro r Y ⟨hF, hIY⟩
    exact ⟨⟨hIY, Or.inr ⟨(hF.2.2 0 9 n9_Qv66).trans hr9, (hF.2.2 0 2 n2_Qv66).trans hr2, (PGC.fr hP hF ⟨n4806_Qv66, n4801_Qv66, fun j => n8400_Qv66, fun j => n8600_Qv66, fun j => n8200_Qv66⟩)⟩⟩, (congrArg Int32.toInt (hF.1 0 1 n1_Qv66))⟩
theorem jc_told {X : St} {p1 : Int32} (h : JC X) : ok (g_Court_told p1 X) (fun r Y => JC Y ∧ (Y.1 0 1).toInt = (X.1 0 1).toInt) := by
  obtain ⟨hI, ⟨hr9, hr2, hP⟩ | ⟨hr9, hr2, hP⟩⟩ := h
  · refine ok.mono (v_Court_told_C2 hI) ?_
    rintro r Y rfl
    exact ⟨⟨hI, Or.inl ⟨hr9, hr2, hP⟩⟩, rfl⟩
  · refine ok.mono (v_Court_told_C24 hI) ?_
    rintro r Y rfl
    exact ⟨⟨hI, Or.inr ⟨hr9, hr2, hP⟩⟩, rfl⟩
theorem jc_out {X : St} {p1 : Int32} (h : JC X) : ok (g_Court_out p1 X) (fun r Y => JC Y ∧ (Y.1 0 1).toInt = (X.1 0 1).toInt) := by
  obtain ⟨hI, ⟨hr9, hr2, hP⟩ | ⟨hr9, hr2, hP⟩⟩ := h
  · refine ok.mono (v_Court_out_C2 hI) ?_
    rintro r Y rfl
    exact ⟨⟨hI, Or.inl ⟨hr9, hr2, hP⟩⟩, rfl⟩
  · refine ok.mono (v_Court_out_C24 hI) ?_
    rintro r Y rfl
    exact ⟨⟨hI, Or.inr ⟨hr9, hr2, hP⟩⟩, rfl⟩
theorem jc_asked {X : St} {p1 : Int32} {p2 : Int32} (h : JC X) : ok (g_Court_asked p1 p2 X) (fun r Y => JC Y ∧ (Y.1 0 1).toInt = (X.1 0 1).toInt) := by
  obtain ⟨hI, ⟨hr9, hr2, hP⟩ | ⟨hr9, hr2, hP⟩⟩ := h
  · refine ok.mono (v_Court_asked_C2 hI hr9) ?_
    rintro r Y rfl
    exact ⟨⟨hI, Or.inl ⟨hr9, hr2, hP⟩⟩, rfl⟩
  · refine ok.mono (v_Court_asked_C24 hI hr9) ?_
    rintro r Y rfl
    exact ⟨⟨hI, Or.inr ⟨hr9, hr2, hP⟩⟩, rfl⟩
theorem jc_about {X : St} {p1 : Int32} (h : JC X) : ok (g_Court_about p1 X) (fun r Y => JC Y ∧ (Y.1 0 1).toInt = (X.1 0 1).toInt) := by
  obtain ⟨hI, ⟨hr9, hr2, hP⟩ | ⟨hr9, hr2, hP⟩⟩ := h
  · refine ok.mono (v_Court_about_C2 hI hr9) ?_
    rintro r Y rfl
    exact ⟨⟨hI, Or.inl ⟨hr9, hr2, hP⟩⟩, rfl⟩
  · refine ok.mono (v_Court_about_C24 hI hr9) ?_
    rintro r Y rfl
    exact ⟨⟨hI, Or.inr ⟨hr9, hr2, hP⟩⟩, rfl⟩
theorem jc_read {X : St} (h : JC X) : ok (g_Court_read X) (fun r Y => JC Y ∧ (Y.1 0 1).toInt = 0) := by
  obtain ⟨hI, ⟨hr9, hr2, hP⟩ | ⟨hr9, hr2, hP⟩⟩ := h
  · refine ok.mono (rd_C2 hI hr9 hr2 hP) ?_
    rintro r Y ⟨hIY, ht, hq⟩
    exact ⟨⟨hIY, hq⟩, ht⟩
  · refine ok.mono (rd_C24 hI hr9 hr2 hP) ?_
    rintro r Y ⟨hIY, ht, hq⟩
    exact ⟨⟨hIY, hq.symm⟩, ht⟩
