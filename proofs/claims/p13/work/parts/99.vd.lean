/-! the other program -/
def Qv25 : List Nat := [5000, 5200, 5400, 5600, 5800, 6000, 6200, 6400, 8800, 11005, 11200, 11400, 11600, 11800, 12000, 12200, 12201, 12202, 12203, 12204, 12205, 12214, 12400, 12600, 12800, 13000, 13200, 13400, 13600, 13800]
set_option maxHeartbeats 4000000 in
theorem v_Kinds_cutTo_25 {p1 : Int32} {X : St} (hI : INV X) : ok (g_Kinds_cutTo 25 p1 X) (fun r Y => (Fr YC [5000, 6200] X Y ∧ INV Y)) := by
  unfold g_Kinds_cutTo
  refine ok.letE (v1 := (X.1 25 0)) rfl ?_
  have g1 : 0 ≤ (X.1 25 0).toInt ∧ (X.1 25 0).toInt ≤ 1549 := hI.1 25 0
  refine ok.sub (show _ ≤ (X.1 25 0).toInt - (1 : Int) ∧ (X.1 25 0).toInt - (1 : Int) ≤ _ from by omega) (fun x2 hx2 => ?_)
  have hx2 : x2.toInt = (X.1 25 0).toInt - (1 : Int) := hx2
  have lpu2 : ∀ (n : Nat), ∀ (a_1u2 : Int32) (a_2u2 : Int32) (Zu2 : St), INV Zu2 → Fr YC [5000, 6200] X Zu2 → (-1 ≤ a_2u2.toInt ∧ a_2u2.toInt ≤ 1548) → (a_2u2.toInt + 1).toNat < n → ok (g_Kinds_cutTo_7 n 25 a_1u2 a_2u2 Zu2) (fun r Y => (Fr YC [5000, 6200] X Y ∧ INV Y)) := by
    intro n
    unfold g_Kinds_cutTo_7
    refine lp_indN (P := fun (n : Nat) (r_u2 : Nat → Int32 → Int32 → St → Option (Int32 × St)) => ∀ (a_1u2 : Int32) (a_2u2 : Int32) (Zu2 : St), INV Zu2 → Fr YC [5000, 6200] X Zu2 → (-1 ≤ a_2u2.toInt ∧ a_2u2.toInt ≤ 1548) → (a_2u2.toInt + 1).toNat < n → ok (r_u2 25 a_1u2 a_2u2 Zu2) (fun r Y => (Fr YC [5000, 6200] X Y ∧ INV Y))) ?_ ?_ n
    · intro a_1u2 a_2u2 Zu2 hIu2 hFu2 u2_0  hm; exact absurd hm (Nat.not_lt_zero _)
    · intro n r_u2 ih_u2 a_1u2 a_2u2 Zu2 hIu2 hFu2 u2_0  hmu2
      unfold g_Kinds_cutTo_7_s
      refine ok.ite (fun c3 => ?_) (fun c3 => ?_)
      · skip
        have g4 := i32_le a_1u2
        exact ok.ret ⟨(Fr.rf.tr hFu2 (fun _ q => q)), hIu2⟩
      · skip
        have g5 := i32_le a_1u2
        refine ok.ite (fun c6 => ?_) (fun c6 => ?_)
        · skip
          exact ok.ret ⟨(Fr.rf.tr hFu2 (fun _ q => q)), hIu2⟩
        · skip
          refine ok.letE (v1 := 31) (by decide) ?_
          refine ok.letE (v1 := 29) (by decide) ?_
          refine ok.ck (show 0 ≤ a_2u2.toInt ∧ a_2u2.toInt < ((1549 : Nat) : Int) from by omega) ?_
          refine ok.letE (v1 := (X.1 29 (ix a_2u2))) (hFu2.1 29 (ix a_2u2) (show (5800 : Nat) ∉ [5000, 6200] from by decide)) ?_
          refine ok.bd (v_Kinds_bucketOf hIu2) ?_
          rintro x6 _ ⟨rfl, hp7⟩
          have hp7 : 0 ≤ x6.toInt ∧ x6.toInt ≤ 511 := hp7
          refine ok.letE (v1 := 32) (by decide) ?_
          refine ok.ck (show 0 ≤ a_2u2.toInt ∧ a_2u2.toInt < ((1549 : Nat) : Int) from by omega) ?_
          refine ok.letE (v1 := (X.1 32 (ix a_2u2))) (hFu2.1 32 (ix a_2u2) (show (6400 : Nat) ∉ [5000, 6200] from by decide)) ?_
          have g8 : -1 ≤ (X.1 32 (ix a_2u2)).toInt ∧ (X.1 32 (ix a_2u2)).toInt ≤ 1548 := hI.1 32 (ix a_2u2)
          refine ok.ck (show 0 ≤ x6.toInt ∧ x6.toInt < ((512 : Nat) : Int) from by omega) ?_
          refine ok.wI (L := [6200]) hIu2 (show -1 ≤ (X.1 32 (ix a_2u2)).toInt ∧ (X.1 32 (ix a_2u2)).toInt ≤ 1548 from by omega) (show (6200 : Nat) ∈ [6200] from by decide) (by decide) (fun Z9 hIZ9 hFZ9 hkZ9 hoZ9 => ?_)
          refine ok.wI (L := [5000]) hIZ9 (show 0 ≤ a_2u2.toInt ∧ a_2u2.toInt ≤ 1549 from by omega) (show (5000 : Nat) ∈ [5000] from by decide) (by decide) (fun Z10 hIZ10 hFZ10 hkZ10 hoZ10 => ?_)
          refine ok.inc (by decide) (show _ ≤ a_2u2.toInt + (-1) ∧ a_2u2.toInt + (-1) ≤ _ from by omega) (fun x12 hx12 => ?_)
          have hx12 : x12.toInt = a_2u2.toInt + (-1) := hx12
          exact ih_u2 a_1u2 x12 Z10 hIZ10 (((Fr.rf.tr hFu2 (fun _ q => q)).tr hFZ9 (by decide)).tr hFZ10 (by decide)) (show -1 ≤ x12.toInt ∧ x12.toInt ≤ 1548 from by omega) (show (x12.toInt + 1).toNat < _ from by omega)
  exact lpu2 BIG p1 x2 X hI (Fr.rf : Fr YC [5000, 6200] _ _) (show -1 ≤ x2.toInt ∧ x2.toInt ≤ 1548 from by omega) (show (x2.toInt + 1).toNat < BIG from ltBIG (show _ < 100000 from by omega))
theorem n4801_Qv25 : (4801 : Nat) ∉ Qv25 := by decide
def Qv26 : List Nat := [5000, 5200, 5400, 5600, 5800, 6000, 6200, 6400, 8800, 11005, 11200, 11400, 11600, 11800, 12000, 12203, 12204, 12205, 12214, 12400, 13200, 13400, 13600, 13800]
theorem n12201_Qv26 : (12201 : Nat) ∉ Qv26 := by decide
theorem n7400_Qv26 : (7400 : Nat) ∉ Qv26 := by decide
theorem n8200_Qv26 : (8200 : Nat) ∉ Qv26 := by decide
theorem n8400_Qv26 : (8400 : Nat) ∉ Qv26 := by decide
theorem n8600_Qv26 : (8600 : Nat) ∉ Qv26 := by decide
def Qv27 : List Nat := [5000, 5200, 5400, 5600, 5800, 6000, 6200, 6400, 8800, 11005, 11200, 11400, 11600, 11800, 12000, 12214, 12400, 13200, 13400]
set_option maxHeartbeats 4000000 in
theorem v_Kinds_hasAny_25 {p1 : Int32} {X : St} (hI : INV X) : ok (g_Kinds_hasAny 25 p1 X) (fun r Y => (X = Y)) := by
  unfold g_Kinds_hasAny
  refine ok.ite (fun c1 => ?_) (fun c1 => ?_)
  · skip
    have g2 := i32_le p1
    exact ok.ret rfl
  · skip
    have g3 := i32_le p1
    refine ok.letE (v1 := (X.1 25 0)) rfl ?_
    have g4 : 0 ≤ (X.1 25 0).toInt ∧ (X.1 25 0).toInt ≤ 1549 := hI.1 25 0
    refine ok.ite (fun c5 => ?_) (fun c5 => ?_)
    · skip
      exact ok.ret rfl
    · skip
      refine ok.letE (v1 := 30) (by decide) ?_
      refine ok.ck (show 0 ≤ p1.toInt ∧ p1.toInt < ((1549 : Nat) : Int) from by omega) ?_
      refine ok.letE (v1 := (X.1 30 (ix p1))) rfl ?_
      refine ok.ite (fun c6 => ?_) (fun c6 => ?_)
      · skip
        have g7 := i32_le (X.1 30 (ix p1))
        exact ok.ret rfl
      · skip
        exact ok.ret rfl
set_option maxHeartbeats 4000000 in
theorem v_Judging_push_J24 {p1 : Int32} {X : St} (hI : INV X) (hr61_2 : X.2.2 61 2 = 26) : ok (g_Judging_push p1 X) (fun r Y => (Fr YC [12214, 12400, 13400] X Y ∧ INV Y)) := by
  unfold g_Judging_push
  refine ok.letE (v1 := (X.1 61 14)) rfl ?_
  have g1 : 0 ≤ (X.1 61 14).toInt ∧ (X.1 61 14).toInt ≤ 3000 := hI.1 61 14
  refine ok.ite (fun c2 => ?_) (fun c2 => ?_)
  · skip
    unfold g_Judging_push_30
    refine ok.letE (v1 := (X.1 61 3)) rfl ?_
    have g3 : 0 ≤ (X.1 61 3).toInt ∧ (X.1 61 3).toInt ≤ 39 := hI.1 61 3
    refine ok.letE (v1 := (X.1 61 3)) rfl ?_
    refine ok.ck (show 0 ≤ (X.1 61 3).toInt ∧ (X.1 61 3).toInt < ((40 : Nat) : Int) from by omega) ?_
    refine ok.letE (v1 := (X.1 62 (ix (X.1 61 3)))) rfl ?_
    refine ok.ite (fun c4 => ?_) (fun c4 => ?_)
    · skip
      have g5 := i32_le (X.1 62 (ix (X.1 61 3)))
      refine ok.ck (by rw [hr61_2]; decide) ?_
      refine ok.letE (v1 := 25) (by rw [hr61_2]) ?_
      refine ok.bd (v_Kinds_hasAny_25 hI) ?_
      rintro x7 _ rfl
      refine ok.ite (fun c7 => ?_) (fun c7 => ?_)
      · skip
        have g8 := i32_le x7
        unfold g_Judging_push_66
        refine ok.ck (show 0 ≤ (X.1 61 3).toInt ∧ (X.1 61 3).toInt < ((40 : Nat) : Int) from by omega) ?_
        refine ok.wI (L := [12400]) hI (show True from trivial) (show (12400 : Nat) ∈ [12400] from by decide) (by decide) (fun Z9 hIZ9 hFZ9 hkZ9 hoZ9 => ?_)
        exact ok.ret ⟨(Fr.rf.tr hFZ9 (by decide)), hIZ9⟩
      · skip
        unfold g_Judging_push_61
        unfold g_Judging_push_66
        refine ok.ck (show 0 ≤ (X.1 61 3).toInt ∧ (X.1 61 3).toInt < ((40 : Nat) : Int) from by omega) ?_
        refine ok.wI (L := [12400]) hI (show True from trivial) (show (12400 : Nat) ∈ [12400] from by decide) (by decide) (fun Z10 hIZ10 hFZ10 hkZ10 hoZ10 => ?_)
        exact ok.ret ⟨(Fr.rf.tr hFZ10 (by decide)), hIZ10⟩
    · skip
      unfold g_Judging_push_61
      unfold g_Judging_push_66
      refine ok.ck (show 0 ≤ (X.1 61 3).toInt ∧ (X.1 61 3).toInt < ((40 : Nat) : Int) from by omega) ?_
      refine ok.wI (L := [12400]) hI (show True from trivial) (show (12400 : Nat) ∈ [12400] from by decide) (by decide) (fun Z11 hIZ11 hFZ11 hkZ11 hoZ11 => ?_)
      exact ok.ret ⟨(Fr.rf.tr hFZ11 (by decide)), hIZ11⟩
  · skip
    refine ok.letE (v1 := (X.1 61 14)) rfl ?_
    refine ok.ck (show 0 ≤ (X.1 61 14).toInt ∧ (X.1 61 14).toInt < ((3000 : Nat) : Int) from by omega) ?_
    refine ok.wI (L := [13400]) hI (show True from trivial) (show (13400 : Nat) ∈ [13400] from by decide) (by decide) (fun Z12 hIZ12 hFZ12 hkZ12 hoZ12 => ?_)
    refine ok.letE (v1 := (X.1 61 14)) (hFZ12.1 61 14 (show (12214 : Nat) ∉ [13400] from by decide)) ?_
    refine ok.add (show _ ≤ (X.1 61 14).toInt + (1 : Int) ∧ (X.1 61 14).toInt + (1 : Int) ≤ _ from by omega) (fun x12 hx12 => ?_)
    have hx12 : x12.toInt = (X.1 61 14).toInt + (1 : Int) := hx12
    refine ok.wI (L := [12214]) hIZ12 (show 0 ≤ x12.toInt ∧ x12.toInt ≤ 3000 from by omega) (show (12214 : Nat) ∈ [12214] from by decide) (by decide) (fun Z13 hIZ13 hFZ13 hkZ13 hoZ13 => ?_)
    unfold g_Judging_push_30
    refine ok.letE (v1 := (X.1 61 3)) ((hFZ13.1 61 3 (show (12203 : Nat) ∉ [12214] from by decide)).trans (hFZ12.1 61 3 (show (12203 : Nat) ∉ [13400] from by decide))) ?_
    have g14 : 0 ≤ (X.1 61 3).toInt ∧ (X.1 61 3).toInt ≤ 39 := hI.1 61 3
    refine ok.letE (v1 := (X.1 61 3)) ((hFZ13.1 61 3 (show (12203 : Nat) ∉ [12214] from by decide)).trans (hFZ12.1 61 3 (show (12203 : Nat) ∉ [13400] from by decide))) ?_
    refine ok.ck (show 0 ≤ (X.1 61 3).toInt ∧ (X.1 61 3).toInt < ((40 : Nat) : Int) from by omega) ?_
    refine ok.letE (v1 := (X.1 62 (ix (X.1 61 3)))) ((hFZ13.1 62 (ix (X.1 61 3)) (show (12400 : Nat) ∉ [12214] from by decide)).trans (hFZ12.1 62 (ix (X.1 61 3)) (show (12400 : Nat) ∉ [13400] from by decide))) ?_
    refine ok.ite (fun c15 => ?_) (fun c15 => ?_)
    · skip
      have g16 := i32_le (X.1 62 (ix (X.1 61 3)))
      refine ok.ck (by rw [(((hFZ13.2.2 61 2 (show (12202 : Nat) ∉ [12214] from by decide)).trans (hFZ12.2.2 61 2 (show (12202 : Nat) ∉ [13400] from by decide))).trans hr61_2)]; decide) ?_
      refine ok.letE (v1 := 25) (by rw [(((hFZ13.2.2 61 2 (show (12202 : Nat) ∉ [12214] from by decide)).trans (hFZ12.2.2 61 2 (show (12202 : Nat) ∉ [13400] from by decide))).trans hr61_2)]) ?_
      refine ok.bd (v_Kinds_hasAny_25 hIZ13) ?_
      rintro x7 _ rfl
      refine ok.ite (fun c18 => ?_) (fun c18 => ?_)
      · skip
        have g19 := i32_le x7
        unfold g_Judging_push_66
        refine ok.ck (show 0 ≤ (X.1 61 3).toInt ∧ (X.1 61 3).toInt < ((40 : Nat) : Int) from by omega) ?_
        refine ok.wI (L := [12400]) hIZ13 (show True from trivial) (show (12400 : Nat) ∈ [12400] from by decide) (by decide) (fun Z20 hIZ20 hFZ20 hkZ20 hoZ20 => ?_)
        exact ok.ret ⟨(((Fr.rf.tr hFZ12 (by decide)).tr hFZ13 (by decide)).tr hFZ20 (by decide)), hIZ20⟩
      · skip
        unfold g_Judging_push_61
        unfold g_Judging_push_66
        refine ok.ck (show 0 ≤ (X.1 61 3).toInt ∧ (X.1 61 3).toInt < ((40 : Nat) : Int) from by omega) ?_
        refine ok.wI (L := [12400]) hIZ13 (show True from trivial) (show (12400 : Nat) ∈ [12400] from by decide) (by decide) (fun Z21 hIZ21 hFZ21 hkZ21 hoZ21 => ?_)
        exact ok.ret ⟨(((Fr.rf.tr hFZ12 (by decide)).tr hFZ13 (by decide)).tr hFZ21 (by decide)), hIZ21⟩
    · skip
      unfold g_Judging_push_61
      unfold g_Judging_push_66
      refine ok.ck (show 0 ≤ (X.1 61 3).toInt ∧ (X.1 61 3).toInt < ((40 : Nat) : Int) from by omega) ?_
      refine ok.wI (L := [12400]) hIZ13 (show True from trivial) (show (12400 : Nat) ∈ [12400] from by decide) (by decide) (fun Z22 hIZ22 hFZ22 hkZ22 hoZ22 => ?_)
      exact ok.ret ⟨(((Fr.rf.tr hFZ12 (by decide)).tr hFZ13 (by decide)).tr hFZ22 (by decide)), hIZ22⟩
def Qv28 : List Nat := [8800, 11005, 11200, 11400, 11600, 11800, 12000, 12214]
theorem n13400_Qv28 : (13400 : Nat) ∉ Qv28 := by decide
theorem n13600_Qv28 : (13600 : Nat) ∉ Qv28 := by decide
theorem n12203_Qv28 : (12203 : Nat) ∉ Qv28 := by decide
def Qv29 : List Nat := [8800, 11005, 11200, 11400, 11600, 11800, 12000]
theorem s11005x11200x11400x11600x11800x12000_Qv29 : ∀ k ∈ [11005, 11200, 11400, 11600, 11800, 12000], k ∈ Qv29 := by decide
set_option maxHeartbeats 4000000 in
theorem v_Judging_layGuard_J24 {p1 : Int32} {p2 : Int32} {p3 : Int32} {p4 : Int32} {X : St} (hI : INV X) (hr61_0 : X.2.2 61 0 = 56) (hr61_1 : X.2.2 61 1 = 25) (h0 : 0 ≤ p1.toInt ∧ p1.toInt ≤ 9079) : ok (g_Judging_layGuard p1 p2 p3 p4 X) (fun r Y => (Fr YC Qv29 X Y ∧ INV Y)) := by
  unfold g_Judging_layGuard
  refine ok.ck (by rw [hr61_1]; decide) ?_
  refine ok.letE (v1 := 24) (by rw [hr61_1]) ?_
  refine ok.letE (v1 := 44) (by decide) ?_
  refine ok.ck hr61_0 ?_
  refine ok.ck (by rw [hr61_1]; decide) ?_
  refine ok.letE (v1 := 24) (by rw [hr61_1]) ?_
  refine ok.letE (v1 := 45) (by decide) ?_
  refine ok.ck (show 0 ≤ p1.toInt ∧ p1.toInt < ((9080 : Nat) : Int) from by omega) ?_
  refine ok.letE (v1 := (X.1 45 (ix p1))) rfl ?_
  have g1 : 0 ≤ (X.1 45 (ix p1)).toInt ∧ (X.1 45 (ix p1)).toInt ≤ 3000 := hI.1 45 (ix p1)
  refine ok.letE (v1 := (X.1 61 3)) rfl ?_
  have g2 : 0 ≤ (X.1 61 3).toInt ∧ (X.1 61 3).toInt ≤ 39 := hI.1 61 3
  refine ok.bd (v_Guards_lay hI) ?_
  rintro x7 Z4 ⟨hFZ4, hIZ4⟩
  refine ok.ck (show 0 ≤ p1.toInt ∧ p1.toInt < ((9080 : Nat) : Int) from by omega) ?_
  refine ok.wI (L := [8800]) hIZ4 (show True from trivial) (show (8800 : Nat) ∈ [8800] from by decide) (by decide) (fun Z5 hIZ5 hFZ5 hkZ5 hoZ5 => ?_)
  exact ok.ret ⟨((Fr.rf.tr hFZ4 s11005x11200x11400x11600x11800x12000_Qv29).tr hFZ5 (by decide)), hIZ5⟩
theorem n12200_Qv28 : (12200 : Nat) ∉ Qv28 := by decide
theorem n12201_Qv28 : (12201 : Nat) ∉ Qv28 := by decide
theorem sQv29_Qv28 : ∀ k ∈ Qv29, k ∈ Qv28 := by decide
set_option maxHeartbeats 4000000 in
theorem v_Judging_mix_J24 {p1 : Int32} {X : St} (hI : INV X) (hr61_0 : X.2.2 61 0 = 56) (hr61_1 : X.2.2 61 1 = 25) (h0 : 0 ≤ p1.toInt ∧ p1.toInt ≤ 20001) : ok (g_Judging_mix p1 X) (fun r Y => (Fr YC Qv28 X Y ∧ INV Y)) := by
  unfold g_Judging_mix
  refine ok.letE (v1 := (X.1 61 14)) rfl ?_
  have g1 : 0 ≤ (X.1 61 14).toInt ∧ (X.1 61 14).toInt ≤ 3000 := hI.1 61 14
  refine ok.sub (show _ ≤ (X.1 61 14).toInt - p1.toInt ∧ (X.1 61 14).toInt - p1.toInt ≤ _ from by omega) (fun x2 hx2 => ?_)
  have hx2 : x2.toInt = (X.1 61 14).toInt - p1.toInt := hx2
  refine ok.eqv (fun x3 hx3 => ?_)
  have hx3 : ((0 : Int) < x2.toInt ∧ x3.toInt = x2.toInt) ∨ (¬ ((0 : Int) < x2.toInt) ∧ x3.toInt = (0 : Int)) := by
    rw [hx3]
    by_cases gc : (0 : Int32) < x2
    · rw [if_pos gc]; exact Or.inl ⟨(Int32.lt_iff_toInt_lt.mp gc), rfl⟩
    · rw [if_neg gc]; exact Or.inr ⟨(fun z => gc (Int32.lt_iff_toInt_lt.mpr z)), rfl⟩
  refine ok.letE (v1 := (X.1 61 14)) rfl ?_
  refine ok.ite (fun c2 => ?_) (fun c2 => ?_)
  · skip
    unfold g_Judging_mix_29
    have lpu3 : ∀ (n : Nat), ∀ (a_2u3 : Int32) (a_3u3 : Int32) (a_4u3 : Int32) (a_5u3 : Int32) (Zu3 : St), INV Zu3 → Fr YC Qv28 X Zu3 → (0 ≤ a_2u3.toInt ∧ a_2u3.toInt ≤ 3000) → (0 ≤ a_5u3.toInt ∧ a_5u3.toInt ≤ 3000) → (3001 - a_5u3.toInt).toNat < n → ok (g_Judging_mix_36 n a_2u3 a_3u3 a_4u3 a_5u3 Zu3) (fun r Y => (Fr YC Qv28 X Y ∧ INV Y)) := by
      intro n
      unfold g_Judging_mix_36
      refine lp_indN (P := fun (n : Nat) (r_u3 : Int32 → Int32 → Int32 → Int32 → St → Option (Int32 × St)) => ∀ (a_2u3 : Int32) (a_3u3 : Int32) (a_4u3 : Int32) (a_5u3 : Int32) (Zu3 : St), INV Zu3 → Fr YC Qv28 X Zu3 → (0 ≤ a_2u3.toInt ∧ a_2u3.toInt ≤ 3000) → (0 ≤ a_5u3.toInt ∧ a_5u3.toInt ≤ 3000) → (3001 - a_5u3.toInt).toNat < n → ok (r_u3 a_2u3 a_3u3 a_4u3 a_5u3 Zu3) (fun r Y => (Fr YC Qv28 X Y ∧ INV Y))) ?_ ?_ n
      · intro a_2u3 a_3u3 a_4u3 a_5u3 Zu3 hIu3 hFu3 u3_0 u3_1  hm; exact absurd hm (Nat.not_lt_zero _)
      · intro n r_u3 ih_u3 a_2u3 a_3u3 a_4u3 a_5u3 Zu3 hIu3 hFu3 u3_0 u3_1  hmu3
        unfold g_Judging_mix_36_s
        refine ok.letE (v1 := (Zu3.1 61 14)) rfl ?_
        have g4 : 0 ≤ (Zu3.1 61 14).toInt ∧ (Zu3.1 61 14).toInt ≤ 3000 := hIu3.1 61 14
        refine ok.ite (fun c5 => ?_) (fun c5 => ?_)
        · skip
          have lpu6 : ∀ (n : Nat), ∀ (a_2u6 : Int32) (a_3u6 : Int32) (a_4u6 : Int32) (a_5u6 : Int32) (Zu6 : St), INV Zu6 → Fr YC Qv28 X Zu6 → (0 ≤ a_2u6.toInt ∧ a_2u6.toInt ≤ 3000) → (0 ≤ a_5u6.toInt ∧ a_5u6.toInt ≤ 3000) → (3001 - a_5u6.toInt).toNat < n → ok (g_Judging_mix_77 n a_2u6 a_3u6 a_4u6 a_5u6 Zu6) (fun r Y => (Fr YC Qv28 X Y ∧ INV Y)) := by
            intro n
            unfold g_Judging_mix_77
            refine lp_indN (P := fun (n : Nat) (r_u6 : Int32 → Int32 → Int32 → Int32 → St → Option (Int32 × St)) => ∀ (a_2u6 : Int32) (a_3u6 : Int32) (a_4u6 : Int32) (a_5u6 : Int32) (Zu6 : St), INV Zu6 → Fr YC Qv28 X Zu6 → (0 ≤ a_2u6.toInt ∧ a_2u6.toInt ≤ 3000) → (0 ≤ a_5u6.toInt ∧ a_5u6.toInt ≤ 3000) → (3001 - a_5u6.toInt).toNat < n → ok (r_u6 a_2u6 a_3u6 a_4u6 a_5u6 Zu6) (fun r Y => (Fr YC Qv28 X Y ∧ INV Y))) ?_ ?_ n
            · intro a_2u6 a_3u6 a_4u6 a_5u6 Zu6 hIu6 hFu6 u6_0 u6_1  hm; exact absurd hm (Nat.not_lt_zero _)
            · intro n r_u6 ih_u6 a_2u6 a_3u6 a_4u6 a_5u6 Zu6 hIu6 hFu6 u6_0 u6_1  hmu6
              unfold g_Judging_mix_77_s
              refine ok.letE (v1 := (Zu6.1 61 14)) rfl ?_
              have g7 : 0 ≤ (Zu6.1 61 14).toInt ∧ (Zu6.1 61 14).toInt ≤ 3000 := hIu6.1 61 14
              refine ok.ite (fun c8 => ?_) (fun c8 => ?_)
              · skip
                unfold g_Judging_mix_131
                refine ok.wI (L := [12214]) hIu6 (show 0 ≤ a_2u6.toInt ∧ a_2u6.toInt ≤ 3000 from by omega) (show (12214 : Nat) ∈ [12214] from by decide) (by decide) (fun Z9 hIZ9 hFZ9 hkZ9 hoZ9 => ?_)
                refine ok.ite (fun c10 => ?_) (fun c10 => ?_)
                · skip
                  have g11 := i32_le a_4u6
                  exact ok.ret ⟨((Fr.rf.tr hFu6 (fun _ q => q)).tr hFZ9 (by decide)), hIZ9⟩
                · skip
                  exact ok.ret ⟨((Fr.rf.tr hFu6 (fun _ q => q)).tr hFZ9 (by decide)), hIZ9⟩
              · skip
                refine ok.ite (fun c12 => ?_) (fun c12 => ?_)
                · skip
                  have g13 := i32_le a_4u6
                  refine ok.ck (show 0 ≤ a_5u6.toInt ∧ a_5u6.toInt < ((3000 : Nat) : Int) from by omega) ?_
                  refine ok.letE (v1 := (X.1 67 (ix a_5u6))) (hFu6.1 67 (ix a_5u6) n13400_Qv28) ?_
                  refine ok.ite (fun c14 => ?_) (fun c14 => ?_)
                  · skip
                    have g15 := i32_le (X.1 67 (ix a_5u6))
                    unfold g_Judging_mix_125
                    refine ok.inc (by decide) (show _ ≤ a_5u6.toInt + (1) ∧ a_5u6.toInt + (1) ≤ _ from by omega) (fun x9 hx9 => ?_)
                    have hx9 : x9.toInt = a_5u6.toInt + (1) := hx9
                    exact ih_u6 a_2u6 a_3u6 a_4u6 x9 Zu6 hIu6 (Fr.rf.tr hFu6 (fun _ q => q)) (show 0 ≤ a_2u6.toInt ∧ a_2u6.toInt ≤ 3000 from by omega) (show 0 ≤ x9.toInt ∧ x9.toInt ≤ 3000 from by omega) (show (3001 - x9.toInt).toNat < _ from by omega)
                  · skip
                    refine ok.ck (show 0 ≤ a_5u6.toInt ∧ a_5u6.toInt < ((3000 : Nat) : Int) from by omega) ?_
                    refine ok.letE (v1 := (X.1 68 (ix a_5u6))) (hFu6.1 68 (ix a_5u6) n13600_Qv28) ?_
                    have g16 : 0 ≤ (X.1 68 (ix a_5u6)).toInt ∧ (X.1 68 (ix a_5u6)).toInt ≤ 9079 := hI.1 68 (ix a_5u6)
                    refine ok.ck (show 0 ≤ a_5u6.toInt ∧ a_5u6.toInt < ((3000 : Nat) : Int) from by omega) ?_
                    refine ok.letE (v1 := (X.1 67 (ix a_5u6))) (hFu6.1 67 (ix a_5u6) n13400_Qv28) ?_
                    refine ok.letE (v1 := (X.1 61 3)) (hFu6.1 61 3 n12203_Qv28) ?_
                    have g17 : 0 ≤ (X.1 61 3).toInt ∧ (X.1 61 3).toInt ≤ 39 := hI.1 61 3
                    refine ok.bd (v_Judging_layGuard_J24 hIu6 ((hFu6.2.2 61 0 n12200_Qv28).trans hr61_0) ((hFu6.2.2 61 1 n12201_Qv28).trans hr61_1) (show 0 ≤ (X.1 68 (ix a_5u6)).toInt ∧ (X.1 68 (ix a_5u6)).toInt ≤ 9079 from by omega)) ?_
                    rintro r_18 Z20 ⟨hFZ20, hIZ20⟩
                    unfold g_Judging_mix_125
                    refine ok.inc (by decide) (show _ ≤ a_5u6.toInt + (1) ∧ a_5u6.toInt + (1) ≤ _ from by omega) (fun x9 hx9 => ?_)
                    have hx9 : x9.toInt = a_5u6.toInt + (1) := hx9
                    exact ih_u6 a_2u6 a_3u6 a_4u6 x9 Z20 hIZ20 ((Fr.rf.tr hFu6 (fun _ q => q)).tr hFZ20 sQv29_Qv28) (show 0 ≤ a_2u6.toInt ∧ a_2u6.toInt ≤ 3000 from by omega) (show 0 ≤ x9.toInt ∧ x9.toInt ≤ 3000 from by omega) (show (3001 - x9.toInt).toNat < _ from by omega)
                · skip
                  unfold g_Judging_mix_131
                  refine ok.wI (L := [12214]) hIu6 (show 0 ≤ a_2u6.toInt ∧ a_2u6.toInt ≤ 3000 from by omega) (show (12214 : Nat) ∈ [12214] from by decide) (by decide) (fun Z21 hIZ21 hFZ21 hkZ21 hoZ21 => ?_)
                  refine ok.ite (fun c22 => ?_) (fun c22 => ?_)
                  · skip
                    have g23 := i32_le a_4u6
                    exact ok.ret ⟨((Fr.rf.tr hFu6 (fun _ q => q)).tr hFZ21 (by decide)), hIZ21⟩
                  · skip
                    exact ok.ret ⟨((Fr.rf.tr hFu6 (fun _ q => q)).tr hFZ21 (by decide)), hIZ21⟩
          exact lpu6 BIG a_2u3 a_3u3 a_4u3 a_2u3 Zu3 hIu3 (Fr.rf.tr hFu3 (fun _ q => q)) (show 0 ≤ a_2u3.toInt ∧ a_2u3.toInt ≤ 3000 from by omega) (show 0 ≤ a_2u3.toInt ∧ a_2u3.toInt ≤ 3000 from by omega) (show (3001 - a_2u3.toInt).toNat < BIG from ltBIG (show _ < 100000 from by omega))
        · skip
          refine ok.ite (fun c24 => ?_) (fun c24 => ?_)
          · skip
            have g25 := i32_le a_4u3
            unfold g_Judging_mix_65
            unfold g_Judging_mix_66
            refine ok.inc (by decide) (show _ ≤ a_5u3.toInt + (1) ∧ a_5u3.toInt + (1) ≤ _ from by omega) (fun x14 hx14 => ?_)
            have hx14 : x14.toInt = a_5u3.toInt + (1) := hx14
            exact ih_u3 a_2u3 a_3u3 (0 : Int32) x14 Zu3 hIu3 (Fr.rf.tr hFu3 (fun _ q => q)) (show 0 ≤ a_2u3.toInt ∧ a_2u3.toInt ≤ 3000 from by omega) (show 0 ≤ x14.toInt ∧ x14.toInt ≤ 3000 from by omega) (show (3001 - x14.toInt).toNat < _ from by omega)
          · skip
            refine ok.ck (show 0 ≤ a_5u3.toInt ∧ a_5u3.toInt < ((3000 : Nat) : Int) from by omega) ?_
            refine ok.letE (v1 := (X.1 67 (ix a_5u3))) (hFu3.1 67 (ix a_5u3) n13400_Qv28) ?_
            refine ok.ite (fun c26 => ?_) (fun c26 => ?_)
            · skip
              unfold g_Judging_mix_66
              refine ok.inc (by decide) (show _ ≤ a_5u3.toInt + (1) ∧ a_5u3.toInt + (1) ≤ _ from by omega) (fun x14 hx14 => ?_)
              have hx14 : x14.toInt = a_5u3.toInt + (1) := hx14
              exact ih_u3 a_2u3 a_3u3 (1 : Int32) x14 Zu3 hIu3 (Fr.rf.tr hFu3 (fun _ q => q)) (show 0 ≤ a_2u3.toInt ∧ a_2u3.toInt ≤ 3000 from by omega) (show 0 ≤ x14.toInt ∧ x14.toInt ≤ 3000 from by omega) (show (3001 - x14.toInt).toNat < _ from by omega)
            · skip
              unfold g_Judging_mix_65
              unfold g_Judging_mix_66
              refine ok.inc (by decide) (show _ ≤ a_5u3.toInt + (1) ∧ a_5u3.toInt + (1) ≤ _ from by omega) (fun x14 hx14 => ?_)
              have hx14 : x14.toInt = a_5u3.toInt + (1) := hx14
              exact ih_u3 a_2u3 a_3u3 (0 : Int32) x14 Zu3 hIu3 (Fr.rf.tr hFu3 (fun _ q => q)) (show 0 ≤ a_2u3.toInt ∧ a_2u3.toInt ≤ 3000 from by omega) (show 0 ≤ x14.toInt ∧ x14.toInt ≤ 3000 from by omega) (show (3001 - x14.toInt).toNat < _ from by omega)
    exact lpu3 BIG x3 (2 : Int32) (1 : Int32) x3 X hI (Fr.rf : Fr YC Qv28 _ _) (show 0 ≤ x3.toInt ∧ x3.toInt ≤ 3000 from by omega) (show 0 ≤ x3.toInt ∧ x3.toInt ≤ 3000 from by omega) (show (3001 - x3.toInt).toNat < BIG from ltBIG (show _ < 100000 from by omega))
  · skip
    refine ok.ck (show 0 ≤ x3.toInt ∧ x3.toInt < ((3000 : Nat) : Int) from by omega) ?_
    refine ok.letE (v1 := (X.1 67 (ix x3))) rfl ?_
    unfold g_Judging_mix_29
    have lpu27 : ∀ (n : Nat), ∀ (a_2u27 : Int32) (a_3u27 : Int32) (a_4u27 : Int32) (a_5u27 : Int32) (Zu27 : St), INV Zu27 → Fr YC Qv28 X Zu27 → (0 ≤ a_2u27.toInt ∧ a_2u27.toInt ≤ 3000) → (0 ≤ a_5u27.toInt ∧ a_5u27.toInt ≤ 3000) → (3001 - a_5u27.toInt).toNat < n → ok (g_Judging_mix_36 n a_2u27 a_3u27 a_4u27 a_5u27 Zu27) (fun r Y => (Fr YC Qv28 X Y ∧ INV Y)) := by
      intro n
      unfold g_Judging_mix_36
      refine lp_indN (P := fun (n : Nat) (r_u27 : Int32 → Int32 → Int32 → Int32 → St → Option (Int32 × St)) => ∀ (a_2u27 : Int32) (a_3u27 : Int32) (a_4u27 : Int32) (a_5u27 : Int32) (Zu27 : St), INV Zu27 → Fr YC Qv28 X Zu27 → (0 ≤ a_2u27.toInt ∧ a_2u27.toInt ≤ 3000) → (0 ≤ a_5u27.toInt ∧ a_5u27.toInt ≤ 3000) → (3001 - a_5u27.toInt).toNat < n → ok (r_u27 a_2u27 a_3u27 a_4u27 a_5u27 Zu27) (fun r Y => (Fr YC Qv28 X Y ∧ INV Y))) ?_ ?_ n
      · intro a_2u27 a_3u27 a_4u27 a_5u27 Zu27 hIu27 hFu27 u27_0 u27_1  hm; exact absurd hm (Nat.not_lt_zero _)
      · intro n r_u27 ih_u27 a_2u27 a_3u27 a_4u27 a_5u27 Zu27 hIu27 hFu27 u27_0 u27_1  hmu27
        unfold g_Judging_mix_36_s
        refine ok.letE (v1 := (Zu27.1 61 14)) rfl ?_
        have g28 : 0 ≤ (Zu27.1 61 14).toInt ∧ (Zu27.1 61 14).toInt ≤ 3000 := hIu27.1 61 14
        refine ok.ite (fun c29 => ?_) (fun c29 => ?_)
        · skip
          have lpu30 : ∀ (n : Nat), ∀ (a_2u30 : Int32) (a_3u30 : Int32) (a_4u30 : Int32) (a_5u30 : Int32) (Zu30 : St), INV Zu30 → Fr YC Qv28 X Zu30 → (0 ≤ a_2u30.toInt ∧ a_2u30.toInt ≤ 3000) → (0 ≤ a_5u30.toInt ∧ a_5u30.toInt ≤ 3000) → (3001 - a_5u30.toInt).toNat < n → ok (g_Judging_mix_77 n a_2u30 a_3u30 a_4u30 a_5u30 Zu30) (fun r Y => (Fr YC Qv28 X Y ∧ INV Y)) := by
            intro n
            unfold g_Judging_mix_77
            refine lp_indN (P := fun (n : Nat) (r_u30 : Int32 → Int32 → Int32 → Int32 → St → Option (Int32 × St)) => ∀ (a_2u30 : Int32) (a_3u30 : Int32) (a_4u30 : Int32) (a_5u30 : Int32) (Zu30 : St), INV Zu30 → Fr YC Qv28 X Zu30 → (0 ≤ a_2u30.toInt ∧ a_2u30.toInt ≤ 3000) → (0 ≤ a_5u30.toInt ∧ a_5u30.toInt ≤ 3000) → (3001 - a_5u30.toInt).toNat < n → ok (r_u30 a_2u30 a_3u30 a_4u30 a_5u30 Zu30) (fun r Y => (Fr YC Qv28 X Y ∧ INV Y))) ?_ ?_ n
            · intro a_2u30 a_3u30 a_4u30 a_5u30 Zu30 hIu30 hFu30 u30_0 u30_1  hm; exact absurd hm (Nat.not_lt_zero _)
            · intro n r_u30 ih_u30 a_2u30 a_3u30 a_4u30 a_5u30 Zu30 hIu30 hFu30 u30_0 u30_1  hmu30
              unfold g_Judging_mix_77_s
              refine ok.letE (v1 := (Zu30.1 61 14)) rfl ?_
              have g31 : 0 ≤ (Zu30.1 61 14).toInt ∧ (Zu30.1 61 14).toInt ≤ 3000 := hIu30.1 61 14
              refine ok.ite (fun c32 => ?_) (fun c32 => ?_)
              · skip
                unfold g_Judging_mix_131
                refine ok.wI (L := [12214]) hIu30 (show 0 ≤ a_2u30.toInt ∧ a_2u30.toInt ≤ 3000 from by omega) (show (12214 : Nat) ∈ [12214] from by decide) (by decide) (fun Z33 hIZ33 hFZ33 hkZ33 hoZ33 => ?_)
                refine ok.ite (fun c34 => ?_) (fun c34 => ?_)
                · skip
                  have g35 := i32_le a_4u30
                  exact ok.ret ⟨((Fr.rf.tr hFu30 (fun _ q => q)).tr hFZ33 (by decide)), hIZ33⟩
                · skip
                  exact ok.ret ⟨((Fr.rf.tr hFu30 (fun _ q => q)).tr hFZ33 (by decide)), hIZ33⟩
              · skip
                refine ok.ite (fun c36 => ?_) (fun c36 => ?_)
                · skip
                  have g37 := i32_le a_4u30
                  refine ok.ck (show 0 ≤ a_5u30.toInt ∧ a_5u30.toInt < ((3000 : Nat) : Int) from by omega) ?_
                  refine ok.letE (v1 := (X.1 67 (ix a_5u30))) (hFu30.1 67 (ix a_5u30) n13400_Qv28) ?_
                  refine ok.ite (fun c38 => ?_) (fun c38 => ?_)
                  · skip
                    have g39 := i32_le (X.1 67 (ix a_5u30))
                    unfold g_Judging_mix_125
                    refine ok.inc (by decide) (show _ ≤ a_5u30.toInt + (1) ∧ a_5u30.toInt + (1) ≤ _ from by omega) (fun x9 hx9 => ?_)
                    have hx9 : x9.toInt = a_5u30.toInt + (1) := hx9
                    exact ih_u30 a_2u30 a_3u30 a_4u30 x9 Zu30 hIu30 (Fr.rf.tr hFu30 (fun _ q => q)) (show 0 ≤ a_2u30.toInt ∧ a_2u30.toInt ≤ 3000 from by omega) (show 0 ≤ x9.toInt ∧ x9.toInt ≤ 3000 from by omega) (show (3001 - x9.toInt).toNat < _ from by omega)
                  · skip
                    refine ok.ck (show 0 ≤ a_5u30.toInt ∧ a_5u30.toInt < ((3000 : Nat) : Int) from by omega) ?_
                    refine ok.letE (v1 := (X.1 68 (ix a_5u30))) (hFu30.1 68 (ix a_5u30) n13600_Qv28) ?_
                    have g40 : 0 ≤ (X.1 68 (ix a_5u30)).toInt ∧ (X.1 68 (ix a_5u30)).toInt ≤ 9079 := hI.1 68 (ix a_5u30)
                    refine ok.ck (show 0 ≤ a_5u30.toInt ∧ a_5u30.toInt < ((3000 : Nat) : Int) from by omega) ?_
                    refine ok.letE (v1 := (X.1 67 (ix a_5u30))) (hFu30.1 67 (ix a_5u30) n13400_Qv28) ?_
                    refine ok.letE (v1 := (X.1 61 3)) (hFu30.1 61 3 n12203_Qv28) ?_
                    have g41 : 0 ≤ (X.1 61 3).toInt ∧ (X.1 61 3).toInt ≤ 39 := hI.1 61 3
                    refine ok.bd (v_Judging_layGuard_J24 hIu30 ((hFu30.2.2 61 0 n12200_Qv28).trans hr61_0) ((hFu30.2.2 61 1 n12201_Qv28).trans hr61_1) (show 0 ≤ (X.1 68 (ix a_5u30)).toInt ∧ (X.1 68 (ix a_5u30)).toInt ≤ 9079 from by omega)) ?_
                    rintro r_42 Z44 ⟨hFZ44, hIZ44⟩
                    unfold g_Judging_mix_125
                    refine ok.inc (by decide) (show _ ≤ a_5u30.toInt + (1) ∧ a_5u30.toInt + (1) ≤ _ from by omega) (fun x9 hx9 => ?_)
                    have hx9 : x9.toInt = a_5u30.toInt + (1) := hx9
                    exact ih_u30 a_2u30 a_3u30 a_4u30 x9 Z44 hIZ44 ((Fr.rf.tr hFu30 (fun _ q => q)).tr hFZ44 sQv29_Qv28) (show 0 ≤ a_2u30.toInt ∧ a_2u30.toInt ≤ 3000 from by omega) (show 0 ≤ x9.toInt ∧ x9.toInt ≤ 3000 from by omega) (show (3001 - x9.toInt).toNat < _ from by omega)
                · skip
                  unfold g_Judging_mix_131
                  refine ok.wI (L := [12214]) hIu30 (show 0 ≤ a_2u30.toInt ∧ a_2u30.toInt ≤ 3000 from by omega) (show (12214 : Nat) ∈ [12214] from by decide) (by decide) (fun Z45 hIZ45 hFZ45 hkZ45 hoZ45 => ?_)
                  refine ok.ite (fun c46 => ?_) (fun c46 => ?_)
                  · skip
                    have g47 := i32_le a_4u30
                    exact ok.ret ⟨((Fr.rf.tr hFu30 (fun _ q => q)).tr hFZ45 (by decide)), hIZ45⟩
                  · skip
                    exact ok.ret ⟨((Fr.rf.tr hFu30 (fun _ q => q)).tr hFZ45 (by decide)), hIZ45⟩
          exact lpu30 BIG a_2u27 a_3u27 a_4u27 a_2u27 Zu27 hIu27 (Fr.rf.tr hFu27 (fun _ q => q)) (show 0 ≤ a_2u27.toInt ∧ a_2u27.toInt ≤ 3000 from by omega) (show 0 ≤ a_2u27.toInt ∧ a_2u27.toInt ≤ 3000 from by omega) (show (3001 - a_2u27.toInt).toNat < BIG from ltBIG (show _ < 100000 from by omega))
        · skip
          refine ok.ite (fun c48 => ?_) (fun c48 => ?_)
          · skip
            have g49 := i32_le a_4u27
            unfold g_Judging_mix_65
            unfold g_Judging_mix_66
            refine ok.inc (by decide) (show _ ≤ a_5u27.toInt + (1) ∧ a_5u27.toInt + (1) ≤ _ from by omega) (fun x14 hx14 => ?_)
            have hx14 : x14.toInt = a_5u27.toInt + (1) := hx14
            exact ih_u27 a_2u27 a_3u27 (0 : Int32) x14 Zu27 hIu27 (Fr.rf.tr hFu27 (fun _ q => q)) (show 0 ≤ a_2u27.toInt ∧ a_2u27.toInt ≤ 3000 from by omega) (show 0 ≤ x14.toInt ∧ x14.toInt ≤ 3000 from by omega) (show (3001 - x14.toInt).toNat < _ from by omega)
          · skip
            refine ok.ck (show 0 ≤ a_5u27.toInt ∧ a_5u27.toInt < ((3000 : Nat) : Int) from by omega) ?_
            refine ok.letE (v1 := (X.1 67 (ix a_5u27))) (hFu27.1 67 (ix a_5u27) n13400_Qv28) ?_
            refine ok.ite (fun c50 => ?_) (fun c50 => ?_)
            · skip
              unfold g_Judging_mix_66
              refine ok.inc (by decide) (show _ ≤ a_5u27.toInt + (1) ∧ a_5u27.toInt + (1) ≤ _ from by omega) (fun x14 hx14 => ?_)
              have hx14 : x14.toInt = a_5u27.toInt + (1) := hx14
              exact ih_u27 a_2u27 a_3u27 (1 : Int32) x14 Zu27 hIu27 (Fr.rf.tr hFu27 (fun _ q => q)) (show 0 ≤ a_2u27.toInt ∧ a_2u27.toInt ≤ 3000 from by omega) (show 0 ≤ x14.toInt ∧ x14.toInt ≤ 3000 from by omega) (show (3001 - x14.toInt).toNat < _ from by omega)
            · skip
              unfold g_Judging_mix_65
              unfold g_Judging_mix_66
              refine ok.inc (by decide) (show _ ≤ a_5u27.toInt + (1) ∧ a_5u27.toInt + (1) ≤ _ from by omega) (fun x14 hx14 => ?_)
              have hx14 : x14.toInt = a_5u27.toInt + (1) := hx14
              exact ih_u27 a_2u27 a_3u27 (0 : Int32) x14 Zu27 hIu27 (Fr.rf.tr hFu27 (fun _ q => q)) (show 0 ≤ a_2u27.toInt ∧ a_2u27.toInt ≤ 3000 from by omega) (show 0 ≤ x14.toInt ∧ x14.toInt ≤ 3000 from by omega) (show (3001 - x14.toInt).toNat < _ from by omega)
    exact lpu27 BIG x3 (X.1 67 (ix x3)) (1 : Int32) x3 X hI (Fr.rf : Fr YC Qv28 _ _) (show 0 ≤ x3.toInt ∧ x3.toInt ≤ 3000 from by omega) (show 0 ≤ x3.toInt ∧ x3.toInt ≤ 3000 from by omega) (show (3001 - x3.toInt).toNat < BIG from ltBIG (show _ < 100000 from by omega))
theorem n12202_Qv28 : (12202 : Nat) ∉ Qv28 := by decide
theorem sQv28_Qv27 : ∀ k ∈ Qv28, k ∈ Qv27 := by decide
def Qv30 : List Nat := [5000, 5200, 5400, 5600, 5800, 6000, 6200, 6400]
set_option maxHeartbeats 4000000 in
theorem v_Kinds_codeOf_25 {p1 : Int32} {X : St} (hI : INV X) : ok (g_Kinds_codeOf 25 p1 X) (fun r Y => (X = Y)) := by
  unfold g_Kinds_codeOf
  refine ok.ite (fun c1 => ?_) (fun c1 => ?_)
  · skip
    have g2 := i32_le p1
    exact ok.ret rfl
  · skip
    have g3 := i32_le p1
    refine ok.letE (v1 := (X.1 25 0)) rfl ?_
    have g4 : 0 ≤ (X.1 25 0).toInt ∧ (X.1 25 0).toInt ≤ 1549 := hI.1 25 0
    refine ok.ite (fun c5 => ?_) (fun c5 => ?_)
    · skip
      exact ok.ret rfl
    · skip
      refine ok.letE (v1 := 29) (by decide) ?_
      refine ok.ck (show 0 ≤ p1.toInt ∧ p1.toInt < ((1549 : Nat) : Int) from by omega) ?_
      refine ok.letE (v1 := (X.1 29 (ix p1))) rfl ?_
      exact ok.ret rfl
set_option maxHeartbeats 4000000 in
theorem v_Kinds_isSame_25_28 {p1 : Int32} {p2 : Int32} {p4 : Int32} {p5 : Int32} {X : St} (hI : INV X) (h0 : 0 ≤ p1.toInt ∧ p1.toInt ≤ 1548) (h1 : 0 ≤ p2.toInt ∧ p2.toInt ≤ 4) (h2 : 0 ≤ p4.toInt ∧ p4.toInt + p2.toInt ≤ 7745) : ok (g_Kinds_isSame 25 p1 p2 28 p4 p5 X) (fun r Y => (X = Y)) := by
  unfold g_Kinds_isSame
  refine ok.letE (v1 := 27) (by decide) ?_
  refine ok.ck (show 0 ≤ p1.toInt ∧ p1.toInt < ((1549 : Nat) : Int) from by omega) ?_
  refine ok.letE (v1 := (X.1 27 (ix p1))) rfl ?_
  have g1 : 0 ≤ (X.1 27 (ix p1)).toInt ∧ (X.1 27 (ix p1)).toInt ≤ 4 := hI.1 27 (ix p1)
  refine ok.ite (fun c2 => ?_) (fun c2 => ?_)
  · skip
    refine ok.letE (v1 := 28) (by decide) ?_
    refine ok.mul (show _ ≤ p1.toInt * (5 : Int) ∧ p1.toInt * (5 : Int) ≤ _ from by omega) (fun x4 hx4 => ?_)
    have hx4 : x4.toInt = p1.toInt * (5 : Int) := hx4
    refine ok.add (show _ ≤ x4.toInt + (4 : Int) ∧ x4.toInt + (4 : Int) ≤ _ from by omega) (fun x5 hx5 => ?_)
    have hx5 : x5.toInt = x4.toInt + (4 : Int) := hx5
    refine ok.ck (show 0 ≤ x5.toInt ∧ x5.toInt < ((7745 : Nat) : Int) from by omega) ?_
    refine ok.letE (v1 := (X.1 28 (ix x5))) rfl ?_
    refine ok.ite (fun c3 => ?_) (fun c3 => ?_)
    · skip
      have lpu4 : ∀ (n : Nat), ∀ (a_1u4 : Int32) (a_2u4 : Int32) (a_4u4 : Int32) (a_6u4 : Int32) (Zu4 : St), INV Zu4 → Fr YC [] X Zu4 → (0 ≤ a_1u4.toInt ∧ a_1u4.toInt ≤ 1548) → (0 ≤ a_2u4.toInt ∧ a_2u4.toInt ≤ 4) → (0 ≤ a_4u4.toInt ∧ a_4u4.toInt + a_2u4.toInt ≤ 7745) → (0 ≤ a_6u4.toInt ∧ a_6u4.toInt ≤ 5) → (5 - a_6u4.toInt).toNat < n → ok (g_Kinds_isSame_30 n 25 a_1u4 a_2u4 28 a_4u4 a_6u4 Zu4) (fun r Y => (X = Y)) := by
        intro n
        unfold g_Kinds_isSame_30
        refine lp_indN (P := fun (n : Nat) (r_u4 : Nat → Int32 → Int32 → Nat → Int32 → Int32 → St → Option (Int32 × St)) => ∀ (a_1u4 : Int32) (a_2u4 : Int32) (a_4u4 : Int32) (a_6u4 : Int32) (Zu4 : St), INV Zu4 → Fr YC [] X Zu4 → (0 ≤ a_1u4.toInt ∧ a_1u4.toInt ≤ 1548) → (0 ≤ a_2u4.toInt ∧ a_2u4.toInt ≤ 4) → (0 ≤ a_4u4.toInt ∧ a_4u4.toInt + a_2u4.toInt ≤ 7745) → (0 ≤ a_6u4.toInt ∧ a_6u4.toInt ≤ 5) → (5 - a_6u4.toInt).toNat < n → ok (r_u4 25 a_1u4 a_2u4 28 a_4u4 a_6u4 Zu4) (fun r Y => (X = Y))) ?_ ?_ n
        · intro a_1u4 a_2u4 a_4u4 a_6u4 Zu4 hIu4 hFu4 u4_0 u4_1 u4_2 u4_3  hm; exact absurd hm (Nat.not_lt_zero _)
        · intro n r_u4 ih_u4 a_1u4 a_2u4 a_4u4 a_6u4 Zu4 hIu4 hFu4 u4_0 u4_1 u4_2 u4_3  hmu4
          unfold g_Kinds_isSame_30_s
          refine ok.ite (fun c5 => ?_) (fun c5 => ?_)
          · skip
            exact ok.ret (Fr.nil hFu4).symm
          · skip
            refine ok.letE (v1 := 28) (by decide) ?_
            refine ok.mul (show _ ≤ a_1u4.toInt * (5 : Int) ∧ a_1u4.toInt * (5 : Int) ≤ _ from by omega) (fun x8 hx8 => ?_)
            have hx8 : x8.toInt = a_1u4.toInt * (5 : Int) := hx8
            refine ok.add (show _ ≤ x8.toInt + a_6u4.toInt ∧ x8.toInt + a_6u4.toInt ≤ _ from by omega) (fun x9 hx9 => ?_)
            have hx9 : x9.toInt = x8.toInt + a_6u4.toInt := hx9
            refine ok.ck (show 0 ≤ x9.toInt ∧ x9.toInt < ((7745 : Nat) : Int) from by omega) ?_
            refine ok.letE (v1 := (X.1 28 (ix x9))) (hFu4.1 28 (ix x9) (show (5600 : Nat) ∉ [] from by decide)) ?_
            refine ok.add (show _ ≤ a_4u4.toInt + a_6u4.toInt ∧ a_4u4.toInt + a_6u4.toInt ≤ _ from by omega) (fun x11 hx11 => ?_)
            have hx11 : x11.toInt = a_4u4.toInt + a_6u4.toInt := hx11
            refine ok.ck (show 0 ≤ x11.toInt ∧ x11.toInt < ((7745 : Nat) : Int) from by omega) ?_
            refine ok.letE (v1 := (X.1 28 (ix x11))) (hFu4.1 28 (ix x11) (show (5600 : Nat) ∉ [] from by decide)) ?_
            refine ok.ite (fun c6 => ?_) (fun c6 => ?_)
            · skip
              refine ok.inc (by decide) (show _ ≤ a_6u4.toInt + (1) ∧ a_6u4.toInt + (1) ≤ _ from by omega) (fun x13 hx13 => ?_)
              have hx13 : x13.toInt = a_6u4.toInt + (1) := hx13
              exact ih_u4 a_1u4 a_2u4 a_4u4 x13 Zu4 hIu4 (Fr.rf.tr hFu4 (fun _ q => q)) (show 0 ≤ a_1u4.toInt ∧ a_1u4.toInt ≤ 1548 from by omega) (show 0 ≤ a_2u4.toInt ∧ a_2u4.toInt ≤ 4 from by omega) (show 0 ≤ a_4u4.toInt ∧ a_4u4.toInt + a_2u4.toInt ≤ 7745 from by omega) (show 0 ≤ x13.toInt ∧ x13.toInt ≤ 5 from by omega) (show (5 - x13.toInt).toNat < _ from by omega)
            · skip
              exact ok.ret (Fr.nil hFu4).symm
      exact lpu4 BIG p1 p2 p4 (0 : Int32) X hI (Fr.rf : Fr YC [] _ _) (show 0 ≤ p1.toInt ∧ p1.toInt ≤ 1548 from by omega) (show 0 ≤ p2.toInt ∧ p2.toInt ≤ 4 from by omega) (show 0 ≤ p4.toInt ∧ p4.toInt + p2.toInt ≤ 7745 from by omega) (show 0 ≤ (0 : Int) ∧ (0 : Int) ≤ 5 from by omega) (show (5 - (0 : Int)).toNat < BIG from ltBIG (show _ < 100000 from by omega))
    · skip
      exact ok.ret rfl
  · skip
    exact ok.ret rfl
set_option maxHeartbeats 4000000 in
theorem v_Kinds_findOrAdd_25_28 {p1 : Int32} {p2 : Int32} {p4 : Int32} {p5 : Int32} {p6 : Int32} {X : St} (hI : INV X) (h0 : 0 ≤ p1.toInt ∧ p1.toInt ≤ 4) (h1 : 0 ≤ p2.toInt ∧ p2.toInt ≤ 4) (h2 : 0 ≤ p4.toInt ∧ p4.toInt + p2.toInt ≤ 7745) : ok (g_Kinds_findOrAdd 25 p1 p2 28 p4 p5 p6 X) (fun r Y => (Fr YC Qv30 X Y ∧ INV Y)) := by
  unfold g_Kinds_findOrAdd
  refine ok.bd (v_Kinds_bucketOf hI) ?_
  rintro x1 _ ⟨rfl, hp1⟩
  have hp1 : 0 ≤ x1.toInt ∧ x1.toInt ≤ 511 := hp1
  refine ok.letE (v1 := 31) (by decide) ?_
  refine ok.ck (show 0 ≤ x1.toInt ∧ x1.toInt < ((512 : Nat) : Int) from by omega) ?_
  refine ok.letE (v1 := (X.1 31 (ix x1))) rfl ?_
  have g2 : -1 ≤ (X.1 31 (ix x1)).toInt ∧ (X.1 31 (ix x1)).toInt ≤ 1548 := hI.1 31 (ix x1)
  have lpu3 : ∀ (n : Nat), ∀ (a_1u3 : Int32) (a_2u3 : Int32) (a_4u3 : Int32) (a_5u3 : Int32) (a_6u3 : Int32) (a_7u3 : Int32) (a_8u3 : Int32) (a_9u3 : Int32) (Zu3 : St), INV Zu3 → Fr YC Qv30 X Zu3 → (0 ≤ a_1u3.toInt ∧ a_1u3.toInt ≤ 4) → (0 ≤ a_2u3.toInt ∧ a_2u3.toInt ≤ 4) → (0 ≤ a_4u3.toInt ∧ a_4u3.toInt + a_2u3.toInt ≤ 7745) → (0 ≤ a_7u3.toInt ∧ a_7u3.toInt ≤ 511) → (-1 ≤ a_8u3.toInt ∧ a_8u3.toInt ≤ 1548) → (0 ≤ a_9u3.toInt ∧ a_9u3.toInt ≤ 1549) → (1550 - a_9u3.toInt).toNat < n → ok (g_Kinds_findOrAdd_19 n 25 a_1u3 a_2u3 28 a_4u3 a_5u3 a_6u3 a_7u3 a_8u3 a_9u3 Zu3) (fun r Y => (Fr YC Qv30 X Y ∧ INV Y)) := by
    intro n
    unfold g_Kinds_findOrAdd_19
    refine lp_indN (P := fun (n : Nat) (r_u3 : Nat → Int32 → Int32 → Nat → Int32 → Int32 → Int32 → Int32 → Int32 → Int32 → St → Option (Int32 × St)) => ∀ (a_1u3 : Int32) (a_2u3 : Int32) (a_4u3 : Int32) (a_5u3 : Int32) (a_6u3 : Int32) (a_7u3 : Int32) (a_8u3 : Int32) (a_9u3 : Int32) (Zu3 : St), INV Zu3 → Fr YC Qv30 X Zu3 → (0 ≤ a_1u3.toInt ∧ a_1u3.toInt ≤ 4) → (0 ≤ a_2u3.toInt ∧ a_2u3.toInt ≤ 4) → (0 ≤ a_4u3.toInt ∧ a_4u3.toInt + a_2u3.toInt ≤ 7745) → (0 ≤ a_7u3.toInt ∧ a_7u3.toInt ≤ 511) → (-1 ≤ a_8u3.toInt ∧ a_8u3.toInt ≤ 1548) → (0 ≤ a_9u3.toInt ∧ a_9u3.toInt ≤ 1549) → (1550 - a_9u3.toInt).toNat < n → ok (r_u3 25 a_1u3 a_2u3 28 a_4u3 a_5u3 a_6u3 a_7u3 a_8u3 a_9u3 Zu3) (fun r Y => (Fr YC Qv30 X Y ∧ INV Y))) ?_ ?_ n
    · intro a_1u3 a_2u3 a_4u3 a_5u3 a_6u3 a_7u3 a_8u3 a_9u3 Zu3 hIu3 hFu3 u3_0 u3_1 u3_2 u3_3 u3_4 u3_5  hm; exact absurd hm (Nat.not_lt_zero _)
    · intro n r_u3 ih_u3 a_1u3 a_2u3 a_4u3 a_5u3 a_6u3 a_7u3 a_8u3 a_9u3 Zu3 hIu3 hFu3 u3_0 u3_1 u3_2 u3_3 u3_4 u3_5  hmu3
      unfold g_Kinds_findOrAdd_19_s
      refine ok.ite (fun c4 => ?_) (fun c4 => ?_)
      · skip
        unfold g_Kinds_findOrAdd_77
        refine ok.letE (v1 := (Zu3.1 25 0)) rfl ?_
        have g5 : 0 ≤ (Zu3.1 25 0).toInt ∧ (Zu3.1 25 0).toInt ≤ 1549 := hIu3.1 25 0
        refine ok.ite (fun c6 => ?_) (fun c6 => ?_)
        · skip
          refine ok.letE (v1 := (Zu3.1 25 0)) rfl ?_
          refine ok.letE (v1 := (Zu3.1 25 0)) rfl ?_
          refine ok.add (show _ ≤ (Zu3.1 25 0).toInt + (1 : Int) ∧ (Zu3.1 25 0).toInt + (1 : Int) ≤ _ from by omega) (fun x8 hx8 => ?_)
          have hx8 : x8.toInt = (Zu3.1 25 0).toInt + (1 : Int) := hx8
          refine ok.wI (L := [5000]) hIu3 (show 0 ≤ x8.toInt ∧ x8.toInt ≤ 1549 from by omega) (show (5000 : Nat) ∈ [5000] from by decide) (by decide) (fun Z7 hIZ7 hFZ7 hkZ7 hoZ7 => ?_)
          refine ok.letE (v1 := 26) (by decide) ?_
          refine ok.ck (show 0 ≤ (Zu3.1 25 0).toInt ∧ (Zu3.1 25 0).toInt < ((1549 : Nat) : Int) from by omega) ?_
          refine ok.wI (L := [5200]) hIZ7 (show True from trivial) (show (5200 : Nat) ∈ [5200] from by decide) (by decide) (fun Z8 hIZ8 hFZ8 hkZ8 hoZ8 => ?_)
          refine ok.letE (v1 := 27) (by decide) ?_
          refine ok.ck (show 0 ≤ (Zu3.1 25 0).toInt ∧ (Zu3.1 25 0).toInt < ((1549 : Nat) : Int) from by omega) ?_
          refine ok.wI (L := [5400]) hIZ8 (show 0 ≤ a_2u3.toInt ∧ a_2u3.toInt ≤ 4 from by omega) (show (5400 : Nat) ∈ [5400] from by decide) (by decide) (fun Z9 hIZ9 hFZ9 hkZ9 hoZ9 => ?_)
          refine ok.letE (v1 := 29) (by decide) ?_
          refine ok.ck (show 0 ≤ (Zu3.1 25 0).toInt ∧ (Zu3.1 25 0).toInt < ((1549 : Nat) : Int) from by omega) ?_
          refine ok.wI (L := [5800]) hIZ9 (show True from trivial) (show (5800 : Nat) ∈ [5800] from by decide) (by decide) (fun Z10 hIZ10 hFZ10 hkZ10 hoZ10 => ?_)
          refine ok.letE (v1 := 28) (by decide) ?_
          refine ok.mul (show _ ≤ (Zu3.1 25 0).toInt * (5 : Int) ∧ (Zu3.1 25 0).toInt * (5 : Int) ≤ _ from by omega) (fun x17 hx17 => ?_)
          have hx17 : x17.toInt = (Zu3.1 25 0).toInt * (5 : Int) := hx17
          refine ok.add (show _ ≤ x17.toInt + (4 : Int) ∧ x17.toInt + (4 : Int) ≤ _ from by omega) (fun x18 hx18 => ?_)
          have hx18 : x18.toInt = x17.toInt + (4 : Int) := hx18
          refine ok.ck (show 0 ≤ x18.toInt ∧ x18.toInt < ((7745 : Nat) : Int) from by omega) ?_
          refine ok.wI (L := [5600]) hIZ10 (show True from trivial) (show (5600 : Nat) ∈ [5600] from by decide) (by decide) (fun Z11 hIZ11 hFZ11 hkZ11 hoZ11 => ?_)
          refine ok.ite (fun c12 => ?_) (fun c12 => ?_)
          · skip
            unfold g_Kinds_findOrAdd_162
            unfold g_Kinds_findOrAdd_167
            have lpu13 : ∀ (n : Nat), ∀ (a_2u13 : Int32) (a_4u13 : Int32) (a_7u13 : Int32) (a_8u13 : Int32) (a_9u13 : Int32) (a_10u13 : Int32) (Zu13 : St), INV Zu13 → Fr YC Qv30 X Zu13 → (0 ≤ a_2u13.toInt ∧ a_2u13.toInt ≤ 4) → (0 ≤ a_4u13.toInt ∧ a_4u13.toInt + a_2u13.toInt ≤ 7745) → (0 ≤ a_7u13.toInt ∧ a_7u13.toInt ≤ 511) → (0 ≤ a_8u13.toInt ∧ a_8u13.toInt ≤ 1548) → (0 ≤ a_10u13.toInt ∧ a_10u13.toInt ≤ 5) → (5 - a_10u13.toInt).toNat < n → ok (g_Kinds_findOrAdd_172 n 25 a_2u13 28 a_4u13 a_7u13 a_8u13 a_9u13 a_10u13 Zu13) (fun r Y => (Fr YC Qv30 X Y ∧ INV Y)) := by
              intro n
              unfold g_Kinds_findOrAdd_172
              refine lp_indN (P := fun (n : Nat) (r_u13 : Nat → Int32 → Nat → Int32 → Int32 → Int32 → Int32 → Int32 → St → Option (Int32 × St)) => ∀ (a_2u13 : Int32) (a_4u13 : Int32) (a_7u13 : Int32) (a_8u13 : Int32) (a_9u13 : Int32) (a_10u13 : Int32) (Zu13 : St), INV Zu13 → Fr YC Qv30 X Zu13 → (0 ≤ a_2u13.toInt ∧ a_2u13.toInt ≤ 4) → (0 ≤ a_4u13.toInt ∧ a_4u13.toInt + a_2u13.toInt ≤ 7745) → (0 ≤ a_7u13.toInt ∧ a_7u13.toInt ≤ 511) → (0 ≤ a_8u13.toInt ∧ a_8u13.toInt ≤ 1548) → (0 ≤ a_10u13.toInt ∧ a_10u13.toInt ≤ 5) → (5 - a_10u13.toInt).toNat < n → ok (r_u13 25 a_2u13 28 a_4u13 a_7u13 a_8u13 a_9u13 a_10u13 Zu13) (fun r Y => (Fr YC Qv30 X Y ∧ INV Y))) ?_ ?_ n
              · intro a_2u13 a_4u13 a_7u13 a_8u13 a_9u13 a_10u13 Zu13 hIu13 hFu13 u13_0 u13_1 u13_2 u13_3 u13_4  hm; exact absurd hm (Nat.not_lt_zero _)
              · intro n r_u13 ih_u13 a_2u13 a_4u13 a_7u13 a_8u13 a_9u13 a_10u13 Zu13 hIu13 hFu13 u13_0 u13_1 u13_2 u13_3 u13_4  hmu13
                unfold g_Kinds_findOrAdd_172_s
                refine ok.ite (fun c14 => ?_) (fun c14 => ?_)
                · skip
                  refine ok.letE (v1 := 30) (by decide) ?_
                  refine ok.ck (show 0 ≤ a_8u13.toInt ∧ a_8u13.toInt < ((1549 : Nat) : Int) from by omega) ?_
                  refine ok.wI (L := [6000]) hIu13 (show True from trivial) (show (6000 : Nat) ∈ [6000] from by decide) (by decide) (fun Z15 hIZ15 hFZ15 hkZ15 hoZ15 => ?_)
                  refine ok.letE (v1 := 32) (by decide) ?_
                  refine ok.letE (v1 := 31) (by decide) ?_
                  refine ok.ck (show 0 ≤ a_7u13.toInt ∧ a_7u13.toInt < ((512 : Nat) : Int) from by omega) ?_
                  refine ok.letE (v1 := (Zu13.1 31 (ix a_7u13))) (hFZ15.1 31 (ix a_7u13) (show (6200 : Nat) ∉ [6000] from by decide)) ?_
                  have g16 : -1 ≤ (Zu13.1 31 (ix a_7u13)).toInt ∧ (Zu13.1 31 (ix a_7u13)).toInt ≤ 1548 := hIu13.1 31 (ix a_7u13)
                  refine ok.ck (show 0 ≤ a_8u13.toInt ∧ a_8u13.toInt < ((1549 : Nat) : Int) from by omega) ?_
                  refine ok.wI (L := [6400]) hIZ15 (show -1 ≤ (Zu13.1 31 (ix a_7u13)).toInt ∧ (Zu13.1 31 (ix a_7u13)).toInt ≤ 1548 from by omega) (show (6400 : Nat) ∈ [6400] from by decide) (by decide) (fun Z17 hIZ17 hFZ17 hkZ17 hoZ17 => ?_)
                  refine ok.letE (v1 := 31) (by decide) ?_
                  refine ok.ck (show 0 ≤ a_7u13.toInt ∧ a_7u13.toInt < ((512 : Nat) : Int) from by omega) ?_
                  refine ok.wI (L := [6200]) hIZ17 (show -1 ≤ a_8u13.toInt ∧ a_8u13.toInt ≤ 1548 from by omega) (show (6200 : Nat) ∈ [6200] from by decide) (by decide) (fun Z18 hIZ18 hFZ18 hkZ18 hoZ18 => ?_)
                  exact ok.ret ⟨((((Fr.rf.tr hFu13 (fun _ q => q)).tr hFZ15 (by decide)).tr hFZ17 (by decide)).tr hFZ18 (by decide)), hIZ18⟩
                · skip
                  refine ok.letE (v1 := 28) (by decide) ?_
                  refine ok.mul (show _ ≤ a_8u13.toInt * (5 : Int) ∧ a_8u13.toInt * (5 : Int) ≤ _ from by omega) (fun x29 hx29 => ?_)
                  have hx29 : x29.toInt = a_8u13.toInt * (5 : Int) := hx29
                  refine ok.add (show _ ≤ x29.toInt + a_10u13.toInt ∧ x29.toInt + a_10u13.toInt ≤ _ from by omega) (fun x30 hx30 => ?_)
                  have hx30 : x30.toInt = x29.toInt + a_10u13.toInt := hx30
                  refine ok.add (show _ ≤ a_4u13.toInt + a_10u13.toInt ∧ a_4u13.toInt + a_10u13.toInt ≤ _ from by omega) (fun x31 hx31 => ?_)
                  have hx31 : x31.toInt = a_4u13.toInt + a_10u13.toInt := hx31
                  refine ok.ck (show 0 ≤ x31.toInt ∧ x31.toInt < ((7745 : Nat) : Int) from by omega) ?_
                  refine ok.letE (v1 := (Zu13.1 28 (ix x31))) rfl ?_
                  refine ok.ck (show 0 ≤ x30.toInt ∧ x30.toInt < ((7745 : Nat) : Int) from by omega) ?_
                  refine ok.wI (L := [5600]) hIu13 (show True from trivial) (show (5600 : Nat) ∈ [5600] from by decide) (by decide) (fun Z19 hIZ19 hFZ19 hkZ19 hoZ19 => ?_)
                  refine ok.ite (fun c20 => ?_) (fun c20 => ?_)
                  · skip
                    have g21 := i32_le a_9u13
                    refine ok.add (show _ ≤ a_4u13.toInt + a_10u13.toInt ∧ a_4u13.toInt + a_10u13.toInt ≤ _ from by omega) (fun x35 hx35 => ?_)
                    have hx35 : x35.toInt = a_4u13.toInt + a_10u13.toInt := hx35
                    refine ok.ck (show 0 ≤ x35.toInt ∧ x35.toInt < ((7745 : Nat) : Int) from by omega) ?_
                    refine ok.letE (v1 := (Z19.1 28 (ix x35))) rfl ?_
                    refine ok.bd (v_Kinds_hasAny_25 hIZ19) ?_
                    rintro x37 _ rfl
                    refine ok.ite (fun c23 => ?_) (fun c23 => ?_)
                    · skip
                      have g24 := i32_le x37
                      unfold g_Kinds_findOrAdd_221
                      refine ok.inc (by decide) (show _ ≤ a_10u13.toInt + (1) ∧ a_10u13.toInt + (1) ≤ _ from by omega) (fun x34 hx34 => ?_)
                      have hx34 : x34.toInt = a_10u13.toInt + (1) := hx34
                      exact ih_u13 a_2u13 a_4u13 a_7u13 a_8u13 (0 : Int32) x34 Z19 hIZ19 ((Fr.rf.tr hFu13 (fun _ q => q)).tr hFZ19 (by decide)) (show 0 ≤ a_2u13.toInt ∧ a_2u13.toInt ≤ 4 from by omega) (show 0 ≤ a_4u13.toInt ∧ a_4u13.toInt + a_2u13.toInt ≤ 7745 from by omega) (show 0 ≤ a_7u13.toInt ∧ a_7u13.toInt ≤ 511 from by omega) (show 0 ≤ a_8u13.toInt ∧ a_8u13.toInt ≤ 1548 from by omega) (show 0 ≤ x34.toInt ∧ x34.toInt ≤ 5 from by omega) (show (5 - x34.toInt).toNat < _ from by omega)
                    · skip
                      unfold g_Kinds_findOrAdd_216
                      unfold g_Kinds_findOrAdd_221
                      refine ok.inc (by decide) (show _ ≤ a_10u13.toInt + (1) ∧ a_10u13.toInt + (1) ≤ _ from by omega) (fun x34 hx34 => ?_)
                      have hx34 : x34.toInt = a_10u13.toInt + (1) := hx34
                      exact ih_u13 a_2u13 a_4u13 a_7u13 a_8u13 (1 : Int32) x34 Z19 hIZ19 ((Fr.rf.tr hFu13 (fun _ q => q)).tr hFZ19 (by decide)) (show 0 ≤ a_2u13.toInt ∧ a_2u13.toInt ≤ 4 from by omega) (show 0 ≤ a_4u13.toInt ∧ a_4u13.toInt + a_2u13.toInt ≤ 7745 from by omega) (show 0 ≤ a_7u13.toInt ∧ a_7u13.toInt ≤ 511 from by omega) (show 0 ≤ a_8u13.toInt ∧ a_8u13.toInt ≤ 1548 from by omega) (show 0 ≤ x34.toInt ∧ x34.toInt ≤ 5 from by omega) (show (5 - x34.toInt).toNat < _ from by omega)
                  · skip
                    unfold g_Kinds_findOrAdd_216
                    unfold g_Kinds_findOrAdd_221
                    refine ok.inc (by decide) (show _ ≤ a_10u13.toInt + (1) ∧ a_10u13.toInt + (1) ≤ _ from by omega) (fun x34 hx34 => ?_)
                    have hx34 : x34.toInt = a_10u13.toInt + (1) := hx34
                    exact ih_u13 a_2u13 a_4u13 a_7u13 a_8u13 (1 : Int32) x34 Z19 hIZ19 ((Fr.rf.tr hFu13 (fun _ q => q)).tr hFZ19 (by decide)) (show 0 ≤ a_2u13.toInt ∧ a_2u13.toInt ≤ 4 from by omega) (show 0 ≤ a_4u13.toInt ∧ a_4u13.toInt + a_2u13.toInt ≤ 7745 from by omega) (show 0 ≤ a_7u13.toInt ∧ a_7u13.toInt ≤ 511 from by omega) (show 0 ≤ a_8u13.toInt ∧ a_8u13.toInt ≤ 1548 from by omega) (show 0 ≤ x34.toInt ∧ x34.toInt ≤ 5 from by omega) (show (5 - x34.toInt).toNat < _ from by omega)
            exact lpu13 BIG a_2u3 a_4u3 a_7u3 (Zu3.1 25 0) (1 : Int32) (0 : Int32) Z11 hIZ11 ((((((Fr.rf.tr hFu3 (fun _ q => q)).tr hFZ7 (by decide)).tr hFZ8 (by decide)).tr hFZ9 (by decide)).tr hFZ10 (by decide)).tr hFZ11 (by decide)) (show 0 ≤ a_2u3.toInt ∧ a_2u3.toInt ≤ 4 from by omega) (show 0 ≤ a_4u3.toInt ∧ a_4u3.toInt + a_2u3.toInt ≤ 7745 from by omega) (show 0 ≤ a_7u3.toInt ∧ a_7u3.toInt ≤ 511 from by omega) (show 0 ≤ (Zu3.1 25 0).toInt ∧ (Zu3.1 25 0).toInt ≤ 1548 from by omega) (show 0 ≤ (0 : Int) ∧ (0 : Int) ≤ 5 from by omega) (show (5 - (0 : Int)).toNat < BIG from ltBIG (show _ < 100000 from by omega))
          · skip
            refine ok.ite (fun c25 => ?_) (fun c25 => ?_)
            · skip
              unfold g_Kinds_findOrAdd_166
              unfold g_Kinds_findOrAdd_167
              have lpu26 : ∀ (n : Nat), ∀ (a_2u26 : Int32) (a_4u26 : Int32) (a_7u26 : Int32) (a_8u26 : Int32) (a_9u26 : Int32) (a_10u26 : Int32) (Zu26 : St), INV Zu26 → Fr YC Qv30 X Zu26 → (0 ≤ a_2u26.toInt ∧ a_2u26.toInt ≤ 4) → (0 ≤ a_4u26.toInt ∧ a_4u26.toInt + a_2u26.toInt ≤ 7745) → (0 ≤ a_7u26.toInt ∧ a_7u26.toInt ≤ 511) → (0 ≤ a_8u26.toInt ∧ a_8u26.toInt ≤ 1548) → (0 ≤ a_10u26.toInt ∧ a_10u26.toInt ≤ 5) → (5 - a_10u26.toInt).toNat < n → ok (g_Kinds_findOrAdd_172 n 25 a_2u26 28 a_4u26 a_7u26 a_8u26 a_9u26 a_10u26 Zu26) (fun r Y => (Fr YC Qv30 X Y ∧ INV Y)) := by
                intro n
                unfold g_Kinds_findOrAdd_172
                refine lp_indN (P := fun (n : Nat) (r_u26 : Nat → Int32 → Nat → Int32 → Int32 → Int32 → Int32 → Int32 → St → Option (Int32 × St)) => ∀ (a_2u26 : Int32) (a_4u26 : Int32) (a_7u26 : Int32) (a_8u26 : Int32) (a_9u26 : Int32) (a_10u26 : Int32) (Zu26 : St), INV Zu26 → Fr YC Qv30 X Zu26 → (0 ≤ a_2u26.toInt ∧ a_2u26.toInt ≤ 4) → (0 ≤ a_4u26.toInt ∧ a_4u26.toInt + a_2u26.toInt ≤ 7745) → (0 ≤ a_7u26.toInt ∧ a_7u26.toInt ≤ 511) → (0 ≤ a_8u26.toInt ∧ a_8u26.toInt ≤ 1548) → (0 ≤ a_10u26.toInt ∧ a_10u26.toInt ≤ 5) → (5 - a_10u26.toInt).toNat < n → ok (r_u26 25 a_2u26 28 a_4u26 a_7u26 a_8u26 a_9u26 a_10u26 Zu26) (fun r Y => (Fr YC Qv30 X Y ∧ INV Y))) ?_ ?_ n
                · intro a_2u26 a_4u26 a_7u26 a_8u26 a_9u26 a_10u26 Zu26 hIu26 hFu26 u26_0 u26_1 u26_2 u26_3 u26_4  hm; exact absurd hm (Nat.not_lt_zero _)
                · intro n r_u26 ih_u26 a_2u26 a_4u26 a_7u26 a_8u26 a_9u26 a_10u26 Zu26 hIu26 hFu26 u26_0 u26_1 u26_2 u26_3 u26_4  hmu26
                  unfold g_Kinds_findOrAdd_172_s
                  refine ok.ite (fun c27 => ?_) (fun c27 => ?_)
                  · skip
                    refine ok.letE (v1 := 30) (by decide) ?_
                    refine ok.ck (show 0 ≤ a_8u26.toInt ∧ a_8u26.toInt < ((1549 : Nat) : Int) from by omega) ?_
                    refine ok.wI (L := [6000]) hIu26 (show True from trivial) (show (6000 : Nat) ∈ [6000] from by decide) (by decide) (fun Z28 hIZ28 hFZ28 hkZ28 hoZ28 => ?_)
                    refine ok.letE (v1 := 32) (by decide) ?_
                    refine ok.letE (v1 := 31) (by decide) ?_
                    refine ok.ck (show 0 ≤ a_7u26.toInt ∧ a_7u26.toInt < ((512 : Nat) : Int) from by omega) ?_
                    refine ok.letE (v1 := (Zu26.1 31 (ix a_7u26))) (hFZ28.1 31 (ix a_7u26) (show (6200 : Nat) ∉ [6000] from by decide)) ?_
                    have g29 : -1 ≤ (Zu26.1 31 (ix a_7u26)).toInt ∧ (Zu26.1 31 (ix a_7u26)).toInt ≤ 1548 := hIu26.1 31 (ix a_7u26)
                    refine ok.ck (show 0 ≤ a_8u26.toInt ∧ a_8u26.toInt < ((1549 : Nat) : Int) from by omega) ?_
                    refine ok.wI (L := [6400]) hIZ28 (show -1 ≤ (Zu26.1 31 (ix a_7u26)).toInt ∧ (Zu26.1 31 (ix a_7u26)).toInt ≤ 1548 from by omega) (show (6400 : Nat) ∈ [6400] from by decide) (by decide) (fun Z30 hIZ30 hFZ30 hkZ30 hoZ30 => ?_)
                    refine ok.letE (v1 := 31) (by decide) ?_
                    refine ok.ck (show 0 ≤ a_7u26.toInt ∧ a_7u26.toInt < ((512 : Nat) : Int) from by omega) ?_
                    refine ok.wI (L := [6200]) hIZ30 (show -1 ≤ a_8u26.toInt ∧ a_8u26.toInt ≤ 1548 from by omega) (show (6200 : Nat) ∈ [6200] from by decide) (by decide) (fun Z31 hIZ31 hFZ31 hkZ31 hoZ31 => ?_)
                    exact ok.ret ⟨((((Fr.rf.tr hFu26 (fun _ q => q)).tr hFZ28 (by decide)).tr hFZ30 (by decide)).tr hFZ31 (by decide)), hIZ31⟩
                  · skip
                    refine ok.letE (v1 := 28) (by decide) ?_
                    refine ok.mul (show _ ≤ a_8u26.toInt * (5 : Int) ∧ a_8u26.toInt * (5 : Int) ≤ _ from by omega) (fun x29 hx29 => ?_)
                    have hx29 : x29.toInt = a_8u26.toInt * (5 : Int) := hx29
                    refine ok.add (show _ ≤ x29.toInt + a_10u26.toInt ∧ x29.toInt + a_10u26.toInt ≤ _ from by omega) (fun x30 hx30 => ?_)
                    have hx30 : x30.toInt = x29.toInt + a_10u26.toInt := hx30
                    refine ok.add (show _ ≤ a_4u26.toInt + a_10u26.toInt ∧ a_4u26.toInt + a_10u26.toInt ≤ _ from by omega) (fun x31 hx31 => ?_)
                    have hx31 : x31.toInt = a_4u26.toInt + a_10u26.toInt := hx31
                    refine ok.ck (show 0 ≤ x31.toInt ∧ x31.toInt < ((7745 : Nat) : Int) from by omega) ?_
                    refine ok.letE (v1 := (Zu26.1 28 (ix x31))) rfl ?_
                    refine ok.ck (show 0 ≤ x30.toInt ∧ x30.toInt < ((7745 : Nat) : Int) from by omega) ?_
                    refine ok.wI (L := [5600]) hIu26 (show True from trivial) (show (5600 : Nat) ∈ [5600] from by decide) (by decide) (fun Z32 hIZ32 hFZ32 hkZ32 hoZ32 => ?_)
                    refine ok.ite (fun c33 => ?_) (fun c33 => ?_)
                    · skip
                      have g34 := i32_le a_9u26
                      refine ok.add (show _ ≤ a_4u26.toInt + a_10u26.toInt ∧ a_4u26.toInt + a_10u26.toInt ≤ _ from by omega) (fun x35 hx35 => ?_)
                      have hx35 : x35.toInt = a_4u26.toInt + a_10u26.toInt := hx35
                      refine ok.ck (show 0 ≤ x35.toInt ∧ x35.toInt < ((7745 : Nat) : Int) from by omega) ?_
                      refine ok.letE (v1 := (Z32.1 28 (ix x35))) rfl ?_
                      refine ok.bd (v_Kinds_hasAny_25 hIZ32) ?_
                      rintro x37 _ rfl
                      refine ok.ite (fun c36 => ?_) (fun c36 => ?_)
                      · skip
                        have g37 := i32_le x37
                        unfold g_Kinds_findOrAdd_221
                        refine ok.inc (by decide) (show _ ≤ a_10u26.toInt + (1) ∧ a_10u26.toInt + (1) ≤ _ from by omega) (fun x34 hx34 => ?_)
                        have hx34 : x34.toInt = a_10u26.toInt + (1) := hx34
                        exact ih_u26 a_2u26 a_4u26 a_7u26 a_8u26 (0 : Int32) x34 Z32 hIZ32 ((Fr.rf.tr hFu26 (fun _ q => q)).tr hFZ32 (by decide)) (show 0 ≤ a_2u26.toInt ∧ a_2u26.toInt ≤ 4 from by omega) (show 0 ≤ a_4u26.toInt ∧ a_4u26.toInt + a_2u26.toInt ≤ 7745 from by omega) (show 0 ≤ a_7u26.toInt ∧ a_7u26.toInt ≤ 511 from by omega) (show 0 ≤ a_8u26.toInt ∧ a_8u26.toInt ≤ 1548 from by omega) (show 0 ≤ x34.toInt ∧ x34.toInt ≤ 5 from by omega) (show (5 - x34.toInt).toNat < _ from by omega)
                      · skip
                        unfold g_Kinds_findOrAdd_216
                        unfold g_Kinds_findOrAdd_221
                        refine ok.inc (by decide) (show _ ≤ a_10u26.toInt + (1) ∧ a_10u26.toInt + (1) ≤ _ from by omega) (fun x34 hx34 => ?_)
                        have hx34 : x34.toInt = a_10u26.toInt + (1) := hx34
                        exact ih_u26 a_2u26 a_4u26 a_7u26 a_8u26 (1 : Int32) x34 Z32 hIZ32 ((Fr.rf.tr hFu26 (fun _ q => q)).tr hFZ32 (by decide)) (show 0 ≤ a_2u26.toInt ∧ a_2u26.toInt ≤ 4 from by omega) (show 0 ≤ a_4u26.toInt ∧ a_4u26.toInt + a_2u26.toInt ≤ 7745 from by omega) (show 0 ≤ a_7u26.toInt ∧ a_7u26.toInt ≤ 511 from by omega) (show 0 ≤ a_8u26.toInt ∧ a_8u26.toInt ≤ 1548 from by omega) (show 0 ≤ x34.toInt ∧ x34.toInt ≤ 5 from by omega) (show (5 - x34.toInt).toNat < _ from by omega)
                    · skip
                      unfold g_Kinds_findOrAdd_216
                      unfold g_Kinds_findOrAdd_221
                      refine ok.inc (by decide) (show _ ≤ a_10u26.toInt + (1) ∧ a_10u26.toInt + (1) ≤ _ from by omega) (fun x34 hx34 => ?_)
                      have hx34 : x34.toInt = a_10u26.toInt + (1) := hx34
                      exact ih_u26 a_2u26 a_4u26 a_7u26 a_8u26 (1 : Int32) x34 Z32 hIZ32 ((Fr.rf.tr hFu26 (fun _ q => q)).tr hFZ32 (by decide)) (show 0 ≤ a_2u26.toInt ∧ a_2u26.toInt ≤ 4 from by omega) (show 0 ≤ a_4u26.toInt ∧ a_4u26.toInt + a_2u26.toInt ≤ 7745 from by omega) (show 0 ≤ a_7u26.toInt ∧ a_7u26.toInt ≤ 511 from by omega) (show 0 ≤ a_8u26.toInt ∧ a_8u26.toInt ≤ 1548 from by omega) (show 0 ≤ x34.toInt ∧ x34.toInt ≤ 5 from by omega) (show (5 - x34.toInt).toNat < _ from by omega)
              exact lpu26 BIG a_2u3 a_4u3 a_7u3 (Zu3.1 25 0) (0 : Int32) (0 : Int32) Z11 hIZ11 ((((((Fr.rf.tr hFu3 (fun _ q => q)).tr hFZ7 (by decide)).tr hFZ8 (by decide)).tr hFZ9 (by decide)).tr hFZ10 (by decide)).tr hFZ11 (by decide)) (show 0 ≤ a_2u3.toInt ∧ a_2u3.toInt ≤ 4 from by omega) (show 0 ≤ a_4u3.toInt ∧ a_4u3.toInt + a_2u3.toInt ≤ 7745 from by omega) (show 0 ≤ a_7u3.toInt ∧ a_7u3.toInt ≤ 511 from by omega) (show 0 ≤ (Zu3.1 25 0).toInt ∧ (Zu3.1 25 0).toInt ≤ 1548 from by omega) (show 0 ≤ (0 : Int) ∧ (0 : Int) ≤ 5 from by omega) (show (5 - (0 : Int)).toNat < BIG from ltBIG (show _ < 100000 from by omega))
            · skip
              refine ok.bd (v_Kinds_hasAny_25 hIZ11) ?_
              rintro x39 _ rfl
              refine ok.ite (fun c39 => ?_) (fun c39 => ?_)
              · skip
                have g40 := i32_le x39
                unfold g_Kinds_findOrAdd_166
                unfold g_Kinds_findOrAdd_167
                have lpu41 : ∀ (n : Nat), ∀ (a_2u41 : Int32) (a_4u41 : Int32) (a_7u41 : Int32) (a_8u41 : Int32) (a_9u41 : Int32) (a_10u41 : Int32) (Zu41 : St), INV Zu41 → Fr YC Qv30 X Zu41 → (0 ≤ a_2u41.toInt ∧ a_2u41.toInt ≤ 4) → (0 ≤ a_4u41.toInt ∧ a_4u41.toInt + a_2u41.toInt ≤ 7745) → (0 ≤ a_7u41.toInt ∧ a_7u41.toInt ≤ 511) → (0 ≤ a_8u41.toInt ∧ a_8u41.toInt ≤ 1548) → (0 ≤ a_10u41.toInt ∧ a_10u41.toInt ≤ 5) → (5 - a_10u41.toInt).toNat < n → ok (g_Kinds_findOrAdd_172 n 25 a_2u41 28 a_4u41 a_7u41 a_8u41 a_9u41 a_10u41 Zu41) (fun r Y => (Fr YC Qv30 X Y ∧ INV Y)) := by
                  intro n
                  unfold g_Kinds_findOrAdd_172
                  refine lp_indN (P := fun (n : Nat) (r_u41 : Nat → Int32 → Nat → Int32 → Int32 → Int32 → Int32 → Int32 → St → Option (Int32 × St)) => ∀ (a_2u41 : Int32) (a_4u41 : Int32) (a_7u41 : Int32) (a_8u41 : Int32) (a_9u41 : Int32) (a_10u41 : Int32) (Zu41 : St), INV Zu41 → Fr YC Qv30 X Zu41 → (0 ≤ a_2u41.toInt ∧ a_2u41.toInt ≤ 4) → (0 ≤ a_4u41.toInt ∧ a_4u41.toInt + a_2u41.toInt ≤ 7745) → (0 ≤ a_7u41.toInt ∧ a_7u41.toInt ≤ 511) → (0 ≤ a_8u41.toInt ∧ a_8u41.toInt ≤ 1548) → (0 ≤ a_10u41.toInt ∧ a_10u41.toInt ≤ 5) → (5 - a_10u41.toInt).toNat < n → ok (r_u41 25 a_2u41 28 a_4u41 a_7u41 a_8u41 a_9u41 a_10u41 Zu41) (fun r Y => (Fr YC Qv30 X Y ∧ INV Y))) ?_ ?_ n
                  · intro a_2u41 a_4u41 a_7u41 a_8u41 a_9u41 a_10u41 Zu41 hIu41 hFu41 u41_0 u41_1 u41_2 u41_3 u41_4  hm; exact absurd hm (Nat.not_lt_zero _)
                  · intro n r_u41 ih_u41 a_2u41 a_4u41 a_7u41 a_8u41 a_9u41 a_10u41 Zu41 hIu41 hFu41 u41_0 u41_1 u41_2 u41_3 u41_4  hmu41
                    unfold g_Kinds_findOrAdd_172_s
                    refine ok.ite (fun c42 => ?_) (fun c42 => ?_)
                    · skip
                      refine ok.letE (v1 := 30) (by decide) ?_
                      refine ok.ck (show 0 ≤ a_8u41.toInt ∧ a_8u41.toInt < ((1549 : Nat) : Int) from by omega) ?_
                      refine ok.wI (L := [6000]) hIu41 (show True from trivial) (show (6000 : Nat) ∈ [6000] from by decide) (by decide) (fun Z43 hIZ43 hFZ43 hkZ43 hoZ43 => ?_)
                      refine ok.letE (v1 := 32) (by decide) ?_
                      refine ok.letE (v1 := 31) (by decide) ?_
                      refine ok.ck (show 0 ≤ a_7u41.toInt ∧ a_7u41.toInt < ((512 : Nat) : Int) from by omega) ?_
                      refine ok.letE (v1 := (Zu41.1 31 (ix a_7u41))) (hFZ43.1 31 (ix a_7u41) (show (6200 : Nat) ∉ [6000] from by decide)) ?_
                      have g44 : -1 ≤ (Zu41.1 31 (ix a_7u41)).toInt ∧ (Zu41.1 31 (ix a_7u41)).toInt ≤ 1548 := hIu41.1 31 (ix a_7u41)
                      refine ok.ck (show 0 ≤ a_8u41.toInt ∧ a_8u41.toInt < ((1549 : Nat) : Int) from by omega) ?_
                      refine ok.wI (L := [6400]) hIZ43 (show -1 ≤ (Zu41.1 31 (ix a_7u41)).toInt ∧ (Zu41.1 31 (ix a_7u41)).toInt ≤ 1548 from by omega) (show (6400 : Nat) ∈ [6400] from by decide) (by decide) (fun Z45 hIZ45 hFZ45 hkZ45 hoZ45 => ?_)
                      refine ok.letE (v1 := 31) (by decide) ?_
                      refine ok.ck (show 0 ≤ a_7u41.toInt ∧ a_7u41.toInt < ((512 : Nat) : Int) from by omega) ?_
                      refine ok.wI (L := [6200]) hIZ45 (show -1 ≤ a_8u41.toInt ∧ a_8u41.toInt ≤ 1548 from by omega) (show (6200 : Nat) ∈ [6200] from by decide) (by decide) (fun Z46 hIZ46 hFZ46 hkZ46 hoZ46 => ?_)
                      exact ok.ret ⟨((((Fr.rf.tr hFu41 (fun _ q => q)).tr hFZ43 (by decide)).tr hFZ45 (by decide)).tr hFZ46 (by decide)), hIZ46⟩
                    · skip
                      refine ok.letE (v1 := 28) (by decide) ?_
                      refine ok.mul (show _ ≤ a_8u41.toInt * (5 : Int) ∧ a_8u41.toInt * (5 : Int) ≤ _ from by omega) (fun x29 hx29 => ?_)
                      have hx29 : x29.toInt = a_8u41.toInt * (5 : Int) := hx29
                      refine ok.add (show _ ≤ x29.toInt + a_10u41.toInt ∧ x29.toInt + a_10u41.toInt ≤ _ from by omega) (fun x30 hx30 => ?_)
                      have hx30 : x30.toInt = x29.toInt + a_10u41.toInt := hx30
                      refine ok.add (show _ ≤ a_4u41.toInt + a_10u41.toInt ∧ a_4u41.toInt + a_10u41.toInt ≤ _ from by omega) (fun x31 hx31 => ?_)
                      have hx31 : x31.toInt = a_4u41.toInt + a_10u41.toInt := hx31
                      refine ok.ck (show 0 ≤ x31.toInt ∧ x31.toInt < ((7745 : Nat) : Int) from by omega) ?_
                      refine ok.letE (v1 := (Zu41.1 28 (ix x31))) rfl ?_
                      refine ok.ck (show 0 ≤ x30.toInt ∧ x30.toInt < ((7745 : Nat) : Int) from by omega) ?_
                      refine ok.wI (L := [5600]) hIu41 (show True from trivial) (show (5600 : Nat) ∈ [5600] from by decide) (by decide) (fun Z47 hIZ47 hFZ47 hkZ47 hoZ47 => ?_)
                      refine ok.ite (fun c48 => ?_) (fun c48 => ?_)
                      · skip
                        have g49 := i32_le a_9u41
                        refine ok.add (show _ ≤ a_4u41.toInt + a_10u41.toInt ∧ a_4u41.toInt + a_10u41.toInt ≤ _ from by omega) (fun x35 hx35 => ?_)
                        have hx35 : x35.toInt = a_4u41.toInt + a_10u41.toInt := hx35
                        refine ok.ck (show 0 ≤ x35.toInt ∧ x35.toInt < ((7745 : Nat) : Int) from by omega) ?_
                        refine ok.letE (v1 := (Z47.1 28 (ix x35))) rfl ?_
                        refine ok.bd (v_Kinds_hasAny_25 hIZ47) ?_
                        rintro x37 _ rfl
                        refine ok.ite (fun c51 => ?_) (fun c51 => ?_)
                        · skip
                          have g52 := i32_le x37
                          unfold g_Kinds_findOrAdd_221
                          refine ok.inc (by decide) (show _ ≤ a_10u41.toInt + (1) ∧ a_10u41.toInt + (1) ≤ _ from by omega) (fun x34 hx34 => ?_)
                          have hx34 : x34.toInt = a_10u41.toInt + (1) := hx34
                          exact ih_u41 a_2u41 a_4u41 a_7u41 a_8u41 (0 : Int32) x34 Z47 hIZ47 ((Fr.rf.tr hFu41 (fun _ q => q)).tr hFZ47 (by decide)) (show 0 ≤ a_2u41.toInt ∧ a_2u41.toInt ≤ 4 from by omega) (show 0 ≤ a_4u41.toInt ∧ a_4u41.toInt + a_2u41.toInt ≤ 7745 from by omega) (show 0 ≤ a_7u41.toInt ∧ a_7u41.toInt ≤ 511 from by omega) (show 0 ≤ a_8u41.toInt ∧ a_8u41.toInt ≤ 1548 from by omega) (show 0 ≤ x34.toInt ∧ x34.toInt ≤ 5 from by omega) (show (5 - x34.toInt).toNat < _ from by omega)
                        · skip
                          unfold g_Kinds_findOrAdd_216
                          unfold g_Kinds_findOrAdd_221
                          refine ok.inc (by decide) (show _ ≤ a_10u41.toInt + (1) ∧ a_10u41.toInt + (1) ≤ _ from by omega) (fun x34 hx34 => ?_)
                          have hx34 : x34.toInt = a_10u41.toInt + (1) := hx34
                          exact ih_u41 a_2u41 a_4u41 a_7u41 a_8u41 (1 : Int32) x34 Z47 hIZ47 ((Fr.rf.tr hFu41 (fun _ q => q)).tr hFZ47 (by decide)) (show 0 ≤ a_2u41.toInt ∧ a_2u41.toInt ≤ 4 from by omega) (show 0 ≤ a_4u41.toInt ∧ a_4u41.toInt + a_2u41.toInt ≤ 7745 from by omega) (show 0 ≤ a_7u41.toInt ∧ a_7u41.toInt ≤ 511 from by omega) (show 0 ≤ a_8u41.toInt ∧ a_8u41.toInt ≤ 1548 from by omega) (show 0 ≤ x34.toInt ∧ x34.toInt ≤ 5 from by omega) (show (5 - x34.toInt).toNat < _ from by omega)
                      · skip
                        unfold g_Kinds_findOrAdd_216
                        unfold g_Kinds_findOrAdd_221
                        refine ok.inc (by decide) (show _ ≤ a_10u41.toInt + (1) ∧ a_10u41.toInt + (1) ≤ _ from by omega) (fun x34 hx34 => ?_)
                        have hx34 : x34.toInt = a_10u41.toInt + (1) := hx34
                        exact ih_u41 a_2u41 a_4u41 a_7u41 a_8u41 (1 : Int32) x34 Z47 hIZ47 ((Fr.rf.tr hFu41 (fun _ q => q)).tr hFZ47 (by decide)) (show 0 ≤ a_2u41.toInt ∧ a_2u41.toInt ≤ 4 from by omega) (show 0 ≤ a_4u41.toInt ∧ a_4u41.toInt + a_2u41.toInt ≤ 7745 from by omega) (show 0 ≤ a_7u41.toInt ∧ a_7u41.toInt ≤ 511 from by omega) (show 0 ≤ a_8u41.toInt ∧ a_8u41.toInt ≤ 1548 from by omega) (show 0 ≤ x34.toInt ∧ x34.toInt ≤ 5 from by omega) (show (5 - x34.toInt).toNat < _ from by omega)
                exact lpu41 BIG a_2u3 a_4u3 a_7u3 (Zu3.1 25 0) (0 : Int32) (0 : Int32) Z11 hIZ11 ((((((Fr.rf.tr hFu3 (fun _ q => q)).tr hFZ7 (by decide)).tr hFZ8 (by decide)).tr hFZ9 (by decide)).tr hFZ10 (by decide)).tr hFZ11 (by decide)) (show 0 ≤ a_2u3.toInt ∧ a_2u3.toInt ≤ 4 from by omega) (show 0 ≤ a_4u3.toInt ∧ a_4u3.toInt + a_2u3.toInt ≤ 7745 from by omega) (show 0 ≤ a_7u3.toInt ∧ a_7u3.toInt ≤ 511 from by omega) (show 0 ≤ (Zu3.1 25 0).toInt ∧ (Zu3.1 25 0).toInt ≤ 1548 from by omega) (show 0 ≤ (0 : Int) ∧ (0 : Int) ≤ 5 from by omega) (show (5 - (0 : Int)).toNat < BIG from ltBIG (show _ < 100000 from by omega))
              · skip
                unfold g_Kinds_findOrAdd_162
                unfold g_Kinds_findOrAdd_167
                have lpu53 : ∀ (n : Nat), ∀ (a_2u53 : Int32) (a_4u53 : Int32) (a_7u53 : Int32) (a_8u53 : Int32) (a_9u53 : Int32) (a_10u53 : Int32) (Zu53 : St), INV Zu53 → Fr YC Qv30 X Zu53 → (0 ≤ a_2u53.toInt ∧ a_2u53.toInt ≤ 4) → (0 ≤ a_4u53.toInt ∧ a_4u53.toInt + a_2u53.toInt ≤ 7745) → (0 ≤ a_7u53.toInt ∧ a_7u53.toInt ≤ 511) → (0 ≤ a_8u53.toInt ∧ a_8u53.toInt ≤ 1548) → (0 ≤ a_10u53.toInt ∧ a_10u53.toInt ≤ 5) → (5 - a_10u53.toInt).toNat < n → ok (g_Kinds_findOrAdd_172 n 25 a_2u53 28 a_4u53 a_7u53 a_8u53 a_9u53 a_10u53 Zu53) (fun r Y => (Fr YC Qv30 X Y ∧ INV Y)) := by
                  intro n
                  unfold g_Kinds_findOrAdd_172
                  refine lp_indN (P := fun (n : Nat) (r_u53 : Nat → Int32 → Nat → Int32 → Int32 → Int32 → Int32 → Int32 → St → Option (Int32 × St)) => ∀ (a_2u53 : Int32) (a_4u53 : Int32) (a_7u53 : Int32) (a_8u53 : Int32) (a_9u53 : Int32) (a_10u53 : Int32) (Zu53 : St), INV Zu53 → Fr YC Qv30 X Zu53 → (0 ≤ a_2u53.toInt ∧ a_2u53.toInt ≤ 4) → (0 ≤ a_4u53.toInt ∧ a_4u53.toInt + a_2u53.toInt ≤ 7745) → (0 ≤ a_7u53.toInt ∧ a_7u53.toInt ≤ 511) → (0 ≤ a_8u53.toInt ∧ a_8u53.toInt ≤ 1548) → (0 ≤ a_10u53.toInt ∧ a_10u53.toInt ≤ 5) → (5 - a_10u53.toInt).toNat < n → ok (r_u53 25 a_2u53 28 a_4u53 a_7u53 a_8u53 a_9u53 a_10u53 Zu53) (fun r Y => (Fr YC Qv30 X Y ∧ INV Y))) ?_ ?_ n
                  · intro a_2u53 a_4u53 a_7u53 a_8u53 a_9u53 a_10u53 Zu53 hIu53 hFu53 u53_0 u53_1 u53_2 u53_3 u53_4  hm; exact absurd hm (Nat.not_lt_zero _)
                  · intro n r_u53 ih_u53 a_2u53 a_4u53 a_7u53 a_8u53 a_9u53 a_10u53 Zu53 hIu53 hFu53 u53_0 u53_1 u53_2 u53_3 u53_4  hmu53
                    unfold g_Kinds_findOrAdd_172_s
                    refine ok.ite (fun c54 => ?_) (fun c54 => ?_)
                    · skip
                      refine ok.letE (v1 := 30) (by decide) ?_
                      refine ok.ck (show 0 ≤ a_8u53.toInt ∧ a_8u53.toInt < ((1549 : Nat) : Int) from by omega) ?_
                      refine ok.wI (L := [6000]) hIu53 (show True from trivial) (show (6000 : Nat) ∈ [6000] from by decide) (by decide) (fun Z55 hIZ55 hFZ55 hkZ55 hoZ55 => ?_)
                      refine ok.letE (v1 := 32) (by decide) ?_
                      refine ok.letE (v1 := 31) (by decide) ?_
                      refine ok.ck (show 0 ≤ a_7u53.toInt ∧ a_7u53.toInt < ((512 : Nat) : Int) from by omega) ?_
                      refine ok.letE (v1 := (Zu53.1 31 (ix a_7u53))) (hFZ55.1 31 (ix a_7u53) (show (6200 : Nat) ∉ [6000] from by decide)) ?_
                      have g56 : -1 ≤ (Zu53.1 31 (ix a_7u53)).toInt ∧ (Zu53.1 31 (ix a_7u53)).toInt ≤ 1548 := hIu53.1 31 (ix a_7u53)
                      refine ok.ck (show 0 ≤ a_8u53.toInt ∧ a_8u53.toInt < ((1549 : Nat) : Int) from by omega) ?_
                      refine ok.wI (L := [6400]) hIZ55 (show -1 ≤ (Zu53.1 31 (ix a_7u53)).toInt ∧ (Zu53.1 31 (ix a_7u53)).toInt ≤ 1548 from by omega) (show (6400 : Nat) ∈ [6400] from by decide) (by decide) (fun Z57 hIZ57 hFZ57 hkZ57 hoZ57 => ?_)
                      refine ok.letE (v1 := 31) (by decide) ?_
                      refine ok.ck (show 0 ≤ a_7u53.toInt ∧ a_7u53.toInt < ((512 : Nat) : Int) from by omega) ?_
                      refine ok.wI (L := [6200]) hIZ57 (show -1 ≤ a_8u53.toInt ∧ a_8u53.toInt ≤ 1548 from by omega) (show (6200 : Nat) ∈ [6200] from by decide) (by decide) (fun Z58 hIZ58 hFZ58 hkZ58 hoZ58 => ?_)
                      exact ok.ret ⟨((((Fr.rf.tr hFu53 (fun _ q => q)).tr hFZ55 (by decide)).tr hFZ57 (by decide)).tr hFZ58 (by decide)), hIZ58⟩
                    · skip
                      refine ok.letE (v1 := 28) (by decide) ?_
                      refine ok.mul (show _ ≤ a_8u53.toInt * (5 : Int) ∧ a_8u53.toInt * (5 : Int) ≤ _ from by omega) (fun x29 hx29 => ?_)
                      have hx29 : x29.toInt = a_8u53.toInt * (5 : Int) := hx29
                      refine ok.add (show _ ≤ x29.toInt + a_10u53.toInt ∧ x29.toInt + a_10u53.toInt ≤ _ from by omega) (fun x30 hx30 => ?_)
                      have hx30 : x30.toInt = x29.toInt + a_10u53.toInt := hx30
                      refine ok.add (show _ ≤ a_4u53.toInt + a_10u53.toInt ∧ a_4u53.toInt + a_10u53.toInt ≤ _ from by omega) (fun x31 hx31 => ?_)
                      have hx31 : x31.toInt = a_4u53.toInt + a_10u53.toInt := hx31
                      refine ok.ck (show 0 ≤ x31.toInt ∧ x31.toInt < ((7745 : Nat) : Int) from by omega) ?_
                      refine ok.letE (v1 := (Zu53.1 28 (ix x31))) rfl ?_
                      refine ok.ck (show 0 ≤ x30.toInt ∧ x30.toInt < ((7745 : Nat) : Int) from by omega) ?_
                      refine ok.wI (L := [5600]) hIu53 (show True from trivial) (show (5600 : Nat) ∈ [5600] from by decide) (by decide) (fun Z59 hIZ59 hFZ59 hkZ59 hoZ59 => ?_)
                      refine ok.ite (fun c60 => ?_) (fun c60 => ?_)
                      · skip
                        have g61 := i32_le a_9u53
                        refine ok.add (show _ ≤ a_4u53.toInt + a_10u53.toInt ∧ a_4u53.toInt + a_10u53.toInt ≤ _ from by omega) (fun x35 hx35 => ?_)
                        have hx35 : x35.toInt = a_4u53.toInt + a_10u53.toInt := hx35
                        refine ok.ck (show 0 ≤ x35.toInt ∧ x35.toInt < ((7745 : Nat) : Int) from by omega) ?_
                        refine ok.letE (v1 := (Z59.1 28 (ix x35))) rfl ?_
                        refine ok.bd (v_Kinds_hasAny_25 hIZ59) ?_
                        rintro x37 _ rfl
                        refine ok.ite (fun c63 => ?_) (fun c63 => ?_)
                        · skip
                          have g64 := i32_le x37
                          unfold g_Kinds_findOrAdd_221
                          refine ok.inc (by decide) (show _ ≤ a_10u53.toInt + (1) ∧ a_10u53.toInt + (1) ≤ _ from by omega) (fun x34 hx34 => ?_)
                          have hx34 : x34.toInt = a_10u53.toInt + (1) := hx34
                          exact ih_u53 a_2u53 a_4u53 a_7u53 a_8u53 (0 : Int32) x34 Z59 hIZ59 ((Fr.rf.tr hFu53 (fun _ q => q)).tr hFZ59 (by decide)) (show 0 ≤ a_2u53.toInt ∧ a_2u53.toInt ≤ 4 from by omega) (show 0 ≤ a_4u53.toInt ∧ a_4u53.toInt + a_2u53.toInt ≤ 7745 from by omega) (show 0 ≤ a_7u53.toInt ∧ a_7u53.toInt ≤ 511 from by omega) (show 0 ≤ a_8u53.toInt ∧ a_8u53.toInt ≤ 1548 from by omega) (show 0 ≤ x34.toInt ∧ x34.toInt ≤ 5 from by omega) (show (5 - x34.toInt).toNat < _ from by omega)
                        · skip
                          unfold g_Kinds_findOrAdd_216
                          unfold g_Kinds_findOrAdd_221
                          refine ok.inc (by decide) (show _ ≤ a_10u53.toInt + (1) ∧ a_10u53.toInt + (1) ≤ _ from by omega) (fun x34 hx34 => ?_)
                          have hx34 : x34.toInt = a_10u53.toInt + (1) := hx34
                          exact ih_u53 a_2u53 a_4u53 a_7u53 a_8u53 (1 : Int32) x34 Z59 hIZ59 ((Fr.rf.tr hFu53 (fun _ q => q)).tr hFZ59 (by decide)) (show 0 ≤ a_2u53.toInt ∧ a_2u53.toInt ≤ 4 from by omega) (show 0 ≤ a_4u53.toInt ∧ a_4u53.toInt + a_2u53.toInt ≤ 7745 from by omega) (show 0 ≤ a_7u53.toInt ∧ a_7u53.toInt ≤ 511 from by omega) (show 0 ≤ a_8u53.toInt ∧ a_8u53.toInt ≤ 1548 from by omega) (show 0 ≤ x34.toInt ∧ x34.toInt ≤ 5 from by omega) (show (5 - x34.toInt).toNat < _ from by omega)
                      · skip
                        unfold g_Kinds_findOrAdd_216
                        unfold g_Kinds_findOrAdd_221
                        refine ok.inc (by decide) (show _ ≤ a_10u53.toInt + (1) ∧ a_10u53.toInt + (1) ≤ _ from by omega) (fun x34 hx34 => ?_)
                        have hx34 : x34.toInt = a_10u53.toInt + (1) := hx34
                        exact ih_u53 a_2u53 a_4u53 a_7u53 a_8u53 (1 : Int32) x34 Z59 hIZ59 ((Fr.rf.tr hFu53 (fun _ q => q)).tr hFZ59 (by decide)) (show 0 ≤ a_2u53.toInt ∧ a_2u53.toInt ≤ 4 from by omega) (show 0 ≤ a_4u53.toInt ∧ a_4u53.toInt + a_2u53.toInt ≤ 7745 from by omega) (show 0 ≤ a_7u53.toInt ∧ a_7u53.toInt ≤ 511 from by omega) (show 0 ≤ a_8u53.toInt ∧ a_8u53.toInt ≤ 1548 from by omega) (show 0 ≤ x34.toInt ∧ x34.toInt ≤ 5 from by omega) (show (5 - x34.toInt).toNat < _ from by omega)
                exact lpu53 BIG a_2u3 a_4u3 a_7u3 (Zu3.1 25 0) (1 : Int32) (0 : Int32) Z11 hIZ11 ((((((Fr.rf.tr hFu3 (fun _ q => q)).tr hFZ7 (by decide)).tr hFZ8 (by decide)).tr hFZ9 (by decide)).tr hFZ10 (by decide)).tr hFZ11 (by decide)) (show 0 ≤ a_2u3.toInt ∧ a_2u3.toInt ≤ 4 from by omega) (show 0 ≤ a_4u3.toInt ∧ a_4u3.toInt + a_2u3.toInt ≤ 7745 from by omega) (show 0 ≤ a_7u3.toInt ∧ a_7u3.toInt ≤ 511 from by omega) (show 0 ≤ (Zu3.1 25 0).toInt ∧ (Zu3.1 25 0).toInt ≤ 1548 from by omega) (show 0 ≤ (0 : Int) ∧ (0 : Int) ≤ 5 from by omega) (show (5 - (0 : Int)).toNat < BIG from ltBIG (show _ < 100000 from by omega))
        · skip
          exact ok.ret ⟨(Fr.rf.tr hFu3 (fun _ q => q)), hIu3⟩
      · skip
        refine ok.ite (fun c65 => ?_) (fun c65 => ?_)
        · skip
          unfold g_Kinds_findOrAdd_77
          refine ok.letE (v1 := (Zu3.1 25 0)) rfl ?_
          have g66 : 0 ≤ (Zu3.1 25 0).toInt ∧ (Zu3.1 25 0).toInt ≤ 1549 := hIu3.1 25 0
          refine ok.ite (fun c67 => ?_) (fun c67 => ?_)
          · skip
            refine ok.letE (v1 := (Zu3.1 25 0)) rfl ?_
            refine ok.letE (v1 := (Zu3.1 25 0)) rfl ?_
            refine ok.add (show _ ≤ (Zu3.1 25 0).toInt + (1 : Int) ∧ (Zu3.1 25 0).toInt + (1 : Int) ≤ _ from by omega) (fun x8 hx8 => ?_)
            have hx8 : x8.toInt = (Zu3.1 25 0).toInt + (1 : Int) := hx8
            refine ok.wI (L := [5000]) hIu3 (show 0 ≤ x8.toInt ∧ x8.toInt ≤ 1549 from by omega) (show (5000 : Nat) ∈ [5000] from by decide) (by decide) (fun Z68 hIZ68 hFZ68 hkZ68 hoZ68 => ?_)
            refine ok.letE (v1 := 26) (by decide) ?_
            refine ok.ck (show 0 ≤ (Zu3.1 25 0).toInt ∧ (Zu3.1 25 0).toInt < ((1549 : Nat) : Int) from by omega) ?_
            refine ok.wI (L := [5200]) hIZ68 (show True from trivial) (show (5200 : Nat) ∈ [5200] from by decide) (by decide) (fun Z69 hIZ69 hFZ69 hkZ69 hoZ69 => ?_)
            refine ok.letE (v1 := 27) (by decide) ?_
            refine ok.ck (show 0 ≤ (Zu3.1 25 0).toInt ∧ (Zu3.1 25 0).toInt < ((1549 : Nat) : Int) from by omega) ?_
            refine ok.wI (L := [5400]) hIZ69 (show 0 ≤ a_2u3.toInt ∧ a_2u3.toInt ≤ 4 from by omega) (show (5400 : Nat) ∈ [5400] from by decide) (by decide) (fun Z70 hIZ70 hFZ70 hkZ70 hoZ70 => ?_)
            refine ok.letE (v1 := 29) (by decide) ?_
            refine ok.ck (show 0 ≤ (Zu3.1 25 0).toInt ∧ (Zu3.1 25 0).toInt < ((1549 : Nat) : Int) from by omega) ?_
            refine ok.wI (L := [5800]) hIZ70 (show True from trivial) (show (5800 : Nat) ∈ [5800] from by decide) (by decide) (fun Z71 hIZ71 hFZ71 hkZ71 hoZ71 => ?_)
            refine ok.letE (v1 := 28) (by decide) ?_
            refine ok.mul (show _ ≤ (Zu3.1 25 0).toInt * (5 : Int) ∧ (Zu3.1 25 0).toInt * (5 : Int) ≤ _ from by omega) (fun x17 hx17 => ?_)
            have hx17 : x17.toInt = (Zu3.1 25 0).toInt * (5 : Int) := hx17
            refine ok.add (show _ ≤ x17.toInt + (4 : Int) ∧ x17.toInt + (4 : Int) ≤ _ from by omega) (fun x18 hx18 => ?_)
            have hx18 : x18.toInt = x17.toInt + (4 : Int) := hx18
            refine ok.ck (show 0 ≤ x18.toInt ∧ x18.toInt < ((7745 : Nat) : Int) from by omega) ?_
            refine ok.wI (L := [5600]) hIZ71 (show True from trivial) (show (5600 : Nat) ∈ [5600] from by decide) (by decide) (fun Z72 hIZ72 hFZ72 hkZ72 hoZ72 => ?_)
            refine ok.ite (fun c73 => ?_) (fun c73 => ?_)
            · skip
              unfold g_Kinds_findOrAdd_162
              unfold g_Kinds_findOrAdd_167
              have lpu74 : ∀ (n : Nat), ∀ (a_2u74 : Int32) (a_4u74 : Int32) (a_7u74 : Int32) (a_8u74 : Int32) (a_9u74 : Int32) (a_10u74 : Int32) (Zu74 : St), INV Zu74 → Fr YC Qv30 X Zu74 → (0 ≤ a_2u74.toInt ∧ a_2u74.toInt ≤ 4) → (0 ≤ a_4u74.toInt ∧ a_4u74.toInt + a_2u74.toInt ≤ 7745) → (0 ≤ a_7u74.toInt ∧ a_7u74.toInt ≤ 511) → (0 ≤ a_8u74.toInt ∧ a_8u74.toInt ≤ 1548) → (0 ≤ a_10u74.toInt ∧ a_10u74.toInt ≤ 5) → (5 - a_10u74.toInt).toNat < n → ok (g_Kinds_findOrAdd_172 n 25 a_2u74 28 a_4u74 a_7u74 a_8u74 a_9u74 a_10u74 Zu74) (fun r Y => (Fr YC Qv30 X Y ∧ INV Y)) := by
                intro n
                unfold g_Kinds_findOrAdd_172
                refine lp_indN (P := fun (n : Nat) (r_u74 : Nat → Int32 → Nat → Int32 → Int32 → Int32 → Int32 → Int32 → St → Option (Int32 × St)) => ∀ (a_2u74 : Int32) (a_4u74 : Int32) (a_7u74 : Int32) (a_8u74 : Int32) (a_9u74 : Int32) (a_10u74 : Int32) (Zu74 : St), INV Zu74 → Fr YC Qv30 X Zu74 → (0 ≤ a_2u74.toInt ∧ a_2u74.toInt ≤ 4) → (0 ≤ a_4u74.toInt ∧ a_4u74.toInt + a_2u74.toInt ≤ 7745) → (0 ≤ a_7u74.toInt ∧ a_7u74.toInt ≤ 511) → (0 ≤ a_8u74.toInt ∧ a_8u74.toInt ≤ 1548) → (0 ≤ a_10u74.toInt ∧ a_10u74.toInt ≤ 5) → (5 - a_10u74.toInt).toNat < n → ok (r_u74 25 a_2u74 28 a_4u74 a_7u74 a_8u74 a_9u74 a_10u74 Zu74) (fun r Y => (Fr YC Qv30 X Y ∧ INV Y))) ?_ ?_ n
                · intro a_2u74 a_4u74 a_7u74 a_8u74 a_9u74 a_10u74 Zu74 hIu74 hFu74 u74_0 u74_1 u74_2 u74_3 u74_4  hm; exact absurd hm (Nat.not_lt_zero _)
                · intro n r_u74 ih_u74 a_2u74 a_4u74 a_7u74 a_8u74 a_9u74 a_10u74 Zu74 hIu74 hFu74 u74_0 u74_1 u74_2 u74_3 u74_4  hmu74
                  unfold g_Kinds_findOrAdd_172_s
                  refine ok.ite (fun c75 => ?_) (fun c75 => ?_)
                  · skip
                    refine ok.letE (v1 := 30) (by decide) ?_
                    refine ok.ck (show 0 ≤ a_8u74.toInt ∧ a_8u74.toInt < ((1549 : Nat) : Int) from by omega) ?_
                    refine ok.wI (L := [6000]) hIu74 (show True from trivial) (show (6000 : Nat) ∈ [6000] from by decide) (by decide) (fun Z76 hIZ76 hFZ76 hkZ76 hoZ76 => ?_)
                    refine ok.letE (v1 := 32) (by decide) ?_
                    refine ok.letE (v1 := 31) (by decide) ?_
                    refine ok.ck (show 0 ≤ a_7u74.toInt ∧ a_7u74.toInt < ((512 : Nat) : Int) from by omega) ?_
                    refine ok.letE (v1 := (Zu74.1 31 (ix a_7u74))) (hFZ76.1 31 (ix a_7u74) (show (6200 : Nat) ∉ [6000] from by decide)) ?_
                    have g77 : -1 ≤ (Zu74.1 31 (ix a_7u74)).toInt ∧ (Zu74.1 31 (ix a_7u74)).toInt ≤ 1548 := hIu74.1 31 (ix a_7u74)
                    refine ok.ck (show 0 ≤ a_8u74.toInt ∧ a_8u74.toInt < ((1549 : Nat) : Int) from by omega) ?_
                    refine ok.wI (L := [6400]) hIZ76 (show -1 ≤ (Zu74.1 31 (ix a_7u74)).toInt ∧ (Zu74.1 31 (ix a_7u74)).toInt ≤ 1548 from by omega) (show (6400 : Nat) ∈ [6400] from by decide) (by decide) (fun Z78 hIZ78 hFZ78 hkZ78 hoZ78 => ?_)
                    refine ok.letE (v1 := 31) (by decide) ?_
                    refine ok.ck (show 0 ≤ a_7u74.toInt ∧ a_7u74.toInt < ((512 : Nat) : Int) from by omega) ?_
                    refine ok.wI (L := [6200]) hIZ78 (show -1 ≤ a_8u74.toInt ∧ a_8u74.toInt ≤ 1548 from by omega) (show (6200 : Nat) ∈ [6200] from by decide) (by decide) (fun Z79 hIZ79 hFZ79 hkZ79 hoZ79 => ?_)
                    exact ok.ret ⟨((((Fr.rf.tr hFu74 (fun _ q => q)).tr hFZ76 (by decide)).tr hFZ78 (by decide)).tr hFZ79 (by decide)), hIZ79⟩
                  · skip
                    refine ok.letE (v1 := 28) (by decide) ?_
                    refine ok.mul (show _ ≤ a_8u74.toInt * (5 : Int) ∧ a_8u74.toInt * (5 : Int) ≤ _ from by omega) (fun x29 hx29 => ?_)
                    have hx29 : x29.toInt = a_8u74.toInt * (5 : Int) := hx29
                    refine ok.add (show _ ≤ x29.toInt + a_10u74.toInt ∧ x29.toInt + a_10u74.toInt ≤ _ from by omega) (fun x30 hx30 => ?_)
                    have hx30 : x30.toInt = x29.toInt + a_10u74.toInt := hx30
                    refine ok.add (show _ ≤ a_4u74.toInt + a_10u74.toInt ∧ a_4u74.toInt + a_10u74.toInt ≤ _ from by omega) (fun x31 hx31 => ?_)
                    have hx31 : x31.toInt = a_4u74.toInt + a_10u74.toInt := hx31
                    refine ok.ck (show 0 ≤ x31.toInt ∧ x31.toInt < ((7745 : Nat) : Int) from by omega) ?_
                    refine ok.letE (v1 := (Zu74.1 28 (ix x31))) rfl ?_
                    refine ok.ck (show 0 ≤ x30.toInt ∧ x30.toInt < ((7745 : Nat) : Int) from by omega) ?_
                    refine ok.wI (L := [5600]) hIu74 (show True from trivial) (show (5600 : Nat) ∈ [5600] from by decide) (by decide) (fun Z80 hIZ80 hFZ80 hkZ80 hoZ80 => ?_)
                    refine ok.ite (fun c81 => ?_) (fun c81 => ?_)
                    · skip
                      have g82 := i32_le a_9u74
                      refine ok.add (show _ ≤ a_4u74.toInt + a_10u74.toInt ∧ a_4u74.toInt + a_10u74.toInt ≤ _ from by omega) (fun x35 hx35 => ?_)
                      have hx35 : x35.toInt = a_4u74.toInt + a_10u74.toInt := hx35
                      refine ok.ck (show 0 ≤ x35.toInt ∧ x35.toInt < ((7745 : Nat) : Int) from by omega) ?_
                      refine ok.letE (v1 := (Z80.1 28 (ix x35))) rfl ?_
                      refine ok.bd (v_Kinds_hasAny_25 hIZ80) ?_
                      rintro x37 _ rfl
                      refine ok.ite (fun c84 => ?_) (fun c84 => ?_)
                      · skip
                        have g85 := i32_le x37
                        unfold g_Kinds_findOrAdd_221
                        refine ok.inc (by decide) (show _ ≤ a_10u74.toInt + (1) ∧ a_10u74.toInt + (1) ≤ _ from by omega) (fun x34 hx34 => ?_)
                        have hx34 : x34.toInt = a_10u74.toInt + (1) := hx34
                        exact ih_u74 a_2u74 a_4u74 a_7u74 a_8u74 (0 : Int32) x34 Z80 hIZ80 ((Fr.rf.tr hFu74 (fun _ q => q)).tr hFZ80 (by decide)) (show 0 ≤ a_2u74.toInt ∧ a_2u74.toInt ≤ 4 from by omega) (show 0 ≤ a_4u74.toInt ∧ a_4u74.toInt + a_2u74.toInt ≤ 7745 from by omega) (show 0 ≤ a_7u74.toInt ∧ a_7u74.toInt ≤ 511 from by omega) (show 0 ≤ a_8u74.toInt ∧ a_8u74.toInt ≤ 1548 from by omega) (show 0 ≤ x34.toInt ∧ x34.toInt ≤ 5 from by omega) (show (5 - x34.toInt).toNat < _ from by omega)
                      · skip
                        unfold g_Kinds_findOrAdd_216
                        unfold g_Kinds_findOrAdd_221
                        refine ok.inc (by decide) (show _ ≤ a_10u74.toInt + (1) ∧ a_10u74.toInt + (1) ≤ _ from by omega) (fun x34 hx34 => ?_)
                        have hx34 : x34.toInt = a_10u74.toInt + (1) := hx34
                        exact ih_u74 a_2u74 a_4u74 a_7u74 a_8u74 (1 : Int32) x34 Z80 hIZ80 ((Fr.rf.tr hFu74 (fun _ q => q)).tr hFZ80 (by decide)) (show 0 ≤ a_2u74.toInt ∧ a_2u74.toInt ≤ 4 from by omega) (show 0 ≤ a_4u74.toInt ∧ a_4u74.toInt + a_2u74.toInt ≤ 7745 from by omega) (show 0 ≤ a_7u74.toInt ∧ a_7u74.toInt ≤ 511 from by omega) (show 0 ≤ a_8u74.toInt ∧ a_8u74.toInt ≤ 1548 from by omega) (show 0 ≤ x34.toInt ∧ x34.toInt ≤ 5 from by omega) (show (5 - x34.toInt).toNat < _ from by omega)
                    · skip
                      unfold g_Kinds_findOrAdd_216
                      unfold g_Kinds_findOrAdd_221
                      refine ok.inc (by decide) (show _ ≤ a_10u74.toInt + (1) ∧ a_10u74.toInt + (1) ≤ _ from by omega) (fun x34 hx34 => ?_)
                      have hx34 : x34.toInt = a_10u74.toInt + (1) := hx34
                      exact ih_u74 a_2u74 a_4u74 a_7u74 a_8u74 (1 : Int32) x34 Z80 hIZ80 ((Fr.rf.tr hFu74 (fun _ q => q)).tr hFZ80 (by decide)) (show 0 ≤ a_2u74.toInt ∧ a_2u74.toInt ≤ 4 from by omega) (show 0 ≤ a_4u74.toInt ∧ a_4u74.toInt + a_2u74.toInt ≤ 7745 from by omega) (show 0 ≤ a_7u74.toInt ∧ a_7u74.toInt ≤ 511 from by omega) (show 0 ≤ a_8u74.toInt ∧ a_8u74.toInt ≤ 1548 from by omega) (show 0 ≤ x34.toInt ∧ x34.toInt ≤ 5 from by omega) (show (5 - x34.toInt).toNat < _ from by omega)
              exact lpu74 BIG a_2u3 a_4u3 a_7u3 (Zu3.1 25 0) (1 : Int32) (0 : Int32) Z72 hIZ72 ((((((Fr.rf.tr hFu3 (fun _ q => q)).tr hFZ68 (by decide)).tr hFZ69 (by decide)).tr hFZ70 (by decide)).tr hFZ71 (by decide)).tr hFZ72 (by decide)) (show 0 ≤ a_2u3.toInt ∧ a_2u3.toInt ≤ 4 from by omega) (show 0 ≤ a_4u3.toInt ∧ a_4u3.toInt + a_2u3.toInt ≤ 7745 from by omega) (show 0 ≤ a_7u3.toInt ∧ a_7u3.toInt ≤ 511 from by omega) (show 0 ≤ (Zu3.1 25 0).toInt ∧ (Zu3.1 25 0).toInt ≤ 1548 from by omega) (show 0 ≤ (0 : Int) ∧ (0 : Int) ≤ 5 from by omega) (show (5 - (0 : Int)).toNat < BIG from ltBIG (show _ < 100000 from by omega))
            · skip
              refine ok.ite (fun c86 => ?_) (fun c86 => ?_)
              · skip
                unfold g_Kinds_findOrAdd_166
                unfold g_Kinds_findOrAdd_167
                have lpu87 : ∀ (n : Nat), ∀ (a_2u87 : Int32) (a_4u87 : Int32) (a_7u87 : Int32) (a_8u87 : Int32) (a_9u87 : Int32) (a_10u87 : Int32) (Zu87 : St), INV Zu87 → Fr YC Qv30 X Zu87 → (0 ≤ a_2u87.toInt ∧ a_2u87.toInt ≤ 4) → (0 ≤ a_4u87.toInt ∧ a_4u87.toInt + a_2u87.toInt ≤ 7745) → (0 ≤ a_7u87.toInt ∧ a_7u87.toInt ≤ 511) → (0 ≤ a_8u87.toInt ∧ a_8u87.toInt ≤ 1548) → (0 ≤ a_10u87.toInt ∧ a_10u87.toInt ≤ 5) → (5 - a_10u87.toInt).toNat < n → ok (g_Kinds_findOrAdd_172 n 25 a_2u87 28 a_4u87 a_7u87 a_8u87 a_9u87 a_10u87 Zu87) (fun r Y => (Fr YC Qv30 X Y ∧ INV Y)) := by
                  intro n
                  unfold g_Kinds_findOrAdd_172
                  refine lp_indN (P := fun (n : Nat) (r_u87 : Nat → Int32 → Nat → Int32 → Int32 → Int32 → Int32 → Int32 → St → Option (Int32 × St)) => ∀ (a_2u87 : Int32) (a_4u87 : Int32) (a_7u87 : Int32) (a_8u87 : Int32) (a_9u87 : Int32) (a_10u87 : Int32) (Zu87 : St), INV Zu87 → Fr YC Qv30 X Zu87 → (0 ≤ a_2u87.toInt ∧ a_2u87.toInt ≤ 4) → (0 ≤ a_4u87.toInt ∧ a_4u87.toInt + a_2u87.toInt ≤ 7745) → (0 ≤ a_7u87.toInt ∧ a_7u87.toInt ≤ 511) → (0 ≤ a_8u87.toInt ∧ a_8u87.toInt ≤ 1548) → (0 ≤ a_10u87.toInt ∧ a_10u87.toInt ≤ 5) → (5 - a_10u87.toInt).toNat < n → ok (r_u87 25 a_2u87 28 a_4u87 a_7u87 a_8u87 a_9u87 a_10u87 Zu87) (fun r Y => (Fr YC Qv30 X Y ∧ INV Y))) ?_ ?_ n
                  · intro a_2u87 a_4u87 a_7u87 a_8u87 a_9u87 a_10u87 Zu87 hIu87 hFu87 u87_0 u87_1 u87_2 u87_3 u87_4  hm; exact absurd hm (Nat.not_lt_zero _)
                  · intro n r_u87 ih_u87 a_2u87 a_4u87 a_7u87 a_8u87 a_9u87 a_10u87 Zu87 hIu87 hFu87 u87_0 u87_1 u87_2 u87_3 u87_4  hmu87
                    unfold g_Kinds_findOrAdd_172_s
                    refine ok.ite (fun c88 => ?_) (fun c88 => ?_)
                    · skip
                      refine ok.letE (v1 := 30) (by decide) ?_
                      refine ok.ck (show 0 ≤ a_8u87.toInt ∧ a_8u87.toInt < ((1549 : Nat) : Int) from by omega) ?_
                      refine ok.wI (L := [6000]) hIu87 (show True from trivial) (show (6000 : Nat) ∈ [6000] from by decide) (by decide) (fun Z89 hIZ89 hFZ89 hkZ89 hoZ89 => ?_)
                      refine ok.letE (v1 := 32) (by decide) ?_
                      refine ok.letE (v1 := 31) (by decide) ?_
                      refine ok.ck (show 0 ≤ a_7u87.toInt ∧ a_7u87.toInt < ((512 : Nat) : Int) from by omega) ?_
                      refine ok.letE (v1 := (Zu87.1 31 (ix a_7u87))) (hFZ89.1 31 (ix a_7u87) (show (6200 : Nat) ∉ [6000] from by decide)) ?_
                      have g90 : -1 ≤ (Zu87.1 31 (ix a_7u87)).toInt ∧ (Zu87.1 31 (ix a_7u87)).toInt ≤ 1548 := hIu87.1 31 (ix a_7u87)
                      refine ok.ck (show 0 ≤ a_8u87.toInt ∧ a_8u87.toInt < ((1549 : Nat) : Int) from by omega) ?_
                      refine ok.wI (L := [6400]) hIZ89 (show -1 ≤ (Zu87.1 31 (ix a_7u87)).toInt ∧ (Zu87.1 31 (ix a_7u87)).toInt ≤ 1548 from by omega) (show (6400 : Nat) ∈ [6400] from by decide) (by decide) (fun Z91 hIZ91 hFZ91 hkZ91 hoZ91 => ?_)
                      refine ok.letE (v1 := 31) (by decide) ?_
                      refine ok.ck (show 0 ≤ a_7u87.toInt ∧ a_7u87.toInt < ((512 : Nat) : Int) from by omega) ?_
                      refine ok.wI (L := [6200]) hIZ91 (show -1 ≤ a_8u87.toInt ∧ a_8u87.toInt ≤ 1548 from by omega) (show (6200 : Nat) ∈ [6200] from by decide) (by decide) (fun Z92 hIZ92 hFZ92 hkZ92 hoZ92 => ?_)
                      exact ok.ret ⟨((((Fr.rf.tr hFu87 (fun _ q => q)).tr hFZ89 (by decide)).tr hFZ91 (by decide)).tr hFZ92 (by decide)), hIZ92⟩
                    · skip
                      refine ok.letE (v1 := 28) (by decide) ?_
                      refine ok.mul (show _ ≤ a_8u87.toInt * (5 : Int) ∧ a_8u87.toInt * (5 : Int) ≤ _ from by omega) (fun x29 hx29 => ?_)
                      have hx29 : x29.toInt = a_8u87.toInt * (5 : Int) := hx29
                      refine ok.add (show _ ≤ x29.toInt + a_10u87.toInt ∧ x29.toInt + a_10u87.toInt ≤ _ from by omega) (fun x30 hx30 => ?_)
                      have hx30 : x30.toInt = x29.toInt + a_10u87.toInt := hx30
                      refine ok.add (show _ ≤ a_4u87.toInt + a_10u87.toInt ∧ a_4u87.toInt + a_10u87.toInt ≤ _ from by omega) (fun x31 hx31 => ?_)
                      have hx31 : x31.toInt = a_4u87.toInt + a_10u87.toInt := hx31
                      refine ok.ck (show 0 ≤ x31.toInt ∧ x31.toInt < ((7745 : Nat) : Int) from by omega) ?_
                      refine ok.letE (v1 := (Zu87.1 28 (ix x31))) rfl ?_
                      refine ok.ck (show 0 ≤ x30.toInt ∧ x30.toInt < ((7745 : Nat) : Int) from by omega) ?_
                      refine ok.wI (L := [5600]) hIu87 (show True from trivial) (show (5600 : Nat) ∈ [5600] from by decide) (by decide) (fun Z93 hIZ93 hFZ93 hkZ93 hoZ93 => ?_)
                      refine ok.ite (fun c94 => ?_) (fun c94 => ?_)
                      · skip
                        have g95 := i32_le a_9u87
                        refine ok.add (show _ ≤ a_4u87.toInt + a_10u87.toInt ∧ a_4u87.toInt + a_10u87.toInt ≤ _ from by omega) (fun x35 hx35 => ?_)
                        have hx35 : x35.toInt = a_4u87.toInt + a_10u87.toInt := hx35
                        refine ok.ck (show 0 ≤ x35.toInt ∧ x35.toInt < ((7745 : Nat) : Int) from by omega) ?_
                        refine ok.letE (v1 := (Z93.1 28 (ix x35))) rfl ?_
                        refine ok.bd (v_Kinds_hasAny_25 hIZ93) ?_
                        rintro x37 _ rfl
                        refine ok.ite (fun c97 => ?_) (fun c97 => ?_)
                        · skip
                          have g98 := i32_le x37
                          unfold g_Kinds_findOrAdd_221
                          refine ok.inc (by decide) (show _ ≤ a_10u87.toInt + (1) ∧ a_10u87.toInt + (1) ≤ _ from by omega) (fun x34 hx34 => ?_)
                          have hx34 : x34.toInt = a_10u87.toInt + (1) := hx34
                          exact ih_u87 a_2u87 a_4u87 a_7u87 a_8u87 (0 : Int32) x34 Z93 hIZ93 ((Fr.rf.tr hFu87 (fun _ q => q)).tr hFZ93 (by decide)) (show 0 ≤ a_2u87.toInt ∧ a_2u87.toInt ≤ 4 from by omega) (show 0 ≤ a_4u87.toInt ∧ a_4u87.toInt + a_2u87.toInt ≤ 7745 from by omega) (show 0 ≤ a_7u87.toInt ∧ a_7u87.toInt ≤ 511 from by omega) (show 0 ≤ a_8u87.toInt ∧ a_8u87.toInt ≤ 1548 from by omega) (show 0 ≤ x34.toInt ∧ x34.toInt ≤ 5 from by omega) (show (5 - x34.toInt).toNat < _ from by omega)
                        · skip
                          unfold g_Kinds_findOrAdd_216
                          unfold g_Kinds_findOrAdd_221
                          refine ok.inc (by decide) (show _ ≤ a_10u87.toInt + (1) ∧ a_10u87.toInt + (1) ≤ _ from by omega) (fun x34 hx34 => ?_)
                          have hx34 : x34.toInt = a_10u87.toInt + (1) := hx34
                          exact ih_u87 a_2u87 a_4u87 a_7u87 a_8u87 (1 : Int32) x34 Z93 hIZ93 ((Fr.rf.tr hFu87 (fun _ q => q)).tr hFZ93 (by decide)) (show 0 ≤ a_2u87.toInt ∧ a_2u87.toInt ≤ 4 from by omega) (show 0 ≤ a_4u87.toInt ∧ a_4u87.toInt + a_2u87.toInt ≤ 7745 from by omega) (show 0 ≤ a_7u87.toInt ∧ a_7u87.toInt ≤ 511 from by omega) (show 0 ≤ a_8u87.toInt ∧ a_8u87.toInt ≤ 1548 from by omega) (show 0 ≤ x34.toInt ∧ x34.toInt ≤ 5 from by omega) (show (5 - x34.toInt).toNat < _ from by omega)
                      · skip
                        unfold g_Kinds_findOrAdd_216
                        unfold g_Kinds_findOrAdd_221
                        refine ok.inc (by decide) (show _ ≤ a_10u87.toInt + (1) ∧ a_10u87.toInt + (1) ≤ _ from by omega) (fun x34 hx34 => ?_)
                        have hx34 : x34.toInt = a_10u87.toInt + (1) := hx34
                        exact ih_u87 a_2u87 a_4u87 a_7u87 a_8u87 (1 : Int32) x34 Z93 hIZ93 ((Fr.rf.tr hFu87 (fun _ q => q)).tr hFZ93 (by decide)) (show 0 ≤ a_2u87.toInt ∧ a_2u87.toInt ≤ 4 from by omega) (show 0 ≤ a_4u87.toInt ∧ a_4u87.toInt + a_2u87.toInt ≤ 7745 from by omega) (show 0 ≤ a_7u87.toInt ∧ a_7u87.toInt ≤ 511 from by omega) (show 0 ≤ a_8u87.toInt ∧ a_8u87.toInt ≤ 1548 from by omega) (show 0 ≤ x34.toInt ∧ x34.toInt ≤ 5 from by omega) (show (5 - x34.toInt).toNat < _ from by omega)
                exact lpu87 BIG a_2u3 a_4u3 a_7u3 (Zu3.1 25 0) (0 : Int32) (0 : Int32) Z72 hIZ72 ((((((Fr.rf.tr hFu3 (fun _ q => q)).tr hFZ68 (by decide)).tr hFZ69 (by decide)).tr hFZ70 (by decide)).tr hFZ71 (by decide)).tr hFZ72 (by decide)) (show 0 ≤ a_2u3.toInt ∧ a_2u3.toInt ≤ 4 from by omega) (show 0 ≤ a_4u3.toInt ∧ a_4u3.toInt + a_2u3.toInt ≤ 7745 from by omega) (show 0 ≤ a_7u3.toInt ∧ a_7u3.toInt ≤ 511 from by omega) (show 0 ≤ (Zu3.1 25 0).toInt ∧ (Zu3.1 25 0).toInt ≤ 1548 from by omega) (show 0 ≤ (0 : Int) ∧ (0 : Int) ≤ 5 from by omega) (show (5 - (0 : Int)).toNat < BIG from ltBIG (show _ < 100000 from by omega))
              · skip
                refine ok.bd (v_Kinds_hasAny_25 hIZ72) ?_
                rintro x39 _ rfl
                refine ok.ite (fun c100 => ?_) (fun c100 => ?_)
                · skip
                  have g101 := i32_le x39
                  unfold g_Kinds_findOrAdd_166
                  unfold g_Kinds_findOrAdd_167
                  have lpu102 : ∀ (n : Nat), ∀ (a_2u102 : Int32) (a_4u102 : Int32) (a_7u102 : Int32) (a_8u102 : Int32) (a_9u102 : Int32) (a_10u102 : Int32) (Zu102 : St), INV Zu102 → Fr YC Qv30 X Zu102 → (0 ≤ a_2u102.toInt ∧ a_2u102.toInt ≤ 4) → (0 ≤ a_4u102.toInt ∧ a_4u102.toInt + a_2u102.toInt ≤ 7745) → (0 ≤ a_7u102.toInt ∧ a_7u102.toInt ≤ 511) → (0 ≤ a_8u102.toInt ∧ a_8u102.toInt ≤ 1548) → (0 ≤ a_10u102.toInt ∧ a_10u102.toInt ≤ 5) → (5 - a_10u102.toInt).toNat < n → ok (g_Kinds_findOrAdd_172 n 25 a_2u102 28 a_4u102 a_7u102 a_8u102 a_9u102 a_10u102 Zu102) (fun r Y => (Fr YC Qv30 X Y ∧ INV Y)) := by
                    intro n
                    unfold g_Kinds_findOrAdd_172
                    refine lp_indN (P := fun (n : Nat) (r_u102 : Nat → Int32 → Nat → Int32 → Int32 → Int32 → Int32 → Int32 → St → Option (Int32 × St)) => ∀ (a_2u102 : Int32) (a_4u102 : Int32) (a_7u102 : Int32) (a_8u102 : Int32) (a_9u102 : Int32) (a_10u102 : Int32) (Zu102 : St), INV Zu102 → Fr YC Qv30 X Zu102 → (0 ≤ a_2u102.toInt ∧ a_2u102.toInt ≤ 4) → (0 ≤ a_4u102.toInt ∧ a_4u102.toInt + a_2u102.toInt ≤ 7745) → (0 ≤ a_7u102.toInt ∧ a_7u102.toInt ≤ 511) → (0 ≤ a_8u102.toInt ∧ a_8u102.toInt ≤ 1548) → (0 ≤ a_10u102.toInt ∧ a_10u102.toInt ≤ 5) → (5 - a_10u102.toInt).toNat < n → ok (r_u102 25 a_2u102 28 a_4u102 a_7u102 a_8u102 a_9u102 a_10u102 Zu102) (fun r Y => (Fr YC Qv30 X Y ∧ INV Y))) ?_ ?_ n
                    · intro a_2u102 a_4u102 a_7u102 a_8u102 a_9u102 a_10u102 Zu102 hIu102 hFu102 u102_0 u102_1 u102_2 u102_3 u102_4  hm; exact absurd hm (Nat.not_lt_zero _)
                    · intro n r_u102 ih_u102 a_2u102 a_4u102 a_7u102 a_8u102 a_9u102 a_10u102 Zu102 hIu102 hFu102 u102_0 u102_1 u102_2 u102_3 u102_4  hmu102
                      unfold g_Kinds_findOrAdd_172_s
                      refine ok.ite (fun c103 => ?_) (fun c103 => ?_)
                      · skip
                        refine ok.letE (v1 := 30) (by decide) ?_
                        refine ok.ck (show 0 ≤ a_8u102.toInt ∧ a_8u102.toInt < ((1549 : Nat) : Int) from by omega) ?_
                        refine ok.wI (L := [6000]) hIu102 (show True from trivial) (show (6000 : Nat) ∈ [6000] from by decide) (by decide) (fun Z104 hIZ104 hFZ104 hkZ104 hoZ104 => ?_)
                        refine ok.letE (v1 := 32) (by decide) ?_
                        refine ok.letE (v1 := 31) (by decide) ?_
                        refine ok.ck (show 0 ≤ a_7u102.toInt ∧ a_7u102.toInt < ((512 : Nat) : Int) from by omega) ?_
                        refine ok.letE (v1 := (Zu102.1 31 (ix a_7u102))) (hFZ104.1 31 (ix a_7u102) (show (6200 : Nat) ∉ [6000] from by decide)) ?_
                        have g105 : -1 ≤ (Zu102.1 31 (ix a_7u102)).toInt ∧ (Zu102.1 31 (ix a_7u102)).toInt ≤ 1548 := hIu102.1 31 (ix a_7u102)
                        refine ok.ck (show 0 ≤ a_8u102.toInt ∧ a_8u102.toInt < ((1549 : Nat) : Int) from by omega) ?_
                        refine ok.wI (L := [6400]) hIZ104 (show -1 ≤ (Zu102.1 31 (ix a_7u102)).toInt ∧ (Zu102.1 31 (ix a_7u102)).toInt ≤ 1548 from by omega) (show (6400 : Nat) ∈ [6400] from by decide) (by decide) (fun Z106 hIZ106 hFZ106 hkZ106 hoZ106 => ?_)
                        refine ok.letE (v1 := 31) (by decide) ?_
                        refine ok.ck (show 0 ≤ a_7u102.toInt ∧ a_7u102.toInt < ((512 : Nat) : Int) from by omega) ?_
                        refine ok.wI (L := [6200]) hIZ106 (show -1 ≤ a_8u102.toInt ∧ a_8u102.toInt ≤ 1548 from by omega) (show (6200 : Nat) ∈ [6200] from by decide) (by decide) (fun Z107 hIZ107 hFZ107 hkZ107 hoZ107 => ?_)
                        exact ok.ret ⟨((((Fr.rf.tr hFu102 (fun _ q => q)).tr hFZ104 (by decide)).tr hFZ106 (by decide)).tr hFZ107 (by decide)), hIZ107⟩
                      · skip
                        refine ok.letE (v1 := 28) (by decide) ?_
                        refine ok.mul (show _ ≤ a_8u102.toInt * (5 : Int) ∧ a_8u102.toInt * (5 : Int) ≤ _ from by omega) (fun x29 hx29 => ?_)
                        have hx29 : x29.toInt = a_8u102.toInt * (5 : Int) := hx29
                        refine ok.add (show _ ≤ x29.toInt + a_10u102.toInt ∧ x29.toInt + a_10u102.toInt ≤ _ from by omega) (fun x30 hx30 => ?_)
                        have hx30 : x30.toInt = x29.toInt + a_10u102.toInt := hx30
                        refine ok.add (show _ ≤ a_4u102.toInt + a_10u102.toInt ∧ a_4u102.toInt + a_10u102.toInt ≤ _ from by omega) (fun x31 hx31 => ?_)
                        have hx31 : x31.toInt = a_4u102.toInt + a_10u102.toInt := hx31
                        refine ok.ck (show 0 ≤ x31.toInt ∧ x31.toInt < ((7745 : Nat) : Int) from by omega) ?_
                        refine ok.letE (v1 := (Zu102.1 28 (ix x31))) rfl ?_
                        refine ok.ck (show 0 ≤ x30.toInt ∧ x30.toInt < ((7745 : Nat) : Int) from by omega) ?_
                        refine ok.wI (L := [5600]) hIu102 (show True from trivial) (show (5600 : Nat) ∈ [5600] from by decide) (by decide) (fun Z108 hIZ108 hFZ108 hkZ108 hoZ108 => ?_)
                        refine ok.ite (fun c109 => ?_) (fun c109 => ?_)
                        · skip
                          have g110 := i32_le a_9u102
                          refine ok.add (show _ ≤ a_4u102.toInt + a_10u102.toInt ∧ a_4u102.toInt + a_10u102.toInt ≤ _ from by omega) (fun x35 hx35 => ?_)
                          have hx35 : x35.toInt = a_4u102.toInt + a_10u102.toInt := hx35
                          refine ok.ck (show 0 ≤ x35.toInt ∧ x35.toInt < ((7745 : Nat) : Int) from by omega) ?_
                          refine ok.letE (v1 := (Z108.1 28 (ix x35))) rfl ?_
                          refine ok.bd (v_Kinds_hasAny_25 hIZ108) ?_
                          rintro x37 _ rfl
                          refine ok.ite (fun c112 => ?_) (fun c112 => ?_)
                          · skip
                            have g113 := i32_le x37
                            unfold g_Kinds_findOrAdd_221
                            refine ok.inc (by decide) (show _ ≤ a_10u102.toInt + (1) ∧ a_10u102.toInt + (1) ≤ _ from by omega) (fun x34 hx34 => ?_)
                            have hx34 : x34.toInt = a_10u102.toInt + (1) := hx34
                            exact ih_u102 a_2u102 a_4u102 a_7u102 a_8u102 (0 : Int32) x34 Z108 hIZ108 ((Fr.rf.tr hFu102 (fun _ q => q)).tr hFZ108 (by decide)) (show 0 ≤ a_2u102.toInt ∧ a_2u102.toInt ≤ 4 from by omega) (show 0 ≤ a_4u102.toInt ∧ a_4u102.toInt + a_2u102.toInt ≤ 7745 from by omega) (show 0 ≤ a_7u102.toInt ∧ a_7u102.toInt ≤ 511 from by omega) (show 0 ≤ a_8u102.toInt ∧ a_8u102.toInt ≤ 1548 from by omega) (show 0 ≤ x34.toInt ∧ x34.toInt ≤ 5 from by omega) (show (5 - x34.toInt).toNat < _ from by omega)
                          · skip
                            unfold g_Kinds_findOrAdd_216
                            unfold g_Kinds_findOrAdd_221
                            refine ok.inc (by decide) (show _ ≤ a_10u102.toInt + (1) ∧ a_10u102.toInt + (1) ≤ _ from by omega) (fun x34 hx34 => ?_)
                            have hx34 : x34.toInt = a_10u102.toInt + (1) := hx34
                            exact ih_u102 a_2u102 a_4u102 a_7u102 a_8u102 (1 : Int32) x34 Z108 hIZ108 ((Fr.rf.tr hFu102 (fun _ q => q)).tr hFZ108 (by decide)) (show 0 ≤ a_2u102.toInt ∧ a_2u102.toInt ≤ 4 from by omega) (show 0 ≤ a_4u102.toInt ∧ a_4u102.toInt + a_2u102.toInt ≤ 7745 from by omega) (show 0 ≤ a_7u102.toInt ∧ a_7u102.toInt ≤ 511 from by omega) (show 0 ≤ a_8u102.toInt ∧ a_8u102.toInt ≤ 1548 from by omega) (show 0 ≤ x34.toInt ∧ x34.toInt ≤ 5 from by omega) (show (5 - x34.toInt).toNat < _ from by omega)
                        · skip
                          unfold g_Kinds_findOrAdd_216
                          unfold g_Kinds_findOrAdd_221
                          refine ok.inc (by decide) (show _ ≤ a_10u102.toInt + (1) ∧ a_10u102.toInt + (1) ≤ _ from by omega) (fun x34 hx34 => ?_)
                          have hx34 : x34.toInt = a_10u102.toInt + (1) := hx34
                          exact ih_u102 a_2u102 a_4u102 a_7u102 a_8u102 (1 : Int32) x34 Z108 hIZ108 ((Fr.rf.tr hFu102 (fun _ q => q)).tr hFZ108 (by decide)) (show 0 ≤ a_2u102.toInt ∧ a_2u102.toInt ≤ 4 from by omega) (show 0 ≤ a_4u102.toInt ∧ a_4u102.toInt + a_2u102.toInt ≤ 7745 from by omega) (show 0 ≤ a_7u102.toInt ∧ a_7u102.toInt ≤ 511 from by omega) (show 0 ≤ a_8u102.toInt ∧ a_8u102.toInt ≤ 1548 from by omega) (show 0 ≤ x34.toInt ∧ x34.toInt ≤ 5 from by omega) (show (5 - x34.toInt).toNat < _ from by omega)
                  exact lpu102 BIG a_2u3 a_4u3 a_7u3 (Zu3.1 25 0) (0 : Int32) (0 : Int32) Z72 hIZ72 ((((((Fr.rf.tr hFu3 (fun _ q => q)).tr hFZ68 (by decide)).tr hFZ69 (by decide)).tr hFZ70 (by decide)).tr hFZ71 (by decide)).tr hFZ72 (by decide)) (show 0 ≤ a_2u3.toInt ∧ a_2u3.toInt ≤ 4 from by omega) (show 0 ≤ a_4u3.toInt ∧ a_4u3.toInt + a_2u3.toInt ≤ 7745 from by omega) (show 0 ≤ a_7u3.toInt ∧ a_7u3.toInt ≤ 511 from by omega) (show 0 ≤ (Zu3.1 25 0).toInt ∧ (Zu3.1 25 0).toInt ≤ 1548 from by omega) (show 0 ≤ (0 : Int) ∧ (0 : Int) ≤ 5 from by omega) (show (5 - (0 : Int)).toNat < BIG from ltBIG (show _ < 100000 from by omega))
                · skip
                  unfold g_Kinds_findOrAdd_162
                  unfold g_Kinds_findOrAdd_167
                  have lpu114 : ∀ (n : Nat), ∀ (a_2u114 : Int32) (a_4u114 : Int32) (a_7u114 : Int32) (a_8u114 : Int32) (a_9u114 : Int32) (a_10u114 : Int32) (Zu114 : St), INV Zu114 → Fr YC Qv30 X Zu114 → (0 ≤ a_2u114.toInt ∧ a_2u114.toInt ≤ 4) → (0 ≤ a_4u114.toInt ∧ a_4u114.toInt + a_2u114.toInt ≤ 7745) → (0 ≤ a_7u114.toInt ∧ a_7u114.toInt ≤ 511) → (0 ≤ a_8u114.toInt ∧ a_8u114.toInt ≤ 1548) → (0 ≤ a_10u114.toInt ∧ a_10u114.toInt ≤ 5) → (5 - a_10u114.toInt).toNat < n → ok (g_Kinds_findOrAdd_172 n 25 a_2u114 28 a_4u114 a_7u114 a_8u114 a_9u114 a_10u114 Zu114) (fun r Y => (Fr YC Qv30 X Y ∧ INV Y)) := by
                    intro n
                    unfold g_Kinds_findOrAdd_172
                    refine lp_indN (P := fun (n : Nat) (r_u114 : Nat → Int32 → Nat → Int32 → Int32 → Int32 → Int32 → Int32 → St → Option (Int32 × St)) => ∀ (a_2u114 : Int32) (a_4u114 : Int32) (a_7u114 : Int32) (a_8u114 : Int32) (a_9u114 : Int32) (a_10u114 : Int32) (Zu114 : St), INV Zu114 → Fr YC Qv30 X Zu114 → (0 ≤ a_2u114.toInt ∧ a_2u114.toInt ≤ 4) → (0 ≤ a_4u114.toInt ∧ a_4u114.toInt + a_2u114.toInt ≤ 7745) → (0 ≤ a_7u114.toInt ∧ a_7u114.toInt ≤ 511) → (0 ≤ a_8u114.toInt ∧ a_8u114.toInt ≤ 1548) → (0 ≤ a_10u114.toInt ∧ a_10u114.toInt ≤ 5) → (5 - a_10u114.toInt).toNat < n → ok (r_u114 25 a_2u114 28 a_4u114 a_7u114 a_8u114 a_9u114 a_10u114 Zu114) (fun r Y => (Fr YC Qv30 X Y ∧ INV Y))) ?_ ?_ n
                    · intro a_2u114 a_4u114 a_7u114 a_8u114 a_9u114 a_10u114 Zu114 hIu114 hFu114 u114_0 u114_1 u114_2 u114_3 u114_4  hm; exact absurd hm (Nat.not_lt_zero _)
                    · intro n r_u114 ih_u114 a_2u114 a_4u114 a_7u114 a_8u114 a_9u114 a_10u114 Zu114 hIu114 hFu114 u114_0 u114_1 u114_2 u114_3 u114_4  hmu114
                      unfold g_Kinds_findOrAdd_172_s
                      refine ok.ite (fun c115 => ?_) (fun c115 => ?_)
                      · skip
                        refine ok.letE (v1 := 30) (by decide) ?_
                        refine ok.ck (show 0 ≤ a_8u114.toInt ∧ a_8u114.toInt < ((1549 : Nat) : Int) from by omega) ?_
                        refine ok.wI (L := [6000]) hIu114 (show True from trivial) (show (6000 : Nat) ∈ [6000] from by decide) (by decide) (fun Z116 hIZ116 hFZ116 hkZ116 hoZ116 => ?_)
                        refine ok.letE (v1 := 32) (by decide) ?_
                        refine ok.letE (v1 := 31) (by decide) ?_
                        refine ok.ck (show 0 ≤ a_7u114.toInt ∧ a_7u114.toInt < ((512 : Nat) : Int) from by omega) ?_
                        refine ok.letE (v1 := (Zu114.1 31 (ix a_7u114))) (hFZ116.1 31 (ix a_7u114) (show (6200 : Nat) ∉ [6000] from by decide)) ?_
                        have g117 : -1 ≤ (Zu114.1 31 (ix a_7u114)).toInt ∧ (Zu114.1 31 (ix a_7u114)).toInt ≤ 1548 := hIu114.1 31 (ix a_7u114)
                        refine ok.ck (show 0 ≤ a_8u114.toInt ∧ a_8u114.toInt < ((1549 : Nat) : Int) from by omega) ?_
                        refine ok.wI (L := [6400]) hIZ116 (show -1 ≤ (Zu114.1 31 (ix a_7u114)).toInt ∧ (Zu114.1 31 (ix a_7u114)).toInt ≤ 1548 from by omega) (show (6400 : Nat) ∈ [6400] from by decide) (by decide) (fun Z118 hIZ118 hFZ118 hkZ118 hoZ118 => ?_)
                        refine ok.letE (v1 := 31) (by decide) ?_
                        refine ok.ck (show 0 ≤ a_7u114.toInt ∧ a_7u114.toInt < ((512 : Nat) : Int) from by omega) ?_
                        refine ok.wI (L := [6200]) hIZ118 (show -1 ≤ a_8u114.toInt ∧ a_8u114.toInt ≤ 1548 from by omega) (show (6200 : Nat) ∈ [6200] from by decide) (by decide) (fun Z119 hIZ119 hFZ119 hkZ119 hoZ119 => ?_)
                        exact ok.ret ⟨((((Fr.rf.tr hFu114 (fun _ q => q)).tr hFZ116 (by decide)).tr hFZ118 (by decide)).tr hFZ119 (by decide)), hIZ119⟩
                      · skip
                        refine ok.letE (v1 := 28) (by decide) ?_
                        refine ok.mul (show _ ≤ a_8u114.toInt * (5 : Int) ∧ a_8u114.toInt * (5 : Int) ≤ _ from by omega) (fun x29 hx29 => ?_)
                        have hx29 : x29.toInt = a_8u114.toInt * (5 : Int) := hx29
                        refine ok.add (show _ ≤ x29.toInt + a_10u114.toInt ∧ x29.toInt + a_10u114.toInt ≤ _ from by omega) (fun x30 hx30 => ?_)
                        have hx30 : x30.toInt = x29.toInt + a_10u114.toInt := hx30
                        refine ok.add (show _ ≤ a_4u114.toInt + a_10u114.toInt ∧ a_4u114.toInt + a_10u114.toInt ≤ _ from by omega) (fun x31 hx31 => ?_)
                        have hx31 : x31.toInt = a_4u114.toInt + a_10u114.toInt := hx31
                        refine ok.ck (show 0 ≤ x31.toInt ∧ x31.toInt < ((7745 : Nat) : Int) from by omega) ?_
                        refine ok.letE (v1 := (Zu114.1 28 (ix x31))) rfl ?_
                        refine ok.ck (show 0 ≤ x30.toInt ∧ x30.toInt < ((7745 : Nat) : Int) from by omega) ?_
                        refine ok.wI (L := [5600]) hIu114 (show True from trivial) (show (5600 : Nat) ∈ [5600] from by decide) (by decide) (fun Z120 hIZ120 hFZ120 hkZ120 hoZ120 => ?_)
                        refine ok.ite (fun c121 => ?_) (fun c121 => ?_)
                        · skip
                          have g122 := i32_le a_9u114
                          refine ok.add (show _ ≤ a_4u114.toInt + a_10u114.toInt ∧ a_4u114.toInt + a_10u114.toInt ≤ _ from by omega) (fun x35 hx35 => ?_)
                          have hx35 : x35.toInt = a_4u114.toInt + a_10u114.toInt := hx35
                          refine ok.ck (show 0 ≤ x35.toInt ∧ x35.toInt < ((7745 : Nat) : Int) from by omega) ?_
                          refine ok.letE (v1 := (Z120.1 28 (ix x35))) rfl ?_
                          refine ok.bd (v_Kinds_hasAny_25 hIZ120) ?_
                          rintro x37 _ rfl
                          refine ok.ite (fun c124 => ?_) (fun c124 => ?_)
                          · skip
                            have g125 := i32_le x37
                            unfold g_Kinds_findOrAdd_221
                            refine ok.inc (by decide) (show _ ≤ a_10u114.toInt + (1) ∧ a_10u114.toInt + (1) ≤ _ from by omega) (fun x34 hx34 => ?_)
                            have hx34 : x34.toInt = a_10u114.toInt + (1) := hx34
                            exact ih_u114 a_2u114 a_4u114 a_7u114 a_8u114 (0 : Int32) x34 Z120 hIZ120 ((Fr.rf.tr hFu114 (fun _ q => q)).tr hFZ120 (by decide)) (show 0 ≤ a_2u114.toInt ∧ a_2u114.toInt ≤ 4 from by omega) (show 0 ≤ a_4u114.toInt ∧ a_4u114.toInt + a_2u114.toInt ≤ 7745 from by omega) (show 0 ≤ a_7u114.toInt ∧ a_7u114.toInt ≤ 511 from by omega) (show 0 ≤ a_8u114.toInt ∧ a_8u114.toInt ≤ 1548 from by omega) (show 0 ≤ x34.toInt ∧ x34.toInt ≤ 5 from by omega) (show (5 - x34.toInt).toNat < _ from by omega)
                          · skip
                            unfold g_Kinds_findOrAdd_216
                            unfold g_Kinds_findOrAdd_221
                            refine ok.inc (by decide) (show _ ≤ a_10u114.toInt + (1) ∧ a_10u114.toInt + (1) ≤ _ from by omega) (fun x34 hx34 => ?_)
                            have hx34 : x34.toInt = a_10u114.toInt + (1) := hx34
                            exact ih_u114 a_2u114 a_4u114 a_7u114 a_8u114 (1 : Int32) x34 Z120 hIZ120 ((Fr.rf.tr hFu114 (fun _ q => q)).tr hFZ120 (by decide)) (show 0 ≤ a_2u114.toInt ∧ a_2u114.toInt ≤ 4 from by omega) (show 0 ≤ a_4u114.toInt ∧ a_4u114.toInt + a_2u114.toInt ≤ 7745 from by omega) (show 0 ≤ a_7u114.toInt ∧ a_7u114.toInt ≤ 511 from by omega) (show 0 ≤ a_8u114.toInt ∧ a_8u114.toInt ≤ 1548 from by omega) (show 0 ≤ x34.toInt ∧ x34.toInt ≤ 5 from by omega) (show (5 - x34.toInt).toNat < _ from by omega)
                        · skip
                          unfold g_Kinds_findOrAdd_216
                          unfold g_Kinds_findOrAdd_221
                          refine ok.inc (by decide) (show _ ≤ a_10u114.toInt + (1) ∧ a_10u114.toInt + (1) ≤ _ from by omega) (fun x34 hx34 => ?_)
                          have hx34 : x34.toInt = a_10u114.toInt + (1) := hx34
                          exact ih_u114 a_2u114 a_4u114 a_7u114 a_8u114 (1 : Int32) x34 Z120 hIZ120 ((Fr.rf.tr hFu114 (fun _ q => q)).tr hFZ120 (by decide)) (show 0 ≤ a_2u114.toInt ∧ a_2u114.toInt ≤ 4 from by omega) (show 0 ≤ a_4u114.toInt ∧ a_4u114.toInt + a_2u114.toInt ≤ 7745 from by omega) (show 0 ≤ a_7u114.toInt ∧ a_7u114.toInt ≤ 511 from by omega) (show 0 ≤ a_8u114.toInt ∧ a_8u114.toInt ≤ 1548 from by omega) (show 0 ≤ x34.toInt ∧ x34.toInt ≤ 5 from by omega) (show (5 - x34.toInt).toNat < _ from by omega)
                  exact lpu114 BIG a_2u3 a_4u3 a_7u3 (Zu3.1 25 0) (1 : Int32) (0 : Int32) Z72 hIZ72 ((((((Fr.rf.tr hFu3 (fun _ q => q)).tr hFZ68 (by decide)).tr hFZ69 (by decide)).tr hFZ70 (by decide)).tr hFZ71 (by decide)).tr hFZ72 (by decide)) (show 0 ≤ a_2u3.toInt ∧ a_2u3.toInt ≤ 4 from by omega) (show 0 ≤ a_4u3.toInt ∧ a_4u3.toInt + a_2u3.toInt ≤ 7745 from by omega) (show 0 ≤ a_7u3.toInt ∧ a_7u3.toInt ≤ 511 from by omega) (show 0 ≤ (Zu3.1 25 0).toInt ∧ (Zu3.1 25 0).toInt ≤ 1548 from by omega) (show 0 ≤ (0 : Int) ∧ (0 : Int) ≤ 5 from by omega) (show (5 - (0 : Int)).toNat < BIG from ltBIG (show _ < 100000 from by omega))
          · skip
            exact ok.ret ⟨(Fr.rf.tr hFu3 (fun _ q => q)), hIu3⟩
        · skip
          refine ok.letE (v1 := 26) (by decide) ?_
          refine ok.ck (show 0 ≤ a_8u3.toInt ∧ a_8u3.toInt < ((1549 : Nat) : Int) from by omega) ?_
          refine ok.letE (v1 := (Zu3.1 26 (ix a_8u3))) rfl ?_
          refine ok.ite (fun c126 => ?_) (fun c126 => ?_)
          · skip
            have g127 := i32_le (Zu3.1 26 (ix a_8u3))
            refine ok.bd (v_Kinds_isSame_25_28 hIu3 (show 0 ≤ a_8u3.toInt ∧ a_8u3.toInt ≤ 1548 from by omega) (show 0 ≤ a_2u3.toInt ∧ a_2u3.toInt ≤ 4 from by omega) (show 0 ≤ a_4u3.toInt ∧ a_4u3.toInt + a_2u3.toInt ≤ 7745 from by omega)) ?_
            rintro x46 _ rfl
            refine ok.ite (fun c129 => ?_) (fun c129 => ?_)
            · skip
              have g130 := i32_le x46
              unfold g_Kinds_findOrAdd_62
              refine ok.letE (v1 := 32) (by decide) ?_
              refine ok.ck (show 0 ≤ a_8u3.toInt ∧ a_8u3.toInt < ((1549 : Nat) : Int) from by omega) ?_
              refine ok.letE (v1 := (Zu3.1 32 (ix a_8u3))) rfl ?_
              have g131 : -1 ≤ (Zu3.1 32 (ix a_8u3)).toInt ∧ (Zu3.1 32 (ix a_8u3)).toInt ≤ 1548 := hIu3.1 32 (ix a_8u3)
              refine ok.inc (by decide) (show _ ≤ a_9u3.toInt + (1) ∧ a_9u3.toInt + (1) ≤ _ from by omega) (fun x45 hx45 => ?_)
              have hx45 : x45.toInt = a_9u3.toInt + (1) := hx45
              exact ih_u3 a_1u3 a_2u3 a_4u3 a_5u3 a_6u3 a_7u3 (Zu3.1 32 (ix a_8u3)) x45 Zu3 hIu3 (Fr.rf.tr hFu3 (fun _ q => q)) (show 0 ≤ a_1u3.toInt ∧ a_1u3.toInt ≤ 4 from by omega) (show 0 ≤ a_2u3.toInt ∧ a_2u3.toInt ≤ 4 from by omega) (show 0 ≤ a_4u3.toInt ∧ a_4u3.toInt + a_2u3.toInt ≤ 7745 from by omega) (show 0 ≤ a_7u3.toInt ∧ a_7u3.toInt ≤ 511 from by omega) (show -1 ≤ (Zu3.1 32 (ix a_8u3)).toInt ∧ (Zu3.1 32 (ix a_8u3)).toInt ≤ 1548 from by omega) (show 0 ≤ x45.toInt ∧ x45.toInt ≤ 1549 from by omega) (show (1550 - x45.toInt).toNat < _ from by omega)
            · skip
              exact ok.ret ⟨(Fr.rf.tr hFu3 (fun _ q => q)), hIu3⟩
          · skip
            unfold g_Kinds_findOrAdd_62
            refine ok.letE (v1 := 32) (by decide) ?_
            refine ok.ck (show 0 ≤ a_8u3.toInt ∧ a_8u3.toInt < ((1549 : Nat) : Int) from by omega) ?_
            refine ok.letE (v1 := (Zu3.1 32 (ix a_8u3))) rfl ?_
            have g132 : -1 ≤ (Zu3.1 32 (ix a_8u3)).toInt ∧ (Zu3.1 32 (ix a_8u3)).toInt ≤ 1548 := hIu3.1 32 (ix a_8u3)
            refine ok.inc (by decide) (show _ ≤ a_9u3.toInt + (1) ∧ a_9u3.toInt + (1) ≤ _ from by omega) (fun x45 hx45 => ?_)
            have hx45 : x45.toInt = a_9u3.toInt + (1) := hx45
            exact ih_u3 a_1u3 a_2u3 a_4u3 a_5u3 a_6u3 a_7u3 (Zu3.1 32 (ix a_8u3)) x45 Zu3 hIu3 (Fr.rf.tr hFu3 (fun _ q => q)) (show 0 ≤ a_1u3.toInt ∧ a_1u3.toInt ≤ 4 from by omega) (show 0 ≤ a_2u3.toInt ∧ a_2u3.toInt ≤ 4 from by omega) (show 0 ≤ a_4u3.toInt ∧ a_4u3.toInt + a_2u3.toInt ≤ 7745 from by omega) (show 0 ≤ a_7u3.toInt ∧ a_7u3.toInt ≤ 511 from by omega) (show -1 ≤ (Zu3.1 32 (ix a_8u3)).toInt ∧ (Zu3.1 32 (ix a_8u3)).toInt ≤ 1548 from by omega) (show 0 ≤ x45.toInt ∧ x45.toInt ≤ 1549 from by omega) (show (1550 - x45.toInt).toNat < _ from by omega)
  exact lpu3 BIG p1 p2 p4 p5 p6 x1 (X.1 31 (ix x1)) (0 : Int32) X hI (Fr.rf : Fr YC Qv30 _ _) (show 0 ≤ p1.toInt ∧ p1.toInt ≤ 4 from by omega) (show 0 ≤ p2.toInt ∧ p2.toInt ≤ 4 from by omega) (show 0 ≤ p4.toInt ∧ p4.toInt + p2.toInt ≤ 7745 from by omega) (show 0 ≤ x1.toInt ∧ x1.toInt ≤ 511 from by omega) (show -1 ≤ (X.1 31 (ix x1)).toInt ∧ (X.1 31 (ix x1)).toInt ≤ 1548 from by omega) (show 0 ≤ (0 : Int) ∧ (0 : Int) ≤ 1549 from by omega) (show (1550 - (0 : Int)).toNat < BIG from ltBIG (show _ < 100000 from by omega))
set_option maxHeartbeats 4000000 in
theorem v_Kinds_rowOf_25 {p1 : Int32} {X : St} (hI : INV X) : ok (g_Kinds_rowOf 25 p1 X) (fun r Y => (Fr YC Qv30 X Y ∧ INV Y)) := by
  unfold g_Kinds_rowOf
  refine ok.bd (v_Kinds_codeOf_25 hI) ?_
  rintro x1 _ rfl
  refine ok.any (fun x3 => ?_)
  refine ok.any (fun x4 => ?_)
  refine ok.letE (v1 := 28) (by decide) ?_
  refine ok.bd (v_Kinds_findOrAdd_25_28 hI (show 0 ≤ (3 : Int) ∧ (3 : Int) ≤ 4 from by omega) (show 0 ≤ (0 : Int) ∧ (0 : Int) ≤ 4 from by omega) (show 0 ≤ (0 : Int) ∧ (0 : Int) + (0 : Int) ≤ 7745 from by omega)) ?_
  rintro x6 Z3 ⟨hFZ3, hIZ3⟩
  exact ok.ret ⟨(Fr.rf.tr hFZ3 (fun _ q => q)), hIZ3⟩
theorem n12202_Qv30 : (12202 : Nat) ∉ Qv30 := by decide
theorem sQv30_Qv27 : ∀ k ∈ Qv30, k ∈ Qv27 := by decide
set_option maxHeartbeats 4000000 in
theorem v_Judging_judgePlain_J24 {p1 : Int32} {p2 : Int32} {X : St} (hI : INV X) (hr61_0 : X.2.2 61 0 = 56) (hr61_1 : X.2.2 61 1 = 25) (hr61_2 : X.2.2 61 2 = 26) (h0 : 0 ≤ p1.toInt ∧ p1.toInt ≤ 10) (h1 : p1.toInt = 10 → 0 ≤ p2.toInt ∧ p2.toInt ≤ 20000) : ok (g_Judging_judgePlain p1 p2 X) (fun r Y => (Fr YC Qv27 X Y ∧ INV Y)) := by
  unfold g_Judging_judgePlain
  refine ok.ite (fun c1 => ?_) (fun c1 => ?_)
  · skip
    exact ok.ret ⟨(Fr.rf : Fr YC Qv27 _ _), hI⟩
  · skip
    refine ok.ite (fun c2 => ?_) (fun c2 => ?_)
    · skip
      refine ok.bd (v_Judging_push_J24 hI hr61_2) ?_
      rintro r_3 Z5 ⟨hFZ5, hIZ5⟩
      exact ok.ret ⟨(Fr.rf.tr hFZ5 (by decide)), hIZ5⟩
    · skip
      refine ok.ite (fun c6 => ?_) (fun c6 => ?_)
      · skip
        refine ok.bd (v_Judging_push_J24 hI hr61_2) ?_
        rintro r_7 Z9 ⟨hFZ9, hIZ9⟩
        exact ok.ret ⟨(Fr.rf.tr hFZ9 (by decide)), hIZ9⟩
      · skip
        refine ok.ite (fun c10 => ?_) (fun c10 => ?_)
        · skip
          refine ok.ite (fun c11 => ?_) (fun c11 => ?_)
          · skip
            have g12 := i32_le p2
            unfold g_Judging_judgePlain_95
            unfold g_Judging_judgePlain_96
            refine ok.bd (v_Judging_push_J24 hI hr61_2) ?_
            rintro r_13 Z15 ⟨hFZ15, hIZ15⟩
            exact ok.ret ⟨(Fr.rf.tr hFZ15 (by decide)), hIZ15⟩
          · skip
            have g16 := i32_le p2
            refine ok.ite (fun c17 => ?_) (fun c17 => ?_)
            · skip
              unfold g_Judging_judgePlain_95
              unfold g_Judging_judgePlain_96
              refine ok.bd (v_Judging_push_J24 hI hr61_2) ?_
              rintro r_18 Z20 ⟨hFZ20, hIZ20⟩
              exact ok.ret ⟨(Fr.rf.tr hFZ20 (by decide)), hIZ20⟩
            · skip
              refine ok.ck (show 0 ≤ p2.toInt ∧ p2.toInt < ((44 : Nat) : Int) from by omega) ?_
              refine ok.letE (v1 := (X.1 66 (ix p2))) rfl ?_
              unfold g_Judging_judgePlain_96
              refine ok.bd (v_Judging_push_J24 hI hr61_2) ?_
              rintro r_21 Z23 ⟨hFZ23, hIZ23⟩
              exact ok.ret ⟨(Fr.rf.tr hFZ23 (by decide)), hIZ23⟩
        · skip
          refine ok.ite (fun c24 => ?_) (fun c24 => ?_)
          · skip
            refine ok.ite (fun c25 => ?_) (fun c25 => ?_)
            · skip
              have g26 := i32_le p2
              unfold g_Judging_judgePlain_122
              unfold g_Judging_judgePlain_123
              refine ok.bd (v_Judging_push_J24 hI hr61_2) ?_
              rintro r_27 Z29 ⟨hFZ29, hIZ29⟩
              exact ok.ret ⟨(Fr.rf.tr hFZ29 (by decide)), hIZ29⟩
            · skip
              have g30 := i32_le p2
              refine ok.ite (fun c31 => ?_) (fun c31 => ?_)
              · skip
                unfold g_Judging_judgePlain_122
                unfold g_Judging_judgePlain_123
                refine ok.bd (v_Judging_push_J24 hI hr61_2) ?_
                rintro r_32 Z34 ⟨hFZ34, hIZ34⟩
                exact ok.ret ⟨(Fr.rf.tr hFZ34 (by decide)), hIZ34⟩
              · skip
                refine ok.ck (show 0 ≤ p2.toInt ∧ p2.toInt < ((40 : Nat) : Int) from by omega) ?_
                refine ok.letE (v1 := (X.1 65 (ix p2))) rfl ?_
                unfold g_Judging_judgePlain_123
                refine ok.bd (v_Judging_push_J24 hI hr61_2) ?_
                rintro r_35 Z37 ⟨hFZ37, hIZ37⟩
                exact ok.ret ⟨(Fr.rf.tr hFZ37 (by decide)), hIZ37⟩
          · skip
            refine ok.ite (fun c38 => ?_) (fun c38 => ?_)
            · skip
              refine ok.bd (v_Judging_bind hI) ?_
              rintro r_39 Z41 ⟨hFZ41, hIZ41⟩
              exact ok.ret ⟨(Fr.rf.tr hFZ41 (by decide)), hIZ41⟩
            · skip
              refine ok.ite (fun c42 => ?_) (fun c42 => ?_)
              · skip
                refine ok.bd (v_Judging_pop hI) ?_
                rintro x15 Z44 ⟨hFZ44, hIZ44⟩
                exact ok.ret ⟨(Fr.rf.tr hFZ44 (by decide)), hIZ44⟩
              · skip
                refine ok.ite (fun c45 => ?_) (fun c45 => ?_)
                · skip
                  exact ok.ret ⟨(Fr.rf : Fr YC Qv27 _ _), hI⟩
                · skip
                  refine ok.ite (fun c46 => ?_) (fun c46 => ?_)
                  · skip
                    refine ok.bd (v_Judging_mix_J24 hI hr61_0 hr61_1 (show 0 ≤ (2 : Int) ∧ (2 : Int) ≤ 20001 from by omega)) ?_
                    rintro x19 Z48 ⟨hFZ48, hIZ48⟩
                    refine ok.bd (v_Judging_push_J24 hIZ48 ((hFZ48.2.2 61 2 n12202_Qv28).trans hr61_2)) ?_
                    rintro r_49 Z51 ⟨hFZ51, hIZ51⟩
                    exact ok.ret ⟨((Fr.rf.tr hFZ48 sQv28_Qv27).tr hFZ51 (by decide)), hIZ51⟩
                  · skip
                    refine ok.ite (fun c52 => ?_) (fun c52 => ?_)
                    · skip
                      refine ok.bd (v_Judging_pop hI) ?_
                      rintro x23 Z54 ⟨hFZ54, hIZ54⟩
                      exact ok.ret ⟨(Fr.rf.tr hFZ54 (by decide)), hIZ54⟩
                    · skip
                      refine ok.ck (by rw [hr61_2]; decide) ?_
                      refine ok.letE (v1 := 25) (by rw [hr61_2]) ?_
                      refine ok.bd (v_Judging_mix_J24 hI hr61_0 hr61_1 (show 0 ≤ p2.toInt ∧ p2.toInt ≤ 20001 from by omega)) ?_
                      rintro x26 Z56 ⟨hFZ56, hIZ56⟩
                      refine ok.bd (v_Kinds_rowOf_25 hIZ56) ?_
                      rintro x28 Z58 ⟨hFZ58, hIZ58⟩
                      refine ok.bd (v_Judging_push_J24 hIZ58 (((hFZ58.2.2 61 2 n12202_Qv30).trans (hFZ56.2.2 61 2 n12202_Qv28)).trans hr61_2)) ?_
                      rintro r_59 Z61 ⟨hFZ61, hIZ61⟩
                      exact ok.ret ⟨(((Fr.rf.tr hFZ56 sQv28_Qv27).tr hFZ58 sQv30_Qv27).tr hFZ61 (by decide)), hIZ61⟩
theorem n12200_Qv26 : (12200 : Nat) ∉ Qv26 := by decide
theorem n12202_Qv26 : (12202 : Nat) ∉ Qv26 := by decide
theorem sQv27_Qv26 : ∀ k ∈ Qv27, k ∈ Qv26 := by decide
def Qv31 : List Nat := [5000, 5200, 5400, 5600, 5800, 6000, 6200, 6400, 12214, 12400, 13400]
set_option maxHeartbeats 4000000 in
theorem v_Judging_replace_J24 {p1 : Int32} {p2 : Int32} {X : St} (hI : INV X) (hr61_2 : X.2.2 61 2 = 26) (h0 : 0 ≤ p1.toInt ∧ p1.toInt ≤ 20001) : ok (g_Judging_replace p1 p2 X) (fun r Y => (Fr YC [12214, 12400, 13400] X Y ∧ INV Y)) := by
  unfold g_Judging_replace
  refine ok.letE (v1 := (X.1 61 14)) rfl ?_
  have g1 : 0 ≤ (X.1 61 14).toInt ∧ (X.1 61 14).toInt ≤ 3000 := hI.1 61 14
  refine ok.sub (show _ ≤ (X.1 61 14).toInt - p1.toInt ∧ (X.1 61 14).toInt - p1.toInt ≤ _ from by omega) (fun x2 hx2 => ?_)
  have hx2 : x2.toInt = (X.1 61 14).toInt - p1.toInt := hx2
  refine ok.eqv (fun x3 hx3 => ?_)
  have hx3 : ((0 : Int) < x2.toInt ∧ x3.toInt = x2.toInt) ∨ (¬ ((0 : Int) < x2.toInt) ∧ x3.toInt = (0 : Int)) := by
    rw [hx3]
    by_cases gc : (0 : Int32) < x2
    · rw [if_pos gc]; exact Or.inl ⟨(Int32.lt_iff_toInt_lt.mp gc), rfl⟩
    · rw [if_neg gc]; exact Or.inr ⟨(fun z => gc (Int32.lt_iff_toInt_lt.mpr z)), rfl⟩
  refine ok.wI (L := [12214]) hI (show 0 ≤ x3.toInt ∧ x3.toInt ≤ 3000 from by omega) (show (12214 : Nat) ∈ [12214] from by decide) (by decide) (fun Z2 hIZ2 hFZ2 hkZ2 hoZ2 => ?_)
  refine ok.bd (v_Judging_push_J24 hIZ2 ((hFZ2.2.2 61 2 (show (12202 : Nat) ∉ [12214] from by decide)).trans hr61_2)) ?_
  rintro r_3 Z5 ⟨hFZ5, hIZ5⟩
  exact ok.ret ⟨((Fr.rf.tr hFZ2 (by decide)).tr hFZ5 (fun _ q => q)), hIZ5⟩
theorem sQv30_Qv31 : ∀ k ∈ Qv30, k ∈ Qv31 := by decide
set_option maxHeartbeats 4000000 in
theorem v_Kinds_givesOf_25 {p1 : Int32} {X : St} (hI : INV X) : ok (g_Kinds_givesOf 25 p1 X) (fun r Y => (X = Y)) := by
  unfold g_Kinds_givesOf
  refine ok.ite (fun c1 => ?_) (fun c1 => ?_)
  · skip
    have g2 := i32_le p1
    exact ok.ret rfl
  · skip
    have g3 := i32_le p1
    refine ok.letE (v1 := (X.1 25 0)) rfl ?_
    have g4 : 0 ≤ (X.1 25 0).toInt ∧ (X.1 25 0).toInt ≤ 1549 := hI.1 25 0
    refine ok.ite (fun c5 => ?_) (fun c5 => ?_)
    · skip
      exact ok.ret rfl
    · skip
      refine ok.letE (v1 := 28) (by decide) ?_
      refine ok.mul (show _ ≤ p1.toInt * (5 : Int) ∧ p1.toInt * (5 : Int) ≤ _ from by omega) (fun x3 hx3 => ?_)
      have hx3 : x3.toInt = p1.toInt * (5 : Int) := hx3
      refine ok.add (show _ ≤ x3.toInt + (4 : Int) ∧ x3.toInt + (4 : Int) ≤ _ from by omega) (fun x4 hx4 => ?_)
      have hx4 : x4.toInt = x3.toInt + (4 : Int) := hx4
      refine ok.ck (show 0 ≤ x4.toInt ∧ x4.toInt < ((7745 : Nat) : Int) from by omega) ?_
      refine ok.letE (v1 := (X.1 28 (ix x4))) rfl ?_
      exact ok.ret rfl
set_option maxHeartbeats 4000000 in
theorem v_Judging_judgeWork_J24 {p1 : Int32} {p2 : Int32} {X : St} (hI : INV X) (hr61_2 : X.2.2 61 2 = 26) (h0 : 11 ≤ p1.toInt ∧ p1.toInt ≤ 26) (h1 : p1.toInt = 16 → 0 ≤ p2.toInt ∧ p2.toInt ≤ 20000) : ok (g_Judging_judgeWork p1 p2 X) (fun r Y => (Fr YC Qv31 X Y ∧ INV Y)) := by
  unfold g_Judging_judgeWork
  refine ok.ite (fun c1 => ?_) (fun c1 => ?_)
  · skip
    refine ok.ck (by rw [hr61_2]; decide) ?_
    refine ok.letE (v1 := 25) (by rw [hr61_2]) ?_
    refine ok.bd (v_Judging_below hI (show 0 ≤ (0 : Int) ∧ (0 : Int) ≤ 20001 from by omega)) ?_
    rintro x3 _ rfl
    refine ok.bd (v_Kinds_rowOf_25 hI) ?_
    rintro x5 Z4 ⟨hFZ4, hIZ4⟩
    refine ok.bd (v_Judging_replace_J24 hIZ4 ((hFZ4.2.2 61 2 n12202_Qv30).trans hr61_2) (show 0 ≤ (2 : Int) ∧ (2 : Int) ≤ 20001 from by omega)) ?_
    rintro r_5 Z7 ⟨hFZ7, hIZ7⟩
    exact ok.ret ⟨((Fr.rf.tr hFZ4 sQv30_Qv31).tr hFZ7 (by decide)), hIZ7⟩
  · skip
    refine ok.ite (fun c8 => ?_) (fun c8 => ?_)
    · skip
      refine ok.bd (v_Judging_replace_J24 hI hr61_2 (show 0 ≤ (1 : Int) ∧ (1 : Int) ≤ 20001 from by omega)) ?_
      rintro r_9 Z11 ⟨hFZ11, hIZ11⟩
      exact ok.ret ⟨(Fr.rf.tr hFZ11 (by decide)), hIZ11⟩
    · skip
      refine ok.ite (fun c12 => ?_) (fun c12 => ?_)
      · skip
        refine ok.bd (v_Judging_replace_J24 hI hr61_2 (show 0 ≤ (1 : Int) ∧ (1 : Int) ≤ 20001 from by omega)) ?_
        rintro r_13 Z15 ⟨hFZ15, hIZ15⟩
        exact ok.ret ⟨(Fr.rf.tr hFZ15 (by decide)), hIZ15⟩
      · skip
        refine ok.ite (fun c16 => ?_) (fun c16 => ?_)
        · skip
          refine ok.ck (by rw [hr61_2]; decide) ?_
          refine ok.letE (v1 := 25) (by rw [hr61_2]) ?_
          refine ok.bd (v_Judging_below hI (show 0 ≤ (1 : Int) ∧ (1 : Int) ≤ 20001 from by omega)) ?_
          rintro x14 _ rfl
          refine ok.bd (v_Kinds_givesOf_25 hI) ?_
          rintro x16 _ rfl
          refine ok.bd (v_Judging_replace_J24 hI hr61_2 (show 0 ≤ (2 : Int) ∧ (2 : Int) ≤ 20001 from by omega)) ?_
          rintro r_19 Z21 ⟨hFZ21, hIZ21⟩
          exact ok.ret ⟨(Fr.rf.tr hFZ21 (by decide)), hIZ21⟩
        · skip
          refine ok.ite (fun c22 => ?_) (fun c22 => ?_)
          · skip
            refine ok.ck (by rw [hr61_2]; decide) ?_
            refine ok.letE (v1 := 25) (by rw [hr61_2]) ?_
            refine ok.bd (v_Judging_below hI (show 0 ≤ (2 : Int) ∧ (2 : Int) ≤ 20001 from by omega)) ?_
            rintro x21 _ rfl
            refine ok.bd (v_Kinds_givesOf_25 hI) ?_
            rintro x23 _ rfl
            refine ok.bd (v_Judging_replace_J24 hI hr61_2 (show 0 ≤ (3 : Int) ∧ (3 : Int) ≤ 20001 from by omega)) ?_
            rintro r_25 Z27 ⟨hFZ27, hIZ27⟩
            exact ok.ret ⟨(Fr.rf.tr hFZ27 (by decide)), hIZ27⟩
          · skip
            refine ok.ite (fun c28 => ?_) (fun c28 => ?_)
            · skip
              refine ok.add (show _ ≤ p2.toInt + (1 : Int) ∧ p2.toInt + (1 : Int) ≤ _ from by omega) (fun x27 hx27 => ?_)
              have hx27 : x27.toInt = p2.toInt + (1 : Int) := hx27
              refine ok.ck (by rw [hr61_2]; decide) ?_
              refine ok.letE (v1 := 25) (by rw [hr61_2]) ?_
              refine ok.bd (v_Judging_below hI (show 0 ≤ p2.toInt ∧ p2.toInt ≤ 20001 from by omega)) ?_
              rintro x29 _ rfl
              refine ok.bd (v_Kinds_givesOf_25 hI) ?_
              rintro x31 _ rfl
              refine ok.bd (v_Judging_replace_J24 hI hr61_2 (show 0 ≤ x27.toInt ∧ x27.toInt ≤ 20001 from by omega)) ?_
              rintro r_31 Z33 ⟨hFZ33, hIZ33⟩
              exact ok.ret ⟨(Fr.rf.tr hFZ33 (by decide)), hIZ33⟩
            · skip
              refine ok.ite (fun c34 => ?_) (fun c34 => ?_)
              · skip
                refine ok.bd (v_Judging_pop hI) ?_
                rintro x35 Z36 ⟨hFZ36, hIZ36⟩
                exact ok.ret ⟨(Fr.rf.tr hFZ36 (by decide)), hIZ36⟩
              · skip
                refine ok.ite (fun c37 => ?_) (fun c37 => ?_)
                · skip
                  refine ok.bd (v_Judging_replace_J24 hI hr61_2 (show 0 ≤ (1 : Int) ∧ (1 : Int) ≤ 20001 from by omega)) ?_
                  rintro r_38 Z40 ⟨hFZ40, hIZ40⟩
                  exact ok.ret ⟨(Fr.rf.tr hFZ40 (by decide)), hIZ40⟩
                · skip
                  refine ok.ite (fun c41 => ?_) (fun c41 => ?_)
                  · skip
                    refine ok.bd (v_Judging_replace_J24 hI hr61_2 (show 0 ≤ (1 : Int) ∧ (1 : Int) ≤ 20001 from by omega)) ?_
                    rintro r_42 Z44 ⟨hFZ44, hIZ44⟩
                    exact ok.ret ⟨(Fr.rf.tr hFZ44 (by decide)), hIZ44⟩
                  · skip
                    refine ok.ite (fun c45 => ?_) (fun c45 => ?_)
                    · skip
                      refine ok.bd (v_Judging_replace_J24 hI hr61_2 (show 0 ≤ (2 : Int) ∧ (2 : Int) ≤ 20001 from by omega)) ?_
                      rintro r_46 Z48 ⟨hFZ48, hIZ48⟩
                      exact ok.ret ⟨(Fr.rf.tr hFZ48 (by decide)), hIZ48⟩
                    · skip
                      refine ok.ite (fun c49 => ?_) (fun c49 => ?_)
                      · skip
                        refine ok.bd (v_Judging_replace_J24 hI hr61_2 (show 0 ≤ (2 : Int) ∧ (2 : Int) ≤ 20001 from by omega)) ?_
                        rintro r_50 Z52 ⟨hFZ52, hIZ52⟩
                        exact ok.ret ⟨(Fr.rf.tr hFZ52 (by decide)), hIZ52⟩
                      · skip
                        refine ok.bd (v_Judging_replace_J24 hI hr61_2 (show 0 ≤ (2 : Int) ∧ (2 : Int) ≤ 20001 from by omega)) ?_
                        rintro r_53 Z55 ⟨hFZ55, hIZ55⟩
                        exact ok.ret ⟨(Fr.rf.tr hFZ55 (by decide)), hIZ55⟩
theorem sQv31_Qv26 : ∀ k ∈ Qv31, k ∈ Qv26 := by decide
def Qv32 : List Nat := [8800, 11005, 11200, 11400, 11600, 11800, 12000, 12204, 12205, 12400, 13400, 13600, 13800]
def Qv33 : List Nat := [8800, 11005, 11200, 11400, 11600, 11800, 12000, 12204, 12205, 13400]
set_option maxHeartbeats 4000000 in
theorem v_Kinds_sortOf_25 {p1 : Int32} {X : St} (hI : INV X) : ok (g_Kinds_sortOf 25 p1 X) (fun r Y => (X = Y)) := by
  unfold g_Kinds_sortOf
  refine ok.ite (fun c1 => ?_) (fun c1 => ?_)
  · skip
    have g2 := i32_le p1
    exact ok.ret rfl
  · skip
    have g3 := i32_le p1
    refine ok.letE (v1 := (X.1 25 0)) rfl ?_
    have g4 : 0 ≤ (X.1 25 0).toInt ∧ (X.1 25 0).toInt ≤ 1549 := hI.1 25 0
    refine ok.ite (fun c5 => ?_) (fun c5 => ?_)
    · skip
      exact ok.ret rfl
    · skip
      refine ok.letE (v1 := 26) (by decide) ?_
      refine ok.ck (show 0 ≤ p1.toInt ∧ p1.toInt < ((1549 : Nat) : Int) from by omega) ?_
      refine ok.letE (v1 := (X.1 26 (ix p1))) rfl ?_
      exact ok.ret rfl
set_option maxHeartbeats 4000000 in
theorem v_Kinds_takenBy_25 {p1 : Int32} {X : St} (hI : INV X) : ok (g_Kinds_takenBy 25 p1 X) (fun r Y => (X = Y) ∧ (0 ≤ r.toInt ∧ r.toInt ≤ 4)) := by
  unfold g_Kinds_takenBy
  refine ok.ite (fun c1 => ?_) (fun c1 => ?_)
  · skip
    have g2 := i32_le p1
    exact ok.ret ⟨rfl, (show 0 ≤ (0 : Int) ∧ (0 : Int) ≤ 4 from by omega)⟩
  · skip
    have g3 := i32_le p1
    refine ok.letE (v1 := (X.1 25 0)) rfl ?_
    have g4 : 0 ≤ (X.1 25 0).toInt ∧ (X.1 25 0).toInt ≤ 1549 := hI.1 25 0
    refine ok.ite (fun c5 => ?_) (fun c5 => ?_)
    · skip
      exact ok.ret ⟨rfl, (show 0 ≤ (0 : Int) ∧ (0 : Int) ≤ 4 from by omega)⟩
    · skip
      refine ok.letE (v1 := 27) (by decide) ?_
      refine ok.ck (show 0 ≤ p1.toInt ∧ p1.toInt < ((1549 : Nat) : Int) from by omega) ?_
      refine ok.letE (v1 := (X.1 27 (ix p1))) rfl ?_
      have g6 : 0 ≤ (X.1 27 (ix p1)).toInt ∧ (X.1 27 (ix p1)).toInt ≤ 4 := hI.1 27 (ix p1)
      exact ok.ret ⟨rfl, (show 0 ≤ (X.1 27 (ix p1)).toInt ∧ (X.1 27 (ix p1)).toInt ≤ 4 from by omega)⟩
set_option maxHeartbeats 4000000 in
theorem v_Kinds_paramOf_25 {p1 : Int32} {p2 : Int32} {X : St} (hI : INV X) : ok (g_Kinds_paramOf 25 p1 p2 X) (fun r Y => (X = Y)) := by
  unfold g_Kinds_paramOf
  refine ok.ite (fun c1 => ?_) (fun c1 => ?_)
  · skip
    have g2 := i32_le p1
    exact ok.ret rfl
  · skip
    have g3 := i32_le p1
    refine ok.letE (v1 := (X.1 25 0)) rfl ?_
    have g4 : 0 ≤ (X.1 25 0).toInt ∧ (X.1 25 0).toInt ≤ 1549 := hI.1 25 0
    refine ok.ite (fun c5 => ?_) (fun c5 => ?_)
    · skip
      exact ok.ret rfl
    · skip
      refine ok.ite (fun c6 => ?_) (fun c6 => ?_)
      · skip
        have g7 := i32_le p2
        exact ok.ret rfl
      · skip
        have g8 := i32_le p2
        refine ok.letE (v1 := 27) (by decide) ?_
        refine ok.ck (show 0 ≤ p1.toInt ∧ p1.toInt < ((1549 : Nat) : Int) from by omega) ?_
        refine ok.letE (v1 := (X.1 27 (ix p1))) rfl ?_
        have g9 : 0 ≤ (X.1 27 (ix p1)).toInt ∧ (X.1 27 (ix p1)).toInt ≤ 4 := hI.1 27 (ix p1)
        refine ok.ite (fun c10 => ?_) (fun c10 => ?_)
        · skip
          exact ok.ret rfl
        · skip
          refine ok.letE (v1 := 28) (by decide) ?_
          refine ok.mul (show _ ≤ p1.toInt * (5 : Int) ∧ p1.toInt * (5 : Int) ≤ _ from by omega) (fun x5 hx5 => ?_)
          have hx5 : x5.toInt = p1.toInt * (5 : Int) := hx5
          refine ok.add (show _ ≤ x5.toInt + p2.toInt ∧ x5.toInt + p2.toInt ≤ _ from by omega) (fun x6 hx6 => ?_)
          have hx6 : x6.toInt = x5.toInt + p2.toInt := hx6
          refine ok.ck (show 0 ≤ x6.toInt ∧ x6.toInt < ((7745 : Nat) : Int) from by omega) ?_
          refine ok.letE (v1 := (X.1 28 (ix x6))) rfl ?_
          exact ok.ret rfl
/-- fit of kinds, by depth -/
def FIS25 (m : Nat) (f : Nat → Int32 → Int32 → Int32 → St → Option (Int32 × St)) : Prop := ∀ (a b d : Int32) (X : St), INV X → 0 ≤ d.toInt → 64 ≤ (m : Int) + d.toInt → d.toInt ≤ 41 → ok (f 25 a b d X) (fun _ Y => X = Y)
theorem fit9_25 {m : Nat} {v : Nat → Int32 → Int32 → Int32 → St → Option (Int32 × St)} (hv : FIS25 m v) {d : Int32} (hd : 0 ≤ d.toInt ∧ d.toInt ≤ 41) (hm : 64 ≤ (m + 1 : Nat) + d.toInt) {X : St} (hI : INV X) : ∀ (k i : Nat) (a b c : Int32) (N : Nat), i + k = 1549 → k < N → c.toInt = (i : Int) → ok (g_Kinds_fit_9 v N 25 d a b c X) (fun _ Y => X = Y) := by
  intro k
  induction k with
  | zero =>
    intro i a b c N hi hN hc
    obtain ⟨N, rfl⟩ : ∃ q, N = q + 1 := ⟨N - 1, by omega⟩
    unfold g_Kinds_fit_9
    rw [lp_succ]
    unfold g_Kinds_fit_9_s
    exact ok.ite (fun _ => ok.ret rfl) (fun z => absurd (show 1549 ≤ c.toInt by omega) z)
  | succ k ih =>
    intro i a b c N hi hN hc
    obtain ⟨N, rfl⟩ : ∃ q, N = q + 1 := ⟨N - 1, by omega⟩
    unfold g_Kinds_fit_9
    rw [lp_succ]
    unfold g_Kinds_fit_9_s
    refine ok.ite (fun _ => ok.ret rfl) (fun _ => ok.ite (fun _ => ok.ret rfl) (fun _ => ok.ite (fun _ => ok.ret rfl) (fun _ => ok.ite (fun _ => ok.ret rfl) (fun _ => ?_))))
    refine ok.bd (v_Kinds_sortOf_25 hI) ?_
    rintro r1 _ rfl
    refine ok.bd (v_Kinds_sortOf_25 hI) ?_
    rintro r2 _ rfl
    refine ok.ite (fun _ => ?_) (fun _ => ok.ret rfl)
    refine ok.bd (v_Kinds_takenBy_25 hI) ?_
    rintro r3 _ ⟨rfl, h3⟩
    refine ok.bd (v_Kinds_takenBy_25 hI) ?_
    rintro r4 _ ⟨rfl, h4⟩
    refine ok.ite (fun _ => ?_) (fun _ => ok.ret rfl)
    refine ok.ite (fun hd40 => ?_) (fun _ => ok.ret rfl)
    have inner : ∀ (q j : Nat) (p : Int32) (M : Nat), j + q = 5 → q < M → p.toInt = (j : Int) → ok (g_Kinds_fit_79 v (lp (fun _ _ _ _ _ _ => none) (g_Kinds_fit_9_s v) N) M 25 d a b c p X) (fun _ Y => X = Y) := by
      intro q
      induction q with
      | zero =>
        intro j p M hj hM hp
        obtain ⟨M, rfl⟩ : ∃ q, M = q + 1 := ⟨M - 1, by omega⟩
        unfold g_Kinds_fit_79
        rw [lp_succ]
        unfold g_Kinds_fit_79_s
        refine ok.bd (v_Kinds_takenBy_25 hI) ?_
        rintro r5 _ ⟨rfl, h5⟩
        refine ok.ite (fun _ => ?_) (fun z => by omega)
        refine ok.bd (v_Kinds_givesOf_25 hI) ?_
        rintro r6 _ rfl
        refine ok.bd (v_Kinds_givesOf_25 hI) ?_
        rintro r7 _ rfl
        refine ok.inc (by decide) (by omega) (fun x hx => ?_)
        have key := ih (i + 1) r6 r7 x N (by omega) (by omega) (by omega)
        unfold g_Kinds_fit_9 at key
        exact key
      | succ q ihq =>
        intro j p M hj hM hp
        obtain ⟨M, rfl⟩ : ∃ q, M = q + 1 := ⟨M - 1, by omega⟩
        unfold g_Kinds_fit_79
        rw [lp_succ]
        unfold g_Kinds_fit_79_s
        refine ok.bd (v_Kinds_takenBy_25 hI) ?_
        rintro r5 _ ⟨rfl, h5⟩
        refine ok.ite (fun _ => ?_) (fun z => ?_)
        · refine ok.bd (v_Kinds_givesOf_25 hI) ?_
          rintro r6 _ rfl
          refine ok.bd (v_Kinds_givesOf_25 hI) ?_
          rintro r7 _ rfl
          refine ok.inc (by decide) (by omega) (fun x hx => ?_)
          have key := ih (i + 1) r6 r7 x N (by omega) (by omega) (by omega)
          unfold g_Kinds_fit_9 at key
          exact key
        · refine ok.bd (v_Kinds_paramOf_25 hI) ?_
          rintro r6 _ rfl
          refine ok.bd (v_Kinds_paramOf_25 hI) ?_
          rintro r7 _ rfl
          have z1 : (1 : Int32).toInt = 1 := rfl
          refine ok.add (by rw [z1]; omega) (fun x hx => ?_)
          rw [z1] at hx
          refine ok.bd (hv r6 r7 x X hI (by omega) (by omega) (by omega)) ?_
          rintro r8 _ rfl
          refine ok.ite (fun _ => ok.ret rfl) (fun _ => ok.inc (by decide) (by omega) (fun y hy => ?_))
          have key := ihq (j + 1) y M (by omega) (by omega) (by omega)
          unfold g_Kinds_fit_79 at key
          exact key
    exact inner 5 0 0 BIG (by omega) (ltBIG (by decide)) rfl
theorem recfit_25 : ∀ m, FIS25 m (rec_fit m) := by
  intro m
  induction m with
  | zero =>
    intro a b d X hI h0 h1 h2
    omega
  | succ m ih =>
    intro a b d X hI h0 h1 h2
    unfold rec_fit
    rw [lp_succ]
    show ok (g_Kinds_fit_b _ 25 a b d X) _
    unfold g_Kinds_fit_b
    unfold rec_fit at ih
    exact fit9_25 ih ⟨h0, h2⟩ h1 hI 1549 0 a b 0 BIG (by omega) (ltBIG (by decide)) rfl
theorem v_Kinds_fit_25 {p1 p2 p3 : Int32} {X : St} (hI : INV X) (h0 : p3.toInt = 0) : ok (g_Kinds_fit 25 p1 p2 p3 X) (fun _ Y => (X = Y)) := by
  unfold g_Kinds_fit
  exact recfit_25 64 p1 p2 p3 X hI (by omega) (by omega) (by omega)
set_option maxHeartbeats 4000000 in
theorem v_Judging_refuse_J24 {p1 : Int32} {p2 : Int32} {X : St} (hI : INV X) (hr61_1 : X.2.2 61 1 = 25) (h0 : 0 ≤ p2.toInt ∧ p2.toInt ≤ 9079) : ok (g_Judging_refuse p1 p2 X) (fun r Y => (Fr YC [12204, 12205] X Y ∧ INV Y)) := by
  unfold g_Judging_refuse
  refine ok.wI (L := [12204]) hI (show True from trivial) (show (12204 : Nat) ∈ [12204] from by decide) (by decide) (fun Z1 hIZ1 hFZ1 hkZ1 hoZ1 => ?_)
  refine ok.ck (by rw [((hFZ1.2.2 61 1 (show (12201 : Nat) ∉ [12204] from by decide)).trans hr61_1)]; decide) ?_
  refine ok.letE (v1 := 24) (by rw [((hFZ1.2.2 61 1 (show (12201 : Nat) ∉ [12204] from by decide)).trans hr61_1)]) ?_
  refine ok.letE (v1 := 45) (by decide) ?_
  refine ok.ck (show 0 ≤ p2.toInt ∧ p2.toInt < ((9080 : Nat) : Int) from by omega) ?_
  refine ok.letE (v1 := (X.1 45 (ix p2))) (hFZ1.1 45 (ix p2) (show (9000 : Nat) ∉ [12204] from by decide)) ?_
  have g2 : 0 ≤ (X.1 45 (ix p2)).toInt ∧ (X.1 45 (ix p2)).toInt ≤ 3000 := hI.1 45 (ix p2)
  refine ok.wI (L := [12205]) hIZ1 (show True from trivial) (show (12205 : Nat) ∈ [12205] from by decide) (by decide) (fun Z3 hIZ3 hFZ3 hkZ3 hoZ3 => ?_)
  exact ok.ret ⟨((Fr.rf.tr hFZ1 (by decide)).tr hFZ3 (by decide)), hIZ3⟩
theorem sQv29_Qv33 : ∀ k ∈ Qv29, k ∈ Qv33 := by decide
set_option maxHeartbeats 4000000 in
theorem v_Judging_meet_J24 {p1 : Int32} {p2 : Int32} {p3 : Int32} {X : St} (hI : INV X) (hr61_0 : X.2.2 61 0 = 56) (hr61_1 : X.2.2 61 1 = 25) (hr61_2 : X.2.2 61 2 = 26) (h0 : 0 ≤ p1.toInt ∧ p1.toInt ≤ 9079) : ok (g_Judging_meet p1 p2 p3 X) (fun r Y => (Fr YC Qv33 X Y ∧ INV Y)) := by
  unfold g_Judging_meet
  refine ok.bd (v_Judging_below hI (show 0 ≤ (0 : Int) ∧ (0 : Int) ≤ 20001 from by omega)) ?_
  rintro x1 _ rfl
  refine ok.ck (by rw [hr61_2]; decide) ?_
  refine ok.letE (v1 := 25) (by rw [hr61_2]) ?_
  refine ok.bd (v_Kinds_fit_25 hI (show (0 : Int) = 0 from by omega)) ?_
  rintro x4 _ rfl
  refine ok.ite (fun c3 => ?_) (fun c3 => ?_)
  · skip
    have g4 := i32_le x4
    refine ok.bd (v_Judging_refuse_J24 hI hr61_1 (show 0 ≤ p1.toInt ∧ p1.toInt ≤ 9079 from by omega)) ?_
    rintro r_5 Z7 ⟨hFZ7, hIZ7⟩
    exact ok.ret ⟨(Fr.rf.tr hFZ7 (by decide)), hIZ7⟩
  · skip
    refine ok.ite (fun c8 => ?_) (fun c8 => ?_)
    · skip
      exact ok.ret ⟨(Fr.rf : Fr YC Qv33 _ _), hI⟩
    · skip
      refine ok.bd (v_Judging_layGuard_J24 hI hr61_0 hr61_1 (show 0 ≤ p1.toInt ∧ p1.toInt ≤ 9079 from by omega)) ?_
      rintro r_9 Z11 ⟨hFZ11, hIZ11⟩
      refine ok.bd (v_Judging_setTop hIZ11) ?_
      rintro r_12 Z14 ⟨hFZ14, hIZ14⟩
      exact ok.ret ⟨((Fr.rf.tr hFZ11 sQv29_Qv33).tr hFZ14 (by decide)), hIZ14⟩
theorem sQv33_Qv32 : ∀ k ∈ Qv33, k ∈ Qv32 := by decide
set_option maxHeartbeats 4000000 in
theorem v_Judging_meetForm_J24 {p1 : Int32} {p2 : Int32} {p3 : Int32} {X : St} (hI : INV X) (hr61_0 : X.2.2 61 0 = 56) (hr61_1 : X.2.2 61 1 = 25) (hr61_2 : X.2.2 61 2 = 26) (h0 : 0 ≤ p1.toInt ∧ p1.toInt ≤ 9079) : ok (g_Judging_meetForm p1 p2 p3 X) (fun r Y => (Fr YC Qv33 X Y ∧ INV Y)) := by
  unfold g_Judging_meetForm
  refine ok.bd (v_Judging_below hI (show 0 ≤ (0 : Int) ∧ (0 : Int) ≤ 20001 from by omega)) ?_
  rintro x1 _ rfl
  refine ok.ite (fun c2 => ?_) (fun c2 => ?_)
  · skip
    have g3 := i32_le x1
    refine ok.letE (v1 := (X.1 61 3)) rfl ?_
    have g4 : 0 ≤ (X.1 61 3).toInt ∧ (X.1 61 3).toInt ≤ 39 := hI.1 61 3
    refine ok.bd (v_Judging_layGuard_J24 hI hr61_0 hr61_1 (show 0 ≤ p1.toInt ∧ p1.toInt ≤ 9079 from by omega)) ?_
    rintro r_5 Z7 ⟨hFZ7, hIZ7⟩
    refine ok.bd (v_Judging_setTop hIZ7) ?_
    rintro r_8 Z10 ⟨hFZ10, hIZ10⟩
    exact ok.ret ⟨((Fr.rf.tr hFZ7 sQv29_Qv33).tr hFZ10 (by decide)), hIZ10⟩
  · skip
    refine ok.ck (by rw [hr61_2]; decide) ?_
    refine ok.letE (v1 := 25) (by rw [hr61_2]) ?_
    refine ok.bd (v_Kinds_sortOf_25 hI) ?_
    rintro x4 _ rfl
    refine ok.ite (fun c12 => ?_) (fun c12 => ?_)
    · skip
      exact ok.ret ⟨(Fr.rf : Fr YC Qv33 _ _), hI⟩
    · skip
      refine ok.bd (v_Judging_refuse_J24 hI hr61_1 (show 0 ≤ p1.toInt ∧ p1.toInt ≤ 9079 from by omega)) ?_
      rintro r_13 Z15 ⟨hFZ15, hIZ15⟩
      exact ok.ret ⟨(Fr.rf.tr hFZ15 (by decide)), hIZ15⟩
def Qv34 : List Nat := [8800, 11005, 11200, 11400, 11600, 11800, 12000, 12204, 12205, 13400, 13800]
theorem n12202_Qv33 : (12202 : Nat) ∉ Qv33 := by decide
theorem n12201_Qv33 : (12201 : Nat) ∉ Qv33 := by decide
theorem n8400_Qv33 : (8400 : Nat) ∉ Qv33 := by decide
theorem n12214_Qv33 : (12214 : Nat) ∉ Qv33 := by decide
theorem n12203_Qv33 : (12203 : Nat) ∉ Qv33 := by decide
theorem sQv33_Qv34 : ∀ k ∈ Qv33, k ∈ Qv34 := by decide
theorem n8600_Qv33 : (8600 : Nat) ∉ Qv33 := by decide
set_option maxHeartbeats 4000000 in
theorem v_Judging_meetCalled_J24 {p1 : Int32} {p2 : Int32} {X : St} (hI : INV X) (hr61_0 : X.2.2 61 0 = 56) (hr61_1 : X.2.2 61 1 = 25) (hr61_2 : X.2.2 61 2 = 26) (h0 : 0 ≤ p1.toInt ∧ p1.toInt ≤ 9079) : ok (g_Judging_meetCalled p1 p2 X) (fun r Y => (Fr YC Qv34 X Y ∧ INV Y)) := by
  unfold g_Judging_meetCalled
  refine ok.any (fun x1 => ?_)
  refine ok.bd (v_Judging_meetForm_J24 hI hr61_0 hr61_1 hr61_2 (show 0 ≤ p1.toInt ∧ p1.toInt ≤ 9079 from by omega)) ?_
  rintro r_1 Z3 ⟨hFZ3, hIZ3⟩
  refine ok.letE (v1 := (Z3.1 61 4)) rfl ?_
  refine ok.ite (fun c4 => ?_) (fun c4 => ?_)
  · skip
    have g5 := i32_le (Z3.1 61 4)
    refine ok.ck (by rw [((hFZ3.2.2 61 2 n12202_Qv33).trans hr61_2)]; decide) ?_
    refine ok.letE (v1 := 25) (by rw [((hFZ3.2.2 61 2 n12202_Qv33).trans hr61_2)]) ?_
    refine ok.bd (v_Judging_below hIZ3 (show 0 ≤ (0 : Int) ∧ (0 : Int) ≤ 20001 from by omega)) ?_
    rintro x17 _ rfl
    refine ok.bd (v_Kinds_takenBy_25 hIZ3) ?_
    rintro x19 _ ⟨rfl, hp7⟩
    have hp7 : 0 ≤ x19.toInt ∧ x19.toInt ≤ 4 := hp7
    refine ok.ite (fun c8 => ?_) (fun c8 => ?_)
    · skip
      have g9 := i32_le p2
      unfold g_Judging_meetCalled_39
      refine ok.ck (by rw [((hFZ3.2.2 61 1 n12201_Qv33).trans hr61_1)]; decide) ?_
      refine ok.letE (v1 := 24) (by rw [((hFZ3.2.2 61 1 n12201_Qv33).trans hr61_1)]) ?_
      refine ok.letE (v1 := 42) (by decide) ?_
      refine ok.ck (show 0 ≤ p1.toInt ∧ p1.toInt < ((9080 : Nat) : Int) from by omega) ?_
      refine ok.letE (v1 := (X.1 42 (ix p1))) (hFZ3.1 42 (ix p1) n8400_Qv33) ?_
      have g10 : 0 ≤ (X.1 42 (ix p1)).toInt ∧ (X.1 42 (ix p1)).toInt ≤ 36 := hI.1 42 (ix p1)
      refine ok.ite (fun c11 => ?_) (fun c11 => ?_)
      · skip
        refine ok.ite (fun c12 => ?_) (fun c12 => ?_)
        · skip
          unfold g_Judging_meetCalled_61
          unfold g_Judging_meetCalled_62
          refine ok.letE (v1 := (X.1 61 14)) (hFZ3.1 61 14 n12214_Qv33) ?_
          have g13 : 0 ≤ (X.1 61 14).toInt ∧ (X.1 61 14).toInt ≤ 3000 := hI.1 61 14
          refine ok.sub (show _ ≤ (X.1 61 14).toInt - (1 : Int) ∧ (X.1 61 14).toInt - (1 : Int) ≤ _ from by omega) (fun x8 hx8 => ?_)
          have hx8 : x8.toInt = (X.1 61 14).toInt - (1 : Int) := hx8
          refine ok.eqv (fun x9 hx9 => ?_)
          have hx9 : ((0 : Int) < x8.toInt ∧ x9.toInt = x8.toInt) ∨ (¬ ((0 : Int) < x8.toInt) ∧ x9.toInt = (0 : Int)) := by
            rw [hx9]
            by_cases gc : (0 : Int32) < x8
            · rw [if_pos gc]; exact Or.inl ⟨(Int32.lt_iff_toInt_lt.mp gc), rfl⟩
            · rw [if_neg gc]; exact Or.inr ⟨(fun z => gc (Int32.lt_iff_toInt_lt.mpr z)), rfl⟩
          have l15 : ((0) : Int32).toInt = (0) := by decide
          refine ok.ite (fun c14 => ?_) (fun c14 => absurd (show (0 : Int32).toInt = 0 from by omega) c14)
          refine ok.letE (v1 := (X.1 61 3)) (hFZ3.1 61 3 n12203_Qv33) ?_
          have g16 : 0 ≤ (X.1 61 3).toInt ∧ (X.1 61 3).toInt ≤ 39 := hI.1 61 3
          unfold g_Judging_meetCalled_99
          refine ok.ck (show 0 ≤ x9.toInt ∧ x9.toInt < ((3000 : Nat) : Int) from by omega) ?_
          refine ok.wI (L := [13800]) hIZ3 (show True from trivial) (show (13800 : Nat) ∈ [13800] from by decide) (by decide) (fun Z17 hIZ17 hFZ17 hkZ17 hoZ17 => ?_)
          exact ok.ret ⟨((Fr.rf.tr hFZ3 sQv33_Qv34).tr hFZ17 (by decide)), hIZ17⟩
        · skip
          unfold g_Judging_meetCalled_62
          refine ok.letE (v1 := (X.1 61 14)) (hFZ3.1 61 14 n12214_Qv33) ?_
          have g18 : 0 ≤ (X.1 61 14).toInt ∧ (X.1 61 14).toInt ≤ 3000 := hI.1 61 14
          refine ok.sub (show _ ≤ (X.1 61 14).toInt - (1 : Int) ∧ (X.1 61 14).toInt - (1 : Int) ≤ _ from by omega) (fun x8 hx8 => ?_)
          have hx8 : x8.toInt = (X.1 61 14).toInt - (1 : Int) := hx8
          refine ok.eqv (fun x9 hx9 => ?_)
          have hx9 : ((0 : Int) < x8.toInt ∧ x9.toInt = x8.toInt) ∨ (¬ ((0 : Int) < x8.toInt) ∧ x9.toInt = (0 : Int)) := by
            rw [hx9]
            by_cases gc : (0 : Int32) < x8
            · rw [if_pos gc]; exact Or.inl ⟨(Int32.lt_iff_toInt_lt.mp gc), rfl⟩
            · rw [if_neg gc]; exact Or.inr ⟨(fun z => gc (Int32.lt_iff_toInt_lt.mpr z)), rfl⟩
          have l20 : ((1) : Int32).toInt = (1) := by decide
          refine ok.ite (fun c19 => absurd c19 (show ¬ ((1 : Int32).toInt = 0) from by omega)) (fun c19 => ?_)
          refine ok.ck (by rw [((hFZ3.2.2 61 1 n12201_Qv33).trans hr61_1)]; decide) ?_
          refine ok.letE (v1 := 24) (by rw [((hFZ3.2.2 61 1 n12201_Qv33).trans hr61_1)]) ?_
          refine ok.letE (v1 := 43) (by decide) ?_
          refine ok.sub (show _ ≤ p1.toInt - (1 : Int) ∧ p1.toInt - (1 : Int) ≤ _ from by omega) (fun x14 hx14 => ?_)
          have hx14 : x14.toInt = p1.toInt - (1 : Int) := hx14
          refine ok.ck (show 0 ≤ x14.toInt ∧ x14.toInt < ((9080 : Nat) : Int) from by omega) ?_
          refine ok.letE (v1 := (X.1 43 (ix x14))) (hFZ3.1 43 (ix x14) n8600_Qv33) ?_
          unfold g_Judging_meetCalled_99
          refine ok.ck (show 0 ≤ x9.toInt ∧ x9.toInt < ((3000 : Nat) : Int) from by omega) ?_
          refine ok.wI (L := [13800]) hIZ3 (show True from trivial) (show (13800 : Nat) ∈ [13800] from by decide) (by decide) (fun Z21 hIZ21 hFZ21 hkZ21 hoZ21 => ?_)
          exact ok.ret ⟨((Fr.rf.tr hFZ3 sQv33_Qv34).tr hFZ21 (by decide)), hIZ21⟩
      · skip
        unfold g_Judging_meetCalled_61
        unfold g_Judging_meetCalled_62
        refine ok.letE (v1 := (X.1 61 14)) (hFZ3.1 61 14 n12214_Qv33) ?_
        have g22 : 0 ≤ (X.1 61 14).toInt ∧ (X.1 61 14).toInt ≤ 3000 := hI.1 61 14
        refine ok.sub (show _ ≤ (X.1 61 14).toInt - (1 : Int) ∧ (X.1 61 14).toInt - (1 : Int) ≤ _ from by omega) (fun x8 hx8 => ?_)
        have hx8 : x8.toInt = (X.1 61 14).toInt - (1 : Int) := hx8
        refine ok.eqv (fun x9 hx9 => ?_)
        have hx9 : ((0 : Int) < x8.toInt ∧ x9.toInt = x8.toInt) ∨ (¬ ((0 : Int) < x8.toInt) ∧ x9.toInt = (0 : Int)) := by
          rw [hx9]
          by_cases gc : (0 : Int32) < x8
          · rw [if_pos gc]; exact Or.inl ⟨(Int32.lt_iff_toInt_lt.mp gc), rfl⟩
          · rw [if_neg gc]; exact Or.inr ⟨(fun z => gc (Int32.lt_iff_toInt_lt.mpr z)), rfl⟩
        have l24 : ((0) : Int32).toInt = (0) := by decide
        refine ok.ite (fun c23 => ?_) (fun c23 => absurd (show (0 : Int32).toInt = 0 from by omega) c23)
        refine ok.letE (v1 := (X.1 61 3)) (hFZ3.1 61 3 n12203_Qv33) ?_
        have g25 : 0 ≤ (X.1 61 3).toInt ∧ (X.1 61 3).toInt ≤ 39 := hI.1 61 3
        unfold g_Judging_meetCalled_99
        refine ok.ck (show 0 ≤ x9.toInt ∧ x9.toInt < ((3000 : Nat) : Int) from by omega) ?_
        refine ok.wI (L := [13800]) hIZ3 (show True from trivial) (show (13800 : Nat) ∈ [13800] from by decide) (by decide) (fun Z26 hIZ26 hFZ26 hkZ26 hoZ26 => ?_)
        exact ok.ret ⟨((Fr.rf.tr hFZ3 sQv33_Qv34).tr hFZ26 (by decide)), hIZ26⟩
    · skip
      refine ok.bd (v_Judging_refuse_J24 hIZ3 ((hFZ3.2.2 61 1 n12201_Qv33).trans hr61_1) (show 0 ≤ p1.toInt ∧ p1.toInt ≤ 9079 from by omega)) ?_
      rintro r_27 Z29 ⟨hFZ29, hIZ29⟩
      unfold g_Judging_meetCalled_39
      refine ok.ck (by rw [(((hFZ29.2.2 61 1 (show (12201 : Nat) ∉ [12204, 12205] from by decide)).trans (hFZ3.2.2 61 1 n12201_Qv33)).trans hr61_1)]; decide) ?_
      refine ok.letE (v1 := 24) (by rw [(((hFZ29.2.2 61 1 (show (12201 : Nat) ∉ [12204, 12205] from by decide)).trans (hFZ3.2.2 61 1 n12201_Qv33)).trans hr61_1)]) ?_
      refine ok.letE (v1 := 42) (by decide) ?_
      refine ok.ck (show 0 ≤ p1.toInt ∧ p1.toInt < ((9080 : Nat) : Int) from by omega) ?_
      refine ok.letE (v1 := (X.1 42 (ix p1))) ((hFZ29.1 42 (ix p1) (show (8400 : Nat) ∉ [12204, 12205] from by decide)).trans (hFZ3.1 42 (ix p1) n8400_Qv33)) ?_
      have g30 : 0 ≤ (X.1 42 (ix p1)).toInt ∧ (X.1 42 (ix p1)).toInt ≤ 36 := hI.1 42 (ix p1)
      refine ok.ite (fun c31 => ?_) (fun c31 => ?_)
      · skip
        refine ok.ite (fun c32 => ?_) (fun c32 => ?_)
        · skip
          unfold g_Judging_meetCalled_61
          unfold g_Judging_meetCalled_62
          refine ok.letE (v1 := (X.1 61 14)) ((hFZ29.1 61 14 (show (12214 : Nat) ∉ [12204, 12205] from by decide)).trans (hFZ3.1 61 14 n12214_Qv33)) ?_
          have g33 : 0 ≤ (X.1 61 14).toInt ∧ (X.1 61 14).toInt ≤ 3000 := hI.1 61 14
          refine ok.sub (show _ ≤ (X.1 61 14).toInt - (1 : Int) ∧ (X.1 61 14).toInt - (1 : Int) ≤ _ from by omega) (fun x8 hx8 => ?_)
          have hx8 : x8.toInt = (X.1 61 14).toInt - (1 : Int) := hx8
          refine ok.eqv (fun x9 hx9 => ?_)
          have hx9 : ((0 : Int) < x8.toInt ∧ x9.toInt = x8.toInt) ∨ (¬ ((0 : Int) < x8.toInt) ∧ x9.toInt = (0 : Int)) := by
            rw [hx9]
            by_cases gc : (0 : Int32) < x8
            · rw [if_pos gc]; exact Or.inl ⟨(Int32.lt_iff_toInt_lt.mp gc), rfl⟩
            · rw [if_neg gc]; exact Or.inr ⟨(fun z => gc (Int32.lt_iff_toInt_lt.mpr z)), rfl⟩
          have l35 : ((0) : Int32).toInt = (0) := by decide
          refine ok.ite (fun c34 => ?_) (fun c34 => absurd (show (0 : Int32).toInt = 0 from by omega) c34)
          refine ok.letE (v1 := (X.1 61 3)) ((hFZ29.1 61 3 (show (12203 : Nat) ∉ [12204, 12205] from by decide)).trans (hFZ3.1 61 3 n12203_Qv33)) ?_
          have g36 : 0 ≤ (X.1 61 3).toInt ∧ (X.1 61 3).toInt ≤ 39 := hI.1 61 3
          unfold g_Judging_meetCalled_99
          refine ok.ck (show 0 ≤ x9.toInt ∧ x9.toInt < ((3000 : Nat) : Int) from by omega) ?_
          refine ok.wI (L := [13800]) hIZ29 (show True from trivial) (show (13800 : Nat) ∈ [13800] from by decide) (by decide) (fun Z37 hIZ37 hFZ37 hkZ37 hoZ37 => ?_)
          exact ok.ret ⟨(((Fr.rf.tr hFZ3 sQv33_Qv34).tr hFZ29 (by decide)).tr hFZ37 (by decide)), hIZ37⟩
        · skip
          unfold g_Judging_meetCalled_62
          refine ok.letE (v1 := (X.1 61 14)) ((hFZ29.1 61 14 (show (12214 : Nat) ∉ [12204, 12205] from by decide)).trans (hFZ3.1 61 14 n12214_Qv33)) ?_
          have g38 : 0 ≤ (X.1 61 14).toInt ∧ (X.1 61 14).toInt ≤ 3000 := hI.1 61 14
          refine ok.sub (show _ ≤ (X.1 61 14).toInt - (1 : Int) ∧ (X.1 61 14).toInt - (1 : Int) ≤ _ from by omega) (fun x8 hx8 => ?_)
          have hx8 : x8.toInt = (X.1 61 14).toInt - (1 : Int) := hx8
          refine ok.eqv (fun x9 hx9 => ?_)
          have hx9 : ((0 : Int) < x8.toInt ∧ x9.toInt = x8.toInt) ∨ (¬ ((0 : Int) < x8.toInt) ∧ x9.toInt = (0 : Int)) := by
            rw [hx9]
            by_cases gc : (0 : Int32) < x8
            · rw [if_pos gc]; exact Or.inl ⟨(Int32.lt_iff_toInt_lt.mp gc), rfl⟩
            · rw [if_neg gc]; exact Or.inr ⟨(fun z => gc (Int32.lt_iff_toInt_lt.mpr z)), rfl⟩
          have l40 : ((1) : Int32).toInt = (1) := by decide
          refine ok.ite (fun c39 => absurd c39 (show ¬ ((1 : Int32).toInt = 0) from by omega)) (fun c39 => ?_)
          refine ok.ck (by rw [(((hFZ29.2.2 61 1 (show (12201 : Nat) ∉ [12204, 12205] from by decide)).trans (hFZ3.2.2 61 1 n12201_Qv33)).trans hr61_1)]; decide) ?_
          refine ok.letE (v1 := 24) (by rw [(((hFZ29.2.2 61 1 (show (12201 : Nat) ∉ [12204, 12205] from by decide)).trans (hFZ3.2.2 61 1 n12201_Qv33)).trans hr61_1)]) ?_
          refine ok.letE (v1 := 43) (by decide) ?_
          refine ok.sub (show _ ≤ p1.toInt - (1 : Int) ∧ p1.toInt - (1 : Int) ≤ _ from by omega) (fun x14 hx14 => ?_)
          have hx14 : x14.toInt = p1.toInt - (1 : Int) := hx14
          refine ok.ck (show 0 ≤ x14.toInt ∧ x14.toInt < ((9080 : Nat) : Int) from by omega) ?_
          refine ok.letE (v1 := (X.1 43 (ix x14))) ((hFZ29.1 43 (ix x14) (show (8600 : Nat) ∉ [12204, 12205] from by decide)).trans (hFZ3.1 43 (ix x14) n8600_Qv33)) ?_
          unfold g_Judging_meetCalled_99
          refine ok.ck (show 0 ≤ x9.toInt ∧ x9.toInt < ((3000 : Nat) : Int) from by omega) ?_
          refine ok.wI (L := [13800]) hIZ29 (show True from trivial) (show (13800 : Nat) ∈ [13800] from by decide) (by decide) (fun Z41 hIZ41 hFZ41 hkZ41 hoZ41 => ?_)
          exact ok.ret ⟨(((Fr.rf.tr hFZ3 sQv33_Qv34).tr hFZ29 (by decide)).tr hFZ41 (by decide)), hIZ41⟩
      · skip
        unfold g_Judging_meetCalled_61
        unfold g_Judging_meetCalled_62
        refine ok.letE (v1 := (X.1 61 14)) ((hFZ29.1 61 14 (show (12214 : Nat) ∉ [12204, 12205] from by decide)).trans (hFZ3.1 61 14 n12214_Qv33)) ?_
        have g42 : 0 ≤ (X.1 61 14).toInt ∧ (X.1 61 14).toInt ≤ 3000 := hI.1 61 14
        refine ok.sub (show _ ≤ (X.1 61 14).toInt - (1 : Int) ∧ (X.1 61 14).toInt - (1 : Int) ≤ _ from by omega) (fun x8 hx8 => ?_)
        have hx8 : x8.toInt = (X.1 61 14).toInt - (1 : Int) := hx8
        refine ok.eqv (fun x9 hx9 => ?_)
        have hx9 : ((0 : Int) < x8.toInt ∧ x9.toInt = x8.toInt) ∨ (¬ ((0 : Int) < x8.toInt) ∧ x9.toInt = (0 : Int)) := by
          rw [hx9]
          by_cases gc : (0 : Int32) < x8
          · rw [if_pos gc]; exact Or.inl ⟨(Int32.lt_iff_toInt_lt.mp gc), rfl⟩
          · rw [if_neg gc]; exact Or.inr ⟨(fun z => gc (Int32.lt_iff_toInt_lt.mpr z)), rfl⟩
        have l44 : ((0) : Int32).toInt = (0) := by decide
        refine ok.ite (fun c43 => ?_) (fun c43 => absurd (show (0 : Int32).toInt = 0 from by omega) c43)
        refine ok.letE (v1 := (X.1 61 3)) ((hFZ29.1 61 3 (show (12203 : Nat) ∉ [12204, 12205] from by decide)).trans (hFZ3.1 61 3 n12203_Qv33)) ?_
        have g45 : 0 ≤ (X.1 61 3).toInt ∧ (X.1 61 3).toInt ≤ 39 := hI.1 61 3
        unfold g_Judging_meetCalled_99
        refine ok.ck (show 0 ≤ x9.toInt ∧ x9.toInt < ((3000 : Nat) : Int) from by omega) ?_
        refine ok.wI (L := [13800]) hIZ29 (show True from trivial) (show (13800 : Nat) ∈ [13800] from by decide) (by decide) (fun Z46 hIZ46 hFZ46 hkZ46 hoZ46 => ?_)
        exact ok.ret ⟨(((Fr.rf.tr hFZ3 sQv33_Qv34).tr hFZ29 (by decide)).tr hFZ46 (by decide)), hIZ46⟩
  · skip
    unfold g_Judging_meetCalled_39
    refine ok.ck (by rw [((hFZ3.2.2 61 1 n12201_Qv33).trans hr61_1)]; decide) ?_
    refine ok.letE (v1 := 24) (by rw [((hFZ3.2.2 61 1 n12201_Qv33).trans hr61_1)]) ?_
    refine ok.letE (v1 := 42) (by decide) ?_
    refine ok.ck (show 0 ≤ p1.toInt ∧ p1.toInt < ((9080 : Nat) : Int) from by omega) ?_
    refine ok.letE (v1 := (X.1 42 (ix p1))) (hFZ3.1 42 (ix p1) n8400_Qv33) ?_
    have g47 : 0 ≤ (X.1 42 (ix p1)).toInt ∧ (X.1 42 (ix p1)).toInt ≤ 36 := hI.1 42 (ix p1)
    refine ok.ite (fun c48 => ?_) (fun c48 => ?_)
    · skip
      refine ok.ite (fun c49 => ?_) (fun c49 => ?_)
      · skip
        unfold g_Judging_meetCalled_61
        unfold g_Judging_meetCalled_62
        refine ok.letE (v1 := (X.1 61 14)) (hFZ3.1 61 14 n12214_Qv33) ?_
        have g50 : 0 ≤ (X.1 61 14).toInt ∧ (X.1 61 14).toInt ≤ 3000 := hI.1 61 14
        refine ok.sub (show _ ≤ (X.1 61 14).toInt - (1 : Int) ∧ (X.1 61 14).toInt - (1 : Int) ≤ _ from by omega) (fun x8 hx8 => ?_)
        have hx8 : x8.toInt = (X.1 61 14).toInt - (1 : Int) := hx8
        refine ok.eqv (fun x9 hx9 => ?_)
        have hx9 : ((0 : Int) < x8.toInt ∧ x9.toInt = x8.toInt) ∨ (¬ ((0 : Int) < x8.toInt) ∧ x9.toInt = (0 : Int)) := by
          rw [hx9]
          by_cases gc : (0 : Int32) < x8
          · rw [if_pos gc]; exact Or.inl ⟨(Int32.lt_iff_toInt_lt.mp gc), rfl⟩
          · rw [if_neg gc]; exact Or.inr ⟨(fun z => gc (Int32.lt_iff_toInt_lt.mpr z)), rfl⟩
        have l52 : ((0) : Int32).toInt = (0) := by decide
        refine ok.ite (fun c51 => ?_) (fun c51 => absurd (show (0 : Int32).toInt = 0 from by omega) c51)
        refine ok.letE (v1 := (X.1 61 3)) (hFZ3.1 61 3 n12203_Qv33) ?_
        have g53 : 0 ≤ (X.1 61 3).toInt ∧ (X.1 61 3).toInt ≤ 39 := hI.1 61 3
        unfold g_Judging_meetCalled_99
        refine ok.ck (show 0 ≤ x9.toInt ∧ x9.toInt < ((3000 : Nat) : Int) from by omega) ?_
        refine ok.wI (L := [13800]) hIZ3 (show True from trivial) (show (13800 : Nat) ∈ [13800] from by decide) (by decide) (fun Z54 hIZ54 hFZ54 hkZ54 hoZ54 => ?_)
        exact ok.ret ⟨((Fr.rf.tr hFZ3 sQv33_Qv34).tr hFZ54 (by decide)), hIZ54⟩
      · skip
        unfold g_Judging_meetCalled_62
        refine ok.letE (v1 := (X.1 61 14)) (hFZ3.1 61 14 n12214_Qv33) ?_
        have g55 : 0 ≤ (X.1 61 14).toInt ∧ (X.1 61 14).toInt ≤ 3000 := hI.1 61 14
        refine ok.sub (show _ ≤ (X.1 61 14).toInt - (1 : Int) ∧ (X.1 61 14).toInt - (1 : Int) ≤ _ from by omega) (fun x8 hx8 => ?_)
        have hx8 : x8.toInt = (X.1 61 14).toInt - (1 : Int) := hx8
        refine ok.eqv (fun x9 hx9 => ?_)
        have hx9 : ((0 : Int) < x8.toInt ∧ x9.toInt = x8.toInt) ∨ (¬ ((0 : Int) < x8.toInt) ∧ x9.toInt = (0 : Int)) := by
          rw [hx9]
          by_cases gc : (0 : Int32) < x8
          · rw [if_pos gc]; exact Or.inl ⟨(Int32.lt_iff_toInt_lt.mp gc), rfl⟩
          · rw [if_neg gc]; exact Or.inr ⟨(fun z => gc (Int32.lt_iff_toInt_lt.mpr z)), rfl⟩
        have l57 : ((1) : Int32).toInt = (1) := by decide
        refine ok.ite (fun c56 => absurd c56 (show ¬ ((1 : Int32).toInt = 0) from by omega)) (fun c56 => ?_)
        refine ok.ck (by rw [((hFZ3.2.2 61 1 n12201_Qv33).trans hr61_1)]; decide) ?_
        refine ok.letE (v1 := 24) (by rw [((hFZ3.2.2 61 1 n12201_Qv33).trans hr61_1)]) ?_
        refine ok.letE (v1 := 43) (by decide) ?_
        refine ok.sub (show _ ≤ p1.toInt - (1 : Int) ∧ p1.toInt - (1 : Int) ≤ _ from by omega) (fun x14 hx14 => ?_)
        have hx14 : x14.toInt = p1.toInt - (1 : Int) := hx14
        refine ok.ck (show 0 ≤ x14.toInt ∧ x14.toInt < ((9080 : Nat) : Int) from by omega) ?_
        refine ok.letE (v1 := (X.1 43 (ix x14))) (hFZ3.1 43 (ix x14) n8600_Qv33) ?_
        unfold g_Judging_meetCalled_99
        refine ok.ck (show 0 ≤ x9.toInt ∧ x9.toInt < ((3000 : Nat) : Int) from by omega) ?_
        refine ok.wI (L := [13800]) hIZ3 (show True from trivial) (show (13800 : Nat) ∈ [13800] from by decide) (by decide) (fun Z58 hIZ58 hFZ58 hkZ58 hoZ58 => ?_)
        exact ok.ret ⟨((Fr.rf.tr hFZ3 sQv33_Qv34).tr hFZ58 (by decide)), hIZ58⟩
    · skip
      unfold g_Judging_meetCalled_61
      unfold g_Judging_meetCalled_62
      refine ok.letE (v1 := (X.1 61 14)) (hFZ3.1 61 14 n12214_Qv33) ?_
      have g59 : 0 ≤ (X.1 61 14).toInt ∧ (X.1 61 14).toInt ≤ 3000 := hI.1 61 14
      refine ok.sub (show _ ≤ (X.1 61 14).toInt - (1 : Int) ∧ (X.1 61 14).toInt - (1 : Int) ≤ _ from by omega) (fun x8 hx8 => ?_)
      have hx8 : x8.toInt = (X.1 61 14).toInt - (1 : Int) := hx8
      refine ok.eqv (fun x9 hx9 => ?_)
      have hx9 : ((0 : Int) < x8.toInt ∧ x9.toInt = x8.toInt) ∨ (¬ ((0 : Int) < x8.toInt) ∧ x9.toInt = (0 : Int)) := by
        rw [hx9]
        by_cases gc : (0 : Int32) < x8
        · rw [if_pos gc]; exact Or.inl ⟨(Int32.lt_iff_toInt_lt.mp gc), rfl⟩
        · rw [if_neg gc]; exact Or.inr ⟨(fun z => gc (Int32.lt_iff_toInt_lt.mpr z)), rfl⟩
      have l61 : ((0) : Int32).toInt = (0) := by decide
      refine ok.ite (fun c60 => ?_) (fun c60 => absurd (show (0 : Int32).toInt = 0 from by omega) c60)
      refine ok.letE (v1 := (X.1 61 3)) (hFZ3.1 61 3 n12203_Qv33) ?_
      have g62 : 0 ≤ (X.1 61 3).toInt ∧ (X.1 61 3).toInt ≤ 39 := hI.1 61 3
      unfold g_Judging_meetCalled_99
      refine ok.ck (show 0 ≤ x9.toInt ∧ x9.toInt < ((3000 : Nat) : Int) from by omega) ?_
      refine ok.wI (L := [13800]) hIZ3 (show True from trivial) (show (13800 : Nat) ∈ [13800] from by decide) (by decide) (fun Z63 hIZ63 hFZ63 hkZ63 hoZ63 => ?_)
      exact ok.ret ⟨((Fr.rf.tr hFZ3 sQv33_Qv34).tr hFZ63 (by decide)), hIZ63⟩
theorem sQv34_Qv32 : ∀ k ∈ Qv34, k ∈ Qv32 := by decide
set_option maxHeartbeats 4000000 in
theorem v_Judging_asTold_J24 {p1 : Int32} {p2 : Int32} {X : St} (hI : INV X) (hr61_1 : X.2.2 61 1 = 25) (h0 : 0 ≤ p1.toInt ∧ p1.toInt ≤ 39) : ok (g_Judging_asTold p1 p2 X) (fun r Y => (X = Y)) := by
  unfold g_Judging_asTold
  refine ok.ck (by rw [hr61_1]; decide) ?_
  refine ok.letE (v1 := 24) (by rw [hr61_1]) ?_
  refine ok.letE (v1 := 40) (by decide) ?_
  refine ok.ck (show 0 ≤ p1.toInt ∧ p1.toInt < ((40 : Nat) : Int) from by omega) ?_
  refine ok.letE (v1 := (X.1 40 (ix p1))) rfl ?_
  refine ok.ite (fun c1 => ?_) (fun c1 => ?_)
  · skip
    have g2 := i32_le (X.1 40 (ix p1))
    exact ok.ret rfl
  · skip
    exact ok.ret rfl
set_option maxHeartbeats 4000000 in
theorem v_Judging_judgeAsking_J24 {p1 : Int32} {X : St} (hI : INV X) (hr61_0 : X.2.2 61 0 = 56) (hr61_1 : X.2.2 61 1 = 25) (hr61_2 : X.2.2 61 2 = 26) (h0 : 0 ≤ p1.toInt ∧ p1.toInt ≤ 9079) (h1 : (X.1 42 (ix p1)).toInt = 32 → 0 ≤ (X.1 43 (ix p1)).toInt ∧ (X.1 43 (ix p1)).toInt ≤ 20000) : ok (g_Judging_judgeAsking p1 X) (fun r Y => (Fr YC Qv32 X Y ∧ INV Y)) := by
  unfold g_Judging_judgeAsking
  refine ok.ck (by rw [hr61_1]; decide) ?_
  refine ok.letE (v1 := 24) (by rw [hr61_1]) ?_
  refine ok.letE (v1 := 43) (by decide) ?_
  refine ok.ck (show 0 ≤ p1.toInt ∧ p1.toInt < ((9080 : Nat) : Int) from by omega) ?_
  refine ok.letE (v1 := (X.1 43 (ix p1))) rfl ?_
  refine ok.ck (by rw [hr61_1]; decide) ?_
  refine ok.letE (v1 := 24) (by rw [hr61_1]) ?_
  refine ok.letE (v1 := 42) (by decide) ?_
  refine ok.ck (show 0 ≤ p1.toInt ∧ p1.toInt < ((9080 : Nat) : Int) from by omega) ?_
  refine ok.letE (v1 := (X.1 42 (ix p1))) rfl ?_
  have g1 : 0 ≤ (X.1 42 (ix p1)).toInt ∧ (X.1 42 (ix p1)).toInt ≤ 36 := hI.1 42 (ix p1)
  refine ok.ite (fun c2 => ?_) (fun c2 => ?_)
  · skip
    refine ok.letE (v1 := (X.1 61 3)) rfl ?_
    have g3 : 0 ≤ (X.1 61 3).toInt ∧ (X.1 61 3).toInt ≤ 39 := hI.1 61 3
    refine ok.bd (v_Judging_meet_J24 hI hr61_0 hr61_1 hr61_2 (show 0 ≤ p1.toInt ∧ p1.toInt ≤ 9079 from by omega)) ?_
    rintro r_4 Z6 ⟨hFZ6, hIZ6⟩
    exact ok.ret ⟨(Fr.rf.tr hFZ6 sQv33_Qv32), hIZ6⟩
  · skip
    refine ok.ite (fun c7 => ?_) (fun c7 => ?_)
    · skip
      refine ok.letE (v1 := (X.1 61 3)) rfl ?_
      have g8 : 0 ≤ (X.1 61 3).toInt ∧ (X.1 61 3).toInt ≤ 39 := hI.1 61 3
      refine ok.bd (v_Judging_meet_J24 hI hr61_0 hr61_1 hr61_2 (show 0 ≤ p1.toInt ∧ p1.toInt ≤ 9079 from by omega)) ?_
      rintro r_9 Z11 ⟨hFZ11, hIZ11⟩
      exact ok.ret ⟨(Fr.rf.tr hFZ11 sQv33_Qv32), hIZ11⟩
    · skip
      refine ok.ite (fun c12 => ?_) (fun c12 => ?_)
      · skip
        refine ok.bd (v_Judging_meetForm_J24 hI hr61_0 hr61_1 hr61_2 (show 0 ≤ p1.toInt ∧ p1.toInt ≤ 9079 from by omega)) ?_
        rintro r_13 Z15 ⟨hFZ15, hIZ15⟩
        exact ok.ret ⟨(Fr.rf.tr hFZ15 sQv33_Qv32), hIZ15⟩
      · skip
        refine ok.ite (fun c16 => ?_) (fun c16 => ?_)
        · skip
          refine ok.bd (v_Judging_meetCalled_J24 hI hr61_0 hr61_1 hr61_2 (show 0 ≤ p1.toInt ∧ p1.toInt ≤ 9079 from by omega)) ?_
          rintro r_17 Z19 ⟨hFZ19, hIZ19⟩
          exact ok.ret ⟨(Fr.rf.tr hFZ19 sQv34_Qv32), hIZ19⟩
        · skip
          refine ok.ite (fun c20 => ?_) (fun c20 => ?_)
          · skip
            refine ok.bd (v_Judging_meetCalled_J24 hI hr61_0 hr61_1 hr61_2 (show 0 ≤ p1.toInt ∧ p1.toInt ≤ 9079 from by omega)) ?_
            rintro r_21 Z23 ⟨hFZ23, hIZ23⟩
            exact ok.ret ⟨(Fr.rf.tr hFZ23 sQv34_Qv32), hIZ23⟩
          · skip
            refine ok.ite (fun c24 => ?_) (fun c24 => ?_)
            · skip
              refine ok.ck (by rw [hr61_2]; decide) ?_
              refine ok.letE (v1 := 25) (by rw [hr61_2]) ?_
              refine ok.add (show _ ≤ (X.1 43 (ix p1)).toInt + (1 : Int) ∧ (X.1 43 (ix p1)).toInt + (1 : Int) ≤ _ from by omega) (fun x21 hx21 => ?_)
              have hx21 : x21.toInt = (X.1 43 (ix p1)).toInt + (1 : Int) := hx21
              refine ok.bd (v_Judging_below hI (show 0 ≤ x21.toInt ∧ x21.toInt ≤ 20001 from by omega)) ?_
              rintro x22 _ rfl
              refine ok.bd (v_Kinds_paramOf_25 hI) ?_
              rintro x24 _ rfl
              refine ok.add (show _ ≤ (X.1 43 (ix p1)).toInt + (1 : Int) ∧ (X.1 43 (ix p1)).toInt + (1 : Int) ≤ _ from by omega) (fun x26 hx26 => ?_)
              have hx26 : x26.toInt = (X.1 43 (ix p1)).toInt + (1 : Int) := hx26
              refine ok.bd (v_Judging_takerBelow hI (show 0 ≤ x26.toInt ∧ x26.toInt ≤ 20001 from by omega)) ?_
              rintro x27 _ rfl
              refine ok.bd (v_Judging_meet_J24 hI hr61_0 hr61_1 hr61_2 (show 0 ≤ p1.toInt ∧ p1.toInt ≤ 9079 from by omega)) ?_
              rintro r_28 Z30 ⟨hFZ30, hIZ30⟩
              exact ok.ret ⟨(Fr.rf.tr hFZ30 sQv33_Qv32), hIZ30⟩
            · skip
              refine ok.ite (fun c31 => ?_) (fun c31 => ?_)
              · skip
                refine ok.ck (by rw [hr61_2]; decide) ?_
                refine ok.letE (v1 := 25) (by rw [hr61_2]) ?_
                refine ok.bd (v_Judging_below hI (show 0 ≤ (2 : Int) ∧ (2 : Int) ≤ 20001 from by omega)) ?_
                rintro x32 _ rfl
                refine ok.bd (v_Kinds_givesOf_25 hI) ?_
                rintro x34 _ rfl
                refine ok.letE (v1 := (X.1 61 3)) rfl ?_
                have g34 : 0 ≤ (X.1 61 3).toInt ∧ (X.1 61 3).toInt ≤ 39 := hI.1 61 3
                refine ok.bd (v_Judging_meet_J24 hI hr61_0 hr61_1 hr61_2 (show 0 ≤ p1.toInt ∧ p1.toInt ≤ 9079 from by omega)) ?_
                rintro r_35 Z37 ⟨hFZ37, hIZ37⟩
                exact ok.ret ⟨(Fr.rf.tr hFZ37 sQv33_Qv32), hIZ37⟩
              · skip
                refine ok.ite (fun c38 => ?_) (fun c38 => ?_)
                · skip
                  refine ok.letE (v1 := (X.1 61 3)) rfl ?_
                  have g39 : 0 ≤ (X.1 61 3).toInt ∧ (X.1 61 3).toInt ≤ 39 := hI.1 61 3
                  refine ok.letE (v1 := (X.1 61 3)) rfl ?_
                  refine ok.ck (show 0 ≤ (X.1 61 3).toInt ∧ (X.1 61 3).toInt < ((40 : Nat) : Int) from by omega) ?_
                  refine ok.letE (v1 := (X.1 62 (ix (X.1 61 3)))) rfl ?_
                  refine ok.ite (fun c40 => ?_) (fun c40 => ?_)
                  · skip
                    have g41 := i32_le (X.1 62 (ix (X.1 61 3)))
                    refine ok.ck (by rw [hr61_2]; decide) ?_
                    refine ok.letE (v1 := 25) (by rw [hr61_2]) ?_
                    refine ok.letE (v1 := (X.1 61 3)) rfl ?_
                    refine ok.bd (v_Judging_asTold_J24 hI hr61_1 (show 0 ≤ (X.1 61 3).toInt ∧ (X.1 61 3).toInt ≤ 39 from by omega)) ?_
                    rintro x50 _ rfl
                    refine ok.bd (v_Kinds_hasAny_25 hI) ?_
                    rintro x52 _ rfl
                    refine ok.ite (fun c44 => ?_) (fun c44 => ?_)
                    · skip
                      have g45 := i32_le x52
                      unfold g_Judging_judgeAsking_211
                      refine ok.ck (show 0 ≤ (X.1 61 3).toInt ∧ (X.1 61 3).toInt < ((40 : Nat) : Int) from by omega) ?_
                      refine ok.wI (L := [12400]) hI (show True from trivial) (show (12400 : Nat) ∈ [12400] from by decide) (by decide) (fun Z46 hIZ46 hFZ46 hkZ46 hoZ46 => ?_)
                      refine ok.letE (v1 := (X.1 61 3)) (hFZ46.1 61 3 (show (12203 : Nat) ∉ [12400] from by decide)) ?_
                      refine ok.bd (v_Judging_asTold_J24 hIZ46 ((hFZ46.2.2 61 1 (show (12201 : Nat) ∉ [12400] from by decide)).trans hr61_1) (show 0 ≤ (X.1 61 3).toInt ∧ (X.1 61 3).toInt ≤ 39 from by omega)) ?_
                      rintro x44 _ rfl
                      refine ok.letE (v1 := (X.1 61 3)) (hFZ46.1 61 3 (show (12203 : Nat) ∉ [12400] from by decide)) ?_
                      refine ok.bd (v_Judging_meet_J24 hIZ46 ((hFZ46.2.2 61 0 (show (12200 : Nat) ∉ [12400] from by decide)).trans hr61_0) ((hFZ46.2.2 61 1 (show (12201 : Nat) ∉ [12400] from by decide)).trans hr61_1) ((hFZ46.2.2 61 2 (show (12202 : Nat) ∉ [12400] from by decide)).trans hr61_2) (show 0 ≤ p1.toInt ∧ p1.toInt ≤ 9079 from by omega)) ?_
                      rintro r_48 Z50 ⟨hFZ50, hIZ50⟩
                      exact ok.ret ⟨((Fr.rf.tr hFZ46 (by decide)).tr hFZ50 sQv33_Qv32), hIZ50⟩
                    · skip
                      unfold g_Judging_judgeAsking_206
                      unfold g_Judging_judgeAsking_211
                      refine ok.ck (show 0 ≤ (X.1 61 3).toInt ∧ (X.1 61 3).toInt < ((40 : Nat) : Int) from by omega) ?_
                      refine ok.wI (L := [12400]) hI (show True from trivial) (show (12400 : Nat) ∈ [12400] from by decide) (by decide) (fun Z51 hIZ51 hFZ51 hkZ51 hoZ51 => ?_)
                      refine ok.letE (v1 := (X.1 61 3)) (hFZ51.1 61 3 (show (12203 : Nat) ∉ [12400] from by decide)) ?_
                      refine ok.bd (v_Judging_asTold_J24 hIZ51 ((hFZ51.2.2 61 1 (show (12201 : Nat) ∉ [12400] from by decide)).trans hr61_1) (show 0 ≤ (X.1 61 3).toInt ∧ (X.1 61 3).toInt ≤ 39 from by omega)) ?_
                      rintro x44 _ rfl
                      refine ok.letE (v1 := (X.1 61 3)) (hFZ51.1 61 3 (show (12203 : Nat) ∉ [12400] from by decide)) ?_
                      refine ok.bd (v_Judging_meet_J24 hIZ51 ((hFZ51.2.2 61 0 (show (12200 : Nat) ∉ [12400] from by decide)).trans hr61_0) ((hFZ51.2.2 61 1 (show (12201 : Nat) ∉ [12400] from by decide)).trans hr61_1) ((hFZ51.2.2 61 2 (show (12202 : Nat) ∉ [12400] from by decide)).trans hr61_2) (show 0 ≤ p1.toInt ∧ p1.toInt ≤ 9079 from by omega)) ?_
                      rintro r_53 Z55 ⟨hFZ55, hIZ55⟩
                      exact ok.ret ⟨((Fr.rf.tr hFZ51 (by decide)).tr hFZ55 sQv33_Qv32), hIZ55⟩
                  · skip
                    unfold g_Judging_judgeAsking_206
                    unfold g_Judging_judgeAsking_211
                    refine ok.ck (show 0 ≤ (X.1 61 3).toInt ∧ (X.1 61 3).toInt < ((40 : Nat) : Int) from by omega) ?_
                    refine ok.wI (L := [12400]) hI (show True from trivial) (show (12400 : Nat) ∈ [12400] from by decide) (by decide) (fun Z56 hIZ56 hFZ56 hkZ56 hoZ56 => ?_)
                    refine ok.letE (v1 := (X.1 61 3)) (hFZ56.1 61 3 (show (12203 : Nat) ∉ [12400] from by decide)) ?_
                    refine ok.bd (v_Judging_asTold_J24 hIZ56 ((hFZ56.2.2 61 1 (show (12201 : Nat) ∉ [12400] from by decide)).trans hr61_1) (show 0 ≤ (X.1 61 3).toInt ∧ (X.1 61 3).toInt ≤ 39 from by omega)) ?_
                    rintro x44 _ rfl
                    refine ok.letE (v1 := (X.1 61 3)) (hFZ56.1 61 3 (show (12203 : Nat) ∉ [12400] from by decide)) ?_
                    refine ok.bd (v_Judging_meet_J24 hIZ56 ((hFZ56.2.2 61 0 (show (12200 : Nat) ∉ [12400] from by decide)).trans hr61_0) ((hFZ56.2.2 61 1 (show (12201 : Nat) ∉ [12400] from by decide)).trans hr61_1) ((hFZ56.2.2 61 2 (show (12202 : Nat) ∉ [12400] from by decide)).trans hr61_2) (show 0 ≤ p1.toInt ∧ p1.toInt ≤ 9079 from by omega)) ?_
                    rintro r_58 Z60 ⟨hFZ60, hIZ60⟩
                    exact ok.ret ⟨((Fr.rf.tr hFZ56 (by decide)).tr hFZ60 sQv33_Qv32), hIZ60⟩
                · skip
                  refine ok.ite (fun c61 => ?_) (fun c61 => ?_)
                  · skip
                    refine ok.letE (v1 := (X.1 61 3)) rfl ?_
                    have g62 : 0 ≤ (X.1 61 3).toInt ∧ (X.1 61 3).toInt ≤ 39 := hI.1 61 3
                    refine ok.ck (show 0 ≤ (X.1 61 3).toInt ∧ (X.1 61 3).toInt < ((40 : Nat) : Int) from by omega) ?_
                    refine ok.letE (v1 := (X.1 64 (ix (X.1 61 3)))) rfl ?_
                    refine ok.letE (v1 := (X.1 61 3)) rfl ?_
                    refine ok.bd (v_Judging_meet_J24 hI hr61_0 hr61_1 hr61_2 (show 0 ≤ p1.toInt ∧ p1.toInt ≤ 9079 from by omega)) ?_
                    rintro r_63 Z65 ⟨hFZ65, hIZ65⟩
                    exact ok.ret ⟨(Fr.rf.tr hFZ65 sQv33_Qv32), hIZ65⟩
                  · skip
                    refine ok.letE (v1 := (X.1 61 14)) rfl ?_
                    have g66 : 0 ≤ (X.1 61 14).toInt ∧ (X.1 61 14).toInt ≤ 3000 := hI.1 61 14
                    refine ok.sub (show _ ≤ (X.1 61 14).toInt - (1 : Int) ∧ (X.1 61 14).toInt - (1 : Int) ≤ _ from by omega) (fun x60 hx60 => ?_)
                    have hx60 : x60.toInt = (X.1 61 14).toInt - (1 : Int) := hx60
                    refine ok.eqv (fun x61 hx61 => ?_)
                    have hx61 : ((0 : Int) < x60.toInt ∧ x61.toInt = x60.toInt) ∨ (¬ ((0 : Int) < x60.toInt) ∧ x61.toInt = (0 : Int)) := by
                      rw [hx61]
                      by_cases gc : (0 : Int32) < x60
                      · rw [if_pos gc]; exact Or.inl ⟨(Int32.lt_iff_toInt_lt.mp gc), rfl⟩
                      · rw [if_neg gc]; exact Or.inr ⟨(fun z => gc (Int32.lt_iff_toInt_lt.mpr z)), rfl⟩
                    refine ok.ck (show 0 ≤ x61.toInt ∧ x61.toInt < ((3000 : Nat) : Int) from by omega) ?_
                    refine ok.wI (L := [13600]) hI (show 0 ≤ p1.toInt ∧ p1.toInt ≤ 9079 from by omega) (show (13600 : Nat) ∈ [13600] from by decide) (by decide) (fun Z67 hIZ67 hFZ67 hkZ67 hoZ67 => ?_)
                    exact ok.ret ⟨(Fr.rf.tr hFZ67 (by decide)), hIZ67⟩
theorem sQv32_Qv26 : ∀ k ∈ Qv32, k ∈ Qv26 := by decide
theorem n12600_Qv26 : (12600 : Nat) ∉ Qv26 := by decide
set_option maxHeartbeats 4000000 in
theorem v_Judging_judgePart_J24 {p1 : Int32} {X : St} (hI : INV X) (hr61_0 : X.2.2 61 0 = 56) (hr61_1 : X.2.2 61 1 = 25) (hr61_2 : X.2.2 61 2 = 26) (h0 : 0 ≤ p1.toInt ∧ p1.toInt ≤ 39) (h1 : p1.toInt < (X.1 24 1).toInt) (hP : PGC 24 42 43 41 X) : ok (g_Judging_judgePart p1 X) (fun r Y => (Fr YC Qv26 X Y ∧ INV Y)) := by
  unfold g_Judging_judgePart
  refine ok.wI (L := [12203]) hI (show 0 ≤ p1.toInt ∧ p1.toInt ≤ 39 from by omega) (show (12203 : Nat) ∈ [12203] from by decide) (by decide) (fun Z1 hIZ1 hFZ1 hkZ1 hoZ1 => ?_)
  refine ok.wI (L := [12214]) hIZ1 (show 0 ≤ (0 : Int) ∧ (0 : Int) ≤ 3000 from by omega) (show (12214 : Nat) ∈ [12214] from by decide) (by decide) (fun Z2 hIZ2 hFZ2 hkZ2 hoZ2 => ?_)
  have lpu3 : ∀ (n : Nat), ∀ (a_1u3 : Int32) (a_2u3 : Int32) (Zu3 : St), INV Zu3 → Fr YC Qv26 X Zu3 → (0 ≤ a_1u3.toInt ∧ a_1u3.toInt ≤ 39) → (a_1u3.toInt < (X.1 24 1).toInt) → (0 ≤ a_2u3.toInt ∧ a_2u3.toInt ≤ 4) → (5 - a_2u3.toInt).toNat < n → ok (g_Judging_judgePart_12 n a_1u3 a_2u3 Zu3) (fun r Y => (Fr YC Qv26 X Y ∧ INV Y)) := by
    intro n
    unfold g_Judging_judgePart_12
    refine lp_indN (P := fun (n : Nat) (r_u3 : Int32 → Int32 → St → Option (Int32 × St)) => ∀ (a_1u3 : Int32) (a_2u3 : Int32) (Zu3 : St), INV Zu3 → Fr YC Qv26 X Zu3 → (0 ≤ a_1u3.toInt ∧ a_1u3.toInt ≤ 39) → (a_1u3.toInt < (X.1 24 1).toInt) → (0 ≤ a_2u3.toInt ∧ a_2u3.toInt ≤ 4) → (5 - a_2u3.toInt).toNat < n → ok (r_u3 a_1u3 a_2u3 Zu3) (fun r Y => (Fr YC Qv26 X Y ∧ INV Y))) ?_ ?_ n
    · intro a_1u3 a_2u3 Zu3 hIu3 hFu3 u3_0 u3_1 u3_2  hm; exact absurd hm (Nat.not_lt_zero _)
    · intro n r_u3 ih_u3 a_1u3 a_2u3 Zu3 hIu3 hFu3 u3_0 u3_1 u3_2  hmu3
      unfold g_Judging_judgePart_12_s
      refine ok.ck (by rw [((hFu3.2.2 61 1 n12201_Qv26).trans hr61_1)]; decide) ?_
      refine ok.letE (v1 := 24) (by rw [((hFu3.2.2 61 1 n12201_Qv26).trans hr61_1)]) ?_
      refine ok.letE (v1 := 37) (by decide) ?_
      refine ok.ck (show 0 ≤ a_1u3.toInt ∧ a_1u3.toInt < ((40 : Nat) : Int) from by omega) ?_
      refine ok.letE (v1 := (X.1 37 (ix a_1u3))) (hFu3.1 37 (ix a_1u3) n7400_Qv26) ?_
      have g4 : 0 ≤ (X.1 37 (ix a_1u3)).toInt ∧ (X.1 37 (ix a_1u3)).toInt ≤ 4 := hI.1 37 (ix a_1u3)
      refine ok.ite (fun c5 => ?_) (fun c5 => ?_)
      · skip
        refine ok.ck (by rw [((hFu3.2.2 61 1 n12201_Qv26).trans hr61_1)]; decide) ?_
        refine ok.letE (v1 := 24) (by rw [((hFu3.2.2 61 1 n12201_Qv26).trans hr61_1)]) ?_
        refine ok.letE (v1 := 41) (by decide) ?_
        refine ok.ck (show 0 ≤ a_1u3.toInt ∧ a_1u3.toInt < ((41 : Nat) : Int) from by omega) ?_
        refine ok.letE (v1 := (X.1 41 (ix a_1u3))) (hFu3.1 41 (ix a_1u3) n8200_Qv26) ?_
        have g6 : 0 ≤ (X.1 41 (ix a_1u3)).toInt ∧ (X.1 41 (ix a_1u3)).toInt ≤ 9080 := hI.1 41 (ix a_1u3)
        have ehq7 := ixc (z := a_1u3) (by omega)
        have := (show 0 ≤ (X.1 24 6).toInt ∧ (X.1 24 6).toInt ≤ 9080 from hI.1 24 6)
        have := (show 0 ≤ (X.1 24 1).toInt ∧ (X.1 24 1).toInt ≤ 40 from hI.1 24 1)
        have hq7 := hP.2 (ix a_1u3) (by omega)
        have lpu8 : ∀ (n : Nat), ∀ (a_1u8 : Int32) (a_2u8 : Int32) (Zu8 : St), INV Zu8 → Fr YC Qv26 X Zu8 → (0 ≤ a_1u8.toInt ∧ a_1u8.toInt ≤ 39) → (a_1u8.toInt < (X.1 24 1).toInt) → (0 ≤ a_2u8.toInt ∧ a_2u8.toInt ≤ 9080) → (9081 - a_2u8.toInt).toNat < n → ok (g_Judging_judgePart_57 n a_1u8 a_2u8 Zu8) (fun r Y => (Fr YC Qv26 X Y ∧ INV Y)) := by
          intro n
          unfold g_Judging_judgePart_57
          refine lp_indN (P := fun (n : Nat) (r_u8 : Int32 → Int32 → St → Option (Int32 × St)) => ∀ (a_1u8 : Int32) (a_2u8 : Int32) (Zu8 : St), INV Zu8 → Fr YC Qv26 X Zu8 → (0 ≤ a_1u8.toInt ∧ a_1u8.toInt ≤ 39) → (a_1u8.toInt < (X.1 24 1).toInt) → (0 ≤ a_2u8.toInt ∧ a_2u8.toInt ≤ 9080) → (9081 - a_2u8.toInt).toNat < n → ok (r_u8 a_1u8 a_2u8 Zu8) (fun r Y => (Fr YC Qv26 X Y ∧ INV Y))) ?_ ?_ n
          · intro a_1u8 a_2u8 Zu8 hIu8 hFu8 u8_0 u8_1 u8_2  hm; exact absurd hm (Nat.not_lt_zero _)
          · intro n r_u8 ih_u8 a_1u8 a_2u8 Zu8 hIu8 hFu8 u8_0 u8_1 u8_2  hmu8
            unfold g_Judging_judgePart_57_s
            refine ok.ck (by rw [((hFu8.2.2 61 1 n12201_Qv26).trans hr61_1)]; decide) ?_
            refine ok.letE (v1 := 24) (by rw [((hFu8.2.2 61 1 n12201_Qv26).trans hr61_1)]) ?_
            refine ok.letE (v1 := 41) (by decide) ?_
            refine ok.add (show _ ≤ a_1u8.toInt + (1 : Int) ∧ a_1u8.toInt + (1 : Int) ≤ _ from by omega) (fun x11 hx11 => ?_)
            have hx11 : x11.toInt = a_1u8.toInt + (1 : Int) := hx11
            refine ok.ck (show 0 ≤ x11.toInt ∧ x11.toInt < ((41 : Nat) : Int) from by omega) ?_
            refine ok.letE (v1 := (X.1 41 (ix x11))) (hFu8.1 41 (ix x11) n8200_Qv26) ?_
            have g9 : 0 ≤ (X.1 41 (ix x11)).toInt ∧ (X.1 41 (ix x11)).toInt ≤ 9080 := hI.1 41 (ix x11)
            have ehq10 := ixc (z := x11) (by omega)
            have := (show 0 ≤ (X.1 24 6).toInt ∧ (X.1 24 6).toInt ≤ 9080 from hI.1 24 6)
            have := (show 0 ≤ (X.1 24 1).toInt ∧ (X.1 24 1).toInt ≤ 40 from hI.1 24 1)
            have hq10 := hP.2 (ix x11) (by omega)
            refine ok.ite (fun c11 => ?_) (fun c11 => ?_)
            · skip
              exact ok.ret ⟨(Fr.rf.tr hFu8 (fun _ q => q)), hIu8⟩
            · skip
              refine ok.letE (v1 := (Zu8.1 61 4)) rfl ?_
              refine ok.ite (fun c12 => ?_) (fun c12 => ?_)
              · skip
                have g13 := i32_le (Zu8.1 61 4)
                refine ok.ck (by rw [((hFu8.2.2 61 1 n12201_Qv26).trans hr61_1)]; decide) ?_
                refine ok.letE (v1 := 24) (by rw [((hFu8.2.2 61 1 n12201_Qv26).trans hr61_1)]) ?_
                refine ok.letE (v1 := 42) (by decide) ?_
                refine ok.ck (show 0 ≤ a_2u8.toInt ∧ a_2u8.toInt < ((9080 : Nat) : Int) from by omega) ?_
                refine ok.letE (v1 := (X.1 42 (ix a_2u8))) (hFu8.1 42 (ix a_2u8) n8400_Qv26) ?_
                have g14 : 0 ≤ (X.1 42 (ix a_2u8)).toInt ∧ (X.1 42 (ix a_2u8)).toInt ≤ 36 := hI.1 42 (ix a_2u8)
                have ehq15 := ixc (z := a_2u8) (by omega)
                have := (show 0 ≤ (X.1 24 6).toInt ∧ (X.1 24 6).toInt ≤ 9080 from hI.1 24 6)
                have := (show 0 ≤ (X.1 24 1).toInt ∧ (X.1 24 1).toInt ≤ 40 from hI.1 24 1)
                have hq15 := hP.1 (ix a_2u8) (by omega)
                refine ok.ite (fun c16 => ?_) (fun c16 => ?_)
                · skip
                  refine ok.ck (by rw [((hFu8.2.2 61 1 n12201_Qv26).trans hr61_1)]; decide) ?_
                  refine ok.letE (v1 := 24) (by rw [((hFu8.2.2 61 1 n12201_Qv26).trans hr61_1)]) ?_
                  refine ok.letE (v1 := 42) (by decide) ?_
                  refine ok.ck (show 0 ≤ a_2u8.toInt ∧ a_2u8.toInt < ((9080 : Nat) : Int) from by omega) ?_
                  refine ok.letE (v1 := (X.1 42 (ix a_2u8))) (hFu8.1 42 (ix a_2u8) n8400_Qv26) ?_
                  refine ok.ite (fun c17 => ?_) (fun c17 => ?_)
                  · skip
                    refine ok.ck (by rw [((hFu8.2.2 61 1 n12201_Qv26).trans hr61_1)]; decide) ?_
                    refine ok.letE (v1 := 24) (by rw [((hFu8.2.2 61 1 n12201_Qv26).trans hr61_1)]) ?_
                    refine ok.letE (v1 := 42) (by decide) ?_
                    refine ok.ck (show 0 ≤ a_2u8.toInt ∧ a_2u8.toInt < ((9080 : Nat) : Int) from by omega) ?_
                    refine ok.letE (v1 := (X.1 42 (ix a_2u8))) (hFu8.1 42 (ix a_2u8) n8400_Qv26) ?_
                    refine ok.ck (by rw [((hFu8.2.2 61 1 n12201_Qv26).trans hr61_1)]; decide) ?_
                    refine ok.letE (v1 := 24) (by rw [((hFu8.2.2 61 1 n12201_Qv26).trans hr61_1)]) ?_
                    refine ok.letE (v1 := 43) (by decide) ?_
                    refine ok.ck (show 0 ≤ a_2u8.toInt ∧ a_2u8.toInt < ((9080 : Nat) : Int) from by omega) ?_
                    refine ok.letE (v1 := (X.1 43 (ix a_2u8))) (hFu8.1 43 (ix a_2u8) n8600_Qv26) ?_
                    refine ok.bd (v_Judging_judgePlain_J24 hIu8 ((hFu8.2.2 61 0 n12200_Qv26).trans hr61_0) ((hFu8.2.2 61 1 n12201_Qv26).trans hr61_1) ((hFu8.2.2 61 2 n12202_Qv26).trans hr61_2) (show 0 ≤ (X.1 42 (ix a_2u8)).toInt ∧ (X.1 42 (ix a_2u8)).toInt ≤ 10 from by omega) (show (X.1 42 (ix a_2u8)).toInt = 10 → 0 ≤ (X.1 43 (ix a_2u8)).toInt ∧ (X.1 43 (ix a_2u8)).toInt ≤ 20000 from by omega)) ?_
                    rintro r_18 Z20 ⟨hFZ20, hIZ20⟩
                    unfold g_Judging_judgePart_172
                    refine ok.inc (by decide) (show _ ≤ a_2u8.toInt + (1) ∧ a_2u8.toInt + (1) ≤ _ from by omega) (fun x27 hx27 => ?_)
                    have hx27 : x27.toInt = a_2u8.toInt + (1) := hx27
                    exact ih_u8 a_1u8 x27 Z20 hIZ20 ((Fr.rf.tr hFu8 (fun _ q => q)).tr hFZ20 sQv27_Qv26) (show 0 ≤ a_1u8.toInt ∧ a_1u8.toInt ≤ 39 from by omega) (show a_1u8.toInt < (X.1 24 1).toInt from by have := (show 0 ≤ (X.1 24 1).toInt ∧ (X.1 24 1).toInt ≤ 40 from hI.1 24 1); omega) (show 0 ≤ x27.toInt ∧ x27.toInt ≤ 9080 from by omega) (show (9081 - x27.toInt).toNat < _ from by omega)
                  · skip
                    refine ok.ck (by rw [((hFu8.2.2 61 1 n12201_Qv26).trans hr61_1)]; decide) ?_
                    refine ok.letE (v1 := 24) (by rw [((hFu8.2.2 61 1 n12201_Qv26).trans hr61_1)]) ?_
                    refine ok.letE (v1 := 42) (by decide) ?_
                    refine ok.ck (show 0 ≤ a_2u8.toInt ∧ a_2u8.toInt < ((9080 : Nat) : Int) from by omega) ?_
                    refine ok.letE (v1 := (X.1 42 (ix a_2u8))) (hFu8.1 42 (ix a_2u8) n8400_Qv26) ?_
                    refine ok.ck (by rw [((hFu8.2.2 61 1 n12201_Qv26).trans hr61_1)]; decide) ?_
                    refine ok.letE (v1 := 24) (by rw [((hFu8.2.2 61 1 n12201_Qv26).trans hr61_1)]) ?_
                    refine ok.letE (v1 := 43) (by decide) ?_
                    refine ok.ck (show 0 ≤ a_2u8.toInt ∧ a_2u8.toInt < ((9080 : Nat) : Int) from by omega) ?_
                    refine ok.letE (v1 := (X.1 43 (ix a_2u8))) (hFu8.1 43 (ix a_2u8) n8600_Qv26) ?_
                    refine ok.bd (v_Judging_judgeWork_J24 hIu8 ((hFu8.2.2 61 2 n12202_Qv26).trans hr61_2) (show 11 ≤ (X.1 42 (ix a_2u8)).toInt ∧ (X.1 42 (ix a_2u8)).toInt ≤ 26 from by omega) (show (X.1 42 (ix a_2u8)).toInt = 16 → 0 ≤ (X.1 43 (ix a_2u8)).toInt ∧ (X.1 43 (ix a_2u8)).toInt ≤ 20000 from by omega)) ?_
                    rintro r_21 Z23 ⟨hFZ23, hIZ23⟩
                    unfold g_Judging_judgePart_172
                    refine ok.inc (by decide) (show _ ≤ a_2u8.toInt + (1) ∧ a_2u8.toInt + (1) ≤ _ from by omega) (fun x27 hx27 => ?_)
                    have hx27 : x27.toInt = a_2u8.toInt + (1) := hx27
                    exact ih_u8 a_1u8 x27 Z23 hIZ23 ((Fr.rf.tr hFu8 (fun _ q => q)).tr hFZ23 sQv31_Qv26) (show 0 ≤ a_1u8.toInt ∧ a_1u8.toInt ≤ 39 from by omega) (show a_1u8.toInt < (X.1 24 1).toInt from by have := (show 0 ≤ (X.1 24 1).toInt ∧ (X.1 24 1).toInt ≤ 40 from hI.1 24 1); omega) (show 0 ≤ x27.toInt ∧ x27.toInt ≤ 9080 from by omega) (show (9081 - x27.toInt).toNat < _ from by omega)
                · skip
                  refine ok.ck (by rw [((hFu8.2.2 61 1 n12201_Qv26).trans hr61_1)]; decide) ?_
                  refine ok.letE (v1 := 24) (by rw [((hFu8.2.2 61 1 n12201_Qv26).trans hr61_1)]) ?_
                  refine ok.letE (v1 := 44) (by decide) ?_
                  refine ok.ck (show 0 ≤ a_2u8.toInt ∧ a_2u8.toInt < ((9080 : Nat) : Int) from by omega) ?_
                  refine ok.wI (L := [8800]) hIu8 (show True from trivial) (show (8800 : Nat) ∈ [8800] from by decide) (by decide) (fun Z24 hIZ24 hFZ24 hkZ24 hoZ24 => ?_)
                  refine ok.bd (v_Judging_judgeAsking_J24 hIZ24 (((hFZ24.2.2 61 0 (show (12200 : Nat) ∉ [8800] from by decide)).trans (hFu8.2.2 61 0 n12200_Qv26)).trans hr61_0) (((hFZ24.2.2 61 1 (show (12201 : Nat) ∉ [8800] from by decide)).trans (hFu8.2.2 61 1 n12201_Qv26)).trans hr61_1) (((hFZ24.2.2 61 2 (show (12202 : Nat) ∉ [8800] from by decide)).trans (hFu8.2.2 61 2 n12202_Qv26)).trans hr61_2) (show 0 ≤ a_2u8.toInt ∧ a_2u8.toInt ≤ 9079 from by omega) (show (Z24.1 42 (ix a_2u8)).toInt = 32 → 0 ≤ (Z24.1 43 (ix a_2u8)).toInt ∧ (Z24.1 43 (ix a_2u8)).toInt ≤ 20000 from by have := (show (Z24.1 42 (ix a_2u8)).toInt = (X.1 42 (ix a_2u8)).toInt from congrArg Int32.toInt ((hFZ24.1 42 (ix a_2u8) (show (8400 : Nat) ∉ [8800] from by decide)).trans (hFu8.1 42 (ix a_2u8) n8400_Qv26))); have := (show 0 ≤ (X.1 42 (ix a_2u8)).toInt ∧ (X.1 42 (ix a_2u8)).toInt ≤ 36 from hI.1 42 (ix a_2u8)); have := (show (Z24.1 43 (ix a_2u8)).toInt = (X.1 43 (ix a_2u8)).toInt from congrArg Int32.toInt ((hFZ24.1 43 (ix a_2u8) (show (8600 : Nat) ∉ [8800] from by decide)).trans (hFu8.1 43 (ix a_2u8) n8600_Qv26))); omega)) ?_
                  rintro r_25 Z27 ⟨hFZ27, hIZ27⟩
                  unfold g_Judging_judgePart_172
                  refine ok.inc (by decide) (show _ ≤ a_2u8.toInt + (1) ∧ a_2u8.toInt + (1) ≤ _ from by omega) (fun x27 hx27 => ?_)
                  have hx27 : x27.toInt = a_2u8.toInt + (1) := hx27
                  exact ih_u8 a_1u8 x27 Z27 hIZ27 (((Fr.rf.tr hFu8 (fun _ q => q)).tr hFZ24 (by decide)).tr hFZ27 sQv32_Qv26) (show 0 ≤ a_1u8.toInt ∧ a_1u8.toInt ≤ 39 from by omega) (show a_1u8.toInt < (X.1 24 1).toInt from by have := (show 0 ≤ (X.1 24 1).toInt ∧ (X.1 24 1).toInt ≤ 40 from hI.1 24 1); omega) (show 0 ≤ x27.toInt ∧ x27.toInt ≤ 9080 from by omega) (show (9081 - x27.toInt).toNat < _ from by omega)
              · skip
                exact ok.ret ⟨(Fr.rf.tr hFu8 (fun _ q => q)), hIu8⟩
        exact lpu8 BIG a_1u3 (X.1 41 (ix a_1u3)) Zu3 hIu3 (Fr.rf.tr hFu3 (fun _ q => q)) (show 0 ≤ a_1u3.toInt ∧ a_1u3.toInt ≤ 39 from by omega) (show a_1u3.toInt < (X.1 24 1).toInt from by have := (show 0 ≤ (X.1 24 1).toInt ∧ (X.1 24 1).toInt ≤ 40 from hI.1 24 1); omega) (show 0 ≤ (X.1 41 (ix a_1u3)).toInt ∧ (X.1 41 (ix a_1u3)).toInt ≤ 9080 from by omega) (show (9081 - (X.1 41 (ix a_1u3)).toInt).toNat < BIG from ltBIG (show _ < 100000 from by omega))
      · skip
        refine ok.mul (show _ ≤ a_1u3.toInt * (4 : Int) ∧ a_1u3.toInt * (4 : Int) ≤ _ from by omega) (fun x39 hx39 => ?_)
        have hx39 : x39.toInt = a_1u3.toInt * (4 : Int) := hx39
        refine ok.add (show _ ≤ x39.toInt + a_2u3.toInt ∧ x39.toInt + a_2u3.toInt ≤ _ from by omega) (fun x40 hx40 => ?_)
        have hx40 : x40.toInt = x39.toInt + a_2u3.toInt := hx40
        refine ok.ck (show 0 ≤ x40.toInt ∧ x40.toInt < ((160 : Nat) : Int) from by omega) ?_
        refine ok.letE (v1 := (X.1 63 (ix x40))) (hFu3.1 63 (ix x40) n12600_Qv26) ?_
        refine ok.ck (show 0 ≤ a_2u3.toInt ∧ a_2u3.toInt < ((44 : Nat) : Int) from by omega) ?_
        refine ok.wI (L := [13200]) hIu3 (show True from trivial) (show (13200 : Nat) ∈ [13200] from by decide) (by decide) (fun Z28 hIZ28 hFZ28 hkZ28 hoZ28 => ?_)
        refine ok.inc (by decide) (show _ ≤ a_2u3.toInt + (1) ∧ a_2u3.toInt + (1) ≤ _ from by omega) (fun x43 hx43 => ?_)
        have hx43 : x43.toInt = a_2u3.toInt + (1) := hx43
        exact ih_u3 a_1u3 x43 Z28 hIZ28 ((Fr.rf.tr hFu3 (fun _ q => q)).tr hFZ28 (by decide)) (show 0 ≤ a_1u3.toInt ∧ a_1u3.toInt ≤ 39 from by omega) (show a_1u3.toInt < (X.1 24 1).toInt from by have := (show 0 ≤ (X.1 24 1).toInt ∧ (X.1 24 1).toInt ≤ 40 from hI.1 24 1); omega) (show 0 ≤ x43.toInt ∧ x43.toInt ≤ 4 from by omega) (show (5 - x43.toInt).toNat < _ from by omega)
  exact lpu3 BIG p1 (0 : Int32) Z2 hIZ2 ((Fr.rf.tr hFZ1 (by decide)).tr hFZ2 (by decide)) (show 0 ≤ p1.toInt ∧ p1.toInt ≤ 39 from by omega) (show p1.toInt < (X.1 24 1).toInt from by have := (show 0 ≤ (X.1 24 1).toInt ∧ (X.1 24 1).toInt ≤ 40 from hI.1 24 1); omega) (show 0 ≤ (0 : Int) ∧ (0 : Int) ≤ 4 from by omega) (show (5 - (0 : Int)).toNat < BIG from ltBIG (show _ < 100000 from by omega))
theorem n4806_Qv25 : (4806 : Nat) ∉ Qv25 := by decide
theorem n8400_Qv25 : (8400 : Nat) ∉ Qv25 := by decide
theorem n8600_Qv25 : (8600 : Nat) ∉ Qv25 := by decide
theorem n8200_Qv25 : (8200 : Nat) ∉ Qv25 := by decide
theorem sQv26_Qv25 : ∀ k ∈ Qv26, k ∈ Qv25 := by decide
def Qv35 : List Nat := [5000, 5200, 5400, 5600, 5800, 6000, 6200, 6400, 12400, 12600, 12800, 13000]
theorem n12201_Qv35 : (12201 : Nat) ∉ Qv35 := by decide
theorem n7400_Qv35 : (7400 : Nat) ∉ Qv35 := by decide
theorem n7800_Qv35 : (7800 : Nat) ∉ Qv35 := by decide
theorem n12202_Qv35 : (12202 : Nat) ∉ Qv35 := by decide
theorem n12600_Qv30 : (12600 : Nat) ∉ Qv30 := by decide
set_option maxHeartbeats 4000000 in
theorem v_Kinds_isSame_25_63 {p1 : Int32} {p2 : Int32} {p4 : Int32} {p5 : Int32} {X : St} (hI : INV X) (h0 : 0 ≤ p1.toInt ∧ p1.toInt ≤ 1548) (h1 : 0 ≤ p2.toInt ∧ p2.toInt ≤ 4) (h2 : 0 ≤ p4.toInt ∧ p4.toInt + p2.toInt ≤ 160) : ok (g_Kinds_isSame 25 p1 p2 63 p4 p5 X) (fun r Y => (X = Y)) := by
  unfold g_Kinds_isSame
  refine ok.letE (v1 := 27) (by decide) ?_
  refine ok.ck (show 0 ≤ p1.toInt ∧ p1.toInt < ((1549 : Nat) : Int) from by omega) ?_
  refine ok.letE (v1 := (X.1 27 (ix p1))) rfl ?_
  have g1 : 0 ≤ (X.1 27 (ix p1)).toInt ∧ (X.1 27 (ix p1)).toInt ≤ 4 := hI.1 27 (ix p1)
  refine ok.ite (fun c2 => ?_) (fun c2 => ?_)
  · skip
    refine ok.letE (v1 := 28) (by decide) ?_
    refine ok.mul (show _ ≤ p1.toInt * (5 : Int) ∧ p1.toInt * (5 : Int) ≤ _ from by omega) (fun x4 hx4 => ?_)
    have hx4 : x4.toInt = p1.toInt * (5 : Int) := hx4
    refine ok.add (show _ ≤ x4.toInt + (4 : Int) ∧ x4.toInt + (4 : Int) ≤ _ from by omega) (fun x5 hx5 => ?_)
    have hx5 : x5.toInt = x4.toInt + (4 : Int) := hx5
    refine ok.ck (show 0 ≤ x5.toInt ∧ x5.toInt < ((7745 : Nat) : Int) from by omega) ?_
    refine ok.letE (v1 := (X.1 28 (ix x5))) rfl ?_
    refine ok.ite (fun c3 => ?_) (fun c3 => ?_)
    · skip
      have lpu4 : ∀ (n : Nat), ∀ (a_1u4 : Int32) (a_2u4 : Int32) (a_4u4 : Int32) (a_6u4 : Int32) (Zu4 : St), INV Zu4 → Fr YC [] X Zu4 → (0 ≤ a_1u4.toInt ∧ a_1u4.toInt ≤ 1548) → (0 ≤ a_2u4.toInt ∧ a_2u4.toInt ≤ 4) → (0 ≤ a_4u4.toInt ∧ a_4u4.toInt + a_2u4.toInt ≤ 160) → (0 ≤ a_6u4.toInt ∧ a_6u4.toInt ≤ 5) → (5 - a_6u4.toInt).toNat < n → ok (g_Kinds_isSame_30 n 25 a_1u4 a_2u4 63 a_4u4 a_6u4 Zu4) (fun r Y => (X = Y)) := by
        intro n
        unfold g_Kinds_isSame_30
        refine lp_indN (P := fun (n : Nat) (r_u4 : Nat → Int32 → Int32 → Nat → Int32 → Int32 → St → Option (Int32 × St)) => ∀ (a_1u4 : Int32) (a_2u4 : Int32) (a_4u4 : Int32) (a_6u4 : Int32) (Zu4 : St), INV Zu4 → Fr YC [] X Zu4 → (0 ≤ a_1u4.toInt ∧ a_1u4.toInt ≤ 1548) → (0 ≤ a_2u4.toInt ∧ a_2u4.toInt ≤ 4) → (0 ≤ a_4u4.toInt ∧ a_4u4.toInt + a_2u4.toInt ≤ 160) → (0 ≤ a_6u4.toInt ∧ a_6u4.toInt ≤ 5) → (5 - a_6u4.toInt).toNat < n → ok (r_u4 25 a_1u4 a_2u4 63 a_4u4 a_6u4 Zu4) (fun r Y => (X = Y))) ?_ ?_ n
        · intro a_1u4 a_2u4 a_4u4 a_6u4 Zu4 hIu4 hFu4 u4_0 u4_1 u4_2 u4_3  hm; exact absurd hm (Nat.not_lt_zero _)
        · intro n r_u4 ih_u4 a_1u4 a_2u4 a_4u4 a_6u4 Zu4 hIu4 hFu4 u4_0 u4_1 u4_2 u4_3  hmu4
          unfold g_Kinds_isSame_30_s
          refine ok.ite (fun c5 => ?_) (fun c5 => ?_)
          · skip
            exact ok.ret (Fr.nil hFu4).symm
          · skip
            refine ok.letE (v1 := 28) (by decide) ?_
            refine ok.mul (show _ ≤ a_1u4.toInt * (5 : Int) ∧ a_1u4.toInt * (5 : Int) ≤ _ from by omega) (fun x8 hx8 => ?_)
            have hx8 : x8.toInt = a_1u4.toInt * (5 : Int) := hx8
            refine ok.add (show _ ≤ x8.toInt + a_6u4.toInt ∧ x8.toInt + a_6u4.toInt ≤ _ from by omega) (fun x9 hx9 => ?_)
            have hx9 : x9.toInt = x8.toInt + a_6u4.toInt := hx9
            refine ok.ck (show 0 ≤ x9.toInt ∧ x9.toInt < ((7745 : Nat) : Int) from by omega) ?_
            refine ok.letE (v1 := (X.1 28 (ix x9))) (hFu4.1 28 (ix x9) (show (5600 : Nat) ∉ [] from by decide)) ?_
            refine ok.add (show _ ≤ a_4u4.toInt + a_6u4.toInt ∧ a_4u4.toInt + a_6u4.toInt ≤ _ from by omega) (fun x11 hx11 => ?_)
            have hx11 : x11.toInt = a_4u4.toInt + a_6u4.toInt := hx11
            refine ok.ck (show 0 ≤ x11.toInt ∧ x11.toInt < ((160 : Nat) : Int) from by omega) ?_
            refine ok.letE (v1 := (X.1 63 (ix x11))) (hFu4.1 63 (ix x11) (show (12600 : Nat) ∉ [] from by decide)) ?_
            refine ok.ite (fun c6 => ?_) (fun c6 => ?_)
            · skip
              refine ok.inc (by decide) (show _ ≤ a_6u4.toInt + (1) ∧ a_6u4.toInt + (1) ≤ _ from by omega) (fun x13 hx13 => ?_)
              have hx13 : x13.toInt = a_6u4.toInt + (1) := hx13
              exact ih_u4 a_1u4 a_2u4 a_4u4 x13 Zu4 hIu4 (Fr.rf.tr hFu4 (fun _ q => q)) (show 0 ≤ a_1u4.toInt ∧ a_1u4.toInt ≤ 1548 from by omega) (show 0 ≤ a_2u4.toInt ∧ a_2u4.toInt ≤ 4 from by omega) (show 0 ≤ a_4u4.toInt ∧ a_4u4.toInt + a_2u4.toInt ≤ 160 from by omega) (show 0 ≤ x13.toInt ∧ x13.toInt ≤ 5 from by omega) (show (5 - x13.toInt).toNat < _ from by omega)
            · skip
              exact ok.ret (Fr.nil hFu4).symm
      exact lpu4 BIG p1 p2 p4 (0 : Int32) X hI (Fr.rf : Fr YC [] _ _) (show 0 ≤ p1.toInt ∧ p1.toInt ≤ 1548 from by omega) (show 0 ≤ p2.toInt ∧ p2.toInt ≤ 4 from by omega) (show 0 ≤ p4.toInt ∧ p4.toInt + p2.toInt ≤ 160 from by omega) (show 0 ≤ (0 : Int) ∧ (0 : Int) ≤ 5 from by omega) (show (5 - (0 : Int)).toNat < BIG from ltBIG (show _ < 100000 from by omega))
    · skip
      exact ok.ret rfl
  · skip
    exact ok.ret rfl
set_option maxHeartbeats 4000000 in
theorem v_Kinds_findOrAdd_25_63 {p1 : Int32} {p2 : Int32} {p4 : Int32} {p5 : Int32} {p6 : Int32} {X : St} (hI : INV X) (h0 : 0 ≤ p1.toInt ∧ p1.toInt ≤ 4) (h1 : 0 ≤ p2.toInt ∧ p2.toInt ≤ 4) (h2 : 0 ≤ p4.toInt ∧ p4.toInt + p2.toInt ≤ 160) : ok (g_Kinds_findOrAdd 25 p1 p2 63 p4 p5 p6 X) (fun r Y => (Fr YC Qv30 X Y ∧ INV Y)) := by
  unfold g_Kinds_findOrAdd
  refine ok.bd (v_Kinds_bucketOf hI) ?_
  rintro x1 _ ⟨rfl, hp1⟩
  have hp1 : 0 ≤ x1.toInt ∧ x1.toInt ≤ 511 := hp1
  refine ok.letE (v1 := 31) (by decide) ?_
  refine ok.ck (show 0 ≤ x1.toInt ∧ x1.toInt < ((512 : Nat) : Int) from by omega) ?_
  refine ok.letE (v1 := (X.1 31 (ix x1))) rfl ?_
  have g2 : -1 ≤ (X.1 31 (ix x1)).toInt ∧ (X.1 31 (ix x1)).toInt ≤ 1548 := hI.1 31 (ix x1)
  have lpu3 : ∀ (n : Nat), ∀ (a_1u3 : Int32) (a_2u3 : Int32) (a_4u3 : Int32) (a_5u3 : Int32) (a_6u3 : Int32) (a_7u3 : Int32) (a_8u3 : Int32) (a_9u3 : Int32) (Zu3 : St), INV Zu3 → Fr YC Qv30 X Zu3 → (0 ≤ a_1u3.toInt ∧ a_1u3.toInt ≤ 4) → (0 ≤ a_2u3.toInt ∧ a_2u3.toInt ≤ 4) → (0 ≤ a_4u3.toInt ∧ a_4u3.toInt + a_2u3.toInt ≤ 160) → (0 ≤ a_7u3.toInt ∧ a_7u3.toInt ≤ 511) → (-1 ≤ a_8u3.toInt ∧ a_8u3.toInt ≤ 1548) → (0 ≤ a_9u3.toInt ∧ a_9u3.toInt ≤ 1549) → (1550 - a_9u3.toInt).toNat < n → ok (g_Kinds_findOrAdd_19 n 25 a_1u3 a_2u3 63 a_4u3 a_5u3 a_6u3 a_7u3 a_8u3 a_9u3 Zu3) (fun r Y => (Fr YC Qv30 X Y ∧ INV Y)) := by
    intro n
    unfold g_Kinds_findOrAdd_19
    refine lp_indN (P := fun (n : Nat) (r_u3 : Nat → Int32 → Int32 → Nat → Int32 → Int32 → Int32 → Int32 → Int32 → Int32 → St → Option (Int32 × St)) => ∀ (a_1u3 : Int32) (a_2u3 : Int32) (a_4u3 : Int32) (a_5u3 : Int32) (a_6u3 : Int32) (a_7u3 : Int32) (a_8u3 : Int32) (a_9u3 : Int32) (Zu3 : St), INV Zu3 → Fr YC Qv30 X Zu3 → (0 ≤ a_1u3.toInt ∧ a_1u3.toInt ≤ 4) → (0 ≤ a_2u3.toInt ∧ a_2u3.toInt ≤ 4) → (0 ≤ a_4u3.toInt ∧ a_4u3.toInt + a_2u3.toInt ≤ 160) → (0 ≤ a_7u3.toInt ∧ a_7u3.toInt ≤ 511) → (-1 ≤ a_8u3.toInt ∧ a_8u3.toInt ≤ 1548) → (0 ≤ a_9u3.toInt ∧ a_9u3.toInt ≤ 1549) → (1550 - a_9u3.toInt).toNat < n → ok (r_u3 25 a_1u3 a_2u3 63 a_4u3 a_5u3 a_6u3 a_7u3 a_8u3 a_9u3 Zu3) (fun r Y => (Fr YC Qv30 X Y ∧ INV Y))) ?_ ?_ n
    · intro a_1u3 a_2u3 a_4u3 a_5u3 a_6u3 a_7u3 a_8u3 a_9u3 Zu3 hIu3 hFu3 u3_0 u3_1 u3_2 u3_3 u3_4 u3_5  hm; exact absurd hm (Nat.not_lt_zero _)
    · intro n r_u3 ih_u3 a_1u3 a_2u3 a_4u3 a_5u3 a_6u3 a_7u3 a_8u3 a_9u3 Zu3 hIu3 hFu3 u3_0 u3_1 u3_2 u3_3 u3_4 u3_5  hmu3
      unfold g_Kinds_findOrAdd_19_s
      refine ok.ite (fun c4 => ?_) (fun c4 => ?_)
      · skip
        unfold g_Kinds_findOrAdd_77
        refine ok.letE (v1 := (Zu3.1 25 0)) rfl ?_
        have g5 : 0 ≤ (Zu3.1 25 0).toInt ∧ (Zu3.1 25 0).toInt ≤ 1549 := hIu3.1 25 0
        refine ok.ite (fun c6 => ?_) (fun c6 => ?_)
        · skip
          refine ok.letE (v1 := (Zu3.1 25 0)) rfl ?_
          refine ok.letE (v1 := (Zu3.1 25 0)) rfl ?_
          refine ok.add (show _ ≤ (Zu3.1 25 0).toInt + (1 : Int) ∧ (Zu3.1 25 0).toInt + (1 : Int) ≤ _ from by omega) (fun x8 hx8 => ?_)
          have hx8 : x8.toInt = (Zu3.1 25 0).toInt + (1 : Int) := hx8
          refine ok.wI (L := [5000]) hIu3 (show 0 ≤ x8.toInt ∧ x8.toInt ≤ 1549 from by omega) (show (5000 : Nat) ∈ [5000] from by decide) (by decide) (fun Z7 hIZ7 hFZ7 hkZ7 hoZ7 => ?_)
          refine ok.letE (v1 := 26) (by decide) ?_
          refine ok.ck (show 0 ≤ (Zu3.1 25 0).toInt ∧ (Zu3.1 25 0).toInt < ((1549 : Nat) : Int) from by omega) ?_
          refine ok.wI (L := [5200]) hIZ7 (show True from trivial) (show (5200 : Nat) ∈ [5200] from by decide) (by decide) (fun Z8 hIZ8 hFZ8 hkZ8 hoZ8 => ?_)
          refine ok.letE (v1 := 27) (by decide) ?_
          refine ok.ck (show 0 ≤ (Zu3.1 25 0).toInt ∧ (Zu3.1 25 0).toInt < ((1549 : Nat) : Int) from by omega) ?_
          refine ok.wI (L := [5400]) hIZ8 (show 0 ≤ a_2u3.toInt ∧ a_2u3.toInt ≤ 4 from by omega) (show (5400 : Nat) ∈ [5400] from by decide) (by decide) (fun Z9 hIZ9 hFZ9 hkZ9 hoZ9 => ?_)
          refine ok.letE (v1 := 29) (by decide) ?_
          refine ok.ck (show 0 ≤ (Zu3.1 25 0).toInt ∧ (Zu3.1 25 0).toInt < ((1549 : Nat) : Int) from by omega) ?_
          refine ok.wI (L := [5800]) hIZ9 (show True from trivial) (show (5800 : Nat) ∈ [5800] from by decide) (by decide) (fun Z10 hIZ10 hFZ10 hkZ10 hoZ10 => ?_)
          refine ok.letE (v1 := 28) (by decide) ?_
          refine ok.mul (show _ ≤ (Zu3.1 25 0).toInt * (5 : Int) ∧ (Zu3.1 25 0).toInt * (5 : Int) ≤ _ from by omega) (fun x17 hx17 => ?_)
          have hx17 : x17.toInt = (Zu3.1 25 0).toInt * (5 : Int) := hx17
          refine ok.add (show _ ≤ x17.toInt + (4 : Int) ∧ x17.toInt + (4 : Int) ≤ _ from by omega) (fun x18 hx18 => ?_)
          have hx18 : x18.toInt = x17.toInt + (4 : Int) := hx18
          refine ok.ck (show 0 ≤ x18.toInt ∧ x18.toInt < ((7745 : Nat) : Int) from by omega) ?_
          refine ok.wI (L := [5600]) hIZ10 (show True from trivial) (show (5600 : Nat) ∈ [5600] from by decide) (by decide) (fun Z11 hIZ11 hFZ11 hkZ11 hoZ11 => ?_)
          refine ok.ite (fun c12 => ?_) (fun c12 => ?_)
          · skip
            unfold g_Kinds_findOrAdd_162
            unfold g_Kinds_findOrAdd_167
            have lpu13 : ∀ (n : Nat), ∀ (a_2u13 : Int32) (a_4u13 : Int32) (a_7u13 : Int32) (a_8u13 : Int32) (a_9u13 : Int32) (a_10u13 : Int32) (Zu13 : St), INV Zu13 → Fr YC Qv30 X Zu13 → (0 ≤ a_2u13.toInt ∧ a_2u13.toInt ≤ 4) → (0 ≤ a_4u13.toInt ∧ a_4u13.toInt + a_2u13.toInt ≤ 160) → (0 ≤ a_7u13.toInt ∧ a_7u13.toInt ≤ 511) → (0 ≤ a_8u13.toInt ∧ a_8u13.toInt ≤ 1548) → (0 ≤ a_10u13.toInt ∧ a_10u13.toInt ≤ 5) → (5 - a_10u13.toInt).toNat < n → ok (g_Kinds_findOrAdd_172 n 25 a_2u13 63 a_4u13 a_7u13 a_8u13 a_9u13 a_10u13 Zu13) (fun r Y => (Fr YC Qv30 X Y ∧ INV Y)) := by
              intro n
              unfold g_Kinds_findOrAdd_172
              refine lp_indN (P := fun (n : Nat) (r_u13 : Nat → Int32 → Nat → Int32 → Int32 → Int32 → Int32 → Int32 → St → Option (Int32 × St)) => ∀ (a_2u13 : Int32) (a_4u13 : Int32) (a_7u13 : Int32) (a_8u13 : Int32) (a_9u13 : Int32) (a_10u13 : Int32) (Zu13 : St), INV Zu13 → Fr YC Qv30 X Zu13 → (0 ≤ a_2u13.toInt ∧ a_2u13.toInt ≤ 4) → (0 ≤ a_4u13.toInt ∧ a_4u13.toInt + a_2u13.toInt ≤ 160) → (0 ≤ a_7u13.toInt ∧ a_7u13.toInt ≤ 511) → (0 ≤ a_8u13.toInt ∧ a_8u13.toInt ≤ 1548) → (0 ≤ a_10u13.toInt ∧ a_10u13.toInt ≤ 5) → (5 - a_10u13.toInt).toNat < n → ok (r_u13 25 a_2u13 63 a_4u13 a_7u13 a_8u13 a_9u13 a_10u13 Zu13) (fun r Y => (Fr YC Qv30 X Y ∧ INV Y))) ?_ ?_ n
              · intro a_2u13 a_4u13 a_7u13 a_8u13 a_9u13 a_10u13 Zu13 hIu13 hFu13 u13_0 u13_1 u13_2 u13_3 u13_4  hm; exact absurd hm (Nat.not_lt_zero _)
              · intro n r_u13 ih_u13 a_2u13 a_4u13 a_7u13 a_8u13 a_9u13 a_10u13 Zu13 hIu13 hFu13 u13_0 u13_1 u13_2 u13_3 u13_4  hmu13
                unfold g_Kinds_findOrAdd_172_s
                refine ok.ite (fun c14 => ?_) (fun c14 => ?_)
                · skip
                  refine ok.letE (v1 := 30) (by decide) ?_
                  refine ok.ck (show 0 ≤ a_8u13.toInt ∧ a_8u13.toInt < ((1549 : Nat) : Int) from by omega) ?_
                  refine ok.wI (L := [6000]) hIu13 (show True from trivial) (show (6000 : Nat) ∈ [6000] from by decide) (by decide) (fun Z15 hIZ15 hFZ15 hkZ15 hoZ15 => ?_)
                  refine ok.letE (v1 := 32) (by decide) ?_
                  refine ok.letE (v1 := 31) (by decide) ?_
                  refine ok.ck (show 0 ≤ a_7u13.toInt ∧ a_7u13.toInt < ((512 : Nat) : Int) from by omega) ?_
                  refine ok.letE (v1 := (Zu13.1 31 (ix a_7u13))) (hFZ15.1 31 (ix a_7u13) (show (6200 : Nat) ∉ [6000] from by decide)) ?_
                  have g16 : -1 ≤ (Zu13.1 31 (ix a_7u13)).toInt ∧ (Zu13.1 31 (ix a_7u13)).toInt ≤ 1548 := hIu13.1 31 (ix a_7u13)
                  refine ok.ck (show 0 ≤ a_8u13.toInt ∧ a_8u13.toInt < ((1549 : Nat) : Int) from by omega) ?_
                  refine ok.wI (L := [6400]) hIZ15 (show -1 ≤ (Zu13.1 31 (ix a_7u13)).toInt ∧ (Zu13.1 31 (ix a_7u13)).toInt ≤ 1548 from by omega) (show (6400 : Nat) ∈ [6400] from by decide) (by decide) (fun Z17 hIZ17 hFZ17 hkZ17 hoZ17 => ?_)
                  refine ok.letE (v1 := 31) (by decide) ?_
                  refine ok.ck (show 0 ≤ a_7u13.toInt ∧ a_7u13.toInt < ((512 : Nat) : Int) from by omega) ?_
                  refine ok.wI (L := [6200]) hIZ17 (show -1 ≤ a_8u13.toInt ∧ a_8u13.toInt ≤ 1548 from by omega) (show (6200 : Nat) ∈ [6200] from by decide) (by decide) (fun Z18 hIZ18 hFZ18 hkZ18 hoZ18 => ?_)
                  exact ok.ret ⟨((((Fr.rf.tr hFu13 (fun _ q => q)).tr hFZ15 (by decide)).tr hFZ17 (by decide)).tr hFZ18 (by decide)), hIZ18⟩
                · skip
                  refine ok.letE (v1 := 28) (by decide) ?_
                  refine ok.mul (show _ ≤ a_8u13.toInt * (5 : Int) ∧ a_8u13.toInt * (5 : Int) ≤ _ from by omega) (fun x29 hx29 => ?_)
                  have hx29 : x29.toInt = a_8u13.toInt * (5 : Int) := hx29
                  refine ok.add (show _ ≤ x29.toInt + a_10u13.toInt ∧ x29.toInt + a_10u13.toInt ≤ _ from by omega) (fun x30 hx30 => ?_)
                  have hx30 : x30.toInt = x29.toInt + a_10u13.toInt := hx30
                  refine ok.add (show _ ≤ a_4u13.toInt + a_10u13.toInt ∧ a_4u13.toInt + a_10u13.toInt ≤ _ from by omega) (fun x31 hx31 => ?_)
                  have hx31 : x31.toInt = a_4u13.toInt + a_10u13.toInt := hx31
                  refine ok.ck (show 0 ≤ x31.toInt ∧ x31.toInt < ((160 : Nat) : Int) from by omega) ?_
                  refine ok.letE (v1 := (X.1 63 (ix x31))) (hFu13.1 63 (ix x31) n12600_Qv30) ?_
                  refine ok.ck (show 0 ≤ x30.toInt ∧ x30.toInt < ((7745 : Nat) : Int) from by omega) ?_
                  refine ok.wI (L := [5600]) hIu13 (show True from trivial) (show (5600 : Nat) ∈ [5600] from by decide) (by decide) (fun Z19 hIZ19 hFZ19 hkZ19 hoZ19 => ?_)
                  refine ok.ite (fun c20 => ?_) (fun c20 => ?_)
                  · skip
                    have g21 := i32_le a_9u13
                    refine ok.add (show _ ≤ a_4u13.toInt + a_10u13.toInt ∧ a_4u13.toInt + a_10u13.toInt ≤ _ from by omega) (fun x35 hx35 => ?_)
                    have hx35 : x35.toInt = a_4u13.toInt + a_10u13.toInt := hx35
                    refine ok.ck (show 0 ≤ x35.toInt ∧ x35.toInt < ((160 : Nat) : Int) from by omega) ?_
                    refine ok.letE (v1 := (X.1 63 (ix x35))) ((hFZ19.1 63 (ix x35) (show (12600 : Nat) ∉ [5600] from by decide)).trans (hFu13.1 63 (ix x35) n12600_Qv30)) ?_
                    refine ok.bd (v_Kinds_hasAny_25 hIZ19) ?_
                    rintro x37 _ rfl
                    refine ok.ite (fun c23 => ?_) (fun c23 => ?_)
                    · skip
                      have g24 := i32_le x37
                      unfold g_Kinds_findOrAdd_221
                      refine ok.inc (by decide) (show _ ≤ a_10u13.toInt + (1) ∧ a_10u13.toInt + (1) ≤ _ from by omega) (fun x34 hx34 => ?_)
                      have hx34 : x34.toInt = a_10u13.toInt + (1) := hx34
                      exact ih_u13 a_2u13 a_4u13 a_7u13 a_8u13 (0 : Int32) x34 Z19 hIZ19 ((Fr.rf.tr hFu13 (fun _ q => q)).tr hFZ19 (by decide)) (show 0 ≤ a_2u13.toInt ∧ a_2u13.toInt ≤ 4 from by omega) (show 0 ≤ a_4u13.toInt ∧ a_4u13.toInt + a_2u13.toInt ≤ 160 from by omega) (show 0 ≤ a_7u13.toInt ∧ a_7u13.toInt ≤ 511 from by omega) (show 0 ≤ a_8u13.toInt ∧ a_8u13.toInt ≤ 1548 from by omega) (show 0 ≤ x34.toInt ∧ x34.toInt ≤ 5 from by omega) (show (5 - x34.toInt).toNat < _ from by omega)
                    · skip
                      unfold g_Kinds_findOrAdd_216
                      unfold g_Kinds_findOrAdd_221
                      refine ok.inc (by decide) (show _ ≤ a_10u13.toInt + (1) ∧ a_10u13.toInt + (1) ≤ _ from by omega) (fun x34 hx34 => ?_)
                      have hx34 : x34.toInt = a_10u13.toInt + (1) := hx34
                      exact ih_u13 a_2u13 a_4u13 a_7u13 a_8u13 (1 : Int32) x34 Z19 hIZ19 ((Fr.rf.tr hFu13 (fun _ q => q)).tr hFZ19 (by decide)) (show 0 ≤ a_2u13.toInt ∧ a_2u13.toInt ≤ 4 from by omega) (show 0 ≤ a_4u13.toInt ∧ a_4u13.toInt + a_2u13.toInt ≤ 160 from by omega) (show 0 ≤ a_7u13.toInt ∧ a_7u13.toInt ≤ 511 from by omega) (show 0 ≤ a_8u13.toInt ∧ a_8u13.toInt ≤ 1548 from by omega) (show 0 ≤ x34.toInt ∧ x34.toInt ≤ 5 from by omega) (show (5 - x34.toInt).toNat < _ from by omega)
                  · skip
                    unfold g_Kinds_findOrAdd_216
                    unfold g_Kinds_findOrAdd_221
                    refine ok.inc (by decide) (show _ ≤ a_10u13.toInt + (1) ∧ a_10u13.toInt + (1) ≤ _ from by omega) (fun x34 hx34 => ?_)
                    have hx34 : x34.toInt = a_10u13.toInt + (1) := hx34
                    exact ih_u13 a_2u13 a_4u13 a_7u13 a_8u13 (1 : Int32) x34 Z19 hIZ19 ((Fr.rf.tr hFu13 (fun _ q => q)).tr hFZ19 (by decide)) (show 0 ≤ a_2u13.toInt ∧ a_2u13.toInt ≤ 4 from by omega) (show 0 ≤ a_4u13.toInt ∧ a_4u13.toInt + a_2u13.toInt ≤ 160 from by omega) (show 0 ≤ a_7u13.toInt ∧ a_7u13.toInt ≤ 511 from by omega) (show 0 ≤ a_8u13.toInt ∧ a_8u13.toInt ≤ 1548 from by omega) (show 0 ≤ x34.toInt ∧ x34.toInt ≤ 5 from by omega) (show (5 - x34.toInt).toNat < _ from by omega)
            exact lpu13 BIG a_2u3 a_4u3 a_7u3 (Zu3.1 25 0) (1 : Int32) (0 : Int32) Z11 hIZ11 ((((((Fr.rf.tr hFu3 (fun _ q => q)).tr hFZ7 (by decide)).tr hFZ8 (by decide)).tr hFZ9 (by decide)).tr hFZ10 (by decide)).tr hFZ11 (by decide)) (show 0 ≤ a_2u3.toInt ∧ a_2u3.toInt ≤ 4 from by omega) (show 0 ≤ a_4u3.toInt ∧ a_4u3.toInt + a_2u3.toInt ≤ 160 from by omega) (show 0 ≤ a_7u3.toInt ∧ a_7u3.toInt ≤ 511 from by omega) (show 0 ≤ (Zu3.1 25 0).toInt ∧ (Zu3.1 25 0).toInt ≤ 1548 from by omega) (show 0 ≤ (0 : Int) ∧ (0 : Int) ≤ 5 from by omega) (show (5 - (0 : Int)).toNat < BIG from ltBIG (show _ < 100000 from by omega))
          · skip
            refine ok.ite (fun c25 => ?_) (fun c25 => ?_)
            · skip
              unfold g_Kinds_findOrAdd_166
              unfold g_Kinds_findOrAdd_167
              have lpu26 : ∀ (n : Nat), ∀ (a_2u26 : Int32) (a_4u26 : Int32) (a_7u26 : Int32) (a_8u26 : Int32) (a_9u26 : Int32) (a_10u26 : Int32) (Zu26 : St), INV Zu26 → Fr YC Qv30 X Zu26 → (0 ≤ a_2u26.toInt ∧ a_2u26.toInt ≤ 4) → (0 ≤ a_4u26.toInt ∧ a_4u26.toInt + a_2u26.toInt ≤ 160) → (0 ≤ a_7u26.toInt ∧ a_7u26.toInt ≤ 511) → (0 ≤ a_8u26.toInt ∧ a_8u26.toInt ≤ 1548) → (0 ≤ a_10u26.toInt ∧ a_10u26.toInt ≤ 5) → (5 - a_10u26.toInt).toNat < n → ok (g_Kinds_findOrAdd_172 n 25 a_2u26 63 a_4u26 a_7u26 a_8u26 a_9u26 a_10u26 Zu26) (fun r Y => (Fr YC Qv30 X Y ∧ INV Y)) := by
                intro n
                unfold g_Kinds_findOrAdd_172
                refine lp_indN (P := fun (n : Nat) (r_u26 : Nat → Int32 → Nat → Int32 → Int32 → Int32 → Int32 → Int32 → St → Option (Int32 × St)) => ∀ (a_2u26 : Int32) (a_4u26 : Int32) (a_7u26 : Int32) (a_8u26 : Int32) (a_9u26 : Int32) (a_10u26 : Int32) (Zu26 : St), INV Zu26 → Fr YC Qv30 X Zu26 → (0 ≤ a_2u26.toInt ∧ a_2u26.toInt ≤ 4) → (0 ≤ a_4u26.toInt ∧ a_4u26.toInt + a_2u26.toInt ≤ 160) → (0 ≤ a_7u26.toInt ∧ a_7u26.toInt ≤ 511) → (0 ≤ a_8u26.toInt ∧ a_8u26.toInt ≤ 1548) → (0 ≤ a_10u26.toInt ∧ a_10u26.toInt ≤ 5) → (5 - a_10u26.toInt).toNat < n → ok (r_u26 25 a_2u26 63 a_4u26 a_7u26 a_8u26 a_9u26 a_10u26 Zu26) (fun r Y => (Fr YC Qv30 X Y ∧ INV Y))) ?_ ?_ n
                · intro a_2u26 a_4u26 a_7u26 a_8u26 a_9u26 a_10u26 Zu26 hIu26 hFu26 u26_0 u26_1 u26_2 u26_3 u26_4  hm; exact absurd hm (Nat.not_lt_zero _)
                · intro n r_u26 ih_u26 a_2u26 a_4u26 a_7u26 a_8u26 a_9u26 a_10u26 Zu26 hIu26 hFu26 u26_0 u26_1 u26_2 u26_3 u26_4  hmu26
                  unfold g_Kinds_findOrAdd_172_s
                  refine ok.ite (fun c27 => ?_) (fun c27 => ?_)
                  · skip
                    refine ok.letE (v1 := 30) (by decide) ?_
                    refine ok.ck (show 0 ≤ a_8u26.toInt ∧ a_8u26.toInt < ((1549 : Nat) : Int) from by omega) ?_
                    refine ok.wI (L := [6000]) hIu26 (show True from trivial) (show (6000 : Nat) ∈ [6000] from by decide) (by decide) (fun Z28 hIZ28 hFZ28 hkZ28 hoZ28 => ?_)
                    refine ok.letE (v1 := 32) (by decide) ?_
                    refine ok.letE (v1 := 31) (by decide) ?_
                    refine ok.ck (show 0 ≤ a_7u26.toInt ∧ a_7u26.toInt < ((512 : Nat) : Int) from by omega) ?_
                    refine ok.letE (v1 := (Zu26.1 31 (ix a_7u26))) (hFZ28.1 31 (ix a_7u26) (show (6200 : Nat) ∉ [6000] from by decide)) ?_
                    have g29 : -1 ≤ (Zu26.1 31 (ix a_7u26)).toInt ∧ (Zu26.1 31 (ix a_7u26)).toInt ≤ 1548 := hIu26.1 31 (ix a_7u26)
                    refine ok.ck (show 0 ≤ a_8u26.toInt ∧ a_8u26.toInt < ((1549 : Nat) : Int) from by omega) ?_
                    refine ok.wI (L := [6400]) hIZ28 (show -1 ≤ (Zu26.1 31 (ix a_7u26)).toInt ∧ (Zu26.1 31 (ix a_7u26)).toInt ≤ 1548 from by omega) (show (6400 : Nat) ∈ [6400] from by decide) (by decide) (fun Z30 hIZ30 hFZ30 hkZ30 hoZ30 => ?_)
                    refine ok.letE (v1 := 31) (by decide) ?_
                    refine ok.ck (show 0 ≤ a_7u26.toInt ∧ a_7u26.toInt < ((512 : Nat) : Int) from by omega) ?_
                    refine ok.wI (L := [6200]) hIZ30 (show -1 ≤ a_8u26.toInt ∧ a_8u26.toInt ≤ 1548 from by omega) (show (6200 : Nat) ∈ [6200] from by decide) (by decide) (fun Z31 hIZ31 hFZ31 hkZ31 hoZ31 => ?_)
                    exact ok.ret ⟨((((Fr.rf.tr hFu26 (fun _ q => q)).tr hFZ28 (by decide)).tr hFZ30 (by decide)).tr hFZ31 (by decide)), hIZ31⟩
                  · skip
                    refine ok.letE (v1 := 28) (by decide) ?_
                    refine ok.mul (show _ ≤ a_8u26.toInt * (5 : Int) ∧ a_8u26.toInt * (5 : Int) ≤ _ from by omega) (fun x29 hx29 => ?_)
                    have hx29 : x29.toInt = a_8u26.toInt * (5 : Int) := hx29
                    refine ok.add (show _ ≤ x29.toInt + a_10u26.toInt ∧ x29.toInt + a_10u26.toInt ≤ _ from by omega) (fun x30 hx30 => ?_)
                    have hx30 : x30.toInt = x29.toInt + a_10u26.toInt := hx30
                    refine ok.add (show _ ≤ a_4u26.toInt + a_10u26.toInt ∧ a_4u26.toInt + a_10u26.toInt ≤ _ from by omega) (fun x31 hx31 => ?_)
                    have hx31 : x31.toInt = a_4u26.toInt + a_10u26.toInt := hx31
                    refine ok.ck (show 0 ≤ x31.toInt ∧ x31.toInt < ((160 : Nat) : Int) from by omega) ?_
                    refine ok.letE (v1 := (X.1 63 (ix x31))) (hFu26.1 63 (ix x31) n12600_Qv30) ?_
                    refine ok.ck (show 0 ≤ x30.toInt ∧ x30.toInt < ((7745 : Nat) : Int) from by omega) ?_
                    refine ok.wI (L := [5600]) hIu26 (show True from trivial) (show (5600 : Nat) ∈ [5600] from by decide) (by decide) (fun Z32 hIZ32 hFZ32 hkZ32 hoZ32 => ?_)
                    refine ok.ite (fun c33 => ?_) (fun c33 => ?_)
                    · skip
                      have g34 := i32_le a_9u26
                      refine ok.add (show _ ≤ a_4u26.toInt + a_10u26.toInt ∧ a_4u26.toInt + a_10u26.toInt ≤ _ from by omega) (fun x35 hx35 => ?_)
                      have hx35 : x35.toInt = a_4u26.toInt + a_10u26.toInt := hx35
                      refine ok.ck (show 0 ≤ x35.toInt ∧ x35.toInt < ((160 : Nat) : Int) from by omega) ?_
                      refine ok.letE (v1 := (X.1 63 (ix x35))) ((hFZ32.1 63 (ix x35) (show (12600 : Nat) ∉ [5600] from by decide)).trans (hFu26.1 63 (ix x35) n12600_Qv30)) ?_
                      refine ok.bd (v_Kinds_hasAny_25 hIZ32) ?_
                      rintro x37 _ rfl
                      refine ok.ite (fun c36 => ?_) (fun c36 => ?_)
                      · skip
                        have g37 := i32_le x37
                        unfold g_Kinds_findOrAdd_221
                        refine ok.inc (by decide) (show _ ≤ a_10u26.toInt + (1) ∧ a_10u26.toInt + (1) ≤ _ from by omega) (fun x34 hx34 => ?_)
                        have hx34 : x34.toInt = a_10u26.toInt + (1) := hx34
                        exact ih_u26 a_2u26 a_4u26 a_7u26 a_8u26 (0 : Int32) x34 Z32 hIZ32 ((Fr.rf.tr hFu26 (fun _ q => q)).tr hFZ32 (by decide)) (show 0 ≤ a_2u26.toInt ∧ a_2u26.toInt ≤ 4 from by omega) (show 0 ≤ a_4u26.toInt ∧ a_4u26.toInt + a_2u26.toInt ≤ 160 from by omega) (show 0 ≤ a_7u26.toInt ∧ a_7u26.toInt ≤ 511 from by omega) (show 0 ≤ a_8u26.toInt ∧ a_8u26.toInt ≤ 1548 from by omega) (show 0 ≤ x34.toInt ∧ x34.toInt ≤ 5 from by omega) (show (5 - x34.toInt).toNat < _ from by omega)
                      · skip
                        unfold g_Kinds_findOrAdd_216
                        unfold g_Kinds_findOrAdd_221
                        refine ok.inc (by decide) (show _ ≤ a_10u26.toInt + (1) ∧ a_10u26.toInt + (1) ≤ _ from by omega) (fun x34 hx34 => ?_)
                        have hx34 : x34.toInt = a_10u26.toInt + (1) := hx34
                        exact ih_u26 a_2u26 a_4u26 a_7u26 a_8u26 (1 : Int32) x34 Z32 hIZ32 ((Fr.rf.tr hFu26 (fun _ q => q)).tr hFZ32 (by decide)) (show 0 ≤ a_2u26.toInt ∧ a_2u26.toInt ≤ 4 from by omega) (show 0 ≤ a_4u26.toInt ∧ a_4u26.toInt + a_2u26.toInt ≤ 160 from by omega) (show 0 ≤ a_7u26.toInt ∧ a_7u26.toInt ≤ 511 from by omega) (show 0 ≤ a_8u26.toInt ∧ a_8u26.toInt ≤ 1548 from by omega) (show 0 ≤ x34.toInt ∧ x34.toInt ≤ 5 from by omega) (show (5 - x34.toInt).toNat < _ from by omega)
                    · skip
                      unfold g_Kinds_findOrAdd_216
                      unfold g_Kinds_findOrAdd_221
                      refine ok.inc (by decide) (show _ ≤ a_10u26.toInt + (1) ∧ a_10u26.toInt + (1) ≤ _ from by omega) (fun x34 hx34 => ?_)
                      have hx34 : x34.toInt = a_10u26.toInt + (1) := hx34
                      exact ih_u26 a_2u26 a_4u26 a_7u26 a_8u26 (1 : Int32) x34 Z32 hIZ32 ((Fr.rf.tr hFu26 (fun _ q => q)).tr hFZ32 (by decide)) (show 0 ≤ a_2u26.toInt ∧ a_2u26.toInt ≤ 4 from by omega) (show 0 ≤ a_4u26.toInt ∧ a_4u26.toInt + a_2u26.toInt ≤ 160 from by omega) (show 0 ≤ a_7u26.toInt ∧ a_7u26.toInt ≤ 511 from by omega) (show 0 ≤ a_8u26.toInt ∧ a_8u26.toInt ≤ 1548 from by omega) (show 0 ≤ x34.toInt ∧ x34.toInt ≤ 5 from by omega) (show (5 - x34.toInt).toNat < _ from by omega)
              exact lpu26 BIG a_2u3 a_4u3 a_7u3 (Zu3.1 25 0) (0 : Int32) (0 : Int32) Z11 hIZ11 ((((((Fr.rf.tr hFu3 (fun _ q => q)).tr hFZ7 (by decide)).tr hFZ8 (by decide)).tr hFZ9 (by decide)).tr hFZ10 (by decide)).tr hFZ11 (by decide)) (show 0 ≤ a_2u3.toInt ∧ a_2u3.toInt ≤ 4 from by omega) (show 0 ≤ a_4u3.toInt ∧ a_4u3.toInt + a_2u3.toInt ≤ 160 from by omega) (show 0 ≤ a_7u3.toInt ∧ a_7u3.toInt ≤ 511 from by omega) (show 0 ≤ (Zu3.1 25 0).toInt ∧ (Zu3.1 25 0).toInt ≤ 1548 from by omega) (show 0 ≤ (0 : Int) ∧ (0 : Int) ≤ 5 from by omega) (show (5 - (0 : Int)).toNat < BIG from ltBIG (show _ < 100000 from by omega))
            · skip
              refine ok.bd (v_Kinds_hasAny_25 hIZ11) ?_
              rintro x39 _ rfl
              refine ok.ite (fun c39 => ?_) (fun c39 => ?_)
              · skip
                have g40 := i32_le x39
                unfold g_Kinds_findOrAdd_166
                unfold g_Kinds_findOrAdd_167
                have lpu41 : ∀ (n : Nat), ∀ (a_2u41 : Int32) (a_4u41 : Int32) (a_7u41 : Int32) (a_8u41 : Int32) (a_9u41 : Int32) (a_10u41 : Int32) (Zu41 : St), INV Zu41 → Fr YC Qv30 X Zu41 → (0 ≤ a_2u41.toInt ∧ a_2u41.toInt ≤ 4) → (0 ≤ a_4u41.toInt ∧ a_4u41.toInt + a_2u41.toInt ≤ 160) → (0 ≤ a_7u41.toInt ∧ a_7u41.toInt ≤ 511) → (0 ≤ a_8u41.toInt ∧ a_8u41.toInt ≤ 1548) → (0 ≤ a_10u41.toInt ∧ a_10u41.toInt ≤ 5) → (5 - a_10u41.toInt).toNat < n → ok (g_Kinds_findOrAdd_172 n 25 a_2u41 63 a_4u41 a_7u41 a_8u41 a_9u41 a_10u41 Zu41) (fun r Y => (Fr YC Qv30 X Y ∧ INV Y)) := by
                  intro n
                  unfold g_Kinds_findOrAdd_172
                  refine lp_indN (P := fun (n : Nat) (r_u41 : Nat → Int32 → Nat → Int32 → Int32 → Int32 → Int32 → Int32 → St → Option (Int32 × St)) => ∀ (a_2u41 : Int32) (a_4u41 : Int32) (a_7u41 : Int32) (a_8u41 : Int32) (a_9u41 : Int32) (a_10u41 : Int32) (Zu41 : St), INV Zu41 → Fr YC Qv30 X Zu41 → (0 ≤ a_2u41.toInt ∧ a_2u41.toInt ≤ 4) → (0 ≤ a_4u41.toInt ∧ a_4u41.toInt + a_2u41.toInt ≤ 160) → (0 ≤ a_7u41.toInt ∧ a_7u41.toInt ≤ 511) → (0 ≤ a_8u41.toInt ∧ a_8u41.toInt ≤ 1548) → (0 ≤ a_10u41.toInt ∧ a_10u41.toInt ≤ 5) → (5 - a_10u41.toInt).toNat < n → ok (r_u41 25 a_2u41 63 a_4u41 a_7u41 a_8u41 a_9u41 a_10u41 Zu41) (fun r Y => (Fr YC Qv30 X Y ∧ INV Y))) ?_ ?_ n
                  · intro a_2u41 a_4u41 a_7u41 a_8u41 a_9u41 a_10u41 Zu41 hIu41 hFu41 u41_0 u41_1 u41_2 u41_3 u41_4  hm; exact absurd hm (Nat.not_lt_zero _)
                  · intro n r_u41 ih_u41 a_2u41 a_4u41 a_7u41 a_8u41 a_9u41 a_10u41 Zu41 hIu41 hFu41 u41_0 u41_1 u41_2 u41_3 u41_4  hmu41
                    unfold g_Kinds_findOrAdd_172_s
                    refine ok.ite (fun c42 => ?_) (fun c42 => ?_)
                    · skip
                      refine ok.letE (v1 := 30) (by decide) ?_
                      refine ok.ck (show 0 ≤ a_8u41.toInt ∧ a_8u41.toInt < ((1549 : Nat) : Int) from by omega) ?_
                      refine ok.wI (L := [6000]) hIu41 (show True from trivial) (show (6000 : Nat) ∈ [6000] from by decide) (by decide) (fun Z43 hIZ43 hFZ43 hkZ43 hoZ43 => ?_)
                      refine ok.letE (v1 := 32) (by decide) ?_
                      refine ok.letE (v1 := 31) (by decide) ?_
                      refine ok.ck (show 0 ≤ a_7u41.toInt ∧ a_7u41.toInt < ((512 : Nat) : Int) from by omega) ?_
                      refine ok.letE (v1 := (Zu41.1 31 (ix a_7u41))) (hFZ43.1 31 (ix a_7u41) (show (6200 : Nat) ∉ [6000] from by decide)) ?_
                      have g44 : -1 ≤ (Zu41.1 31 (ix a_7u41)).toInt ∧ (Zu41.1 31 (ix a_7u41)).toInt ≤ 1548 := hIu41.1 31 (ix a_7u41)
                      refine ok.ck (show 0 ≤ a_8u41.toInt ∧ a_8u41.toInt < ((1549 : Nat) : Int) from by omega) ?_
                      refine ok.wI (L := [6400]) hIZ43 (show -1 ≤ (Zu41.1 31 (ix a_7u41)).toInt ∧ (Zu41.1 31 (ix a_7u41)).toInt ≤ 1548 from by omega) (show (6400 : Nat) ∈ [6400] from by decide) (by decide) (fun Z45 hIZ45 hFZ45 hkZ45 hoZ45 => ?_)
                      refine ok.letE (v1 := 31) (by decide) ?_
                      refine ok.ck (show 0 ≤ a_7u41.toInt ∧ a_7u41.toInt < ((512 : Nat) : Int) from by omega) ?_
                      refine ok.wI (L := [6200]) hIZ45 (show -1 ≤ a_8u41.toInt ∧ a_8u41.toInt ≤ 1548 from by omega) (show (6200 : Nat) ∈ [6200] from by decide) (by decide) (fun Z46 hIZ46 hFZ46 hkZ46 hoZ46 => ?_)
                      exact ok.ret ⟨((((Fr.rf.tr hFu41 (fun _ q => q)).tr hFZ43 (by decide)).tr hFZ45 (by decide)).tr hFZ46 (by decide)), hIZ46⟩
                    · skip
                      refine ok.letE (v1 := 28) (by decide) ?_
                      refine ok.mul (show _ ≤ a_8u41.toInt * (5 : Int) ∧ a_8u41.toInt * (5 : Int) ≤ _ from by omega) (fun x29 hx29 => ?_)
                      have hx29 : x29.toInt = a_8u41.toInt * (5 : Int) := hx29
                      refine ok.add (show _ ≤ x29.toInt + a_10u41.toInt ∧ x29.toInt + a_10u41.toInt ≤ _ from by omega) (fun x30 hx30 => ?_)
                      have hx30 : x30.toInt = x29.toInt + a_10u41.toInt := hx30
                      refine ok.add (show _ ≤ a_4u41.toInt + a_10u41.toInt ∧ a_4u41.toInt + a_10u41.toInt ≤ _ from by omega) (fun x31 hx31 => ?_)
                      have hx31 : x31.toInt = a_4u41.toInt + a_10u41.toInt := hx31
                      refine ok.ck (show 0 ≤ x31.toInt ∧ x31.toInt < ((160 : Nat) : Int) from by omega) ?_
                      refine ok.letE (v1 := (X.1 63 (ix x31))) (hFu41.1 63 (ix x31) n12600_Qv30) ?_
                      refine ok.ck (show 0 ≤ x30.toInt ∧ x30.toInt < ((7745 : Nat) : Int) from by omega) ?_
                      refine ok.wI (L := [5600]) hIu41 (show True from trivial) (show (5600 : Nat) ∈ [5600] from by decide) (by decide) (fun Z47 hIZ47 hFZ47 hkZ47 hoZ47 => ?_)
                      refine ok.ite (fun c48 => ?_) (fun c48 => ?_)
                      · skip
                        have g49 := i32_le a_9u41
                        refine ok.add (show _ ≤ a_4u41.toInt + a_10u41.toInt ∧ a_4u41.toInt + a_10u41.toInt ≤ _ from by omega) (fun x35 hx35 => ?_)
                        have hx35 : x35.toInt = a_4u41.toInt + a_10u41.toInt := hx35
                        refine ok.ck (show 0 ≤ x35.toInt ∧ x35.toInt < ((160 : Nat) : Int) from by omega) ?_
                        refine ok.letE (v1 := (X.1 63 (ix x35))) ((hFZ47.1 63 (ix x35) (show (12600 : Nat) ∉ [5600] from by decide)).trans (hFu41.1 63 (ix x35) n12600_Qv30)) ?_
                        refine ok.bd (v_Kinds_hasAny_25 hIZ47) ?_
                        rintro x37 _ rfl
                        refine ok.ite (fun c51 => ?_) (fun c51 => ?_)
                        · skip
                          have g52 := i32_le x37
                          unfold g_Kinds_findOrAdd_221
                          refine ok.inc (by decide) (show _ ≤ a_10u41.toInt + (1) ∧ a_10u41.toInt + (1) ≤ _ from by omega) (fun x34 hx34 => ?_)
                          have hx34 : x34.toInt = a_10u41.toInt + (1) := hx34
                          exact ih_u41 a_2u41 a_4u41 a_7u41 a_8u41 (0 : Int32) x34 Z47 hIZ47 ((Fr.rf.tr hFu41 (fun _ q => q)).tr hFZ47 (by decide)) (show 0 ≤ a_2u41.toInt ∧ a_2u41.toInt ≤ 4 from by omega) (show 0 ≤ a_4u41.toInt ∧ a_4u41.toInt + a_2u41.toInt ≤ 160 from by omega) (show 0 ≤ a_7u41.toInt ∧ a_7u41.toInt ≤ 511 from by omega) (show 0 ≤ a_8u41.toInt ∧ a_8u41.toInt ≤ 1548 from by omega) (show 0 ≤ x34.toInt ∧ x34.toInt ≤ 5 from by omega) (show (5 - x34.toInt).toNat < _ from by omega)
                        · skip
                          unfold g_Kinds_findOrAdd_216
                          unfold g_Kinds_findOrAdd_221
                          refine ok.inc (by decide) (show _ ≤ a_10u41.toInt + (1) ∧ a_10u41.toInt + (1) ≤ _ from by omega) (fun x34 hx34 => ?_)
                          have hx34 : x34.toInt = a_10u41.toInt + (1) := hx34
                          exact ih_u41 a_2u41 a_4u41 a_7u41 a_8u41 (1 : Int32) x34 Z47 hIZ47 ((Fr.rf.tr hFu41 (fun _ q => q)).tr hFZ47 (by decide)) (show 0 ≤ a_2u41.toInt ∧ a_2u41.toInt ≤ 4 from by omega) (show 0 ≤ a_4u41.toInt ∧ a_4u41.toInt + a_2u41.toInt ≤ 160 from by omega) (show 0 ≤ a_7u41.toInt ∧ a_7u41.toInt ≤ 511 from by omega) (show 0 ≤ a_8u41.toInt ∧ a_8u41.toInt ≤ 1548 from by omega) (show 0 ≤ x34.toInt ∧ x34.toInt ≤ 5 from by omega) (show (5 - x34.toInt).toNat < _ from by omega)
                      · skip
                        unfold g_Kinds_findOrAdd_216
                        unfold g_Kinds_findOrAdd_221
                        refine ok.inc (by decide) (show _ ≤ a_10u41.toInt + (1) ∧ a_10u41.toInt + (1) ≤ _ from by omega) (fun x34 hx34 => ?_)
                        have hx34 : x34.toInt = a_10u41.toInt + (1) := hx34
                        exact ih_u41 a_2u41 a_4u41 a_7u41 a_8u41 (1 : Int32) x34 Z47 hIZ47 ((Fr.rf.tr hFu41 (fun _ q => q)).tr hFZ47 (by decide)) (show 0 ≤ a_2u41.toInt ∧ a_2u41.toInt ≤ 4 from by omega) (show 0 ≤ a_4u41.toInt ∧ a_4u41.toInt + a_2u41.toInt ≤ 160 from by omega) (show 0 ≤ a_7u41.toInt ∧ a_7u41.toInt ≤ 511 from by omega) (show 0 ≤ a_8u41.toInt ∧ a_8u41.toInt ≤ 1548 from by omega) (show 0 ≤ x34.toInt ∧ x34.toInt ≤ 5 from by omega) (show (5 - x34.toInt).toNat < _ from by omega)
                exact lpu41 BIG a_2u3 a_4u3 a_7u3 (Zu3.1 25 0) (0 : Int32) (0 : Int32) Z11 hIZ11 ((((((Fr.rf.tr hFu3 (fun _ q => q)).tr hFZ7 (by decide)).tr hFZ8 (by decide)).tr hFZ9 (by decide)).tr hFZ10 (by decide)).tr hFZ11 (by decide)) (show 0 ≤ a_2u3.toInt ∧ a_2u3.toInt ≤ 4 from by omega) (show 0 ≤ a_4u3.toInt ∧ a_4u3.toInt + a_2u3.toInt ≤ 160 from by omega) (show 0 ≤ a_7u3.toInt ∧ a_7u3.toInt ≤ 511 from by omega) (show 0 ≤ (Zu3.1 25 0).toInt ∧ (Zu3.1 25 0).toInt ≤ 1548 from by omega) (show 0 ≤ (0 : Int) ∧ (0 : Int) ≤ 5 from by omega) (show (5 - (0 : Int)).toNat < BIG from ltBIG (show _ < 100000 from by omega))
              · skip
                unfold g_Kinds_findOrAdd_162
                unfold g_Kinds_findOrAdd_167
                have lpu53 : ∀ (n : Nat), ∀ (a_2u53 : Int32) (a_4u53 : Int32) (a_7u53 : Int32) (a_8u53 : Int32) (a_9u53 : Int32) (a_10u53 : Int32) (Zu53 : St), INV Zu53 → Fr YC Qv30 X Zu53 → (0 ≤ a_2u53.toInt ∧ a_2u53.toInt ≤ 4) → (0 ≤ a_4u53.toInt ∧ a_4u53.toInt + a_2u53.toInt ≤ 160) → (0 ≤ a_7u53.toInt ∧ a_7u53.toInt ≤ 511) → (0 ≤ a_8u53.toInt ∧ a_8u53.toInt ≤ 1548) → (0 ≤ a_10u53.toInt ∧ a_10u53.toInt ≤ 5) → (5 - a_10u53.toInt).toNat < n → ok (g_Kinds_findOrAdd_172 n 25 a_2u53 63 a_4u53 a_7u53 a_8u53 a_9u53 a_10u53 Zu53) (fun r Y => (Fr YC Qv30 X Y ∧ INV Y)) := by
                  intro n
                  unfold g_Kinds_findOrAdd_172
                  refine lp_indN (P := fun (n : Nat) (r_u53 : Nat → Int32 → Nat → Int32 → Int32 → Int32 → Int32 → Int32 → St → Option (Int32 × St)) => ∀ (a_2u53 : Int32) (a_4u53 : Int32) (a_7u53 : Int32) (a_8u53 : Int32) (a_9u53 : Int32) (a_10u53 : Int32) (Zu53 : St), INV Zu53 → Fr YC Qv30 X Zu53 → (0 ≤ a_2u53.toInt ∧ a_2u53.toInt ≤ 4) → (0 ≤ a_4u53.toInt ∧ a_4u53.toInt + a_2u53.toInt ≤ 160) → (0 ≤ a_7u53.toInt ∧ a_7u53.toInt ≤ 511) → (0 ≤ a_8u53.toInt ∧ a_8u53.toInt ≤ 1548) → (0 ≤ a_10u53.toInt ∧ a_10u53.toInt ≤ 5) → (5 - a_10u53.toInt).toNat < n → ok (r_u53 25 a_2u53 63 a_4u53 a_7u53 a_8u53 a_9u53 a_10u53 Zu53) (fun r Y => (Fr YC Qv30 X Y ∧ INV Y))) ?_ ?_ n
                  · intro a_2u53 a_4u53 a_7u53 a_8u53 a_9u53 a_10u53 Zu53 hIu53 hFu53 u53_0 u53_1 u53_2 u53_3 u53_4  hm; exact absurd hm (Nat.not_lt_zero _)
                  · intro n r_u53 ih_u53 a_2u53 a_4u53 a_7u53 a_8u53 a_9u53 a_10u53 Zu53 hIu53 hFu53 u53_0 u53_1 u53_2 u53_3 u53_4  hmu53
                    unfold g_Kinds_findOrAdd_172_s
                    refine ok.ite (fun c54 => ?_) (fun c54 => ?_)
                    · skip
                      refine ok.letE (v1 := 30) (by decide) ?_
                      refine ok.ck (show 0 ≤ a_8u53.toInt ∧ a_8u53.toInt < ((1549 : Nat) : Int) from by omega) ?_
                      refine ok.wI (L := [6000]) hIu53 (show True from trivial) (show (6000 : Nat) ∈ [6000] from by decide) (by decide) (fun Z55 hIZ55 hFZ55 hkZ55 hoZ55 => ?_)
                      refine ok.letE (v1 := 32) (by decide) ?_
                      refine ok.letE (v1 := 31) (by decide) ?_
                      refine ok.ck (show 0 ≤ a_7u53.toInt ∧ a_7u53.toInt < ((512 : Nat) : Int) from by omega) ?_
                      refine ok.letE (v1 := (Zu53.1 31 (ix a_7u53))) (hFZ55.1 31 (ix a_7u53) (show (6200 : Nat) ∉ [6000] from by decide)) ?_
                      have g56 : -1 ≤ (Zu53.1 31 (ix a_7u53)).toInt ∧ (Zu53.1 31 (ix a_7u53)).toInt ≤ 1548 := hIu53.1 31 (ix a_7u53)
                      refine ok.ck (show 0 ≤ a_8u53.toInt ∧ a_8u53.toInt < ((1549 : Nat) : Int) from by omega) ?_
                      refine ok.wI (L := [6400]) hIZ55 (show -1 ≤ (Zu53.1 31 (ix a_7u53)).toInt ∧ (Zu53.1 31 (ix a_7u53)).toInt ≤ 1548 from by omega) (show (6400 : Nat) ∈ [6400] from by decide) (by decide) (fun Z57 hIZ57 hFZ57 hkZ57 hoZ57 => ?_)
                      refine ok.letE (v1 := 31) (by decide) ?_
                      refine ok.ck (show 0 ≤ a_7u53.toInt ∧ a_7u53.toInt < ((512 : Nat) : Int) from by omega) ?_
                      refine ok.wI (L := [6200]) hIZ57 (show -1 ≤ a_8u53.toInt ∧ a_8u53.toInt ≤ 1548 from by omega) (show (6200 : Nat) ∈ [6200] from by decide) (by decide) (fun Z58 hIZ58 hFZ58 hkZ58 hoZ58 => ?_)
                      exact ok.ret ⟨((((Fr.rf.tr hFu53 (fun _ q => q)).tr hFZ55 (by decide)).tr hFZ57 (by decide)).tr hFZ58 (by decide)), hIZ58⟩
                    · skip
                      refine ok.letE (v1 := 28) (by decide) ?_
                      refine ok.mul (show _ ≤ a_8u53.toInt * (5 : Int) ∧ a_8u53.toInt * (5 : Int) ≤ _ from by omega) (fun x29 hx29 => ?_)
                      have hx29 : x29.toInt = a_8u53.toInt * (5 : Int) := hx29
                      refine ok.add (show _ ≤ x29.toInt + a_10u53.toInt ∧ x29.toInt + a_10u53.toInt ≤ _ from by omega) (fun x30 hx30 => ?_)
                      have hx30 : x30.toInt = x29.toInt + a_10u53.toInt := hx30
                      refine ok.add (show _ ≤ a_4u53.toInt + a_10u53.toInt ∧ a_4u53.toInt + a_10u53.toInt ≤ _ from by omega) (fun x31 hx31 => ?_)
                      have hx31 : x31.toInt = a_4u53.toInt + a_10u53.toInt := hx31
                      refine ok.ck (show 0 ≤ x31.toInt ∧ x31.toInt < ((160 : Nat) : Int) from by omega) ?_
                      refine ok.letE (v1 := (X.1 63 (ix x31))) (hFu53.1 63 (ix x31) n12600_Qv30) ?_
                      refine ok.ck (show 0 ≤ x30.toInt ∧ x30.toInt < ((7745 : Nat) : Int) from by omega) ?_
                      refine ok.wI (L := [5600]) hIu53 (show True from trivial) (show (5600 : Nat) ∈ [5600] from by decide) (by decide) (fun Z59 hIZ59 hFZ59 hkZ59 hoZ59 => ?_)
                      refine ok.ite (fun c60 => ?_) (fun c60 => ?_)
                      · skip
                        have g61 := i32_le a_9u53
                        refine ok.add (show _ ≤ a_4u53.toInt + a_10u53.toInt ∧ a_4u53.toInt + a_10u53.toInt ≤ _ from by omega) (fun x35 hx35 => ?_)
                        have hx35 : x35.toInt = a_4u53.toInt + a_10u53.toInt := hx35
                        refine ok.ck (show 0 ≤ x35.toInt ∧ x35.toInt < ((160 : Nat) : Int) from by omega) ?_
                        refine ok.letE (v1 := (X.1 63 (ix x35))) ((hFZ59.1 63 (ix x35) (show (12600 : Nat) ∉ [5600] from by decide)).trans (hFu53.1 63 (ix x35) n12600_Qv30)) ?_
                        refine ok.bd (v_Kinds_hasAny_25 hIZ59) ?_
                        rintro x37 _ rfl
                        refine ok.ite (fun c63 => ?_) (fun c63 => ?_)
                        · skip
                          have g64 := i32_le x37
                          unfold g_Kinds_findOrAdd_221
                          refine ok.inc (by decide) (show _ ≤ a_10u53.toInt + (1) ∧ a_10u53.toInt + (1) ≤ _ from by omega) (fun x34 hx34 => ?_)
                          have hx34 : x34.toInt = a_10u53.toInt + (1) := hx34
                          exact ih_u53 a_2u53 a_4u53 a_7u53 a_8u53 (0 : Int32) x34 Z59 hIZ59 ((Fr.rf.tr hFu53 (fun _ q => q)).tr hFZ59 (by decide)) (show 0 ≤ a_2u53.toInt ∧ a_2u53.toInt ≤ 4 from by omega) (show 0 ≤ a_4u53.toInt ∧ a_4u53.toInt + a_2u53.toInt ≤ 160 from by omega) (show 0 ≤ a_7u53.toInt ∧ a_7u53.toInt ≤ 511 from by omega) (show 0 ≤ a_8u53.toInt ∧ a_8u53.toInt ≤ 1548 from by omega) (show 0 ≤ x34.toInt ∧ x34.toInt ≤ 5 from by omega) (show (5 - x34.toInt).toNat < _ from by omega)
                        · skip
                          unfold g_Kinds_findOrAdd_216
                          unfold g_Kinds_findOrAdd_221
                          refine ok.inc (by decide) (show _ ≤ a_10u53.toInt + (1) ∧ a_10u53.toInt + (1) ≤ _ from by omega) (fun x34 hx34 => ?_)
                          have hx34 : x34.toInt = a_10u53.toInt + (1) := hx34
                          exact ih_u53 a_2u53 a_4u53 a_7u53 a_8u53 (1 : Int32) x34 Z59 hIZ59 ((Fr.rf.tr hFu53 (fun _ q => q)).tr hFZ59 (by decide)) (show 0 ≤ a_2u53.toInt ∧ a_2u53.toInt ≤ 4 from by omega) (show 0 ≤ a_4u53.toInt ∧ a_4u53.toInt + a_2u53.toInt ≤ 160 from by omega) (show 0 ≤ a_7u53.toInt ∧ a_7u53.toInt ≤ 511 from by omega) (show 0 ≤ a_8u53.toInt ∧ a_8u53.toInt ≤ 1548 from by omega) (show 0 ≤ x34.toInt ∧ x34.toInt ≤ 5 from by omega) (show (5 - x34.toInt).toNat < _ from by omega)
                      · skip
                        unfold g_Kinds_findOrAdd_216
                        unfold g_Kinds_findOrAdd_221
                        refine ok.inc (by decide) (show _ ≤ a_10u53.toInt + (1) ∧ a_10u53.toInt + (1) ≤ _ from by omega) (fun x34 hx34 => ?_)
                        have hx34 : x34.toInt = a_10u53.toInt + (1) := hx34
                        exact ih_u53 a_2u53 a_4u53 a_7u53 a_8u53 (1 : Int32) x34 Z59 hIZ59 ((Fr.rf.tr hFu53 (fun _ q => q)).tr hFZ59 (by decide)) (show 0 ≤ a_2u53.toInt ∧ a_2u53.toInt ≤ 4 from by omega) (show 0 ≤ a_4u53.toInt ∧ a_4u53.toInt + a_2u53.toInt ≤ 160 from by omega) (show 0 ≤ a_7u53.toInt ∧ a_7u53.toInt ≤ 511 from by omega) (show 0 ≤ a_8u53.toInt ∧ a_8u53.toInt ≤ 1548 from by omega) (show 0 ≤ x34.toInt ∧ x34.toInt ≤ 5 from by omega) (show (5 - x34.toInt).toNat < _ from by omega)
                exact lpu53 BIG a_2u3 a_4u3 a_7u3 (Zu3.1 25 0) (1 : Int32) (0 : Int32) Z11 hIZ11 ((((((Fr.rf.tr hFu3 (fun _ q => q)).tr hFZ7 (by decide)).tr hFZ8 (by decide)).tr hFZ9 (by decide)).tr hFZ10 (by decide)).tr hFZ11 (by decide)) (show 0 ≤ a_2u3.toInt ∧ a_2u3.toInt ≤ 4 from by omega) (show 0 ≤ a_4u3.toInt ∧ a_4u3.toInt + a_2u3.toInt ≤ 160 from by omega) (show 0 ≤ a_7u3.toInt ∧ a_7u3.toInt ≤ 511 from by omega) (show 0 ≤ (Zu3.1 25 0).toInt ∧ (Zu3.1 25 0).toInt ≤ 1548 from by omega) (show 0 ≤ (0 : Int) ∧ (0 : Int) ≤ 5 from by omega) (show (5 - (0 : Int)).toNat < BIG from ltBIG (show _ < 100000 from by omega))
        · skip
          exact ok.ret ⟨(Fr.rf.tr hFu3 (fun _ q => q)), hIu3⟩
      · skip
        refine ok.ite (fun c65 => ?_) (fun c65 => ?_)
        · skip
          unfold g_Kinds_findOrAdd_77
          refine ok.letE (v1 := (Zu3.1 25 0)) rfl ?_
          have g66 : 0 ≤ (Zu3.1 25 0).toInt ∧ (Zu3.1 25 0).toInt ≤ 1549 := hIu3.1 25 0
          refine ok.ite (fun c67 => ?_) (fun c67 => ?_)
          · skip
            refine ok.letE (v1 := (Zu3.1 25 0)) rfl ?_
            refine ok.letE (v1 := (Zu3.1 25 0)) rfl ?_
            refine ok.add (show _ ≤ (Zu3.1 25 0).toInt + (1 : Int) ∧ (Zu3.1 25 0).toInt + (1 : Int) ≤ _ from by omega) (fun x8 hx8 => ?_)
            have hx8 : x8.toInt = (Zu3.1 25 0).toInt + (1 : Int) := hx8
            refine ok.wI (L := [5000]) hIu3 (show 0 ≤ x8.toInt ∧ x8.toInt ≤ 1549 from by omega) (show (5000 : Nat) ∈ [5000] from by decide) (by decide) (fun Z68 hIZ68 hFZ68 hkZ68 hoZ68 => ?_)
            refine ok.letE (v1 := 26) (by decide) ?_
            refine ok.ck (show 0 ≤ (Zu3.1 25 0).toInt ∧ (Zu3.1 25 0).toInt < ((1549 : Nat) : Int) from by omega) ?_
            refine ok.wI (L := [5200]) hIZ68 (show True from trivial) (show (5200 : Nat) ∈ [5200] from by decide) (by decide) (fun Z69 hIZ69 hFZ69 hkZ69 hoZ69 => ?_)
            refine ok.letE (v1 := 27) (by decide) ?_
            refine ok.ck (show 0 ≤ (Zu3.1 25 0).toInt ∧ (Zu3.1 25 0).toInt < ((1549 : Nat) : Int) from by omega) ?_
            refine ok.wI (L := [5400]) hIZ69 (show 0 ≤ a_2u3.toInt ∧ a_2u3.toInt ≤ 4 from by omega) (show (5400 : Nat) ∈ [5400] from by decide) (by decide) (fun Z70 hIZ70 hFZ70 hkZ70 hoZ70 => ?_)
            refine ok.letE (v1 := 29) (by decide) ?_
            refine ok.ck (show 0 ≤ (Zu3.1 25 0).toInt ∧ (Zu3.1 25 0).toInt < ((1549 : Nat) : Int) from by omega) ?_
            refine ok.wI (L := [5800]) hIZ70 (show True from trivial) (show (5800 : Nat) ∈ [5800] from by decide) (by decide) (fun Z71 hIZ71 hFZ71 hkZ71 hoZ71 => ?_)
            refine ok.letE (v1 := 28) (by decide) ?_
            refine ok.mul (show _ ≤ (Zu3.1 25 0).toInt * (5 : Int) ∧ (Zu3.1 25 0).toInt * (5 : Int) ≤ _ from by omega) (fun x17 hx17 => ?_)
            have hx17 : x17.toInt = (Zu3.1 25 0).toInt * (5 : Int) := hx17
            refine ok.add (show _ ≤ x17.toInt + (4 : Int) ∧ x17.toInt + (4 : Int) ≤ _ from by omega) (fun x18 hx18 => ?_)
            have hx18 : x18.toInt = x17.toInt + (4 : Int) := hx18
            refine ok.ck (show 0 ≤ x18.toInt ∧ x18.toInt < ((7745 : Nat) : Int) from by omega) ?_
            refine ok.wI (L := [5600]) hIZ71 (show True from trivial) (show (5600 : Nat) ∈ [5600] from by decide) (by decide) (fun Z72 hIZ72 hFZ72 hkZ72 hoZ72 => ?_)
            refine ok.ite (fun c73 => ?_) (fun c73 => ?_)
            · skip
              unfold g_Kinds_findOrAdd_162
              unfold g_Kinds_findOrAdd_167
              have lpu74 : ∀ (n : Nat), ∀ (a_2u74 : Int32) (a_4u74 : Int32) (a_7u74 : Int32) (a_8u74 : Int32) (a_9u74 : Int32) (a_10u74 : Int32) (Zu74 : St), INV Zu74 → Fr YC Qv30 X Zu74 → (0 ≤ a_2u74.toInt ∧ a_2u74.toInt ≤ 4) → (0 ≤ a_4u74.toInt ∧ a_4u74.toInt + a_2u74.toInt ≤ 160) → (0 ≤ a_7u74.toInt ∧ a_7u74.toInt ≤ 511) → (0 ≤ a_8u74.toInt ∧ a_8u74.toInt ≤ 1548) → (0 ≤ a_10u74.toInt ∧ a_10u74.toInt ≤ 5) → (5 - a_10u74.toInt).toNat < n → ok (g_Kinds_findOrAdd_172 n 25 a_2u74 63 a_4u74 a_7u74 a_8u74 a_9u74 a_10u74 Zu74) (fun r Y => (Fr YC Qv30 X Y ∧ INV Y)) := by
                intro n
                unfold g_Kinds_findOrAdd_172
                refine lp_indN (P := fun (n : Nat) (r_u74 : Nat → Int32 → Nat → Int32 → Int32 → Int32 → Int32 → Int32 → St → Option (Int32 × St)) => ∀ (a_2u74 : Int32) (a_4u74 : Int32) (a_7u74 : Int32) (a_8u74 : Int32) (a_9u74 : Int32) (a_10u74 : Int32) (Zu74 : St), INV Zu74 → Fr YC Qv30 X Zu74 → (0 ≤ a_2u74.toInt ∧ a_2u74.toInt ≤ 4) → (0 ≤ a_4u74.toInt ∧ a_4u74.toInt + a_2u74.toInt ≤ 160) → (0 ≤ a_7u74.toInt ∧ a_7u74.toInt ≤ 511) → (0 ≤ a_8u74.toInt ∧ a_8u74.toInt ≤ 1548) → (0 ≤ a_10u74.toInt ∧ a_10u74.toInt ≤ 5) → (5 - a_10u74.toInt).toNat < n → ok (r_u74 25 a_2u74 63 a_4u74 a_7u74 a_8u74 a_9u74 a_10u74 Zu74) (fun r Y => (Fr YC Qv30 X Y ∧ INV Y))) ?_ ?_ n
                · intro a_2u74 a_4u74 a_7u74 a_8u74 a_9u74 a_10u74 Zu74 hIu74 hFu74 u74_0 u74_1 u74_2 u74_3 u74_4  hm; exact absurd hm (Nat.not_lt_zero _)
                · intro n r_u74 ih_u74 a_2u74 a_4u74 a_7u74 a_8u74 a_9u74 a_10u74 Zu74 hIu74 hFu74 u74_0 u74_1 u74_2 u74_3 u74_4  hmu74
                  unfold g_Kinds_findOrAdd_172_s
                  refine ok.ite (fun c75 => ?_) (fun c75 => ?_)
                  · skip
                    refine ok.letE (v1 := 30) (by decide) ?_
                    refine ok.ck (show 0 ≤ a_8u74.toInt ∧ a_8u74.toInt < ((1549 : Nat) : Int) from by omega) ?_
                    refine ok.wI (L := [6000]) hIu74 (show True from trivial) (show (6000 : Nat) ∈ [6000] from by decide) (by decide) (fun Z76 hIZ76 hFZ76 hkZ76 hoZ76 => ?_)
                    refine ok.letE (v1 := 32) (by decide) ?_
                    refine ok.letE (v1 := 31) (by decide) ?_
                    refine ok.ck (show 0 ≤ a_7u74.toInt ∧ a_7u74.toInt < ((512 : Nat) : Int) from by omega) ?_
                    refine ok.letE (v1 := (Zu74.1 31 (ix a_7u74))) (hFZ76.1 31 (ix a_7u74) (show (6200 : Nat) ∉ [6000] from by decide)) ?_
                    have g77 : -1 ≤ (Zu74.1 31 (ix a_7u74)).toInt ∧ (Zu74.1 31 (ix a_7u74)).toInt ≤ 1548 := hIu74.1 31 (ix a_7u74)
                    refine ok.ck (show 0 ≤ a_8u74.toInt ∧ a_8u74.toInt < ((1549 : Nat) : Int) from by omega) ?_
                    refine ok.wI (L := [6400]) hIZ76 (show -1 ≤ (Zu74.1 31 (ix a_7u74)).toInt ∧ (Zu74.1 31 (ix a_7u74)).toInt ≤ 1548 from by omega) (show (6400 : Nat) ∈ [6400] from by decide) (by decide) (fun Z78 hIZ78 hFZ78 hkZ78 hoZ78 => ?_)
                    refine ok.letE (v1 := 31) (by decide) ?_
                    refine ok.ck (show 0 ≤ a_7u74.toInt ∧ a_7u74.toInt < ((512 : Nat) : Int) from by omega) ?_
                    refine ok.wI (L := [6200]) hIZ78 (show -1 ≤ a_8u74.toInt ∧ a_8u74.toInt ≤ 1548 from by omega) (show (6200 : Nat) ∈ [6200] from by decide) (by decide) (fun Z79 hIZ79 hFZ79 hkZ79 hoZ79 => ?_)
                    exact ok.ret ⟨((((Fr.rf.tr hFu74 (fun _ q => q)).tr hFZ76 (by decide)).tr hFZ78 (by decide)).tr hFZ79 (by decide)), hIZ79⟩
                  · skip
                    refine ok.letE (v1 := 28) (by decide) ?_
                    refine ok.mul (show _ ≤ a_8u74.toInt * (5 : Int) ∧ a_8u74.toInt * (5 : Int) ≤ _ from by omega) (fun x29 hx29 => ?_)
                    have hx29 : x29.toInt = a_8u74.toInt * (5 : Int) := hx29
                    refine ok.add (show _ ≤ x29.toInt + a_10u74.toInt ∧ x29.toInt + a_10u74.toInt ≤ _ from by omega) (fun x30 hx30 => ?_)
                    have hx30 : x30.toInt = x29.toInt + a_10u74.toInt := hx30
                    refine ok.add (show _ ≤ a_4u74.toInt + a_10u74.toInt ∧ a_4u74.toInt + a_10u74.toInt ≤ _ from by omega) (fun x31 hx31 => ?_)
                    have hx31 : x31.toInt = a_4u74.toInt + a_10u74.toInt := hx31
                    refine ok.ck (show 0 ≤ x31.toInt ∧ x31.toInt < ((160 : Nat) : Int) from by omega) ?_
                    refine ok.letE (v1 := (X.1 63 (ix x31))) (hFu74.1 63 (ix x31) n12600_Qv30) ?_
                    refine ok.ck (show 0 ≤ x30.toInt ∧ x30.toInt < ((7745 : Nat) : Int) from by omega) ?_
                    refine ok.wI (L := [5600]) hIu74 (show True from trivial) (show (5600 : Nat) ∈ [5600] from by decide) (by decide) (fun Z80 hIZ80 hFZ80 hkZ80 hoZ80 => ?_)
                    refine ok.ite (fun c81 => ?_) (fun c81 => ?_)
                    · skip
                      have g82 := i32_le a_9u74
                      refine ok.add (show _ ≤ a_4u74.toInt + a_10u74.toInt ∧ a_4u74.toInt + a_10u74.toInt ≤ _ from by omega) (fun x35 hx35 => ?_)
                      have hx35 : x35.toInt = a_4u74.toInt + a_10u74.toInt := hx35
                      refine ok.ck (show 0 ≤ x35.toInt ∧ x35.toInt < ((160 : Nat) : Int) from by omega) ?_
                      refine ok.letE (v1 := (X.1 63 (ix x35))) ((hFZ80.1 63 (ix x35) (show (12600 : Nat) ∉ [5600] from by decide)).trans (hFu74.1 63 (ix x35) n12600_Qv30)) ?_
                      refine ok.bd (v_Kinds_hasAny_25 hIZ80) ?_
                      rintro x37 _ rfl
                      refine ok.ite (fun c84 => ?_) (fun c84 => ?_)
                      · skip
                        have g85 := i32_le x37
                        unfold g_Kinds_findOrAdd_221
                        refine ok.inc (by decide) (show _ ≤ a_10u74.toInt + (1) ∧ a_10u74.toInt + (1) ≤ _ from by omega) (fun x34 hx34 => ?_)
                        have hx34 : x34.toInt = a_10u74.toInt + (1) := hx34
                        exact ih_u74 a_2u74 a_4u74 a_7u74 a_8u74 (0 : Int32) x34 Z80 hIZ80 ((Fr.rf.tr hFu74 (fun _ q => q)).tr hFZ80 (by decide)) (show 0 ≤ a_2u74.toInt ∧ a_2u74.toInt ≤ 4 from by omega) (show 0 ≤ a_4u74.toInt ∧ a_4u74.toInt + a_2u74.toInt ≤ 160 from by omega) (show 0 ≤ a_7u74.toInt ∧ a_7u74.toInt ≤ 511 from by omega) (show 0 ≤ a_8u74.toInt ∧ a_8u74.toInt ≤ 1548 from by omega) (show 0 ≤ x34.toInt ∧ x34.toInt ≤ 5 from by omega) (show (5 - x34.toInt).toNat < _ from by omega)
                      · skip
                        unfold g_Kinds_findOrAdd_216
                        unfold g_Kinds_findOrAdd_221
                        refine ok.inc (by decide) (show _ ≤ a_10u74.toInt + (1) ∧ a_10u74.toInt + (1) ≤ _ from by omega) (fun x34 hx34 => ?_)
                        have hx34 : x34.toInt = a_10u74.toInt + (1) := hx34
                        exact ih_u74 a_2u74 a_4u74 a_7u74 a_8u74 (1 : Int32) x34 Z80 hIZ80 ((Fr.rf.tr hFu74 (fun _ q => q)).tr hFZ80 (by decide)) (show 0 ≤ a_2u74.toInt ∧ a_2u74.toInt ≤ 4 from by omega) (show 0 ≤ a_4u74.toInt ∧ a_4u74.toInt + a_2u74.toInt ≤ 160 from by omega) (show 0 ≤ a_7u74.toInt ∧ a_7u74.toInt ≤ 511 from by omega) (show 0 ≤ a_8u74.toInt ∧ a_8u74.toInt ≤ 1548 from by omega) (show 0 ≤ x34.toInt ∧ x34.toInt ≤ 5 from by omega) (show (5 - x34.toInt).toNat < _ from by omega)
                    · skip
                      unfold g_Kinds_findOrAdd_216
                      unfold g_Kinds_findOrAdd_221
                      refine ok.inc (by decide) (show _ ≤ a_10u74.toInt + (1) ∧ a_10u74.toInt + (1) ≤ _ from by omega) (fun x34 hx34 => ?_)
                      have hx34 : x34.toInt = a_10u74.toInt + (1) := hx34
                      exact ih_u74 a_2u74 a_4u74 a_7u74 a_8u74 (1 : Int32) x34 Z80 hIZ80 ((Fr.rf.tr hFu74 (fun _ q => q)).tr hFZ80 (by decide)) (show 0 ≤ a_2u74.toInt ∧ a_2u74.toInt ≤ 4 from by omega) (show 0 ≤ a_4u74.toInt ∧ a_4u74.toInt + a_2u74.toInt ≤ 160 from by omega) (show 0 ≤ a_7u74.toInt ∧ a_7u74.toInt ≤ 511 from by omega) (show 0 ≤ a_8u74.toInt ∧ a_8u74.toInt ≤ 1548 from by omega) (show 0 ≤ x34.toInt ∧ x34.toInt ≤ 5 from by omega) (show (5 - x34.toInt).toNat < _ from by omega)
              exact lpu74 BIG a_2u3 a_4u3 a_7u3 (Zu3.1 25 0) (1 : Int32) (0 : Int32) Z72 hIZ72 ((((((Fr.rf.tr hFu3 (fun _ q => q)).tr hFZ68 (by decide)).tr hFZ69 (by decide)).tr hFZ70 (by decide)).tr hFZ71 (by decide)).tr hFZ72 (by decide)) (show 0 ≤ a_2u3.toInt ∧ a_2u3.toInt ≤ 4 from by omega) (show 0 ≤ a_4u3.toInt ∧ a_4u3.toInt + a_2u3.toInt ≤ 160 from by omega) (show 0 ≤ a_7u3.toInt ∧ a_7u3.toInt ≤ 511 from by omega) (show 0 ≤ (Zu3.1 25 0).toInt ∧ (Zu3.1 25 0).toInt ≤ 1548 from by omega) (show 0 ≤ (0 : Int) ∧ (0 : Int) ≤ 5 from by omega) (show (5 - (0 : Int)).toNat < BIG from ltBIG (show _ < 100000 from by omega))
            · skip
              refine ok.ite (fun c86 => ?_) (fun c86 => ?_)
              · skip
                unfold g_Kinds_findOrAdd_166
                unfold g_Kinds_findOrAdd_167
                have lpu87 : ∀ (n : Nat), ∀ (a_2u87 : Int32) (a_4u87 : Int32) (a_7u87 : Int32) (a_8u87 : Int32) (a_9u87 : Int32) (a_10u87 : Int32) (Zu87 : St), INV Zu87 → Fr YC Qv30 X Zu87 → (0 ≤ a_2u87.toInt ∧ a_2u87.toInt ≤ 4) → (0 ≤ a_4u87.toInt ∧ a_4u87.toInt + a_2u87.toInt ≤ 160) → (0 ≤ a_7u87.toInt ∧ a_7u87.toInt ≤ 511) → (0 ≤ a_8u87.toInt ∧ a_8u87.toInt ≤ 1548) → (0 ≤ a_10u87.toInt ∧ a_10u87.toInt ≤ 5) → (5 - a_10u87.toInt).toNat < n → ok (g_Kinds_findOrAdd_172 n 25 a_2u87 63 a_4u87 a_7u87 a_8u87 a_9u87 a_10u87 Zu87) (fun r Y => (Fr YC Qv30 X Y ∧ INV Y)) := by
                  intro n
                  unfold g_Kinds_findOrAdd_172
                  refine lp_indN (P := fun (n : Nat) (r_u87 : Nat → Int32 → Nat → Int32 → Int32 → Int32 → Int32 → Int32 → St → Option (Int32 × St)) => ∀ (a_2u87 : Int32) (a_4u87 : Int32) (a_7u87 : Int32) (a_8u87 : Int32) (a_9u87 : Int32) (a_10u87 : Int32) (Zu87 : St), INV Zu87 → Fr YC Qv30 X Zu87 → (0 ≤ a_2u87.toInt ∧ a_2u87.toInt ≤ 4) → (0 ≤ a_4u87.toInt ∧ a_4u87.toInt + a_2u87.toInt ≤ 160) → (0 ≤ a_7u87.toInt ∧ a_7u87.toInt ≤ 511) → (0 ≤ a_8u87.toInt ∧ a_8u87.toInt ≤ 1548) → (0 ≤ a_10u87.toInt ∧ a_10u87.toInt ≤ 5) → (5 - a_10u87.toInt).toNat < n → ok (r_u87 25 a_2u87 63 a_4u87 a_7u87 a_8u87 a_9u87 a_10u87 Zu87) (fun r Y => (Fr YC Qv30 X Y ∧ INV Y))) ?_ ?_ n
                  · intro a_2u87 a_4u87 a_7u87 a_8u87 a_9u87 a_10u87 Zu87 hIu87 hFu87 u87_0 u87_1 u87_2 u87_3 u87_4  hm; exact absurd hm (Nat.not_lt_zero _)
                  · intro n r_u87 ih_u87 a_2u87 a_4u87 a_7u87 a_8u87 a_9u87 a_10u87 Zu87 hIu87 hFu87 u87_0 u87_1 u87_2 u87_3 u87_4  hmu87
                    unfold g_Kinds_findOrAdd_172_s
                    refine ok.ite (fun c88 => ?_) (fun c88 => ?_)
                    · skip
                      refine ok.letE (v1 := 30) (by decide) ?_
                      refine ok.ck (show 0 ≤ a_8u87.toInt ∧ a_8u87.toInt < ((1549 : Nat) : Int) from by omega) ?_
                      refine ok.wI (L := [6000]) hIu87 (show True from trivial) (show (6000 : Nat) ∈ [6000] from by decide) (by decide) (fun Z89 hIZ89 hFZ89 hkZ89 hoZ89 => ?_)
                      refine ok.letE (v1 := 32) (by decide) ?_
                      refine ok.letE (v1 := 31) (by decide) ?_
                      refine ok.ck (show 0 ≤ a_7u87.toInt ∧ a_7u87.toInt < ((512 : Nat) : Int) from by omega) ?_
                      refine ok.letE (v1 := (Zu87.1 31 (ix a_7u87))) (hFZ89.1 31 (ix a_7u87) (show (6200 : Nat) ∉ [6000] from by decide)) ?_
                      have g90 : -1 ≤ (Zu87.1 31 (ix a_7u87)).toInt ∧ (Zu87.1 31 (ix a_7u87)).toInt ≤ 1548 := hIu87.1 31 (ix a_7u87)
                      refine ok.ck (show 0 ≤ a_8u87.toInt ∧ a_8u87.toInt < ((1549 : Nat) : Int) from by omega) ?_
                      refine ok.wI (L := [6400]) hIZ89 (show -1 ≤ (Zu87.1 31 (ix a_7u87)).toInt ∧ (Zu87.1 31 (ix a_7u87)).toInt ≤ 1548 from by omega) (show (6400 : Nat) ∈ [6400] from by decide) (by decide) (fun Z91 hIZ91 hFZ91 hkZ91 hoZ91 => ?_)
                      refine ok.letE (v1 := 31) (by decide) ?_
                      refine ok.ck (show 0 ≤ a_7u87.toInt ∧ a_7u87.toInt < ((512 : Nat) : Int) from by omega) ?_
                      refine ok.wI (L := [6200]) hIZ91 (show -1 ≤ a_8u87.toInt ∧ a_8u87.toInt ≤ 1548 from by omega) (show (6200 : Nat) ∈ [6200] from by decide) (by decide) (fun Z92 hIZ92 hFZ92 hkZ92 hoZ92 => ?_)
                      exact ok.ret ⟨((((Fr.rf.tr hFu87 (fun _ q => q)).tr hFZ89 (by decide)).tr hFZ91 (by decide)).tr hFZ92 (by decide)), hIZ92⟩
                    · skip
                      refine ok.letE (v1 := 28) (by decide) ?_
                      refine ok.mul (show _ ≤ a_8u87.toInt * (5 : Int) ∧ a_8u87.toInt * (5 : Int) ≤ _ from by omega) (fun x29 hx29 => ?_)
                      have hx29 : x29.toInt = a_8u87.toInt * (5 : Int) := hx29
                      refine ok.add (show _ ≤ x29.toInt + a_10u87.toInt ∧ x29.toInt + a_10u87.toInt ≤ _ from by omega) (fun x30 hx30 => ?_)
                      have hx30 : x30.toInt = x29.toInt + a_10u87.toInt := hx30
                      refine ok.add (show _ ≤ a_4u87.toInt + a_10u87.toInt ∧ a_4u87.toInt + a_10u87.toInt ≤ _ from by omega) (fun x31 hx31 => ?_)
                      have hx31 : x31.toInt = a_4u87.toInt + a_10u87.toInt := hx31
                      refine ok.ck (show 0 ≤ x31.toInt ∧ x31.toInt < ((160 : Nat) : Int) from by omega) ?_
                      refine ok.letE (v1 := (X.1 63 (ix x31))) (hFu87.1 63 (ix x31) n12600_Qv30) ?_
                      refine ok.ck (show 0 ≤ x30.toInt ∧ x30.toInt < ((7745 : Nat) : Int) from by omega) ?_
                      refine ok.wI (L := [5600]) hIu87 (show True from trivial) (show (5600 : Nat) ∈ [5600] from by decide) (by decide) (fun Z93 hIZ93 hFZ93 hkZ93 hoZ93 => ?_)
                      refine ok.ite (fun c94 => ?_) (fun c94 => ?_)
                      · skip
                        have g95 := i32_le a_9u87
                        refine ok.add (show _ ≤ a_4u87.toInt + a_10u87.toInt ∧ a_4u87.toInt + a_10u87.toInt ≤ _ from by omega) (fun x35 hx35 => ?_)
                        have hx35 : x35.toInt = a_4u87.toInt + a_10u87.toInt := hx35
                        refine ok.ck (show 0 ≤ x35.toInt ∧ x35.toInt < ((160 : Nat) : Int) from by omega) ?_
                        refine ok.letE (v1 := (X.1 63 (ix x35))) ((hFZ93.1 63 (ix x35) (show (12600 : Nat) ∉ [5600] from by decide)).trans (hFu87.1 63 (ix x35) n12600_Qv30)) ?_
                        refine ok.bd (v_Kinds_hasAny_25 hIZ93) ?_
                        rintro x37 _ rfl
                        refine ok.ite (fun c97 => ?_) (fun c97 => ?_)
                        · skip
                          have g98 := i32_le x37
                          unfold g_Kinds_findOrAdd_221
                          refine ok.inc (by decide) (show _ ≤ a_10u87.toInt + (1) ∧ a_10u87.toInt + (1) ≤ _ from by omega) (fun x34 hx34 => ?_)
                          have hx34 : x34.toInt = a_10u87.toInt + (1) := hx34
                          exact ih_u87 a_2u87 a_4u87 a_7u87 a_8u87 (0 : Int32) x34 Z93 hIZ93 ((Fr.rf.tr hFu87 (fun _ q => q)).tr hFZ93 (by decide)) (show 0 ≤ a_2u87.toInt ∧ a_2u87.toInt ≤ 4 from by omega) (show 0 ≤ a_4u87.toInt ∧ a_4u87.toInt + a_2u87.toInt ≤ 160 from by omega) (show 0 ≤ a_7u87.toInt ∧ a_7u87.toInt ≤ 511 from by omega) (show 0 ≤ a_8u87.toInt ∧ a_8u87.toInt ≤ 1548 from by omega) (show 0 ≤ x34.toInt ∧ x34.toInt ≤ 5 from by omega) (show (5 - x34.toInt).toNat < _ from by omega)
                        · skip
                          unfold g_Kinds_findOrAdd_216
                          unfold g_Kinds_findOrAdd_221
                          refine ok.inc (by decide) (show _ ≤ a_10u87.toInt + (1) ∧ a_10u87.toInt + (1) ≤ _ from by omega) (fun x34 hx34 => ?_)
                          have hx34 : x34.toInt = a_10u87.toInt + (1) := hx34
                          exact ih_u87 a_2u87 a_4u87 a_7u87 a_8u87 (1 : Int32) x34 Z93 hIZ93 ((Fr.rf.tr hFu87 (fun _ q => q)).tr hFZ93 (by decide)) (show 0 ≤ a_2u87.toInt ∧ a_2u87.toInt ≤ 4 from by omega) (show 0 ≤ a_4u87.toInt ∧ a_4u87.toInt + a_2u87.toInt ≤ 160 from by omega) (show 0 ≤ a_7u87.toInt ∧ a_7u87.toInt ≤ 511 from by omega) (show 0 ≤ a_8u87.toInt ∧ a_8u87.toInt ≤ 1548 from by omega) (show 0 ≤ x34.toInt ∧ x34.toInt ≤ 5 from by omega) (show (5 - x34.toInt).toNat < _ from by omega)
                      · skip
                        unfold g_Kinds_findOrAdd_216
                        unfold g_Kinds_findOrAdd_221
                        refine ok.inc (by decide) (show _ ≤ a_10u87.toInt + (1) ∧ a_10u87.toInt + (1) ≤ _ from by omega) (fun x34 hx34 => ?_)
                        have hx34 : x34.toInt = a_10u87.toInt + (1) := hx34
                        exact ih_u87 a_2u87 a_4u87 a_7u87 a_8u87 (1 : Int32) x34 Z93 hIZ93 ((Fr.rf.tr hFu87 (fun _ q => q)).tr hFZ93 (by decide)) (show 0 ≤ a_2u87.toInt ∧ a_2u87.toInt ≤ 4 from by omega) (show 0 ≤ a_4u87.toInt ∧ a_4u87.toInt + a_2u87.toInt ≤ 160 from by omega) (show 0 ≤ a_7u87.toInt ∧ a_7u87.toInt ≤ 511 from by omega) (show 0 ≤ a_8u87.toInt ∧ a_8u87.toInt ≤ 1548 from by omega) (show 0 ≤ x34.toInt ∧ x34.toInt ≤ 5 from by omega) (show (5 - x34.toInt).toNat < _ from by omega)
                exact lpu87 BIG a_2u3 a_4u3 a_7u3 (Zu3.1 25 0) (0 : Int32) (0 : Int32) Z72 hIZ72 ((((((Fr.rf.tr hFu3 (fun _ q => q)).tr hFZ68 (by decide)).tr hFZ69 (by decide)).tr hFZ70 (by decide)).tr hFZ71 (by decide)).tr hFZ72 (by decide)) (show 0 ≤ a_2u3.toInt ∧ a_2u3.toInt ≤ 4 from by omega) (show 0 ≤ a_4u3.toInt ∧ a_4u3.toInt + a_2u3.toInt ≤ 160 from by omega) (show 0 ≤ a_7u3.toInt ∧ a_7u3.toInt ≤ 511 from by omega) (show 0 ≤ (Zu3.1 25 0).toInt ∧ (Zu3.1 25 0).toInt ≤ 1548 from by omega) (show 0 ≤ (0 : Int) ∧ (0 : Int) ≤ 5 from by omega) (show (5 - (0 : Int)).toNat < BIG from ltBIG (show _ < 100000 from by omega))
              · skip
                refine ok.bd (v_Kinds_hasAny_25 hIZ72) ?_
                rintro x39 _ rfl
                refine ok.ite (fun c100 => ?_) (fun c100 => ?_)
                · skip
                  have g101 := i32_le x39
                  unfold g_Kinds_findOrAdd_166
                  unfold g_Kinds_findOrAdd_167
                  have lpu102 : ∀ (n : Nat), ∀ (a_2u102 : Int32) (a_4u102 : Int32) (a_7u102 : Int32) (a_8u102 : Int32) (a_9u102 : Int32) (a_10u102 : Int32) (Zu102 : St), INV Zu102 → Fr YC Qv30 X Zu102 → (0 ≤ a_2u102.toInt ∧ a_2u102.toInt ≤ 4) → (0 ≤ a_4u102.toInt ∧ a_4u102.toInt + a_2u102.toInt ≤ 160) → (0 ≤ a_7u102.toInt ∧ a_7u102.toInt ≤ 511) → (0 ≤ a_8u102.toInt ∧ a_8u102.toInt ≤ 1548) → (0 ≤ a_10u102.toInt ∧ a_10u102.toInt ≤ 5) → (5 - a_10u102.toInt).toNat < n → ok (g_Kinds_findOrAdd_172 n 25 a_2u102 63 a_4u102 a_7u102 a_8u102 a_9u102 a_10u102 Zu102) (fun r Y => (Fr YC Qv30 X Y ∧ INV Y)) := by
                    intro n
                    unfold g_Kinds_findOrAdd_172
                    refine lp_indN (P := fun (n : Nat) (r_u102 : Nat → Int32 → Nat → Int32 → Int32 → Int32 → Int32 → Int32 → St → Option (Int32 × St)) => ∀ (a_2u102 : Int32) (a_4u102 : Int32) (a_7u102 : Int32) (a_8u102 : Int32) (a_9u102 : Int32) (a_10u102 : Int32) (Zu102 : St), INV Zu102 → Fr YC Qv30 X Zu102 → (0 ≤ a_2u102.toInt ∧ a_2u102.toInt ≤ 4) → (0 ≤ a_4u102.toInt ∧ a_4u102.toInt + a_2u102.toInt ≤ 160) → (0 ≤ a_7u102.toInt ∧ a_7u102.toInt ≤ 511) → (0 ≤ a_8u102.toInt ∧ a_8u102.toInt ≤ 1548) → (0 ≤ a_10u102.toInt ∧ a_10u102.toInt ≤ 5) → (5 - a_10u102.toInt).toNat < n → ok (r_u102 25 a_2u102 63 a_4u102 a_7u102 a_8u102 a_9u102 a_10u102 Zu102) (fun r Y => (Fr YC Qv30 X Y ∧ INV Y))) ?_ ?_ n
                    · intro a_2u102 a_4u102 a_7u102 a_8u102 a_9u102 a_10u102 Zu102 hIu102 hFu102 u102_0 u102_1 u102_2 u102_3 u102_4  hm; exact absurd hm (Nat.not_lt_zero _)
                    · intro n r_u102 ih_u102 a_2u102 a_4u102 a_7u102 a_8u102 a_9u102 a_10u102 Zu102 hIu102 hFu102 u102_0 u102_1 u102_2 u102_3 u102_4  hmu102
                      unfold g_Kinds_findOrAdd_172_s
                      refine ok.ite (fun c103 => ?_) (fun c103 => ?_)
                      · skip
                        refine ok.letE (v1 := 30) (by decide) ?_
                        refine ok.ck (show 0 ≤ a_8u102.toInt ∧ a_8u102.toInt < ((1549 : Nat) : Int) from by omega) ?_
                        refine ok.wI (L := [6000]) hIu102 (show True from trivial) (show (6000 : Nat) ∈ [6000] from by decide) (by decide) (fun Z104 hIZ104 hFZ104 hkZ104 hoZ104 => ?_)
                        refine ok.letE (v1 := 32) (by decide) ?_
                        refine ok.letE (v1 := 31) (by decide) ?_
                        refine ok.ck (show 0 ≤ a_7u102.toInt ∧ a_7u102.toInt < ((512 : Nat) : Int) from by omega) ?_
                        refine ok.letE (v1 := (Zu102.1 31 (ix a_7u102))) (hFZ104.1 31 (ix a_7u102) (show (6200 : Nat) ∉ [6000] from by decide)) ?_
                        have g105 : -1 ≤ (Zu102.1 31 (ix a_7u102)).toInt ∧ (Zu102.1 31 (ix a_7u102)).toInt ≤ 1548 := hIu102.1 31 (ix a_7u102)
                        refine ok.ck (show 0 ≤ a_8u102.toInt ∧ a_8u102.toInt < ((1549 : Nat) : Int) from by omega) ?_
                        refine ok.wI (L := [6400]) hIZ104 (show -1 ≤ (Zu102.1 31 (ix a_7u102)).toInt ∧ (Zu102.1 31 (ix a_7u102)).toInt ≤ 1548 from by omega) (show (6400 : Nat) ∈ [6400] from by decide) (by decide) (fun Z106 hIZ106 hFZ106 hkZ106 hoZ106 => ?_)
                        refine ok.letE (v1 := 31) (by decide) ?_
                        refine ok.ck (show 0 ≤ a_7u102.toInt ∧ a_7u102.toInt < ((512 : Nat) : Int) from by omega) ?_
                        refine ok.wI (L := [6200]) hIZ106 (show -1 ≤ a_8u102.toInt ∧ a_8u102.toInt ≤ 1548 from by omega) (show (6200 : Nat) ∈ [6200] from by decide) (by decide) (fun Z107 hIZ107 hFZ107 hkZ107 hoZ107 => ?_)
                        exact ok.ret ⟨((((Fr.rf.tr hFu102 (fun _ q => q)).tr hFZ104 (by decide)).tr hFZ106 (by decide)).tr hFZ107 (by decide)), hIZ107⟩
                      · skip
                        refine ok.letE (v1 := 28) (by decide) ?_
                        refine ok.mul (show _ ≤ a_8u102.toInt * (5 : Int) ∧ a_8u102.toInt * (5 : Int) ≤ _ from by omega) (fun x29 hx29 => ?_)
                        have hx29 : x29.toInt = a_8u102.toInt * (5 : Int) := hx29
                        refine ok.add (show _ ≤ x29.toInt + a_10u102.toInt ∧ x29.toInt + a_10u102.toInt ≤ _ from by omega) (fun x30 hx30 => ?_)
                        have hx30 : x30.toInt = x29.toInt + a_10u102.toInt := hx30
                        refine ok.add (show _ ≤ a_4u102.toInt + a_10u102.toInt ∧ a_4u102.toInt + a_10u102.toInt ≤ _ from by omega) (fun x31 hx31 => ?_)
                        have hx31 : x31.toInt = a_4u102.toInt + a_10u102.toInt := hx31
                        refine ok.ck (show 0 ≤ x31.toInt ∧ x31.toInt < ((160 : Nat) : Int) from by omega) ?_
                        refine ok.letE (v1 := (X.1 63 (ix x31))) (hFu102.1 63 (ix x31) n12600_Qv30) ?_
                        refine ok.ck (show 0 ≤ x30.toInt ∧ x30.toInt < ((7745 : Nat) : Int) from by omega) ?_
                        refine ok.wI (L := [5600]) hIu102 (show True from trivial) (show (5600 : Nat) ∈ [5600] from by decide) (by decide) (fun Z108 hIZ108 hFZ108 hkZ108 hoZ108 => ?_)
                        refine ok.ite (fun c109 => ?_) (fun c109 => ?_)
                        · skip
                          have g110 := i32_le a_9u102
                          refine ok.add (show _ ≤ a_4u102.toInt + a_10u102.toInt ∧ a_4u102.toInt + a_10u102.toInt ≤ _ from by omega) (fun x35 hx35 => ?_)
                          have hx35 : x35.toInt = a_4u102.toInt + a_10u102.toInt := hx35
                          refine ok.ck (show 0 ≤ x35.toInt ∧ x35.toInt < ((160 : Nat) : Int) from by omega) ?_
                          refine ok.letE (v1 := (X.1 63 (ix x35))) ((hFZ108.1 63 (ix x35) (show (12600 : Nat) ∉ [5600] from by decide)).trans (hFu102.1 63 (ix x35) n12600_Qv30)) ?_
                          refine ok.bd (v_Kinds_hasAny_25 hIZ108) ?_
                          rintro x37 _ rfl
                          refine ok.ite (fun c112 => ?_) (fun c112 => ?_)
                          · skip
                            have g113 := i32_le x37
                            unfold g_Kinds_findOrAdd_221
                            refine ok.inc (by decide) (show _ ≤ a_10u102.toInt + (1) ∧ a_10u102.toInt + (1) ≤ _ from by omega) (fun x34 hx34 => ?_)
                            have hx34 : x34.toInt = a_10u102.toInt + (1) := hx34
                            exact ih_u102 a_2u102 a_4u102 a_7u102 a_8u102 (0 : Int32) x34 Z108 hIZ108 ((Fr.rf.tr hFu102 (fun _ q => q)).tr hFZ108 (by decide)) (show 0 ≤ a_2u102.toInt ∧ a_2u102.toInt ≤ 4 from by omega) (show 0 ≤ a_4u102.toInt ∧ a_4u102.toInt + a_2u102.toInt ≤ 160 from by omega) (show 0 ≤ a_7u102.toInt ∧ a_7u102.toInt ≤ 511 from by omega) (show 0 ≤ a_8u102.toInt ∧ a_8u102.toInt ≤ 1548 from by omega) (show 0 ≤ x34.toInt ∧ x34.toInt ≤ 5 from by omega) (show (5 - x34.toInt).toNat < _ from by omega)
                          · skip
                            unfold g_Kinds_findOrAdd_216
                            unfold g_Kinds_findOrAdd_221
                            refine ok.inc (by decide) (show _ ≤ a_10u102.toInt + (1) ∧ a_10u102.toInt + (1) ≤ _ from by omega) (fun x34 hx34 => ?_)
                            have hx34 : x34.toInt = a_10u102.toInt + (1) := hx34
                            exact ih_u102 a_2u102 a_4u102 a_7u102 a_8u102 (1 : Int32) x34 Z108 hIZ108 ((Fr.rf.tr hFu102 (fun _ q => q)).tr hFZ108 (by decide)) (show 0 ≤ a_2u102.toInt ∧ a_2u102.toInt ≤ 4 from by omega) (show 0 ≤ a_4u102.toInt ∧ a_4u102.toInt + a_2u102.toInt ≤ 160 from by omega) (show 0 ≤ a_7u102.toInt ∧ a_7u102.toInt ≤ 511 from by omega) (show 0 ≤ a_8u102.toInt ∧ a_8u102.toInt ≤ 1548 from by omega) (show 0 ≤ x34.toInt ∧ x34.toInt ≤ 5 from by omega) (show (5 - x34.toInt).toNat < _ from by omega)
                        · skip
                          unfold g_Kinds_findOrAdd_216
                          unfold g_Kinds_findOrAdd_221
                          refine ok.inc (by decide) (show _ ≤ a_10u102.toInt + (1) ∧ a_10u102.toInt + (1) ≤ _ from by omega) (fun x34 hx34 => ?_)
                          have hx34 : x34.toInt = a_10u102.toInt + (1) := hx34
                          exact ih_u102 a_2u102 a_4u102 a_7u102 a_8u102 (1 : Int32) x34 Z108 hIZ108 ((Fr.rf.tr hFu102 (fun _ q => q)).tr hFZ108 (by decide)) (show 0 ≤ a_2u102.toInt ∧ a_2u102.toInt ≤ 4 from by omega) (show 0 ≤ a_4u102.toInt ∧ a_4u102.toInt + a_2u102.toInt ≤ 160 from by omega) (show 0 ≤ a_7u102.toInt ∧ a_7u102.toInt ≤ 511 from by omega) (show 0 ≤ a_8u102.toInt ∧ a_8u102.toInt ≤ 1548 from by omega) (show 0 ≤ x34.toInt ∧ x34.toInt ≤ 5 from by omega) (show (5 - x34.toInt).toNat < _ from by omega)
                  exact lpu102 BIG a_2u3 a_4u3 a_7u3 (Zu3.1 25 0) (0 : Int32) (0 : Int32) Z72 hIZ72 ((((((Fr.rf.tr hFu3 (fun _ q => q)).tr hFZ68 (by decide)).tr hFZ69 (by decide)).tr hFZ70 (by decide)).tr hFZ71 (by decide)).tr hFZ72 (by decide)) (show 0 ≤ a_2u3.toInt ∧ a_2u3.toInt ≤ 4 from by omega) (show 0 ≤ a_4u3.toInt ∧ a_4u3.toInt + a_2u3.toInt ≤ 160 from by omega) (show 0 ≤ a_7u3.toInt ∧ a_7u3.toInt ≤ 511 from by omega) (show 0 ≤ (Zu3.1 25 0).toInt ∧ (Zu3.1 25 0).toInt ≤ 1548 from by omega) (show 0 ≤ (0 : Int) ∧ (0 : Int) ≤ 5 from by omega) (show (5 - (0 : Int)).toNat < BIG from ltBIG (show _ < 100000 from by omega))
                · skip
                  unfold g_Kinds_findOrAdd_162
                  unfold g_Kinds_findOrAdd_167
                  have lpu114 : ∀ (n : Nat), ∀ (a_2u114 : Int32) (a_4u114 : Int32) (a_7u114 : Int32) (a_8u114 : Int32) (a_9u114 : Int32) (a_10u114 : Int32) (Zu114 : St), INV Zu114 → Fr YC Qv30 X Zu114 → (0 ≤ a_2u114.toInt ∧ a_2u114.toInt ≤ 4) → (0 ≤ a_4u114.toInt ∧ a_4u114.toInt + a_2u114.toInt ≤ 160) → (0 ≤ a_7u114.toInt ∧ a_7u114.toInt ≤ 511) → (0 ≤ a_8u114.toInt ∧ a_8u114.toInt ≤ 1548) → (0 ≤ a_10u114.toInt ∧ a_10u114.toInt ≤ 5) → (5 - a_10u114.toInt).toNat < n → ok (g_Kinds_findOrAdd_172 n 25 a_2u114 63 a_4u114 a_7u114 a_8u114 a_9u114 a_10u114 Zu114) (fun r Y => (Fr YC Qv30 X Y ∧ INV Y)) := by
                    intro n
                    unfold g_Kinds_findOrAdd_172
                    refine lp_indN (P := fun (n : Nat) (r_u114 : Nat → Int32 → Nat → Int32 → Int32 → Int32 → Int32 → Int32 → St → Option (Int32 × St)) => ∀ (a_2u114 : Int32) (a_4u114 : Int32) (a_7u114 : Int32) (a_8u114 : Int32) (a_9u114 : Int32) (a_10u114 : Int32) (Zu114 : St), INV Zu114 → Fr YC Qv30 X Zu114 → (0 ≤ a_2u114.toInt ∧ a_2u114.toInt ≤ 4) → (0 ≤ a_4u114.toInt ∧ a_4u114.toInt + a_2u114.toInt ≤ 160) → (0 ≤ a_7u114.toInt ∧ a_7u114.toInt ≤ 511) → (0 ≤ a_8u114.toInt ∧ a_8u114.toInt ≤ 1548) → (0 ≤ a_10u114.toInt ∧ a_10u114.toInt ≤ 5) → (5 - a_10u114.toInt).toNat < n → ok (r_u114 25 a_2u114 63 a_4u114 a_7u114 a_8u114 a_9u114 a_10u114 Zu114) (fun r Y => (Fr YC Qv30 X Y ∧ INV Y))) ?_ ?_ n
                    · intro a_2u114 a_4u114 a_7u114 a_8u114 a_9u114 a_10u114 Zu114 hIu114 hFu114 u114_0 u114_1 u114_2 u114_3 u114_4  hm; exact absurd hm (Nat.not_lt_zero _)
                    · intro n r_u114 ih_u114 a_2u114 a_4u114 a_7u114 a_8u114 a_9u114 a_10u114 Zu114 hIu114 hFu114 u114_0 u114_1 u114_2 u114_3 u114_4  hmu114
                      unfold g_Kinds_findOrAdd_172_s
                      refine ok.ite (fun c115 => ?_) (fun c115 => ?_)
                      · skip
                        refine ok.letE (v1 := 30) (by decide) ?_
                        refine ok.ck (show 0 ≤ a_8u114.toInt ∧ a_8u114.toInt < ((1549 : Nat) : Int) from by omega) ?_
                        refine ok.wI (L := [6000]) hIu114 (show True from trivial) (show (6000 : Nat) ∈ [6000] from by decide) (by decide) (fun Z116 hIZ116 hFZ116 hkZ116 hoZ116 => ?_)
                        refine ok.letE (v1 := 32) (by decide) ?_
                        refine ok.letE (v1 := 31) (by decide) ?_
                        refine ok.ck (show 0 ≤ a_7u114.toInt ∧ a_7u114.toInt < ((512 : Nat) : Int) from by omega) ?_
                        refine ok.letE (v1 := (Zu114.1 31 (ix a_7u114))) (hFZ116.1 31 (ix a_7u114) (show (6200 : Nat) ∉ [6000] from by decide)) ?_
                        have g117 : -1 ≤ (Zu114.1 31 (ix a_7u114)).toInt ∧ (Zu114.1 31 (ix a_7u114)).toInt ≤ 1548 := hIu114.1 31 (ix a_7u114)
                        refine ok.ck (show 0 ≤ a_8u114.toInt ∧ a_8u114.toInt < ((1549 : Nat) : Int) from by omega) ?_
                        refine ok.wI (L := [6400]) hIZ116 (show -1 ≤ (Zu114.1 31 (ix a_7u114)).toInt ∧ (Zu114.1 31 (ix a_7u114)).toInt ≤ 1548 from by omega) (show (6400 : Nat) ∈ [6400] from by decide) (by decide) (fun Z118 hIZ118 hFZ118 hkZ118 hoZ118 => ?_)
                        refine ok.letE (v1 := 31) (by decide) ?_
                        refine ok.ck (show 0 ≤ a_7u114.toInt ∧ a_7u114.toInt < ((512 : Nat) : Int) from by omega) ?_
                        refine ok.wI (L := [6200]) hIZ118 (show -1 ≤ a_8u114.toInt ∧ a_8u114.toInt ≤ 1548 from by omega) (show (6200 : Nat) ∈ [6200] from by decide) (by decide) (fun Z119 hIZ119 hFZ119 hkZ119 hoZ119 => ?_)
                        exact ok.ret ⟨((((Fr.rf.tr hFu114 (fun _ q => q)).tr hFZ116 (by decide)).tr hFZ118 (by decide)).tr hFZ119 (by decide)), hIZ119⟩
                      · skip
                        refine ok.letE (v1 := 28) (by decide) ?_
                        refine ok.mul (show _ ≤ a_8u114.toInt * (5 : Int) ∧ a_8u114.toInt * (5 : Int) ≤ _ from by omega) (fun x29 hx29 => ?_)
                        have hx29 : x29.toInt = a_8u114.toInt * (5 : Int) := hx29
                        refine ok.add (show _ ≤ x29.toInt + a_10u114.toInt ∧ x29.toInt + a_10u114.toInt ≤ _ from by omega) (fun x30 hx30 => ?_)
                        have hx30 : x30.toInt = x29.toInt + a_10u114.toInt := hx30
                        refine ok.add (show _ ≤ a_4u114.toInt + a_10u114.toInt ∧ a_4u114.toInt + a_10u114.toInt ≤ _ from by omega) (fun x31 hx31 => ?_)
                        have hx31 : x31.toInt = a_4u114.toInt + a_10u114.toInt := hx31
                        refine ok.ck (show 0 ≤ x31.toInt ∧ x31.toInt < ((160 : Nat) : Int) from by omega) ?_
                        refine ok.letE (v1 := (X.1 63 (ix x31))) (hFu114.1 63 (ix x31) n12600_Qv30) ?_
                        refine ok.ck (show 0 ≤ x30.toInt ∧ x30.toInt < ((7745 : Nat) : Int) from by omega) ?_
                        refine ok.wI (L := [5600]) hIu114 (show True from trivial) (show (5600 : Nat) ∈ [5600] from by decide) (by decide) (fun Z120 hIZ120 hFZ120 hkZ120 hoZ120 => ?_)
                        refine ok.ite (fun c121 => ?_) (fun c121 => ?_)
                        · skip
                          have g122 := i32_le a_9u114
                          refine ok.add (show _ ≤ a_4u114.toInt + a_10u114.toInt ∧ a_4u114.toInt + a_10u114.toInt ≤ _ from by omega) (fun x35 hx35 => ?_)
                          have hx35 : x35.toInt = a_4u114.toInt + a_10u114.toInt := hx35
                          refine ok.ck (show 0 ≤ x35.toInt ∧ x35.toInt < ((160 : Nat) : Int) from by omega) ?_
                          refine ok.letE (v1 := (X.1 63 (ix x35))) ((hFZ120.1 63 (ix x35) (show (12600 : Nat) ∉ [5600] from by decide)).trans (hFu114.1 63 (ix x35) n12600_Qv30)) ?_
                          refine ok.bd (v_Kinds_hasAny_25 hIZ120) ?_
                          rintro x37 _ rfl
                          refine ok.ite (fun c124 => ?_) (fun c124 => ?_)
                          · skip
                            have g125 := i32_le x37
                            unfold g_Kinds_findOrAdd_221
                            refine ok.inc (by decide) (show _ ≤ a_10u114.toInt + (1) ∧ a_10u114.toInt + (1) ≤ _ from by omega) (fun x34 hx34 => ?_)
                            have hx34 : x34.toInt = a_10u114.toInt + (1) := hx34
                            exact ih_u114 a_2u114 a_4u114 a_7u114 a_8u114 (0 : Int32) x34 Z120 hIZ120 ((Fr.rf.tr hFu114 (fun _ q => q)).tr hFZ120 (by decide)) (show 0 ≤ a_2u114.toInt ∧ a_2u114.toInt ≤ 4 from by omega) (show 0 ≤ a_4u114.toInt ∧ a_4u114.toInt + a_2u114.toInt ≤ 160 from by omega) (show 0 ≤ a_7u114.toInt ∧ a_7u114.toInt ≤ 511 from by omega) (show 0 ≤ a_8u114.toInt ∧ a_8u114.toInt ≤ 1548 from by omega) (show 0 ≤ x34.toInt ∧ x34.toInt ≤ 5 from by omega) (show (5 - x34.toInt).toNat < _ from by omega)
                          · skip
                            unfold g_Kinds_findOrAdd_216
                            unfold g_Kinds_findOrAdd_221
                            refine ok.inc (by decide) (show _ ≤ a_10u114.toInt + (1) ∧ a_10u114.toInt + (1) ≤ _ from by omega) (fun x34 hx34 => ?_)
                            have hx34 : x34.toInt = a_10u114.toInt + (1) := hx34
                            exact ih_u114 a_2u114 a_4u114 a_7u114 a_8u114 (1 : Int32) x34 Z120 hIZ120 ((Fr.rf.tr hFu114 (fun _ q => q)).tr hFZ120 (by decide)) (show 0 ≤ a_2u114.toInt ∧ a_2u114.toInt ≤ 4 from by omega) (show 0 ≤ a_4u114.toInt ∧ a_4u114.toInt + a_2u114.toInt ≤ 160 from by omega) (show 0 ≤ a_7u114.toInt ∧ a_7u114.toInt ≤ 511 from by omega) (show 0 ≤ a_8u114.toInt ∧ a_8u114.toInt ≤ 1548 from by omega) (show 0 ≤ x34.toInt ∧ x34.toInt ≤ 5 from by omega) (show (5 - x34.toInt).toNat < _ from by omega)
                        · skip
                          unfold g_Kinds_findOrAdd_216
                          unfold g_Kinds_findOrAdd_221
                          refine ok.inc (by decide) (show _ ≤ a_10u114.toInt + (1) ∧ a_10u114.toInt + (1) ≤ _ from by omega) (fun x34 hx34 => ?_)
                          have hx34 : x34.toInt = a_10u114.toInt + (1) := hx34
                          exact ih_u114 a_2u114 a_4u114 a_7u114 a_8u114 (1 : Int32) x34 Z120 hIZ120 ((Fr.rf.tr hFu114 (fun _ q => q)).tr hFZ120 (by decide)) (show 0 ≤ a_2u114.toInt ∧ a_2u114.toInt ≤ 4 from by omega) (show 0 ≤ a_4u114.toInt ∧ a_4u114.toInt + a_2u114.toInt ≤ 160 from by omega) (show 0 ≤ a_7u114.toInt ∧ a_7u114.toInt ≤ 511 from by omega) (show 0 ≤ a_8u114.toInt ∧ a_8u114.toInt ≤ 1548 from by omega) (show 0 ≤ x34.toInt ∧ x34.toInt ≤ 5 from by omega) (show (5 - x34.toInt).toNat < _ from by omega)
                  exact lpu114 BIG a_2u3 a_4u3 a_7u3 (Zu3.1 25 0) (1 : Int32) (0 : Int32) Z72 hIZ72 ((((((Fr.rf.tr hFu3 (fun _ q => q)).tr hFZ68 (by decide)).tr hFZ69 (by decide)).tr hFZ70 (by decide)).tr hFZ71 (by decide)).tr hFZ72 (by decide)) (show 0 ≤ a_2u3.toInt ∧ a_2u3.toInt ≤ 4 from by omega) (show 0 ≤ a_4u3.toInt ∧ a_4u3.toInt + a_2u3.toInt ≤ 160 from by omega) (show 0 ≤ a_7u3.toInt ∧ a_7u3.toInt ≤ 511 from by omega) (show 0 ≤ (Zu3.1 25 0).toInt ∧ (Zu3.1 25 0).toInt ≤ 1548 from by omega) (show 0 ≤ (0 : Int) ∧ (0 : Int) ≤ 5 from by omega) (show (5 - (0 : Int)).toNat < BIG from ltBIG (show _ < 100000 from by omega))
          · skip
            exact ok.ret ⟨(Fr.rf.tr hFu3 (fun _ q => q)), hIu3⟩
        · skip
          refine ok.letE (v1 := 26) (by decide) ?_
          refine ok.ck (show 0 ≤ a_8u3.toInt ∧ a_8u3.toInt < ((1549 : Nat) : Int) from by omega) ?_
          refine ok.letE (v1 := (Zu3.1 26 (ix a_8u3))) rfl ?_
          refine ok.ite (fun c126 => ?_) (fun c126 => ?_)
          · skip
            have g127 := i32_le (Zu3.1 26 (ix a_8u3))
            refine ok.bd (v_Kinds_isSame_25_63 hIu3 (show 0 ≤ a_8u3.toInt ∧ a_8u3.toInt ≤ 1548 from by omega) (show 0 ≤ a_2u3.toInt ∧ a_2u3.toInt ≤ 4 from by omega) (show 0 ≤ a_4u3.toInt ∧ a_4u3.toInt + a_2u3.toInt ≤ 160 from by omega)) ?_
            rintro x46 _ rfl
            refine ok.ite (fun c129 => ?_) (fun c129 => ?_)
            · skip
              have g130 := i32_le x46
              unfold g_Kinds_findOrAdd_62
              refine ok.letE (v1 := 32) (by decide) ?_
              refine ok.ck (show 0 ≤ a_8u3.toInt ∧ a_8u3.toInt < ((1549 : Nat) : Int) from by omega) ?_
              refine ok.letE (v1 := (Zu3.1 32 (ix a_8u3))) rfl ?_
              have g131 : -1 ≤ (Zu3.1 32 (ix a_8u3)).toInt ∧ (Zu3.1 32 (ix a_8u3)).toInt ≤ 1548 := hIu3.1 32 (ix a_8u3)
              refine ok.inc (by decide) (show _ ≤ a_9u3.toInt + (1) ∧ a_9u3.toInt + (1) ≤ _ from by omega) (fun x45 hx45 => ?_)
              have hx45 : x45.toInt = a_9u3.toInt + (1) := hx45
              exact ih_u3 a_1u3 a_2u3 a_4u3 a_5u3 a_6u3 a_7u3 (Zu3.1 32 (ix a_8u3)) x45 Zu3 hIu3 (Fr.rf.tr hFu3 (fun _ q => q)) (show 0 ≤ a_1u3.toInt ∧ a_1u3.toInt ≤ 4 from by omega) (show 0 ≤ a_2u3.toInt ∧ a_2u3.toInt ≤ 4 from by omega) (show 0 ≤ a_4u3.toInt ∧ a_4u3.toInt + a_2u3.toInt ≤ 160 from by omega) (show 0 ≤ a_7u3.toInt ∧ a_7u3.toInt ≤ 511 from by omega) (show -1 ≤ (Zu3.1 32 (ix a_8u3)).toInt ∧ (Zu3.1 32 (ix a_8u3)).toInt ≤ 1548 from by omega) (show 0 ≤ x45.toInt ∧ x45.toInt ≤ 1549 from by omega) (show (1550 - x45.toInt).toNat < _ from by omega)
            · skip
              exact ok.ret ⟨(Fr.rf.tr hFu3 (fun _ q => q)), hIu3⟩
          · skip
            unfold g_Kinds_findOrAdd_62
            refine ok.letE (v1 := 32) (by decide) ?_
            refine ok.ck (show 0 ≤ a_8u3.toInt ∧ a_8u3.toInt < ((1549 : Nat) : Int) from by omega) ?_
            refine ok.letE (v1 := (Zu3.1 32 (ix a_8u3))) rfl ?_
            have g132 : -1 ≤ (Zu3.1 32 (ix a_8u3)).toInt ∧ (Zu3.1 32 (ix a_8u3)).toInt ≤ 1548 := hIu3.1 32 (ix a_8u3)
            refine ok.inc (by decide) (show _ ≤ a_9u3.toInt + (1) ∧ a_9u3.toInt + (1) ≤ _ from by omega) (fun x45 hx45 => ?_)
            have hx45 : x45.toInt = a_9u3.toInt + (1) := hx45
            exact ih_u3 a_1u3 a_2u3 a_4u3 a_5u3 a_6u3 a_7u3 (Zu3.1 32 (ix a_8u3)) x45 Zu3 hIu3 (Fr.rf.tr hFu3 (fun _ q => q)) (show 0 ≤ a_1u3.toInt ∧ a_1u3.toInt ≤ 4 from by omega) (show 0 ≤ a_2u3.toInt ∧ a_2u3.toInt ≤ 4 from by omega) (show 0 ≤ a_4u3.toInt ∧ a_4u3.toInt + a_2u3.toInt ≤ 160 from by omega) (show 0 ≤ a_7u3.toInt ∧ a_7u3.toInt ≤ 511 from by omega) (show -1 ≤ (Zu3.1 32 (ix a_8u3)).toInt ∧ (Zu3.1 32 (ix a_8u3)).toInt ≤ 1548 from by omega) (show 0 ≤ x45.toInt ∧ x45.toInt ≤ 1549 from by omega) (show (1550 - x45.toInt).toNat < _ from by omega)
  exact lpu3 BIG p1 p2 p4 p5 p6 x1 (X.1 31 (ix x1)) (0 : Int32) X hI (Fr.rf : Fr YC Qv30 _ _) (show 0 ≤ p1.toInt ∧ p1.toInt ≤ 4 from by omega) (show 0 ≤ p2.toInt ∧ p2.toInt ≤ 4 from by omega) (show 0 ≤ p4.toInt ∧ p4.toInt + p2.toInt ≤ 160 from by omega) (show 0 ≤ x1.toInt ∧ x1.toInt ≤ 511 from by omega) (show -1 ≤ (X.1 31 (ix x1)).toInt ∧ (X.1 31 (ix x1)).toInt ≤ 1548 from by omega) (show 0 ≤ (0 : Int) ∧ (0 : Int) ≤ 1549 from by omega) (show (1550 - (0 : Int)).toNat < BIG from ltBIG (show _ < 100000 from by omega))
set_option maxHeartbeats 4000000 in
theorem v_Kinds_functionOf_25_63 {p2 : Int32} {p3 : Int32} {p4 : Int32} {X : St} (hI : INV X) : ok (g_Kinds_functionOf 25 63 p2 p3 p4 X) (fun r Y => (Fr YC Qv30 X Y ∧ INV Y)) := by
  unfold g_Kinds_functionOf
  refine ok.ite (fun c1 => ?_) (fun c1 => ?_)
  · skip
    have g2 := i32_le p3
    exact ok.ret ⟨(Fr.rf : Fr YC Qv30 _ _), hI⟩
  · skip
    have g3 := i32_le p3
    refine ok.ite (fun c4 => ?_) (fun c4 => ?_)
    · skip
      exact ok.ret ⟨(Fr.rf : Fr YC Qv30 _ _), hI⟩
    · skip
      refine ok.ite (fun c5 => ?_) (fun c5 => ?_)
      · skip
        have g6 := i32_le p2
        exact ok.ret ⟨(Fr.rf : Fr YC Qv30 _ _), hI⟩
      · skip
        have g7 := i32_le p2
        refine ok.letE (v1 := (160 : Int32)) (by decide) ?_
        refine ok.sub (show _ ≤ (160 : Int) - p3.toInt ∧ (160 : Int) - p3.toInt ≤ _ from by omega) (fun x2 hx2 => ?_)
        have hx2 : x2.toInt = (160 : Int) - p3.toInt := hx2
        refine ok.ite (fun c8 => ?_) (fun c8 => ?_)
        · skip
          refine ok.add (show _ ≤ (7 : Int) + p3.toInt ∧ (7 : Int) + p3.toInt ≤ _ from by omega) (fun x3 hx3 => ?_)
          have hx3 : x3.toInt = (7 : Int) + p3.toInt := hx3
          have lpu9 : ∀ (n : Nat), ∀ (a_2u9 : Int32) (a_3u9 : Int32) (a_4u9 : Int32) (a_5u9 : Int32) (a_6u9 : Int32) (Zu9 : St), INV Zu9 → Fr YC Qv30 X Zu9 → (0 ≤ a_3u9.toInt ∧ a_3u9.toInt ≤ 4) → (0 ≤ a_2u9.toInt ∧ a_2u9.toInt + a_3u9.toInt ≤ 160) → (0 ≤ a_6u9.toInt ∧ a_6u9.toInt ≤ 5) → (5 - a_6u9.toInt).toNat < n → ok (g_Kinds_functionOf_32 n 25 63 a_2u9 a_3u9 a_4u9 a_5u9 a_6u9 Zu9) (fun r Y => (Fr YC Qv30 X Y ∧ INV Y)) := by
            intro n
            unfold g_Kinds_functionOf_32
            refine lp_indN (P := fun (n : Nat) (r_u9 : Nat → Nat → Int32 → Int32 → Int32 → Int32 → Int32 → St → Option (Int32 × St)) => ∀ (a_2u9 : Int32) (a_3u9 : Int32) (a_4u9 : Int32) (a_5u9 : Int32) (a_6u9 : Int32) (Zu9 : St), INV Zu9 → Fr YC Qv30 X Zu9 → (0 ≤ a_3u9.toInt ∧ a_3u9.toInt ≤ 4) → (0 ≤ a_2u9.toInt ∧ a_2u9.toInt + a_3u9.toInt ≤ 160) → (0 ≤ a_6u9.toInt ∧ a_6u9.toInt ≤ 5) → (5 - a_6u9.toInt).toNat < n → ok (r_u9 25 63 a_2u9 a_3u9 a_4u9 a_5u9 a_6u9 Zu9) (fun r Y => (Fr YC Qv30 X Y ∧ INV Y))) ?_ ?_ n
            · intro a_2u9 a_3u9 a_4u9 a_5u9 a_6u9 Zu9 hIu9 hFu9 u9_0 u9_1 u9_2  hm; exact absurd hm (Nat.not_lt_zero _)
            · intro n r_u9 ih_u9 a_2u9 a_3u9 a_4u9 a_5u9 a_6u9 Zu9 hIu9 hFu9 u9_0 u9_1 u9_2  hmu9
              unfold g_Kinds_functionOf_32_s
              refine ok.ite (fun c10 => ?_) (fun c10 => ?_)
              · skip
                refine ok.any (fun x4 => ?_)
                refine ok.bd (v_Kinds_codeOf_25 hIu9) ?_
                rintro x5 _ rfl
                refine ok.any (fun x7 => ?_)
                refine ok.bd (v_Kinds_findOrAdd_25_63 hIu9 (show 0 ≤ (4 : Int) ∧ (4 : Int) ≤ 4 from by omega) (show 0 ≤ a_3u9.toInt ∧ a_3u9.toInt ≤ 4 from by omega) (show 0 ≤ a_2u9.toInt ∧ a_2u9.toInt + a_3u9.toInt ≤ 160 from by omega)) ?_
                rintro x8 Z13 ⟨hFZ13, hIZ13⟩
                exact ok.ret ⟨((Fr.rf.tr hFu9 (fun _ q => q)).tr hFZ13 (fun _ q => q)), hIZ13⟩
              · skip
                refine ok.any (fun x10 => ?_)
                refine ok.add (show _ ≤ a_2u9.toInt + a_6u9.toInt ∧ a_2u9.toInt + a_6u9.toInt ≤ _ from by omega) (fun x11 hx11 => ?_)
                have hx11 : x11.toInt = a_2u9.toInt + a_6u9.toInt := hx11
                refine ok.ck (show 0 ≤ x11.toInt ∧ x11.toInt < ((160 : Nat) : Int) from by omega) ?_
                refine ok.letE (v1 := (X.1 63 (ix x11))) (hFu9.1 63 (ix x11) n12600_Qv30) ?_
                refine ok.bd (v_Kinds_codeOf_25 hIu9) ?_
                rintro x13 _ rfl
                refine ok.any (fun x15 => ?_)
                refine ok.inc (by decide) (show _ ≤ a_6u9.toInt + (1) ∧ a_6u9.toInt + (1) ≤ _ from by omega) (fun x16 hx16 => ?_)
                have hx16 : x16.toInt = a_6u9.toInt + (1) := hx16
                exact ih_u9 a_2u9 a_3u9 a_4u9 x15 x16 Zu9 hIu9 (Fr.rf.tr hFu9 (fun _ q => q)) (show 0 ≤ a_3u9.toInt ∧ a_3u9.toInt ≤ 4 from by omega) (show 0 ≤ a_2u9.toInt ∧ a_2u9.toInt + a_3u9.toInt ≤ 160 from by omega) (show 0 ≤ x16.toInt ∧ x16.toInt ≤ 5 from by omega) (show (5 - x16.toInt).toNat < _ from by omega)
          exact lpu9 BIG p2 p3 p4 x3 (0 : Int32) X hI (Fr.rf : Fr YC Qv30 _ _) (show 0 ≤ p3.toInt ∧ p3.toInt ≤ 4 from by omega) (show 0 ≤ p2.toInt ∧ p2.toInt + p3.toInt ≤ 160 from by omega) (show 0 ≤ (0 : Int) ∧ (0 : Int) ≤ 5 from by omega) (show (5 - (0 : Int)).toNat < BIG from ltBIG (show _ < 100000 from by omega))
        · skip
          exact ok.ret ⟨(Fr.rf : Fr YC Qv30 _ _), hI⟩
theorem sQv30_Qv35 : ∀ k ∈ Qv30, k ∈ Qv35 := by decide
theorem n7600_Qv35 : (7600 : Nat) ∉ Qv35 := by decide
set_option maxHeartbeats 4000000 in
theorem v_Judging_takeHeader_J24 {p1 : Int32} {X : St} (hI : INV X) (hr61_1 : X.2.2 61 1 = 25) (hr61_2 : X.2.2 61 2 = 26) (h0 : 0 ≤ p1.toInt ∧ p1.toInt ≤ 39) : ok (g_Judging_takeHeader p1 X) (fun r Y => (Fr YC Qv35 X Y ∧ INV Y)) := by
  unfold g_Judging_takeHeader
  refine ok.mul (show _ ≤ p1.toInt * (4 : Int) ∧ p1.toInt * (4 : Int) ≤ _ from by omega) (fun x1 hx1 => ?_)
  have hx1 : x1.toInt = p1.toInt * (4 : Int) := hx1
  have lpu1 : ∀ (n : Nat), ∀ (a_1u1 : Int32) (a_2u1 : Int32) (a_3u1 : Int32) (Zu1 : St), INV Zu1 → Fr YC Qv35 X Zu1 → (0 ≤ a_1u1.toInt ∧ a_1u1.toInt ≤ 39) → (a_2u1.toInt = 4 * a_1u1.toInt) → (0 ≤ a_3u1.toInt ∧ a_3u1.toInt ≤ 4) → (5 - a_3u1.toInt).toNat < n → ok (g_Judging_takeHeader_6 n a_1u1 a_2u1 a_3u1 Zu1) (fun r Y => (Fr YC Qv35 X Y ∧ INV Y)) := by
    intro n
    unfold g_Judging_takeHeader_6
    refine lp_indN (P := fun (n : Nat) (r_u1 : Int32 → Int32 → Int32 → St → Option (Int32 × St)) => ∀ (a_1u1 : Int32) (a_2u1 : Int32) (a_3u1 : Int32) (Zu1 : St), INV Zu1 → Fr YC Qv35 X Zu1 → (0 ≤ a_1u1.toInt ∧ a_1u1.toInt ≤ 39) → (a_2u1.toInt = 4 * a_1u1.toInt) → (0 ≤ a_3u1.toInt ∧ a_3u1.toInt ≤ 4) → (5 - a_3u1.toInt).toNat < n → ok (r_u1 a_1u1 a_2u1 a_3u1 Zu1) (fun r Y => (Fr YC Qv35 X Y ∧ INV Y))) ?_ ?_ n
    · intro a_1u1 a_2u1 a_3u1 Zu1 hIu1 hFu1 u1_0 u1_1 u1_2  hm; exact absurd hm (Nat.not_lt_zero _)
    · intro n r_u1 ih_u1 a_1u1 a_2u1 a_3u1 Zu1 hIu1 hFu1 u1_0 u1_1 u1_2  hmu1
      unfold g_Judging_takeHeader_6_s
      refine ok.ck (by rw [((hFu1.2.2 61 1 n12201_Qv35).trans hr61_1)]; decide) ?_
      refine ok.letE (v1 := 24) (by rw [((hFu1.2.2 61 1 n12201_Qv35).trans hr61_1)]) ?_
      refine ok.letE (v1 := 37) (by decide) ?_
      refine ok.ck (show 0 ≤ a_1u1.toInt ∧ a_1u1.toInt < ((40 : Nat) : Int) from by omega) ?_
      refine ok.letE (v1 := (X.1 37 (ix a_1u1))) (hFu1.1 37 (ix a_1u1) n7400_Qv35) ?_
      have g2 : 0 ≤ (X.1 37 (ix a_1u1)).toInt ∧ (X.1 37 (ix a_1u1)).toInt ≤ 4 := hI.1 37 (ix a_1u1)
      refine ok.ite (fun c3 => ?_) (fun c3 => ?_)
      · skip
        refine ok.ck (by rw [((hFu1.2.2 61 1 n12201_Qv35).trans hr61_1)]; decide) ?_
        refine ok.letE (v1 := 24) (by rw [((hFu1.2.2 61 1 n12201_Qv35).trans hr61_1)]) ?_
        refine ok.letE (v1 := 39) (by decide) ?_
        refine ok.ck (show 0 ≤ a_1u1.toInt ∧ a_1u1.toInt < ((40 : Nat) : Int) from by omega) ?_
        refine ok.letE (v1 := (X.1 39 (ix a_1u1))) (hFu1.1 39 (ix a_1u1) n7800_Qv35) ?_
        refine ok.bd (v_Judging_asTold_J24 hIu1 ((hFu1.2.2 61 1 n12201_Qv35).trans hr61_1) (show 0 ≤ a_1u1.toInt ∧ a_1u1.toInt ≤ 39 from by omega)) ?_
        rintro x8 _ rfl
        refine ok.ck (show 0 ≤ a_1u1.toInt ∧ a_1u1.toInt < ((40 : Nat) : Int) from by omega) ?_
        refine ok.wI (L := [12800]) hIu1 (show True from trivial) (show (12800 : Nat) ∈ [12800] from by decide) (by decide) (fun Z5 hIZ5 hFZ5 hkZ5 hoZ5 => ?_)
        refine ok.ck (by rw [(((hFZ5.2.2 61 2 (show (12202 : Nat) ∉ [12800] from by decide)).trans (hFu1.2.2 61 2 n12202_Qv35)).trans hr61_2)]; decide) ?_
        refine ok.letE (v1 := 25) (by rw [(((hFZ5.2.2 61 2 (show (12202 : Nat) ∉ [12800] from by decide)).trans (hFu1.2.2 61 2 n12202_Qv35)).trans hr61_2)]) ?_
        refine ok.ck (by rw [(((hFZ5.2.2 61 1 (show (12201 : Nat) ∉ [12800] from by decide)).trans (hFu1.2.2 61 1 n12201_Qv35)).trans hr61_1)]; decide) ?_
        refine ok.letE (v1 := 24) (by rw [(((hFZ5.2.2 61 1 (show (12201 : Nat) ∉ [12800] from by decide)).trans (hFu1.2.2 61 1 n12201_Qv35)).trans hr61_1)]) ?_
        refine ok.letE (v1 := 37) (by decide) ?_
        refine ok.ck (show 0 ≤ a_1u1.toInt ∧ a_1u1.toInt < ((40 : Nat) : Int) from by omega) ?_
        refine ok.letE (v1 := (X.1 37 (ix a_1u1))) ((hFZ5.1 37 (ix a_1u1) (show (7400 : Nat) ∉ [12800] from by decide)).trans (hFu1.1 37 (ix a_1u1) n7400_Qv35)) ?_
        refine ok.ck (show 0 ≤ a_1u1.toInt ∧ a_1u1.toInt < ((40 : Nat) : Int) from by omega) ?_
        refine ok.letE (v1 := x8) hkZ5 ?_
        refine ok.bd (v_Kinds_functionOf_25_63 hIZ5) ?_
        rintro x16 Z7 ⟨hFZ7, hIZ7⟩
        refine ok.ck (show 0 ≤ a_1u1.toInt ∧ a_1u1.toInt < ((40 : Nat) : Int) from by omega) ?_
        refine ok.wI (L := [13000]) hIZ7 (show True from trivial) (show (13000 : Nat) ∈ [13000] from by decide) (by decide) (fun Z8 hIZ8 hFZ8 hkZ8 hoZ8 => ?_)
        refine ok.ck (by rw [(((((hFZ8.2.2 61 2 (show (12202 : Nat) ∉ [13000] from by decide)).trans (hFZ7.2.2 61 2 n12202_Qv30)).trans (hFZ5.2.2 61 2 (show (12202 : Nat) ∉ [12800] from by decide))).trans (hFu1.2.2 61 2 n12202_Qv35)).trans hr61_2)]; decide) ?_
        refine ok.letE (v1 := 25) (by rw [(((((hFZ8.2.2 61 2 (show (12202 : Nat) ∉ [13000] from by decide)).trans (hFZ7.2.2 61 2 n12202_Qv30)).trans (hFZ5.2.2 61 2 (show (12202 : Nat) ∉ [12800] from by decide))).trans (hFu1.2.2 61 2 n12202_Qv35)).trans hr61_2)]) ?_
        refine ok.ck (show 0 ≤ a_1u1.toInt ∧ a_1u1.toInt < ((40 : Nat) : Int) from by omega) ?_
        refine ok.letE (v1 := x16) hkZ8 ?_
        refine ok.bd (v_Kinds_hasAny_25 hIZ8) ?_
        rintro x21 _ rfl
        refine ok.ck (show 0 ≤ a_1u1.toInt ∧ a_1u1.toInt < ((40 : Nat) : Int) from by omega) ?_
        refine ok.wI (L := [12400]) hIZ8 (show True from trivial) (show (12400 : Nat) ∈ [12400] from by decide) (by decide) (fun Z10 hIZ10 hFZ10 hkZ10 hoZ10 => ?_)
        exact ok.ret ⟨(((((Fr.rf.tr hFu1 (fun _ q => q)).tr hFZ5 (by decide)).tr hFZ7 sQv30_Qv35).tr hFZ8 (by decide)).tr hFZ10 (by decide)), hIZ10⟩
      · skip
        refine ok.add (show _ ≤ a_2u1.toInt + a_3u1.toInt ∧ a_2u1.toInt + a_3u1.toInt ≤ _ from by omega) (fun x24 hx24 => ?_)
        have hx24 : x24.toInt = a_2u1.toInt + a_3u1.toInt := hx24
        refine ok.ck (by rw [((hFu1.2.2 61 1 n12201_Qv35).trans hr61_1)]; decide) ?_
        refine ok.letE (v1 := 24) (by rw [((hFu1.2.2 61 1 n12201_Qv35).trans hr61_1)]) ?_
        refine ok.letE (v1 := 38) (by decide) ?_
        refine ok.add (show _ ≤ a_2u1.toInt + a_3u1.toInt ∧ a_2u1.toInt + a_3u1.toInt ≤ _ from by omega) (fun x27 hx27 => ?_)
        have hx27 : x27.toInt = a_2u1.toInt + a_3u1.toInt := hx27
        refine ok.ck (show 0 ≤ x27.toInt ∧ x27.toInt < ((160 : Nat) : Int) from by omega) ?_
        refine ok.letE (v1 := (X.1 38 (ix x27))) (hFu1.1 38 (ix x27) n7600_Qv35) ?_
        refine ok.bd (v_Judging_asTold_J24 hIu1 ((hFu1.2.2 61 1 n12201_Qv35).trans hr61_1) (show 0 ≤ a_1u1.toInt ∧ a_1u1.toInt ≤ 39 from by omega)) ?_
        rintro x29 _ rfl
        refine ok.ck (show 0 ≤ x24.toInt ∧ x24.toInt < ((160 : Nat) : Int) from by omega) ?_
        refine ok.wI (L := [12600]) hIu1 (show True from trivial) (show (12600 : Nat) ∈ [12600] from by decide) (by decide) (fun Z12 hIZ12 hFZ12 hkZ12 hoZ12 => ?_)
        refine ok.inc (by decide) (show _ ≤ a_3u1.toInt + (1) ∧ a_3u1.toInt + (1) ≤ _ from by omega) (fun x32 hx32 => ?_)
        have hx32 : x32.toInt = a_3u1.toInt + (1) := hx32
        exact ih_u1 a_1u1 a_2u1 x32 Z12 hIZ12 ((Fr.rf.tr hFu1 (fun _ q => q)).tr hFZ12 (by decide)) (show 0 ≤ a_1u1.toInt ∧ a_1u1.toInt ≤ 39 from by omega) (show a_2u1.toInt = 4 * a_1u1.toInt from by omega) (show 0 ≤ x32.toInt ∧ x32.toInt ≤ 4 from by omega) (show (5 - x32.toInt).toNat < _ from by omega)
  exact lpu1 BIG p1 x1 (0 : Int32) X hI (Fr.rf : Fr YC Qv35 _ _) (show 0 ≤ p1.toInt ∧ p1.toInt ≤ 39 from by omega) (show x1.toInt = 4 * p1.toInt from by omega) (show 0 ≤ (0 : Int) ∧ (0 : Int) ≤ 4 from by omega) (show (5 - (0 : Int)).toNat < BIG from ltBIG (show _ < 100000 from by omega))
theorem n12200_Qv35 : (12200 : Nat) ∉ Qv35 := by decide
theorem sQv35_Qv25 : ∀ k ∈ Qv35, k ∈ Qv25 := by decide
set_option maxHeartbeats 4000000 in
theorem v_Judging_judgeAll_24_55 {X : St} (hI : INV X) (hP : PGC 24 42 43 41 X) : ok (g_Judging_judgeAll 24 55 X) (fun r Y => (Fr YC Qv25 X Y ∧ INV Y)) := by
  unfold g_Judging_judgeAll
  refine ok.wR (L := [12201]) hI (show (12201 : Nat) ∈ [12201] from by decide) (fun Z1 hIZ1 hFZ1 heZ1 hRZ1 => ?_)
  refine ok.letE (v1 := 25) (by decide) ?_
  refine ok.wR (L := [12202]) hIZ1 (show (12202 : Nat) ∈ [12202] from by decide) (fun Z2 hIZ2 hFZ2 heZ2 hRZ2 => ?_)
  refine ok.wR (L := [12200]) hIZ2 (show (12200 : Nat) ∈ [12200] from by decide) (fun Z3 hIZ3 hFZ3 heZ3 hRZ3 => ?_)
  refine ok.ck (by rw [((hFZ3.2.2 61 2 (show (12202 : Nat) ∉ [12200] from by decide)).trans hRZ2)]; decide) ?_
  refine ok.letE (v1 := 25) (by rw [((hFZ3.2.2 61 2 (show (12202 : Nat) ∉ [12200] from by decide)).trans hRZ2)]) ?_
  refine ok.ck (by rw [(((hFZ3.2.2 61 1 (show (12201 : Nat) ∉ [12200] from by decide)).trans (hFZ2.2.2 61 1 (show (12201 : Nat) ∉ [12202] from by decide))).trans hRZ1)]; decide) ?_
  refine ok.letE (v1 := 24) (by rw [(((hFZ3.2.2 61 1 (show (12201 : Nat) ∉ [12200] from by decide)).trans (hFZ2.2.2 61 1 (show (12201 : Nat) ∉ [12202] from by decide))).trans hRZ1)]) ?_
  refine ok.letE (v1 := (X.1 24 5)) (((congrFun (congrFun heZ3 24) 5).trans (congrFun (congrFun heZ2 24) 5)).trans (congrFun (congrFun heZ1 24) 5)) ?_
  refine ok.bd (v_Kinds_cutTo_25 hIZ3) ?_
  rintro r_4 Z6 ⟨hFZ6, hIZ6⟩
  refine ok.ck ((hFZ6.2.2 61 0 (show (12200 : Nat) ∉ [5000, 6200] from by decide)).trans hRZ3) ?_
  refine ok.wI (L := [11005]) hIZ6 (show 0 ≤ (0 : Int) ∧ (0 : Int) ≤ 3000 from by omega) (show (11005 : Nat) ∈ [11005] from by decide) (by decide) (fun Z7 hIZ7 hFZ7 hkZ7 hoZ7 => ?_)
  refine ok.wI (L := [12204]) hIZ7 (show True from trivial) (show (12204 : Nat) ∈ [12204] from by decide) (by decide) (fun Z8 hIZ8 hFZ8 hkZ8 hoZ8 => ?_)
  refine ok.wI (L := [12205]) hIZ8 (show True from trivial) (show (12205 : Nat) ∈ [12205] from by decide) (by decide) (fun Z9 hIZ9 hFZ9 hkZ9 hoZ9 => ?_)
  have lpu10 : ∀ (n : Nat), ∀ (a_3u10 : Int32) (Zu10 : St), INV Zu10 → Fr YC Qv25 X Zu10 → (0 ≤ a_3u10.toInt ∧ a_3u10.toInt ≤ 40) → Zu10.2.2 61 0 = 56 → Zu10.2.2 61 2 = 26 → Zu10.2.2 61 1 = 25 → (41 - a_3u10.toInt).toNat < n → ok (g_Judging_judgeAll_61 n a_3u10 Zu10) (fun r Y => (Fr YC Qv25 X Y ∧ INV Y)) := by
    intro n
    unfold g_Judging_judgeAll_61
    refine lp_indN (P := fun (n : Nat) (r_u10 : Int32 → St → Option (Int32 × St)) => ∀ (a_3u10 : Int32) (Zu10 : St), INV Zu10 → Fr YC Qv25 X Zu10 → (0 ≤ a_3u10.toInt ∧ a_3u10.toInt ≤ 40) → Zu10.2.2 61 0 = 56 → Zu10.2.2 61 2 = 26 → Zu10.2.2 61 1 = 25 → (41 - a_3u10.toInt).toNat < n → ok (r_u10 a_3u10 Zu10) (fun r Y => (Fr YC Qv25 X Y ∧ INV Y))) ?_ ?_ n
    · intro a_3u10 Zu10 hIu10 hFu10 u10_0 u10x0 u10x1 u10x2 hm; exact absurd hm (Nat.not_lt_zero _)
    · intro n r_u10 ih_u10 a_3u10 Zu10 hIu10 hFu10 u10_0 u10x0 u10x1 u10x2 hmu10
      unfold g_Judging_judgeAll_61_s
      refine ok.ck (by rw [u10x2]; decide) ?_
      refine ok.letE (v1 := 24) (by rw [u10x2]) ?_
      refine ok.letE (v1 := (X.1 24 1)) (hFu10.1 24 1 n4801_Qv25) ?_
      have g11 : 0 ≤ (X.1 24 1).toInt ∧ (X.1 24 1).toInt ≤ 40 := hI.1 24 1
      refine ok.ite (fun c12 => ?_) (fun c12 => ?_)
      · skip
        have lpu13 : ∀ (n : Nat), ∀ (a_3u13 : Int32) (Zu13 : St), INV Zu13 → Fr YC Qv25 X Zu13 → (0 ≤ a_3u13.toInt ∧ a_3u13.toInt ≤ 40) → Zu13.2.2 61 0 = 56 → Zu13.2.2 61 2 = 26 → Zu13.2.2 61 1 = 25 → (41 - a_3u13.toInt).toNat < n → ok (g_Judging_judgeAll_85 n a_3u13 Zu13) (fun r Y => (Fr YC Qv25 X Y ∧ INV Y)) := by
          intro n
          unfold g_Judging_judgeAll_85
          refine lp_indN (P := fun (n : Nat) (r_u13 : Int32 → St → Option (Int32 × St)) => ∀ (a_3u13 : Int32) (Zu13 : St), INV Zu13 → Fr YC Qv25 X Zu13 → (0 ≤ a_3u13.toInt ∧ a_3u13.toInt ≤ 40) → Zu13.2.2 61 0 = 56 → Zu13.2.2 61 2 = 26 → Zu13.2.2 61 1 = 25 → (41 - a_3u13.toInt).toNat < n → ok (r_u13 a_3u13 Zu13) (fun r Y => (Fr YC Qv25 X Y ∧ INV Y))) ?_ ?_ n
          · intro a_3u13 Zu13 hIu13 hFu13 u13_0 u13x0 u13x1 u13x2 hm; exact absurd hm (Nat.not_lt_zero _)
          · intro n r_u13 ih_u13 a_3u13 Zu13 hIu13 hFu13 u13_0 u13x0 u13x1 u13x2 hmu13
            unfold g_Judging_judgeAll_85_s
            refine ok.ck (by rw [u13x2]; decide) ?_
            refine ok.letE (v1 := 24) (by rw [u13x2]) ?_
            refine ok.letE (v1 := (X.1 24 1)) (hFu13.1 24 1 n4801_Qv25) ?_
            refine ok.ite (fun c14 => ?_) (fun c14 => ?_)
            · skip
              exact ok.ret ⟨(Fr.rf.tr hFu13 (fun _ q => q)), hIu13⟩
            · skip
              refine ok.letE (v1 := (Zu13.1 61 4)) rfl ?_
              refine ok.ite (fun c15 => ?_) (fun c15 => ?_)
              · skip
                have g16 := i32_le (Zu13.1 61 4)
                refine ok.bd (v_Judging_judgePart_J24 hIu13 u13x0 u13x2 u13x1 (show 0 ≤ a_3u13.toInt ∧ a_3u13.toInt ≤ 39 from by omega) (show a_3u13.toInt < (Zu13.1 24 1).toInt from by have := (show (Zu13.1 24 1).toInt = (X.1 24 1).toInt from congrArg Int32.toInt (hFu13.1 24 1 n4801_Qv25)); have := (show 0 ≤ (X.1 24 1).toInt ∧ (X.1 24 1).toInt ≤ 40 from hI.1 24 1); omega) (PGC.fr hP (Fr.rf.tr hFu13 (fun _ q => q)) ⟨n4806_Qv25, n4801_Qv25, fun j => n8400_Qv25, fun j => n8600_Qv25, fun j => n8200_Qv25⟩)) ?_
                rintro r_17 Z19 ⟨hFZ19, hIZ19⟩
                refine ok.inc (by decide) (show _ ≤ a_3u13.toInt + (1) ∧ a_3u13.toInt + (1) ≤ _ from by omega) (fun x18 hx18 => ?_)
                have hx18 : x18.toInt = a_3u13.toInt + (1) := hx18
                exact ih_u13 x18 Z19 hIZ19 ((Fr.rf.tr hFu13 (fun _ q => q)).tr hFZ19 sQv26_Qv25) (show 0 ≤ x18.toInt ∧ x18.toInt ≤ 40 from by omega) (show Z19.2.2 61 0 = 56 from ((hFZ19.2.2 61 0 n12200_Qv26).trans u13x0)) (show Z19.2.2 61 2 = 26 from ((hFZ19.2.2 61 2 n12202_Qv26).trans u13x1)) (show Z19.2.2 61 1 = 25 from ((hFZ19.2.2 61 1 n12201_Qv26).trans u13x2)) (show (41 - x18.toInt).toNat < _ from by omega)
              · skip
                exact ok.ret ⟨(Fr.rf.tr hFu13 (fun _ q => q)), hIu13⟩
        exact lpu13 BIG (0 : Int32) Zu10 hIu10 (Fr.rf.tr hFu10 (fun _ q => q)) (show 0 ≤ (0 : Int) ∧ (0 : Int) ≤ 40 from by omega) (show Zu10.2.2 61 0 = 56 from u10x0) (show Zu10.2.2 61 2 = 26 from u10x1) (show Zu10.2.2 61 1 = 25 from u10x2) (show (41 - (0 : Int)).toNat < BIG from ltBIG (show _ < 100000 from by omega))
      · skip
        refine ok.bd (v_Judging_takeHeader_J24 hIu10 u10x2 u10x1 (show 0 ≤ a_3u10.toInt ∧ a_3u10.toInt ≤ 39 from by omega)) ?_
        rintro r_20 Z22 ⟨hFZ22, hIZ22⟩
        refine ok.inc (by decide) (show _ ≤ a_3u10.toInt + (1) ∧ a_3u10.toInt + (1) ≤ _ from by omega) (fun x20 hx20 => ?_)
        have hx20 : x20.toInt = a_3u10.toInt + (1) := hx20
        exact ih_u10 x20 Z22 hIZ22 ((Fr.rf.tr hFu10 (fun _ q => q)).tr hFZ22 sQv35_Qv25) (show 0 ≤ x20.toInt ∧ x20.toInt ≤ 40 from by omega) (show Z22.2.2 61 0 = 56 from ((hFZ22.2.2 61 0 n12200_Qv35).trans u10x0)) (show Z22.2.2 61 2 = 26 from ((hFZ22.2.2 61 2 n12202_Qv35).trans u10x1)) (show Z22.2.2 61 1 = 25 from ((hFZ22.2.2 61 1 n12201_Qv35).trans u10x2)) (show (41 - x20.toInt).toNat < _ from by omega)
  exact lpu10 BIG (0 : Int32) Z9 hIZ9 (((((((Fr.rf.tr hFZ1 (by decide)).tr hFZ2 (by decide)).tr hFZ3 (by decide)).tr hFZ6 (by decide)).tr hFZ7 (by decide)).tr hFZ8 (by decide)).tr hFZ9 (by decide)) (show 0 ≤ (0 : Int) ∧ (0 : Int) ≤ 40 from by omega) (show Z9.2.2 61 0 = 56 from (((((hFZ9.2.2 61 0 (show (12200 : Nat) ∉ [12205] from by decide)).trans (hFZ8.2.2 61 0 (show (12200 : Nat) ∉ [12204] from by decide))).trans (hFZ7.2.2 61 0 (show (12200 : Nat) ∉ [11005] from by decide))).trans (hFZ6.2.2 61 0 (show (12200 : Nat) ∉ [5000, 6200] from by decide))).trans hRZ3)) (show Z9.2.2 61 2 = 26 from ((((((hFZ9.2.2 61 2 (show (12202 : Nat) ∉ [12205] from by decide)).trans (hFZ8.2.2 61 2 (show (12202 : Nat) ∉ [12204] from by decide))).trans (hFZ7.2.2 61 2 (show (12202 : Nat) ∉ [11005] from by decide))).trans (hFZ6.2.2 61 2 (show (12202 : Nat) ∉ [5000, 6200] from by decide))).trans (hFZ3.2.2 61 2 (show (12202 : Nat) ∉ [12200] from by decide))).trans hRZ2)) (show Z9.2.2 61 1 = 25 from (((((((hFZ9.2.2 61 1 (show (12201 : Nat) ∉ [12205] from by decide)).trans (hFZ8.2.2 61 1 (show (12201 : Nat) ∉ [12204] from by decide))).trans (hFZ7.2.2 61 1 (show (12201 : Nat) ∉ [11005] from by decide))).trans (hFZ6.2.2 61 1 (show (12201 : Nat) ∉ [5000, 6200] from by decide))).trans (hFZ3.2.2 61 1 (show (12201 : Nat) ∉ [12200] from by decide))).trans (hFZ2.2.2 61 1 (show (12201 : Nat) ∉ [12202] from by decide))).trans hRZ1)) (show (41 - (0 : Int)).toNat < BIG from ltBIG (show _ < 100000 from by omega))
theorem n4801_Qv12 : (4801 : Nat) ∉ Qv12 := by decide
theorem n8200_Qv12 : (8200 : Nat) ∉ Qv12 := by decide
set_option maxHeartbeats 4000000 in
theorem v_Running_enterPart_N24 {p1 : Int32} {p2 : Int32} {p3 : Int32} {X : St} (hI : INV X) (hr70_2 : X.2.2 70 2 = 25) (h0 : 0 ≤ p2.toInt ∧ p2.toInt ≤ 20002) : ok (g_Running_enterPart p1 p2 p3 X) (fun r Y => (Fr YC Qv12 X Y ∧ INV Y)) := by
  unfold g_Running_enterPart
  refine ok.letE (v1 := (X.1 70 11)) rfl ?_
  have g1 : 0 ≤ (X.1 70 11).toInt ∧ (X.1 70 11).toInt ≤ 100 := hI.1 70 11
  refine ok.ite (fun c2 => ?_) (fun c2 => ?_)
  · skip
    refine ok.letE (v1 := (X.1 70 11)) rfl ?_
    refine ok.letE (v1 := (X.1 70 10)) rfl ?_
    refine ok.ck (show 0 ≤ (X.1 70 11).toInt ∧ (X.1 70 11).toInt < ((100 : Nat) : Int) from by omega) ?_
    refine ok.wI (L := [16400]) hI (show True from trivial) (show (16400 : Nat) ∈ [16400] from by decide) (by decide) (fun Z3 hIZ3 hFZ3 hkZ3 hoZ3 => ?_)
    refine ok.letE (v1 := (X.1 70 11)) (hFZ3.1 70 11 (show (14011 : Nat) ∉ [16400] from by decide)) ?_
    refine ok.add (show _ ≤ (X.1 70 11).toInt + (1 : Int) ∧ (X.1 70 11).toInt + (1 : Int) ≤ _ from by omega) (fun x6 hx6 => ?_)
    have hx6 : x6.toInt = (X.1 70 11).toInt + (1 : Int) := hx6
    refine ok.wI (L := [14011]) hIZ3 (show 0 ≤ x6.toInt ∧ x6.toInt ≤ 100 from by omega) (show (14011 : Nat) ∈ [14011] from by decide) (by decide) (fun Z4 hIZ4 hFZ4 hkZ4 hoZ4 => ?_)
    refine ok.sub (show _ ≤ p2.toInt - (1 : Int) ∧ p2.toInt - (1 : Int) ≤ _ from by omega) (fun x8 hx8 => ?_)
    have hx8 : x8.toInt = p2.toInt - (1 : Int) := hx8
    have lpu5 : ∀ (n : Nat), ∀ (a_1u5 : Int32) (a_4u5 : Int32) (Zu5 : St), INV Zu5 → Fr YC Qv12 X Zu5 → (-1 ≤ a_4u5.toInt ∧ a_4u5.toInt ≤ 20001) → (a_4u5.toInt + 1).toNat < n → ok (g_Running_enterPart_44 n a_1u5 a_4u5 Zu5) (fun r Y => (Fr YC Qv12 X Y ∧ INV Y)) := by
      intro n
      unfold g_Running_enterPart_44
      refine lp_indN (P := fun (n : Nat) (r_u5 : Int32 → Int32 → St → Option (Int32 × St)) => ∀ (a_1u5 : Int32) (a_4u5 : Int32) (Zu5 : St), INV Zu5 → Fr YC Qv12 X Zu5 → (-1 ≤ a_4u5.toInt ∧ a_4u5.toInt ≤ 20001) → (a_4u5.toInt + 1).toNat < n → ok (r_u5 a_1u5 a_4u5 Zu5) (fun r Y => (Fr YC Qv12 X Y ∧ INV Y))) ?_ ?_ n
      · intro a_1u5 a_4u5 Zu5 hIu5 hFu5 u5_0  hm; exact absurd hm (Nat.not_lt_zero _)
      · intro n r_u5 ih_u5 a_1u5 a_4u5 Zu5 hIu5 hFu5 u5_0  hmu5
        unfold g_Running_enterPart_44_s
        refine ok.ite (fun c6 => ?_) (fun c6 => ?_)
        · skip
          refine ok.ite (fun c7 => ?_) (fun c7 => ?_)
          · skip
            have g8 := i32_le a_1u5
            unfold g_Running_enterPart_98
            unfold g_Running_enterPart_99
            refine ok.wI (L := [14010]) hIu5 (show True from trivial) (show (14010 : Nat) ∈ [14010] from by decide) (by decide) (fun Z9 hIZ9 hFZ9 hkZ9 hoZ9 => ?_)
            exact ok.ret ⟨((Fr.rf.tr hFu5 (fun _ q => q)).tr hFZ9 (by decide)), hIZ9⟩
          · skip
            have g10 := i32_le a_1u5
            refine ok.ck (by rw [((hFu5.2.2 70 2 n14002_Qv12).trans hr70_2)]; decide) ?_
            refine ok.letE (v1 := 24) (by rw [((hFu5.2.2 70 2 n14002_Qv12).trans hr70_2)]) ?_
            refine ok.letE (v1 := (X.1 24 1)) (hFu5.1 24 1 n4801_Qv12) ?_
            have g11 : 0 ≤ (X.1 24 1).toInt ∧ (X.1 24 1).toInt ≤ 40 := hI.1 24 1
            refine ok.ite (fun c12 => ?_) (fun c12 => ?_)
            · skip
              unfold g_Running_enterPart_98
              unfold g_Running_enterPart_99
              refine ok.wI (L := [14010]) hIu5 (show True from trivial) (show (14010 : Nat) ∈ [14010] from by decide) (by decide) (fun Z13 hIZ13 hFZ13 hkZ13 hoZ13 => ?_)
              exact ok.ret ⟨((Fr.rf.tr hFu5 (fun _ q => q)).tr hFZ13 (by decide)), hIZ13⟩
            · skip
              refine ok.ck (by rw [((hFu5.2.2 70 2 n14002_Qv12).trans hr70_2)]; decide) ?_
              refine ok.letE (v1 := 24) (by rw [((hFu5.2.2 70 2 n14002_Qv12).trans hr70_2)]) ?_
              refine ok.letE (v1 := 41) (by decide) ?_
              refine ok.ck (show 0 ≤ a_1u5.toInt ∧ a_1u5.toInt < ((41 : Nat) : Int) from by omega) ?_
              refine ok.letE (v1 := (X.1 41 (ix a_1u5))) (hFu5.1 41 (ix a_1u5) n8200_Qv12) ?_
              have g14 : 0 ≤ (X.1 41 (ix a_1u5)).toInt ∧ (X.1 41 (ix a_1u5)).toInt ≤ 9080 := hI.1 41 (ix a_1u5)
              unfold g_Running_enterPart_99
              refine ok.wI (L := [14010]) hIu5 (show True from trivial) (show (14010 : Nat) ∈ [14010] from by decide) (by decide) (fun Z15 hIZ15 hFZ15 hkZ15 hoZ15 => ?_)
              exact ok.ret ⟨((Fr.rf.tr hFu5 (fun _ q => q)).tr hFZ15 (by decide)), hIZ15⟩
        · skip
          refine ok.bd (v_Running_slotAt hIu5) ?_
          rintro x15 _ ⟨rfl, hp16⟩
          have hp16 : 0 ≤ x15.toInt ∧ x15.toInt ≤ 4399 := hp16
          refine ok.bd (v_Running_pop hIu5) ?_
          rintro y17 Z18 ⟨hFZ18, hIZ18⟩
          refine ok.ck (show 0 ≤ x15.toInt ∧ x15.toInt < ((4400 : Nat) : Int) from by omega) ?_
          refine ok.wL (L := [16600]) hIZ18 (show (16600 : Nat) ∈ [16600] from by decide) (fun Z19 hIZ19 hFZ19 heZ19 => ?_)
          refine ok.inc (by decide) (show _ ≤ a_4u5.toInt + (-1) ∧ a_4u5.toInt + (-1) ≤ _ from by omega) (fun x20 hx20 => ?_)
          have hx20 : x20.toInt = a_4u5.toInt + (-1) := hx20
          exact ih_u5 a_1u5 x20 Z19 hIZ19 (((Fr.rf.tr hFu5 (fun _ q => q)).tr hFZ18 (by decide)).tr hFZ19 (by decide)) (show -1 ≤ x20.toInt ∧ x20.toInt ≤ 20001 from by omega) (show (x20.toInt + 1).toNat < _ from by omega)
    exact lpu5 BIG p1 x8 Z4 hIZ4 ((Fr.rf.tr hFZ3 (by decide)).tr hFZ4 (by decide)) (show -1 ≤ x8.toInt ∧ x8.toInt ≤ 20001 from by omega) (show (x8.toInt + 1).toNat < BIG from ltBIG (show _ < 100000 from by omega))
  · skip
    refine ok.bd (v_Running_failWith hI) ?_
    rintro r_20 Z22 ⟨hFZ22, hIZ22⟩
    exact ok.ret ⟨(Fr.rf.tr hFZ22 (by decide)), hIZ22⟩
theorem n4806_Qv11 : (4806 : Nat) ∉ Qv11 := by decide
theorem n8400_Qv11 : (8400 : Nat) ∉ Qv11 := by decide
theorem n8600_Qv11 : (8600 : Nat) ∉ Qv11 := by decide
theorem n9000_Qv11 : (9000 : Nat) ∉ Qv11 := by decide
set_option maxHeartbeats 4000000 in
theorem v_Kinds_withAnys_25 {p1 : Int32} {X : St} (hI : INV X) : ok (g_Kinds_withAnys 25 p1 X) (fun r Y => (X = Y)) := by
  unfold g_Kinds_withAnys
  refine ok.bd (v_Kinds_sortOf_25 hI) ?_
  rintro x1 _ rfl
  refine ok.ite (fun c2 => ?_) (fun c2 => ?_)
  · skip
    have g3 := i32_le x1
    exact ok.ret rfl
  · skip
    refine ok.bd (v_Kinds_sortOf_25 hI) ?_
    rintro x3 _ rfl
    refine ok.ite (fun c5 => ?_) (fun c5 => ?_)
    · skip
      have g6 := i32_le x3
      refine ok.bd (v_Kinds_takenBy_25 hI) ?_
      rintro x5 _ ⟨rfl, hp7⟩
      have hp7 : 0 ≤ x5.toInt ∧ x5.toInt ≤ 4 := hp7
      refine ok.add (show _ ≤ (4 : Int) + x5.toInt ∧ (4 : Int) + x5.toInt ≤ _ from by omega) (fun x7 hx7 => ?_)
      have hx7 : x7.toInt = (4 : Int) + x5.toInt := hx7
      exact ok.ret rfl
    · skip
      exact ok.ret rfl
set_option maxHeartbeats 4000000 in
theorem v_Program_paramsOf_24 {p1 : Int32} {X : St} (hI : INV X) : ok (g_Program_paramsOf 24 p1 X) (fun r Y => (X = Y)) := by
  unfold g_Program_paramsOf
  refine ok.ite (fun c1 => ?_) (fun c1 => ?_)
  · skip
    have g2 := i32_le p1
    exact ok.ret rfl
  · skip
    have g3 := i32_le p1
    refine ok.letE (v1 := (X.1 24 1)) rfl ?_
    have g4 : 0 ≤ (X.1 24 1).toInt ∧ (X.1 24 1).toInt ≤ 40 := hI.1 24 1
    refine ok.ite (fun c5 => ?_) (fun c5 => ?_)
    · skip
      exact ok.ret rfl
    · skip
      refine ok.letE (v1 := 37) (by decide) ?_
      refine ok.ck (show 0 ≤ p1.toInt ∧ p1.toInt < ((40 : Nat) : Int) from by omega) ?_
      refine ok.letE (v1 := (X.1 37 (ix p1))) rfl ?_
      have g6 : 0 ≤ (X.1 37 (ix p1)).toInt ∧ (X.1 37 (ix p1)).toInt ≤ 4 := hI.1 37 (ix p1)
      exact ok.ret rfl
set_option maxHeartbeats 4000000 in
theorem v_Running_isSuch_N24 {q1 : Int64} {p3 : Int32} {p4 : Int32} {X : St} (hI : INV X) (hr70_2 : X.2.2 70 2 = 25) : ok (g_Running_isSuch q1 p3 p4 X) (fun r Y => (X = Y)) := by
  unfold g_Running_isSuch
  refine ok.bd (v_Heap_sortOf hI) ?_
  rintro x1 _ rfl
  refine ok.ite (fun c2 => ?_) (fun c2 => ?_)
  · skip
    refine ok.ite (fun c3 => ?_) (fun c3 => ?_)
    · skip
      have g4 := i32_le p3
      refine ok.ck (by rw [hr70_2]; decide) ?_
      refine ok.letE (v1 := 24) (by rw [hr70_2]) ?_
      refine ok.bd (v_Heap_contentOf hI) ?_
      rintro x4 _ rfl
      refine ok.bd (v_Program_paramsOf_24 hI) ?_
      rintro x6 _ rfl
      refine ok.ite (fun c7 => ?_) (fun c7 => ?_)
      · skip
        exact ok.ret rfl
      · skip
        exact ok.ret rfl
    · skip
      exact ok.ret rfl
  · skip
    exact ok.ret rfl
set_option maxHeartbeats 4000000 in
theorem v_Running_ask_N24 {q1 : Int64} {p3 : Int32} {p4 : Int32} {p5 : Int32} {p6 : Int32} {p7 : Int32} {X : St} (hI : INV X) (hr70_2 : X.2.2 70 2 = 25) : ok (g_Running_ask q1 p3 p4 p5 p6 p7 X) (fun r Y => (Fr YC Qv19 X Y ∧ INV Y)) := by
  unfold g_Running_ask
  have lpu1 : ∀ (n : Nat), ∀ (l_1u1 : Int64) (a_5u1 : Int32) (a_6u1 : Int32) (a_7u1 : Int32) (a_8u1 : Int32) (a_9u1 : Int32) (a_10u1 : Int32) (Zu1 : St), INV Zu1 → Fr YC Qv19 X Zu1 → (0 ≤ a_10u1.toInt ∧ a_10u1.toInt ≤ 3) → (4 - a_10u1.toInt).toNat < n → ok (g_Running_ask_10 n l_1u1 a_5u1 a_6u1 a_7u1 a_8u1 a_9u1 a_10u1 Zu1) (fun r Y => (Fr YC Qv19 X Y ∧ INV Y)) := by
    intro n
    unfold g_Running_ask_10
    refine lp_indN (P := fun (n : Nat) (r_u1 : Int64 → Int32 → Int32 → Int32 → Int32 → Int32 → Int32 → St → Option (Int64 × St)) => ∀ (l_1u1 : Int64) (a_5u1 : Int32) (a_6u1 : Int32) (a_7u1 : Int32) (a_8u1 : Int32) (a_9u1 : Int32) (a_10u1 : Int32) (Zu1 : St), INV Zu1 → Fr YC Qv19 X Zu1 → (0 ≤ a_10u1.toInt ∧ a_10u1.toInt ≤ 3) → (4 - a_10u1.toInt).toNat < n → ok (r_u1 l_1u1 a_5u1 a_6u1 a_7u1 a_8u1 a_9u1 a_10u1 Zu1) (fun r Y => (Fr YC Qv19 X Y ∧ INV Y))) ?_ ?_ n
    · intro l_1u1 a_5u1 a_6u1 a_7u1 a_8u1 a_9u1 a_10u1 Zu1 hIu1 hFu1 u1_0  hm; exact absurd hm (Nat.not_lt_zero _)
    · intro n r_u1 ih_u1 l_1u1 a_5u1 a_6u1 a_7u1 a_8u1 a_9u1 a_10u1 Zu1 hIu1 hFu1 u1_0  hmu1
      unfold g_Running_ask_10_s
      refine ok.ite (fun c2 => ?_) (fun c2 => ?_)
      · skip
        exact ok.ret ⟨(Fr.rf.tr hFu1 (fun _ q => q)), hIu1⟩
      · skip
        refine ok.letE (v1 := (Zu1.1 70 4)) rfl ?_
        refine ok.ite (fun c3 => ?_) (fun c3 => ?_)
        · skip
          have g4 := i32_le (Zu1.1 70 4)
          exact ok.ret ⟨(Fr.rf.tr hFu1 (fun _ q => q)), hIu1⟩
        · skip
          refine ok.ite (fun c5 => ?_) (fun c5 => ?_)
          · skip
            exact ok.ret ⟨(Fr.rf.tr hFu1 (fun _ q => q)), hIu1⟩
          · skip
            refine ok.bd (v_Running_count hIu1) ?_
            rintro r_6 Z8 ⟨hFZ8, hIZ8⟩
            refine ok.ite (fun c9 => ?_) (fun c9 => ?_)
            · skip
              have g10 := i32_le a_9u1
              refine ok.ck (by rw [(((hFZ8.2.2 70 2 (show (14002 : Nat) ∉ [17400] from by decide)).trans (hFu1.2.2 70 2 n14002_Qv19)).trans hr70_2)]; decide) ?_
              refine ok.letE (v1 := 24) (by rw [(((hFZ8.2.2 70 2 (show (14002 : Nat) ∉ [17400] from by decide)).trans (hFu1.2.2 70 2 n14002_Qv19)).trans hr70_2)]) ?_
              refine ok.letE (v1 := 25) (by decide) ?_
              refine ok.bd (v_Kinds_withAnys_25 hIZ8) ?_
              rintro x26 _ rfl
              refine ok.ite (fun c12 => ?_) (fun c12 => ?_)
              · skip
                have g13 := i32_le x26
                exact ok.ret ⟨((Fr.rf.tr hFu1 (fun _ q => q)).tr hFZ8 (by decide)), hIZ8⟩
              · skip
                unfold g_Running_ask_162
                refine ok.inc (by decide) (show _ ≤ a_10u1.toInt + (1) ∧ a_10u1.toInt + (1) ≤ _ from by omega) (fun x21 hx21 => ?_)
                have hx21 : x21.toInt = a_10u1.toInt + (1) := hx21
                exact ih_u1 l_1u1 a_5u1 a_6u1 a_7u1 a_8u1 x26 x21 Z8 hIZ8 ((Fr.rf.tr hFu1 (fun _ q => q)).tr hFZ8 (by decide)) (show 0 ≤ x21.toInt ∧ x21.toInt ≤ 3 from by omega) (show (4 - x21.toInt).toNat < _ from by omega)
            · skip
              refine ok.ite (fun c14 => ?_) (fun c14 => ?_)
              · skip
                have g15 := i32_le a_8u1
                refine ok.bd (v_Heap_core hIZ8) ?_
                rintro y5 _ rfl
                refine ok.ck (by rw [(((hFZ8.2.2 70 2 (show (14002 : Nat) ∉ [17400] from by decide)).trans (hFu1.2.2 70 2 n14002_Qv19)).trans hr70_2)]; decide) ?_
                refine ok.letE (v1 := 24) (by rw [(((hFZ8.2.2 70 2 (show (14002 : Nat) ∉ [17400] from by decide)).trans (hFu1.2.2 70 2 n14002_Qv19)).trans hr70_2)]) ?_
                refine ok.letE (v1 := 25) (by decide) ?_
                refine ok.bd (v_Kinds_sortOf_25 hIZ8) ?_
                rintro x9 _ rfl
                refine ok.ck (by rw [(((hFZ8.2.2 70 2 (show (14002 : Nat) ∉ [17400] from by decide)).trans (hFu1.2.2 70 2 n14002_Qv19)).trans hr70_2)]; decide) ?_
                refine ok.letE (v1 := 24) (by rw [(((hFZ8.2.2 70 2 (show (14002 : Nat) ∉ [17400] from by decide)).trans (hFu1.2.2 70 2 n14002_Qv19)).trans hr70_2)]) ?_
                refine ok.letE (v1 := 25) (by decide) ?_
                refine ok.bd (v_Kinds_takenBy_25 hIZ8) ?_
                rintro x13 _ ⟨rfl, hp18⟩
                have hp18 : 0 ≤ x13.toInt ∧ x13.toInt ≤ 4 := hp18
                refine ok.bd (v_Running_isSuch_N24 hIZ8 (((hFZ8.2.2 70 2 (show (14002 : Nat) ∉ [17400] from by decide)).trans (hFu1.2.2 70 2 n14002_Qv19)).trans hr70_2)) ?_
                rintro x15 _ rfl
                refine ok.ite (fun c20 => ?_) (fun c20 => ?_)
                · skip
                  have g21 := i32_le x15
                  refine ok.wI (L := [14007]) hIZ8 (show True from trivial) (show (14007 : Nat) ∈ [14007] from by decide) (by decide) (fun Z22 hIZ22 hFZ22 hkZ22 hoZ22 => ?_)
                  refine ok.bd (v_Running_failWith hIZ22) ?_
                  rintro r_23 Z25 ⟨hFZ25, hIZ25⟩
                  unfold g_Running_ask_124
                  refine ok.ck (by rw [(((((hFZ25.2.2 70 2 (show (14002 : Nat) ∉ [14004, 14005, 14006] from by decide)).trans (hFZ22.2.2 70 2 (show (14002 : Nat) ∉ [14007] from by decide))).trans (hFZ8.2.2 70 2 (show (14002 : Nat) ∉ [17400] from by decide))).trans (hFu1.2.2 70 2 n14002_Qv19)).trans hr70_2)]; decide) ?_
                  refine ok.letE (v1 := 24) (by rw [(((((hFZ25.2.2 70 2 (show (14002 : Nat) ∉ [14004, 14005, 14006] from by decide)).trans (hFZ22.2.2 70 2 (show (14002 : Nat) ∉ [14007] from by decide))).trans (hFZ8.2.2 70 2 (show (14002 : Nat) ∉ [17400] from by decide))).trans (hFu1.2.2 70 2 n14002_Qv19)).trans hr70_2)]) ?_
                  refine ok.letE (v1 := 25) (by decide) ?_
                  refine ok.bd (v_Kinds_withAnys_25 hIZ25) ?_
                  rintro x19 _ rfl
                  refine ok.ite (fun c27 => ?_) (fun c27 => ?_)
                  · skip
                    have g28 := i32_le x19
                    exact ok.ret ⟨((((Fr.rf.tr hFu1 (fun _ q => q)).tr hFZ8 (by decide)).tr hFZ22 (by decide)).tr hFZ25 (by decide)), hIZ25⟩
                  · skip
                    unfold g_Running_ask_162
                    refine ok.inc (by decide) (show _ ≤ a_10u1.toInt + (1) ∧ a_10u1.toInt + (1) ≤ _ from by omega) (fun x21 hx21 => ?_)
                    have hx21 : x21.toInt = a_10u1.toInt + (1) := hx21
                    exact ih_u1 l_1u1 a_5u1 a_6u1 a_7u1 x19 a_9u1 x21 Z25 hIZ25 ((((Fr.rf.tr hFu1 (fun _ q => q)).tr hFZ8 (by decide)).tr hFZ22 (by decide)).tr hFZ25 (by decide)) (show 0 ≤ x21.toInt ∧ x21.toInt ≤ 3 from by omega) (show (4 - x21.toInt).toNat < _ from by omega)
                · skip
                  unfold g_Running_ask_124
                  refine ok.ck (by rw [(((hFZ8.2.2 70 2 (show (14002 : Nat) ∉ [17400] from by decide)).trans (hFu1.2.2 70 2 n14002_Qv19)).trans hr70_2)]; decide) ?_
                  refine ok.letE (v1 := 24) (by rw [(((hFZ8.2.2 70 2 (show (14002 : Nat) ∉ [17400] from by decide)).trans (hFu1.2.2 70 2 n14002_Qv19)).trans hr70_2)]) ?_
                  refine ok.letE (v1 := 25) (by decide) ?_
                  refine ok.bd (v_Kinds_withAnys_25 hIZ8) ?_
                  rintro x19 _ rfl
                  refine ok.ite (fun c30 => ?_) (fun c30 => ?_)
                  · skip
                    have g31 := i32_le x19
                    exact ok.ret ⟨((Fr.rf.tr hFu1 (fun _ q => q)).tr hFZ8 (by decide)), hIZ8⟩
                  · skip
                    unfold g_Running_ask_162
                    refine ok.inc (by decide) (show _ ≤ a_10u1.toInt + (1) ∧ a_10u1.toInt + (1) ≤ _ from by omega) (fun x21 hx21 => ?_)
                    have hx21 : x21.toInt = a_10u1.toInt + (1) := hx21
                    exact ih_u1 l_1u1 a_5u1 a_6u1 a_7u1 x19 a_9u1 x21 Z8 hIZ8 ((Fr.rf.tr hFu1 (fun _ q => q)).tr hFZ8 (by decide)) (show 0 ≤ x21.toInt ∧ x21.toInt ≤ 3 from by omega) (show (4 - x21.toInt).toNat < _ from by omega)
              · skip
                refine ok.bd (v_Running_wrap hIZ8) ?_
                rintro y3 Z33 ⟨hFZ33, hIZ33⟩
                exact ok.ret ⟨(((Fr.rf.tr hFu1 (fun _ q => q)).tr hFZ8 (by decide)).tr hFZ33 sQv20_Qv19), hIZ33⟩
  exact lpu1 BIG q1 p5 p6 p7 p3 p4 (0 : Int32) X hI (Fr.rf : Fr YC Qv19 _ _) (show 0 ≤ (0 : Int) ∧ (0 : Int) ≤ 3 from by omega) (show (4 - (0 : Int)).toNat < BIG from ltBIG (show _ < 100000 from by omega))
set_option maxHeartbeats 4000000 in
theorem v_Running_askOutward_N24 {q1 : Int64} {q3 : Int64} {X : St} (hI : INV X) (hr70_2 : X.2.2 70 2 = 25) : ok (g_Running_askOutward q1 q3 X) (fun r Y => (Fr YC Qv18 X Y ∧ INV Y)) := by
  unfold g_Running_askOutward
  refine ok.bd (v_Running_unwrap hI) ?_
  rintro x1 Z2 ⟨⟨hFZ2, hIZ2⟩, hp1⟩
  have hp1 : 0 ≤ x1.toInt ∧ x1.toInt ≤ 20 := hp1
  refine ok.sub (show _ ≤ x1.toInt - (1 : Int) ∧ x1.toInt - (1 : Int) ≤ _ from by omega) (fun x3 hx3 => ?_)
  have hx3 : x3.toInt = x1.toInt - (1 : Int) := hx3
  have lpu3 : ∀ (n : Nat), ∀ (l_5u3 : Int64) (a_7u3 : Int32) (Zu3 : St), INV Zu3 → Fr YC Qv18 X Zu3 → (-1 ≤ a_7u3.toInt ∧ a_7u3.toInt ≤ 19) → (a_7u3.toInt + 1).toNat < n → ok (g_Running_askOutward_12 n l_5u3 a_7u3 Zu3) (fun r Y => (Fr YC Qv18 X Y ∧ INV Y)) := by
    intro n
    unfold g_Running_askOutward_12
    refine lp_indN (P := fun (n : Nat) (r_u3 : Int64 → Int32 → St → Option (Int64 × St)) => ∀ (l_5u3 : Int64) (a_7u3 : Int32) (Zu3 : St), INV Zu3 → Fr YC Qv18 X Zu3 → (-1 ≤ a_7u3.toInt ∧ a_7u3.toInt ≤ 19) → (a_7u3.toInt + 1).toNat < n → ok (r_u3 l_5u3 a_7u3 Zu3) (fun r Y => (Fr YC Qv18 X Y ∧ INV Y))) ?_ ?_ n
    · intro l_5u3 a_7u3 Zu3 hIu3 hFu3 u3_0  hm; exact absurd hm (Nat.not_lt_zero _)
    · intro n r_u3 ih_u3 l_5u3 a_7u3 Zu3 hIu3 hFu3 u3_0  hmu3
      unfold g_Running_askOutward_12_s
      refine ok.ite (fun c4 => ?_) (fun c4 => ?_)
      · skip
        exact ok.ret ⟨(Fr.rf.tr hFu3 (fun _ q => q)), hIu3⟩
      · skip
        refine ok.ck (show 0 ≤ a_7u3.toInt ∧ a_7u3.toInt < ((20 : Nat) : Int) from by omega) ?_
        refine ok.letE (v1 := (Zu3.1 85 (ix a_7u3))) rfl ?_
        have g5 : 0 ≤ (Zu3.1 85 (ix a_7u3)).toInt ∧ (Zu3.1 85 (ix a_7u3)).toInt ≤ 999 := hIu3.1 85 (ix a_7u3)
        refine ok.ck (by rw [((hFu3.2.2 70 2 n14002_Qv18).trans hr70_2)]; decide) ?_
        refine ok.letE (v1 := 24) (by rw [((hFu3.2.2 70 2 n14002_Qv18).trans hr70_2)]) ?_
        refine ok.letE (v1 := 25) (by decide) ?_
        refine ok.ck (show 0 ≤ (Zu3.1 85 (ix a_7u3)).toInt ∧ (Zu3.1 85 (ix a_7u3)).toInt < ((1000 : Nat) : Int) from by omega) ?_
        refine ok.letE (v1 := (Zu3.1 76 (ix (Zu3.1 85 (ix a_7u3))))) rfl ?_
        refine ok.bd (v_Kinds_givesOf_25 hIu3) ?_
        rintro x8 _ rfl
        refine ok.ck (by rw [((hFu3.2.2 70 2 n14002_Qv18).trans hr70_2)]; decide) ?_
        refine ok.letE (v1 := 24) (by rw [((hFu3.2.2 70 2 n14002_Qv18).trans hr70_2)]) ?_
        refine ok.letE (v1 := 25) (by decide) ?_
        refine ok.ck (show 0 ≤ (Zu3.1 85 (ix a_7u3)).toInt ∧ (Zu3.1 85 (ix a_7u3)).toInt < ((1000 : Nat) : Int) from by omega) ?_
        refine ok.letE (v1 := (Zu3.1 77 (ix (Zu3.1 85 (ix a_7u3))))) rfl ?_
        refine ok.bd (v_Kinds_givesOf_25 hIu3) ?_
        rintro x13 _ rfl
        refine ok.ck (show 0 ≤ (Zu3.1 85 (ix a_7u3)).toInt ∧ (Zu3.1 85 (ix a_7u3)).toInt < ((1000 : Nat) : Int) from by omega) ?_
        refine ok.letE (v1 := (Zu3.1 78 (ix (Zu3.1 85 (ix a_7u3))))) rfl ?_
        refine ok.ck (show 0 ≤ (Zu3.1 85 (ix a_7u3)).toInt ∧ (Zu3.1 85 (ix a_7u3)).toInt < ((1000 : Nat) : Int) from by omega) ?_
        refine ok.letE (v1 := (Zu3.1 79 (ix (Zu3.1 85 (ix a_7u3))))) rfl ?_
        refine ok.ck (show 0 ≤ (Zu3.1 85 (ix a_7u3)).toInt ∧ (Zu3.1 85 (ix a_7u3)).toInt < ((1000 : Nat) : Int) from by omega) ?_
        refine ok.letE (v1 := (Zu3.1 80 (ix (Zu3.1 85 (ix a_7u3))))) rfl ?_
        refine ok.bd (v_Running_ask_N24 hIu3 ((hFu3.2.2 70 2 n14002_Qv18).trans hr70_2)) ?_
        rintro y18 Z9 ⟨hFZ9, hIZ9⟩
        refine ok.inc (by decide) (show _ ≤ a_7u3.toInt + (-1) ∧ a_7u3.toInt + (-1) ≤ _ from by omega) (fun x20 hx20 => ?_)
        have hx20 : x20.toInt = a_7u3.toInt + (-1) := hx20
        exact ih_u3 y18 x20 Z9 hIZ9 ((Fr.rf.tr hFu3 (fun _ q => q)).tr hFZ9 sQv19_Qv18) (show -1 ≤ x20.toInt ∧ x20.toInt ≤ 19 from by omega) (show (x20.toInt + 1).toNat < _ from by omega)
  exact lpu3 BIG q3 x3 Z2 hIZ2 (Fr.rf.tr hFZ2 (by decide)) (show -1 ≤ x3.toInt ∧ x3.toInt ≤ 19 from by omega) (show (x3.toInt + 1).toNat < BIG from ltBIG (show _ < 100000 from by omega))
set_option maxHeartbeats 4000000 in
theorem v_Running_fetch_N24 {p1 : Int32} {X : St} (hI : INV X) (hr70_2 : X.2.2 70 2 = 25) : ok (g_Running_fetch p1 X) (fun r Y => (Fr YC Qv17 X Y ∧ INV Y)) := by
  unfold g_Running_fetch
  refine ok.bd (v_Running_popContent hI) ?_
  rintro x1 Z2 ⟨hFZ2, hIZ2⟩
  refine ok.bd (v_Running_pop hIZ2) ?_
  rintro y3 Z4 ⟨hFZ4, hIZ4⟩
  refine ok.bd (v_Heap_core hIZ4) ?_
  rintro y5 _ rfl
  refine ok.bd (v_Heap_hasPlace hIZ4) ?_
  rintro x7 _ rfl
  refine ok.ite (fun c7 => ?_) (fun c7 => ?_)
  · skip
    have g8 := i32_le x7
    refine ok.bd (v_Running_failWith hIZ4) ?_
    rintro r_9 Z11 ⟨hFZ11, hIZ11⟩
    exact ok.ret ⟨(((Fr.rf.tr hFZ2 (by decide)).tr hFZ4 (by decide)).tr hFZ11 (by decide)), hIZ11⟩
  · skip
    refine ok.bd (v_Heap_fetch hIZ4) ?_
    rintro y9 _ rfl
    refine ok.bd (v_Running_askOutward_N24 hIZ4 (((hFZ4.2.2 70 2 (show (14002 : Nat) ∉ [14015] from by decide)).trans (hFZ2.2.2 70 2 (show (14002 : Nat) ∉ [14015] from by decide))).trans hr70_2)) ?_
    rintro y11 Z14 ⟨hFZ14, hIZ14⟩
    refine ok.bd (v_Running_push hIZ14) ?_
    rintro r_15 Z17 ⟨hFZ17, hIZ17⟩
    exact ok.ret ⟨((((Fr.rf.tr hFZ2 (by decide)).tr hFZ4 (by decide)).tr hFZ14 sQv18_Qv17).tr hFZ17 (by decide)), hIZ17⟩
set_option maxHeartbeats 4000000 in
theorem v_Running_askInto_N24 {p1 : Int32} {p2 : Int32} {q3 : Int64} {X : St} (hI : INV X) (hr70_2 : X.2.2 70 2 = 25) (h0 : 0 ≤ p1.toInt ∧ p1.toInt ≤ 999) : ok (g_Running_askInto p1 p2 q3 X) (fun r Y => (Fr YC Qv19 X Y ∧ INV Y)) := by
  unfold g_Running_askInto
  refine ok.ck (by rw [hr70_2]; decide) ?_
  refine ok.letE (v1 := 24) (by rw [hr70_2]) ?_
  refine ok.letE (v1 := 25) (by decide) ?_
  refine ok.ite (fun c1 => ?_) (fun c1 => ?_)
  · skip
    have g2 := i32_le p2
    refine ok.ck (show 0 ≤ p1.toInt ∧ p1.toInt < ((1000 : Nat) : Int) from by omega) ?_
    refine ok.letE (v1 := (X.1 77 (ix p1))) rfl ?_
    refine ok.bd (v_Kinds_givesOf_25 hI) ?_
    rintro x18 _ rfl
    unfold g_Running_askInto_46
    refine ok.ite (fun c4 => ?_) (fun c4 => absurd (show p2.toInt = -1 from by omega) c4)
    refine ok.ck (show 0 ≤ p1.toInt ∧ p1.toInt < ((1000 : Nat) : Int) from by omega) ?_
    refine ok.letE (v1 := (X.1 76 (ix p1))) rfl ?_
    refine ok.bd (v_Kinds_givesOf_25 hI) ?_
    rintro x15 _ rfl
    unfold g_Running_askInto_85
    refine ok.ck (show 0 ≤ p1.toInt ∧ p1.toInt < ((1000 : Nat) : Int) from by omega) ?_
    refine ok.letE (v1 := (X.1 79 (ix p1))) rfl ?_
    refine ok.ck (show 0 ≤ p1.toInt ∧ p1.toInt < ((1000 : Nat) : Int) from by omega) ?_
    refine ok.letE (v1 := (X.1 78 (ix p1))) rfl ?_
    refine ok.ck (show 0 ≤ p1.toInt ∧ p1.toInt < ((1000 : Nat) : Int) from by omega) ?_
    refine ok.letE (v1 := (X.1 80 (ix p1))) rfl ?_
    refine ok.bd (v_Running_ask_N24 hI hr70_2) ?_
    rintro y12 Z7 ⟨hFZ7, hIZ7⟩
    exact ok.ret ⟨(Fr.rf.tr hFZ7 (fun _ q => q)), hIZ7⟩
  · skip
    refine ok.ck (show 0 ≤ p1.toInt ∧ p1.toInt < ((1000 : Nat) : Int) from by omega) ?_
    refine ok.letE (v1 := (X.1 77 (ix p1))) rfl ?_
    refine ok.bd (v_Kinds_paramOf_25 hI) ?_
    rintro x4 _ rfl
    unfold g_Running_askInto_46
    refine ok.ite (fun c9 => ?_) (fun c9 => ?_)
    · skip
      have g10 := i32_le p2
      refine ok.ck (show 0 ≤ p1.toInt ∧ p1.toInt < ((1000 : Nat) : Int) from by omega) ?_
      refine ok.letE (v1 := (X.1 76 (ix p1))) rfl ?_
      refine ok.bd (v_Kinds_givesOf_25 hI) ?_
      rintro x15 _ rfl
      unfold g_Running_askInto_85
      refine ok.ck (show 0 ≤ p1.toInt ∧ p1.toInt < ((1000 : Nat) : Int) from by omega) ?_
      refine ok.letE (v1 := (X.1 79 (ix p1))) rfl ?_
      refine ok.ck (show 0 ≤ p1.toInt ∧ p1.toInt < ((1000 : Nat) : Int) from by omega) ?_
      refine ok.letE (v1 := (X.1 78 (ix p1))) rfl ?_
      refine ok.ck (show 0 ≤ p1.toInt ∧ p1.toInt < ((1000 : Nat) : Int) from by omega) ?_
      refine ok.letE (v1 := (X.1 80 (ix p1))) rfl ?_
      refine ok.bd (v_Running_ask_N24 hI hr70_2) ?_
      rintro y12 Z13 ⟨hFZ13, hIZ13⟩
      exact ok.ret ⟨(Fr.rf.tr hFZ13 (fun _ q => q)), hIZ13⟩
    · skip
      refine ok.ck (show 0 ≤ p1.toInt ∧ p1.toInt < ((1000 : Nat) : Int) from by omega) ?_
      refine ok.letE (v1 := (X.1 76 (ix p1))) rfl ?_
      refine ok.bd (v_Kinds_paramOf_25 hI) ?_
      rintro x7 _ rfl
      unfold g_Running_askInto_85
      refine ok.ck (show 0 ≤ p1.toInt ∧ p1.toInt < ((1000 : Nat) : Int) from by omega) ?_
      refine ok.letE (v1 := (X.1 79 (ix p1))) rfl ?_
      refine ok.ck (show 0 ≤ p1.toInt ∧ p1.toInt < ((1000 : Nat) : Int) from by omega) ?_
      refine ok.letE (v1 := (X.1 78 (ix p1))) rfl ?_
      refine ok.ck (show 0 ≤ p1.toInt ∧ p1.toInt < ((1000 : Nat) : Int) from by omega) ?_
      refine ok.letE (v1 := (X.1 80 (ix p1))) rfl ?_
      refine ok.bd (v_Running_ask_N24 hI hr70_2) ?_
      rintro y12 Z16 ⟨hFZ16, hIZ16⟩
      exact ok.ret ⟨(Fr.rf.tr hFZ16 (fun _ q => q)), hIZ16⟩
set_option maxHeartbeats 4000000 in
theorem v_Running_store_N24 {p1 : Int32} {X : St} (hI : INV X) (hr70_2 : X.2.2 70 2 = 25) : ok (g_Running_store p1 X) (fun r Y => (Fr YC Qv21 X Y ∧ INV Y)) := by
  unfold g_Running_store
  refine ok.bd (v_Running_pop hI) ?_
  rintro y1 Z2 ⟨hFZ2, hIZ2⟩
  refine ok.bd (v_Running_popContent hIZ2) ?_
  rintro x3 Z4 ⟨hFZ4, hIZ4⟩
  refine ok.bd (v_Running_pop hIZ4) ?_
  rintro y5 Z6 ⟨hFZ6, hIZ6⟩
  refine ok.bd (v_Heap_core hIZ6) ?_
  rintro y7 _ rfl
  refine ok.bd (v_Heap_hasPlace hIZ6) ?_
  rintro x9 _ rfl
  refine ok.ite (fun c9 => ?_) (fun c9 => ?_)
  · skip
    have g10 := i32_le x9
    refine ok.bd (v_Running_failWith hIZ6) ?_
    rintro r_11 Z13 ⟨hFZ13, hIZ13⟩
    exact ok.ret ⟨((((Fr.rf.tr hFZ2 (by decide)).tr hFZ4 (by decide)).tr hFZ6 (by decide)).tr hFZ13 (by decide)), hIZ13⟩
  · skip
    refine ok.bd (v_Running_unwrap hIZ6) ?_
    rintro x11 Z15 ⟨⟨hFZ15, hIZ15⟩, hp14⟩
    have hp14 : 0 ≤ x11.toInt ∧ x11.toInt ≤ 20 := hp14
    have lpu16 : ∀ (n : Nat), ∀ (l_2u16 : Int64) (a_4u16 : Int32) (l_7u16 : Int64) (a_9u16 : Int32) (l_10u16 : Int64) (a_12u16 : Int32) (Zu16 : St), INV Zu16 → Fr YC Qv21 X Zu16 → (0 ≤ a_9u16.toInt ∧ a_9u16.toInt ≤ 20) → (0 ≤ a_12u16.toInt ∧ a_12u16.toInt ≤ 20) → (21 - a_12u16.toInt).toNat < n → ok (g_Running_store_63 n l_2u16 a_4u16 l_7u16 a_9u16 l_10u16 a_12u16 Zu16) (fun r Y => (Fr YC Qv21 X Y ∧ INV Y)) := by
      intro n
      unfold g_Running_store_63
      refine lp_indN (P := fun (n : Nat) (r_u16 : Int64 → Int32 → Int64 → Int32 → Int64 → Int32 → St → Option (Int32 × St)) => ∀ (l_2u16 : Int64) (a_4u16 : Int32) (l_7u16 : Int64) (a_9u16 : Int32) (l_10u16 : Int64) (a_12u16 : Int32) (Zu16 : St), INV Zu16 → Fr YC Qv21 X Zu16 → (0 ≤ a_9u16.toInt ∧ a_9u16.toInt ≤ 20) → (0 ≤ a_12u16.toInt ∧ a_12u16.toInt ≤ 20) → (21 - a_12u16.toInt).toNat < n → ok (r_u16 l_2u16 a_4u16 l_7u16 a_9u16 l_10u16 a_12u16 Zu16) (fun r Y => (Fr YC Qv21 X Y ∧ INV Y))) ?_ ?_ n
      · intro l_2u16 a_4u16 l_7u16 a_9u16 l_10u16 a_12u16 Zu16 hIu16 hFu16 u16_0 u16_1  hm; exact absurd hm (Nat.not_lt_zero _)
      · intro n r_u16 ih_u16 l_2u16 a_4u16 l_7u16 a_9u16 l_10u16 a_12u16 Zu16 hIu16 hFu16 u16_0 u16_1  hmu16
        unfold g_Running_store_63_s
        refine ok.ite (fun c17 => ?_) (fun c17 => ?_)
        · skip
          refine ok.letE (v1 := (Zu16.1 70 4)) rfl ?_
          refine ok.ite (fun c18 => ?_) (fun c18 => ?_)
          · skip
            have g19 := i32_le (Zu16.1 70 4)
            exact ok.ret ⟨(Fr.rf.tr hFu16 (fun _ q => q)), hIu16⟩
          · skip
            refine ok.bd (v_Heap_store hIu16) ?_
            rintro r_20 Z22 ⟨hFZ22, hIZ22⟩
            refine ok.bd (v_Running_push hIZ22) ?_
            rintro r_23 Z25 ⟨hFZ25, hIZ25⟩
            exact ok.ret ⟨(((Fr.rf.tr hFu16 (fun _ q => q)).tr hFZ22 (by decide)).tr hFZ25 (by decide)), hIZ25⟩
        · skip
          refine ok.ck (show 0 ≤ a_12u16.toInt ∧ a_12u16.toInt < ((20 : Nat) : Int) from by omega) ?_
          refine ok.letE (v1 := (Zu16.1 85 (ix a_12u16))) rfl ?_
          have g26 : 0 ≤ (Zu16.1 85 (ix a_12u16)).toInt ∧ (Zu16.1 85 (ix a_12u16)).toInt ≤ 999 := hIu16.1 85 (ix a_12u16)
          refine ok.bd (v_Running_askInto_N24 hIu16 ((hFu16.2.2 70 2 n14002_Qv21).trans hr70_2) (show 0 ≤ (Zu16.1 85 (ix a_12u16)).toInt ∧ (Zu16.1 85 (ix a_12u16)).toInt ≤ 999 from by omega)) ?_
          rintro y17 Z28 ⟨hFZ28, hIZ28⟩
          refine ok.inc (by decide) (show _ ≤ a_12u16.toInt + (1) ∧ a_12u16.toInt + (1) ≤ _ from by omega) (fun x19 hx19 => ?_)
          have hx19 : x19.toInt = a_12u16.toInt + (1) := hx19
          exact ih_u16 l_2u16 a_4u16 l_7u16 a_9u16 y17 x19 Z28 hIZ28 ((Fr.rf.tr hFu16 (fun _ q => q)).tr hFZ28 sQv19_Qv21) (show 0 ≤ a_9u16.toInt ∧ a_9u16.toInt ≤ 20 from by omega) (show 0 ≤ x19.toInt ∧ x19.toInt ≤ 20 from by omega) (show (21 - x19.toInt).toNat < _ from by omega)
    exact lpu16 BIG y1 x3 y7 x11 y1 (0 : Int32) Z15 hIZ15 ((((Fr.rf.tr hFZ2 (by decide)).tr hFZ4 (by decide)).tr hFZ6 (by decide)).tr hFZ15 (by decide)) (show 0 ≤ x11.toInt ∧ x11.toInt ≤ 20 from by omega) (show 0 ≤ (0 : Int) ∧ (0 : Int) ≤ 20 from by omega) (show (21 - (0 : Int)).toNat < BIG from ltBIG (show _ < 100000 from by omega))
set_option maxHeartbeats 4000000 in
theorem v_Running_callWith_N24 {p1 : Int32} {p2 : Int32} {X : St} (hI : INV X) (hr70_2 : X.2.2 70 2 = 25) (h0 : 0 ≤ p1.toInt ∧ p1.toInt ≤ 20000) : ok (g_Running_callWith p1 p2 X) (fun r Y => (Fr YC Qv22 X Y ∧ INV Y)) := by
  unfold g_Running_callWith
  refine ok.letE (v1 := (X.1 70 15)) rfl ?_
  have g1 : 0 ≤ (X.1 70 15).toInt ∧ (X.1 70 15).toInt ≤ 20002 := hI.1 70 15
  refine ok.sub (show _ ≤ (X.1 70 15).toInt - (1 : Int) ∧ (X.1 70 15).toInt - (1 : Int) ≤ _ from by omega) (fun x2 hx2 => ?_)
  have hx2 : x2.toInt = (X.1 70 15).toInt - (1 : Int) := hx2
  refine ok.sub (show _ ≤ x2.toInt - p1.toInt ∧ x2.toInt - p1.toInt ≤ _ from by omega) (fun x3 hx3 => ?_)
  have hx3 : x3.toInt = x2.toInt - p1.toInt := hx3
  refine ok.ite (fun c2 => ?_) (fun c2 => ?_)
  · skip
    refine ok.ck (show 0 ≤ x3.toInt ∧ x3.toInt < ((20002 : Nat) : Int) from by omega) ?_
    refine ok.any (fun y4 => ?_)
    refine ok.bd (v_Running_unwrap hI) ?_
    rintro x5 Z4 ⟨⟨hFZ4, hIZ4⟩, hp3⟩
    have hp3 : 0 ≤ x5.toInt ∧ x5.toInt ≤ 20 := hp3
    have lpu5 : ∀ (n : Nat), ∀ (a_1u5 : Int32) (a_2u5 : Int32) (a_3u5 : Int32) (a_4u5 : Int32) (a_5u5 : Int32) (Zu5 : St), INV Zu5 → Fr YC Qv22 X Zu5 → (0 ≤ a_1u5.toInt ∧ a_1u5.toInt ≤ 20000) → (0 ≤ a_3u5.toInt ∧ a_3u5.toInt + a_1u5.toInt ≤ 20001) → (0 ≤ a_4u5.toInt ∧ a_4u5.toInt ≤ 20) → (0 ≤ a_5u5.toInt ∧ a_5u5.toInt ≤ 20) → (21 - a_5u5.toInt).toNat < n → ok (g_Running_callWith_34 n a_1u5 a_2u5 a_3u5 a_4u5 a_5u5 Zu5) (fun r Y => (Fr YC Qv22 X Y ∧ INV Y)) := by
      intro n
      unfold g_Running_callWith_34
      refine lp_indN (P := fun (n : Nat) (r_u5 : Int32 → Int32 → Int32 → Int32 → Int32 → St → Option (Int32 × St)) => ∀ (a_1u5 : Int32) (a_2u5 : Int32) (a_3u5 : Int32) (a_4u5 : Int32) (a_5u5 : Int32) (Zu5 : St), INV Zu5 → Fr YC Qv22 X Zu5 → (0 ≤ a_1u5.toInt ∧ a_1u5.toInt ≤ 20000) → (0 ≤ a_3u5.toInt ∧ a_3u5.toInt + a_1u5.toInt ≤ 20001) → (0 ≤ a_4u5.toInt ∧ a_4u5.toInt ≤ 20) → (0 ≤ a_5u5.toInt ∧ a_5u5.toInt ≤ 20) → (21 - a_5u5.toInt).toNat < n → ok (r_u5 a_1u5 a_2u5 a_3u5 a_4u5 a_5u5 Zu5) (fun r Y => (Fr YC Qv22 X Y ∧ INV Y))) ?_ ?_ n
      · intro a_1u5 a_2u5 a_3u5 a_4u5 a_5u5 Zu5 hIu5 hFu5 u5_0 u5_1 u5_2 u5_3  hm; exact absurd hm (Nat.not_lt_zero _)
      · intro n r_u5 ih_u5 a_1u5 a_2u5 a_3u5 a_4u5 a_5u5 Zu5 hIu5 hFu5 u5_0 u5_1 u5_2 u5_3  hmu5
        unfold g_Running_callWith_34_s
        refine ok.ite (fun c6 => ?_) (fun c6 => ?_)
        · skip
          refine ok.letE (v1 := (Zu5.1 70 4)) rfl ?_
          refine ok.ite (fun c7 => ?_) (fun c7 => ?_)
          · skip
            have g8 := i32_le (Zu5.1 70 4)
            exact ok.ret ⟨(Fr.rf.tr hFu5 (fun _ q => q)), hIu5⟩
          · skip
            refine ok.ck (show 0 ≤ a_3u5.toInt ∧ a_3u5.toInt < ((20002 : Nat) : Int) from by omega) ?_
            refine ok.any (fun y8 => ?_)
            refine ok.bd (v_Heap_core hIu5) ?_
            rintro y9 _ rfl
            refine ok.bd (v_Heap_contentOf hIu5) ?_
            rintro x11 _ rfl
            refine ok.bd (v_Running_enterPart_N24 hIu5 ((hFu5.2.2 70 2 n14002_Qv22).trans hr70_2) (show 0 ≤ a_1u5.toInt ∧ a_1u5.toInt ≤ 20002 from by omega)) ?_
            rintro r_11 Z13 ⟨hFZ13, hIZ13⟩
            exact ok.ret ⟨((Fr.rf.tr hFu5 (fun _ q => q)).tr hFZ13 sQv12_Qv22), hIZ13⟩
        · skip
          have lpu14 : ∀ (n : Nat), ∀ (a_1u14 : Int32) (a_2u14 : Int32) (a_3u14 : Int32) (a_4u14 : Int32) (a_5u14 : Int32) (a_6u14 : Int32) (Zu14 : St), INV Zu14 → Fr YC Qv22 X Zu14 → (0 ≤ a_1u14.toInt ∧ a_1u14.toInt ≤ 20000) → (0 ≤ a_3u14.toInt ∧ a_3u14.toInt + a_1u14.toInt ≤ 20001) → (0 ≤ a_4u14.toInt ∧ a_4u14.toInt ≤ 20) → (0 ≤ a_5u14.toInt ∧ a_5u14.toInt < a_4u14.toInt) → (a_5u14.toInt = a_5u5.toInt) → (0 ≤ a_6u14.toInt ∧ a_6u14.toInt ≤ 20000) → (20001 - a_6u14.toInt).toNat < n → ok (g_Running_callWith_44 r_u5 n a_1u14 a_2u14 a_3u14 a_4u14 a_5u14 a_6u14 Zu14) (fun r Y => (Fr YC Qv22 X Y ∧ INV Y)) := by
            intro n
            unfold g_Running_callWith_44
            refine lp_indN (P := fun (n : Nat) (r_u14 : Int32 → Int32 → Int32 → Int32 → Int32 → Int32 → St → Option (Int32 × St)) => ∀ (a_1u14 : Int32) (a_2u14 : Int32) (a_3u14 : Int32) (a_4u14 : Int32) (a_5u14 : Int32) (a_6u14 : Int32) (Zu14 : St), INV Zu14 → Fr YC Qv22 X Zu14 → (0 ≤ a_1u14.toInt ∧ a_1u14.toInt ≤ 20000) → (0 ≤ a_3u14.toInt ∧ a_3u14.toInt + a_1u14.toInt ≤ 20001) → (0 ≤ a_4u14.toInt ∧ a_4u14.toInt ≤ 20) → (0 ≤ a_5u14.toInt ∧ a_5u14.toInt < a_4u14.toInt) → (a_5u14.toInt = a_5u5.toInt) → (0 ≤ a_6u14.toInt ∧ a_6u14.toInt ≤ 20000) → (20001 - a_6u14.toInt).toNat < n → ok (r_u14 a_1u14 a_2u14 a_3u14 a_4u14 a_5u14 a_6u14 Zu14) (fun r Y => (Fr YC Qv22 X Y ∧ INV Y))) ?_ ?_ n
            · intro a_1u14 a_2u14 a_3u14 a_4u14 a_5u14 a_6u14 Zu14 hIu14 hFu14 u14_0 u14_1 u14_2 u14_3 u14_4 u14_5  hm; exact absurd hm (Nat.not_lt_zero _)
            · intro n r_u14 ih_u14 a_1u14 a_2u14 a_3u14 a_4u14 a_5u14 a_6u14 Zu14 hIu14 hFu14 u14_0 u14_1 u14_2 u14_3 u14_4 u14_5  hmu14
              unfold g_Running_callWith_44_s
              refine ok.ite (fun c15 => ?_) (fun c15 => ?_)
              · skip
                refine ok.inc (by decide) (show _ ≤ a_5u14.toInt + (1) ∧ a_5u14.toInt + (1) ≤ _ from by omega) (fun x14 hx14 => ?_)
                have hx14 : x14.toInt = a_5u14.toInt + (1) := hx14
                exact ih_u5 a_1u14 a_2u14 a_3u14 a_4u14 x14 Zu14 hIu14 (Fr.rf.tr hFu14 (fun _ q => q)) (show 0 ≤ a_1u14.toInt ∧ a_1u14.toInt ≤ 20000 from by omega) (show 0 ≤ a_3u14.toInt ∧ a_3u14.toInt + a_1u14.toInt ≤ 20001 from by omega) (show 0 ≤ a_4u14.toInt ∧ a_4u14.toInt ≤ 20 from by omega) (show 0 ≤ x14.toInt ∧ x14.toInt ≤ 20 from by omega) (show (21 - x14.toInt).toNat < _ from by omega)
              · skip
                refine ok.add (show _ ≤ a_3u14.toInt + (1 : Int) ∧ a_3u14.toInt + (1 : Int) ≤ _ from by omega) (fun x15 hx15 => ?_)
                have hx15 : x15.toInt = a_3u14.toInt + (1 : Int) := hx15
                refine ok.add (show _ ≤ x15.toInt + a_6u14.toInt ∧ x15.toInt + a_6u14.toInt ≤ _ from by omega) (fun x16 hx16 => ?_)
                have hx16 : x16.toInt = x15.toInt + a_6u14.toInt := hx16
                refine ok.ck (show 0 ≤ a_5u14.toInt ∧ a_5u14.toInt < ((20 : Nat) : Int) from by omega) ?_
                refine ok.letE (v1 := (Zu14.1 85 (ix a_5u14))) rfl ?_
                have g16 : 0 ≤ (Zu14.1 85 (ix a_5u14)).toInt ∧ (Zu14.1 85 (ix a_5u14)).toInt ≤ 999 := hIu14.1 85 (ix a_5u14)
                refine ok.add (show _ ≤ a_3u14.toInt + (1 : Int) ∧ a_3u14.toInt + (1 : Int) ≤ _ from by omega) (fun x18 hx18 => ?_)
                have hx18 : x18.toInt = a_3u14.toInt + (1 : Int) := hx18
                refine ok.add (show _ ≤ x18.toInt + a_6u14.toInt ∧ x18.toInt + a_6u14.toInt ≤ _ from by omega) (fun x19 hx19 => ?_)
                have hx19 : x19.toInt = x18.toInt + a_6u14.toInt := hx19
                refine ok.ck (show 0 ≤ x19.toInt ∧ x19.toInt < ((20002 : Nat) : Int) from by omega) ?_
                refine ok.any (fun y20 => ?_)
                refine ok.bd (v_Running_askInto_N24 hIu14 ((hFu14.2.2 70 2 n14002_Qv22).trans hr70_2) (show 0 ≤ (Zu14.1 85 (ix a_5u14)).toInt ∧ (Zu14.1 85 (ix a_5u14)).toInt ≤ 999 from by omega)) ?_
                rintro y21 Z18 ⟨hFZ18, hIZ18⟩
                refine ok.ck (show 0 ≤ x16.toInt ∧ x16.toInt < ((20002 : Nat) : Int) from by omega) ?_
                refine ok.wL (L := [16800]) hIZ18 (show (16800 : Nat) ∈ [16800] from by decide) (fun Z19 hIZ19 hFZ19 heZ19 => ?_)
                refine ok.inc (by decide) (show _ ≤ a_6u14.toInt + (1) ∧ a_6u14.toInt + (1) ≤ _ from by omega) (fun x24 hx24 => ?_)
                have hx24 : x24.toInt = a_6u14.toInt + (1) := hx24
                exact ih_u14 a_1u14 a_2u14 a_3u14 a_4u14 a_5u14 x24 Z19 hIZ19 (((Fr.rf.tr hFu14 (fun _ q => q)).tr hFZ18 sQv19_Qv22).tr hFZ19 (by decide)) (show 0 ≤ a_1u14.toInt ∧ a_1u14.toInt ≤ 20000 from by omega) (show 0 ≤ a_3u14.toInt ∧ a_3u14.toInt + a_1u14.toInt ≤ 20001 from by omega) (show 0 ≤ a_4u14.toInt ∧ a_4u14.toInt ≤ 20 from by omega) (show 0 ≤ a_5u14.toInt ∧ a_5u14.toInt < a_4u14.toInt from by omega) (show a_5u14.toInt = a_5u5.toInt from by omega) (show 0 ≤ x24.toInt ∧ x24.toInt ≤ 20000 from by omega) (show (20001 - x24.toInt).toNat < _ from by omega)
          exact lpu14 BIG a_1u5 a_2u5 a_3u5 a_4u5 a_5u5 (0 : Int32) Zu5 hIu5 (Fr.rf.tr hFu5 (fun _ q => q)) (show 0 ≤ a_1u5.toInt ∧ a_1u5.toInt ≤ 20000 from by omega) (show 0 ≤ a_3u5.toInt ∧ a_3u5.toInt + a_1u5.toInt ≤ 20001 from by omega) (show 0 ≤ a_4u5.toInt ∧ a_4u5.toInt ≤ 20 from by omega) (show 0 ≤ a_5u5.toInt ∧ a_5u5.toInt < a_4u5.toInt from by omega) (show a_5u5.toInt = a_5u5.toInt from by omega) (show 0 ≤ (0 : Int) ∧ (0 : Int) ≤ 20000 from by omega) (show (20001 - (0 : Int)).toNat < BIG from ltBIG (show _ < 100000 from by omega))
    exact lpu5 BIG p1 p2 x3 x5 (0 : Int32) Z4 hIZ4 (Fr.rf.tr hFZ4 (by decide)) (show 0 ≤ p1.toInt ∧ p1.toInt ≤ 20000 from by omega) (show 0 ≤ x3.toInt ∧ x3.toInt + p1.toInt ≤ 20001 from by omega) (show 0 ≤ x5.toInt ∧ x5.toInt ≤ 20 from by omega) (show 0 ≤ (0 : Int) ∧ (0 : Int) ≤ 20 from by omega) (show (21 - (0 : Int)).toNat < BIG from ltBIG (show _ < 100000 from by omega))
  · skip
    refine ok.wI (L := [14004]) hI (show True from trivial) (show (14004 : Nat) ∈ [14004] from by decide) (by decide) (fun Z20 hIZ20 hFZ20 hkZ20 hoZ20 => ?_)
    exact ok.ret ⟨(Fr.rf.tr hFZ20 (by decide)), hIZ20⟩
set_option maxHeartbeats 4000000 in
theorem v_Running_leavePart_N24 {X : St} (hI : INV X) (hr70_2 : X.2.2 70 2 = 25) : ok (g_Running_leavePart X) (fun r Y => (Fr YC Qv23 X Y ∧ INV Y)) := by
  unfold g_Running_leavePart
  refine ok.bd (v_Running_pop hI) ?_
  rintro y1 Z2 ⟨hFZ2, hIZ2⟩
  refine ok.bd (v_Running_pop hIZ2) ?_
  rintro y3 Z4 ⟨hFZ4, hIZ4⟩
  refine ok.bd (v_Running_askOutward_N24 hIZ4 (((hFZ4.2.2 70 2 (show (14002 : Nat) ∉ [14015] from by decide)).trans (hFZ2.2.2 70 2 (show (14002 : Nat) ∉ [14015] from by decide))).trans hr70_2)) ?_
  rintro y5 Z6 ⟨hFZ6, hIZ6⟩
  refine ok.bd (v_Running_push hIZ6) ?_
  rintro r_7 Z9 ⟨hFZ9, hIZ9⟩
  refine ok.letE (v1 := (X.1 70 11)) ((((hFZ9.1 70 11 (show (14011 : Nat) ∉ [14015, 16800] from by decide)).trans (hFZ6.1 70 11 n14011_Qv18)).trans (hFZ4.1 70 11 (show (14011 : Nat) ∉ [14015] from by decide))).trans (hFZ2.1 70 11 (show (14011 : Nat) ∉ [14015] from by decide))) ?_
  have g10 : 0 ≤ (X.1 70 11).toInt ∧ (X.1 70 11).toInt ≤ 100 := hI.1 70 11
  refine ok.sub (show _ ≤ (X.1 70 11).toInt - (1 : Int) ∧ (X.1 70 11).toInt - (1 : Int) ≤ _ from by omega) (fun x9 hx9 => ?_)
  have hx9 : x9.toInt = (X.1 70 11).toInt - (1 : Int) := hx9
  refine ok.eqv (fun x10 hx10 => ?_)
  have hx10 : ((0 : Int) < x9.toInt ∧ x10.toInt = x9.toInt) ∨ (¬ ((0 : Int) < x9.toInt) ∧ x10.toInt = (0 : Int)) := by
    rw [hx10]
    by_cases gc : (0 : Int32) < x9
    · rw [if_pos gc]; exact Or.inl ⟨(Int32.lt_iff_toInt_lt.mp gc), rfl⟩
    · rw [if_neg gc]; exact Or.inr ⟨(fun z => gc (Int32.lt_iff_toInt_lt.mpr z)), rfl⟩
  refine ok.wI (L := [14011]) hIZ9 (show 0 ≤ x10.toInt ∧ x10.toInt ≤ 100 from by omega) (show (14011 : Nat) ∈ [14011] from by decide) (by decide) (fun Z11 hIZ11 hFZ11 hkZ11 hoZ11 => ?_)
  refine ok.letE (v1 := x10) hkZ11 ?_
  refine ok.ck (show 0 ≤ x10.toInt ∧ x10.toInt < ((100 : Nat) : Int) from by omega) ?_
  refine ok.letE (v1 := (X.1 82 (ix x10))) (((((hFZ11.1 82 (ix x10) (show (16400 : Nat) ∉ [14011] from by decide)).trans (hFZ9.1 82 (ix x10) (show (16400 : Nat) ∉ [14015, 16800] from by decide))).trans (hFZ6.1 82 (ix x10) n16400_Qv18)).trans (hFZ4.1 82 (ix x10) (show (16400 : Nat) ∉ [14015] from by decide))).trans (hFZ2.1 82 (ix x10) (show (16400 : Nat) ∉ [14015] from by decide))) ?_
  refine ok.wI (L := [14010]) hIZ11 (show True from trivial) (show (14010 : Nat) ∈ [14010] from by decide) (by decide) (fun Z12 hIZ12 hFZ12 hkZ12 hoZ12 => ?_)
  refine ok.letE (v1 := x10) ((hFZ12.1 70 11 (show (14011 : Nat) ∉ [14010] from by decide)).trans hkZ11) ?_
  refine ok.ite (fun c13 => ?_) (fun c13 => ?_)
  · skip
    refine ok.wI (L := [14004]) hIZ12 (show True from trivial) (show (14004 : Nat) ∈ [14004] from by decide) (by decide) (fun Z14 hIZ14 hFZ14 hkZ14 hoZ14 => ?_)
    exact ok.ret ⟨(((((((Fr.rf.tr hFZ2 (by decide)).tr hFZ4 (by decide)).tr hFZ6 sQv18_Qv23).tr hFZ9 (by decide)).tr hFZ11 (by decide)).tr hFZ12 (by decide)).tr hFZ14 (by decide)), hIZ14⟩
  · skip
    exact ok.ret ⟨((((((Fr.rf.tr hFZ2 (by decide)).tr hFZ4 (by decide)).tr hFZ6 sQv18_Qv23).tr hFZ9 (by decide)).tr hFZ11 (by decide)).tr hFZ12 (by decide)), hIZ12⟩
set_option maxHeartbeats 4000000 in
theorem v_Running_workRowOrCall_N24 {p1 : Int32} {p2 : Int32} {p3 : Int32} {X : St} (hI : INV X) (hr70_2 : X.2.2 70 2 = 25) (h0 : 10 ≤ p1.toInt ∧ p1.toInt ≤ 17) (h1 : (p1.toInt = 10 ∨ p1.toInt = 16) → 0 ≤ p2.toInt ∧ p2.toInt ≤ 20000) : ok (g_Running_workRowOrCall p1 p2 p3 X) (fun r Y => (Fr YC Qv14 X Y ∧ INV Y)) := by
  unfold g_Running_workRowOrCall
  refine ok.ite (fun c1 => ?_) (fun c1 => ?_)
  · skip
    refine ok.bd (v_Running_makeRow hI (show 0 ≤ p2.toInt ∧ p2.toInt ≤ 20000 from by omega)) ?_
    rintro r_2 Z4 ⟨hFZ4, hIZ4⟩
    exact ok.ret ⟨(Fr.rf.tr hFZ4 sQv15_Qv14), hIZ4⟩
  · skip
    refine ok.ite (fun c5 => ?_) (fun c5 => ?_)
    · skip
      refine ok.bd (v_Running_makeNew hI) ?_
      rintro r_6 Z8 ⟨hFZ8, hIZ8⟩
      exact ok.ret ⟨(Fr.rf.tr hFZ8 sQv15_Qv14), hIZ8⟩
    · skip
      refine ok.ite (fun c9 => ?_) (fun c9 => ?_)
      · skip
        refine ok.bd (v_Running_pop hI) ?_
        rintro y6 Z11 ⟨hFZ11, hIZ11⟩
        refine ok.bd (v_Heap_core hIZ11) ?_
        rintro y8 _ rfl
        refine ok.bd (v_Heap_lengthOf hIZ11) ?_
        rintro x10 _ rfl
        refine ok.eqv (fun x12 hx12 => ?_)
        have hx12 : ((0 : Int) < x10.toInt ∧ x12.toInt = x10.toInt) ∨ (¬ ((0 : Int) < x10.toInt) ∧ x12.toInt = (0 : Int)) := by
          rw [hx12]
          by_cases gc : (0 : Int32) < x10
          · rw [if_pos gc]; exact Or.inl ⟨(Int32.lt_iff_toInt_lt.mp gc), rfl⟩
          · rw [if_neg gc]; exact Or.inr ⟨(fun z => gc (Int32.lt_iff_toInt_lt.mpr z)), rfl⟩
        refine ok.bd (v_Running_pushNumber hIZ11) ?_
        rintro r_14 Z16 ⟨hFZ16, hIZ16⟩
        exact ok.ret ⟨((Fr.rf.tr hFZ11 (by decide)).tr hFZ16 (by decide)), hIZ16⟩
      · skip
        refine ok.ite (fun c17 => ?_) (fun c17 => ?_)
        · skip
          refine ok.bd (v_Running_print hI) ?_
          rintro r_18 Z20 ⟨hFZ20, hIZ20⟩
          exact ok.ret ⟨(Fr.rf.tr hFZ20 sQv16_Qv14), hIZ20⟩
        · skip
          refine ok.ite (fun c21 => ?_) (fun c21 => ?_)
          · skip
            refine ok.bd (v_Running_fetch_N24 hI hr70_2) ?_
            rintro r_22 Z24 ⟨hFZ24, hIZ24⟩
            exact ok.ret ⟨(Fr.rf.tr hFZ24 sQv17_Qv14), hIZ24⟩
          · skip
            refine ok.ite (fun c25 => ?_) (fun c25 => ?_)
            · skip
              refine ok.bd (v_Running_store_N24 hI hr70_2) ?_
              rintro r_26 Z28 ⟨hFZ28, hIZ28⟩
              exact ok.ret ⟨(Fr.rf.tr hFZ28 sQv21_Qv14), hIZ28⟩
            · skip
              refine ok.ite (fun c29 => ?_) (fun c29 => ?_)
              · skip
                refine ok.bd (v_Running_callWith_N24 hI hr70_2 (show 0 ≤ p2.toInt ∧ p2.toInt ≤ 20000 from by omega)) ?_
                rintro r_30 Z32 ⟨hFZ32, hIZ32⟩
                exact ok.ret ⟨(Fr.rf.tr hFZ32 sQv22_Qv14), hIZ32⟩
              · skip
                refine ok.bd (v_Running_leavePart_N24 hI hr70_2) ?_
                rintro r_33 Z35 ⟨hFZ35, hIZ35⟩
                exact ok.ret ⟨(Fr.rf.tr hFZ35 sQv23_Qv14), hIZ35⟩
set_option maxHeartbeats 4000000 in
theorem v_Running_askUntold_N24 {p1 : Int32} {p2 : Int32} {p3 : Int32} {X : St} (hI : INV X) (hr70_2 : X.2.2 70 2 = 25) : ok (g_Running_askUntold p1 p2 p3 X) (fun r Y => (Fr YC [14004, 14005, 14006] X Y ∧ INV Y)) := by
  unfold g_Running_askUntold
  refine ok.bd (v_Running_sortAskedBy hI) ?_
  rintro x1 _ rfl
  refine ok.ite (fun c2 => ?_) (fun c2 => ?_)
  · skip
    have g3 := i32_le x1
    exact ok.ret ⟨(Fr.rf : Fr YC [14004, 14005, 14006] _ _), hI⟩
  · skip
    refine ok.letE (v1 := (X.1 70 15)) rfl ?_
    have g4 : 0 ≤ (X.1 70 15).toInt ∧ (X.1 70 15).toInt ≤ 20002 := hI.1 70 15
    refine ok.ite (fun c5 => ?_) (fun c5 => ?_)
    · skip
      exact ok.ret ⟨(Fr.rf : Fr YC [14004, 14005, 14006] _ _), hI⟩
    · skip
      refine ok.letE (v1 := (X.1 70 15)) rfl ?_
      refine ok.sub (show _ ≤ (X.1 70 15).toInt - (1 : Int) ∧ (X.1 70 15).toInt - (1 : Int) ≤ _ from by omega) (fun x5 hx5 => ?_)
      have hx5 : x5.toInt = (X.1 70 15).toInt - (1 : Int) := hx5
      refine ok.ck (show 0 ≤ x5.toInt ∧ x5.toInt < ((20002 : Nat) : Int) from by omega) ?_
      refine ok.any (fun y6 => ?_)
      refine ok.bd (v_Running_isSuch_N24 hI hr70_2) ?_
      rintro x7 _ rfl
      refine ok.ite (fun c7 => ?_) (fun c7 => ?_)
      · skip
        have g8 := i32_le x7
        refine ok.bd (v_Running_failWith hI) ?_
        rintro r_9 Z11 ⟨hFZ11, hIZ11⟩
        exact ok.ret ⟨(Fr.rf.tr hFZ11 (fun _ q => q)), hIZ11⟩
      · skip
        exact ok.ret ⟨(Fr.rf : Fr YC [14004, 14005, 14006] _ _), hI⟩
set_option maxHeartbeats 4000000 in
theorem v_Running_workAsking_N24 {p1 : Int32} {X : St} (hI : INV X) (hr70_0 : X.2.2 70 0 = 56) (hr70_2 : X.2.2 70 2 = 25) (h0 : 0 ≤ p1.toInt ∧ p1.toInt ≤ 9079) : ok (g_Running_workAsking p1 X) (fun r Y => (Fr YC Qv24 X Y ∧ INV Y)) := by
  unfold g_Running_workAsking
  refine ok.letE (v1 := (X.1 70 3)) rfl ?_
  refine ok.ite (fun c1 => ?_) (fun c1 => ?_)
  · skip
    have g2 := i32_le (X.1 70 3)
    refine ok.ck (by rw [hr70_2]; decide) ?_
    refine ok.letE (v1 := 24) (by rw [hr70_2]) ?_
    refine ok.letE (v1 := 42) (by decide) ?_
    refine ok.ck (show 0 ≤ p1.toInt ∧ p1.toInt < ((9080 : Nat) : Int) from by omega) ?_
    refine ok.letE (v1 := (X.1 42 (ix p1))) rfl ?_
    have g3 : 0 ≤ (X.1 42 (ix p1)).toInt ∧ (X.1 42 (ix p1)).toInt ≤ 36 := hI.1 42 (ix p1)
    refine ok.ck (by rw [hr70_2]; decide) ?_
    refine ok.letE (v1 := 24) (by rw [hr70_2]) ?_
    refine ok.letE (v1 := 43) (by decide) ?_
    refine ok.ck (show 0 ≤ p1.toInt ∧ p1.toInt < ((9080 : Nat) : Int) from by omega) ?_
    refine ok.letE (v1 := (X.1 43 (ix p1))) rfl ?_
    refine ok.ck (by rw [hr70_2]; decide) ?_
    refine ok.letE (v1 := 24) (by rw [hr70_2]) ?_
    refine ok.letE (v1 := 45) (by decide) ?_
    refine ok.ck (show 0 ≤ p1.toInt ∧ p1.toInt < ((9080 : Nat) : Int) from by omega) ?_
    refine ok.letE (v1 := (X.1 45 (ix p1))) rfl ?_
    have g4 : 0 ≤ (X.1 45 (ix p1)).toInt ∧ (X.1 45 (ix p1)).toInt ≤ 3000 := hI.1 45 (ix p1)
    refine ok.bd (v_Running_askUntold_N24 hI hr70_2) ?_
    rintro r_5 Z7 ⟨hFZ7, hIZ7⟩
    exact ok.ret ⟨(Fr.rf.tr hFZ7 (by decide)), hIZ7⟩
  · skip
    refine ok.ck (by rw [hr70_2]; decide) ?_
    refine ok.letE (v1 := 24) (by rw [hr70_2]) ?_
    refine ok.letE (v1 := 44) (by decide) ?_
    refine ok.ck (show 0 ≤ p1.toInt ∧ p1.toInt < ((9080 : Nat) : Int) from by omega) ?_
    refine ok.letE (v1 := (X.1 44 (ix p1))) rfl ?_
    refine ok.ite (fun c8 => ?_) (fun c8 => ?_)
    · skip
      have g9 := i32_le (X.1 44 (ix p1))
      exact ok.ret ⟨(Fr.rf : Fr YC Qv24 _ _), hI⟩
    · skip
      have g10 := i32_le (X.1 44 (ix p1))
      refine ok.ck hr70_0 ?_
      refine ok.letE (v1 := (X.1 55 5)) rfl ?_
      have g11 : 0 ≤ (X.1 55 5).toInt ∧ (X.1 55 5).toInt ≤ 3000 := hI.1 55 5
      refine ok.ite (fun c12 => ?_) (fun c12 => ?_)
      · skip
        exact ok.ret ⟨(Fr.rf : Fr YC Qv24 _ _), hI⟩
      · skip
        refine ok.bd (v_Running_pop hI) ?_
        rintro y6 Z14 ⟨hFZ14, hIZ14⟩
        refine ok.ck ((hFZ14.2.2 70 0 (show (14000 : Nat) ∉ [14015] from by decide)).trans hr70_0) ?_
        refine ok.ck (show 0 ≤ (X.1 44 (ix p1)).toInt ∧ (X.1 44 (ix p1)).toInt < ((3000 : Nat) : Int) from by omega) ?_
        refine ok.letE (v1 := (X.1 59 (ix (X.1 44 (ix p1))))) (hFZ14.1 59 (ix (X.1 44 (ix p1))) (show (11800 : Nat) ∉ [14015] from by decide)) ?_
        refine ok.ck ((hFZ14.2.2 70 0 (show (14000 : Nat) ∉ [14015] from by decide)).trans hr70_0) ?_
        refine ok.ck (show 0 ≤ (X.1 44 (ix p1)).toInt ∧ (X.1 44 (ix p1)).toInt < ((3000 : Nat) : Int) from by omega) ?_
        refine ok.letE (v1 := (X.1 60 (ix (X.1 44 (ix p1))))) (hFZ14.1 60 (ix (X.1 44 (ix p1))) (show (12000 : Nat) ∉ [14015] from by decide)) ?_
        refine ok.ck ((hFZ14.2.2 70 0 (show (14000 : Nat) ∉ [14015] from by decide)).trans hr70_0) ?_
        refine ok.ck (show 0 ≤ (X.1 44 (ix p1)).toInt ∧ (X.1 44 (ix p1)).toInt < ((3000 : Nat) : Int) from by omega) ?_
        refine ok.letE (v1 := (X.1 57 (ix (X.1 44 (ix p1))))) (hFZ14.1 57 (ix (X.1 44 (ix p1))) (show (11400 : Nat) ∉ [14015] from by decide)) ?_
        refine ok.ck ((hFZ14.2.2 70 0 (show (14000 : Nat) ∉ [14015] from by decide)).trans hr70_0) ?_
        refine ok.ck (show 0 ≤ (X.1 44 (ix p1)).toInt ∧ (X.1 44 (ix p1)).toInt < ((3000 : Nat) : Int) from by omega) ?_
        refine ok.letE (v1 := (X.1 58 (ix (X.1 44 (ix p1))))) (hFZ14.1 58 (ix (X.1 44 (ix p1))) (show (11600 : Nat) ∉ [14015] from by decide)) ?_
        refine ok.ck ((hFZ14.2.2 70 0 (show (14000 : Nat) ∉ [14015] from by decide)).trans hr70_0) ?_
        refine ok.ck (show 0 ≤ (X.1 44 (ix p1)).toInt ∧ (X.1 44 (ix p1)).toInt < ((3000 : Nat) : Int) from by omega) ?_
        refine ok.letE (v1 := (X.1 56 (ix (X.1 44 (ix p1))))) (hFZ14.1 56 (ix (X.1 44 (ix p1))) (show (11200 : Nat) ∉ [14015] from by decide)) ?_
        refine ok.bd (v_Running_ask_N24 hIZ14 ((hFZ14.2.2 70 2 (show (14002 : Nat) ∉ [14015] from by decide)).trans hr70_2)) ?_
        rintro y13 Z16 ⟨hFZ16, hIZ16⟩
        refine ok.bd (v_Running_push hIZ16) ?_
        rintro r_17 Z19 ⟨hFZ19, hIZ19⟩
        exact ok.ret ⟨(((Fr.rf.tr hFZ14 (by decide)).tr hFZ16 sQv19_Qv24).tr hFZ19 (by decide)), hIZ19⟩
set_option maxHeartbeats 4000000 in
theorem v_Running_runAll_24_55 {p3 : Int32} {p4 : Int32} {X : St} (hI : INV X) (h0 : p3.toInt = 0 ∨ p3.toInt = 1) (hP : PGC 24 42 43 41 X) : ok (g_Running_runAll 24 55 p3 p4 X) (fun r Y => (Fr YC Qv11 X Y ∧ INV Y)) := by
  unfold g_Running_runAll
  refine ok.wR (L := [14002]) hI (show (14002 : Nat) ∈ [14002] from by decide) (fun Z1 hIZ1 hFZ1 heZ1 hRZ1 => ?_)
  refine ok.wR (L := [14000]) hIZ1 (show (14000 : Nat) ∈ [14000] from by decide) (fun Z2 hIZ2 hFZ2 heZ2 hRZ2 => ?_)
  refine ok.ck (show p3.toInt = 0 ∨ p3.toInt = 1 from by omega) ?_
  refine ok.wI (L := [14003]) hIZ2 (show True from trivial) (show (14003 : Nat) ∈ [14003] from by decide) (by decide) (fun Z3 hIZ3 hFZ3 hkZ3 hoZ3 => ?_)
  refine ok.wI (L := [14008]) hIZ3 (show True from trivial) (show (14008 : Nat) ∈ [14008] from by decide) (by decide) (fun Z4 hIZ4 hFZ4 hkZ4 hoZ4 => ?_)
  refine ok.bd (v_Heap_clear hIZ4) ?_
  rintro r_5 Z7 ⟨hFZ7, hIZ7⟩
  refine ok.bd (v_JArrays_fill_87 hIZ7) ?_
  rintro r_8 Z10 ⟨hFZ10, hIZ10⟩
  refine ok.wI (L := [14005]) hIZ10 (show True from trivial) (show (14005 : Nat) ∈ [14005] from by decide) (by decide) (fun Z11 hIZ11 hFZ11 hkZ11 hoZ11 => ?_)
  refine ok.wI (L := [14006]) hIZ11 (show True from trivial) (show (14006 : Nat) ∈ [14006] from by decide) (by decide) (fun Z12 hIZ12 hFZ12 hkZ12 hoZ12 => ?_)
  refine ok.wI (L := [14007]) hIZ12 (show True from trivial) (show (14007 : Nat) ∈ [14007] from by decide) (by decide) (fun Z13 hIZ13 hFZ13 hkZ13 hoZ13 => ?_)
  refine ok.wI (L := [14009]) hIZ13 (show True from trivial) (show (14009 : Nat) ∈ [14009] from by decide) (by decide) (fun Z14 hIZ14 hFZ14 hkZ14 hoZ14 => ?_)
  refine ok.wI (L := [14011]) hIZ14 (show 0 ≤ (0 : Int) ∧ (0 : Int) ≤ 100 from by omega) (show (14011 : Nat) ∈ [14011] from by decide) (by decide) (fun Z15 hIZ15 hFZ15 hkZ15 hoZ15 => ?_)
  refine ok.wI (L := [14015]) hIZ15 (show 0 ≤ (0 : Int) ∧ (0 : Int) ≤ 20002 from by omega) (show (14015 : Nat) ∈ [14015] from by decide) (by decide) (fun Z16 hIZ16 hFZ16 hkZ16 hoZ16 => ?_)
  refine ok.wI (L := [14018]) hIZ16 (show 0 ≤ (0 : Int) ∧ (0 : Int) ≤ 200 from by omega) (show (14018 : Nat) ∈ [14018] from by decide) (by decide) (fun Z17 hIZ17 hFZ17 hkZ17 hoZ17 => ?_)
  refine ok.wI (L := [14010]) hIZ17 (show True from trivial) (show (14010 : Nat) ∈ [14010] from by decide) (by decide) (fun Z18 hIZ18 hFZ18 hkZ18 hoZ18 => ?_)
  refine ok.wI (L := [14004]) hIZ18 (show True from trivial) (show (14004 : Nat) ∈ [14004] from by decide) (by decide) (fun Z19 hIZ19 hFZ19 hkZ19 hoZ19 => ?_)
  refine ok.ck (by rw [(((((((((((((((hFZ19.2.2 70 2 (show (14002 : Nat) ∉ [14004] from by decide)).trans (hFZ18.2.2 70 2 (show (14002 : Nat) ∉ [14010] from by decide))).trans (hFZ17.2.2 70 2 (show (14002 : Nat) ∉ [14018] from by decide))).trans (hFZ16.2.2 70 2 (show (14002 : Nat) ∉ [14015] from by decide))).trans (hFZ15.2.2 70 2 (show (14002 : Nat) ∉ [14011] from by decide))).trans (hFZ14.2.2 70 2 (show (14002 : Nat) ∉ [14009] from by decide))).trans (hFZ13.2.2 70 2 (show (14002 : Nat) ∉ [14007] from by decide))).trans (hFZ12.2.2 70 2 (show (14002 : Nat) ∉ [14006] from by decide))).trans (hFZ11.2.2 70 2 (show (14002 : Nat) ∉ [14005] from by decide))).trans (hFZ10.2.2 70 2 (show (14002 : Nat) ∉ [17400] from by decide))).trans (hFZ7.2.2 70 2 (show (14002 : Nat) ∉ [14200, 14201, 14202] from by decide))).trans (hFZ4.2.2 70 2 (show (14002 : Nat) ∉ [14008] from by decide))).trans (hFZ3.2.2 70 2 (show (14002 : Nat) ∉ [14003] from by decide))).trans (hFZ2.2.2 70 2 (show (14002 : Nat) ∉ [14000] from by decide))).trans hRZ1)]; decide) ?_
  refine ok.letE (v1 := 24) (by rw [(((((((((((((((hFZ19.2.2 70 2 (show (14002 : Nat) ∉ [14004] from by decide)).trans (hFZ18.2.2 70 2 (show (14002 : Nat) ∉ [14010] from by decide))).trans (hFZ17.2.2 70 2 (show (14002 : Nat) ∉ [14018] from by decide))).trans (hFZ16.2.2 70 2 (show (14002 : Nat) ∉ [14015] from by decide))).trans (hFZ15.2.2 70 2 (show (14002 : Nat) ∉ [14011] from by decide))).trans (hFZ14.2.2 70 2 (show (14002 : Nat) ∉ [14009] from by decide))).trans (hFZ13.2.2 70 2 (show (14002 : Nat) ∉ [14007] from by decide))).trans (hFZ12.2.2 70 2 (show (14002 : Nat) ∉ [14006] from by decide))).trans (hFZ11.2.2 70 2 (show (14002 : Nat) ∉ [14005] from by decide))).trans (hFZ10.2.2 70 2 (show (14002 : Nat) ∉ [17400] from by decide))).trans (hFZ7.2.2 70 2 (show (14002 : Nat) ∉ [14200, 14201, 14202] from by decide))).trans (hFZ4.2.2 70 2 (show (14002 : Nat) ∉ [14008] from by decide))).trans (hFZ3.2.2 70 2 (show (14002 : Nat) ∉ [14003] from by decide))).trans (hFZ2.2.2 70 2 (show (14002 : Nat) ∉ [14000] from by decide))).trans hRZ1)]) ?_
  refine ok.letE (v1 := (X.1 24 2)) (((((((((((((((hFZ19.1 24 2 (show (4802 : Nat) ∉ [14004] from by decide)).trans (hFZ18.1 24 2 (show (4802 : Nat) ∉ [14010] from by decide))).trans (hFZ17.1 24 2 (show (4802 : Nat) ∉ [14018] from by decide))).trans (hFZ16.1 24 2 (show (4802 : Nat) ∉ [14015] from by decide))).trans (hFZ15.1 24 2 (show (4802 : Nat) ∉ [14011] from by decide))).trans (hFZ14.1 24 2 (show (4802 : Nat) ∉ [14009] from by decide))).trans (hFZ13.1 24 2 (show (4802 : Nat) ∉ [14007] from by decide))).trans (hFZ12.1 24 2 (show (4802 : Nat) ∉ [14006] from by decide))).trans (hFZ11.1 24 2 (show (4802 : Nat) ∉ [14005] from by decide))).trans (hFZ10.1 24 2 (show (4802 : Nat) ∉ [17400] from by decide))).trans (hFZ7.1 24 2 (show (4802 : Nat) ∉ [14200, 14201, 14202] from by decide))).trans (hFZ4.1 24 2 (show (4802 : Nat) ∉ [14008] from by decide))).trans (hFZ3.1 24 2 (show (4802 : Nat) ∉ [14003] from by decide))).trans (congrFun (congrFun heZ2 24) 2)).trans (congrFun (congrFun heZ1 24) 2)) ?_
  have g20 : -1 ≤ (X.1 24 2).toInt ∧ (X.1 24 2).toInt ≤ 39 := hI.1 24 2
  refine ok.bd (v_Heap_valueOf hIZ19) ?_
  rintro y18 _ rfl
  refine ok.bd (v_Running_push hIZ19) ?_
  rintro r_22 Z24 ⟨hFZ24, hIZ24⟩
  refine ok.ck (by rw [((((((((((((((((hFZ24.2.2 70 2 (show (14002 : Nat) ∉ [14015, 16800] from by decide)).trans (hFZ19.2.2 70 2 (show (14002 : Nat) ∉ [14004] from by decide))).trans (hFZ18.2.2 70 2 (show (14002 : Nat) ∉ [14010] from by decide))).trans (hFZ17.2.2 70 2 (show (14002 : Nat) ∉ [14018] from by decide))).trans (hFZ16.2.2 70 2 (show (14002 : Nat) ∉ [14015] from by decide))).trans (hFZ15.2.2 70 2 (show (14002 : Nat) ∉ [14011] from by decide))).trans (hFZ14.2.2 70 2 (show (14002 : Nat) ∉ [14009] from by decide))).trans (hFZ13.2.2 70 2 (show (14002 : Nat) ∉ [14007] from by decide))).trans (hFZ12.2.2 70 2 (show (14002 : Nat) ∉ [14006] from by decide))).trans (hFZ11.2.2 70 2 (show (14002 : Nat) ∉ [14005] from by decide))).trans (hFZ10.2.2 70 2 (show (14002 : Nat) ∉ [17400] from by decide))).trans (hFZ7.2.2 70 2 (show (14002 : Nat) ∉ [14200, 14201, 14202] from by decide))).trans (hFZ4.2.2 70 2 (show (14002 : Nat) ∉ [14008] from by decide))).trans (hFZ3.2.2 70 2 (show (14002 : Nat) ∉ [14003] from by decide))).trans (hFZ2.2.2 70 2 (show (14002 : Nat) ∉ [14000] from by decide))).trans hRZ1)]; decide) ?_
  refine ok.letE (v1 := 24) (by rw [((((((((((((((((hFZ24.2.2 70 2 (show (14002 : Nat) ∉ [14015, 16800] from by decide)).trans (hFZ19.2.2 70 2 (show (14002 : Nat) ∉ [14004] from by decide))).trans (hFZ18.2.2 70 2 (show (14002 : Nat) ∉ [14010] from by decide))).trans (hFZ17.2.2 70 2 (show (14002 : Nat) ∉ [14018] from by decide))).trans (hFZ16.2.2 70 2 (show (14002 : Nat) ∉ [14015] from by decide))).trans (hFZ15.2.2 70 2 (show (14002 : Nat) ∉ [14011] from by decide))).trans (hFZ14.2.2 70 2 (show (14002 : Nat) ∉ [14009] from by decide))).trans (hFZ13.2.2 70 2 (show (14002 : Nat) ∉ [14007] from by decide))).trans (hFZ12.2.2 70 2 (show (14002 : Nat) ∉ [14006] from by decide))).trans (hFZ11.2.2 70 2 (show (14002 : Nat) ∉ [14005] from by decide))).trans (hFZ10.2.2 70 2 (show (14002 : Nat) ∉ [17400] from by decide))).trans (hFZ7.2.2 70 2 (show (14002 : Nat) ∉ [14200, 14201, 14202] from by decide))).trans (hFZ4.2.2 70 2 (show (14002 : Nat) ∉ [14008] from by decide))).trans (hFZ3.2.2 70 2 (show (14002 : Nat) ∉ [14003] from by decide))).trans (hFZ2.2.2 70 2 (show (14002 : Nat) ∉ [14000] from by decide))).trans hRZ1)]) ?_
  refine ok.letE (v1 := (X.1 24 2)) ((((((((((((((((hFZ24.1 24 2 (show (4802 : Nat) ∉ [14015, 16800] from by decide)).trans (hFZ19.1 24 2 (show (4802 : Nat) ∉ [14004] from by decide))).trans (hFZ18.1 24 2 (show (4802 : Nat) ∉ [14010] from by decide))).trans (hFZ17.1 24 2 (show (4802 : Nat) ∉ [14018] from by decide))).trans (hFZ16.1 24 2 (show (4802 : Nat) ∉ [14015] from by decide))).trans (hFZ15.1 24 2 (show (4802 : Nat) ∉ [14011] from by decide))).trans (hFZ14.1 24 2 (show (4802 : Nat) ∉ [14009] from by decide))).trans (hFZ13.1 24 2 (show (4802 : Nat) ∉ [14007] from by decide))).trans (hFZ12.1 24 2 (show (4802 : Nat) ∉ [14006] from by decide))).trans (hFZ11.1 24 2 (show (4802 : Nat) ∉ [14005] from by decide))).trans (hFZ10.1 24 2 (show (4802 : Nat) ∉ [17400] from by decide))).trans (hFZ7.1 24 2 (show (4802 : Nat) ∉ [14200, 14201, 14202] from by decide))).trans (hFZ4.1 24 2 (show (4802 : Nat) ∉ [14008] from by decide))).trans (hFZ3.1 24 2 (show (4802 : Nat) ∉ [14003] from by decide))).trans (congrFun (congrFun heZ2 24) 2)).trans (congrFun (congrFun heZ1 24) 2)) ?_
  refine ok.bd (v_Running_enterPart_N24 hIZ24 ((((((((((((((((hFZ24.2.2 70 2 (show (14002 : Nat) ∉ [14015, 16800] from by decide)).trans (hFZ19.2.2 70 2 (show (14002 : Nat) ∉ [14004] from by decide))).trans (hFZ18.2.2 70 2 (show (14002 : Nat) ∉ [14010] from by decide))).trans (hFZ17.2.2 70 2 (show (14002 : Nat) ∉ [14018] from by decide))).trans (hFZ16.2.2 70 2 (show (14002 : Nat) ∉ [14015] from by decide))).trans (hFZ15.2.2 70 2 (show (14002 : Nat) ∉ [14011] from by decide))).trans (hFZ14.2.2 70 2 (show (14002 : Nat) ∉ [14009] from by decide))).trans (hFZ13.2.2 70 2 (show (14002 : Nat) ∉ [14007] from by decide))).trans (hFZ12.2.2 70 2 (show (14002 : Nat) ∉ [14006] from by decide))).trans (hFZ11.2.2 70 2 (show (14002 : Nat) ∉ [14005] from by decide))).trans (hFZ10.2.2 70 2 (show (14002 : Nat) ∉ [17400] from by decide))).trans (hFZ7.2.2 70 2 (show (14002 : Nat) ∉ [14200, 14201, 14202] from by decide))).trans (hFZ4.2.2 70 2 (show (14002 : Nat) ∉ [14008] from by decide))).trans (hFZ3.2.2 70 2 (show (14002 : Nat) ∉ [14003] from by decide))).trans (hFZ2.2.2 70 2 (show (14002 : Nat) ∉ [14000] from by decide))).trans hRZ1) (show 0 ≤ (0 : Int) ∧ (0 : Int) ≤ 20002 from by omega)) ?_
  rintro r_25 Z27 ⟨hFZ27, hIZ27⟩
  have lpu28 : ∀ (n : Nat), ∀ (a_5u28 : Int32) (Zu28 : St), INV Zu28 → Fr YC Qv11 X Zu28 → (0 ≤ a_5u28.toInt ∧ a_5u28.toInt ≤ 1000000) → Zu28.2.2 70 0 = 56 → Zu28.2.2 70 2 = 25 → (1000001 - a_5u28.toInt).toNat < n → ok (g_Running_runAll_122 n a_5u28 Zu28) (fun r Y => (Fr YC Qv11 X Y ∧ INV Y)) := by
    intro n
    unfold g_Running_runAll_122
    refine lp_indN (P := fun (n : Nat) (r_u28 : Int32 → St → Option (Int32 × St)) => ∀ (a_5u28 : Int32) (Zu28 : St), INV Zu28 → Fr YC Qv11 X Zu28 → (0 ≤ a_5u28.toInt ∧ a_5u28.toInt ≤ 1000000) → Zu28.2.2 70 0 = 56 → Zu28.2.2 70 2 = 25 → (1000001 - a_5u28.toInt).toNat < n → ok (r_u28 a_5u28 Zu28) (fun r Y => (Fr YC Qv11 X Y ∧ INV Y))) ?_ ?_ n
    · intro a_5u28 Zu28 hIu28 hFu28 u28_0 u28x0 u28x1 hm; exact absurd hm (Nat.not_lt_zero _)
    · intro n r_u28 ih_u28 a_5u28 Zu28 hIu28 hFu28 u28_0 u28x0 u28x1 hmu28
      unfold g_Running_runAll_122_s
      refine ok.ite (fun c29 => ?_) (fun c29 => ?_)
      · skip
        refine ok.letE (v1 := (Zu28.1 70 5)) rfl ?_
        exact ok.ret ⟨(Fr.rf.tr hFu28 (fun _ q => q)), hIu28⟩
      · skip
        refine ok.letE (v1 := (Zu28.1 70 4)) rfl ?_
        refine ok.ite (fun c30 => ?_) (fun c30 => ?_)
        · skip
          have g31 := i32_le (Zu28.1 70 4)
          refine ok.letE (v1 := (Zu28.1 70 5)) rfl ?_
          exact ok.ret ⟨(Fr.rf.tr hFu28 (fun _ q => q)), hIu28⟩
        · skip
          refine ok.letE (v1 := (Zu28.1 70 10)) rfl ?_
          refine ok.ite (fun c32 => ?_) (fun c32 => ?_)
          · skip
            have g33 := i32_le (Zu28.1 70 10)
            refine ok.letE (v1 := (Zu28.1 70 5)) rfl ?_
            exact ok.ret ⟨(Fr.rf.tr hFu28 (fun _ q => q)), hIu28⟩
          · skip
            have g34 := i32_le (Zu28.1 70 10)
            refine ok.letE (v1 := (Zu28.1 70 10)) rfl ?_
            refine ok.ck (by rw [u28x1]; decide) ?_
            refine ok.letE (v1 := 24) (by rw [u28x1]) ?_
            refine ok.letE (v1 := (X.1 24 6)) (hFu28.1 24 6 n4806_Qv11) ?_
            have g35 : 0 ≤ (X.1 24 6).toInt ∧ (X.1 24 6).toInt ≤ 9080 := hI.1 24 6
            refine ok.ite (fun c36 => ?_) (fun c36 => ?_)
            · skip
              refine ok.letE (v1 := (Zu28.1 70 5)) rfl ?_
              exact ok.ret ⟨(Fr.rf.tr hFu28 (fun _ q => q)), hIu28⟩
            · skip
              refine ok.letE (v1 := (Zu28.1 70 10)) rfl ?_
              refine ok.letE (v1 := (Zu28.1 70 10)) rfl ?_
              refine ok.add (show _ ≤ (Zu28.1 70 10).toInt + (1 : Int) ∧ (Zu28.1 70 10).toInt + (1 : Int) ≤ _ from by omega) (fun x35 hx35 => ?_)
              have hx35 : x35.toInt = (Zu28.1 70 10).toInt + (1 : Int) := hx35
              refine ok.wI (L := [14010]) hIu28 (show True from trivial) (show (14010 : Nat) ∈ [14010] from by decide) (by decide) (fun Z37 hIZ37 hFZ37 hkZ37 hoZ37 => ?_)
              refine ok.ck (by rw [((hFZ37.2.2 70 2 (show (14002 : Nat) ∉ [14010] from by decide)).trans u28x1)]; decide) ?_
              refine ok.letE (v1 := 24) (by rw [((hFZ37.2.2 70 2 (show (14002 : Nat) ∉ [14010] from by decide)).trans u28x1)]) ?_
              refine ok.letE (v1 := 42) (by decide) ?_
              refine ok.ck (show 0 ≤ (Zu28.1 70 10).toInt ∧ (Zu28.1 70 10).toInt < ((9080 : Nat) : Int) from by omega) ?_
              refine ok.letE (v1 := (X.1 42 (ix (Zu28.1 70 10)))) ((hFZ37.1 42 (ix (Zu28.1 70 10)) (show (8400 : Nat) ∉ [14010] from by decide)).trans (hFu28.1 42 (ix (Zu28.1 70 10)) n8400_Qv11)) ?_
              have g38 : 0 ≤ (X.1 42 (ix (Zu28.1 70 10))).toInt ∧ (X.1 42 (ix (Zu28.1 70 10))).toInt ≤ 36 := hI.1 42 (ix (Zu28.1 70 10))
              have ehq39 := ixc (z := (Zu28.1 70 10)) (by omega)
              have := (show 0 ≤ (X.1 24 6).toInt ∧ (X.1 24 6).toInt ≤ 9080 from hI.1 24 6)
              have := (show 0 ≤ (X.1 24 1).toInt ∧ (X.1 24 1).toInt ≤ 40 from hI.1 24 1)
              have hq39 := hP.1 (ix (Zu28.1 70 10)) (by omega)
              refine ok.ite (fun c40 => ?_) (fun c40 => ?_)
              · skip
                refine ok.ite (fun c41 => ?_) (fun c41 => ?_)
                · skip
                  refine ok.ite (fun c42 => ?_) (fun c42 => ?_)
                  · skip
                    refine ok.ck (by rw [((hFZ37.2.2 70 2 (show (14002 : Nat) ∉ [14010] from by decide)).trans u28x1)]; decide) ?_
                    refine ok.letE (v1 := 24) (by rw [((hFZ37.2.2 70 2 (show (14002 : Nat) ∉ [14010] from by decide)).trans u28x1)]) ?_
                    refine ok.letE (v1 := 43) (by decide) ?_
                    refine ok.ck (show 0 ≤ (Zu28.1 70 10).toInt ∧ (Zu28.1 70 10).toInt < ((9080 : Nat) : Int) from by omega) ?_
                    refine ok.letE (v1 := (X.1 43 (ix (Zu28.1 70 10)))) ((hFZ37.1 43 (ix (Zu28.1 70 10)) (show (8600 : Nat) ∉ [14010] from by decide)).trans (hFu28.1 43 (ix (Zu28.1 70 10)) n8600_Qv11)) ?_
                    refine ok.ck (by rw [((hFZ37.2.2 70 2 (show (14002 : Nat) ∉ [14010] from by decide)).trans u28x1)]; decide) ?_
                    refine ok.letE (v1 := 24) (by rw [((hFZ37.2.2 70 2 (show (14002 : Nat) ∉ [14010] from by decide)).trans u28x1)]) ?_
                    refine ok.letE (v1 := 45) (by decide) ?_
                    refine ok.ck (show 0 ≤ (Zu28.1 70 10).toInt ∧ (Zu28.1 70 10).toInt < ((9080 : Nat) : Int) from by omega) ?_
                    refine ok.letE (v1 := (X.1 45 (ix (Zu28.1 70 10)))) ((hFZ37.1 45 (ix (Zu28.1 70 10)) (show (9000 : Nat) ∉ [14010] from by decide)).trans (hFu28.1 45 (ix (Zu28.1 70 10)) n9000_Qv11)) ?_
                    have g43 : 0 ≤ (X.1 45 (ix (Zu28.1 70 10))).toInt ∧ (X.1 45 (ix (Zu28.1 70 10))).toInt ≤ 3000 := hI.1 45 (ix (Zu28.1 70 10))
                    refine ok.bd (v_Running_workPlain hIZ37) ?_
                    rintro r_44 Z46 ⟨hFZ46, hIZ46⟩
                    unfold g_Running_runAll_289
                    refine ok.inc (by decide) (show _ ≤ a_5u28.toInt + (1) ∧ a_5u28.toInt + (1) ≤ _ from by omega) (fun x47 hx47 => ?_)
                    have hx47 : x47.toInt = a_5u28.toInt + (1) := hx47
                    exact ih_u28 x47 Z46 hIZ46 (((Fr.rf.tr hFu28 (fun _ q => q)).tr hFZ37 (by decide)).tr hFZ46 sQv13_Qv11) (show 0 ≤ x47.toInt ∧ x47.toInt ≤ 1000000 from by omega) (show Z46.2.2 70 0 = 56 from (((hFZ46.2.2 70 0 n14000_Qv13).trans (hFZ37.2.2 70 0 (show (14000 : Nat) ∉ [14010] from by decide))).trans u28x0)) (show Z46.2.2 70 2 = 25 from (((hFZ46.2.2 70 2 n14002_Qv13).trans (hFZ37.2.2 70 2 (show (14002 : Nat) ∉ [14010] from by decide))).trans u28x1)) (show (1000001 - x47.toInt).toNat < _ from by omega)
                  · skip
                    refine ok.ck (by rw [((hFZ37.2.2 70 2 (show (14002 : Nat) ∉ [14010] from by decide)).trans u28x1)]; decide) ?_
                    refine ok.letE (v1 := 24) (by rw [((hFZ37.2.2 70 2 (show (14002 : Nat) ∉ [14010] from by decide)).trans u28x1)]) ?_
                    refine ok.letE (v1 := 43) (by decide) ?_
                    refine ok.ck (show 0 ≤ (Zu28.1 70 10).toInt ∧ (Zu28.1 70 10).toInt < ((9080 : Nat) : Int) from by omega) ?_
                    refine ok.letE (v1 := (X.1 43 (ix (Zu28.1 70 10)))) ((hFZ37.1 43 (ix (Zu28.1 70 10)) (show (8600 : Nat) ∉ [14010] from by decide)).trans (hFu28.1 43 (ix (Zu28.1 70 10)) n8600_Qv11)) ?_
                    refine ok.ck (by rw [((hFZ37.2.2 70 2 (show (14002 : Nat) ∉ [14010] from by decide)).trans u28x1)]; decide) ?_
                    refine ok.letE (v1 := 24) (by rw [((hFZ37.2.2 70 2 (show (14002 : Nat) ∉ [14010] from by decide)).trans u28x1)]) ?_
                    refine ok.letE (v1 := 45) (by decide) ?_
                    refine ok.ck (show 0 ≤ (Zu28.1 70 10).toInt ∧ (Zu28.1 70 10).toInt < ((9080 : Nat) : Int) from by omega) ?_
                    refine ok.letE (v1 := (X.1 45 (ix (Zu28.1 70 10)))) ((hFZ37.1 45 (ix (Zu28.1 70 10)) (show (9000 : Nat) ∉ [14010] from by decide)).trans (hFu28.1 45 (ix (Zu28.1 70 10)) n9000_Qv11)) ?_
                    have g47 : 0 ≤ (X.1 45 (ix (Zu28.1 70 10))).toInt ∧ (X.1 45 (ix (Zu28.1 70 10))).toInt ≤ 3000 := hI.1 45 (ix (Zu28.1 70 10))
                    refine ok.bd (v_Running_workRowOrCall_N24 hIZ37 ((hFZ37.2.2 70 2 (show (14002 : Nat) ∉ [14010] from by decide)).trans u28x1) (show 10 ≤ (X.1 42 (ix (Zu28.1 70 10))).toInt ∧ (X.1 42 (ix (Zu28.1 70 10))).toInt ≤ 17 from by omega) (show ((X.1 42 (ix (Zu28.1 70 10))).toInt = 10 ∨ (X.1 42 (ix (Zu28.1 70 10))).toInt = 16) → 0 ≤ (X.1 43 (ix (Zu28.1 70 10))).toInt ∧ (X.1 43 (ix (Zu28.1 70 10))).toInt ≤ 20000 from by omega)) ?_
                    rintro r_48 Z50 ⟨hFZ50, hIZ50⟩
                    unfold g_Running_runAll_289
                    refine ok.inc (by decide) (show _ ≤ a_5u28.toInt + (1) ∧ a_5u28.toInt + (1) ≤ _ from by omega) (fun x47 hx47 => ?_)
                    have hx47 : x47.toInt = a_5u28.toInt + (1) := hx47
                    exact ih_u28 x47 Z50 hIZ50 (((Fr.rf.tr hFu28 (fun _ q => q)).tr hFZ37 (by decide)).tr hFZ50 sQv14_Qv11) (show 0 ≤ x47.toInt ∧ x47.toInt ≤ 1000000 from by omega) (show Z50.2.2 70 0 = 56 from (((hFZ50.2.2 70 0 n14000_Qv14).trans (hFZ37.2.2 70 0 (show (14000 : Nat) ∉ [14010] from by decide))).trans u28x0)) (show Z50.2.2 70 2 = 25 from (((hFZ50.2.2 70 2 n14002_Qv14).trans (hFZ37.2.2 70 2 (show (14002 : Nat) ∉ [14010] from by decide))).trans u28x1)) (show (1000001 - x47.toInt).toNat < _ from by omega)
                · skip
                  refine ok.ck (by rw [((hFZ37.2.2 70 2 (show (14002 : Nat) ∉ [14010] from by decide)).trans u28x1)]; decide) ?_
                  refine ok.letE (v1 := 24) (by rw [((hFZ37.2.2 70 2 (show (14002 : Nat) ∉ [14010] from by decide)).trans u28x1)]) ?_
                  refine ok.letE (v1 := 45) (by decide) ?_
                  refine ok.ck (show 0 ≤ (Zu28.1 70 10).toInt ∧ (Zu28.1 70 10).toInt < ((9080 : Nat) : Int) from by omega) ?_
                  refine ok.letE (v1 := (X.1 45 (ix (Zu28.1 70 10)))) ((hFZ37.1 45 (ix (Zu28.1 70 10)) (show (9000 : Nat) ∉ [14010] from by decide)).trans (hFu28.1 45 (ix (Zu28.1 70 10)) n9000_Qv11)) ?_
                  have g51 : 0 ≤ (X.1 45 (ix (Zu28.1 70 10))).toInt ∧ (X.1 45 (ix (Zu28.1 70 10))).toInt ≤ 3000 := hI.1 45 (ix (Zu28.1 70 10))
                  refine ok.bd (v_Running_workNumbers hIZ37) ?_
                  rintro r_52 Z54 ⟨hFZ54, hIZ54⟩
                  unfold g_Running_runAll_289
                  refine ok.inc (by decide) (show _ ≤ a_5u28.toInt + (1) ∧ a_5u28.toInt + (1) ≤ _ from by omega) (fun x47 hx47 => ?_)
                  have hx47 : x47.toInt = a_5u28.toInt + (1) := hx47
                  exact ih_u28 x47 Z54 hIZ54 (((Fr.rf.tr hFu28 (fun _ q => q)).tr hFZ37 (by decide)).tr hFZ54 s14004x14005x14006x14015x16800_Qv11) (show 0 ≤ x47.toInt ∧ x47.toInt ≤ 1000000 from by omega) (show Z54.2.2 70 0 = 56 from (((hFZ54.2.2 70 0 (show (14000 : Nat) ∉ [14004, 14005, 14006, 14015, 16800] from by decide)).trans (hFZ37.2.2 70 0 (show (14000 : Nat) ∉ [14010] from by decide))).trans u28x0)) (show Z54.2.2 70 2 = 25 from (((hFZ54.2.2 70 2 (show (14002 : Nat) ∉ [14004, 14005, 14006, 14015, 16800] from by decide)).trans (hFZ37.2.2 70 2 (show (14002 : Nat) ∉ [14010] from by decide))).trans u28x1)) (show (1000001 - x47.toInt).toNat < _ from by omega)
              · skip
                refine ok.bd (v_Running_workAsking_N24 hIZ37 ((hFZ37.2.2 70 0 (show (14000 : Nat) ∉ [14010] from by decide)).trans u28x0) ((hFZ37.2.2 70 2 (show (14002 : Nat) ∉ [14010] from by decide)).trans u28x1) (show 0 ≤ (Zu28.1 70 10).toInt ∧ (Zu28.1 70 10).toInt ≤ 9079 from by omega)) ?_
                rintro r_55 Z57 ⟨hFZ57, hIZ57⟩
                unfold g_Running_runAll_289
                refine ok.inc (by decide) (show _ ≤ a_5u28.toInt + (1) ∧ a_5u28.toInt + (1) ≤ _ from by omega) (fun x47 hx47 => ?_)
                have hx47 : x47.toInt = a_5u28.toInt + (1) := hx47
                exact ih_u28 x47 Z57 hIZ57 (((Fr.rf.tr hFu28 (fun _ q => q)).tr hFZ37 (by decide)).tr hFZ57 sQv24_Qv11) (show 0 ≤ x47.toInt ∧ x47.toInt ≤ 1000000 from by omega) (show Z57.2.2 70 0 = 56 from (((hFZ57.2.2 70 0 n14000_Qv24).trans (hFZ37.2.2 70 0 (show (14000 : Nat) ∉ [14010] from by decide))).trans u28x0)) (show Z57.2.2 70 2 = 25 from (((hFZ57.2.2 70 2 n14002_Qv24).trans (hFZ37.2.2 70 2 (show (14002 : Nat) ∉ [14010] from by decide))).trans u28x1)) (show (1000001 - x47.toInt).toNat < _ from by omega)
  exact lpu28 BIG (0 : Int32) Z27 hIZ27 (((((((((((((((((Fr.rf.tr hFZ1 (by decide)).tr hFZ2 (by decide)).tr hFZ3 (by decide)).tr hFZ4 (by decide)).tr hFZ7 (by decide)).tr hFZ10 (by decide)).tr hFZ11 (by decide)).tr hFZ12 (by decide)).tr hFZ13 (by decide)).tr hFZ14 (by decide)).tr hFZ15 (by decide)).tr hFZ16 (by decide)).tr hFZ17 (by decide)).tr hFZ18 (by decide)).tr hFZ19 (by decide)).tr hFZ24 (by decide)).tr hFZ27 sQv12_Qv11) (show 0 ≤ (0 : Int) ∧ (0 : Int) ≤ 1000000 from by omega) (show Z27.2.2 70 0 = 56 from ((((((((((((((((hFZ27.2.2 70 0 n14000_Qv12).trans (hFZ24.2.2 70 0 (show (14000 : Nat) ∉ [14015, 16800] from by decide))).trans (hFZ19.2.2 70 0 (show (14000 : Nat) ∉ [14004] from by decide))).trans (hFZ18.2.2 70 0 (show (14000 : Nat) ∉ [14010] from by decide))).trans (hFZ17.2.2 70 0 (show (14000 : Nat) ∉ [14018] from by decide))).trans (hFZ16.2.2 70 0 (show (14000 : Nat) ∉ [14015] from by decide))).trans (hFZ15.2.2 70 0 (show (14000 : Nat) ∉ [14011] from by decide))).trans (hFZ14.2.2 70 0 (show (14000 : Nat) ∉ [14009] from by decide))).trans (hFZ13.2.2 70 0 (show (14000 : Nat) ∉ [14007] from by decide))).trans (hFZ12.2.2 70 0 (show (14000 : Nat) ∉ [14006] from by decide))).trans (hFZ11.2.2 70 0 (show (14000 : Nat) ∉ [14005] from by decide))).trans (hFZ10.2.2 70 0 (show (14000 : Nat) ∉ [17400] from by decide))).trans (hFZ7.2.2 70 0 (show (14000 : Nat) ∉ [14200, 14201, 14202] from by decide))).trans (hFZ4.2.2 70 0 (show (14000 : Nat) ∉ [14008] from by decide))).trans (hFZ3.2.2 70 0 (show (14000 : Nat) ∉ [14003] from by decide))).trans hRZ2)) (show Z27.2.2 70 2 = 25 from (((((((((((((((((hFZ27.2.2 70 2 n14002_Qv12).trans (hFZ24.2.2 70 2 (show (14002 : Nat) ∉ [14015, 16800] from by decide))).trans (hFZ19.2.2 70 2 (show (14002 : Nat) ∉ [14004] from by decide))).trans (hFZ18.2.2 70 2 (show (14002 : Nat) ∉ [14010] from by decide))).trans (hFZ17.2.2 70 2 (show (14002 : Nat) ∉ [14018] from by decide))).trans (hFZ16.2.2 70 2 (show (14002 : Nat) ∉ [14015] from by decide))).trans (hFZ15.2.2 70 2 (show (14002 : Nat) ∉ [14011] from by decide))).trans (hFZ14.2.2 70 2 (show (14002 : Nat) ∉ [14009] from by decide))).trans (hFZ13.2.2 70 2 (show (14002 : Nat) ∉ [14007] from by decide))).trans (hFZ12.2.2 70 2 (show (14002 : Nat) ∉ [14006] from by decide))).trans (hFZ11.2.2 70 2 (show (14002 : Nat) ∉ [14005] from by decide))).trans (hFZ10.2.2 70 2 (show (14002 : Nat) ∉ [17400] from by decide))).trans (hFZ7.2.2 70 2 (show (14002 : Nat) ∉ [14200, 14201, 14202] from by decide))).trans (hFZ4.2.2 70 2 (show (14002 : Nat) ∉ [14008] from by decide))).trans (hFZ3.2.2 70 2 (show (14002 : Nat) ∉ [14003] from by decide))).trans (hFZ2.2.2 70 2 (show (14002 : Nat) ∉ [14000] from by decide))).trans hRZ1)) (Nat.lt_of_le_of_lt (show (1000001 - (0 : Int)).toNat ≤ 1000001 from by omega) (by decide))
