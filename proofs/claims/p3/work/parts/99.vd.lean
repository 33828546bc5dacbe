/-! the other program -/
def Qv13 : List Nat := [5000, 5200, 5400, 5600, 5800, 6000, 6200, 6400, 8800, 11005, 11200, 11400, 11600, 11800, 12000, 12200, 12201, 12202, 12203, 12204, 12205, 12214, 12400, 12600, 12800, 13000, 13200, 13400, 13600, 13800]
set_option maxHeartbeats 4000000 in
theorem v_Kinds_cutTo_25 {p1 : Int32} {X : St} (hI : INV X) : ok (g_Kinds_cutTo 25 p1 X) (fun r Y => (Fr YC [5000, 6200] X Y ∧ INV Y)) := by
  unfold g_Kinds_cutTo
  refine ok.letE (v1 := (X.1 25 0)) rfl ?_
  have g1 : 0 ≤ (X.1 25 0).toInt ∧ (X.1 25 0).toInt ≤ 1549 := hI.1 25 0
  refine ok.sub (show _ ≤ (X.1 25 0).toInt - (1 : Int) ∧ (X.1 25 0).toInt - (1 : Int) ≤ _ from by omega) (fun x2 hx2 => ?_)
  have hx2 : x2.toInt = (X.1 25 0).toInt - (1 : Int) := hx2
  have lpu2 : ∀ (n : Nat), ∀ (a_1u2 : Int32) (a_2u2 : Int32) (Zu2 : St), INV Zu2 → Fr YC [5000, 6200] X Zu2 → (-1 ≤ a_2u2.toInt ∧ a_2u2.toInt ≤ 1548) → (a_2u2.toInt + 1).toNat < n → ok (g_Kinds_cutTo_7 n 25 a_1u2 a_2u2 Zu2) (fun r Y => (Fr YC [5000, 6200] X Y ∧ INV Y)) := by
    intro n
    unfold g_Kinds_cutTo_7
    refine lp_indN (P := fun (n : Nat) (r_u2 : Nat → Int32 → Int32 → St → Option (Int32 × St)) => ∀ (a_1u2 : Int32) (a_2u2 : Int32) (Zu2 : St), INV Zu2 → Fr YC [5000, 6200] X Zu2 → (-1 ≤ a_2u2.toInt ∧ a_2u2.toInt ≤ 1548) → (a_2u2.toInt + 1).toNat < n → ok (r_u2 25 a_1u2 a_2u2 Zu2) (fun r Y => (Fr YC [5000, 6200] X Y ∧ INV Y))) ?_ ?_ n
    · intro a_1u2 a_2u2 Zu2 hIu2 hFu2 u2_0  hm; exact absurd hm (Nat.not_lt_zero _)
    · intro n r_u2 ih_u2 a_1u2 a_2u2 Zu2 hIu2 hFu2 u2_0  hmu2
      unfold g_Kinds_cutTo_7_s
      refine ok.ite (fun c3 => ?_) (fun c3 => ?_)
      · skip
        have g4 := i32_le a_1u2
        exact ok.ret ⟨(Fr.rf.tr hFu2 (fun _ q => q)), hIu2⟩
      · skip
        have g5 := i32_le a_1u2
        refine ok.ite (fun c6 => ?_) (fun c6 => ?_)
        · skip
          exact ok.ret ⟨(Fr.rf.tr hFu2 (fun _ q => q)), hIu2⟩
        · skip
          refine ok.letE (v1 := 31) (by decide) ?_
          refine ok.letE (v1 := 29) (by decide) ?_
          refine ok.ck (show 0 ≤ a_2u2.toInt ∧ a_2u2.toInt < ((1549 : Nat) : Int) from by omega) ?_
          refine ok.letE (v1 := (X.1 29 (ix a_2u2))) (hFu2.1 29 (ix a_2u2) (show (5800 : Nat) ∉ [5000, 6200] from by decide)) ?_
          refine ok.bd (v_Kinds_bucketOf hIu2) ?_
          rintro x6 _ ⟨rfl, hp7⟩
          have hp7 : 0 ≤ x6.toInt ∧ x6.toInt ≤ 511 := hp7
          refine ok.letE (v1 := 32) (by decide) ?_
          refine ok.ck (show 0 ≤ a_2u2.toInt ∧ a_2u2.toInt < ((1549 : Nat) : Int) from by omega) ?_
          refine ok.letE (v1 := (X.1 32 (ix a_2u2))) (hFu2.1 32 (ix a_2u2) (show (6400 : Nat) ∉ [5000, 6200] from by decide)) ?_
          have g8 : -1 ≤ (X.1 32 (ix a_2u2)).toInt ∧ (X.1 32 (ix a_2u2)).toInt ≤ 1548 := hI.1 32 (ix a_2u2)
          refine ok.ck (show 0 ≤ x6.toInt ∧ x6.toInt < ((512 : Nat) : Int) from by omega) ?_
          refine ok.wI (L := [6200]) hIu2 (show -1 ≤ (X.1 32 (ix a_2u2)).toInt ∧ (X.1 32 (ix a_2u2)).toInt ≤ 1548 from by omega) (show (6200 : Nat) ∈ [6200] from by decide) (by decide) (fun Z9 hIZ9 hFZ9 hkZ9 hoZ9 => ?_)
          refine ok.wI (L := [5000]) hIZ9 (show 0 ≤ a_2u2.toInt ∧ a_2u2.toInt ≤ 1549 from by omega) (show (5000 : Nat) ∈ [5000] from by decide) (by decide) (fun Z10 hIZ10 hFZ10 hkZ10 hoZ10 => ?_)
          refine ok.inc (by decide) (show _ ≤ a_2u2.toInt + (-1) ∧ a_2u2.toInt + (-1) ≤ _ from by omega) (fun x12 hx12 => ?_)
          have hx12 : x12.toInt = a_2u2.toInt + (-1) := hx12
          exact ih_u2 a_1u2 x12 Z10 hIZ10 (((Fr.rf.tr hFu2 (fun _ q => q)).tr hFZ9 (by decide)).tr hFZ10 (by decide)) (show -1 ≤ x12.toInt ∧ x12.toInt ≤ 1548 from by omega) (show (x12.toInt + 1).toNat < _ from by omega)
  exact lpu2 BIG p1 x2 X hI (Fr.rf : Fr YC [5000, 6200] _ _) (show -1 ≤ x2.toInt ∧ x2.toInt ≤ 1548 from by omega) (show (x2.toInt + 1).toNat < BIG from ltBIG (show _ < 100000 from by omega))
theorem n4801_Qv12 : (4801 : Nat) ∉ Qv12 := by decide
theorem n8200_Qv12 : (8200 : Nat) ∉ Qv12 := by decide
set_option maxHeartbeats 4000000 in
theorem v_Running_enterPart_N24 {p1 : Int32} {p2 : Int32} {p3 : Int32} {X : St} (hI : INV X) (hr70_2 : X.2.2 70 2 = 25) (h0 : 0 ≤ p2.toInt ∧ p2.toInt ≤ 20002) : ok (g_Running_enterPart p1 p2 p3 X) (fun r Y => (Fr YC Qv12 X Y ∧ INV Y)) := by
  unfold g_Running_enterPart
  refine ok.letE (v1 := (X.1 70 11)) rfl ?_
  have g1 : 0 ≤ (X.1 70 11).toInt ∧ (X.1 70 11).toInt ≤ 100 := hI.1 70 11
  refine ok.ite (fun c2 => ?_) (fun c2 => ?_)
  · skip
    refine ok.letE (v1 := (X.1 70 11)) rfl ?_
    refine ok.letE (v1 := (X.1 70 10)) rfl ?_
    refine ok.ck (show 0 ≤ (X.1 70 11).toInt ∧ (X.1 70 11).toInt < ((100 : Nat) : Int) from by omega) ?_
    refine ok.wI (L := [16400]) hI (show True from trivial) (show (16400 : Nat) ∈ [16400] from by decide) (by decide) (fun Z3 hIZ3 hFZ3 hkZ3 hoZ3 => ?_)
    refine ok.letE (v1 := (X.1 70 11)) (hFZ3.1 70 11 (show (14011 : Nat) ∉ [16400] from by decide)) ?_
    refine ok.add (show _ ≤ (X.1 70 11).toInt + (1 : Int) ∧ (X.1 70 11).toInt + (1 : Int) ≤ _ from by omega) (fun x6 hx6 => ?_)
    have hx6 : x6.toInt = (X.1 70 11).toInt + (1 : Int) := hx6
    refine ok.wI (L := [14011]) hIZ3 (show 0 ≤ x6.toInt ∧ x6.toInt ≤ 100 from by omega) (show (14011 : Nat) ∈ [14011] from by decide) (by decide) (fun Z4 hIZ4 hFZ4 hkZ4 hoZ4 => ?_)
    refine ok.sub (show _ ≤ p2.toInt - (1 : Int) ∧ p2.toInt - (1 : Int) ≤ _ from by omega) (fun x8 hx8 => ?_)
    have hx8 : x8.toInt = p2.toInt - (1 : Int) := hx8
    have lpu5 : ∀ (n : Nat), ∀ (a_1u5 : Int32) (a_4u5 : Int32) (Zu5 : St), INV Zu5 → Fr YC Qv12 X Zu5 → (-1 ≤ a_4u5.toInt ∧ a_4u5.toInt ≤ 20001) → (a_4u5.toInt + 1).toNat < n → ok (g_Running_enterPart_44 n a_1u5 a_4u5 Zu5) (fun r Y => (Fr YC Qv12 X Y ∧ INV Y)) := by
      intro n
      unfold g_Running_enterPart_44
      refine lp_indN (P := fun (n : Nat) (r_u5 : Int32 → Int32 → St → Option (Int32 × St)) => ∀ (a_1u5 : Int32) (a_4u5 : Int32) (Zu5 : St), INV Zu5 → Fr YC Qv12 X Zu5 → (-1 ≤ a_4u5.toInt ∧ a_4u5.toInt ≤ 20001) → (a_4u5.toInt + 1).toNat < n → ok (r_u5 a_1u5 a_4u5 Zu5) (fun r Y => (Fr YC Qv12 X Y ∧ INV Y))) ?_ ?_ n
      · intro a_1u5 a_4u5 Zu5 hIu5 hFu5 u5_0  hm; exact absurd hm (Nat.not_lt_zero _)
      · intro n r_u5 ih_u5 a_1u5 a_4u5 Zu5 hIu5 hFu5 u5_0  hmu5
        unfold g_Running_enterPart_44_s
        refine ok.ite (fun c6 => ?_) (fun c6 => ?_)
        · skip
          refine ok.ite (fun c7 => ?_) (fun c7 => ?_)
          · skip
            have g8 := i32_le a_1u5
            unfold g_Running_enterPart_98
            unfold g_Running_enterPart_99
            refine ok.wI (L := [14010]) hIu5 (show True from trivial) (show (14010 : Nat) ∈ [14010] from by decide) (by decide) (fun Z9 hIZ9 hFZ9 hkZ9 hoZ9 => ?_)
            exact ok.ret ⟨((Fr.rf.tr hFu5 (fun _ q => q)).tr hFZ9 (by decide)), hIZ9⟩
          · skip
            have g10 := i32_le a_1u5
            refine ok.ck (by rw [((hFu5.2.2 70 2 n14002_Qv12).trans hr70_2)]; decide) ?_
            refine ok.letE (v1 := 24) (by rw [((hFu5.2.2 70 2 n14002_Qv12).trans hr70_2)]) ?_
            refine ok.letE (v1 := (X.1 24 1)) (hFu5.1 24 1 n4801_Qv12) ?_
            have g11 : 0 ≤ (X.1 24 1).toInt ∧ (X.1 24 1).toInt ≤ 40 := hI.1 24 1
            refine ok.ite (fun c12 => ?_) (fun c12 => ?_)
            · skip
              unfold g_Running_enterPart_98
              unfold g_Running_enterPart_99
              refine ok.wI (L := [14010]) hIu5 (show True from trivial) (show (14010 : Nat) ∈ [14010] from by decide) (by decide) (fun Z13 hIZ13 hFZ13 hkZ13 hoZ13 => ?_)
              exact ok.ret ⟨((Fr.rf.tr hFu5 (fun _ q => q)).tr hFZ13 (by decide)), hIZ13⟩
            · skip
              refine ok.ck (by rw [((hFu5.2.2 70 2 n14002_Qv12).trans hr70_2)]; decide) ?_
              refine ok.letE (v1 := 24) (by rw [((hFu5.2.2 70 2 n14002_Qv12).trans hr70_2)]) ?_
              refine ok.letE (v1 := 41) (by decide) ?_
              refine ok.ck (show 0 ≤ a_1u5.toInt ∧ a_1u5.toInt < ((41 : Nat) : Int) from by omega) ?_
              refine ok.letE (v1 := (X.1 41 (ix a_1u5))) (hFu5.1 41 (ix a_1u5) n8200_Qv12) ?_
              have g14 : 0 ≤ (X.1 41 (ix a_1u5)).toInt ∧ (X.1 41 (ix a_1u5)).toInt ≤ 9080 := hI.1 41 (ix a_1u5)
              unfold g_Running_enterPart_99
              refine ok.wI (L := [14010]) hIu5 (show True from trivial) (show (14010 : Nat) ∈ [14010] from by decide) (by decide) (fun Z15 hIZ15 hFZ15 hkZ15 hoZ15 => ?_)
              exact ok.ret ⟨((Fr.rf.tr hFu5 (fun _ q => q)).tr hFZ15 (by decide)), hIZ15⟩
        · skip
          refine ok.bd (v_Running_slotAt hIu5) ?_
          rintro x15 _ ⟨rfl, hp16⟩
          have hp16 : 0 ≤ x15.toInt ∧ x15.toInt ≤ 4399 := hp16
          refine ok.bd (v_Running_pop hIu5) ?_
          rintro y17 Z18 ⟨hFZ18, hIZ18⟩
          refine ok.ck (show 0 ≤ x15.toInt ∧ x15.toInt < ((4400 : Nat) : Int) from by omega) ?_
          refine ok.wL (L := [16600]) hIZ18 (show (16600 : Nat) ∈ [16600] from by decide) (fun Z19 hIZ19 hFZ19 heZ19 => ?_)
          refine ok.inc (by decide) (show _ ≤ a_4u5.toInt + (-1) ∧ a_4u5.toInt + (-1) ≤ _ from by omega) (fun x20 hx20 => ?_)
          have hx20 : x20.toInt = a_4u5.toInt + (-1) := hx20
          exact ih_u5 a_1u5 x20 Z19 hIZ19 (((Fr.rf.tr hFu5 (fun _ q => q)).tr hFZ18 (by decide)).tr hFZ19 (by decide)) (show -1 ≤ x20.toInt ∧ x20.toInt ≤ 20001 from by omega) (show (x20.toInt + 1).toNat < _ from by omega)
    exact lpu5 BIG p1 x8 Z4 hIZ4 ((Fr.rf.tr hFZ3 (by decide)).tr hFZ4 (by decide)) (show -1 ≤ x8.toInt ∧ x8.toInt ≤ 20001 from by omega) (show (x8.toInt + 1).toNat < BIG from ltBIG (show _ < 100000 from by omega))
  · skip
    refine ok.bd (v_Running_failWith hI) ?_
    rintro r_20 Z22 ⟨hFZ22, hIZ22⟩
    exact ok.ret ⟨(Fr.rf.tr hFZ22 (by decide)), hIZ22⟩
