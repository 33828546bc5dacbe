/-! judging parts, running -/
def Qv9 : List Nat := [600, 800, 1000, 1200, 1400, 1600, 1800, 2000, 4400, 11005, 11200, 11400, 11600, 11800, 12000, 12203, 12204, 12205, 12214, 12400, 13200, 13400, 13600, 13800]
theorem n12201_Qv9 : (12201 : Nat) ∉ Qv9 := by decide
theorem n3000_Qv9 : (3000 : Nat) ∉ Qv9 := by decide
theorem n3800_Qv9 : (3800 : Nat) ∉ Qv9 := by decide
theorem n4000_Qv9 : (4000 : Nat) ∉ Qv9 := by decide
theorem n4200_Qv9 : (4200 : Nat) ∉ Qv9 := by decide
theorem n12200_Qv9 : (12200 : Nat) ∉ Qv9 := by decide
theorem n12202_Qv9 : (12202 : Nat) ∉ Qv9 := by decide
theorem sQv4_Qv9 : ∀ k ∈ Qv4, k ∈ Qv9 := by decide
theorem sQv5_Qv9 : ∀ k ∈ Qv5, k ∈ Qv9 := by decide
theorem sQv8_Qv9 : ∀ k ∈ Qv8, k ∈ Qv9 := by decide
theorem n12600_Qv9 : (12600 : Nat) ∉ Qv9 := by decide
set_option maxHeartbeats 4000000 in
theorem v_Judging_judgePart_J2 {p1 : Int32} {X : St} (hI : INV X) (hr61_0 : X.2.2 61 0 = 56) (hr61_1 : X.2.2 61 1 = 3) (hr61_2 : X.2.2 61 2 = 4) (h0 : 0 ≤ p1.toInt ∧ p1.toInt ≤ 39) (h1 : p1.toInt < (X.1 2 1).toInt) (hP : PGC 2 20 21 19 X) : ok (g_Judging_judgePart p1 X) (fun r Y => (Fr YC Qv9 X Y ∧ INV Y)) := by
  unfold g_Judging_judgePart
  refine ok.wI (L := [12203]) hI (show 0 ≤ p1.toInt ∧ p1.toInt ≤ 39 from by omega) (show (12203 : Nat) ∈ [12203] from by decide) (by decide) (fun Z1 hIZ1 hFZ1 hkZ1 hoZ1 => ?_)
  refine ok.wI (L := [12214]) hIZ1 (show 0 ≤ (0 : Int) ∧ (0 : Int) ≤ 3000 from by omega) (show (12214 : Nat) ∈ [12214] from by decide) (by decide) (fun Z2 hIZ2 hFZ2 hkZ2 hoZ2 => ?_)
  have lpu3 : ∀ (n : Nat), ∀ (a_1u3 : Int32) (a_2u3 : Int32) (Zu3 : St), INV Zu3 → Fr YC Qv9 X Zu3 → (0 ≤ a_1u3.toInt ∧ a_1u3.toInt ≤ 39) → (a_1u3.toInt < (X.1 2 1).toInt) → (0 ≤ a_2u3.toInt ∧ a_2u3.toInt ≤ 4) → (5 - a_2u3.toInt).toNat < n → ok (g_Judging_judgePart_12 n a_1u3 a_2u3 Zu3) (fun r Y => (Fr YC Qv9 X Y ∧ INV Y)) := by
    intro n
    unfold g_Judging_judgePart_12
    refine lp_indN (P := fun (n : Nat) (r_u3 : Int32 → Int32 → St → Option (Int32 × St)) => ∀ (a_1u3 : Int32) (a_2u3 : Int32) (Zu3 : St), INV Zu3 → Fr YC Qv9 X Zu3 → (0 ≤ a_1u3.toInt ∧ a_1u3.toInt ≤ 39) → (a_1u3.toInt < (X.1 2 1).toInt) → (0 ≤ a_2u3.toInt ∧ a_2u3.toInt ≤ 4) → (5 - a_2u3.toInt).toNat < n → ok (r_u3 a_1u3 a_2u3 Zu3) (fun r Y => (Fr YC Qv9 X Y ∧ INV Y))) ?_ ?_ n
    · intro a_1u3 a_2u3 Zu3 hIu3 hFu3 u3_0 u3_1 u3_2  hm; exact absurd hm (Nat.not_lt_zero _)
    · intro n r_u3 ih_u3 a_1u3 a_2u3 Zu3 hIu3 hFu3 u3_0 u3_1 u3_2  hmu3
      unfold g_Judging_judgePart_12_s
      refine ok.ck (by rw [((hFu3.2.2 61 1 n12201_Qv9).trans hr61_1)]; decide) ?_
      refine ok.letE (v1 := 2) (by rw [((hFu3.2.2 61 1 n12201_Qv9).trans hr61_1)]) ?_
      refine ok.letE (v1 := 15) (by decide) ?_
      refine ok.ck (show 0 ≤ a_1u3.toInt ∧ a_1u3.toInt < ((40 : Nat) : Int) from by omega) ?_
      refine ok.letE (v1 := (X.1 15 (ix a_1u3))) (hFu3.1 15 (ix a_1u3) n3000_Qv9) ?_
      have g4 : 0 ≤ (X.1 15 (ix a_1u3)).toInt ∧ (X.1 15 (ix a_1u3)).toInt ≤ 4 := hI.1 15 (ix a_1u3)
      refine ok.ite (fun c5 => ?_) (fun c5 => ?_)
      · skip
        refine ok.ck (by rw [((hFu3.2.2 61 1 n12201_Qv9).trans hr61_1)]; decide) ?_
        refine ok.letE (v1 := 2) (by rw [((hFu3.2.2 61 1 n12201_Qv9).trans hr61_1)]) ?_
        refine ok.letE (v1 := 19) (by decide) ?_
        refine ok.ck (show 0 ≤ a_1u3.toInt ∧ a_1u3.toInt < ((41 : Nat) : Int) from by omega) ?_
        refine ok.letE (v1 := (X.1 19 (ix a_1u3))) (hFu3.1 19 (ix a_1u3) n3800_Qv9) ?_
        have g6 : 0 ≤ (X.1 19 (ix a_1u3)).toInt ∧ (X.1 19 (ix a_1u3)).toInt ≤ 9080 := hI.1 19 (ix a_1u3)
        have ehq7 := ixc (z := a_1u3) (by omega)
        have := (show 0 ≤ (X.1 2 6).toInt ∧ (X.1 2 6).toInt ≤ 9080 from hI.1 2 6)
        have := (show 0 ≤ (X.1 2 1).toInt ∧ (X.1 2 1).toInt ≤ 40 from hI.1 2 1)
        have hq7 := hP.2 (ix a_1u3) (by omega)
        have lpu8 : ∀ (n : Nat), ∀ (a_1u8 : Int32) (a_2u8 : Int32) (Zu8 : St), INV Zu8 → Fr YC Qv9 X Zu8 → (0 ≤ a_1u8.toInt ∧ a_1u8.toInt ≤ 39) → (a_1u8.toInt < (X.1 2 1).toInt) → (0 ≤ a_2u8.toInt ∧ a_2u8.toInt ≤ 9080) → (9081 - a_2u8.toInt).toNat < n → ok (g_Judging_judgePart_57 n a_1u8 a_2u8 Zu8) (fun r Y => (Fr YC Qv9 X Y ∧ INV Y)) := by
          intro n
          unfold g_Judging_judgePart_57
          refine lp_indN (P := fun (n : Nat) (r_u8 : Int32 → Int32 → St → Option (Int32 × St)) => ∀ (a_1u8 : Int32) (a_2u8 : Int32) (Zu8 : St), INV Zu8 → Fr YC Qv9 X Zu8 → (0 ≤ a_1u8.toInt ∧ a_1u8.toInt ≤ 39) → (a_1u8.toInt < (X.1 2 1).toInt) → (0 ≤ a_2u8.toInt ∧ a_2u8.toInt ≤ 9080) → (9081 - a_2u8.toInt).toNat < n → ok (r_u8 a_1u8 a_2u8 Zu8) (fun r Y => (Fr YC Qv9 X Y ∧ INV Y))) ?_ ?_ n
          · intro a_1u8 a_2u8 Zu8 hIu8 hFu8 u8_0 u8_1 u8_2  hm; exact absurd hm (Nat.not_lt_zero _)
          · intro n r_u8 ih_u8 a_1u8 a_2u8 Zu8 hIu8 hFu8 u8_0 u8_1 u8_2  hmu8
            unfold g_Judging_judgePart_57_s
            refine ok.ck (by rw [((hFu8.2.2 61 1 n12201_Qv9).trans hr61_1)]; decide) ?_
            refine ok.letE (v1 := 2) (by rw [((hFu8.2.2 61 1 n12201_Qv9).trans hr61_1)]) ?_
            refine ok.letE (v1 := 19) (by decide) ?_
            refine ok.add (show _ ≤ a_1u8.toInt + (1 : Int) ∧ a_1u8.toInt + (1 : Int) ≤ _ from by omega) (fun x11 hx11 => ?_)
            have hx11 : x11.toInt = a_1u8.toInt + (1 : Int) := hx11
            refine ok.ck (show 0 ≤ x11.toInt ∧ x11.toInt < ((41 : Nat) : Int) from by omega) ?_
            refine ok.letE (v1 := (X.1 19 (ix x11))) (hFu8.1 19 (ix x11) n3800_Qv9) ?_
            have g9 : 0 ≤ (X.1 19 (ix x11)).toInt ∧ (X.1 19 (ix x11)).toInt ≤ 9080 := hI.1 19 (ix x11)
            have ehq10 := ixc (z := x11) (by omega)
            have := (show 0 ≤ (X.1 2 6).toInt ∧ (X.1 2 6).toInt ≤ 9080 from hI.1 2 6)
            have := (show 0 ≤ (X.1 2 1).toInt ∧ (X.1 2 1).toInt ≤ 40 from hI.1 2 1)
            have hq10 := hP.2 (ix x11) (by omega)
            refine ok.ite (fun c11 => ?_) (fun c11 => ?_)
            · skip
              exact ok.ret ⟨(Fr.rf.tr hFu8 (fun _ q => q)), hIu8⟩
            · skip
              refine ok.letE (v1 := (Zu8.1 61 4)) rfl ?_
              refine ok.ite (fun c12 => ?_) (fun c12 => ?_)
              · skip
                have g13 := i32_le (Zu8.1 61 4)
                refine ok.ck (by rw [((hFu8.2.2 61 1 n12201_Qv9).trans hr61_1)]; decide) ?_
                refine ok.letE (v1 := 2) (by rw [((hFu8.2.2 61 1 n12201_Qv9).trans hr61_1)]) ?_
                refine ok.letE (v1 := 20) (by decide) ?_
                refine ok.ck (show 0 ≤ a_2u8.toInt ∧ a_2u8.toInt < ((9080 : Nat) : Int) from by omega) ?_
                refine ok.letE (v1 := (X.1 20 (ix a_2u8))) (hFu8.1 20 (ix a_2u8) n4000_Qv9) ?_
                have g14 : 0 ≤ (X.1 20 (ix a_2u8)).toInt ∧ (X.1 20 (ix a_2u8)).toInt ≤ 36 := hI.1 20 (ix a_2u8)
                have ehq15 := ixc (z := a_2u8) (by omega)
                have := (show 0 ≤ (X.1 2 6).toInt ∧ (X.1 2 6).toInt ≤ 9080 from hI.1 2 6)
                have := (show 0 ≤ (X.1 2 1).toInt ∧ (X.1 2 1).toInt ≤ 40 from hI.1 2 1)
                have hq15 := hP.1 (ix a_2u8) (by omega)
                refine ok.ite (fun c16 => ?_) (fun c16 => ?_)
                · skip
                  refine ok.ck (by rw [((hFu8.2.2 61 1 n12201_Qv9).trans hr61_1)]; decide) ?_
                  refine ok.letE (v1 := 2) (by rw [((hFu8.2.2 61 1 n12201_Qv9).trans hr61_1)]) ?_
                  refine ok.letE (v1 := 20) (by decide) ?_
                  refine ok.ck (show 0 ≤ a_2u8.toInt ∧ a_2u8.toInt < ((9080 : Nat) : Int) from by omega) ?_
                  refine ok.letE (v1 := (X.1 20 (ix a_2u8))) (hFu8.1 20 (ix a_2u8) n4000_Qv9) ?_
                  refine ok.ite (fun c17 => ?_) (fun c17 => ?_)
                  · skip
                    refine ok.ck (by rw [((hFu8.2.2 61 1 n12201_Qv9).trans hr61_1)]; decide) ?_
                    refine ok.letE (v1 := 2) (by rw [((hFu8.2.2 61 1 n12201_Qv9).trans hr61_1)]) ?_
                    refine ok.letE (v1 := 20) (by decide) ?_
                    refine ok.ck (show 0 ≤ a_2u8.toInt ∧ a_2u8.toInt < ((9080 : Nat) : Int) from by omega) ?_
                    refine ok.letE (v1 := (X.1 20 (ix a_2u8))) (hFu8.1 20 (ix a_2u8) n4000_Qv9) ?_
                    refine ok.ck (by rw [((hFu8.2.2 61 1 n12201_Qv9).trans hr61_1)]; decide) ?_
                    refine ok.letE (v1 := 2) (by rw [((hFu8.2.2 61 1 n12201_Qv9).trans hr61_1)]) ?_
                    refine ok.letE (v1 := 21) (by decide) ?_
                    refine ok.ck (show 0 ≤ a_2u8.toInt ∧ a_2u8.toInt < ((9080 : Nat) : Int) from by omega) ?_
                    refine ok.letE (v1 := (X.1 21 (ix a_2u8))) (hFu8.1 21 (ix a_2u8) n4200_Qv9) ?_
                    refine ok.bd (v_Judging_judgePlain_J2 hIu8 ((hFu8.2.2 61 0 n12200_Qv9).trans hr61_0) ((hFu8.2.2 61 1 n12201_Qv9).trans hr61_1) ((hFu8.2.2 61 2 n12202_Qv9).trans hr61_2) (show 0 ≤ (X.1 20 (ix a_2u8)).toInt ∧ (X.1 20 (ix a_2u8)).toInt ≤ 10 from by omega) (show (X.1 20 (ix a_2u8)).toInt = 10 → 0 ≤ (X.1 21 (ix a_2u8)).toInt ∧ (X.1 21 (ix a_2u8)).toInt ≤ 20000 from by omega)) ?_
                    rintro r_18 Z20 ⟨hFZ20, hIZ20⟩
                    unfold g_Judging_judgePart_172
                    refine ok.inc (by decide) (show _ ≤ a_2u8.toInt + (1) ∧ a_2u8.toInt + (1) ≤ _ from by omega) (fun x27 hx27 => ?_)
                    have hx27 : x27.toInt = a_2u8.toInt + (1) := hx27
                    exact ih_u8 a_1u8 x27 Z20 hIZ20 ((Fr.rf.tr hFu8 (fun _ q => q)).tr hFZ20 sQv4_Qv9) (show 0 ≤ a_1u8.toInt ∧ a_1u8.toInt ≤ 39 from by omega) (show a_1u8.toInt < (X.1 2 1).toInt from by have := (show 0 ≤ (X.1 2 1).toInt ∧ (X.1 2 1).toInt ≤ 40 from hI.1 2 1); omega) (show 0 ≤ x27.toInt ∧ x27.toInt ≤ 9080 from by omega) (show (9081 - x27.toInt).toNat < _ from by omega)
                  · skip
                    refine ok.ck (by rw [((hFu8.2.2 61 1 n12201_Qv9).trans hr61_1)]; decide) ?_
                    refine ok.letE (v1 := 2) (by rw [((hFu8.2.2 61 1 n12201_Qv9).trans hr61_1)]) ?_
                    refine ok.letE (v1 := 20) (by decide) ?_
                    refine ok.ck (show 0 ≤ a_2u8.toInt ∧ a_2u8.toInt < ((9080 : Nat) : Int) from by omega) ?_
                    refine ok.letE (v1 := (X.1 20 (ix a_2u8))) (hFu8.1 20 (ix a_2u8) n4000_Qv9) ?_
                    refine ok.ck (by rw [((hFu8.2.2 61 1 n12201_Qv9).trans hr61_1)]; decide) ?_
                    refine ok.letE (v1 := 2) (by rw [((hFu8.2.2 61 1 n12201_Qv9).trans hr61_1)]) ?_
                    refine ok.letE (v1 := 21) (by decide) ?_
                    refine ok.ck (show 0 ≤ a_2u8.toInt ∧ a_2u8.toInt < ((9080 : Nat) : Int) from by omega) ?_
                    refine ok.letE (v1 := (X.1 21 (ix a_2u8))) (hFu8.1 21 (ix a_2u8) n4200_Qv9) ?_
                    refine ok.bd (v_Judging_judgeWork_J2 hIu8 ((hFu8.2.2 61 2 n12202_Qv9).trans hr61_2) (show 11 ≤ (X.1 20 (ix a_2u8)).toInt ∧ (X.1 20 (ix a_2u8)).toInt ≤ 26 from by omega) (show (X.1 20 (ix a_2u8)).toInt = 16 → 0 ≤ (X.1 21 (ix a_2u8)).toInt ∧ (X.1 21 (ix a_2u8)).toInt ≤ 20000 from by omega)) ?_
                    rintro r_21 Z23 ⟨hFZ23, hIZ23⟩
                    unfold g_Judging_judgePart_172
                    refine ok.inc (by decide) (show _ ≤ a_2u8.toInt + (1) ∧ a_2u8.toInt + (1) ≤ _ from by omega) (fun x27 hx27 => ?_)
                    have hx27 : x27.toInt = a_2u8.toInt + (1) := hx27
                    exact ih_u8 a_1u8 x27 Z23 hIZ23 ((Fr.rf.tr hFu8 (fun _ q => q)).tr hFZ23 sQv5_Qv9) (show 0 ≤ a_1u8.toInt ∧ a_1u8.toInt ≤ 39 from by omega) (show a_1u8.toInt < (X.1 2 1).toInt from by have := (show 0 ≤ (X.1 2 1).toInt ∧ (X.1 2 1).toInt ≤ 40 from hI.1 2 1); omega) (show 0 ≤ x27.toInt ∧ x27.toInt ≤ 9080 from by omega) (show (9081 - x27.toInt).toNat < _ from by omega)
                · skip
                  refine ok.ck (by rw [((hFu8.2.2 61 1 n12201_Qv9).trans hr61_1)]; decide) ?_
                  refine ok.letE (v1 := 2) (by rw [((hFu8.2.2 61 1 n12201_Qv9).trans hr61_1)]) ?_
                  refine ok.letE (v1 := 22) (by decide) ?_
                  refine ok.ck (show 0 ≤ a_2u8.toInt ∧ a_2u8.toInt < ((9080 : Nat) : Int) from by omega) ?_
                  refine ok.wI (L := [4400]) hIu8 (show True from trivial) (show (4400 : Nat) ∈ [4400] from by decide) (by decide) (fun Z24 hIZ24 hFZ24 hkZ24 hoZ24 => ?_)
                  refine ok.bd (v_Judging_judgeAsking_J2 hIZ24 (((hFZ24.2.2 61 0 (show (12200 : Nat) ∉ [4400] from by decide)).trans (hFu8.2.2 61 0 n12200_Qv9)).trans hr61_0) (((hFZ24.2.2 61 1 (show (12201 : Nat) ∉ [4400] from by decide)).trans (hFu8.2.2 61 1 n12201_Qv9)).trans hr61_1) (((hFZ24.2.2 61 2 (show (12202 : Nat) ∉ [4400] from by decide)).trans (hFu8.2.2 61 2 n12202_Qv9)).trans hr61_2) (show 0 ≤ a_2u8.toInt ∧ a_2u8.toInt ≤ 9079 from by omega) (show (Z24.1 20 (ix a_2u8)).toInt = 32 → 0 ≤ (Z24.1 21 (ix a_2u8)).toInt ∧ (Z24.1 21 (ix a_2u8)).toInt ≤ 20000 from by have := (show (Z24.1 20 (ix a_2u8)).toInt = (X.1 20 (ix a_2u8)).toInt from congrArg Int32.toInt ((hFZ24.1 20 (ix a_2u8) (show (4000 : Nat) ∉ [4400] from by decide)).trans (hFu8.1 20 (ix a_2u8) n4000_Qv9))); have := (show 0 ≤ (X.1 20 (ix a_2u8)).toInt ∧ (X.1 20 (ix a_2u8)).toInt ≤ 36 from hI.1 20 (ix a_2u8)); have := (show (Z24.1 21 (ix a_2u8)).toInt = (X.1 21 (ix a_2u8)).toInt from congrArg Int32.toInt ((hFZ24.1 21 (ix a_2u8) (show (4200 : Nat) ∉ [4400] from by decide)).trans (hFu8.1 21 (ix a_2u8) n4200_Qv9))); omega)) ?_
                  rintro r_25 Z27 ⟨hFZ27, hIZ27⟩
                  unfold g_Judging_judgePart_172
                  refine ok.inc (by decide) (show _ ≤ a_2u8.toInt + (1) ∧ a_2u8.toInt + (1) ≤ _ from by omega) (fun x27 hx27 => ?_)
                  have hx27 : x27.toInt = a_2u8.toInt + (1) := hx27
                  exact ih_u8 a_1u8 x27 Z27 hIZ27 (((Fr.rf.tr hFu8 (fun _ q => q)).tr hFZ24 (by decide)).tr hFZ27 sQv8_Qv9) (show 0 ≤ a_1u8.toInt ∧ a_1u8.toInt ≤ 39 from by omega) (show a_1u8.toInt < (X.1 2 1).toInt from by have := (show 0 ≤ (X.1 2 1).toInt ∧ (X.1 2 1).toInt ≤ 40 from hI.1 2 1); omega) (show 0 ≤ x27.toInt ∧ x27.toInt ≤ 9080 from by omega) (show (9081 - x27.toInt).toNat < _ from by omega)
              · skip
                exact ok.ret ⟨(Fr.rf.tr hFu8 (fun _ q => q)), hIu8⟩
        exact lpu8 BIG a_1u3 (X.1 19 (ix a_1u3)) Zu3 hIu3 (Fr.rf.tr hFu3 (fun _ q => q)) (show 0 ≤ a_1u3.toInt ∧ a_1u3.toInt ≤ 39 from by omega) (show a_1u3.toInt < (X.1 2 1).toInt from by have := (show 0 ≤ (X.1 2 1).toInt ∧ (X.1 2 1).toInt ≤ 40 from hI.1 2 1); omega) (show 0 ≤ (X.1 19 (ix a_1u3)).toInt ∧ (X.1 19 (ix a_1u3)).toInt ≤ 9080 from by omega) (show (9081 - (X.1 19 (ix a_1u3)).toInt).toNat < BIG from ltBIG (show _ < 100000 from by omega))
      · skip
        refine ok.mul (show _ ≤ a_1u3.toInt * (4 : Int) ∧ a_1u3.toInt * (4 : Int) ≤ _ from by omega) (fun x39 hx39 => ?_)
        have hx39 : x39.toInt = a_1u3.toInt * (4 : Int) := hx39
        refine ok.add (show _ ≤ x39.toInt + a_2u3.toInt ∧ x39.toInt + a_2u3.toInt ≤ _ from by omega) (fun x40 hx40 => ?_)
        have hx40 : x40.toInt = x39.toInt + a_2u3.toInt := hx40
        refine ok.ck (show 0 ≤ x40.toInt ∧ x40.toInt < ((160 : Nat) : Int) from by omega) ?_
        refine ok.letE (v1 := (X.1 63 (ix x40))) (hFu3.1 63 (ix x40) n12600_Qv9) ?_
        refine ok.ck (show 0 ≤ a_2u3.toInt ∧ a_2u3.toInt < ((44 : Nat) : Int) from by omega) ?_
        refine ok.wI (L := [13200]) hIu3 (show True from trivial) (show (13200 : Nat) ∈ [13200] from by decide) (by decide) (fun Z28 hIZ28 hFZ28 hkZ28 hoZ28 => ?_)
        refine ok.inc (by decide) (show _ ≤ a_2u3.toInt + (1) ∧ a_2u3.toInt + (1) ≤ _ from by omega) (fun x43 hx43 => ?_)
        have hx43 : x43.toInt = a_2u3.toInt + (1) := hx43
        exact ih_u3 a_1u3 x43 Z28 hIZ28 ((Fr.rf.tr hFu3 (fun _ q => q)).tr hFZ28 (by decide)) (show 0 ≤ a_1u3.toInt ∧ a_1u3.toInt ≤ 39 from by omega) (show a_1u3.toInt < (X.1 2 1).toInt from by have := (show 0 ≤ (X.1 2 1).toInt ∧ (X.1 2 1).toInt ≤ 40 from hI.1 2 1); omega) (show 0 ≤ x43.toInt ∧ x43.toInt ≤ 4 from by omega) (show (5 - x43.toInt).toNat < _ from by omega)
  exact lpu3 BIG p1 (0 : Int32) Z2 hIZ2 ((Fr.rf.tr hFZ1 (by decide)).tr hFZ2 (by decide)) (show 0 ≤ p1.toInt ∧ p1.toInt ≤ 39 from by omega) (show p1.toInt < (X.1 2 1).toInt from by have := (show 0 ≤ (X.1 2 1).toInt ∧ (X.1 2 1).toInt ≤ 40 from hI.1 2 1); omega) (show 0 ≤ (0 : Int) ∧ (0 : Int) ≤ 4 from by omega) (show (5 - (0 : Int)).toNat < BIG from ltBIG (show _ < 100000 from by omega))
def Qv10 : List Nat := [600, 800, 1000, 1200, 1400, 1600, 1800, 2000, 4400, 11005, 11200, 11400, 11600, 11800, 12000, 12200, 12201, 12202, 12203, 12204, 12205, 12214, 12400, 12600, 12800, 13000, 13200, 13400, 13600, 13800]
theorem n401_Qv10 : (401 : Nat) ∉ Qv10 := by decide
theorem n406_Qv10 : (406 : Nat) ∉ Qv10 := by decide
theorem n4000_Qv10 : (4000 : Nat) ∉ Qv10 := by decide
theorem n4200_Qv10 : (4200 : Nat) ∉ Qv10 := by decide
theorem n3800_Qv10 : (3800 : Nat) ∉ Qv10 := by decide
theorem sQv9_Qv10 : ∀ k ∈ Qv9, k ∈ Qv10 := by decide
theorem n12200_Qv1 : (12200 : Nat) ∉ Qv1 := by decide
theorem sQv1_Qv10 : ∀ k ∈ Qv1, k ∈ Qv10 := by decide
set_option maxHeartbeats 4000000 in
theorem v_Judging_judgeAll_2_55 {X : St} (hI : INV X) (hP : PGC 2 20 21 19 X) : ok (g_Judging_judgeAll 2 55 X) (fun r Y => (Fr YC Qv10 X Y ∧ INV Y)) := by
  unfold g_Judging_judgeAll
  refine ok.wR (L := [12201]) hI (show (12201 : Nat) ∈ [12201] from by decide) (fun Z1 hIZ1 hFZ1 heZ1 hRZ1 => ?_)
  refine ok.letE (v1 := 3) (by decide) ?_
  refine ok.wR (L := [12202]) hIZ1 (show (12202 : Nat) ∈ [12202] from by decide) (fun Z2 hIZ2 hFZ2 heZ2 hRZ2 => ?_)
  refine ok.wR (L := [12200]) hIZ2 (show (12200 : Nat) ∈ [12200] from by decide) (fun Z3 hIZ3 hFZ3 heZ3 hRZ3 => ?_)
  refine ok.ck (by rw [((hFZ3.2.2 61 2 (show (12202 : Nat) ∉ [12200] from by decide)).trans hRZ2)]; decide) ?_
  refine ok.letE (v1 := 3) (by rw [((hFZ3.2.2 61 2 (show (12202 : Nat) ∉ [12200] from by decide)).trans hRZ2)]) ?_
  refine ok.ck (by rw [(((hFZ3.2.2 61 1 (show (12201 : Nat) ∉ [12200] from by decide)).trans (hFZ2.2.2 61 1 (show (12201 : Nat) ∉ [12202] from by decide))).trans hRZ1)]; decide) ?_
  refine ok.letE (v1 := 2) (by rw [(((hFZ3.2.2 61 1 (show (12201 : Nat) ∉ [12200] from by decide)).trans (hFZ2.2.2 61 1 (show (12201 : Nat) ∉ [12202] from by decide))).trans hRZ1)]) ?_
  refine ok.letE (v1 := (X.1 2 5)) (((congrFun (congrFun heZ3 2) 5).trans (congrFun (congrFun heZ2 2) 5)).trans (congrFun (congrFun heZ1 2) 5)) ?_
  refine ok.bd (v_Kinds_cutTo_3 hIZ3) ?_
  rintro r_4 Z6 ⟨hFZ6, hIZ6⟩
  refine ok.ck ((hFZ6.2.2 61 0 (show (12200 : Nat) ∉ [600, 1800] from by decide)).trans hRZ3) ?_
  refine ok.wI (L := [11005]) hIZ6 (show 0 ≤ (0 : Int) ∧ (0 : Int) ≤ 3000 from by omega) (show (11005 : Nat) ∈ [11005] from by decide) (by decide) (fun Z7 hIZ7 hFZ7 hkZ7 hoZ7 => ?_)
  refine ok.wI (L := [12204]) hIZ7 (show True from trivial) (show (12204 : Nat) ∈ [12204] from by decide) (by decide) (fun Z8 hIZ8 hFZ8 hkZ8 hoZ8 => ?_)
  refine ok.wI (L := [12205]) hIZ8 (show True from trivial) (show (12205 : Nat) ∈ [12205] from by decide) (by decide) (fun Z9 hIZ9 hFZ9 hkZ9 hoZ9 => ?_)
  have lpu10 : ∀ (n : Nat), ∀ (a_3u10 : Int32) (Zu10 : St), INV Zu10 → Fr YC Qv10 X Zu10 → (0 ≤ a_3u10.toInt ∧ a_3u10.toInt ≤ 40) → Zu10.2.2 61 0 = 56 → Zu10.2.2 61 2 = 4 → Zu10.2.2 61 1 = 3 → (41 - a_3u10.toInt).toNat < n → ok (g_Judging_judgeAll_61 n a_3u10 Zu10) (fun r Y => (Fr YC Qv10 X Y ∧ INV Y)) := by
    intro n
    unfold g_Judging_judgeAll_61
    refine lp_indN (P := fun (n : Nat) (r_u10 : Int32 → St → Option (Int32 × St)) => ∀ (a_3u10 : Int32) (Zu10 : St), INV Zu10 → Fr YC Qv10 X Zu10 → (0 ≤ a_3u10.toInt ∧ a_3u10.toInt ≤ 40) → Zu10.2.2 61 0 = 56 → Zu10.2.2 61 2 = 4 → Zu10.2.2 61 1 = 3 → (41 - a_3u10.toInt).toNat < n → ok (r_u10 a_3u10 Zu10) (fun r Y => (Fr YC Qv10 X Y ∧ INV Y))) ?_ ?_ n
    · intro a_3u10 Zu10 hIu10 hFu10 u10_0 u10x0 u10x1 u10x2 hm; exact absurd hm (Nat.not_lt_zero _)
    · intro n r_u10 ih_u10 a_3u10 Zu10 hIu10 hFu10 u10_0 u10x0 u10x1 u10x2 hmu10
      unfold g_Judging_judgeAll_61_s
      refine ok.ck (by rw [u10x2]; decide) ?_
      refine ok.letE (v1 := 2) (by rw [u10x2]) ?_
      refine ok.letE (v1 := (X.1 2 1)) (hFu10.1 2 1 n401_Qv10) ?_
      have g11 : 0 ≤ (X.1 2 1).toInt ∧ (X.1 2 1).toInt ≤ 40 := hI.1 2 1
      refine ok.ite (fun c12 => ?_) (fun c12 => ?_)
      · skip
        have lpu13 : ∀ (n : Nat), ∀ (a_3u13 : Int32) (Zu13 : St), INV Zu13 → Fr YC Qv10 X Zu13 → (0 ≤ a_3u13.toInt ∧ a_3u13.toInt ≤ 40) → Zu13.2.2 61 0 = 56 → Zu13.2.2 61 2 = 4 → Zu13.2.2 61 1 = 3 → (41 - a_3u13.toInt).toNat < n → ok (g_Judging_judgeAll_85 n a_3u13 Zu13) (fun r Y => (Fr YC Qv10 X Y ∧ INV Y)) := by
          intro n
          unfold g_Judging_judgeAll_85
          refine lp_indN (P := fun (n : Nat) (r_u13 : Int32 → St → Option (Int32 × St)) => ∀ (a_3u13 : Int32) (Zu13 : St), INV Zu13 → Fr YC Qv10 X Zu13 → (0 ≤ a_3u13.toInt ∧ a_3u13.toInt ≤ 40) → Zu13.2.2 61 0 = 56 → Zu13.2.2 61 2 = 4 → Zu13.2.2 61 1 = 3 → (41 - a_3u13.toInt).toNat < n → ok (r_u13 a_3u13 Zu13) (fun r Y => (Fr YC Qv10 X Y ∧ INV Y))) ?_ ?_ n
          · intro a_3u13 Zu13 hIu13 hFu13 u13_0 u13x0 u13x1 u13x2 hm; exact absurd hm (Nat.not_lt_zero _)
          · intro n r_u13 ih_u13 a_3u13 Zu13 hIu13 hFu13 u13_0 u13x0 u13x1 u13x2 hmu13
            unfold g_Judging_judgeAll_85_s
            refine ok.ck (by rw [u13x2]; decide) ?_
            refine ok.letE (v1 := 2) (by rw [u13x2]) ?_
            refine ok.letE (v1 := (X.1 2 1)) (hFu13.1 2 1 n401_Qv10) ?_
            refine ok.ite (fun c14 => ?_) (fun c14 => ?_)
            · skip
              exact ok.ret ⟨(Fr.rf.tr hFu13 (fun _ q => q)), hIu13⟩
            · skip
              refine ok.letE (v1 := (Zu13.1 61 4)) rfl ?_
              refine ok.ite (fun c15 => ?_) (fun c15 => ?_)
              · skip
                have g16 := i32_le (Zu13.1 61 4)
                refine ok.bd (v_Judging_judgePart_J2 hIu13 u13x0 u13x2 u13x1 (show 0 ≤ a_3u13.toInt ∧ a_3u13.toInt ≤ 39 from by omega) (show a_3u13.toInt < (Zu13.1 2 1).toInt from by have := (show (Zu13.1 2 1).toInt = (X.1 2 1).toInt from congrArg Int32.toInt (hFu13.1 2 1 n401_Qv10)); have := (show 0 ≤ (X.1 2 1).toInt ∧ (X.1 2 1).toInt ≤ 40 from hI.1 2 1); omega) (PGC.fr hP (Fr.rf.tr hFu13 (fun _ q => q)) ⟨n406_Qv10, n401_Qv10, fun j => n4000_Qv10, fun j => n4200_Qv10, fun j => n3800_Qv10⟩)) ?_
                rintro r_17 Z19 ⟨hFZ19, hIZ19⟩
                refine ok.inc (by decide) (show _ ≤ a_3u13.toInt + (1) ∧ a_3u13.toInt + (1) ≤ _ from by omega) (fun x18 hx18 => ?_)
                have hx18 : x18.toInt = a_3u13.toInt + (1) := hx18
                exact ih_u13 x18 Z19 hIZ19 ((Fr.rf.tr hFu13 (fun _ q => q)).tr hFZ19 sQv9_Qv10) (show 0 ≤ x18.toInt ∧ x18.toInt ≤ 40 from by omega) (show Z19.2.2 61 0 = 56 from ((hFZ19.2.2 61 0 n12200_Qv9).trans u13x0)) (show Z19.2.2 61 2 = 4 from ((hFZ19.2.2 61 2 n12202_Qv9).trans u13x1)) (show Z19.2.2 61 1 = 3 from ((hFZ19.2.2 61 1 n12201_Qv9).trans u13x2)) (show (41 - x18.toInt).toNat < _ from by omega)
              · skip
                exact ok.ret ⟨(Fr.rf.tr hFu13 (fun _ q => q)), hIu13⟩
        exact lpu13 BIG (0 : Int32) Zu10 hIu10 (Fr.rf.tr hFu10 (fun _ q => q)) (show 0 ≤ (0 : Int) ∧ (0 : Int) ≤ 40 from by omega) (show Zu10.2.2 61 0 = 56 from u10x0) (show Zu10.2.2 61 2 = 4 from u10x1) (show Zu10.2.2 61 1 = 3 from u10x2) (show (41 - (0 : Int)).toNat < BIG from ltBIG (show _ < 100000 from by omega))
      · skip
        refine ok.bd (v_Judging_takeHeader_J2 hIu10 u10x2 u10x1 (show 0 ≤ a_3u10.toInt ∧ a_3u10.toInt ≤ 39 from by omega)) ?_
        rintro r_20 Z22 ⟨hFZ22, hIZ22⟩
        refine ok.inc (by decide) (show _ ≤ a_3u10.toInt + (1) ∧ a_3u10.toInt + (1) ≤ _ from by omega) (fun x20 hx20 => ?_)
        have hx20 : x20.toInt = a_3u10.toInt + (1) := hx20
        exact ih_u10 x20 Z22 hIZ22 ((Fr.rf.tr hFu10 (fun _ q => q)).tr hFZ22 sQv1_Qv10) (show 0 ≤ x20.toInt ∧ x20.toInt ≤ 40 from by omega) (show Z22.2.2 61 0 = 56 from ((hFZ22.2.2 61 0 n12200_Qv1).trans u10x0)) (show Z22.2.2 61 2 = 4 from ((hFZ22.2.2 61 2 n12202_Qv1).trans u10x1)) (show Z22.2.2 61 1 = 3 from ((hFZ22.2.2 61 1 n12201_Qv1).trans u10x2)) (show (41 - x20.toInt).toNat < _ from by omega)
  exact lpu10 BIG (0 : Int32) Z9 hIZ9 (((((((Fr.rf.tr hFZ1 (by decide)).tr hFZ2 (by decide)).tr hFZ3 (by decide)).tr hFZ6 (by decide)).tr hFZ7 (by decide)).tr hFZ8 (by decide)).tr hFZ9 (by decide)) (show 0 ≤ (0 : Int) ∧ (0 : Int) ≤ 40 from by omega) (show Z9.2.2 61 0 = 56 from (((((hFZ9.2.2 61 0 (show (12200 : Nat) ∉ [12205] from by decide)).trans (hFZ8.2.2 61 0 (show (12200 : Nat) ∉ [12204] from by decide))).trans (hFZ7.2.2 61 0 (show (12200 : Nat) ∉ [11005] from by decide))).trans (hFZ6.2.2 61 0 (show (12200 : Nat) ∉ [600, 1800] from by decide))).trans hRZ3)) (show Z9.2.2 61 2 = 4 from ((((((hFZ9.2.2 61 2 (show (12202 : Nat) ∉ [12205] from by decide)).trans (hFZ8.2.2 61 2 (show (12202 : Nat) ∉ [12204] from by decide))).trans (hFZ7.2.2 61 2 (show (12202 : Nat) ∉ [11005] from by decide))).trans (hFZ6.2.2 61 2 (show (12202 : Nat) ∉ [600, 1800] from by decide))).trans (hFZ3.2.2 61 2 (show (12202 : Nat) ∉ [12200] from by decide))).trans hRZ2)) (show Z9.2.2 61 1 = 3 from (((((((hFZ9.2.2 61 1 (show (12201 : Nat) ∉ [12205] from by decide)).trans (hFZ8.2.2 61 1 (show (12201 : Nat) ∉ [12204] from by decide))).trans (hFZ7.2.2 61 1 (show (12201 : Nat) ∉ [11005] from by decide))).trans (hFZ6.2.2 61 1 (show (12201 : Nat) ∉ [600, 1800] from by decide))).trans (hFZ3.2.2 61 1 (show (12201 : Nat) ∉ [12200] from by decide))).trans (hFZ2.2.2 61 1 (show (12201 : Nat) ∉ [12202] from by decide))).trans hRZ1)) (show (41 - (0 : Int)).toNat < BIG from ltBIG (show _ < 100000 from by omega))
def Qv11 : List Nat := [14000, 14002, 14003, 14004, 14005, 14006, 14007, 14008, 14009, 14010, 14011, 14015, 14018, 14200, 14201, 14202, 14400, 14600, 14800, 15000, 15200, 15400, 15600, 15800, 16000, 16200, 16400, 16600, 16800, 17000, 17200, 17400]
set_option maxHeartbeats 4000000 in
theorem v_JArrays_fill_87 {p1 : Int32} {X : St} (hI : INV X) : ok (g_JArrays_fill 87 p1 X) (fun r Y => (Fr YC [17400] X Y ∧ INV Y)) := by
  unfold g_JArrays_fill
  refine ok.letE (v1 := (1600 : Int32)) (by decide) ?_
  have lpu1 : ∀ (n : Nat), ∀ (a_1u1 : Int32) (a_2u1 : Int32) (a_3u1 : Int32) (Zu1 : St), INV Zu1 → Fr YC [17400] X Zu1 → (0 ≤ a_2u1.toInt ∧ a_2u1.toInt ≤ a_3u1.toInt) → (a_3u1.toInt = 1600) → (a_3u1.toInt - a_2u1.toInt).toNat + 1 < n → ok (g_JArrays_fill_5 n 87 a_1u1 a_2u1 a_3u1 Zu1) (fun r Y => (Fr YC [17400] X Y ∧ INV Y)) := by
    intro n
    unfold g_JArrays_fill_5
    refine lp_indN (P := fun (n : Nat) (r_u1 : Nat → Int32 → Int32 → Int32 → St → Option (Int32 × St)) => ∀ (a_1u1 : Int32) (a_2u1 : Int32) (a_3u1 : Int32) (Zu1 : St), INV Zu1 → Fr YC [17400] X Zu1 → (0 ≤ a_2u1.toInt ∧ a_2u1.toInt ≤ a_3u1.toInt) → (a_3u1.toInt = 1600) → (a_3u1.toInt - a_2u1.toInt).toNat + 1 < n → ok (r_u1 87 a_1u1 a_2u1 a_3u1 Zu1) (fun r Y => (Fr YC [17400] X Y ∧ INV Y))) ?_ ?_ n
    · intro a_1u1 a_2u1 a_3u1 Zu1 hIu1 hFu1 u1_0 u1_1  hm; exact absurd hm (Nat.not_lt_zero _)
    · intro n r_u1 ih_u1 a_1u1 a_2u1 a_3u1 Zu1 hIu1 hFu1 u1_0 u1_1  hmu1
      unfold g_JArrays_fill_5_s
      refine ok.ite (fun c2 => ?_) (fun c2 => ?_)
      · skip
        exact ok.ret ⟨(Fr.rf.tr hFu1 (fun _ q => q)), hIu1⟩
      · skip
        refine ok.ck (show 0 ≤ a_2u1.toInt ∧ a_2u1.toInt < ((1600 : Nat) : Int) from by omega) ?_
        refine ok.wI (L := [17400]) hIu1 (show True from trivial) (show (17400 : Nat) ∈ [17400] from by decide) (by decide) (fun Z3 hIZ3 hFZ3 hkZ3 hoZ3 => ?_)
        refine ok.inc (by decide) (show _ ≤ a_2u1.toInt + (1) ∧ a_2u1.toInt + (1) ≤ _ from by omega) (fun x3 hx3 => ?_)
        have hx3 : x3.toInt = a_2u1.toInt + (1) := hx3
        exact ih_u1 a_1u1 x3 a_3u1 Z3 hIZ3 ((Fr.rf.tr hFu1 (fun _ q => q)).tr hFZ3 (fun _ q => q)) (show 0 ≤ x3.toInt ∧ x3.toInt ≤ a_3u1.toInt from by omega) (show a_3u1.toInt = 1600 from by omega) (show (a_3u1.toInt - x3.toInt).toNat + 1 < _ from by omega)
  exact lpu1 BIG p1 (0 : Int32) (1600 : Int32) X hI (Fr.rf : Fr YC [17400] _ _) (show 0 ≤ (0 : Int) ∧ (0 : Int) ≤ (1600 : Int) from by omega) (show (1600 : Int) = 1600 from by omega) (show ((1600 : Int) - (0 : Int)).toNat + 1 < BIG from ltBIG (show _ < 100000 from by omega))
set_option maxHeartbeats 4000000 in
theorem v_Running_push {q1 : Int64} {X : St} (hI : INV X) : ok (g_Running_push q1 X) (fun r Y => (Fr YC [14015, 16800] X Y ∧ INV Y)) := by
  unfold g_Running_push
  refine ok.letE (v1 := (X.1 70 15)) rfl ?_
  have g1 : 0 ≤ (X.1 70 15).toInt ∧ (X.1 70 15).toInt ≤ 20002 := hI.1 70 15
  refine ok.ite (fun c2 => ?_) (fun c2 => ?_)
  · skip
    exact ok.ret ⟨(Fr.rf : Fr YC [14015, 16800] _ _), hI⟩
  · skip
    refine ok.letE (v1 := (X.1 70 15)) rfl ?_
    refine ok.ck (show 0 ≤ (X.1 70 15).toInt ∧ (X.1 70 15).toInt < ((20002 : Nat) : Int) from by omega) ?_
    refine ok.wL (L := [16800]) hI (show (16800 : Nat) ∈ [16800] from by decide) (fun Z3 hIZ3 hFZ3 heZ3 => ?_)
    refine ok.letE (v1 := (X.1 70 15)) (congrFun (congrFun heZ3 70) 15) ?_
    refine ok.add (show _ ≤ (X.1 70 15).toInt + (1 : Int) ∧ (X.1 70 15).toInt + (1 : Int) ≤ _ from by omega) (fun x5 hx5 => ?_)
    have hx5 : x5.toInt = (X.1 70 15).toInt + (1 : Int) := hx5
    refine ok.wI (L := [14015]) hIZ3 (show 0 ≤ x5.toInt ∧ x5.toInt ≤ 20002 from by omega) (show (14015 : Nat) ∈ [14015] from by decide) (by decide) (fun Z4 hIZ4 hFZ4 hkZ4 hoZ4 => ?_)
    exact ok.ret ⟨((Fr.rf.tr hFZ3 (by decide)).tr hFZ4 (by decide)), hIZ4⟩
def Qv12 : List Nat := [14004, 14005, 14006, 14010, 14011, 14015, 16400, 16600]
theorem n14002_Qv12 : (14002 : Nat) ∉ Qv12 := by decide
theorem n401_Qv12 : (401 : Nat) ∉ Qv12 := by decide
theorem n3800_Qv12 : (3800 : Nat) ∉ Qv12 := by decide
set_option maxHeartbeats 4000000 in
theorem v_Running_slotAt {p1 : Int32} {X : St} (hI : INV X) : ok (g_Running_slotAt p1 X) (fun r Y => (X = Y) ∧ (0 ≤ r.toInt ∧ r.toInt ≤ 4399)) := by
  unfold g_Running_slotAt
  refine ok.letE (v1 := (X.1 70 11)) rfl ?_
  have g1 : 0 ≤ (X.1 70 11).toInt ∧ (X.1 70 11).toInt ≤ 100 := hI.1 70 11
  refine ok.sub (show _ ≤ (X.1 70 11).toInt - (1 : Int) ∧ (X.1 70 11).toInt - (1 : Int) ≤ _ from by omega) (fun x2 hx2 => ?_)
  have hx2 : x2.toInt = (X.1 70 11).toInt - (1 : Int) := hx2
  refine ok.mul (show _ ≤ x2.toInt * (44 : Int) ∧ x2.toInt * (44 : Int) ≤ _ from by omega) (fun x3 hx3 => ?_)
  have hx3 : x3.toInt = x2.toInt * (44 : Int) := hx3
  refine ok.any (fun x4 => ?_)
  refine ok.ite (fun c2 => ?_) (fun c2 => ?_)
  · skip
    have g3 := i32_le x4
    exact ok.ret ⟨rfl, (show 0 ≤ (0 : Int) ∧ (0 : Int) ≤ 4399 from by omega)⟩
  · skip
    have g4 := i32_le x4
    refine ok.ite (fun c5 => ?_) (fun c5 => ?_)
    · skip
      exact ok.ret ⟨rfl, (show 0 ≤ (0 : Int) ∧ (0 : Int) ≤ 4399 from by omega)⟩
    · skip
      exact ok.ret ⟨rfl, (show 0 ≤ x4.toInt ∧ x4.toInt ≤ 4399 from by omega)⟩
set_option maxHeartbeats 4000000 in
theorem v_Running_pop {X : St} (hI : INV X) : ok (g_Running_pop X) (fun r Y => (Fr YC [14015] X Y ∧ INV Y)) := by
  unfold g_Running_pop
  refine ok.letE (v1 := (X.1 70 15)) rfl ?_
  have g1 : 0 ≤ (X.1 70 15).toInt ∧ (X.1 70 15).toInt ≤ 20002 := hI.1 70 15
  refine ok.ite (fun c2 => ?_) (fun c2 => ?_)
  · skip
    refine ok.letE (v1 := (X.1 70 15)) rfl ?_
    refine ok.sub (show _ ≤ (X.1 70 15).toInt - (1 : Int) ∧ (X.1 70 15).toInt - (1 : Int) ≤ _ from by omega) (fun x3 hx3 => ?_)
    have hx3 : x3.toInt = (X.1 70 15).toInt - (1 : Int) := hx3
    refine ok.wI (L := [14015]) hI (show 0 ≤ x3.toInt ∧ x3.toInt ≤ 20002 from by omega) (show (14015 : Nat) ∈ [14015] from by decide) (by decide) (fun Z3 hIZ3 hFZ3 hkZ3 hoZ3 => ?_)
    refine ok.letE (v1 := x3) hkZ3 ?_
    refine ok.ck (show 0 ≤ x3.toInt ∧ x3.toInt < ((20002 : Nat) : Int) from by omega) ?_
    refine ok.any (fun y6 => ?_)
    exact ok.ret ⟨(Fr.rf.tr hFZ3 (fun _ q => q)), hIZ3⟩
  · skip
    exact ok.ret ⟨(Fr.rf : Fr YC [14015] _ _), hI⟩
set_option maxHeartbeats 4000000 in
theorem v_Running_failWith {p1 : Int32} {p2 : Int32} {X : St} (hI : INV X) : ok (g_Running_failWith p1 p2 X) (fun r Y => (Fr YC [14004, 14005, 14006] X Y ∧ INV Y)) := by
  unfold g_Running_failWith
  refine ok.letE (v1 := (X.1 70 4)) rfl ?_
  refine ok.ite (fun c1 => ?_) (fun c1 => ?_)
  · skip
    have g2 := i32_le (X.1 70 4)
    exact ok.ret ⟨(Fr.rf : Fr YC [14004, 14005, 14006] _ _), hI⟩
  · skip
    refine ok.wI (L := [14004]) hI (show True from trivial) (show (14004 : Nat) ∈ [14004] from by decide) (by decide) (fun Z3 hIZ3 hFZ3 hkZ3 hoZ3 => ?_)
    refine ok.wI (L := [14005]) hIZ3 (show True from trivial) (show (14005 : Nat) ∈ [14005] from by decide) (by decide) (fun Z4 hIZ4 hFZ4 hkZ4 hoZ4 => ?_)
    refine ok.wI (L := [14006]) hIZ4 (show True from trivial) (show (14006 : Nat) ∈ [14006] from by decide) (by decide) (fun Z5 hIZ5 hFZ5 hkZ5 hoZ5 => ?_)
    exact ok.ret ⟨(((Fr.rf.tr hFZ3 (by decide)).tr hFZ4 (by decide)).tr hFZ5 (by decide)), hIZ5⟩
set_option maxHeartbeats 4000000 in
theorem v_Running_enterPart_N2 {p1 : Int32} {p2 : Int32} {p3 : Int32} {X : St} (hI : INV X) (hr70_2 : X.2.2 70 2 = 3) (h0 : 0 ≤ p2.toInt ∧ p2.toInt ≤ 20002) : ok (g_Running_enterPart p1 p2 p3 X) (fun r Y => (Fr YC Qv12 X Y ∧ INV Y)) := by
  unfold g_Running_enterPart
  refine ok.letE (v1 := (X.1 70 11)) rfl ?_
  have g1 : 0 ≤ (X.1 70 11).toInt ∧ (X.1 70 11).toInt ≤ 100 := hI.1 70 11
  refine ok.ite (fun c2 => ?_) (fun c2 => ?_)
  · skip
    refine ok.letE (v1 := (X.1 70 11)) rfl ?_
    refine ok.letE (v1 := (X.1 70 10)) rfl ?_
    refine ok.ck (show 0 ≤ (X.1 70 11).toInt ∧ (X.1 70 11).toInt < ((100 : Nat) : Int) from by omega) ?_
    refine ok.wI (L := [16400]) hI (show True from trivial) (show (16400 : Nat) ∈ [16400] from by decide) (by decide) (fun Z3 hIZ3 hFZ3 hkZ3 hoZ3 => ?_)
    refine ok.letE (v1 := (X.1 70 11)) (hFZ3.1 70 11 (show (14011 : Nat) ∉ [16400] from by decide)) ?_
    refine ok.add (show _ ≤ (X.1 70 11).toInt + (1 : Int) ∧ (X.1 70 11).toInt + (1 : Int) ≤ _ from by omega) (fun x6 hx6 => ?_)
    have hx6 : x6.toInt = (X.1 70 11).toInt + (1 : Int) := hx6
    refine ok.wI (L := [14011]) hIZ3 (show 0 ≤ x6.toInt ∧ x6.toInt ≤ 100 from by omega) (show (14011 : Nat) ∈ [14011] from by decide) (by decide) (fun Z4 hIZ4 hFZ4 hkZ4 hoZ4 => ?_)
    refine ok.sub (show _ ≤ p2.toInt - (1 : Int) ∧ p2.toInt - (1 : Int) ≤ _ from by omega) (fun x8 hx8 => ?_)
    have hx8 : x8.toInt = p2.toInt - (1 : Int) := hx8
    have lpu5 : ∀ (n : Nat), ∀ (a_1u5 : Int32) (a_4u5 : Int32) (Zu5 : St), INV Zu5 → Fr YC Qv12 X Zu5 → (-1 ≤ a_4u5.toInt ∧ a_4u5.toInt ≤ 20001) → (a_4u5.toInt + 1).toNat < n → ok (g_Running_enterPart_44 n a_1u5 a_4u5 Zu5) (fun r Y => (Fr YC Qv12 X Y ∧ INV Y)) := by
      intro n
      unfold g_Running_enterPart_44
      refine lp_indN (P := fun (n : Nat) (r_u5 : Int32 → Int32 → St → Option (Int32 × St)) => ∀ (a_1u5 : Int32) (a_4u5 : Int32) (Zu5 : St), INV Zu5 → Fr YC Qv12 X Zu5 → (-1 ≤ a_4u5.toInt ∧ a_4u5.toInt ≤ 20001) → (a_4u5.toInt + 1).toNat < n → ok (r_u5 a_1u5 a_4u5 Zu5) (fun r Y => (Fr YC Qv12 X Y ∧ INV Y))) ?_ ?_ n
      · intro a_1u5 a_4u5 Zu5 hIu5 hFu5 u5_0  hm; exact absurd hm (Nat.not_lt_zero _)
      · intro n r_u5 ih_u5 a_1u5 a_4u5 Zu5 hIu5 hFu5 u5_0  hmu5
        unfold g_Running_enterPart_44_s
        refine ok.ite (fun c6 => ?_) (fun c6 => ?_)
        · skip
          refine ok.ite (fun c7 => ?_) (fun c7 => ?_)
          · skip
            have g8 := i32_le a_1u5
            unfold g_Running_enterPart_98
            unfold g_Running_enterPart_99
            refine ok.wI (L := [14010]) hIu5 (show True from trivial) (show (14010 : Nat) ∈ [14010] from by decide) (by decide) (fun Z9 hIZ9 hFZ9 hkZ9 hoZ9 => ?_)
            exact ok.ret ⟨((Fr.rf.tr hFu5 (fun _ q => q)).tr hFZ9 (by decide)), hIZ9⟩
          · skip
            have g10 := i32_le a_1u5
            refine ok.ck (by rw [((hFu5.2.2 70 2 n14002_Qv12).trans hr70_2)]; decide) ?_
            refine ok.letE (v1 := 2) (by rw [((hFu5.2.2 70 2 n14002_Qv12).trans hr70_2)]) ?_
            refine ok.letE (v1 := (X.1 2 1)) (hFu5.1 2 1 n401_Qv12) ?_
            have g11 : 0 ≤ (X.1 2 1).toInt ∧ (X.1 2 1).toInt ≤ 40 := hI.1 2 1
            refine ok.ite (fun c12 => ?_) (fun c12 => ?_)
            · skip
              unfold g_Running_enterPart_98
              unfold g_Running_enterPart_99
              refine ok.wI (L := [14010]) hIu5 (show True from trivial) (show (14010 : Nat) ∈ [14010] from by decide) (by decide) (fun Z13 hIZ13 hFZ13 hkZ13 hoZ13 => ?_)
              exact ok.ret ⟨((Fr.rf.tr hFu5 (fun _ q => q)).tr hFZ13 (by decide)), hIZ13⟩
            · skip
              refine ok.ck (by rw [((hFu5.2.2 70 2 n14002_Qv12).trans hr70_2)]; decide) ?_
              refine ok.letE (v1 := 2) (by rw [((hFu5.2.2 70 2 n14002_Qv12).trans hr70_2)]) ?_
              refine ok.letE (v1 := 19) (by decide) ?_
              refine ok.ck (show 0 ≤ a_1u5.toInt ∧ a_1u5.toInt < ((41 : Nat) : Int) from by omega) ?_
              refine ok.letE (v1 := (X.1 19 (ix a_1u5))) (hFu5.1 19 (ix a_1u5) n3800_Qv12) ?_
              have g14 : 0 ≤ (X.1 19 (ix a_1u5)).toInt ∧ (X.1 19 (ix a_1u5)).toInt ≤ 9080 := hI.1 19 (ix a_1u5)
              unfold g_Running_enterPart_99
              refine ok.wI (L := [14010]) hIu5 (show True from trivial) (show (14010 : Nat) ∈ [14010] from by decide) (by decide) (fun Z15 hIZ15 hFZ15 hkZ15 hoZ15 => ?_)
              exact ok.ret ⟨((Fr.rf.tr hFu5 (fun _ q => q)).tr hFZ15 (by decide)), hIZ15⟩
        · skip
          refine ok.bd (v_Running_slotAt hIu5) ?_
          rintro x15 _ ⟨rfl, hp16⟩
          have hp16 : 0 ≤ x15.toInt ∧ x15.toInt ≤ 4399 := hp16
          refine ok.bd (v_Running_pop hIu5) ?_
          rintro y17 Z18 ⟨hFZ18, hIZ18⟩
          refine ok.ck (show 0 ≤ x15.toInt ∧ x15.toInt < ((4400 : Nat) : Int) from by omega) ?_
          refine ok.wL (L := [16600]) hIZ18 (show (16600 : Nat) ∈ [16600] from by decide) (fun Z19 hIZ19 hFZ19 heZ19 => ?_)
          refine ok.inc (by decide) (show _ ≤ a_4u5.toInt + (-1) ∧ a_4u5.toInt + (-1) ≤ _ from by omega) (fun x20 hx20 => ?_)
          have hx20 : x20.toInt = a_4u5.toInt + (-1) := hx20
          exact ih_u5 a_1u5 x20 Z19 hIZ19 (((Fr.rf.tr hFu5 (fun _ q => q)).tr hFZ18 (by decide)).tr hFZ19 (by decide)) (show -1 ≤ x20.toInt ∧ x20.toInt ≤ 20001 from by omega) (show (x20.toInt + 1).toNat < _ from by omega)
    exact lpu5 BIG p1 x8 Z4 hIZ4 ((Fr.rf.tr hFZ3 (by decide)).tr hFZ4 (by decide)) (show -1 ≤ x8.toInt ∧ x8.toInt ≤ 20001 from by omega) (show (x8.toInt + 1).toNat < BIG from ltBIG (show _ < 100000 from by omega))
  · skip
    refine ok.bd (v_Running_failWith hI) ?_
    rintro r_20 Z22 ⟨hFZ22, hIZ22⟩
    exact ok.ret ⟨(Fr.rf.tr hFZ22 (by decide)), hIZ22⟩
theorem n406_Qv11 : (406 : Nat) ∉ Qv11 := by decide
theorem n4000_Qv11 : (4000 : Nat) ∉ Qv11 := by decide
theorem n4200_Qv11 : (4200 : Nat) ∉ Qv11 := by decide
theorem n4600_Qv11 : (4600 : Nat) ∉ Qv11 := by decide
def Qv13 : List Nat := [14004, 14005, 14006, 14009, 14010, 14015, 16600, 16800]
set_option maxHeartbeats 4000000 in
theorem v_Running_makeSteps {p1 : Int32} {p2 : Int32} {X : St} (hI : INV X) : ok (g_Running_makeSteps p1 p2 X) (fun r Y => (Fr YC [14004, 14005, 14006, 14009] X Y ∧ INV Y)) := by
  unfold g_Running_makeSteps
  refine ok.letE (v1 := (X.1 70 8)) rfl ?_
  refine ok.letE (v1 := (X.1 70 9)) rfl ?_
  refine ok.any (fun x3 => ?_)
  refine ok.ite (fun c1 => ?_) (fun c1 => ?_)
  · skip
    refine ok.letE (v1 := (X.1 70 9)) rfl ?_
    refine ok.any (fun x5 => ?_)
    refine ok.wI (L := [14009]) hI (show True from trivial) (show (14009 : Nat) ∈ [14009] from by decide) (by decide) (fun Z2 hIZ2 hFZ2 hkZ2 hoZ2 => ?_)
    exact ok.ret ⟨(Fr.rf.tr hFZ2 (by decide)), hIZ2⟩
  · skip
    have g3 := i32_le p1
    have g4 := i32_le x3
    refine ok.letE (v1 := (X.1 70 8)) rfl ?_
    refine ok.wI (L := [14009]) hI (show True from trivial) (show (14009 : Nat) ∈ [14009] from by decide) (by decide) (fun Z5 hIZ5 hFZ5 hkZ5 hoZ5 => ?_)
    refine ok.bd (v_Running_failWith hIZ5) ?_
    rintro r_6 Z8 ⟨hFZ8, hIZ8⟩
    exact ok.ret ⟨((Fr.rf.tr hFZ5 (by decide)).tr hFZ8 (by decide)), hIZ8⟩
theorem s14004x14005x14006x14009_Qv13 : ∀ k ∈ [14004, 14005, 14006, 14009], k ∈ Qv13 := by decide
set_option maxHeartbeats 4000000 in
theorem v_Running_pushNumber {p1 : Int32} {X : St} (hI : INV X) : ok (g_Running_pushNumber p1 X) (fun r Y => (Fr YC [14015, 16800] X Y ∧ INV Y)) := by
  unfold g_Running_pushNumber
  refine ok.bd (v_Heap_valueOf hI) ?_
  rintro y1 _ rfl
  refine ok.bd (v_Running_push hI) ?_
  rintro r_2 Z4 ⟨hFZ4, hIZ4⟩
  exact ok.ret ⟨(Fr.rf.tr hFZ4 (fun _ q => q)), hIZ4⟩
set_option maxHeartbeats 4000000 in
theorem v_Running_pushTruth {p1 : Int32} {X : St} (hI : INV X) : ok (g_Running_pushTruth p1 X) (fun r Y => (Fr YC [14015, 16800] X Y ∧ INV Y)) := by
  unfold g_Running_pushTruth
  refine ok.ite (fun c1 => ?_) (fun c1 => ?_)
  · skip
    have g2 := i32_le p1
    unfold g_Running_pushTruth_11
    refine ok.bd (v_Heap_valueOf hI) ?_
    rintro y1 _ rfl
    refine ok.bd (v_Running_push hI) ?_
    rintro r_4 Z6 ⟨hFZ6, hIZ6⟩
    exact ok.ret ⟨(Fr.rf.tr hFZ6 (fun _ q => q)), hIZ6⟩
  · skip
    unfold g_Running_pushTruth_11
    refine ok.bd (v_Heap_valueOf hI) ?_
    rintro y1 _ rfl
    refine ok.bd (v_Running_push hI) ?_
    rintro r_8 Z10 ⟨hFZ10, hIZ10⟩
    exact ok.ret ⟨(Fr.rf.tr hFZ10 (fun _ q => q)), hIZ10⟩
set_option maxHeartbeats 4000000 in
theorem v_Running_popContent {X : St} (hI : INV X) : ok (g_Running_popContent X) (fun r Y => (Fr YC [14015] X Y ∧ INV Y)) := by
  unfold g_Running_popContent
  refine ok.bd (v_Running_pop hI) ?_
  rintro y1 Z2 ⟨hFZ2, hIZ2⟩
  refine ok.bd (v_Heap_contentOf hIZ2) ?_
  rintro x3 _ rfl
  exact ok.ret ⟨(Fr.rf.tr hFZ2 (fun _ q => q)), hIZ2⟩
set_option maxHeartbeats 4000000 in
theorem v_Running_workPlain {p1 : Int32} {p2 : Int32} {p3 : Int32} {X : St} (hI : INV X) : ok (g_Running_workPlain p1 p2 p3 X) (fun r Y => (Fr YC Qv13 X Y ∧ INV Y)) := by
  unfold g_Running_workPlain
  refine ok.ite (fun c1 => ?_) (fun c1 => ?_)
  · skip
    have g2 := i32_le p1
    refine ok.bd (v_Running_makeSteps hI) ?_
    rintro r_3 Z5 ⟨hFZ5, hIZ5⟩
    exact ok.ret ⟨(Fr.rf.tr hFZ5 s14004x14005x14006x14009_Qv13), hIZ5⟩
  · skip
    refine ok.ite (fun c6 => ?_) (fun c6 => ?_)
    · skip
      have g7 := i32_le p1
      refine ok.bd (v_Running_pushNumber hI) ?_
      rintro r_8 Z10 ⟨hFZ10, hIZ10⟩
      exact ok.ret ⟨(Fr.rf.tr hFZ10 (by decide)), hIZ10⟩
    · skip
      refine ok.ite (fun c11 => ?_) (fun c11 => ?_)
      · skip
        have g12 := i32_le p1
        refine ok.ite (fun c13 => ?_) (fun c13 => ?_)
        · skip
          have g14 := i32_le p2
          unfold g_Running_workPlain_83
          refine ok.bd (v_Running_pushTruth hI) ?_
          rintro r_15 Z17 ⟨hFZ17, hIZ17⟩
          exact ok.ret ⟨(Fr.rf.tr hFZ17 (by decide)), hIZ17⟩
        · skip
          unfold g_Running_workPlain_83
          refine ok.bd (v_Running_pushTruth hI) ?_
          rintro r_18 Z20 ⟨hFZ20, hIZ20⟩
          exact ok.ret ⟨(Fr.rf.tr hFZ20 (by decide)), hIZ20⟩
      · skip
        refine ok.ite (fun c21 => ?_) (fun c21 => ?_)
        · skip
          have g22 := i32_le p1
          refine ok.bd (v_Running_slotAt hI) ?_
          rintro x8 _ ⟨rfl, hp23⟩
          have hp23 : 0 ≤ x8.toInt ∧ x8.toInt ≤ 4399 := hp23
          refine ok.ck (show 0 ≤ x8.toInt ∧ x8.toInt < ((4400 : Nat) : Int) from by omega) ?_
          refine ok.any (fun y10 => ?_)
          refine ok.bd (v_Running_push hI) ?_
          rintro r_24 Z26 ⟨hFZ26, hIZ26⟩
          exact ok.ret ⟨(Fr.rf.tr hFZ26 (by decide)), hIZ26⟩
        · skip
          refine ok.ite (fun c27 => ?_) (fun c27 => ?_)
          · skip
            have g28 := i32_le p1
            refine ok.bd (v_Heap_valueOf hI) ?_
            rintro y13 _ rfl
            refine ok.bd (v_Running_push hI) ?_
            rintro r_30 Z32 ⟨hFZ32, hIZ32⟩
            exact ok.ret ⟨(Fr.rf.tr hFZ32 (by decide)), hIZ32⟩
          · skip
            refine ok.ite (fun c33 => ?_) (fun c33 => ?_)
            · skip
              have g34 := i32_le p1
              refine ok.bd (v_Running_slotAt hI) ?_
              rintro x17 _ ⟨rfl, hp35⟩
              have hp35 : 0 ≤ x17.toInt ∧ x17.toInt ≤ 4399 := hp35
              refine ok.bd (v_Running_pop hI) ?_
              rintro y19 Z37 ⟨hFZ37, hIZ37⟩
              refine ok.ck (show 0 ≤ x17.toInt ∧ x17.toInt < ((4400 : Nat) : Int) from by omega) ?_
              refine ok.wL (L := [16600]) hIZ37 (show (16600 : Nat) ∈ [16600] from by decide) (fun Z38 hIZ38 hFZ38 heZ38 => ?_)
              exact ok.ret ⟨((Fr.rf.tr hFZ37 (by decide)).tr hFZ38 (by decide)), hIZ38⟩
            · skip
              refine ok.ite (fun c39 => ?_) (fun c39 => ?_)
              · skip
                have g40 := i32_le p1
                refine ok.bd (v_Running_popContent hI) ?_
                rintro x23 Z42 ⟨hFZ42, hIZ42⟩
                refine ok.ite (fun c43 => ?_) (fun c43 => ?_)
                · skip
                  have g44 := i32_le x23
                  refine ok.wI (L := [14010]) hIZ42 (show True from trivial) (show (14010 : Nat) ∈ [14010] from by decide) (by decide) (fun Z45 hIZ45 hFZ45 hkZ45 hoZ45 => ?_)
                  exact ok.ret ⟨((Fr.rf.tr hFZ42 (by decide)).tr hFZ45 (by decide)), hIZ45⟩
                · skip
                  exact ok.ret ⟨(Fr.rf.tr hFZ42 (by decide)), hIZ42⟩
              · skip
                refine ok.ite (fun c46 => ?_) (fun c46 => ?_)
                · skip
                  have g47 := i32_le p1
                  refine ok.wI (L := [14010]) hI (show True from trivial) (show (14010 : Nat) ∈ [14010] from by decide) (by decide) (fun Z48 hIZ48 hFZ48 hkZ48 hoZ48 => ?_)
                  exact ok.ret ⟨(Fr.rf.tr hFZ48 (by decide)), hIZ48⟩
                · skip
                  refine ok.ite (fun c49 => ?_) (fun c49 => ?_)
                  · skip
                    have g50 := i32_le p1
                    refine ok.bd (v_Running_pop hI) ?_
                    rintro y29 Z52 ⟨hFZ52, hIZ52⟩
                    exact ok.ret ⟨(Fr.rf.tr hFZ52 (by decide)), hIZ52⟩
                  · skip
                    exact ok.ret ⟨(Fr.rf : Fr YC Qv13 _ _), hI⟩
theorem n14000_Qv13 : (14000 : Nat) ∉ Qv13 := by decide
theorem n14002_Qv13 : (14002 : Nat) ∉ Qv13 := by decide
theorem sQv13_Qv11 : ∀ k ∈ Qv13, k ∈ Qv11 := by decide
def Qv14 : List Nat := [14004, 14005, 14006, 14007, 14010, 14011, 14015, 14018, 14200, 14201, 14202, 14400, 14600, 14800, 15000, 15200, 15400, 15600, 15800, 16000, 16200, 16400, 16600, 16800, 17000, 17200, 17400]
def Qv15 : List Nat := [14004, 14005, 14006, 14015, 14200, 14201, 14400, 14600, 14800, 16800]
theorem s14200x14201x14400x14600x14800_Qv15 : ∀ k ∈ [14200, 14201, 14400, 14600, 14800], k ∈ Qv15 := by decide
set_option maxHeartbeats 4000000 in
theorem v_Running_makeRow {p1 : Int32} {p2 : Int32} {X : St} (hI : INV X) (h0 : 0 ≤ p1.toInt ∧ p1.toInt ≤ 20000) : ok (g_Running_makeRow p1 p2 X) (fun r Y => (Fr YC Qv15 X Y ∧ INV Y)) := by
  unfold g_Running_makeRow
  refine ok.bd (v_Heap_hasRoom hI) ?_
  rintro x1 _ ⟨rfl, hp1⟩
  have hp1 : x1.toInt = 0 ∨ (x1.toInt = 1 ∧ (X.1 71 0).toInt + (X.1 71 2).toInt ≤ 999 ∧ (X.1 71 1).toInt + p1.toInt ≤ 4000) := hp1
  have := (show 0 ≤ (X.1 71 0).toInt ∧ (X.1 71 0).toInt ≤ 1000 from hI.1 71 0)
  have := (show 0 ≤ (X.1 71 2).toInt ∧ (X.1 71 2).toInt ≤ 1000 from hI.1 71 2)
  have := (show 0 ≤ (X.1 71 1).toInt ∧ (X.1 71 1).toInt ≤ 4000 from hI.1 71 1)
  refine ok.ite (fun c2 => ?_) (fun c2 => ?_)
  · skip
    have g3 := i32_le x1
    refine ok.bd (v_Running_failWith hI) ?_
    rintro r_4 Z6 ⟨hFZ6, hIZ6⟩
    exact ok.ret ⟨(Fr.rf.tr hFZ6 (by decide)), hIZ6⟩
  · skip
    refine ok.bd (v_Heap_newRow hI (show (X.1 71 0).toInt ≤ 999 from by have := (show 0 ≤ (X.1 71 0).toInt ∧ (X.1 71 0).toInt ≤ 1000 from hI.1 71 0); omega) (show 0 ≤ p1.toInt ∧ p1.toInt ≤ 4000 from by omega) (show (X.1 71 1).toInt + p1.toInt ≤ 4000 from by have := (show 0 ≤ (X.1 71 1).toInt ∧ (X.1 71 1).toInt ≤ 4000 from hI.1 71 1); omega)) ?_
    rintro y3 Z8 ⟨hFZ8, hIZ8⟩
    refine ok.sub (show _ ≤ p1.toInt - (1 : Int) ∧ p1.toInt - (1 : Int) ≤ _ from by omega) (fun x5 hx5 => ?_)
    have hx5 : x5.toInt = p1.toInt - (1 : Int) := hx5
    have lpu9 : ∀ (n : Nat), ∀ (l_3u9 : Int64) (a_5u9 : Int32) (Zu9 : St), INV Zu9 → Fr YC Qv15 X Zu9 → (-1 ≤ a_5u9.toInt ∧ a_5u9.toInt ≤ 19999) → (a_5u9.toInt + 1).toNat < n → ok (g_Running_makeRow_34 n l_3u9 a_5u9 Zu9) (fun r Y => (Fr YC Qv15 X Y ∧ INV Y)) := by
      intro n
      unfold g_Running_makeRow_34
      refine lp_indN (P := fun (n : Nat) (r_u9 : Int64 → Int32 → St → Option (Int32 × St)) => ∀ (l_3u9 : Int64) (a_5u9 : Int32) (Zu9 : St), INV Zu9 → Fr YC Qv15 X Zu9 → (-1 ≤ a_5u9.toInt ∧ a_5u9.toInt ≤ 19999) → (a_5u9.toInt + 1).toNat < n → ok (r_u9 l_3u9 a_5u9 Zu9) (fun r Y => (Fr YC Qv15 X Y ∧ INV Y))) ?_ ?_ n
      · intro l_3u9 a_5u9 Zu9 hIu9 hFu9 u9_0  hm; exact absurd hm (Nat.not_lt_zero _)
      · intro n r_u9 ih_u9 l_3u9 a_5u9 Zu9 hIu9 hFu9 u9_0  hmu9
        unfold g_Running_makeRow_34_s
        refine ok.ite (fun c10 => ?_) (fun c10 => ?_)
        · skip
          refine ok.bd (v_Running_push hIu9) ?_
          rintro r_11 Z13 ⟨hFZ13, hIZ13⟩
          exact ok.ret ⟨((Fr.rf.tr hFu9 (fun _ q => q)).tr hFZ13 (by decide)), hIZ13⟩
        · skip
          refine ok.bd (v_Running_pop hIu9) ?_
          rintro y7 Z15 ⟨hFZ15, hIZ15⟩
          refine ok.bd (v_Heap_store hIZ15) ?_
          rintro r_16 Z18 ⟨hFZ18, hIZ18⟩
          refine ok.inc (by decide) (show _ ≤ a_5u9.toInt + (-1) ∧ a_5u9.toInt + (-1) ≤ _ from by omega) (fun x10 hx10 => ?_)
          have hx10 : x10.toInt = a_5u9.toInt + (-1) := hx10
          exact ih_u9 l_3u9 x10 Z18 hIZ18 (((Fr.rf.tr hFu9 (fun _ q => q)).tr hFZ15 (by decide)).tr hFZ18 (by decide)) (show -1 ≤ x10.toInt ∧ x10.toInt ≤ 19999 from by omega) (show (x10.toInt + 1).toNat < _ from by omega)
    exact lpu9 BIG y3 x5 Z8 hIZ8 (Fr.rf.tr hFZ8 s14200x14201x14400x14600x14800_Qv15) (show -1 ≤ x5.toInt ∧ x5.toInt ≤ 19999 from by omega) (show (x5.toInt + 1).toNat < BIG from ltBIG (show _ < 100000 from by omega))
theorem sQv15_Qv14 : ∀ k ∈ Qv15, k ∈ Qv14 := by decide
set_option maxHeartbeats 4000000 in
theorem v_Running_makeNew {p1 : Int32} {X : St} (hI : INV X) : ok (g_Running_makeNew p1 X) (fun r Y => (Fr YC Qv15 X Y ∧ INV Y)) := by
  unfold g_Running_makeNew
  refine ok.bd (v_Running_pop hI) ?_
  rintro y1 Z2 ⟨hFZ2, hIZ2⟩
  refine ok.bd (v_Running_popContent hIZ2) ?_
  rintro x3 Z4 ⟨hFZ4, hIZ4⟩
  refine ok.ite (fun c5 => ?_) (fun c5 => ?_)
  · skip
    have g6 := i32_le x3
    unfold g_Running_makeNew_24
    refine ok.bd (v_Running_failWith hIZ4) ?_
    rintro r_7 Z9 ⟨hFZ9, hIZ9⟩
    exact ok.ret ⟨(((Fr.rf.tr hFZ2 (by decide)).tr hFZ4 (by decide)).tr hFZ9 (by decide)), hIZ9⟩
  · skip
    have g10 := i32_le x3
    refine ok.ite (fun c11 => ?_) (fun c11 => ?_)
    · skip
      refine ok.bd (v_Heap_hasRoom hIZ4) ?_
      rintro x6 _ ⟨rfl, hp12⟩
      have hp12 : x6.toInt = 0 ∨ (x6.toInt = 1 ∧ (Z4.1 71 0).toInt + (Z4.1 71 2).toInt ≤ 999 ∧ (Z4.1 71 1).toInt + x3.toInt ≤ 4000) := hp12
      have := (show (Z4.1 71 0).toInt = (X.1 71 0).toInt from congrArg Int32.toInt ((hFZ4.1 71 0 (show (14200 : Nat) ∉ [14015] from by decide)).trans (hFZ2.1 71 0 (show (14200 : Nat) ∉ [14015] from by decide))))
      have := (show 0 ≤ (X.1 71 0).toInt ∧ (X.1 71 0).toInt ≤ 1000 from hI.1 71 0)
      have := (show (Z4.1 71 2).toInt = (X.1 71 2).toInt from congrArg Int32.toInt ((hFZ4.1 71 2 (show (14202 : Nat) ∉ [14015] from by decide)).trans (hFZ2.1 71 2 (show (14202 : Nat) ∉ [14015] from by decide))))
      have := (show 0 ≤ (X.1 71 2).toInt ∧ (X.1 71 2).toInt ≤ 1000 from hI.1 71 2)
      have := (show (Z4.1 71 1).toInt = (X.1 71 1).toInt from congrArg Int32.toInt ((hFZ4.1 71 1 (show (14201 : Nat) ∉ [14015] from by decide)).trans (hFZ2.1 71 1 (show (14201 : Nat) ∉ [14015] from by decide))))
      have := (show 0 ≤ (X.1 71 1).toInt ∧ (X.1 71 1).toInt ≤ 4000 from hI.1 71 1)
      refine ok.ite (fun c13 => ?_) (fun c13 => ?_)
      · skip
        have g14 := i32_le x6
        refine ok.bd (v_Running_failWith hIZ4) ?_
        rintro r_15 Z17 ⟨hFZ17, hIZ17⟩
        exact ok.ret ⟨(((Fr.rf.tr hFZ2 (by decide)).tr hFZ4 (by decide)).tr hFZ17 (by decide)), hIZ17⟩
      · skip
        refine ok.bd (v_Heap_newRow hIZ4 (show (Z4.1 71 0).toInt ≤ 999 from by have := (show (Z4.1 71 0).toInt = (X.1 71 0).toInt from congrArg Int32.toInt ((hFZ4.1 71 0 (show (14200 : Nat) ∉ [14015] from by decide)).trans (hFZ2.1 71 0 (show (14200 : Nat) ∉ [14015] from by decide)))); have := (show 0 ≤ (X.1 71 0).toInt ∧ (X.1 71 0).toInt ≤ 1000 from hI.1 71 0); omega) (show 0 ≤ x3.toInt ∧ x3.toInt ≤ 4000 from by omega) (show (Z4.1 71 1).toInt + x3.toInt ≤ 4000 from by have := (show (Z4.1 71 1).toInt = (X.1 71 1).toInt from congrArg Int32.toInt ((hFZ4.1 71 1 (show (14201 : Nat) ∉ [14015] from by decide)).trans (hFZ2.1 71 1 (show (14201 : Nat) ∉ [14015] from by decide)))); have := (show 0 ≤ (X.1 71 1).toInt ∧ (X.1 71 1).toInt ≤ 4000 from hI.1 71 1); omega)) ?_
        rintro y8 Z19 ⟨hFZ19, hIZ19⟩
        refine ok.bd (v_Running_push hIZ19) ?_
        rintro r_20 Z22 ⟨hFZ22, hIZ22⟩
        exact ok.ret ⟨((((Fr.rf.tr hFZ2 (by decide)).tr hFZ4 (by decide)).tr hFZ19 s14200x14201x14400x14600x14800_Qv15).tr hFZ22 (by decide)), hIZ22⟩
    · skip
      unfold g_Running_makeNew_24
      refine ok.bd (v_Running_failWith hIZ4) ?_
      rintro r_23 Z25 ⟨hFZ25, hIZ25⟩
      exact ok.ret ⟨(((Fr.rf.tr hFZ2 (by decide)).tr hFZ4 (by decide)).tr hFZ25 (by decide)), hIZ25⟩
def Qv16 : List Nat := [14004, 14005, 14006, 14015, 14018, 16800, 17200]
set_option maxHeartbeats 4000000 in
theorem v_Running_print {p1 : Int32} {X : St} (hI : INV X) : ok (g_Running_print p1 X) (fun r Y => (Fr YC Qv16 X Y ∧ INV Y)) := by
  unfold g_Running_print
  refine ok.letE (v1 := (X.1 70 18)) rfl ?_
  have g1 : 0 ≤ (X.1 70 18).toInt ∧ (X.1 70 18).toInt ≤ 200 := hI.1 70 18
  refine ok.ite (fun c2 => ?_) (fun c2 => ?_)
  · skip
    refine ok.letE (v1 := (X.1 70 18)) rfl ?_
    refine ok.bd (v_Running_popContent hI) ?_
    rintro x3 Z4 ⟨hFZ4, hIZ4⟩
    refine ok.ck (show 0 ≤ (X.1 70 18).toInt ∧ (X.1 70 18).toInt < ((200 : Nat) : Int) from by omega) ?_
    refine ok.wI (L := [17200]) hIZ4 (show True from trivial) (show (17200 : Nat) ∈ [17200] from by decide) (by decide) (fun Z5 hIZ5 hFZ5 hkZ5 hoZ5 => ?_)
    refine ok.letE (v1 := (X.1 70 18)) ((hFZ5.1 70 18 (show (14018 : Nat) ∉ [17200] from by decide)).trans (hFZ4.1 70 18 (show (14018 : Nat) ∉ [14015] from by decide))) ?_
    refine ok.ck (show 0 ≤ (X.1 70 18).toInt ∧ (X.1 70 18).toInt < ((200 : Nat) : Int) from by omega) ?_
    refine ok.letE (v1 := x3) hkZ5 ?_
    refine ok.bd (v_Running_pushNumber hIZ5) ?_
    rintro r_6 Z8 ⟨hFZ8, hIZ8⟩
    refine ok.letE (v1 := (X.1 70 18)) (((hFZ8.1 70 18 (show (14018 : Nat) ∉ [14015, 16800] from by decide)).trans (hFZ5.1 70 18 (show (14018 : Nat) ∉ [17200] from by decide))).trans (hFZ4.1 70 18 (show (14018 : Nat) ∉ [14015] from by decide))) ?_
    refine ok.add (show _ ≤ (X.1 70 18).toInt + (1 : Int) ∧ (X.1 70 18).toInt + (1 : Int) ≤ _ from by omega) (fun x10 hx10 => ?_)
    have hx10 : x10.toInt = (X.1 70 18).toInt + (1 : Int) := hx10
    refine ok.wI (L := [14018]) hIZ8 (show 0 ≤ x10.toInt ∧ x10.toInt ≤ 200 from by omega) (show (14018 : Nat) ∈ [14018] from by decide) (by decide) (fun Z9 hIZ9 hFZ9 hkZ9 hoZ9 => ?_)
    exact ok.ret ⟨((((Fr.rf.tr hFZ4 (by decide)).tr hFZ5 (by decide)).tr hFZ8 (by decide)).tr hFZ9 (by decide)), hIZ9⟩
  · skip
    refine ok.bd (v_Running_failWith hI) ?_
    rintro r_10 Z12 ⟨hFZ12, hIZ12⟩
    exact ok.ret ⟨(Fr.rf.tr hFZ12 (by decide)), hIZ12⟩
theorem sQv16_Qv14 : ∀ k ∈ Qv16, k ∈ Qv14 := by decide
def Qv17 : List Nat := [14004, 14005, 14006, 14007, 14015, 14202, 15000, 15200, 15400, 15600, 15800, 16000, 16200, 16800, 17000, 17400]
def Qv18 : List Nat := [14004, 14005, 14006, 14007, 14202, 15000, 15200, 15400, 15600, 15800, 16000, 16200, 17000, 17400]
set_option maxHeartbeats 4000000 in
theorem v_Running_unwrap {q1 : Int64} {X : St} (hI : INV X) : ok (g_Running_unwrap q1 X) (fun r Y => (Fr YC [17000] X Y ∧ INV Y) ∧ (0 ≤ r.toInt ∧ r.toInt ≤ 20)) := by
  unfold g_Running_unwrap
  refine ok.bd (v_Heap_wrappingOf hI) ?_
  rintro x1 _ ⟨rfl, hp1⟩
  have hp1 : -1 ≤ x1.toInt ∧ x1.toInt ≤ 999 := hp1
  have lpu2 : ∀ (n : Nat), ∀ (a_3u2 : Int32) (a_4u2 : Int32) (a_5u2 : Int32) (Zu2 : St), INV Zu2 → Fr YC [17000] X Zu2 → (0 ≤ a_3u2.toInt ∧ a_3u2.toInt ≤ a_5u2.toInt) → (-1 ≤ a_4u2.toInt ∧ a_4u2.toInt ≤ 999) → (0 ≤ a_5u2.toInt ∧ a_5u2.toInt ≤ 20) → (21 - a_5u2.toInt).toNat < n → ok (g_Running_unwrap_15 n a_3u2 a_4u2 a_5u2 Zu2) (fun r Y => (Fr YC [17000] X Y ∧ INV Y) ∧ (0 ≤ r.toInt ∧ r.toInt ≤ 20)) := by
    intro n
    unfold g_Running_unwrap_15
    refine lp_indN (P := fun (n : Nat) (r_u2 : Int32 → Int32 → Int32 → St → Option (Int32 × St)) => ∀ (a_3u2 : Int32) (a_4u2 : Int32) (a_5u2 : Int32) (Zu2 : St), INV Zu2 → Fr YC [17000] X Zu2 → (0 ≤ a_3u2.toInt ∧ a_3u2.toInt ≤ a_5u2.toInt) → (-1 ≤ a_4u2.toInt ∧ a_4u2.toInt ≤ 999) → (0 ≤ a_5u2.toInt ∧ a_5u2.toInt ≤ 20) → (21 - a_5u2.toInt).toNat < n → ok (r_u2 a_3u2 a_4u2 a_5u2 Zu2) (fun r Y => (Fr YC [17000] X Y ∧ INV Y) ∧ (0 ≤ r.toInt ∧ r.toInt ≤ 20))) ?_ ?_ n
    · intro a_3u2 a_4u2 a_5u2 Zu2 hIu2 hFu2 u2_0 u2_1 u2_2  hm; exact absurd hm (Nat.not_lt_zero _)
    · intro n r_u2 ih_u2 a_3u2 a_4u2 a_5u2 Zu2 hIu2 hFu2 u2_0 u2_1 u2_2  hmu2
      unfold g_Running_unwrap_15_s
      refine ok.ite (fun c3 => ?_) (fun c3 => ?_)
      · skip
        exact ok.ret ⟨⟨(Fr.rf.tr hFu2 (fun _ q => q)), hIu2⟩, (show 0 ≤ a_3u2.toInt ∧ a_3u2.toInt ≤ 20 from by omega)⟩
      · skip
        refine ok.ite (fun c4 => ?_) (fun c4 => ?_)
        · skip
          exact ok.ret ⟨⟨(Fr.rf.tr hFu2 (fun _ q => q)), hIu2⟩, (show 0 ≤ a_3u2.toInt ∧ a_3u2.toInt ≤ 20 from by omega)⟩
        · skip
          refine ok.ck (show 0 ≤ a_5u2.toInt ∧ a_5u2.toInt < ((20 : Nat) : Int) from by omega) ?_
          refine ok.wI (L := [17000]) hIu2 (show 0 ≤ a_4u2.toInt ∧ a_4u2.toInt ≤ 999 from by omega) (show (17000 : Nat) ∈ [17000] from by decide) (by decide) (fun Z5 hIZ5 hFZ5 hkZ5 hoZ5 => ?_)
          refine ok.inc (by decide) (show _ ≤ a_3u2.toInt + (1) ∧ a_3u2.toInt + (1) ≤ _ from by omega) (fun x4 hx4 => ?_)
          have hx4 : x4.toInt = a_3u2.toInt + (1) := hx4
          refine ok.ck (show 0 ≤ a_4u2.toInt ∧ a_4u2.toInt < ((1000 : Nat) : Int) from by omega) ?_
          refine ok.any (fun y5 => ?_)
          refine ok.bd (v_Heap_wrappingOf hIZ5) ?_
          rintro x6 _ ⟨rfl, hp6⟩
          have hp6 : -1 ≤ x6.toInt ∧ x6.toInt ≤ 999 := hp6
          refine ok.inc (by decide) (show _ ≤ a_5u2.toInt + (1) ∧ a_5u2.toInt + (1) ≤ _ from by omega) (fun x8 hx8 => ?_)
          have hx8 : x8.toInt = a_5u2.toInt + (1) := hx8
          exact ih_u2 x4 x6 x8 Z5 hIZ5 ((Fr.rf.tr hFu2 (fun _ q => q)).tr hFZ5 (fun _ q => q)) (show 0 ≤ x4.toInt ∧ x4.toInt ≤ x8.toInt from by omega) (show -1 ≤ x6.toInt ∧ x6.toInt ≤ 999 from by omega) (show 0 ≤ x8.toInt ∧ x8.toInt ≤ 20 from by omega) (show (21 - x8.toInt).toNat < _ from by omega)
  exact lpu2 BIG (0 : Int32) x1 (0 : Int32) X hI (Fr.rf : Fr YC [17000] _ _) (show 0 ≤ (0 : Int) ∧ (0 : Int) ≤ (0 : Int) from by omega) (show -1 ≤ x1.toInt ∧ x1.toInt ≤ 999 from by omega) (show 0 ≤ (0 : Int) ∧ (0 : Int) ≤ 20 from by omega) (show (21 - (0 : Int)).toNat < BIG from ltBIG (show _ < 100000 from by omega))
theorem n14002_Qv18 : (14002 : Nat) ∉ Qv18 := by decide
def Qv19 : List Nat := [14004, 14005, 14006, 14007, 14202, 15000, 15200, 15400, 15600, 15800, 16000, 16200, 17400]
set_option maxHeartbeats 4000000 in
theorem v_Running_count {p1 : Int32} {p2 : Int32} {X : St} (hI : INV X) : ok (g_Running_count p1 p2 X) (fun r Y => (Fr YC [17400] X Y ∧ INV Y)) := by
  unfold g_Running_count
  refine ok.any (fun x1 => ?_)
  refine ok.any (fun x2 => ?_)
  refine ok.ite (fun c1 => ?_) (fun c1 => ?_)
  · skip
    have g2 := i32_le x2
    exact ok.ret ⟨(Fr.rf : Fr YC [17400] _ _), hI⟩
  · skip
    have g3 := i32_le x2
    refine ok.ite (fun c4 => ?_) (fun c4 => ?_)
    · skip
      exact ok.ret ⟨(Fr.rf : Fr YC [17400] _ _), hI⟩
    · skip
      refine ok.ck (show 0 ≤ x2.toInt ∧ x2.toInt < ((1600 : Nat) : Int) from by omega) ?_
      refine ok.letE (v1 := (X.1 87 (ix x2))) rfl ?_
      refine ok.any (fun x4 => ?_)
      refine ok.ck (show 0 ≤ x2.toInt ∧ x2.toInt < ((1600 : Nat) : Int) from by omega) ?_
      refine ok.wI (L := [17400]) hI (show True from trivial) (show (17400 : Nat) ∈ [17400] from by decide) (by decide) (fun Z5 hIZ5 hFZ5 hkZ5 hoZ5 => ?_)
      exact ok.ret ⟨(Fr.rf.tr hFZ5 (fun _ q => q)), hIZ5⟩
theorem n14002_Qv19 : (14002 : Nat) ∉ Qv19 := by decide
set_option maxHeartbeats 4000000 in
theorem v_Running_isSuch_N2 {q1 : Int64} {p3 : Int32} {p4 : Int32} {X : St} (hI : INV X) (hr70_2 : X.2.2 70 2 = 3) : ok (g_Running_isSuch q1 p3 p4 X) (fun r Y => (X = Y)) := by
  unfold g_Running_isSuch
  refine ok.bd (v_Heap_sortOf hI) ?_
  rintro x1 _ rfl
  refine ok.ite (fun c2 => ?_) (fun c2 => ?_)
  · skip
    refine ok.ite (fun c3 => ?_) (fun c3 => ?_)
    · skip
      have g4 := i32_le p3
      refine ok.ck (by rw [hr70_2]; decide) ?_
      refine ok.letE (v1 := 2) (by rw [hr70_2]) ?_
      refine ok.bd (v_Heap_contentOf hI) ?_
      rintro x4 _ rfl
      refine ok.bd (v_Program_paramsOf_2 hI) ?_
      rintro x6 _ rfl
      refine ok.ite (fun c7 => ?_) (fun c7 => ?_)
      · skip
        exact ok.ret rfl
      · skip
        exact ok.ret rfl
    · skip
      exact ok.ret rfl
  · skip
    exact ok.ret rfl
def Qv20 : List Nat := [14004, 14005, 14006, 14202, 15000, 15200, 15400, 15600, 15800, 16000, 16200]
set_option maxHeartbeats 4000000 in
theorem v_Running_wrap {q1 : Int64} {p3 : Int32} {p4 : Int32} {p5 : Int32} {p6 : Int32} {p7 : Int32} {X : St} (hI : INV X) : ok (g_Running_wrap q1 p3 p4 p5 p6 p7 X) (fun r Y => (Fr YC Qv20 X Y ∧ INV Y)) := by
  unfold g_Running_wrap
  refine ok.bd (v_Heap_wrappingOf hI) ?_
  rintro x1 _ ⟨rfl, hp1⟩
  have hp1 : -1 ≤ x1.toInt ∧ x1.toInt ≤ 999 := hp1
  refine ok.ite (fun c2 => ?_) (fun c2 => ?_)
  · skip
    unfold g_Running_wrap_30
    have l4 : ((0) : Int32).toInt = (0) := by decide
    refine ok.ite (fun c3 => absurd c3 (show ¬ (20 ≤ (0 : Int32).toInt) from by omega)) (fun c3 => ?_)
    refine ok.bd (v_Heap_hasRoom hI) ?_
    rintro x5 _ ⟨rfl, hp5⟩
    have hp5 : x5.toInt = 0 ∨ (x5.toInt = 1 ∧ (X.1 71 0).toInt + (X.1 71 2).toInt ≤ 999 ∧ (X.1 71 1).toInt + (0 : Int) ≤ 4000) := hp5
    have := (show 0 ≤ (X.1 71 0).toInt ∧ (X.1 71 0).toInt ≤ 1000 from hI.1 71 0)
    have := (show 0 ≤ (X.1 71 2).toInt ∧ (X.1 71 2).toInt ≤ 1000 from hI.1 71 2)
    have := (show 0 ≤ (X.1 71 1).toInt ∧ (X.1 71 1).toInt ≤ 4000 from hI.1 71 1)
    refine ok.ite (fun c6 => ?_) (fun c6 => ?_)
    · skip
      have g7 := i32_le x5
      unfold g_Running_wrap_50
      refine ok.bd (v_Running_failWith hI) ?_
      rintro r_8 Z10 ⟨hFZ10, hIZ10⟩
      exact ok.ret ⟨(Fr.rf.tr hFZ10 (by decide)), hIZ10⟩
    · skip
      refine ok.letE (v1 := (X.1 71 2)) rfl ?_
      have g11 : 0 ≤ (X.1 71 2).toInt ∧ (X.1 71 2).toInt ≤ 1000 := hI.1 71 2
      refine ok.letE (v1 := (X.1 71 2)) rfl ?_
      refine ok.add (show _ ≤ (X.1 71 2).toInt + (1 : Int) ∧ (X.1 71 2).toInt + (1 : Int) ≤ _ from by omega) (fun x9 hx9 => ?_)
      have hx9 : x9.toInt = (X.1 71 2).toInt + (1 : Int) := hx9
      refine ok.wI (L := [14202]) hI (show 0 ≤ x9.toInt ∧ x9.toInt ≤ 1000 from by omega) (show (14202 : Nat) ∈ [14202] from by decide) (by decide) (fun Z12 hIZ12 hFZ12 hkZ12 hoZ12 => ?_)
      refine ok.add (show _ ≤ (0 : Int) + (1 : Int) ∧ (0 : Int) + (1 : Int) ≤ _ from by omega) (fun x11 hx11 => ?_)
      have hx11 : x11.toInt = (0 : Int) + (1 : Int) := hx11
      refine ok.ck (show 0 ≤ (X.1 71 2).toInt ∧ (X.1 71 2).toInt < ((1000 : Nat) : Int) from by omega) ?_
      refine ok.wI (L := [16200]) hIZ12 (show True from trivial) (show (16200 : Nat) ∈ [16200] from by decide) (by decide) (fun Z13 hIZ13 hFZ13 hkZ13 hoZ13 => ?_)
      refine ok.ck (show 0 ≤ (X.1 71 2).toInt ∧ (X.1 71 2).toInt < ((1000 : Nat) : Int) from by omega) ?_
      refine ok.wL (L := [15000]) hIZ13 (show (15000 : Nat) ∈ [15000] from by decide) (fun Z14 hIZ14 hFZ14 heZ14 => ?_)
      refine ok.ck (show 0 ≤ (X.1 71 2).toInt ∧ (X.1 71 2).toInt < ((1000 : Nat) : Int) from by omega) ?_
      refine ok.wI (L := [15200]) hIZ14 (show True from trivial) (show (15200 : Nat) ∈ [15200] from by decide) (by decide) (fun Z15 hIZ15 hFZ15 hkZ15 hoZ15 => ?_)
      refine ok.ck (show 0 ≤ (X.1 71 2).toInt ∧ (X.1 71 2).toInt < ((1000 : Nat) : Int) from by omega) ?_
      refine ok.wI (L := [15400]) hIZ15 (show True from trivial) (show (15400 : Nat) ∈ [15400] from by decide) (by decide) (fun Z16 hIZ16 hFZ16 hkZ16 hoZ16 => ?_)
      refine ok.ck (show 0 ≤ (X.1 71 2).toInt ∧ (X.1 71 2).toInt < ((1000 : Nat) : Int) from by omega) ?_
      refine ok.wI (L := [15600]) hIZ16 (show True from trivial) (show (15600 : Nat) ∈ [15600] from by decide) (by decide) (fun Z17 hIZ17 hFZ17 hkZ17 hoZ17 => ?_)
      refine ok.ck (show 0 ≤ (X.1 71 2).toInt ∧ (X.1 71 2).toInt < ((1000 : Nat) : Int) from by omega) ?_
      refine ok.wI (L := [15800]) hIZ17 (show True from trivial) (show (15800 : Nat) ∈ [15800] from by decide) (by decide) (fun Z18 hIZ18 hFZ18 hkZ18 hoZ18 => ?_)
      refine ok.ck (show 0 ≤ (X.1 71 2).toInt ∧ (X.1 71 2).toInt < ((1000 : Nat) : Int) from by omega) ?_
      refine ok.wI (L := [16000]) hIZ18 (show True from trivial) (show (16000 : Nat) ∈ [16000] from by decide) (by decide) (fun Z19 hIZ19 hFZ19 hkZ19 hoZ19 => ?_)
      refine ok.bd (v_Heap_valueOf hIZ19) ?_
      rintro y19 _ rfl
      exact ok.ret ⟨((((((((Fr.rf.tr hFZ12 (by decide)).tr hFZ13 (by decide)).tr hFZ14 (by decide)).tr hFZ15 (by decide)).tr hFZ16 (by decide)).tr hFZ17 (by decide)).tr hFZ18 (by decide)).tr hFZ19 (by decide)), hIZ19⟩
  · skip
    refine ok.ck (show 0 ≤ x1.toInt ∧ x1.toInt < ((1000 : Nat) : Int) from by omega) ?_
    refine ok.letE (v1 := (X.1 81 (ix x1))) rfl ?_
    unfold g_Running_wrap_30
    refine ok.ite (fun c21 => ?_) (fun c21 => ?_)
    · skip
      have g22 := i32_le (X.1 81 (ix x1))
      unfold g_Running_wrap_50
      refine ok.bd (v_Running_failWith hI) ?_
      rintro r_23 Z25 ⟨hFZ25, hIZ25⟩
      exact ok.ret ⟨(Fr.rf.tr hFZ25 (by decide)), hIZ25⟩
    · skip
      have g26 := i32_le (X.1 81 (ix x1))
      refine ok.bd (v_Heap_hasRoom hI) ?_
      rintro x5 _ ⟨rfl, hp27⟩
      have hp27 : x5.toInt = 0 ∨ (x5.toInt = 1 ∧ (X.1 71 0).toInt + (X.1 71 2).toInt ≤ 999 ∧ (X.1 71 1).toInt + (0 : Int) ≤ 4000) := hp27
      have := (show 0 ≤ (X.1 71 0).toInt ∧ (X.1 71 0).toInt ≤ 1000 from hI.1 71 0)
      have := (show 0 ≤ (X.1 71 2).toInt ∧ (X.1 71 2).toInt ≤ 1000 from hI.1 71 2)
      have := (show 0 ≤ (X.1 71 1).toInt ∧ (X.1 71 1).toInt ≤ 4000 from hI.1 71 1)
      refine ok.ite (fun c28 => ?_) (fun c28 => ?_)
      · skip
        have g29 := i32_le x5
        unfold g_Running_wrap_50
        refine ok.bd (v_Running_failWith hI) ?_
        rintro r_30 Z32 ⟨hFZ32, hIZ32⟩
        exact ok.ret ⟨(Fr.rf.tr hFZ32 (by decide)), hIZ32⟩
      · skip
        refine ok.letE (v1 := (X.1 71 2)) rfl ?_
        have g33 : 0 ≤ (X.1 71 2).toInt ∧ (X.1 71 2).toInt ≤ 1000 := hI.1 71 2
        refine ok.letE (v1 := (X.1 71 2)) rfl ?_
        refine ok.add (show _ ≤ (X.1 71 2).toInt + (1 : Int) ∧ (X.1 71 2).toInt + (1 : Int) ≤ _ from by omega) (fun x9 hx9 => ?_)
        have hx9 : x9.toInt = (X.1 71 2).toInt + (1 : Int) := hx9
        refine ok.wI (L := [14202]) hI (show 0 ≤ x9.toInt ∧ x9.toInt ≤ 1000 from by omega) (show (14202 : Nat) ∈ [14202] from by decide) (by decide) (fun Z34 hIZ34 hFZ34 hkZ34 hoZ34 => ?_)
        refine ok.add (show _ ≤ (X.1 81 (ix x1)).toInt + (1 : Int) ∧ (X.1 81 (ix x1)).toInt + (1 : Int) ≤ _ from by omega) (fun x11 hx11 => ?_)
        have hx11 : x11.toInt = (X.1 81 (ix x1)).toInt + (1 : Int) := hx11
        refine ok.ck (show 0 ≤ (X.1 71 2).toInt ∧ (X.1 71 2).toInt < ((1000 : Nat) : Int) from by omega) ?_
        refine ok.wI (L := [16200]) hIZ34 (show True from trivial) (show (16200 : Nat) ∈ [16200] from by decide) (by decide) (fun Z35 hIZ35 hFZ35 hkZ35 hoZ35 => ?_)
        refine ok.ck (show 0 ≤ (X.1 71 2).toInt ∧ (X.1 71 2).toInt < ((1000 : Nat) : Int) from by omega) ?_
        refine ok.wL (L := [15000]) hIZ35 (show (15000 : Nat) ∈ [15000] from by decide) (fun Z36 hIZ36 hFZ36 heZ36 => ?_)
        refine ok.ck (show 0 ≤ (X.1 71 2).toInt ∧ (X.1 71 2).toInt < ((1000 : Nat) : Int) from by omega) ?_
        refine ok.wI (L := [15200]) hIZ36 (show True from trivial) (show (15200 : Nat) ∈ [15200] from by decide) (by decide) (fun Z37 hIZ37 hFZ37 hkZ37 hoZ37 => ?_)
        refine ok.ck (show 0 ≤ (X.1 71 2).toInt ∧ (X.1 71 2).toInt < ((1000 : Nat) : Int) from by omega) ?_
        refine ok.wI (L := [15400]) hIZ37 (show True from trivial) (show (15400 : Nat) ∈ [15400] from by decide) (by decide) (fun Z38 hIZ38 hFZ38 hkZ38 hoZ38 => ?_)
        refine ok.ck (show 0 ≤ (X.1 71 2).toInt ∧ (X.1 71 2).toInt < ((1000 : Nat) : Int) from by omega) ?_
        refine ok.wI (L := [15600]) hIZ38 (show True from trivial) (show (15600 : Nat) ∈ [15600] from by decide) (by decide) (fun Z39 hIZ39 hFZ39 hkZ39 hoZ39 => ?_)
        refine ok.ck (show 0 ≤ (X.1 71 2).toInt ∧ (X.1 71 2).toInt < ((1000 : Nat) : Int) from by omega) ?_
        refine ok.wI (L := [15800]) hIZ39 (show True from trivial) (show (15800 : Nat) ∈ [15800] from by decide) (by decide) (fun Z40 hIZ40 hFZ40 hkZ40 hoZ40 => ?_)
        refine ok.ck (show 0 ≤ (X.1 71 2).toInt ∧ (X.1 71 2).toInt < ((1000 : Nat) : Int) from by omega) ?_
        refine ok.wI (L := [16000]) hIZ40 (show True from trivial) (show (16000 : Nat) ∈ [16000] from by decide) (by decide) (fun Z41 hIZ41 hFZ41 hkZ41 hoZ41 => ?_)
        refine ok.bd (v_Heap_valueOf hIZ41) ?_
        rintro y19 _ rfl
        exact ok.ret ⟨((((((((Fr.rf.tr hFZ34 (by decide)).tr hFZ35 (by decide)).tr hFZ36 (by decide)).tr hFZ37 (by decide)).tr hFZ38 (by decide)).tr hFZ39 (by decide)).tr hFZ40 (by decide)).tr hFZ41 (by decide)), hIZ41⟩
theorem sQv20_Qv19 : ∀ k ∈ Qv20, k ∈ Qv19 := by decide
set_option maxHeartbeats 4000000 in
theorem v_Running_ask_N2 {q1 : Int64} {p3 : Int32} {p4 : Int32} {p5 : Int32} {p6 : Int32} {p7 : Int32} {X : St} (hI : INV X) (hr70_2 : X.2.2 70 2 = 3) : ok (g_Running_ask q1 p3 p4 p5 p6 p7 X) (fun r Y => (Fr YC Qv19 X Y ∧ INV Y)) := by
  unfold g_Running_ask
  have lpu1 : ∀ (n : Nat), ∀ (l_1u1 : Int64) (a_5u1 : Int32) (a_6u1 : Int32) (a_7u1 : Int32) (a_8u1 : Int32) (a_9u1 : Int32) (a_10u1 : Int32) (Zu1 : St), INV Zu1 → Fr YC Qv19 X Zu1 → (0 ≤ a_10u1.toInt ∧ a_10u1.toInt ≤ 3) → (4 - a_10u1.toInt).toNat < n → ok (g_Running_ask_10 n l_1u1 a_5u1 a_6u1 a_7u1 a_8u1 a_9u1 a_10u1 Zu1) (fun r Y => (Fr YC Qv19 X Y ∧ INV Y)) := by
    intro n
    unfold g_Running_ask_10
    refine lp_indN (P := fun (n : Nat) (r_u1 : Int64 → Int32 → Int32 → Int32 → Int32 → Int32 → Int32 → St → Option (Int64 × St)) => ∀ (l_1u1 : Int64) (a_5u1 : Int32) (a_6u1 : Int32) (a_7u1 : Int32) (a_8u1 : Int32) (a_9u1 : Int32) (a_10u1 : Int32) (Zu1 : St), INV Zu1 → Fr YC Qv19 X Zu1 → (0 ≤ a_10u1.toInt ∧ a_10u1.toInt ≤ 3) → (4 - a_10u1.toInt).toNat < n → ok (r_u1 l_1u1 a_5u1 a_6u1 a_7u1 a_8u1 a_9u1 a_10u1 Zu1) (fun r Y => (Fr YC Qv19 X Y ∧ INV Y))) ?_ ?_ n
    · intro l_1u1 a_5u1 a_6u1 a_7u1 a_8u1 a_9u1 a_10u1 Zu1 hIu1 hFu1 u1_0  hm; exact absurd hm (Nat.not_lt_zero _)
    · intro n r_u1 ih_u1 l_1u1 a_5u1 a_6u1 a_7u1 a_8u1 a_9u1 a_10u1 Zu1 hIu1 hFu1 u1_0  hmu1
      unfold g_Running_ask_10_s
      refine ok.ite (fun c2 => ?_) (fun c2 => ?_)
      · skip
        exact ok.ret ⟨(Fr.rf.tr hFu1 (fun _ q => q)), hIu1⟩
      · skip
        refine ok.letE (v1 := (Zu1.1 70 4)) rfl ?_
        refine ok.ite (fun c3 => ?_) (fun c3 => ?_)
        · skip
          have g4 := i32_le (Zu1.1 70 4)
          exact ok.ret ⟨(Fr.rf.tr hFu1 (fun _ q => q)), hIu1⟩
        · skip
          refine ok.ite (fun c5 => ?_) (fun c5 => ?_)
          · skip
            exact ok.ret ⟨(Fr.rf.tr hFu1 (fun _ q => q)), hIu1⟩
          · skip
            refine ok.bd (v_Running_count hIu1) ?_
            rintro r_6 Z8 ⟨hFZ8, hIZ8⟩
            refine ok.ite (fun c9 => ?_) (fun c9 => ?_)
            · skip
              have g10 := i32_le a_9u1
              refine ok.ck (by rw [(((hFZ8.2.2 70 2 (show (14002 : Nat) ∉ [17400] from by decide)).trans (hFu1.2.2 70 2 n14002_Qv19)).trans hr70_2)]; decide) ?_
              refine ok.letE (v1 := 2) (by rw [(((hFZ8.2.2 70 2 (show (14002 : Nat) ∉ [17400] from by decide)).trans (hFu1.2.2 70 2 n14002_Qv19)).trans hr70_2)]) ?_
              refine ok.letE (v1 := 3) (by decide) ?_
              refine ok.bd (v_Kinds_withAnys_3 hIZ8) ?_
              rintro x26 _ rfl
              refine ok.ite (fun c12 => ?_) (fun c12 => ?_)
              · skip
                have g13 := i32_le x26
                exact ok.ret ⟨((Fr.rf.tr hFu1 (fun _ q => q)).tr hFZ8 (by decide)), hIZ8⟩
              · skip
                unfold g_Running_ask_162
                refine ok.inc (by decide) (show _ ≤ a_10u1.toInt + (1) ∧ a_10u1.toInt + (1) ≤ _ from by omega) (fun x21 hx21 => ?_)
                have hx21 : x21.toInt = a_10u1.toInt + (1) := hx21
                exact ih_u1 l_1u1 a_5u1 a_6u1 a_7u1 a_8u1 x26 x21 Z8 hIZ8 ((Fr.rf.tr hFu1 (fun _ q => q)).tr hFZ8 (by decide)) (show 0 ≤ x21.toInt ∧ x21.toInt ≤ 3 from by omega) (show (4 - x21.toInt).toNat < _ from by omega)
            · skip
              refine ok.ite (fun c14 => ?_) (fun c14 => ?_)
              · skip
                have g15 := i32_le a_8u1
                refine ok.bd (v_Heap_core hIZ8) ?_
                rintro y5 _ rfl
                refine ok.ck (by rw [(((hFZ8.2.2 70 2 (show (14002 : Nat) ∉ [17400] from by decide)).trans (hFu1.2.2 70 2 n14002_Qv19)).trans hr70_2)]; decide) ?_
                refine ok.letE (v1 := 2) (by rw [(((hFZ8.2.2 70 2 (show (14002 : Nat) ∉ [17400] from by decide)).trans (hFu1.2.2 70 2 n14002_Qv19)).trans hr70_2)]) ?_
                refine ok.letE (v1 := 3) (by decide) ?_
                refine ok.bd (v_Kinds_sortOf_3 hIZ8) ?_
                rintro x9 _ rfl
                refine ok.ck (by rw [(((hFZ8.2.2 70 2 (show (14002 : Nat) ∉ [17400] from by decide)).trans (hFu1.2.2 70 2 n14002_Qv19)).trans hr70_2)]; decide) ?_
                refine ok.letE (v1 := 2) (by rw [(((hFZ8.2.2 70 2 (show (14002 : Nat) ∉ [17400] from by decide)).trans (hFu1.2.2 70 2 n14002_Qv19)).trans hr70_2)]) ?_
                refine ok.letE (v1 := 3) (by decide) ?_
                refine ok.bd (v_Kinds_takenBy_3 hIZ8) ?_
                rintro x13 _ ⟨rfl, hp18⟩
                have hp18 : 0 ≤ x13.toInt ∧ x13.toInt ≤ 4 := hp18
                refine ok.bd (v_Running_isSuch_N2 hIZ8 (((hFZ8.2.2 70 2 (show (14002 : Nat) ∉ [17400] from by decide)).trans (hFu1.2.2 70 2 n14002_Qv19)).trans hr70_2)) ?_
                rintro x15 _ rfl
                refine ok.ite (fun c20 => ?_) (fun c20 => ?_)
                · skip
                  have g21 := i32_le x15
                  refine ok.wI (L := [14007]) hIZ8 (show True from trivial) (show (14007 : Nat) ∈ [14007] from by decide) (by decide) (fun Z22 hIZ22 hFZ22 hkZ22 hoZ22 => ?_)
                  refine ok.bd (v_Running_failWith hIZ22) ?_
                  rintro r_23 Z25 ⟨hFZ25, hIZ25⟩
                  unfold g_Running_ask_124
                  refine ok.ck (by rw [(((((hFZ25.2.2 70 2 (show (14002 : Nat) ∉ [14004, 14005, 14006] from by decide)).trans (hFZ22.2.2 70 2 (show (14002 : Nat) ∉ [14007] from by decide))).trans (hFZ8.2.2 70 2 (show (14002 : Nat) ∉ [17400] from by decide))).trans (hFu1.2.2 70 2 n14002_Qv19)).trans hr70_2)]; decide) ?_
                  refine ok.letE (v1 := 2) (by rw [(((((hFZ25.2.2 70 2 (show (14002 : Nat) ∉ [14004, 14005, 14006] from by decide)).trans (hFZ22.2.2 70 2 (show (14002 : Nat) ∉ [14007] from by decide))).trans (hFZ8.2.2 70 2 (show (14002 : Nat) ∉ [17400] from by decide))).trans (hFu1.2.2 70 2 n14002_Qv19)).trans hr70_2)]) ?_
                  refine ok.letE (v1 := 3) (by decide) ?_
                  refine ok.bd (v_Kinds_withAnys_3 hIZ25) ?_
                  rintro x19 _ rfl
                  refine ok.ite (fun c27 => ?_) (fun c27 => ?_)
                  · skip
                    have g28 := i32_le x19
                    exact ok.ret ⟨((((Fr.rf.tr hFu1 (fun _ q => q)).tr hFZ8 (by decide)).tr hFZ22 (by decide)).tr hFZ25 (by decide)), hIZ25⟩
                  · skip
                    unfold g_Running_ask_162
                    refine ok.inc (by decide) (show _ ≤ a_10u1.toInt + (1) ∧ a_10u1.toInt + (1) ≤ _ from by omega) (fun x21 hx21 => ?_)
                    have hx21 : x21.toInt = a_10u1.toInt + (1) := hx21
                    exact ih_u1 l_1u1 a_5u1 a_6u1 a_7u1 x19 a_9u1 x21 Z25 hIZ25 ((((Fr.rf.tr hFu1 (fun _ q => q)).tr hFZ8 (by decide)).tr hFZ22 (by decide)).tr hFZ25 (by decide)) (show 0 ≤ x21.toInt ∧ x21.toInt ≤ 3 from by omega) (show (4 - x21.toInt).toNat < _ from by omega)
                · skip
                  unfold g_Running_ask_124
                  refine ok.ck (by rw [(((hFZ8.2.2 70 2 (show (14002 : Nat) ∉ [17400] from by decide)).trans (hFu1.2.2 70 2 n14002_Qv19)).trans hr70_2)]; decide) ?_
                  refine ok.letE (v1 := 2) (by rw [(((hFZ8.2.2 70 2 (show (14002 : Nat) ∉ [17400] from by decide)).trans (hFu1.2.2 70 2 n14002_Qv19)).trans hr70_2)]) ?_
                  refine ok.letE (v1 := 3) (by decide) ?_
                  refine ok.bd (v_Kinds_withAnys_3 hIZ8) ?_
                  rintro x19 _ rfl
                  refine ok.ite (fun c30 => ?_) (fun c30 => ?_)
                  · skip
                    have g31 := i32_le x19
                    exact ok.ret ⟨((Fr.rf.tr hFu1 (fun _ q => q)).tr hFZ8 (by decide)), hIZ8⟩
                  · skip
                    unfold g_Running_ask_162
                    refine ok.inc (by decide) (show _ ≤ a_10u1.toInt + (1) ∧ a_10u1.toInt + (1) ≤ _ from by omega) (fun x21 hx21 => ?_)
                    have hx21 : x21.toInt = a_10u1.toInt + (1) := hx21
                    exact ih_u1 l_1u1 a_5u1 a_6u1 a_7u1 x19 a_9u1 x21 Z8 hIZ8 ((Fr.rf.tr hFu1 (fun _ q => q)).tr hFZ8 (by decide)) (show 0 ≤ x21.toInt ∧ x21.toInt ≤ 3 from by omega) (show (4 - x21.toInt).toNat < _ from by omega)
              · skip
                refine ok.bd (v_Running_wrap hIZ8) ?_
                rintro y3 Z33 ⟨hFZ33, hIZ33⟩
                exact ok.ret ⟨(((Fr.rf.tr hFu1 (fun _ q => q)).tr hFZ8 (by decide)).tr hFZ33 sQv20_Qv19), hIZ33⟩
  exact lpu1 BIG q1 p5 p6 p7 p3 p4 (0 : Int32) X hI (Fr.rf : Fr YC Qv19 _ _) (show 0 ≤ (0 : Int) ∧ (0 : Int) ≤ 3 from by omega) (show (4 - (0 : Int)).toNat < BIG from ltBIG (show _ < 100000 from by omega))
theorem sQv19_Qv18 : ∀ k ∈ Qv19, k ∈ Qv18 := by decide
set_option maxHeartbeats 4000000 in
theorem v_Running_askOutward_N2 {q1 : Int64} {q3 : Int64} {X : St} (hI : INV X) (hr70_2 : X.2.2 70 2 = 3) : ok (g_Running_askOutward q1 q3 X) (fun r Y => (Fr YC Qv18 X Y ∧ INV Y)) := by
  unfold g_Running_askOutward
  refine ok.bd (v_Running_unwrap hI) ?_
  rintro x1 Z2 ⟨⟨hFZ2, hIZ2⟩, hp1⟩
  have hp1 : 0 ≤ x1.toInt ∧ x1.toInt ≤ 20 := hp1
  refine ok.sub (show _ ≤ x1.toInt - (1 : Int) ∧ x1.toInt - (1 : Int) ≤ _ from by omega) (fun x3 hx3 => ?_)
  have hx3 : x3.toInt = x1.toInt - (1 : Int) := hx3
  have lpu3 : ∀ (n : Nat), ∀ (l_5u3 : Int64) (a_7u3 : Int32) (Zu3 : St), INV Zu3 → Fr YC Qv18 X Zu3 → (-1 ≤ a_7u3.toInt ∧ a_7u3.toInt ≤ 19) → (a_7u3.toInt + 1).toNat < n → ok (g_Running_askOutward_12 n l_5u3 a_7u3 Zu3) (fun r Y => (Fr YC Qv18 X Y ∧ INV Y)) := by
    intro n
    unfold g_Running_askOutward_12
    refine lp_indN (P := fun (n : Nat) (r_u3 : Int64 → Int32 → St → Option (Int64 × St)) => ∀ (l_5u3 : Int64) (a_7u3 : Int32) (Zu3 : St), INV Zu3 → Fr YC Qv18 X Zu3 → (-1 ≤ a_7u3.toInt ∧ a_7u3.toInt ≤ 19) → (a_7u3.toInt + 1).toNat < n → ok (r_u3 l_5u3 a_7u3 Zu3) (fun r Y => (Fr YC Qv18 X Y ∧ INV Y))) ?_ ?_ n
    · intro l_5u3 a_7u3 Zu3 hIu3 hFu3 u3_0  hm; exact absurd hm (Nat.not_lt_zero _)
    · intro n r_u3 ih_u3 l_5u3 a_7u3 Zu3 hIu3 hFu3 u3_0  hmu3
      unfold g_Running_askOutward_12_s
      refine ok.ite (fun c4 => ?_) (fun c4 => ?_)
      · skip
        exact ok.ret ⟨(Fr.rf.tr hFu3 (fun _ q => q)), hIu3⟩
      · skip
        refine ok.ck (show 0 ≤ a_7u3.toInt ∧ a_7u3.toInt < ((20 : Nat) : Int) from by omega) ?_
        refine ok.letE (v1 := (Zu3.1 85 (ix a_7u3))) rfl ?_
        have g5 : 0 ≤ (Zu3.1 85 (ix a_7u3)).toInt ∧ (Zu3.1 85 (ix a_7u3)).toInt ≤ 999 := hIu3.1 85 (ix a_7u3)
        refine ok.ck (by rw [((hFu3.2.2 70 2 n14002_Qv18).trans hr70_2)]; decide) ?_
        refine ok.letE (v1 := 2) (by rw [((hFu3.2.2 70 2 n14002_Qv18).trans hr70_2)]) ?_
        refine ok.letE (v1 := 3) (by decide) ?_
        refine ok.ck (show 0 ≤ (Zu3.1 85 (ix a_7u3)).toInt ∧ (Zu3.1 85 (ix a_7u3)).toInt < ((1000 : Nat) : Int) from by omega) ?_
        refine ok.letE (v1 := (Zu3.1 76 (ix (Zu3.1 85 (ix a_7u3))))) rfl ?_
        refine ok.bd (v_Kinds_givesOf_3 hIu3) ?_
        rintro x8 _ rfl
        refine ok.ck (by rw [((hFu3.2.2 70 2 n14002_Qv18).trans hr70_2)]; decide) ?_
        refine ok.letE (v1 := 2) (by rw [((hFu3.2.2 70 2 n14002_Qv18).trans hr70_2)]) ?_
        refine ok.letE (v1 := 3) (by decide) ?_
        refine ok.ck (show 0 ≤ (Zu3.1 85 (ix a_7u3)).toInt ∧ (Zu3.1 85 (ix a_7u3)).toInt < ((1000 : Nat) : Int) from by omega) ?_
        refine ok.letE (v1 := (Zu3.1 77 (ix (Zu3.1 85 (ix a_7u3))))) rfl ?_
        refine ok.bd (v_Kinds_givesOf_3 hIu3) ?_
        rintro x13 _ rfl
        refine ok.ck (show 0 ≤ (Zu3.1 85 (ix a_7u3)).toInt ∧ (Zu3.1 85 (ix a_7u3)).toInt < ((1000 : Nat) : Int) from by omega) ?_
        refine ok.letE (v1 := (Zu3.1 78 (ix (Zu3.1 85 (ix a_7u3))))) rfl ?_
        refine ok.ck (show 0 ≤ (Zu3.1 85 (ix a_7u3)).toInt ∧ (Zu3.1 85 (ix a_7u3)).toInt < ((1000 : Nat) : Int) from by omega) ?_
        refine ok.letE (v1 := (Zu3.1 79 (ix (Zu3.1 85 (ix a_7u3))))) rfl ?_
        refine ok.ck (show 0 ≤ (Zu3.1 85 (ix a_7u3)).toInt ∧ (Zu3.1 85 (ix a_7u3)).toInt < ((1000 : Nat) : Int) from by omega) ?_
        refine ok.letE (v1 := (Zu3.1 80 (ix (Zu3.1 85 (ix a_7u3))))) rfl ?_
        refine ok.bd (v_Running_ask_N2 hIu3 ((hFu3.2.2 70 2 n14002_Qv18).trans hr70_2)) ?_
        rintro y18 Z9 ⟨hFZ9, hIZ9⟩
        refine ok.inc (by decide) (show _ ≤ a_7u3.toInt + (-1) ∧ a_7u3.toInt + (-1) ≤ _ from by omega) (fun x20 hx20 => ?_)
        have hx20 : x20.toInt = a_7u3.toInt + (-1) := hx20
        exact ih_u3 y18 x20 Z9 hIZ9 ((Fr.rf.tr hFu3 (fun _ q => q)).tr hFZ9 sQv19_Qv18) (show -1 ≤ x20.toInt ∧ x20.toInt ≤ 19 from by omega) (show (x20.toInt + 1).toNat < _ from by omega)
  exact lpu3 BIG q3 x3 Z2 hIZ2 (Fr.rf.tr hFZ2 (by decide)) (show -1 ≤ x3.toInt ∧ x3.toInt ≤ 19 from by omega) (show (x3.toInt + 1).toNat < BIG from ltBIG (show _ < 100000 from by omega))
theorem sQv18_Qv17 : ∀ k ∈ Qv18, k ∈ Qv17 := by decide
set_option maxHeartbeats 4000000 in
theorem v_Running_fetch_N2 {p1 : Int32} {X : St} (hI : INV X) (hr70_2 : X.2.2 70 2 = 3) : ok (g_Running_fetch p1 X) (fun r Y => (Fr YC Qv17 X Y ∧ INV Y)) := by
  unfold g_Running_fetch
  refine ok.bd (v_Running_popContent hI) ?_
  rintro x1 Z2 ⟨hFZ2, hIZ2⟩
  refine ok.bd (v_Running_pop hIZ2) ?_
  rintro y3 Z4 ⟨hFZ4, hIZ4⟩
  refine ok.bd (v_Heap_core hIZ4) ?_
  rintro y5 _ rfl
  refine ok.bd (v_Heap_hasPlace hIZ4) ?_
  rintro x7 _ rfl
  refine ok.ite (fun c7 => ?_) (fun c7 => ?_)
  · skip
    have g8 := i32_le x7
    refine ok.bd (v_Running_failWith hIZ4) ?_
    rintro r_9 Z11 ⟨hFZ11, hIZ11⟩
    exact ok.ret ⟨(((Fr.rf.tr hFZ2 (by decide)).tr hFZ4 (by decide)).tr hFZ11 (by decide)), hIZ11⟩
  · skip
    refine ok.bd (v_Heap_fetch hIZ4) ?_
    rintro y9 _ rfl
    refine ok.bd (v_Running_askOutward_N2 hIZ4 (((hFZ4.2.2 70 2 (show (14002 : Nat) ∉ [14015] from by decide)).trans (hFZ2.2.2 70 2 (show (14002 : Nat) ∉ [14015] from by decide))).trans hr70_2)) ?_
    rintro y11 Z14 ⟨hFZ14, hIZ14⟩
    refine ok.bd (v_Running_push hIZ14) ?_
    rintro r_15 Z17 ⟨hFZ17, hIZ17⟩
    exact ok.ret ⟨((((Fr.rf.tr hFZ2 (by decide)).tr hFZ4 (by decide)).tr hFZ14 sQv18_Qv17).tr hFZ17 (by decide)), hIZ17⟩
theorem sQv17_Qv14 : ∀ k ∈ Qv17, k ∈ Qv14 := by decide
def Qv21 : List Nat := [14004, 14005, 14006, 14007, 14015, 14202, 14800, 15000, 15200, 15400, 15600, 15800, 16000, 16200, 16800, 17000, 17400]
set_option maxHeartbeats 4000000 in
theorem v_Running_askInto_N2 {p1 : Int32} {p2 : Int32} {q3 : Int64} {X : St} (hI : INV X) (hr70_2 : X.2.2 70 2 = 3) (h0 : 0 ≤ p1.toInt ∧ p1.toInt ≤ 999) : ok (g_Running_askInto p1 p2 q3 X) (fun r Y => (Fr YC Qv19 X Y ∧ INV Y)) := by
  unfold g_Running_askInto
  refine ok.ck (by rw [hr70_2]; decide) ?_
  refine ok.letE (v1 := 2) (by rw [hr70_2]) ?_
  refine ok.letE (v1 := 3) (by decide) ?_
  refine ok.ite (fun c1 => ?_) (fun c1 => ?_)
  · skip
    have g2 := i32_le p2
    refine ok.ck (show 0 ≤ p1.toInt ∧ p1.toInt < ((1000 : Nat) : Int) from by omega) ?_
    refine ok.letE (v1 := (X.1 77 (ix p1))) rfl ?_
    refine ok.bd (v_Kinds_givesOf_3 hI) ?_
    rintro x18 _ rfl
    unfold g_Running_askInto_46
    refine ok.ite (fun c4 => ?_) (fun c4 => absurd (show p2.toInt = -1 from by omega) c4)
    refine ok.ck (show 0 ≤ p1.toInt ∧ p1.toInt < ((1000 : Nat) : Int) from by omega) ?_
    refine ok.letE (v1 := (X.1 76 (ix p1))) rfl ?_
    refine ok.bd (v_Kinds_givesOf_3 hI) ?_
    rintro x15 _ rfl
    unfold g_Running_askInto_85
    refine ok.ck (show 0 ≤ p1.toInt ∧ p1.toInt < ((1000 : Nat) : Int) from by omega) ?_
    refine ok.letE (v1 := (X.1 79 (ix p1))) rfl ?_
    refine ok.ck (show 0 ≤ p1.toInt ∧ p1.toInt < ((1000 : Nat) : Int) from by omega) ?_
    refine ok.letE (v1 := (X.1 78 (ix p1))) rfl ?_
    refine ok.ck (show 0 ≤ p1.toInt ∧ p1.toInt < ((1000 : Nat) : Int) from by omega) ?_
    refine ok.letE (v1 := (X.1 80 (ix p1))) rfl ?_
    refine ok.bd (v_Running_ask_N2 hI hr70_2) ?_
    rintro y12 Z7 ⟨hFZ7, hIZ7⟩
    exact ok.ret ⟨(Fr.rf.tr hFZ7 (fun _ q => q)), hIZ7⟩
  · skip
    refine ok.ck (show 0 ≤ p1.toInt ∧ p1.toInt < ((1000 : Nat) : Int) from by omega) ?_
    refine ok.letE (v1 := (X.1 77 (ix p1))) rfl ?_
    refine ok.bd (v_Kinds_paramOf_3 hI) ?_
    rintro x4 _ rfl
    unfold g_Running_askInto_46
    refine ok.ite (fun c9 => ?_) (fun c9 => ?_)
    · skip
      have g10 := i32_le p2
      refine ok.ck (show 0 ≤ p1.toInt ∧ p1.toInt < ((1000 : Nat) : Int) from by omega) ?_
      refine ok.letE (v1 := (X.1 76 (ix p1))) rfl ?_
      refine ok.bd (v_Kinds_givesOf_3 hI) ?_
      rintro x15 _ rfl
      unfold g_Running_askInto_85
      refine ok.ck (show 0 ≤ p1.toInt ∧ p1.toInt < ((1000 : Nat) : Int) from by omega) ?_
      refine ok.letE (v1 := (X.1 79 (ix p1))) rfl ?_
      refine ok.ck (show 0 ≤ p1.toInt ∧ p1.toInt < ((1000 : Nat) : Int) from by omega) ?_
      refine ok.letE (v1 := (X.1 78 (ix p1))) rfl ?_
      refine ok.ck (show 0 ≤ p1.toInt ∧ p1.toInt < ((1000 : Nat) : Int) from by omega) ?_
      refine ok.letE (v1 := (X.1 80 (ix p1))) rfl ?_
      refine ok.bd (v_Running_ask_N2 hI hr70_2) ?_
      rintro y12 Z13 ⟨hFZ13, hIZ13⟩
      exact ok.ret ⟨(Fr.rf.tr hFZ13 (fun _ q => q)), hIZ13⟩
    · skip
      refine ok.ck (show 0 ≤ p1.toInt ∧ p1.toInt < ((1000 : Nat) : Int) from by omega) ?_
      refine ok.letE (v1 := (X.1 76 (ix p1))) rfl ?_
      refine ok.bd (v_Kinds_paramOf_3 hI) ?_
      rintro x7 _ rfl
      unfold g_Running_askInto_85
      refine ok.ck (show 0 ≤ p1.toInt ∧ p1.toInt < ((1000 : Nat) : Int) from by omega) ?_
      refine ok.letE (v1 := (X.1 79 (ix p1))) rfl ?_
      refine ok.ck (show 0 ≤ p1.toInt ∧ p1.toInt < ((1000 : Nat) : Int) from by omega) ?_
      refine ok.letE (v1 := (X.1 78 (ix p1))) rfl ?_
      refine ok.ck (show 0 ≤ p1.toInt ∧ p1.toInt < ((1000 : Nat) : Int) from by omega) ?_
      refine ok.letE (v1 := (X.1 80 (ix p1))) rfl ?_
      refine ok.bd (v_Running_ask_N2 hI hr70_2) ?_
      rintro y12 Z16 ⟨hFZ16, hIZ16⟩
      exact ok.ret ⟨(Fr.rf.tr hFZ16 (fun _ q => q)), hIZ16⟩
theorem n14002_Qv21 : (14002 : Nat) ∉ Qv21 := by decide
theorem sQv19_Qv21 : ∀ k ∈ Qv19, k ∈ Qv21 := by decide
set_option maxHeartbeats 4000000 in
theorem v_Running_store_N2 {p1 : Int32} {X : St} (hI : INV X) (hr70_2 : X.2.2 70 2 = 3) : ok (g_Running_store p1 X) (fun r Y => (Fr YC Qv21 X Y ∧ INV Y)) := by
  unfold g_Running_store
  refine ok.bd (v_Running_pop hI) ?_
  rintro y1 Z2 ⟨hFZ2, hIZ2⟩
  refine ok.bd (v_Running_popContent hIZ2) ?_
  rintro x3 Z4 ⟨hFZ4, hIZ4⟩
  refine ok.bd (v_Running_pop hIZ4) ?_
  rintro y5 Z6 ⟨hFZ6, hIZ6⟩
  refine ok.bd (v_Heap_core hIZ6) ?_
  rintro y7 _ rfl
  refine ok.bd (v_Heap_hasPlace hIZ6) ?_
  rintro x9 _ rfl
  refine ok.ite (fun c9 => ?_) (fun c9 => ?_)
  · skip
    have g10 := i32_le x9
    refine ok.bd (v_Running_failWith hIZ6) ?_
    rintro r_11 Z13 ⟨hFZ13, hIZ13⟩
    exact ok.ret ⟨((((Fr.rf.tr hFZ2 (by decide)).tr hFZ4 (by decide)).tr hFZ6 (by decide)).tr hFZ13 (by decide)), hIZ13⟩
  · skip
    refine ok.bd (v_Running_unwrap hIZ6) ?_
    rintro x11 Z15 ⟨⟨hFZ15, hIZ15⟩, hp14⟩
    have hp14 : 0 ≤ x11.toInt ∧ x11.toInt ≤ 20 := hp14
    have lpu16 : ∀ (n : Nat), ∀ (l_2u16 : Int64) (a_4u16 : Int32) (l_7u16 : Int64) (a_9u16 : Int32) (l_10u16 : Int64) (a_12u16 : Int32) (Zu16 : St), INV Zu16 → Fr YC Qv21 X Zu16 → (0 ≤ a_9u16.toInt ∧ a_9u16.toInt ≤ 20) → (0 ≤ a_12u16.toInt ∧ a_12u16.toInt ≤ 20) → (21 - a_12u16.toInt).toNat < n → ok (g_Running_store_63 n l_2u16 a_4u16 l_7u16 a_9u16 l_10u16 a_12u16 Zu16) (fun r Y => (Fr YC Qv21 X Y ∧ INV Y)) := by
      intro n
      unfold g_Running_store_63
      refine lp_indN (P := fun (n : Nat) (r_u16 : Int64 → Int32 → Int64 → Int32 → Int64 → Int32 → St → Option (Int32 × St)) => ∀ (l_2u16 : Int64) (a_4u16 : Int32) (l_7u16 : Int64) (a_9u16 : Int32) (l_10u16 : Int64) (a_12u16 : Int32) (Zu16 : St), INV Zu16 → Fr YC Qv21 X Zu16 → (0 ≤ a_9u16.toInt ∧ a_9u16.toInt ≤ 20) → (0 ≤ a_12u16.toInt ∧ a_12u16.toInt ≤ 20) → (21 - a_12u16.toInt).toNat < n → ok (r_u16 l_2u16 a_4u16 l_7u16 a_9u16 l_10u16 a_12u16 Zu16) (fun r Y => (Fr YC Qv21 X Y ∧ INV Y))) ?_ ?_ n
      · intro l_2u16 a_4u16 l_7u16 a_9u16 l_10u16 a_12u16 Zu16 hIu16 hFu16 u16_0 u16_1  hm; exact absurd hm (Nat.not_lt_zero _)
      · intro n r_u16 ih_u16 l_2u16 a_4u16 l_7u16 a_9u16 l_10u16 a_12u16 Zu16 hIu16 hFu16 u16_0 u16_1  hmu16
        unfold g_Running_store_63_s
        refine ok.ite (fun c17 => ?_) (fun c17 => ?_)
        · skip
          refine ok.letE (v1 := (Zu16.1 70 4)) rfl ?_
          refine ok.ite (fun c18 => ?_) (fun c18 => ?_)
          · skip
            have g19 := i32_le (Zu16.1 70 4)
            exact ok.ret ⟨(Fr.rf.tr hFu16 (fun _ q => q)), hIu16⟩
          · skip
            refine ok.bd (v_Heap_store hIu16) ?_
            rintro r_20 Z22 ⟨hFZ22, hIZ22⟩
            refine ok.bd (v_Running_push hIZ22) ?_
            rintro r_23 Z25 ⟨hFZ25, hIZ25⟩
            exact ok.ret ⟨(((Fr.rf.tr hFu16 (fun _ q => q)).tr hFZ22 (by decide)).tr hFZ25 (by decide)), hIZ25⟩
        · skip
          refine ok.ck (show 0 ≤ a_12u16.toInt ∧ a_12u16.toInt < ((20 : Nat) : Int) from by omega) ?_
          refine ok.letE (v1 := (Zu16.1 85 (ix a_12u16))) rfl ?_
          have g26 : 0 ≤ (Zu16.1 85 (ix a_12u16)).toInt ∧ (Zu16.1 85 (ix a_12u16)).toInt ≤ 999 := hIu16.1 85 (ix a_12u16)
          refine ok.bd (v_Running_askInto_N2 hIu16 ((hFu16.2.2 70 2 n14002_Qv21).trans hr70_2) (show 0 ≤ (Zu16.1 85 (ix a_12u16)).toInt ∧ (Zu16.1 85 (ix a_12u16)).toInt ≤ 999 from by omega)) ?_
          rintro y17 Z28 ⟨hFZ28, hIZ28⟩
          refine ok.inc (by decide) (show _ ≤ a_12u16.toInt + (1) ∧ a_12u16.toInt + (1) ≤ _ from by omega) (fun x19 hx19 => ?_)
          have hx19 : x19.toInt = a_12u16.toInt + (1) := hx19
          exact ih_u16 l_2u16 a_4u16 l_7u16 a_9u16 y17 x19 Z28 hIZ28 ((Fr.rf.tr hFu16 (fun _ q => q)).tr hFZ28 sQv19_Qv21) (show 0 ≤ a_9u16.toInt ∧ a_9u16.toInt ≤ 20 from by omega) (show 0 ≤ x19.toInt ∧ x19.toInt ≤ 20 from by omega) (show (21 - x19.toInt).toNat < _ from by omega)
    exact lpu16 BIG y1 x3 y7 x11 y1 (0 : Int32) Z15 hIZ15 ((((Fr.rf.tr hFZ2 (by decide)).tr hFZ4 (by decide)).tr hFZ6 (by decide)).tr hFZ15 (by decide)) (show 0 ≤ x11.toInt ∧ x11.toInt ≤ 20 from by omega) (show 0 ≤ (0 : Int) ∧ (0 : Int) ≤ 20 from by omega) (show (21 - (0 : Int)).toNat < BIG from ltBIG (show _ < 100000 from by omega))
theorem sQv21_Qv14 : ∀ k ∈ Qv21, k ∈ Qv14 := by decide
def Qv22 : List Nat := [14004, 14005, 14006, 14007, 14010, 14011, 14015, 14202, 15000, 15200, 15400, 15600, 15800, 16000, 16200, 16400, 16600, 16800, 17000, 17400]
theorem n14002_Qv22 : (14002 : Nat) ∉ Qv22 := by decide
theorem sQv12_Qv22 : ∀ k ∈ Qv12, k ∈ Qv22 := by decide
theorem sQv19_Qv22 : ∀ k ∈ Qv19, k ∈ Qv22 := by decide
set_option maxHeartbeats 4000000 in
theorem v_Running_callWith_N2 {p1 : Int32} {p2 : Int32} {X : St} (hI : INV X) (hr70_2 : X.2.2 70 2 = 3) (h0 : 0 ≤ p1.toInt ∧ p1.toInt ≤ 20000) : ok (g_Running_callWith p1 p2 X) (fun r Y => (Fr YC Qv22 X Y ∧ INV Y)) := by
  unfold g_Running_callWith
  refine ok.letE (v1 := (X.1 70 15)) rfl ?_
  have g1 : 0 ≤ (X.1 70 15).toInt ∧ (X.1 70 15).toInt ≤ 20002 := hI.1 70 15
  refine ok.sub (show _ ≤ (X.1 70 15).toInt - (1 : Int) ∧ (X.1 70 15).toInt - (1 : Int) ≤ _ from by omega) (fun x2 hx2 => ?_)
  have hx2 : x2.toInt = (X.1 70 15).toInt - (1 : Int) := hx2
  refine ok.sub (show _ ≤ x2.toInt - p1.toInt ∧ x2.toInt - p1.toInt ≤ _ from by omega) (fun x3 hx3 => ?_)
  have hx3 : x3.toInt = x2.toInt - p1.toInt := hx3
  refine ok.ite (fun c2 => ?_) (fun c2 => ?_)
  · skip
    refine ok.ck (show 0 ≤ x3.toInt ∧ x3.toInt < ((20002 : Nat) : Int) from by omega) ?_
    refine ok.any (fun y4 => ?_)
    refine ok.bd (v_Running_unwrap hI) ?_
    rintro x5 Z4 ⟨⟨hFZ4, hIZ4⟩, hp3⟩
    have hp3 : 0 ≤ x5.toInt ∧ x5.toInt ≤ 20 := hp3
    have lpu5 : ∀ (n : Nat), ∀ (a_1u5 : Int32) (a_2u5 : Int32) (a_3u5 : Int32) (a_4u5 : Int32) (a_5u5 : Int32) (Zu5 : St), INV Zu5 → Fr YC Qv22 X Zu5 → (0 ≤ a_1u5.toInt ∧ a_1u5.toInt ≤ 20000) → (0 ≤ a_3u5.toInt ∧ a_3u5.toInt + a_1u5.toInt ≤ 20001) → (0 ≤ a_4u5.toInt ∧ a_4u5.toInt ≤ 20) → (0 ≤ a_5u5.toInt ∧ a_5u5.toInt ≤ 20) → (21 - a_5u5.toInt).toNat < n → ok (g_Running_callWith_34 n a_1u5 a_2u5 a_3u5 a_4u5 a_5u5 Zu5) (fun r Y => (Fr YC Qv22 X Y ∧ INV Y)) := by
      intro n
      unfold g_Running_callWith_34
      refine lp_indN (P := fun (n : Nat) (r_u5 : Int32 → Int32 → Int32 → Int32 → Int32 → St → Option (Int32 × St)) => ∀ (a_1u5 : Int32) (a_2u5 : Int32) (a_3u5 : Int32) (a_4u5 : Int32) (a_5u5 : Int32) (Zu5 : St), INV Zu5 → Fr YC Qv22 X Zu5 → (0 ≤ a_1u5.toInt ∧ a_1u5.toInt ≤ 20000) → (0 ≤ a_3u5.toInt ∧ a_3u5.toInt + a_1u5.toInt ≤ 20001) → (0 ≤ a_4u5.toInt ∧ a_4u5.toInt ≤ 20) → (0 ≤ a_5u5.toInt ∧ a_5u5.toInt ≤ 20) → (21 - a_5u5.toInt).toNat < n → ok (r_u5 a_1u5 a_2u5 a_3u5 a_4u5 a_5u5 Zu5) (fun r Y => (Fr YC Qv22 X Y ∧ INV Y))) ?_ ?_ n
      · intro a_1u5 a_2u5 a_3u5 a_4u5 a_5u5 Zu5 hIu5 hFu5 u5_0 u5_1 u5_2 u5_3  hm; exact absurd hm (Nat.not_lt_zero _)
      · intro n r_u5 ih_u5 a_1u5 a_2u5 a_3u5 a_4u5 a_5u5 Zu5 hIu5 hFu5 u5_0 u5_1 u5_2 u5_3  hmu5
        unfold g_Running_callWith_34_s
        refine ok.ite (fun c6 => ?_) (fun c6 => ?_)
        · skip
          refine ok.letE (v1 := (Zu5.1 70 4)) rfl ?_
          refine ok.ite (fun c7 => ?_) (fun c7 => ?_)
          · skip
            have g8 := i32_le (Zu5.1 70 4)
            exact ok.ret ⟨(Fr.rf.tr hFu5 (fun _ q => q)), hIu5⟩
          · skip
            refine ok.ck (show 0 ≤ a_3u5.toInt ∧ a_3u5.toInt < ((20002 : Nat) : Int) from by omega) ?_
            refine ok.any (fun y8 => ?_)
            refine ok.bd (v_Heap_core hIu5) ?_
            rintro y9 _ rfl
            refine ok.bd (v_Heap_contentOf hIu5) ?_
            rintro x11 _ rfl
            refine ok.bd (v_Running_enterPart_N2 hIu5 ((hFu5.2.2 70 2 n14002_Qv22).trans hr70_2) (show 0 ≤ a_1u5.toInt ∧ a_1u5.toInt ≤ 20002 from by omega)) ?_
            rintro r_11 Z13 ⟨hFZ13, hIZ13⟩
            exact ok.ret ⟨((Fr.rf.tr hFu5 (fun _ q => q)).tr hFZ13 sQv12_Qv22), hIZ13⟩
        · skip
          have lpu14 : ∀ (n : Nat), ∀ (a_1u14 : Int32) (a_2u14 : Int32) (a_3u14 : Int32) (a_4u14 : Int32) (a_5u14 : Int32) (a_6u14 : Int32) (Zu14 : St), INV Zu14 → Fr YC Qv22 X Zu14 → (0 ≤ a_1u14.toInt ∧ a_1u14.toInt ≤ 20000) → (0 ≤ a_3u14.toInt ∧ a_3u14.toInt + a_1u14.toInt ≤ 20001) → (0 ≤ a_4u14.toInt ∧ a_4u14.toInt ≤ 20) → (0 ≤ a_5u14.toInt ∧ a_5u14.toInt < a_4u14.toInt) → (a_5u14.toInt = a_5u5.toInt) → (0 ≤ a_6u14.toInt ∧ a_6u14.toInt ≤ 20000) → (20001 - a_6u14.toInt).toNat < n → ok (g_Running_callWith_44 r_u5 n a_1u14 a_2u14 a_3u14 a_4u14 a_5u14 a_6u14 Zu14) (fun r Y => (Fr YC Qv22 X Y ∧ INV Y)) := by
            intro n
            unfold g_Running_callWith_44
            refine lp_indN (P := fun (n : Nat) (r_u14 : Int32 → Int32 → Int32 → Int32 → Int32 → Int32 → St → Option (Int32 × St)) => ∀ (a_1u14 : Int32) (a_2u14 : Int32) (a_3u14 : Int32) (a_4u14 : Int32) (a_5u14 : Int32) (a_6u14 : Int32) (Zu14 : St), INV Zu14 → Fr YC Qv22 X Zu14 → (0 ≤ a_1u14.toInt ∧ a_1u14.toInt ≤ 20000) → (0 ≤ a_3u14.toInt ∧ a_3u14.toInt + a_1u14.toInt ≤ 20001) → (0 ≤ a_4u14.toInt ∧ a_4u14.toInt ≤ 20) → (0 ≤ a_5u14.toInt ∧ a_5u14.toInt < a_4u14.toInt) → (a_5u14.toInt = a_5u5.toInt) → (0 ≤ a_6u14.toInt ∧ a_6u14.toInt ≤ 20000) → (20001 - a_6u14.toInt).toNat < n → ok (r_u14 a_1u14 a_2u14 a_3u14 a_4u14 a_5u14 a_6u14 Zu14) (fun r Y => (Fr YC Qv22 X Y ∧ INV Y))) ?_ ?_ n
            · intro a_1u14 a_2u14 a_3u14 a_4u14 a_5u14 a_6u14 Zu14 hIu14 hFu14 u14_0 u14_1 u14_2 u14_3 u14_4 u14_5  hm; exact absurd hm (Nat.not_lt_zero _)
            · intro n r_u14 ih_u14 a_1u14 a_2u14 a_3u14 a_4u14 a_5u14 a_6u14 Zu14 hIu14 hFu14 u14_0 u14_1 u14_2 u14_3 u14_4 u14_5  hmu14
              unfold g_Running_callWith_44_s
              refine ok.ite (fun c15 => ?_) (fun c15 => ?_)
              · skip
                refine ok.inc (by decide) (show _ ≤ a_5u14.toInt + (1) ∧ a_5u14.toInt + (1) ≤ _ from by omega) (fun x14 hx14 => ?_)
                have hx14 : x14.toInt = a_5u14.toInt + (1) := hx14
                exact ih_u5 a_1u14 a_2u14 a_3u14 a_4u14 x14 Zu14 hIu14 (Fr.rf.tr hFu14 (fun _ q => q)) (show 0 ≤ a_1u14.toInt ∧ a_1u14.toInt ≤ 20000 from by omega) (show 0 ≤ a_3u14.toInt ∧ a_3u14.toInt + a_1u14.toInt ≤ 20001 from by omega) (show 0 ≤ a_4u14.toInt ∧ a_4u14.toInt ≤ 20 from by omega) (show 0 ≤ x14.toInt ∧ x14.toInt ≤ 20 from by omega) (show (21 - x14.toInt).toNat < _ from by omega)
              · skip
                refine ok.add (show _ ≤ a_3u14.toInt + (1 : Int) ∧ a_3u14.toInt + (1 : Int) ≤ _ from by omega) (fun x15 hx15 => ?_)
                have hx15 : x15.toInt = a_3u14.toInt + (1 : Int) := hx15
                refine ok.add (show _ ≤ x15.toInt + a_6u14.toInt ∧ x15.toInt + a_6u14.toInt ≤ _ from by omega) (fun x16 hx16 => ?_)
                have hx16 : x16.toInt = x15.toInt + a_6u14.toInt := hx16
                refine ok.ck (show 0 ≤ a_5u14.toInt ∧ a_5u14.toInt < ((20 : Nat) : Int) from by omega) ?_
                refine ok.letE (v1 := (Zu14.1 85 (ix a_5u14))) rfl ?_
                have g16 : 0 ≤ (Zu14.1 85 (ix a_5u14)).toInt ∧ (Zu14.1 85 (ix a_5u14)).toInt ≤ 999 := hIu14.1 85 (ix a_5u14)
                refine ok.add (show _ ≤ a_3u14.toInt + (1 : Int) ∧ a_3u14.toInt + (1 : Int) ≤ _ from by omega) (fun x18 hx18 => ?_)
                have hx18 : x18.toInt = a_3u14.toInt + (1 : Int) := hx18
                refine ok.add (show _ ≤ x18.toInt + a_6u14.toInt ∧ x18.toInt + a_6u14.toInt ≤ _ from by omega) (fun x19 hx19 => ?_)
                have hx19 : x19.toInt = x18.toInt + a_6u14.toInt := hx19
                refine ok.ck (show 0 ≤ x19.toInt ∧ x19.toInt < ((20002 : Nat) : Int) from by omega) ?_
                refine ok.any (fun y20 => ?_)
                refine ok.bd (v_Running_askInto_N2 hIu14 ((hFu14.2.2 70 2 n14002_Qv22).trans hr70_2) (show 0 ≤ (Zu14.1 85 (ix a_5u14)).toInt ∧ (Zu14.1 85 (ix a_5u14)).toInt ≤ 999 from by omega)) ?_
                rintro y21 Z18 ⟨hFZ18, hIZ18⟩
                refine ok.ck (show 0 ≤ x16.toInt ∧ x16.toInt < ((20002 : Nat) : Int) from by omega) ?_
                refine ok.wL (L := [16800]) hIZ18 (show (16800 : Nat) ∈ [16800] from by decide) (fun Z19 hIZ19 hFZ19 heZ19 => ?_)
                refine ok.inc (by decide) (show _ ≤ a_6u14.toInt + (1) ∧ a_6u14.toInt + (1) ≤ _ from by omega) (fun x24 hx24 => ?_)
                have hx24 : x24.toInt = a_6u14.toInt + (1) := hx24
                exact ih_u14 a_1u14 a_2u14 a_3u14 a_4u14 a_5u14 x24 Z19 hIZ19 (((Fr.rf.tr hFu14 (fun _ q => q)).tr hFZ18 sQv19_Qv22).tr hFZ19 (by decide)) (show 0 ≤ a_1u14.toInt ∧ a_1u14.toInt ≤ 20000 from by omega) (show 0 ≤ a_3u14.toInt ∧ a_3u14.toInt + a_1u14.toInt ≤ 20001 from by omega) (show 0 ≤ a_4u14.toInt ∧ a_4u14.toInt ≤ 20 from by omega) (show 0 ≤ a_5u14.toInt ∧ a_5u14.toInt < a_4u14.toInt from by omega) (show a_5u14.toInt = a_5u5.toInt from by omega) (show 0 ≤ x24.toInt ∧ x24.toInt ≤ 20000 from by omega) (show (20001 - x24.toInt).toNat < _ from by omega)
          exact lpu14 BIG a_1u5 a_2u5 a_3u5 a_4u5 a_5u5 (0 : Int32) Zu5 hIu5 (Fr.rf.tr hFu5 (fun _ q => q)) (show 0 ≤ a_1u5.toInt ∧ a_1u5.toInt ≤ 20000 from by omega) (show 0 ≤ a_3u5.toInt ∧ a_3u5.toInt + a_1u5.toInt ≤ 20001 from by omega) (show 0 ≤ a_4u5.toInt ∧ a_4u5.toInt ≤ 20 from by omega) (show 0 ≤ a_5u5.toInt ∧ a_5u5.toInt < a_4u5.toInt from by omega) (show a_5u5.toInt = a_5u5.toInt from by omega) (show 0 ≤ (0 : Int) ∧ (0 : Int) ≤ 20000 from by omega) (show (20001 - (0 : Int)).toNat < BIG from ltBIG (show _ < 100000 from by omega))
    exact lpu5 BIG p1 p2 x3 x5 (0 : Int32) Z4 hIZ4 (Fr.rf.tr hFZ4 (by decide)) (show 0 ≤ p1.toInt ∧ p1.toInt ≤ 20000 from by omega) (show 0 ≤ x3.toInt ∧ x3.toInt + p1.toInt ≤ 20001 from by omega) (show 0 ≤ x5.toInt ∧ x5.toInt ≤ 20 from by omega) (show 0 ≤ (0 : Int) ∧ (0 : Int) ≤ 20 from by omega) (show (21 - (0 : Int)).toNat < BIG from ltBIG (show _ < 100000 from by omega))
  · skip
    refine ok.wI (L := [14004]) hI (show True from trivial) (show (14004 : Nat) ∈ [14004] from by decide) (by decide) (fun Z20 hIZ20 hFZ20 hkZ20 hoZ20 => ?_)
    exact ok.ret ⟨(Fr.rf.tr hFZ20 (by decide)), hIZ20⟩
theorem sQv22_Qv14 : ∀ k ∈ Qv22, k ∈ Qv14 := by decide
def Qv23 : List Nat := [14004, 14005, 14006, 14007, 14010, 14011, 14015, 14202, 15000, 15200, 15400, 15600, 15800, 16000, 16200, 16800, 17000, 17400]
theorem n14011_Qv18 : (14011 : Nat) ∉ Qv18 := by decide
theorem n16400_Qv18 : (16400 : Nat) ∉ Qv18 := by decide
theorem sQv18_Qv23 : ∀ k ∈ Qv18, k ∈ Qv23 := by decide
set_option maxHeartbeats 4000000 in
theorem v_Running_leavePart_N2 {X : St} (hI : INV X) (hr70_2 : X.2.2 70 2 = 3) : ok (g_Running_leavePart X) (fun r Y => (Fr YC Qv23 X Y ∧ INV Y)) := by
  unfold g_Running_leavePart
  refine ok.bd (v_Running_pop hI) ?_
  rintro y1 Z2 ⟨hFZ2, hIZ2⟩
  refine ok.bd (v_Running_pop hIZ2) ?_
  rintro y3 Z4 ⟨hFZ4, hIZ4⟩
  refine ok.bd (v_Running_askOutward_N2 hIZ4 (((hFZ4.2.2 70 2 (show (14002 : Nat) ∉ [14015] from by decide)).trans (hFZ2.2.2 70 2 (show (14002 : Nat) ∉ [14015] from by decide))).trans hr70_2)) ?_
  rintro y5 Z6 ⟨hFZ6, hIZ6⟩
  refine ok.bd (v_Running_push hIZ6) ?_
  rintro r_7 Z9 ⟨hFZ9, hIZ9⟩
  refine ok.letE (v1 := (X.1 70 11)) ((((hFZ9.1 70 11 (show (14011 : Nat) ∉ [14015, 16800] from by decide)).trans (hFZ6.1 70 11 n14011_Qv18)).trans (hFZ4.1 70 11 (show (14011 : Nat) ∉ [14015] from by decide))).trans (hFZ2.1 70 11 (show (14011 : Nat) ∉ [14015] from by decide))) ?_
  have g10 : 0 ≤ (X.1 70 11).toInt ∧ (X.1 70 11).toInt ≤ 100 := hI.1 70 11
  refine ok.sub (show _ ≤ (X.1 70 11).toInt - (1 : Int) ∧ (X.1 70 11).toInt - (1 : Int) ≤ _ from by omega) (fun x9 hx9 => ?_)
  have hx9 : x9.toInt = (X.1 70 11).toInt - (1 : Int) := hx9
  refine ok.eqv (fun x10 hx10 => ?_)
  have hx10 : ((0 : Int) < x9.toInt ∧ x10.toInt = x9.toInt) ∨ (¬ ((0 : Int) < x9.toInt) ∧ x10.toInt = (0 : Int)) := by
    rw [hx10]
    by_cases gc : (0 : Int32) < x9
    · rw [if_pos gc]; exact Or.inl ⟨(Int32.lt_iff_toInt_lt.mp gc), rfl⟩
    · rw [if_neg gc]; exact Or.inr ⟨(fun z => gc (Int32.lt_iff_toInt_lt.mpr z)), rfl⟩
  refine ok.wI (L := [14011]) hIZ9 (show 0 ≤ x10.toInt ∧ x10.toInt ≤ 100 from by omega) (show (14011 : Nat) ∈ [14011] from by decide) (by decide) (fun Z11 hIZ11 hFZ11 hkZ11 hoZ11 => ?_)
  refine ok.letE (v1 := x10) hkZ11 ?_
  refine ok.ck (show 0 ≤ x10.toInt ∧ x10.toInt < ((100 : Nat) : Int) from by omega) ?_
  refine ok.letE (v1 := (X.1 82 (ix x10))) (((((hFZ11.1 82 (ix x10) (show (16400 : Nat) ∉ [14011] from by decide)).trans (hFZ9.1 82 (ix x10) (show (16400 : Nat) ∉ [14015, 16800] from by decide))).trans (hFZ6.1 82 (ix x10) n16400_Qv18)).trans (hFZ4.1 82 (ix x10) (show (16400 : Nat) ∉ [14015] from by decide))).trans (hFZ2.1 82 (ix x10) (show (16400 : Nat) ∉ [14015] from by decide))) ?_
  refine ok.wI (L := [14010]) hIZ11 (show True from trivial) (show (14010 : Nat) ∈ [14010] from by decide) (by decide) (fun Z12 hIZ12 hFZ12 hkZ12 hoZ12 => ?_)
  refine ok.letE (v1 := x10) ((hFZ12.1 70 11 (show (14011 : Nat) ∉ [14010] from by decide)).trans hkZ11) ?_
  refine ok.ite (fun c13 => ?_) (fun c13 => ?_)
  · skip
    refine ok.wI (L := [14004]) hIZ12 (show True from trivial) (show (14004 : Nat) ∈ [14004] from by decide) (by decide) (fun Z14 hIZ14 hFZ14 hkZ14 hoZ14 => ?_)
    exact ok.ret ⟨(((((((Fr.rf.tr hFZ2 (by decide)).tr hFZ4 (by decide)).tr hFZ6 sQv18_Qv23).tr hFZ9 (by decide)).tr hFZ11 (by decide)).tr hFZ12 (by decide)).tr hFZ14 (by decide)), hIZ14⟩
  · skip
    exact ok.ret ⟨((((((Fr.rf.tr hFZ2 (by decide)).tr hFZ4 (by decide)).tr hFZ6 sQv18_Qv23).tr hFZ9 (by decide)).tr hFZ11 (by decide)).tr hFZ12 (by decide)), hIZ12⟩
theorem sQv23_Qv14 : ∀ k ∈ Qv23, k ∈ Qv14 := by decide
set_option maxHeartbeats 4000000 in
theorem v_Running_workRowOrCall_N2 {p1 : Int32} {p2 : Int32} {p3 : Int32} {X : St} (hI : INV X) (hr70_2 : X.2.2 70 2 = 3) (h0 : 10 ≤ p1.toInt ∧ p1.toInt ≤ 17) (h1 : (p1.toInt = 10 ∨ p1.toInt = 16) → 0 ≤ p2.toInt ∧ p2.toInt ≤ 20000) : ok (g_Running_workRowOrCall p1 p2 p3 X) (fun r Y => (Fr YC Qv14 X Y ∧ INV Y)) := by
  unfold g_Running_workRowOrCall
  refine ok.ite (fun c1 => ?_) (fun c1 => ?_)
  · skip
    refine ok.bd (v_Running_makeRow hI (show 0 ≤ p2.toInt ∧ p2.toInt ≤ 20000 from by omega)) ?_
    rintro r_2 Z4 ⟨hFZ4, hIZ4⟩
    exact ok.ret ⟨(Fr.rf.tr hFZ4 sQv15_Qv14), hIZ4⟩
  · skip
    refine ok.ite (fun c5 => ?_) (fun c5 => ?_)
    · skip
      refine ok.bd (v_Running_makeNew hI) ?_
      rintro r_6 Z8 ⟨hFZ8, hIZ8⟩
      exact ok.ret ⟨(Fr.rf.tr hFZ8 sQv15_Qv14), hIZ8⟩
    · skip
      refine ok.ite (fun c9 => ?_) (fun c9 => ?_)
      · skip
        refine ok.bd (v_Running_pop hI) ?_
        rintro y6 Z11 ⟨hFZ11, hIZ11⟩
        refine ok.bd (v_Heap_core hIZ11) ?_
        rintro y8 _ rfl
        refine ok.bd (v_Heap_lengthOf hIZ11) ?_
        rintro x10 _ rfl
        refine ok.eqv (fun x12 hx12 => ?_)
        have hx12 : ((0 : Int) < x10.toInt ∧ x12.toInt = x10.toInt) ∨ (¬ ((0 : Int) < x10.toInt) ∧ x12.toInt = (0 : Int)) := by
          rw [hx12]
          by_cases gc : (0 : Int32) < x10
          · rw [if_pos gc]; exact Or.inl ⟨(Int32.lt_iff_toInt_lt.mp gc), rfl⟩
          · rw [if_neg gc]; exact Or.inr ⟨(fun z => gc (Int32.lt_iff_toInt_lt.mpr z)), rfl⟩
        refine ok.bd (v_Running_pushNumber hIZ11) ?_
        rintro r_14 Z16 ⟨hFZ16, hIZ16⟩
        exact ok.ret ⟨((Fr.rf.tr hFZ11 (by decide)).tr hFZ16 (by decide)), hIZ16⟩
      · skip
        refine ok.ite (fun c17 => ?_) (fun c17 => ?_)
        · skip
          refine ok.bd (v_Running_print hI) ?_
          rintro r_18 Z20 ⟨hFZ20, hIZ20⟩
          exact ok.ret ⟨(Fr.rf.tr hFZ20 sQv16_Qv14), hIZ20⟩
        · skip
          refine ok.ite (fun c21 => ?_) (fun c21 => ?_)
          · skip
            refine ok.bd (v_Running_fetch_N2 hI hr70_2) ?_
            rintro r_22 Z24 ⟨hFZ24, hIZ24⟩
            exact ok.ret ⟨(Fr.rf.tr hFZ24 sQv17_Qv14), hIZ24⟩
          · skip
            refine ok.ite (fun c25 => ?_) (fun c25 => ?_)
            · skip
              refine ok.bd (v_Running_store_N2 hI hr70_2) ?_
              rintro r_26 Z28 ⟨hFZ28, hIZ28⟩
              exact ok.ret ⟨(Fr.rf.tr hFZ28 sQv21_Qv14), hIZ28⟩
            · skip
              refine ok.ite (fun c29 => ?_) (fun c29 => ?_)
              · skip
                refine ok.bd (v_Running_callWith_N2 hI hr70_2 (show 0 ≤ p2.toInt ∧ p2.toInt ≤ 20000 from by omega)) ?_
                rintro r_30 Z32 ⟨hFZ32, hIZ32⟩
                exact ok.ret ⟨(Fr.rf.tr hFZ32 sQv22_Qv14), hIZ32⟩
              · skip
                refine ok.bd (v_Running_leavePart_N2 hI hr70_2) ?_
                rintro r_33 Z35 ⟨hFZ35, hIZ35⟩
                exact ok.ret ⟨(Fr.rf.tr hFZ35 sQv23_Qv14), hIZ35⟩
theorem n14000_Qv14 : (14000 : Nat) ∉ Qv14 := by decide
theorem n14002_Qv14 : (14002 : Nat) ∉ Qv14 := by decide
theorem sQv14_Qv11 : ∀ k ∈ Qv14, k ∈ Qv11 := by decide
set_option maxHeartbeats 4000000 in
theorem v_Running_resultOf {p0 : Int32} {p1 : Int32} {p2 : Int32} {X : St} (hI : INV X) : ok (g_Running_resultOf p0 p1 p2 X) (fun r Y => (X = Y)) := by
  unfold g_Running_resultOf
  refine ok.ite (fun c1 => ?_) (fun c1 => ?_)
  · skip
    have g2 := i32_le p0
    refine ok.any (fun x2 => ?_)
    exact ok.ret rfl
  · skip
    refine ok.ite (fun c3 => ?_) (fun c3 => ?_)
    · skip
      have g4 := i32_le p0
      refine ok.any (fun x4 => ?_)
      exact ok.ret rfl
    · skip
      refine ok.ite (fun c5 => ?_) (fun c5 => ?_)
      · skip
        have g6 := i32_le p0
        refine ok.any (fun x6 => ?_)
        exact ok.ret rfl
      · skip
        refine ok.ite (fun c7 => ?_) (fun c7 => ?_)
        · skip
          have g8 := i32_le p0
          refine ok.ite (fun c9 => ?_) (fun c9 => ?_)
          · skip
            have g10 := i32_le p2
            exact ok.ret rfl
          · skip
            refine ok.ck (show ¬ p2.toInt = 0 from by omega) ?_
            refine ok.any (fun x8 => ?_)
            exact ok.ret rfl
        · skip
          refine ok.ite (fun c11 => ?_) (fun c11 => ?_)
          · skip
            have g12 := i32_le p2
            exact ok.ret rfl
          · skip
            refine ok.ck (show ¬ p2.toInt = 0 from by omega) ?_
            refine ok.any (fun x10 => ?_)
            exact ok.ret rfl
set_option maxHeartbeats 4000000 in
theorem v_Running_workNumbers {p1 : Int32} {p2 : Int32} {X : St} (hI : INV X) : ok (g_Running_workNumbers p1 p2 X) (fun r Y => (Fr YC [14004, 14005, 14006, 14015, 16800] X Y ∧ INV Y)) := by
  unfold g_Running_workNumbers
  refine ok.bd (v_Running_popContent hI) ?_
  rintro x1 Z2 ⟨hFZ2, hIZ2⟩
  refine ok.ite (fun c3 => ?_) (fun c3 => ?_)
  · skip
    have g4 := i32_le p1
    refine ok.any (fun x11 => ?_)
    refine ok.bd (v_Running_pushNumber hIZ2) ?_
    rintro r_5 Z7 ⟨hFZ7, hIZ7⟩
    exact ok.ret ⟨((Fr.rf.tr hFZ2 (by decide)).tr hFZ7 (by decide)), hIZ7⟩
  · skip
    refine ok.ite (fun c8 => ?_) (fun c8 => ?_)
    · skip
      have g9 := i32_le p1
      refine ok.ite (fun c10 => ?_) (fun c10 => ?_)
      · skip
        have g11 := i32_le x1
        unfold g_Running_workNumbers_34
        refine ok.bd (v_Running_pushTruth hIZ2) ?_
        rintro r_12 Z14 ⟨hFZ14, hIZ14⟩
        exact ok.ret ⟨((Fr.rf.tr hFZ2 (by decide)).tr hFZ14 (by decide)), hIZ14⟩
      · skip
        unfold g_Running_workNumbers_34
        refine ok.bd (v_Running_pushTruth hIZ2) ?_
        rintro r_15 Z17 ⟨hFZ17, hIZ17⟩
        exact ok.ret ⟨((Fr.rf.tr hFZ2 (by decide)).tr hFZ17 (by decide)), hIZ17⟩
    · skip
      refine ok.bd (v_Running_popContent hIZ2) ?_
      rintro x3 Z19 ⟨hFZ19, hIZ19⟩
      refine ok.ite (fun c20 => ?_) (fun c20 => ?_)
      · skip
        have g21 := i32_le p1
        unfold g_Running_workNumbers_56
        refine ok.ite (fun c22 => ?_) (fun c22 => absurd (show p1.toInt = 20 from by omega) c22)
        refine ok.ite (fun c23 => ?_) (fun c23 => ?_)
        · skip
          unfold g_Running_workNumbers_88
          refine ok.bd (v_Running_pushTruth hIZ19) ?_
          rintro r_24 Z26 ⟨hFZ26, hIZ26⟩
          exact ok.ret ⟨(((Fr.rf.tr hFZ2 (by decide)).tr hFZ19 (by decide)).tr hFZ26 (by decide)), hIZ26⟩
        · skip
          have g27 := i32_le x1
          have g28 := i32_le x3
          unfold g_Running_workNumbers_88
          refine ok.bd (v_Running_pushTruth hIZ19) ?_
          rintro r_29 Z31 ⟨hFZ31, hIZ31⟩
          exact ok.ret ⟨(((Fr.rf.tr hFZ2 (by decide)).tr hFZ19 (by decide)).tr hFZ31 (by decide)), hIZ31⟩
      · skip
        refine ok.ite (fun c32 => ?_) (fun c32 => ?_)
        · skip
          have g33 := i32_le p1
          unfold g_Running_workNumbers_56
          refine ok.ite (fun c34 => absurd c34 (show ¬ (p1.toInt = 20) from by omega)) (fun c34 => ?_)
          refine ok.ite (fun c35 => ?_) (fun c35 => ?_)
          · skip
            unfold g_Running_workNumbers_88
            refine ok.bd (v_Running_pushTruth hIZ19) ?_
            rintro r_36 Z38 ⟨hFZ38, hIZ38⟩
            exact ok.ret ⟨(((Fr.rf.tr hFZ2 (by decide)).tr hFZ19 (by decide)).tr hFZ38 (by decide)), hIZ38⟩
          · skip
            unfold g_Running_workNumbers_88
            refine ok.bd (v_Running_pushTruth hIZ19) ?_
            rintro r_39 Z41 ⟨hFZ41, hIZ41⟩
            exact ok.ret ⟨(((Fr.rf.tr hFZ2 (by decide)).tr hFZ19 (by decide)).tr hFZ41 (by decide)), hIZ41⟩
        · skip
          refine ok.ite (fun c42 => ?_) (fun c42 => ?_)
          · skip
            have g43 := i32_le x1
            refine ok.ite (fun c44 => ?_) (fun c44 => ?_)
            · skip
              have g45 := i32_le p1
              unfold g_Running_workNumbers_113
              refine ok.bd (v_Running_resultOf hIZ19) ?_
              rintro x6 _ rfl
              refine ok.bd (v_Running_pushNumber hIZ19) ?_
              rintro r_47 Z49 ⟨hFZ49, hIZ49⟩
              exact ok.ret ⟨(((Fr.rf.tr hFZ2 (by decide)).tr hFZ19 (by decide)).tr hFZ49 (by decide)), hIZ49⟩
            · skip
              have g50 := i32_le p1
              refine ok.bd (v_Running_failWith hIZ19) ?_
              rintro r_51 Z53 ⟨hFZ53, hIZ53⟩
              exact ok.ret ⟨(((Fr.rf.tr hFZ2 (by decide)).tr hFZ19 (by decide)).tr hFZ53 (by decide)), hIZ53⟩
          · skip
            unfold g_Running_workNumbers_113
            refine ok.bd (v_Running_resultOf hIZ19) ?_
            rintro x6 _ rfl
            refine ok.bd (v_Running_pushNumber hIZ19) ?_
            rintro r_55 Z57 ⟨hFZ57, hIZ57⟩
            exact ok.ret ⟨(((Fr.rf.tr hFZ2 (by decide)).tr hFZ19 (by decide)).tr hFZ57 (by decide)), hIZ57⟩
theorem s14004x14005x14006x14015x16800_Qv11 : ∀ k ∈ [14004, 14005, 14006, 14015, 16800], k ∈ Qv11 := by decide
def Qv24 : List Nat := [14004, 14005, 14006, 14007, 14015, 14202, 15000, 15200, 15400, 15600, 15800, 16000, 16200, 16800, 17400]
set_option maxHeartbeats 4000000 in
theorem v_Running_sortAskedBy {p0 : Int32} {X : St} (hI : INV X) : ok (g_Running_sortAskedBy p0 X) (fun r Y => (X = Y)) := by
  unfold g_Running_sortAskedBy
  refine ok.ite (fun c1 => ?_) (fun c1 => ?_)
  · skip
    have g2 := i32_le p0
    exact ok.ret rfl
  · skip
    refine ok.ite (fun c3 => ?_) (fun c3 => ?_)
    · skip
      have g4 := i32_le p0
      exact ok.ret rfl
    · skip
      refine ok.ite (fun c5 => ?_) (fun c5 => ?_)
      · skip
        have g6 := i32_le p0
        exact ok.ret rfl
      · skip
        refine ok.ite (fun c7 => ?_) (fun c7 => ?_)
        · skip
          have g8 := i32_le p0
          exact ok.ret rfl
        · skip
          refine ok.ite (fun c9 => ?_) (fun c9 => ?_)
          · skip
            have g10 := i32_le p0
            exact ok.ret rfl
          · skip
            exact ok.ret rfl
set_option maxHeartbeats 4000000 in
theorem v_Running_askUntold_N2 {p1 : Int32} {p2 : Int32} {p3 : Int32} {X : St} (hI : INV X) (hr70_2 : X.2.2 70 2 = 3) : ok (g_Running_askUntold p1 p2 p3 X) (fun r Y => (Fr YC [14004, 14005, 14006] X Y ∧ INV Y)) := by
  unfold g_Running_askUntold
  refine ok.bd (v_Running_sortAskedBy hI) ?_
  rintro x1 _ rfl
  refine ok.ite (fun c2 => ?_) (fun c2 => ?_)
  · skip
    have g3 := i32_le x1
    exact ok.ret ⟨(Fr.rf : Fr YC [14004, 14005, 14006] _ _), hI⟩
  · skip
    refine ok.letE (v1 := (X.1 70 15)) rfl ?_
    have g4 : 0 ≤ (X.1 70 15).toInt ∧ (X.1 70 15).toInt ≤ 20002 := hI.1 70 15
    refine ok.ite (fun c5 => ?_) (fun c5 => ?_)
    · skip
      exact ok.ret ⟨(Fr.rf : Fr YC [14004, 14005, 14006] _ _), hI⟩
    · skip
      refine ok.letE (v1 := (X.1 70 15)) rfl ?_
      refine ok.sub (show _ ≤ (X.1 70 15).toInt - (1 : Int) ∧ (X.1 70 15).toInt - (1 : Int) ≤ _ from by omega) (fun x5 hx5 => ?_)
      have hx5 : x5.toInt = (X.1 70 15).toInt - (1 : Int) := hx5
      refine ok.ck (show 0 ≤ x5.toInt ∧ x5.toInt < ((20002 : Nat) : Int) from by omega) ?_
      refine ok.any (fun y6 => ?_)
      refine ok.bd (v_Running_isSuch_N2 hI hr70_2) ?_
      rintro x7 _ rfl
      refine ok.ite (fun c7 => ?_) (fun c7 => ?_)
      · skip
        have g8 := i32_le x7
        refine ok.bd (v_Running_failWith hI) ?_
        rintro r_9 Z11 ⟨hFZ11, hIZ11⟩
        exact ok.ret ⟨(Fr.rf.tr hFZ11 (fun _ q => q)), hIZ11⟩
      · skip
        exact ok.ret ⟨(Fr.rf : Fr YC [14004, 14005, 14006] _ _), hI⟩
theorem sQv19_Qv24 : ∀ k ∈ Qv19, k ∈ Qv24 := by decide
set_option maxHeartbeats 4000000 in
theorem v_Running_workAsking_N2 {p1 : Int32} {X : St} (hI : INV X) (hr70_0 : X.2.2 70 0 = 56) (hr70_2 : X.2.2 70 2 = 3) (h0 : 0 ≤ p1.toInt ∧ p1.toInt ≤ 9079) : ok (g_Running_workAsking p1 X) (fun r Y => (Fr YC Qv24 X Y ∧ INV Y)) := by
  unfold g_Running_workAsking
  refine ok.letE (v1 := (X.1 70 3)) rfl ?_
  refine ok.ite (fun c1 => ?_) (fun c1 => ?_)
  · skip
    have g2 := i32_le (X.1 70 3)
    refine ok.ck (by rw [hr70_2]; decide) ?_
    refine ok.letE (v1 := 2) (by rw [hr70_2]) ?_
    refine ok.letE (v1 := 20) (by decide) ?_
    refine ok.ck (show 0 ≤ p1.toInt ∧ p1.toInt < ((9080 : Nat) : Int) from by omega) ?_
    refine ok.letE (v1 := (X.1 20 (ix p1))) rfl ?_
    have g3 : 0 ≤ (X.1 20 (ix p1)).toInt ∧ (X.1 20 (ix p1)).toInt ≤ 36 := hI.1 20 (ix p1)
    refine ok.ck (by rw [hr70_2]; decide) ?_
    refine ok.letE (v1 := 2) (by rw [hr70_2]) ?_
    refine ok.letE (v1 := 21) (by decide) ?_
    refine ok.ck (show 0 ≤ p1.toInt ∧ p1.toInt < ((9080 : Nat) : Int) from by omega) ?_
    refine ok.letE (v1 := (X.1 21 (ix p1))) rfl ?_
    refine ok.ck (by rw [hr70_2]; decide) ?_
    refine ok.letE (v1 := 2) (by rw [hr70_2]) ?_
    refine ok.letE (v1 := 23) (by decide) ?_
    refine ok.ck (show 0 ≤ p1.toInt ∧ p1.toInt < ((9080 : Nat) : Int) from by omega) ?_
    refine ok.letE (v1 := (X.1 23 (ix p1))) rfl ?_
    have g4 : 0 ≤ (X.1 23 (ix p1)).toInt ∧ (X.1 23 (ix p1)).toInt ≤ 3000 := hI.1 23 (ix p1)
    refine ok.bd (v_Running_askUntold_N2 hI hr70_2) ?_
    rintro r_5 Z7 ⟨hFZ7, hIZ7⟩
    exact ok.ret ⟨(Fr.rf.tr hFZ7 (by decide)), hIZ7⟩
  · skip
    refine ok.ck (by rw [hr70_2]; decide) ?_
    refine ok.letE (v1 := 2) (by rw [hr70_2]) ?_
    refine ok.letE (v1 := 22) (by decide) ?_
    refine ok.ck (show 0 ≤ p1.toInt ∧ p1.toInt < ((9080 : Nat) : Int) from by omega) ?_
    refine ok.letE (v1 := (X.1 22 (ix p1))) rfl ?_
    refine ok.ite (fun c8 => ?_) (fun c8 => ?_)
    · skip
      have g9 := i32_le (X.1 22 (ix p1))
      exact ok.ret ⟨(Fr.rf : Fr YC Qv24 _ _), hI⟩
    · skip
      have g10 := i32_le (X.1 22 (ix p1))
      refine ok.ck hr70_0 ?_
      refine ok.letE (v1 := (X.1 55 5)) rfl ?_
      have g11 : 0 ≤ (X.1 55 5).toInt ∧ (X.1 55 5).toInt ≤ 3000 := hI.1 55 5
      refine ok.ite (fun c12 => ?_) (fun c12 => ?_)
      · skip
        exact ok.ret ⟨(Fr.rf : Fr YC Qv24 _ _), hI⟩
      · skip
        refine ok.bd (v_Running_pop hI) ?_
        rintro y6 Z14 ⟨hFZ14, hIZ14⟩
        refine ok.ck ((hFZ14.2.2 70 0 (show (14000 : Nat) ∉ [14015] from by decide)).trans hr70_0) ?_
        refine ok.ck (show 0 ≤ (X.1 22 (ix p1)).toInt ∧ (X.1 22 (ix p1)).toInt < ((3000 : Nat) : Int) from by omega) ?_
        refine ok.letE (v1 := (X.1 59 (ix (X.1 22 (ix p1))))) (hFZ14.1 59 (ix (X.1 22 (ix p1))) (show (11800 : Nat) ∉ [14015] from by decide)) ?_
        refine ok.ck ((hFZ14.2.2 70 0 (show (14000 : Nat) ∉ [14015] from by decide)).trans hr70_0) ?_
        refine ok.ck (show 0 ≤ (X.1 22 (ix p1)).toInt ∧ (X.1 22 (ix p1)).toInt < ((3000 : Nat) : Int) from by omega) ?_
        refine ok.letE (v1 := (X.1 60 (ix (X.1 22 (ix p1))))) (hFZ14.1 60 (ix (X.1 22 (ix p1))) (show (12000 : Nat) ∉ [14015] from by decide)) ?_
        refine ok.ck ((hFZ14.2.2 70 0 (show (14000 : Nat) ∉ [14015] from by decide)).trans hr70_0) ?_
        refine ok.ck (show 0 ≤ (X.1 22 (ix p1)).toInt ∧ (X.1 22 (ix p1)).toInt < ((3000 : Nat) : Int) from by omega) ?_
        refine ok.letE (v1 := (X.1 57 (ix (X.1 22 (ix p1))))) (hFZ14.1 57 (ix (X.1 22 (ix p1))) (show (11400 : Nat) ∉ [14015] from by decide)) ?_
        refine ok.ck ((hFZ14.2.2 70 0 (show (14000 : Nat) ∉ [14015] from by decide)).trans hr70_0) ?_
        refine ok.ck (show 0 ≤ (X.1 22 (ix p1)).toInt ∧ (X.1 22 (ix p1)).toInt < ((3000 : Nat) : Int) from by omega) ?_
        refine ok.letE (v1 := (X.1 58 (ix (X.1 22 (ix p1))))) (hFZ14.1 58 (ix (X.1 22 (ix p1))) (show (11600 : Nat) ∉ [14015] from by decide)) ?_
        refine ok.ck ((hFZ14.2.2 70 0 (show (14000 : Nat) ∉ [14015] from by decide)).trans hr70_0) ?_
        refine ok.ck (show 0 ≤ (X.1 22 (ix p1)).toInt ∧ (X.1 22 (ix p1)).toInt < ((3000 : Nat) : Int) from by omega) ?_
        refine ok.letE (v1 := (X.1 56 (ix (X.1 22 (ix p1))))) (hFZ14.1 56 (ix (X.1 22 (ix p1))) (show (11200 : Nat) ∉ [14015] from by decide)) ?_
        refine ok.bd (v_Running_ask_N2 hIZ14 ((hFZ14.2.2 70 2 (show (14002 : Nat) ∉ [14015] from by decide)).trans hr70_2)) ?_
        rintro y13 Z16 ⟨hFZ16, hIZ16⟩
        refine ok.bd (v_Running_push hIZ16) ?_
        rintro r_17 Z19 ⟨hFZ19, hIZ19⟩
        exact ok.ret ⟨(((Fr.rf.tr hFZ14 (by decide)).tr hFZ16 sQv19_Qv24).tr hFZ19 (by decide)), hIZ19⟩
theorem n14000_Qv24 : (14000 : Nat) ∉ Qv24 := by decide
theorem n14002_Qv24 : (14002 : Nat) ∉ Qv24 := by decide
theorem sQv24_Qv11 : ∀ k ∈ Qv24, k ∈ Qv11 := by decide
theorem n14000_Qv12 : (14000 : Nat) ∉ Qv12 := by decide
theorem sQv12_Qv11 : ∀ k ∈ Qv12, k ∈ Qv11 := by decide
set_option maxHeartbeats 4000000 in
theorem v_Running_runAll_2_55 {p3 : Int32} {p4 : Int32} {X : St} (hI : INV X) (h0 : p3.toInt = 0 ∨ p3.toInt = 1) (hP : PGC 2 20 21 19 X) : ok (g_Running_runAll 2 55 p3 p4 X) (fun r Y => (Fr YC Qv11 X Y ∧ INV Y)) := by
  unfold g_Running_runAll
  refine ok.wR (L := [14002]) hI (show (14002 : Nat) ∈ [14002] from by decide) (fun Z1 hIZ1 hFZ1 heZ1 hRZ1 => ?_)
  refine ok.wR (L := [14000]) hIZ1 (show (14000 : Nat) ∈ [14000] from by decide) (fun Z2 hIZ2 hFZ2 heZ2 hRZ2 => ?_)
  refine ok.ck (show p3.toInt = 0 ∨ p3.toInt = 1 from by omega) ?_
  refine ok.wI (L := [14003]) hIZ2 (show True from trivial) (show (14003 : Nat) ∈ [14003] from by decide) (by decide) (fun Z3 hIZ3 hFZ3 hkZ3 hoZ3 => ?_)
  refine ok.wI (L := [14008]) hIZ3 (show True from trivial) (show (14008 : Nat) ∈ [14008] from by decide) (by decide) (fun Z4 hIZ4 hFZ4 hkZ4 hoZ4 => ?_)
  refine ok.bd (v_Heap_clear hIZ4) ?_
  rintro r_5 Z7 ⟨hFZ7, hIZ7⟩
  refine ok.bd (v_JArrays_fill_87 hIZ7) ?_
  rintro r_8 Z10 ⟨hFZ10, hIZ10⟩
  refine ok.wI (L := [14005]) hIZ10 (show True from trivial) (show (14005 : Nat) ∈ [14005] from by decide) (by decide) (fun Z11 hIZ11 hFZ11 hkZ11 hoZ11 => ?_)
  refine ok.wI (L := [14006]) hIZ11 (show True from trivial) (show (14006 : Nat) ∈ [14006] from by decide) (by decide) (fun Z12 hIZ12 hFZ12 hkZ12 hoZ12 => ?_)
  refine ok.wI (L := [14007]) hIZ12 (show True from trivial) (show (14007 : Nat) ∈ [14007] from by decide) (by decide) (fun Z13 hIZ13 hFZ13 hkZ13 hoZ13 => ?_)
  refine ok.wI (L := [14009]) hIZ13 (show True from trivial) (show (14009 : Nat) ∈ [14009] from by decide) (by decide) (fun Z14 hIZ14 hFZ14 hkZ14 hoZ14 => ?_)
  refine ok.wI (L := [14011]) hIZ14 (show 0 ≤ (0 : Int) ∧ (0 : Int) ≤ 100 from by omega) (show (14011 : Nat) ∈ [14011] from by decide) (by decide) (fun Z15 hIZ15 hFZ15 hkZ15 hoZ15 => ?_)
  refine ok.wI (L := [14015]) hIZ15 (show 0 ≤ (0 : Int) ∧ (0 : Int) ≤ 20002 from by omega) (show (14015 : Nat) ∈ [14015] from by decide) (by decide) (fun Z16 hIZ16 hFZ16 hkZ16 hoZ16 => ?_)
  refine ok.wI (L := [14018]) hIZ16 (show 0 ≤ (0 : Int) ∧ (0 : Int) ≤ 200 from by omega) (show (14018 : Nat) ∈ [14018] from by decide) (by decide) (fun Z17 hIZ17 hFZ17 hkZ17 hoZ17 => ?_)
  refine ok.wI (L := [14010]) hIZ17 (show True from trivial) (show (14010 : Nat) ∈ [14010] from by decide) (by decide) (fun Z18 hIZ18 hFZ18 hkZ18 hoZ18 => ?_)
  refine ok.wI (L := [14004]) hIZ18 (show True from trivial) (show (14004 : Nat) ∈ [14004] from by decide) (by decide) (fun Z19 hIZ19 hFZ19 hkZ19 hoZ19 => ?_)
  refine ok.ck (by rw [(((((((((((((((hFZ19.2.2 70 2 (show (14002 : Nat) ∉ [14004] from by decide)).trans (hFZ18.2.2 70 2 (show (14002 : Nat) ∉ [14010] from by decide))).trans (hFZ17.2.2 70 2 (show (14002 : Nat) ∉ [14018] from by decide))).trans (hFZ16.2.2 70 2 (show (14002 : Nat) ∉ [14015] from by decide))).trans (hFZ15.2.2 70 2 (show (14002 : Nat) ∉ [14011] from by decide))).trans (hFZ14.2.2 70 2 (show (14002 : Nat) ∉ [14009] from by decide))).trans (hFZ13.2.2 70 2 (show (14002 : Nat) ∉ [14007] from by decide))).trans (hFZ12.2.2 70 2 (show (14002 : Nat) ∉ [14006] from by decide))).trans (hFZ11.2.2 70 2 (show (14002 : Nat) ∉ [14005] from by decide))).trans (hFZ10.2.2 70 2 (show (14002 : Nat) ∉ [17400] from by decide))).trans (hFZ7.2.2 70 2 (show (14002 : Nat) ∉ [14200, 14201, 14202] from by decide))).trans (hFZ4.2.2 70 2 (show (14002 : Nat) ∉ [14008] from by decide))).trans (hFZ3.2.2 70 2 (show (14002 : Nat) ∉ [14003] from by decide))).trans (hFZ2.2.2 70 2 (show (14002 : Nat) ∉ [14000] from by decide))).trans hRZ1)]; decide) ?_
  refine ok.letE (v1 := 2) (by rw [(((((((((((((((hFZ19.2.2 70 2 (show (14002 : Nat) ∉ [14004] from by decide)).trans (hFZ18.2.2 70 2 (show (14002 : Nat) ∉ [14010] from by decide))).trans (hFZ17.2.2 70 2 (show (14002 : Nat) ∉ [14018] from by decide))).trans (hFZ16.2.2 70 2 (show (14002 : Nat) ∉ [14015] from by decide))).trans (hFZ15.2.2 70 2 (show (14002 : Nat) ∉ [14011] from by decide))).trans (hFZ14.2.2 70 2 (show (14002 : Nat) ∉ [14009] from by decide))).trans (hFZ13.2.2 70 2 (show (14002 : Nat) ∉ [14007] from by decide))).trans (hFZ12.2.2 70 2 (show (14002 : Nat) ∉ [14006] from by decide))).trans (hFZ11.2.2 70 2 (show (14002 : Nat) ∉ [14005] from by decide))).trans (hFZ10.2.2 70 2 (show (14002 : Nat) ∉ [17400] from by decide))).trans (hFZ7.2.2 70 2 (show (14002 : Nat) ∉ [14200, 14201, 14202] from by decide))).trans (hFZ4.2.2 70 2 (show (14002 : Nat) ∉ [14008] from by decide))).trans (hFZ3.2.2 70 2 (show (14002 : Nat) ∉ [14003] from by decide))).trans (hFZ2.2.2 70 2 (show (14002 : Nat) ∉ [14000] from by decide))).trans hRZ1)]) ?_
  refine ok.letE (v1 := (X.1 2 2)) (((((((((((((((hFZ19.1 2 2 (show (402 : Nat) ∉ [14004] from by decide)).trans (hFZ18.1 2 2 (show (402 : Nat) ∉ [14010] from by decide))).trans (hFZ17.1 2 2 (show (402 : Nat) ∉ [14018] from by decide))).trans (hFZ16.1 2 2 (show (402 : Nat) ∉ [14015] from by decide))).trans (hFZ15.1 2 2 (show (402 : Nat) ∉ [14011] from by decide))).trans (hFZ14.1 2 2 (show (402 : Nat) ∉ [14009] from by decide))).trans (hFZ13.1 2 2 (show (402 : Nat) ∉ [14007] from by decide))).trans (hFZ12.1 2 2 (show (402 : Nat) ∉ [14006] from by decide))).trans (hFZ11.1 2 2 (show (402 : Nat) ∉ [14005] from by decide))).trans (hFZ10.1 2 2 (show (402 : Nat) ∉ [17400] from by decide))).trans (hFZ7.1 2 2 (show (402 : Nat) ∉ [14200, 14201, 14202] from by decide))).trans (hFZ4.1 2 2 (show (402 : Nat) ∉ [14008] from by decide))).trans (hFZ3.1 2 2 (show (402 : Nat) ∉ [14003] from by decide))).trans (congrFun (congrFun heZ2 2) 2)).trans (congrFun (congrFun heZ1 2) 2)) ?_
  have g20 : -1 ≤ (X.1 2 2).toInt ∧ (X.1 2 2).toInt ≤ 39 := hI.1 2 2
  refine ok.bd (v_Heap_valueOf hIZ19) ?_
  rintro y18 _ rfl
  refine ok.bd (v_Running_push hIZ19) ?_
  rintro r_22 Z24 ⟨hFZ24, hIZ24⟩
  refine ok.ck (by rw [((((((((((((((((hFZ24.2.2 70 2 (show (14002 : Nat) ∉ [14015, 16800] from by decide)).trans (hFZ19.2.2 70 2 (show (14002 : Nat) ∉ [14004] from by decide))).trans (hFZ18.2.2 70 2 (show (14002 : Nat) ∉ [14010] from by decide))).trans (hFZ17.2.2 70 2 (show (14002 : Nat) ∉ [14018] from by decide))).trans (hFZ16.2.2 70 2 (show (14002 : Nat) ∉ [14015] from by decide))).trans (hFZ15.2.2 70 2 (show (14002 : Nat) ∉ [14011] from by decide))).trans (hFZ14.2.2 70 2 (show (14002 : Nat) ∉ [14009] from by decide))).trans (hFZ13.2.2 70 2 (show (14002 : Nat) ∉ [14007] from by decide))).trans (hFZ12.2.2 70 2 (show (14002 : Nat) ∉ [14006] from by decide))).trans (hFZ11.2.2 70 2 (show (14002 : Nat) ∉ [14005] from by decide))).trans (hFZ10.2.2 70 2 (show (14002 : Nat) ∉ [17400] from by decide))).trans (hFZ7.2.2 70 2 (show (14002 : Nat) ∉ [14200, 14201, 14202] from by decide))).trans (hFZ4.2.2 70 2 (show (14002 : Nat) ∉ [14008] from by decide))).trans (hFZ3.2.2 70 2 (show (14002 : Nat) ∉ [14003] from by decide))).trans (hFZ2.2.2 70 2 (show (14002 : Nat) ∉ [14000] from by decide))).trans hRZ1)]; decide) ?_
  refine ok.letE (v1 := 2) (by rw [((((((((((((((((hFZ24.2.2 70 2 (show (14002 : Nat) ∉ [14015, 16800] from by decide)).trans (hFZ19.2.2 70 2 (show (14002 : Nat) ∉ [14004] from by decide))).trans (hFZ18.2.2 70 2 (show (14002 : Nat) ∉ [14010] from by decide))).trans (hFZ17.2.2 70 2 (show (14002 : Nat) ∉ [14018] from by decide))).trans (hFZ16.2.2 70 2 (show (14002 : Nat) ∉ [14015] from by decide))).trans (hFZ15.2.2 70 2 (show (14002 : Nat) ∉ [14011] from by decide))).trans (hFZ14.2.2 70 2 (show (14002 : Nat) ∉ [14009] from by decide))).trans (hFZ13.2.2 70 2 (show (14002 : Nat) ∉ [14007] from by decide))).trans (hFZ12.2.2 70 2 (show (14002 : Nat) ∉ [14006] from by decide))).trans (hFZ11.2.2 70 2 (show (14002 : Nat) ∉ [14005] from by decide))).trans (hFZ10.2.2 70 2 (show (14002 : Nat) ∉ [17400] from by decide))).trans (hFZ7.2.2 70 2 (show (14002 : Nat) ∉ [14200, 14201, 14202] from by decide))).trans (hFZ4.2.2 70 2 (show (14002 : Nat) ∉ [14008] from by decide))).trans (hFZ3.2.2 70 2 (show (14002 : Nat) ∉ [14003] from by decide))).trans (hFZ2.2.2 70 2 (show (14002 : Nat) ∉ [14000] from by decide))).trans hRZ1)]) ?_
  refine ok.letE (v1 := (X.1 2 2)) ((((((((((((((((hFZ24.1 2 2 (show (402 : Nat) ∉ [14015, 16800] from by decide)).trans (hFZ19.1 2 2 (show (402 : Nat) ∉ [14004] from by decide))).trans (hFZ18.1 2 2 (show (402 : Nat) ∉ [14010] from by decide))).trans (hFZ17.1 2 2 (show (402 : Nat) ∉ [14018] from by decide))).trans (hFZ16.1 2 2 (show (402 : Nat) ∉ [14015] from by decide))).trans (hFZ15.1 2 2 (show (402 : Nat) ∉ [14011] from by decide))).trans (hFZ14.1 2 2 (show (402 : Nat) ∉ [14009] from by decide))).trans (hFZ13.1 2 2 (show (402 : Nat) ∉ [14007] from by decide))).trans (hFZ12.1 2 2 (show (402 : Nat) ∉ [14006] from by decide))).trans (hFZ11.1 2 2 (show (402 : Nat) ∉ [14005] from by decide))).trans (hFZ10.1 2 2 (show (402 : Nat) ∉ [17400] from by decide))).trans (hFZ7.1 2 2 (show (402 : Nat) ∉ [14200, 14201, 14202] from by decide))).trans (hFZ4.1 2 2 (show (402 : Nat) ∉ [14008] from by decide))).trans (hFZ3.1 2 2 (show (402 : Nat) ∉ [14003] from by decide))).trans (congrFun (congrFun heZ2 2) 2)).trans (congrFun (congrFun heZ1 2) 2)) ?_
  refine ok.bd (v_Running_enterPart_N2 hIZ24 ((((((((((((((((hFZ24.2.2 70 2 (show (14002 : Nat) ∉ [14015, 16800] from by decide)).trans (hFZ19.2.2 70 2 (show (14002 : Nat) ∉ [14004] from by decide))).trans (hFZ18.2.2 70 2 (show (14002 : Nat) ∉ [14010] from by decide))).trans (hFZ17.2.2 70 2 (show (14002 : Nat) ∉ [14018] from by decide))).trans (hFZ16.2.2 70 2 (show (14002 : Nat) ∉ [14015] from by decide))).trans (hFZ15.2.2 70 2 (show (14002 : Nat) ∉ [14011] from by decide))).trans (hFZ14.2.2 70 2 (show (14002 : Nat) ∉ [14009] from by decide))).trans (hFZ13.2.2 70 2 (show (14002 : Nat) ∉ [14007] from by decide))).trans (hFZ12.2.2 70 2 (show (14002 : Nat) ∉ [14006] from by decide))).trans (hFZ11.2.2 70 2 (show (14002 : Nat) ∉ [14005] from by decide))).trans (hFZ10.2.2 70 2 (show (14002 : Nat) ∉ [17400] from by decide))).trans (hFZ7.2.2 70 2 (show (14002 : Nat) ∉ [14200, 14201, 14202] from by decide))).trans (hFZ4.2.2 70 2 (show (14002 : Nat) ∉ [14008] from by decide))).trans (hFZ3.2.2 70 2 (show (14002 : Nat) ∉ [14003] from by decide))).trans (hFZ2.2.2 70 2 (show (14002 : Nat) ∉ [14000] from by decide))).trans hRZ1) (show 0 ≤ (0 : Int) ∧ (0 : Int) ≤ 20002 from by omega)) ?_
  rintro r_25 Z27 ⟨hFZ27, hIZ27⟩
  have lpu28 : ∀ (n : Nat), ∀ (a_5u28 : Int32) (Zu28 : St), INV Zu28 → Fr YC Qv11 X Zu28 → (0 ≤ a_5u28.toInt ∧ a_5u28.toInt ≤ 1000000) → Zu28.2.2 70 0 = 56 → Zu28.2.2 70 2 = 3 → (1000001 - a_5u28.toInt).toNat < n → ok (g_Running_runAll_122 n a_5u28 Zu28) (fun r Y => (Fr YC Qv11 X Y ∧ INV Y)) := by
    intro n
    unfold g_Running_runAll_122
    refine lp_indN (P := fun (n : Nat) (r_u28 : Int32 → St → Option (Int32 × St)) => ∀ (a_5u28 : Int32) (Zu28 : St), INV Zu28 → Fr YC Qv11 X Zu28 → (0 ≤ a_5u28.toInt ∧ a_5u28.toInt ≤ 1000000) → Zu28.2.2 70 0 = 56 → Zu28.2.2 70 2 = 3 → (1000001 - a_5u28.toInt).toNat < n → ok (r_u28 a_5u28 Zu28) (fun r Y => (Fr YC Qv11 X Y ∧ INV Y))) ?_ ?_ n
    · intro a_5u28 Zu28 hIu28 hFu28 u28_0 u28x0 u28x1 hm; exact absurd hm (Nat.not_lt_zero _)
    · intro n r_u28 ih_u28 a_5u28 Zu28 hIu28 hFu28 u28_0 u28x0 u28x1 hmu28
      unfold g_Running_runAll_122_s
      refine ok.ite (fun c29 => ?_) (fun c29 => ?_)
      · skip
        refine ok.letE (v1 := (Zu28.1 70 5)) rfl ?_
        exact ok.ret ⟨(Fr.rf.tr hFu28 (fun _ q => q)), hIu28⟩
      · skip
        refine ok.letE (v1 := (Zu28.1 70 4)) rfl ?_
        refine ok.ite (fun c30 => ?_) (fun c30 => ?_)
        · skip
          have g31 := i32_le (Zu28.1 70 4)
          refine ok.letE (v1 := (Zu28.1 70 5)) rfl ?_
          exact ok.ret ⟨(Fr.rf.tr hFu28 (fun _ q => q)), hIu28⟩
        · skip
          refine ok.letE (v1 := (Zu28.1 70 10)) rfl ?_
          refine ok.ite (fun c32 => ?_) (fun c32 => ?_)
          · skip
            have g33 := i32_le (Zu28.1 70 10)
            refine ok.letE (v1 := (Zu28.1 70 5)) rfl ?_
            exact ok.ret ⟨(Fr.rf.tr hFu28 (fun _ q => q)), hIu28⟩
          · skip
            have g34 := i32_le (Zu28.1 70 10)
            refine ok.letE (v1 := (Zu28.1 70 10)) rfl ?_
            refine ok.ck (by rw [u28x1]; decide) ?_
            refine ok.letE (v1 := 2) (by rw [u28x1]) ?_
            refine ok.letE (v1 := (X.1 2 6)) (hFu28.1 2 6 n406_Qv11) ?_
            have g35 : 0 ≤ (X.1 2 6).toInt ∧ (X.1 2 6).toInt ≤ 9080 := hI.1 2 6
            refine ok.ite (fun c36 => ?_) (fun c36 => ?_)
            · skip
              refine ok.letE (v1 := (Zu28.1 70 5)) rfl ?_
              exact ok.ret ⟨(Fr.rf.tr hFu28 (fun _ q => q)), hIu28⟩
            · skip
              refine ok.letE (v1 := (Zu28.1 70 10)) rfl ?_
              refine ok.letE (v1 := (Zu28.1 70 10)) rfl ?_
              refine ok.add (show _ ≤ (Zu28.1 70 10).toInt + (1 : Int) ∧ (Zu28.1 70 10).toInt + (1 : Int) ≤ _ from by omega) (fun x35 hx35 => ?_)
              have hx35 : x35.toInt = (Zu28.1 70 10).toInt + (1 : Int) := hx35
              refine ok.wI (L := [14010]) hIu28 (show True from trivial) (show (14010 : Nat) ∈ [14010] from by decide) (by decide) (fun Z37 hIZ37 hFZ37 hkZ37 hoZ37 => ?_)
              refine ok.ck (by rw [((hFZ37.2.2 70 2 (show (14002 : Nat) ∉ [14010] from by decide)).trans u28x1)]; decide) ?_
              refine ok.letE (v1 := 2) (by rw [((hFZ37.2.2 70 2 (show (14002 : Nat) ∉ [14010] from by decide)).trans u28x1)]) ?_
              refine ok.letE (v1 := 20) (by decide) ?_
              refine ok.ck (show 0 ≤ (Zu28.1 70 10).toInt ∧ (Zu28.1 70 10).toInt < ((9080 : Nat) : Int) from by omega) ?_
              refine ok.letE (v1 := (X.1 20 (ix (Zu28.1 70 10)))) ((hFZ37.1 20 (ix (Zu28.1 70 10)) (show (4000 : Nat) ∉ [14010] from by decide)).trans (hFu28.1 20 (ix (Zu28.1 70 10)) n4000_Qv11)) ?_
              have g38 : 0 ≤ (X.1 20 (ix (Zu28.1 70 10))).toInt ∧ (X.1 20 (ix (Zu28.1 70 10))).toInt ≤ 36 := hI.1 20 (ix (Zu28.1 70 10))
              have ehq39 := ixc (z := (Zu28.1 70 10)) (by omega)
              have := (show 0 ≤ (X.1 2 6).toInt ∧ (X.1 2 6).toInt ≤ 9080 from hI.1 2 6)
              have := (show 0 ≤ (X.1 2 1).toInt ∧ (X.1 2 1).toInt ≤ 40 from hI.1 2 1)
              have hq39 := hP.1 (ix (Zu28.1 70 10)) (by omega)
              refine ok.ite (fun c40 => ?_) (fun c40 => ?_)
              · skip
                refine ok.ite (fun c41 => ?_) (fun c41 => ?_)
                · skip
                  refine ok.ite (fun c42 => ?_) (fun c42 => ?_)
                  · skip
                    refine ok.ck (by rw [((hFZ37.2.2 70 2 (show (14002 : Nat) ∉ [14010] from by decide)).trans u28x1)]; decide) ?_
                    refine ok.letE (v1 := 2) (by rw [((hFZ37.2.2 70 2 (show (14002 : Nat) ∉ [14010] from by decide)).trans u28x1)]) ?_
                    refine ok.letE (v1 := 21) (by decide) ?_
                    refine ok.ck (show 0 ≤ (Zu28.1 70 10).toInt ∧ (Zu28.1 70 10).toInt < ((9080 : Nat) : Int) from by omega) ?_
                    refine ok.letE (v1 := (X.1 21 (ix (Zu28.1 70 10)))) ((hFZ37.1 21 (ix (Zu28.1 70 10)) (show (4200 : Nat) ∉ [14010] from by decide)).trans (hFu28.1 21 (ix (Zu28.1 70 10)) n4200_Qv11)) ?_
                    refine ok.ck (by rw [((hFZ37.2.2 70 2 (show (14002 : Nat) ∉ [14010] from by decide)).trans u28x1)]; decide) ?_
                    refine ok.letE (v1 := 2) (by rw [((hFZ37.2.2 70 2 (show (14002 : Nat) ∉ [14010] from by decide)).trans u28x1)]) ?_
                    refine ok.letE (v1 := 23) (by decide) ?_
                    refine ok.ck (show 0 ≤ (Zu28.1 70 10).toInt ∧ (Zu28.1 70 10).toInt < ((9080 : Nat) : Int) from by omega) ?_
                    refine ok.letE (v1 := (X.1 23 (ix (Zu28.1 70 10)))) ((hFZ37.1 23 (ix (Zu28.1 70 10)) (show (4600 : Nat) ∉ [14010] from by decide)).trans (hFu28.1 23 (ix (Zu28.1 70 10)) n4600_Qv11)) ?_
                    have g43 : 0 ≤ (X.1 23 (ix (Zu28.1 70 10))).toInt ∧ (X.1 23 (ix (Zu28.1 70 10))).toInt ≤ 3000 := hI.1 23 (ix (Zu28.1 70 10))
                    refine ok.bd (v_Running_workPlain hIZ37) ?_
                    rintro r_44 Z46 ⟨hFZ46, hIZ46⟩
                    unfold g_Running_runAll_289
                    refine ok.inc (by decide) (show _ ≤ a_5u28.toInt + (1) ∧ a_5u28.toInt + (1) ≤ _ from by omega) (fun x47 hx47 => ?_)
                    have hx47 : x47.toInt = a_5u28.toInt + (1) := hx47
                    exact ih_u28 x47 Z46 hIZ46 (((Fr.rf.tr hFu28 (fun _ q => q)).tr hFZ37 (by decide)).tr hFZ46 sQv13_Qv11) (show 0 ≤ x47.toInt ∧ x47.toInt ≤ 1000000 from by omega) (show Z46.2.2 70 0 = 56 from (((hFZ46.2.2 70 0 n14000_Qv13).trans (hFZ37.2.2 70 0 (show (14000 : Nat) ∉ [14010] from by decide))).trans u28x0)) (show Z46.2.2 70 2 = 3 from (((hFZ46.2.2 70 2 n14002_Qv13).trans (hFZ37.2.2 70 2 (show (14002 : Nat) ∉ [14010] from by decide))).trans u28x1)) (show (1000001 - x47.toInt).toNat < _ from by omega)
                  · skip
                    refine ok.ck (by rw [((hFZ37.2.2 70 2 (show (14002 : Nat) ∉ [14010] from by decide)).trans u28x1)]; decide) ?_
                    refine ok.letE (v1 := 2) (by rw [((hFZ37.2.2 70 2 (show (14002 : Nat) ∉ [14010] from by decide)).trans u28x1)]) ?_
                    refine ok.letE (v1 := 21) (by decide) ?_
                    refine ok.ck (show 0 ≤ (Zu28.1 70 10).toInt ∧ (Zu28.1 70 10).toInt < ((9080 : Nat) : Int) from by omega) ?_
                    refine ok.letE (v1 := (X.1 21 (ix (Zu28.1 70 10)))) ((hFZ37.1 21 (ix (Zu28.1 70 10)) (show (4200 : Nat) ∉ [14010] from by decide)).trans (hFu28.1 21 (ix (Zu28.1 70 10)) n4200_Qv11)) ?_
                    refine ok.ck (by rw [((hFZ37.2.2 70 2 (show (14002 : Nat) ∉ [14010] from by decide)).trans u28x1)]; decide) ?_
                    refine ok.letE (v1 := 2) (by rw [((hFZ37.2.2 70 2 (show (14002 : Nat) ∉ [14010] from by decide)).trans u28x1)]) ?_
                    refine ok.letE (v1 := 23) (by decide) ?_
                    refine ok.ck (show 0 ≤ (Zu28.1 70 10).toInt ∧ (Zu28.1 70 10).toInt < ((9080 : Nat) : Int) from by omega) ?_
                    refine ok.letE (v1 := (X.1 23 (ix (Zu28.1 70 10)))) ((hFZ37.1 23 (ix (Zu28.1 70 10)) (show (4600 : Nat) ∉ [14010] from by decide)).trans (hFu28.1 23 (ix (Zu28.1 70 10)) n4600_Qv11)) ?_
                    have g47 : 0 ≤ (X.1 23 (ix (Zu28.1 70 10))).toInt ∧ (X.1 23 (ix (Zu28.1 70 10))).toInt ≤ 3000 := hI.1 23 (ix (Zu28.1 70 10))
                    refine ok.bd (v_Running_workRowOrCall_N2 hIZ37 ((hFZ37.2.2 70 2 (show (14002 : Nat) ∉ [14010] from by decide)).trans u28x1) (show 10 ≤ (X.1 20 (ix (Zu28.1 70 10))).toInt ∧ (X.1 20 (ix (Zu28.1 70 10))).toInt ≤ 17 from by omega) (show ((X.1 20 (ix (Zu28.1 70 10))).toInt = 10 ∨ (X.1 20 (ix (Zu28.1 70 10))).toInt = 16) → 0 ≤ (X.1 21 (ix (Zu28.1 70 10))).toInt ∧ (X.1 21 (ix (Zu28.1 70 10))).toInt ≤ 20000 from by omega)) ?_
                    rintro r_48 Z50 ⟨hFZ50, hIZ50⟩
                    unfold g_Running_runAll_289
                    refine ok.inc (by decide) (show _ ≤ a_5u28.toInt + (1) ∧ a_5u28.toInt + (1) ≤ _ from by omega) (fun x47 hx47 => ?_)
                    have hx47 : x47.toInt = a_5u28.toInt + (1) := hx47
                    exact ih_u28 x47 Z50 hIZ50 (((Fr.rf.tr hFu28 (fun _ q => q)).tr hFZ37 (by decide)).tr hFZ50 sQv14_Qv11) (show 0 ≤ x47.toInt ∧ x47.toInt ≤ 1000000 from by omega) (show Z50.2.2 70 0 = 56 from (((hFZ50.2.2 70 0 n14000_Qv14).trans (hFZ37.2.2 70 0 (show (14000 : Nat) ∉ [14010] from by decide))).trans u28x0)) (show Z50.2.2 70 2 = 3 from (((hFZ50.2.2 70 2 n14002_Qv14).trans (hFZ37.2.2 70 2 (show (14002 : Nat) ∉ [14010] from by decide))).trans u28x1)) (show (1000001 - x47.toInt).toNat < _ from by omega)
                · skip
                  refine ok.ck (by rw [((hFZ37.2.2 70 2 (show (14002 : Nat) ∉ [14010] from by decide)).trans u28x1)]; decide) ?_
                  refine ok.letE (v1 := 2) (by rw [((hFZ37.2.2 70 2 (show (14002 : Nat) ∉ [14010] from by decide)).trans u28x1)]) ?_
                  refine ok.letE (v1 := 23) (by decide) ?_
                  refine ok.ck (show 0 ≤ (Zu28.1 70 10).toInt ∧ (Zu28.1 70 10).toInt < ((9080 : Nat) : Int) from by omega) ?_
                  refine ok.letE (v1 := (X.1 23 (ix (Zu28.1 70 10)))) ((hFZ37.1 23 (ix (Zu28.1 70 10)) (show (4600 : Nat) ∉ [14010] from by decide)).trans (hFu28.1 23 (ix (Zu28.1 70 10)) n4600_Qv11)) ?_
                  have g51 : 0 ≤ (X.1 23 (ix (Zu28.1 70 10))).toInt ∧ (X.1 23 (ix (Zu28.1 70 10))).toInt ≤ 3000 := hI.1 23 (ix (Zu28.1 70 10))
                  refine ok.bd (v_Running_workNumbers hIZ37) ?_
                  rintro r_52 Z54 ⟨hFZ54, hIZ54⟩
                  unfold g_Running_runAll_289
                  refine ok.inc (by decide) (show _ ≤ a_5u28.toInt + (1) ∧ a_5u28.toInt + (1) ≤ _ from by omega) (fun x47 hx47 => ?_)
                  have hx47 : x47.toInt = a_5u28.toInt + (1) := hx47
                  exact ih_u28 x47 Z54 hIZ54 (((Fr.rf.tr hFu28 (fun _ q => q)).tr hFZ37 (by decide)).tr hFZ54 s14004x14005x14006x14015x16800_Qv11) (show 0 ≤ x47.toInt ∧ x47.toInt ≤ 1000000 from by omega) (show Z54.2.2 70 0 = 56 from (((hFZ54.2.2 70 0 (show (14000 : Nat) ∉ [14004, 14005, 14006, 14015, 16800] from by decide)).trans (hFZ37.2.2 70 0 (show (14000 : Nat) ∉ [14010] from by decide))).trans u28x0)) (show Z54.2.2 70 2 = 3 from (((hFZ54.2.2 70 2 (show (14002 : Nat) ∉ [14004, 14005, 14006, 14015, 16800] from by decide)).trans (hFZ37.2.2 70 2 (show (14002 : Nat) ∉ [14010] from by decide))).trans u28x1)) (show (1000001 - x47.toInt).toNat < _ from by omega)
              · skip
                refine ok.bd (v_Running_workAsking_N2 hIZ37 ((hFZ37.2.2 70 0 (show (14000 : Nat) ∉ [14010] from by decide)).trans u28x0) ((hFZ37.2.2 70 2 (show (14002 : Nat) ∉ [14010] from by decide)).trans u28x1) (show 0 ≤ (Zu28.1 70 10).toInt ∧ (Zu28.1 70 10).toInt ≤ 9079 from by omega)) ?_
                rintro r_55 Z57 ⟨hFZ57, hIZ57⟩
                unfold g_Running_runAll_289
                refine ok.inc (by decide) (show _ ≤ a_5u28.toInt + (1) ∧ a_5u28.toInt + (1) ≤ _ from by omega) (fun x47 hx47 => ?_)
                have hx47 : x47.toInt = a_5u28.toInt + (1) := hx47
                exact ih_u28 x47 Z57 hIZ57 (((Fr.rf.tr hFu28 (fun _ q => q)).tr hFZ37 (by decide)).tr hFZ57 sQv24_Qv11) (show 0 ≤ x47.toInt ∧ x47.toInt ≤ 1000000 from by omega) (show Z57.2.2 70 0 = 56 from (((hFZ57.2.2 70 0 n14000_Qv24).trans (hFZ37.2.2 70 0 (show (14000 : Nat) ∉ [14010] from by decide))).trans u28x0)) (show Z57.2.2 70 2 = 3 from (((hFZ57.2.2 70 2 n14002_Qv24).trans (hFZ37.2.2 70 2 (show (14002 : Nat) ∉ [14010] from by decide))).trans u28x1)) (show (1000001 - x47.toInt).toNat < _ from by omega)
  exact lpu28 BIG (0 : Int32) Z27 hIZ27 (((((((((((((((((Fr.rf.tr hFZ1 (by decide)).tr hFZ2 (by decide)).tr hFZ3 (by decide)).tr hFZ4 (by decide)).tr hFZ7 (by decide)).tr hFZ10 (by decide)).tr hFZ11 (by decide)).tr hFZ12 (by decide)).tr hFZ13 (by decide)).tr hFZ14 (by decide)).tr hFZ15 (by decide)).tr hFZ16 (by decide)).tr hFZ17 (by decide)).tr hFZ18 (by decide)).tr hFZ19 (by decide)).tr hFZ24 (by decide)).tr hFZ27 sQv12_Qv11) (show 0 ≤ (0 : Int) ∧ (0 : Int) ≤ 1000000 from by omega) (show Z27.2.2 70 0 = 56 from ((((((((((((((((hFZ27.2.2 70 0 n14000_Qv12).trans (hFZ24.2.2 70 0 (show (14000 : Nat) ∉ [14015, 16800] from by decide))).trans (hFZ19.2.2 70 0 (show (14000 : Nat) ∉ [14004] from by decide))).trans (hFZ18.2.2 70 0 (show (14000 : Nat) ∉ [14010] from by decide))).trans (hFZ17.2.2 70 0 (show (14000 : Nat) ∉ [14018] from by decide))).trans (hFZ16.2.2 70 0 (show (14000 : Nat) ∉ [14015] from by decide))).trans (hFZ15.2.2 70 0 (show (14000 : Nat) ∉ [14011] from by decide))).trans (hFZ14.2.2 70 0 (show (14000 : Nat) ∉ [14009] from by decide))).trans (hFZ13.2.2 70 0 (show (14000 : Nat) ∉ [14007] from by decide))).trans (hFZ12.2.2 70 0 (show (14000 : Nat) ∉ [14006] from by decide))).trans (hFZ11.2.2 70 0 (show (14000 : Nat) ∉ [14005] from by decide))).trans (hFZ10.2.2 70 0 (show (14000 : Nat) ∉ [17400] from by decide))).trans (hFZ7.2.2 70 0 (show (14000 : Nat) ∉ [14200, 14201, 14202] from by decide))).trans (hFZ4.2.2 70 0 (show (14000 : Nat) ∉ [14008] from by decide))).trans (hFZ3.2.2 70 0 (show (14000 : Nat) ∉ [14003] from by decide))).trans hRZ2)) (show Z27.2.2 70 2 = 3 from (((((((((((((((((hFZ27.2.2 70 2 n14002_Qv12).trans (hFZ24.2.2 70 2 (show (14002 : Nat) ∉ [14015, 16800] from by decide))).trans (hFZ19.2.2 70 2 (show (14002 : Nat) ∉ [14004] from by decide))).trans (hFZ18.2.2 70 2 (show (14002 : Nat) ∉ [14010] from by decide))).trans (hFZ17.2.2 70 2 (show (14002 : Nat) ∉ [14018] from by decide))).trans (hFZ16.2.2 70 2 (show (14002 : Nat) ∉ [14015] from by decide))).trans (hFZ15.2.2 70 2 (show (14002 : Nat) ∉ [14011] from by decide))).trans (hFZ14.2.2 70 2 (show (14002 : Nat) ∉ [14009] from by decide))).trans (hFZ13.2.2 70 2 (show (14002 : Nat) ∉ [14007] from by decide))).trans (hFZ12.2.2 70 2 (show (14002 : Nat) ∉ [14006] from by decide))).trans (hFZ11.2.2 70 2 (show (14002 : Nat) ∉ [14005] from by decide))).trans (hFZ10.2.2 70 2 (show (14002 : Nat) ∉ [17400] from by decide))).trans (hFZ7.2.2 70 2 (show (14002 : Nat) ∉ [14200, 14201, 14202] from by decide))).trans (hFZ4.2.2 70 2 (show (14002 : Nat) ∉ [14008] from by decide))).trans (hFZ3.2.2 70 2 (show (14002 : Nat) ∉ [14003] from by decide))).trans (hFZ2.2.2 70 2 (show (14002 : Nat) ∉ [14000] from by decide))).trans hRZ1)) (Nat.lt_of_le_of_lt (show (1000001 - (0 : Int)).toNat ≤ 1000001 from by omega) (by decide))
set_option maxHeartbeats 4000000 in
theorem v_Running_contentTold {q1 : Int64} {X : St} (hI : INV X) : ok (g_Running_contentTold q1 X) (fun r Y => (X = Y)) := by
  unfold g_Running_contentTold
  refine ok.bd (v_Heap_sortOf hI) ?_
  rintro x1 _ rfl
  refine ok.ite (fun c2 => ?_) (fun c2 => ?_)
  · skip
    have g3 := i32_le x1
    refine ok.bd (v_Heap_lengthOf hI) ?_
    rintro x5 _ rfl
    exact ok.ret rfl
  · skip
    refine ok.bd (v_Heap_contentOf hI) ?_
    rintro x3 _ rfl
    exact ok.ret rfl
set_option maxHeartbeats 4000000 in
theorem v_Running_tellOf {p1 : Int32} {X : St} (hI : INV X) : ok (g_Running_tellOf p1 X) (fun r Y => (X = Y)) := by
  unfold g_Running_tellOf
  refine ok.letE (v1 := (X.1 70 15)) rfl ?_
  have g1 : 0 ≤ (X.1 70 15).toInt ∧ (X.1 70 15).toInt ≤ 20002 := hI.1 70 15
  refine ok.ite (fun c2 => ?_) (fun c2 => ?_)
  · skip
    unfold g_Running_tellOf_22
    refine ok.ite (fun c3 => ?_) (fun c3 => ?_)
    · skip
      have g4 := i32_le p1
      refine ok.letE (v1 := (X.1 70 5)) rfl ?_
      exact ok.ret rfl
    · skip
      refine ok.ite (fun c5 => ?_) (fun c5 => ?_)
      · skip
        have g6 := i32_le p1
        refine ok.letE (v1 := (X.1 70 6)) rfl ?_
        exact ok.ret rfl
      · skip
        refine ok.ite (fun c7 => ?_) (fun c7 => ?_)
        · skip
          have g8 := i32_le p1
          refine ok.letE (v1 := (X.1 70 7)) rfl ?_
          exact ok.ret rfl
        · skip
          refine ok.ite (fun c9 => ?_) (fun c9 => ?_)
          · skip
            have g10 := i32_le p1
            refine ok.letE (v1 := (X.1 70 9)) rfl ?_
            exact ok.ret rfl
          · skip
            refine ok.ite (fun c11 => ?_) (fun c11 => ?_)
            · skip
              have g12 := i32_le p1
              refine ok.letE (v1 := (X.1 70 5)) rfl ?_
              refine ok.ite (fun c13 => ?_) (fun c13 => ?_)
              · skip
                have g14 := i32_le (X.1 70 5)
                refine ok.bd (v_Heap_core hI) ?_
                rintro y12 _ rfl
                refine ok.bd (v_Heap_sortOf hI) ?_
                rintro x14 _ rfl
                exact ok.ret rfl
              · skip
                exact ok.ret rfl
            · skip
              refine ok.ite (fun c17 => ?_) (fun c17 => ?_)
              · skip
                have g18 := i32_le p1
                refine ok.letE (v1 := (X.1 70 5)) rfl ?_
                refine ok.ite (fun c19 => ?_) (fun c19 => ?_)
                · skip
                  have g20 := i32_le (X.1 70 5)
                  refine ok.bd (v_Heap_core hI) ?_
                  rintro y18 _ rfl
                  refine ok.bd (v_Running_contentTold hI) ?_
                  rintro x20 _ rfl
                  exact ok.ret rfl
                · skip
                  exact ok.ret rfl
              · skip
                refine ok.ite (fun c23 => ?_) (fun c23 => ?_)
                · skip
                  have g24 := i32_le p1
                  refine ok.letE (v1 := (X.1 70 5)) rfl ?_
                  refine ok.ite (fun c25 => ?_) (fun c25 => ?_)
                  · skip
                    have g26 := i32_le (X.1 70 5)
                    refine ok.bd (v_Heap_wrappingsAround hI) ?_
                    rintro x24 _ rfl
                    exact ok.ret rfl
                  · skip
                    exact ok.ret rfl
                · skip
                  refine ok.ite (fun c28 => ?_) (fun c28 => ?_)
                  · skip
                    have g29 := i32_le p1
                    refine ok.letE (v1 := (X.1 70 18)) rfl ?_
                    have g30 : 0 ≤ (X.1 70 18).toInt ∧ (X.1 70 18).toInt ≤ 200 := hI.1 70 18
                    exact ok.ret rfl
                  · skip
                    refine ok.ite (fun c31 => ?_) (fun c31 => ?_)
                    · skip
                      have g32 := i32_le p1
                      refine ok.letE (v1 := (X.1 71 2)) rfl ?_
                      have g33 : 0 ≤ (X.1 71 2).toInt ∧ (X.1 71 2).toInt ≤ 1000 := hI.1 71 2
                      exact ok.ret rfl
                    · skip
                      refine ok.ite (fun c34 => ?_) (fun c34 => ?_)
                      · skip
                        have g35 := i32_le p1
                        refine ok.letE (v1 := (X.1 71 0)) rfl ?_
                        have g36 : 0 ≤ (X.1 71 0).toInt ∧ (X.1 71 0).toInt ≤ 1000 := hI.1 71 0
                        exact ok.ret rfl
                      · skip
                        exact ok.ret rfl
  · skip
    refine ok.letE (v1 := (X.1 70 15)) rfl ?_
    refine ok.sub (show _ ≤ (X.1 70 15).toInt - (1 : Int) ∧ (X.1 70 15).toInt - (1 : Int) ≤ _ from by omega) (fun x33 hx33 => ?_)
    have hx33 : x33.toInt = (X.1 70 15).toInt - (1 : Int) := hx33
    refine ok.ck (show 0 ≤ x33.toInt ∧ x33.toInt < ((20002 : Nat) : Int) from by omega) ?_
    refine ok.any (fun y34 => ?_)
    unfold g_Running_tellOf_22
    refine ok.ite (fun c37 => ?_) (fun c37 => ?_)
    · skip
      have g38 := i32_le p1
      refine ok.letE (v1 := (X.1 70 5)) rfl ?_
      exact ok.ret rfl
    · skip
      refine ok.ite (fun c39 => ?_) (fun c39 => ?_)
      · skip
        have g40 := i32_le p1
        refine ok.letE (v1 := (X.1 70 6)) rfl ?_
        exact ok.ret rfl
      · skip
        refine ok.ite (fun c41 => ?_) (fun c41 => ?_)
        · skip
          have g42 := i32_le p1
          refine ok.letE (v1 := (X.1 70 7)) rfl ?_
          exact ok.ret rfl
        · skip
          refine ok.ite (fun c43 => ?_) (fun c43 => ?_)
          · skip
            have g44 := i32_le p1
            refine ok.letE (v1 := (X.1 70 9)) rfl ?_
            exact ok.ret rfl
          · skip
            refine ok.ite (fun c45 => ?_) (fun c45 => ?_)
            · skip
              have g46 := i32_le p1
              refine ok.letE (v1 := (X.1 70 5)) rfl ?_
              refine ok.ite (fun c47 => ?_) (fun c47 => ?_)
              · skip
                have g48 := i32_le (X.1 70 5)
                refine ok.bd (v_Heap_core hI) ?_
                rintro y12 _ rfl
                refine ok.bd (v_Heap_sortOf hI) ?_
                rintro x14 _ rfl
                exact ok.ret rfl
              · skip
                exact ok.ret rfl
            · skip
              refine ok.ite (fun c51 => ?_) (fun c51 => ?_)
              · skip
                have g52 := i32_le p1
                refine ok.letE (v1 := (X.1 70 5)) rfl ?_
                refine ok.ite (fun c53 => ?_) (fun c53 => ?_)
                · skip
                  have g54 := i32_le (X.1 70 5)
                  refine ok.bd (v_Heap_core hI) ?_
                  rintro y18 _ rfl
                  refine ok.bd (v_Running_contentTold hI) ?_
                  rintro x20 _ rfl
                  exact ok.ret rfl
                · skip
                  exact ok.ret rfl
              · skip
                refine ok.ite (fun c57 => ?_) (fun c57 => ?_)
                · skip
                  have g58 := i32_le p1
                  refine ok.letE (v1 := (X.1 70 5)) rfl ?_
                  refine ok.ite (fun c59 => ?_) (fun c59 => ?_)
                  · skip
                    have g60 := i32_le (X.1 70 5)
                    refine ok.bd (v_Heap_wrappingsAround hI) ?_
                    rintro x24 _ rfl
                    exact ok.ret rfl
                  · skip
                    exact ok.ret rfl
                · skip
                  refine ok.ite (fun c62 => ?_) (fun c62 => ?_)
                  · skip
                    have g63 := i32_le p1
                    refine ok.letE (v1 := (X.1 70 18)) rfl ?_
                    have g64 : 0 ≤ (X.1 70 18).toInt ∧ (X.1 70 18).toInt ≤ 200 := hI.1 70 18
                    exact ok.ret rfl
                  · skip
                    refine ok.ite (fun c65 => ?_) (fun c65 => ?_)
                    · skip
                      have g66 := i32_le p1
                      refine ok.letE (v1 := (X.1 71 2)) rfl ?_
                      have g67 : 0 ≤ (X.1 71 2).toInt ∧ (X.1 71 2).toInt ≤ 1000 := hI.1 71 2
                      exact ok.ret rfl
                    · skip
                      refine ok.ite (fun c68 => ?_) (fun c68 => ?_)
                      · skip
                        have g69 := i32_le p1
                        refine ok.letE (v1 := (X.1 71 0)) rfl ?_
                        have g70 : 0 ≤ (X.1 71 0).toInt ∧ (X.1 71 0).toInt ≤ 1000 := hI.1 71 0
                        exact ok.ret rfl
                      · skip
                        exact ok.ret rfl
