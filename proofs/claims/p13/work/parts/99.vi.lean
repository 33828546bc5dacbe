/-! reading a text, the other program -/
set_option maxHeartbeats 4000000 in
theorem v_Kinds_forgetTexts_25 {X : St} (hI : INV X) : ok (g_Kinds_forgetTexts 25 X) (fun r Y => (Fr YC [5000, 6200] X Y ∧ INV Y)) := by
  unfold g_Kinds_forgetTexts
  refine ok.bd (v_Kinds_cutTo_25 hI) ?_
  rintro r_1 Z3 ⟨hFZ3, hIZ3⟩
  exact ok.ret ⟨(Fr.rf.tr hFZ3 (fun _ q => q)), hIZ3⟩
set_option maxHeartbeats 4000000 in
theorem clear0_R24T {X : St} (hI : INV X) : ok (g_Program_clear 24 X) (fun r Y => (Fr YC [4801, 4802, 4806, 5000, 6200, 8000] X Y ∧ INV Y) ∧ ((Y.1 24 6).toInt = 0) ∧ ((Y.1 24 1).toInt = 0)) := by
  unfold g_Program_clear
  refine ok.letE (v1 := 25) (by decide) ?_
  refine ok.bd (v_Kinds_forgetTexts_25 hI) ?_
  rintro r_1 Z3 ⟨hFZ3, hIZ3⟩
  refine ok.wI (L := [4801]) hIZ3 (show 0 ≤ (0 : Int) ∧ (0 : Int) ≤ 40 from by omega) (show (4801 : Nat) ∈ [4801] from by decide) (by decide) (fun Z4 hIZ4 hFZ4 hkZ4 hoZ4 => ?_)
  refine ok.wI (L := [4802]) hIZ4 (show -1 ≤ (-1 : Int) ∧ (-1 : Int) ≤ 39 from by omega) (show (4802 : Nat) ∈ [4802] from by decide) (by decide) (fun Z5 hIZ5 hFZ5 hkZ5 hoZ5 => ?_)
  refine ok.wI (L := [4806]) hIZ5 (show 0 ≤ (0 : Int) ∧ (0 : Int) ≤ 9080 from by omega) (show (4806 : Nat) ∈ [4806] from by decide) (by decide) (fun Z6 hIZ6 hFZ6 hkZ6 hoZ6 => ?_)
  have lpu7 : ∀ (n : Nat), ∀ (a_1u7 : Int32) (Zu7 : St), INV Zu7 → Fr YC [4801, 4802, 4806, 5000, 6200, 8000] X Zu7 → (0 ≤ a_1u7.toInt ∧ a_1u7.toInt ≤ 40) → ((Zu7.1 24 6).toInt = 0) → ((Zu7.1 24 1).toInt = 0) → (41 - a_1u7.toInt).toNat < n → ok (g_Program_clear_24 n 24 a_1u7 Zu7) (fun r Y => (Fr YC [4801, 4802, 4806, 5000, 6200, 8000] X Y ∧ INV Y) ∧ ((Y.1 24 6).toInt = 0) ∧ ((Y.1 24 1).toInt = 0)) := by
    intro n
    unfold g_Program_clear_24
    refine lp_indN (P := fun (n : Nat) (r_u7 : Nat → Int32 → St → Option (Int32 × St)) => ∀ (a_1u7 : Int32) (Zu7 : St), INV Zu7 → Fr YC [4801, 4802, 4806, 5000, 6200, 8000] X Zu7 → (0 ≤ a_1u7.toInt ∧ a_1u7.toInt ≤ 40) → ((Zu7.1 24 6).toInt = 0) → ((Zu7.1 24 1).toInt = 0) → (41 - a_1u7.toInt).toNat < n → ok (r_u7 24 a_1u7 Zu7) (fun r Y => (Fr YC [4801, 4802, 4806, 5000, 6200, 8000] X Y ∧ INV Y) ∧ ((Y.1 24 6).toInt = 0) ∧ ((Y.1 24 1).toInt = 0))) ?_ ?_ n
    · intro a_1u7 Zu7 hIu7 hFu7 u7_0 u7_1 u7_2  hm; exact absurd hm (Nat.not_lt_zero _)
    · intro n r_u7 ih_u7 a_1u7 Zu7 hIu7 hFu7 u7_0 u7_1 u7_2  hmu7
      unfold g_Program_clear_24_s
      refine ok.ite (fun c8 => ?_) (fun c8 => ?_)
      · skip
        exact ok.ret ⟨⟨(Fr.rf.tr hFu7 (fun _ q => q)), hIu7⟩, (show (Zu7.1 24 6).toInt = 0 from by have := (show 0 ≤ (Zu7.1 24 6).toInt ∧ (Zu7.1 24 6).toInt ≤ 9080 from hIu7.1 24 6); omega), (show (Zu7.1 24 1).toInt = 0 from by have := (show 0 ≤ (Zu7.1 24 1).toInt ∧ (Zu7.1 24 1).toInt ≤ 40 from hIu7.1 24 1); omega)⟩
      · skip
        refine ok.letE (v1 := 40) (by decide) ?_
        refine ok.ck (show 0 ≤ a_1u7.toInt ∧ a_1u7.toInt < ((40 : Nat) : Int) from by omega) ?_
        refine ok.wI (L := [8000]) hIu7 (show True from trivial) (show (8000 : Nat) ∈ [8000] from by decide) (by decide) (fun Z9 hIZ9 hFZ9 hkZ9 hoZ9 => ?_)
        refine ok.inc (by decide) (show _ ≤ a_1u7.toInt + (1) ∧ a_1u7.toInt + (1) ≤ _ from by omega) (fun x8 hx8 => ?_)
        have hx8 : x8.toInt = a_1u7.toInt + (1) := hx8
        exact ih_u7 x8 Z9 hIZ9 ((Fr.rf.tr hFu7 (fun _ q => q)).tr hFZ9 (by decide)) (show 0 ≤ x8.toInt ∧ x8.toInt ≤ 40 from by omega) (show (Z9.1 24 6).toInt = 0 from by have := (show (Z9.1 24 6).toInt = (Zu7.1 24 6).toInt from congrArg Int32.toInt (hFZ9.1 24 6 (show (4806 : Nat) ∉ [8000] from by decide))); have := (show 0 ≤ (Zu7.1 24 6).toInt ∧ (Zu7.1 24 6).toInt ≤ 9080 from hIu7.1 24 6); omega) (show (Z9.1 24 1).toInt = 0 from by have := (show (Z9.1 24 1).toInt = (Zu7.1 24 1).toInt from congrArg Int32.toInt (hFZ9.1 24 1 (show (4801 : Nat) ∉ [8000] from by decide))); have := (show 0 ≤ (Zu7.1 24 1).toInt ∧ (Zu7.1 24 1).toInt ≤ 40 from hIu7.1 24 1); omega) (show (41 - x8.toInt).toNat < _ from by omega)
  exact lpu7 BIG (0 : Int32) Z6 hIZ6 ((((Fr.rf.tr hFZ3 (by decide)).tr hFZ4 (by decide)).tr hFZ5 (by decide)).tr hFZ6 (by decide)) (show 0 ≤ (0 : Int) ∧ (0 : Int) ≤ 40 from by omega) (show (Z6.1 24 6).toInt = 0 from by have := (show (Z6.1 24 6).toInt = (0 : Int) from congrArg Int32.toInt hkZ6); omega) (show (Z6.1 24 1).toInt = 0 from by have := (show (Z6.1 24 1).toInt = (0 : Int) from congrArg Int32.toInt (((hFZ6.1 24 1 (show (4801 : Nat) ∉ [4806] from by decide)).trans (hFZ5.1 24 1 (show (4801 : Nat) ∉ [4802] from by decide))).trans hkZ4)); omega) (show (41 - (0 : Int)).toNat < BIG from ltBIG (show _ < 100000 from by omega))
set_option maxHeartbeats 4000000 in
theorem v_Program_clear_24 {X : St} (hI : INV X) : ok (g_Program_clear 24 X) (fun r Y => (Fr YC [4801, 4802, 4806, 5000, 6200, 8000] X Y ∧ INV Y)) := by
  unfold g_Program_clear
  refine ok.letE (v1 := 25) (by decide) ?_
  refine ok.bd (v_Kinds_forgetTexts_25 hI) ?_
  rintro r_1 Z3 ⟨hFZ3, hIZ3⟩
  refine ok.wI (L := [4801]) hIZ3 (show 0 ≤ (0 : Int) ∧ (0 : Int) ≤ 40 from by omega) (show (4801 : Nat) ∈ [4801] from by decide) (by decide) (fun Z4 hIZ4 hFZ4 hkZ4 hoZ4 => ?_)
  refine ok.wI (L := [4802]) hIZ4 (show -1 ≤ (-1 : Int) ∧ (-1 : Int) ≤ 39 from by omega) (show (4802 : Nat) ∈ [4802] from by decide) (by decide) (fun Z5 hIZ5 hFZ5 hkZ5 hoZ5 => ?_)
  refine ok.wI (L := [4806]) hIZ5 (show 0 ≤ (0 : Int) ∧ (0 : Int) ≤ 9080 from by omega) (show (4806 : Nat) ∈ [4806] from by decide) (by decide) (fun Z6 hIZ6 hFZ6 hkZ6 hoZ6 => ?_)
  have lpu7 : ∀ (n : Nat), ∀ (a_1u7 : Int32) (Zu7 : St), INV Zu7 → Fr YC [4801, 4802, 4806, 5000, 6200, 8000] X Zu7 → (0 ≤ a_1u7.toInt ∧ a_1u7.toInt ≤ 40) → (41 - a_1u7.toInt).toNat < n → ok (g_Program_clear_24 n 24 a_1u7 Zu7) (fun r Y => (Fr YC [4801, 4802, 4806, 5000, 6200, 8000] X Y ∧ INV Y)) := by
    intro n
    unfold g_Program_clear_24
    refine lp_indN (P := fun (n : Nat) (r_u7 : Nat → Int32 → St → Option (Int32 × St)) => ∀ (a_1u7 : Int32) (Zu7 : St), INV Zu7 → Fr YC [4801, 4802, 4806, 5000, 6200, 8000] X Zu7 → (0 ≤ a_1u7.toInt ∧ a_1u7.toInt ≤ 40) → (41 - a_1u7.toInt).toNat < n → ok (r_u7 24 a_1u7 Zu7) (fun r Y => (Fr YC [4801, 4802, 4806, 5000, 6200, 8000] X Y ∧ INV Y))) ?_ ?_ n
    · intro a_1u7 Zu7 hIu7 hFu7 u7_0  hm; exact absurd hm (Nat.not_lt_zero _)
    · intro n r_u7 ih_u7 a_1u7 Zu7 hIu7 hFu7 u7_0  hmu7
      unfold g_Program_clear_24_s
      refine ok.ite (fun c8 => ?_) (fun c8 => ?_)
      · skip
        exact ok.ret ⟨(Fr.rf.tr hFu7 (fun _ q => q)), hIu7⟩
      · skip
        refine ok.letE (v1 := 40) (by decide) ?_
        refine ok.ck (show 0 ≤ a_1u7.toInt ∧ a_1u7.toInt < ((40 : Nat) : Int) from by omega) ?_
        refine ok.wI (L := [8000]) hIu7 (show True from trivial) (show (8000 : Nat) ∈ [8000] from by decide) (by decide) (fun Z9 hIZ9 hFZ9 hkZ9 hoZ9 => ?_)
        refine ok.inc (by decide) (show _ ≤ a_1u7.toInt + (1) ∧ a_1u7.toInt + (1) ≤ _ from by omega) (fun x8 hx8 => ?_)
        have hx8 : x8.toInt = a_1u7.toInt + (1) := hx8
        exact ih_u7 x8 Z9 hIZ9 ((Fr.rf.tr hFu7 (fun _ q => q)).tr hFZ9 (by decide)) (show 0 ≤ x8.toInt ∧ x8.toInt ≤ 40 from by omega) (show (41 - x8.toInt).toNat < _ from by omega)
  exact lpu7 BIG (0 : Int32) Z6 hIZ6 ((((Fr.rf.tr hFZ3 (by decide)).tr hFZ4 (by decide)).tr hFZ5 (by decide)).tr hFZ6 (by decide)) (show 0 ≤ (0 : Int) ∧ (0 : Int) ≤ 40 from by omega) (show (41 - (0 : Int)).toNat < BIG from ltBIG (show _ < 100000 from by omega))
def Qv63 : List Nat := [4801, 4802, 4805, 4806, 5000, 5200, 5400, 5600, 5800, 6000, 6200, 6400, 6800, 7000, 7200, 7400, 7600, 7800, 8000, 8200, 8400, 8600, 8800, 9000, 9201, 9202, 9203, 9204, 9205, 9206, 9209, 9400, 9401, 9402, 9403, 9404, 9405, 9406, 9407, 9800, 10000, 10200, 10400, 10600, 10800]
def Qv64 : List Nat := [4802, 4805, 8200, 8600, 9203, 9204, 9402, 9403, 9404, 9405, 9406, 9407]
theorem sQv62_Qv64 : ∀ k ∈ Qv62, k ∈ Qv64 := by decide
theorem s9203x9204x9402x9403_Qv64 : ∀ k ∈ [9203, 9204, 9402, 9403], k ∈ Qv64 := by decide
theorem n9201_Qv52 : (9201 : Nat) ∉ Qv52 := by decide
theorem n9400_Qv52 : (9400 : Nat) ∉ Qv52 := by decide
theorem n9201_Qv55 : (9201 : Nat) ∉ Qv55 := by decide
theorem n9400_Qv55 : (9400 : Nat) ∉ Qv55 := by decide
theorem n9201_Qv60 : (9201 : Nat) ∉ Qv60 := by decide
theorem n9400_Qv60 : (9400 : Nat) ∉ Qv60 := by decide
theorem sQv64_Qv63 : ∀ k ∈ Qv64, k ∈ Qv63 := by decide
theorem n9202_Qv52 : (9202 : Nat) ∉ Qv52 := by decide
theorem n4801_Qv52 : (4801 : Nat) ∉ Qv52 := by decide
theorem n4801_Qv54 : (4801 : Nat) ∉ Qv54 := by decide
theorem n4801_Qv55 : (4801 : Nat) ∉ Qv55 := by decide
theorem n4801_Qv59 : (4801 : Nat) ∉ Qv59 := by decide
theorem n9202_Qv60 : (9202 : Nat) ∉ Qv60 := by decide
theorem n4806_Qv52 : (4806 : Nat) ∉ Qv52 := by decide
theorem n8200_Qv52 : (8200 : Nat) ∉ Qv52 := by decide
theorem n4806_Qv54 : (4806 : Nat) ∉ Qv54 := by decide
theorem n8200_Qv54 : (8200 : Nat) ∉ Qv54 := by decide
theorem n4806_Qv55 : (4806 : Nat) ∉ Qv55 := by decide
theorem n8200_Qv59 : (8200 : Nat) ∉ Qv59 := by decide
theorem n8200_Qv60 : (8200 : Nat) ∉ Qv60 := by decide
theorem sQv52_Qv63 : ∀ k ∈ Qv52, k ∈ Qv63 := by decide
theorem sQv54_Qv63 : ∀ k ∈ Qv54, k ∈ Qv63 := by decide
theorem sQv55_Qv63 : ∀ k ∈ Qv55, k ∈ Qv63 := by decide
theorem sQv59_Qv63 : ∀ k ∈ Qv59, k ∈ Qv63 := by decide
theorem sQv60_Qv63 : ∀ k ∈ Qv60, k ∈ Qv63 := by decide
theorem s9203x9204x9402x9403_Qv63 : ∀ k ∈ [9203, 9204, 9402, 9403], k ∈ Qv63 := by decide
theorem n4806_Qv36 : (4806 : Nat) ∉ Qv36 := by decide
theorem n4801_Qv36 : (4801 : Nat) ∉ Qv36 := by decide
theorem s4801x4802x4806x5000x6200x8000_Qv63 : ∀ k ∈ [4801, 4802, 4806, 5000, 6200, 8000], k ∈ Qv63 := by decide
theorem sQv36_Qv63 : ∀ k ∈ Qv36, k ∈ Qv63 := by decide
theorem ri145_R24T {a3 : Int32} {Z : St} (hI : INV Z) (hr1 : Z.2.2 46 1 = 25) (hr0 : Z.2.2 47 0 = 2) (hq : QX 24 42 43 0 Z) (he : EN 24 41 0 Z) : ok (g_Reader_readInto_145 a3 Z) (fun _ Y => (Fr YC Qv64 Z Y ∧ INV Y) ∧ ((Y.1 46 3).toInt = 0 → PGC 24 42 43 41 Y)) := by
  have g1 : 0 ≤ (Z.1 24 1).toInt ∧ (Z.1 24 1).toInt ≤ 40 := hI.1 24 1
  have g6 : 0 ≤ (Z.1 24 6).toInt ∧ (Z.1 24 6).toInt ≤ 9080 := hI.1 24 6
  have e1 := ixc (z := Z.1 24 1) g1.1
  unfold g_Reader_readInto_145
  refine ok.ck (by rw [hr1]; decide) (ok.letE (v1 := 24) (by rw [hr1]) (ok.letE (v1 := 41) (by decide) ?_))
  refine ok.ck (by rw [hr1]; decide) (ok.letE (v1 := 24) (by rw [hr1]) (ok.letE (v1 := Z.1 24 1) rfl ?_))
  refine ok.ck (by rw [hr1]; decide) (ok.letE (v1 := 24) (by rw [hr1]) (ok.letE (v1 := Z.1 24 6) rfl ?_))
  refine ok.ck (show 0 ≤ (Z.1 24 1).toInt ∧ (Z.1 24 1).toInt < ((41 : Nat) : Int) from by omega) ?_
  refine ok.wI (L := [8200]) hI (show 0 ≤ (Z.1 24 6).toInt ∧ (Z.1 24 6).toInt ≤ 9080 from g6) (show (8200 : Nat) ∈ [8200] from by decide) (by decide) (fun Z1 hI1 hF1 hk1 ho1 => ?_)
  have hr11 : Z1.2.2 46 1 = 25 := (hF1.2.2 46 1 (show (9201 : Nat) ∉ [8200] from by decide)).trans hr1
  refine ok.ck (by rw [hr11]; decide) (ok.letE (v1 := 24) (by rw [hr11]) ?_)
  refine ok.ck (by rw [hr11]; decide) (ok.letE (v1 := 24) (by rw [hr11]) (ok.letE (v1 := 25) (by decide) (ok.any (fun x21 => ?_))))
  refine ok.wI (L := [4805]) hI1 (show True from trivial) (show (4805 : Nat) ∈ [4805] from by decide) (by decide) (fun Z2 hI2 hF2 hk2 ho2 => ?_)
  have hF : Fr YC [8200, 4805] Z Z2 := (Fr.mono hF1 (by decide)).tr hF2 (by decide)
  have h21 : Z2.1 24 1 = Z.1 24 1 := hF.1 24 1 (show (4801 : Nat) ∉ [8200, 4805] from by decide)
  have h26 : Z2.1 24 6 = Z.1 24 6 := hF.1 24 6 (show (4806 : Nat) ∉ [8200, 4805] from by decide)
  have hq2 : QX 24 42 43 0 Z2 := QX.fr hF ⟨by decide, by decide, by decide, by decide, by decide, by decide⟩ (show (4806 : Nat) ∉ [8200, 4805] from by decide) (fun j => show (8400 : Nat) ∉ [8200, 4805] from by decide) (fun j => show (8600 : Nat) ∉ [8200, 4805] from by decide) hq
  have hp : (Z2.1 46 3).toInt = 0 → PGC 24 42 43 41 Z2 := by
    intro hf
    refine PGC.of hI2 hq2 hf (fun k hk => ?_)
    rw [h21] at hk
    rw [h26, hF2.1 41 k (show (8200 : Nat) ∉ [4805] from by decide)]
    by_cases q : k = ix (Z.1 24 1)
    · rw [q, hk1]
      exact Int.le_refl _
    · rw [ho1 k q]
      exact he k (by omega)
  refine ok.letE (v1 := Z2.1 46 3) rfl (ok.ite (fun c => ?_) (fun c => ok.ret ⟨⟨Fr.mono hF (show ∀ k ∈ [8200, 4805], k ∈ Qv64 from by decide), hI2⟩, hp⟩))
  refine ok.bd (v_Reader_resolve_R24T hI2 ((hF.2.2 46 1 (show (9201 : Nat) ∉ [8200, 4805] from by decide)).trans hr1) ((hF.2.2 47 0 (show (9400 : Nat) ∉ [8200, 4805] from by decide)).trans hr0)) ?_
  rintro r Y ⟨⟨hFY, hIY⟩, hpY⟩
  exact ok.ret ⟨⟨(Fr.mono hF (show ∀ k ∈ [8200, 4805], k ∈ Qv64 from by decide)).tr hFY sQv62_Qv64, hIY⟩, fun _ => hpY (hp c)⟩
theorem ri127_R24T {a3 : Int32} {Z : St} (hI : INV Z) (hr1 : Z.2.2 46 1 = 25) (hr0 : Z.2.2 47 0 = 2) (hq : QX 24 42 43 0 Z) (he : EN 24 41 0 Z) : ok (g_Reader_readInto_127 a3 Z) (fun _ Y => (Fr YC Qv64 Z Y ∧ INV Y) ∧ ((Y.1 46 3).toInt = 0 → PGC 24 42 43 41 Y)) := by
  unfold g_Reader_readInto_127
  refine ok.letV (ok.ite (fun _ => ?_) (fun _ => ?_))
  · refine ok.mono (ri145_R24T hI hr1 hr0 hq he) ?_
    rintro r Y ⟨⟨hFY, hIY⟩, hp⟩
    exact ⟨⟨Fr.mono hFY (fun _ q => q), hIY⟩, hp⟩
  · have l1 : ((1 : Int32)).toInt = 1 := rfl
    refine ok.bd (v_Reader_refuse_R24T hI (by rw [l1]; decide)) ?_
    rintro r Z1 ⟨⟨hF1, hI1⟩, hb, -, -, -⟩
    refine ok.mono (ri145_R24T hI1 ((hF1.2.2 46 1 (show (9201 : Nat) ∉ [9203, 9204, 9402, 9403] from by decide)).trans hr1) ((hF1.2.2 47 0 (show (9400 : Nat) ∉ [9203, 9204, 9402, 9403] from by decide)).trans hr0) (QX.bad hb) (EN.fr he hF1 (show (4801 : Nat) ∉ [9203, 9204, 9402, 9403] from by decide) (fun j => (show (8200 : Nat) ∉ [9203, 9204, 9402, 9403] from by decide)) (by rw [hF1.1 24 6 (show (4806 : Nat) ∉ [9203, 9204, 9402, 9403] from by decide)]; exact Int.le_refl _))) ?_
    rintro r Y ⟨⟨hFY, hIY⟩, hp⟩
    exact ⟨⟨(Fr.mono hF1 s9203x9204x9402x9403_Qv64).tr hFY (fun _ q => q), hIY⟩, hp⟩
theorem ri58_R24T {X : St} : ∀ (n : Nat), ∀ (a3 a4 : Int32) (Z : St), INV Z → Fr YC Qv63 X Z → Z.2.2 46 1 = 25 → Z.2.2 47 0 = 2 → (Z.1 46 2).toInt = 0 → 0 ≤ a4.toInt → (((Z.1 24 1).toInt = a4.toInt ∧ a4.toInt ≤ 40) ∨ a4.toInt = 41) → QX 24 42 43 0 Z → EN 24 41 0 Z → (42 - a4.toInt).toNat < n → ok (g_Reader_readInto_58 n a3 a4 Z) (fun _ Y => (Fr YC Qv63 X Y ∧ INV Y) ∧ ((Y.1 46 3).toInt = 0 → PGC 24 42 43 41 Y)) := by
  intro n
  unfold g_Reader_readInto_58
  refine lp_indN (P := fun (n : Nat) (r : Int32 → Int32 → St → Option (Int32 × St)) => ∀ (a3 a4 : Int32) (Z : St), INV Z → Fr YC Qv63 X Z → Z.2.2 46 1 = 25 → Z.2.2 47 0 = 2 → (Z.1 46 2).toInt = 0 → 0 ≤ a4.toInt → (((Z.1 24 1).toInt = a4.toInt ∧ a4.toInt ≤ 40) ∨ a4.toInt = 41) → QX 24 42 43 0 Z → EN 24 41 0 Z → (42 - a4.toInt).toNat < n → ok (r a3 a4 Z) (fun _ Y => (Fr YC Qv63 X Y ∧ INV Y) ∧ ((Y.1 46 3).toInt = 0 → PGC 24 42 43 41 Y))) ?_ ?_ n
  · intro a3 a4 Z _ _ _ _ _ _ _ _ _ hm
    exact absurd hm (Nat.not_lt_zero _)
  intro n r ih a3 a4 Z hI hF r10 r00 ho h0 hk hq he hm
  have out : ok (g_Reader_readInto_127 a3 Z) (fun _ Y => (Fr YC Qv63 X Y ∧ INV Y) ∧ ((Y.1 46 3).toInt = 0 → PGC 24 42 43 41 Y)) := by
    refine ok.mono (ri127_R24T hI r10 r00 hq he) ?_
    rintro r Y ⟨⟨hFY, hIY⟩, hp⟩
    exact ⟨⟨hF.tr hFY sQv64_Qv63, hIY⟩, hp⟩
  unfold g_Reader_readInto_58_s
  refine ok.ite (fun _ => out) (fun c => ?_)
  refine ok.letV (ok.ite (fun c1 => ?_) (fun _ => out))
  refine ok.ite (fun c2 => ?_) (fun c2 => ?_)
  · have hkk : (Z.1 24 1).toInt = a4.toInt := by omega
    have ea := ixc (z := a4) h0
    refine ok.bd (v_Reader_takePartName_R24T hI r10 r00 ⟨h0, by omega⟩) ?_
    rintro q1 Z1 ⟨⟨hF1, hI1⟩, -, hq1⟩
    have r11 : Z1.2.2 46 1 = 25 := ((hF1.2.2 46 1 n9201_Qv52).trans r10)
    have r01 : Z1.2.2 47 0 = 2 := ((hF1.2.2 47 0 n9400_Qv52).trans r00)
    have o1 : (Z1.1 46 2).toInt = 0 := (congrArg Int32.toInt (hF1.1 46 2 n9202_Qv52)).trans ho
    have he1 : EN 24 41 0 Z1 := (EN.fr he hF1 n4801_Qv52 (fun j => n8200_Qv52) (by rw [hF1.1 24 6 n4806_Qv52]; exact Int.le_refl _))
    refine ok.bd (v_Reader_takeParams_R24T hI1 r11 r01 ⟨h0, by omega⟩ (by omega)) ?_
    rintro q2 Z2 ⟨⟨hF2, hI2⟩, ho2, -, hq2⟩
    have r12 : Z2.2.2 46 1 = 25 := ((hF2.2.2 46 1 n9201_Qv54).trans r11)
    have r02 : Z2.2.2 47 0 = 2 := ((hF2.2.2 47 0 n9400_Qv54).trans r01)
    have he2 : EN 24 41 0 Z2 := (EN.fr he1 hF2 n4801_Qv54 (fun j => n8200_Qv54) (by rw [hF2.1 24 6 n4806_Qv54]; exact Int.le_refl _))
    refine ok.bd (v_Reader_takeOwnKind_R24T hI2 r12 r02 ⟨h0, by omega⟩ (by omega)) ?_
    rintro q3 Z3 ⟨⟨hF3, hI3⟩, hen, ho3, hoth, -, hq3⟩
    have r13 : Z3.2.2 46 1 = 25 := ((hF3.2.2 46 1 n9201_Qv55).trans r12)
    have r03 : Z3.2.2 47 0 = 2 := ((hF3.2.2 47 0 n9400_Qv55).trans r02)
    have p1 : Z1.1 24 1 = Z.1 24 1 := (hF1.1 24 1 n4801_Qv52)
    have p2 : Z2.1 24 1 = Z1.1 24 1 := (hF2.1 24 1 n4801_Qv54)
    have p3 : Z3.1 24 1 = Z2.1 24 1 := (hF3.1 24 1 n4801_Qv55)
    have he3 : EN 24 41 1 Z3 := by
      intro j hj
      rw [(hF3.1 24 6 n4806_Qv55)]
      rw [p3] at hj
      by_cases q : j = ix a4
      · rw [q, hen]
        exact Int.le_refl _
      · rw [hoth j q]
        rw [p2, p1] at hj
        exact he2 j (by rw [p2, p1]; omega)
    refine ok.bd (v_Reader_takeE_R24T hI3 r13 r03 (by omega) (Or.inr ⟨by omega, by omega⟩)) ?_
    rintro q4 Z4 ⟨⟨hF4, hI4⟩, hr4, ho4, hl4, -, hq4⟩
    have r14 : Z4.2.2 46 1 = 25 := ((hF4.2.2 46 1 n9201_Qv59).trans r13)
    have r04 : Z4.2.2 47 0 = 2 := ((hF4.2.2 47 0 n9400_Qv59).trans r03)
    have p4 : Z4.1 24 1 = Z3.1 24 1 := (hF4.1 24 1 n4801_Qv59)
    have he4 : EN 24 41 1 Z4 := (EN.fr he3 hF4 n4801_Qv59 (fun j => n8200_Qv59) hl4)
    refine ok.bd (v_Reader_endPart_R24T hI4 r14 r04 ⟨h0, by omega⟩ hr4) ?_
    rintro q5 Z5 ⟨⟨hF5, hI5⟩, hp5, hl5, -, hq5⟩
    have r15 : Z5.2.2 46 1 = 25 := ((hF5.2.2 46 1 n9201_Qv60).trans r14)
    have r05 : Z5.2.2 47 0 = 2 := ((hF5.2.2 47 0 n9400_Qv60).trans r04)
    have o5 : (Z5.1 46 2).toInt = 0 := (congrArg Int32.toInt (hF5.1 46 2 n9202_Qv60)).trans (by omega)
    have he5 : EN 24 41 0 Z5 := by
      intro j hj
      rw [(hF5.1 41 j n8200_Qv60)]
      exact Int.le_trans (he4 j (by rw [p4, p3, p2, p1]; omega)) hl5
    unfold g_Reader_readInto_121
    refine ok.inc (by decide) (by omega) (fun y hy => ?_)
    exact ih a3 y Z5 hI5 (((((hF.tr hF1 sQv52_Qv63).tr hF2 sQv54_Qv63).tr hF3 sQv55_Qv63).tr hF4 sQv59_Qv63).tr hF5 sQv60_Qv63) r15 r05 o5 (by omega) (by omega) (hq5 (hq4 (hq3 (hq2 (hq1 hq))))) he5 (by omega)
  · have l1 : ((3 : Int32)).toInt = 3 := rfl
    refine ok.bd (v_Reader_refuse_R24T hI (by rw [l1]; decide)) ?_
    rintro q1 Z1 ⟨⟨hF1, hI1⟩, hb, -, -, -⟩
    unfold g_Reader_readInto_121
    refine ok.inc (by decide) (by omega) (fun y hy => ?_)
    exact ih a3 y Z1 hI1 (hF.tr hF1 s9203x9204x9402x9403_Qv63) ((hF1.2.2 46 1 (show (9201 : Nat) ∉ [9203, 9204, 9402, 9403] from by decide)).trans r10) ((hF1.2.2 47 0 (show (9400 : Nat) ∉ [9203, 9204, 9402, 9403] from by decide)).trans r00) ((congrArg Int32.toInt (hF1.1 46 2 (show (9202 : Nat) ∉ [9203, 9204, 9402, 9403] from by decide))).trans ho) (by omega) (Or.inr (by omega)) (QX.bad hb) (EN.fr he hF1 (show (4801 : Nat) ∉ [9203, 9204, 9402, 9403] from by decide) (fun j => (show (8200 : Nat) ∉ [9203, 9204, 9402, 9403] from by decide)) (by rw [hF1.1 24 6 (show (4806 : Nat) ∉ [9203, 9204, 9402, 9403] from by decide)]; exact Int.le_refl _)) (by omega)
theorem v_readInto_R24T {p3 : Int32} {X : St} (hI : INV X) (h0 : 0 ≤ p3.toInt ∧ p3.toInt ≤ 3000) : ok (g_Reader_readInto 24 1 p3 X) (fun _ Y => (Fr YC Qv63 X Y ∧ INV Y) ∧ ((Y.1 46 3).toInt = 0 → PGC 24 42 43 41 Y)) := by
  unfold g_Reader_readInto
  refine ok.wR (L := [9201]) hI (show (9201 : Nat) ∈ [9201] from by decide) (fun Z1 hI1 hF1 he1 hR1 => ?_)
  refine ok.ck (by rw [hR1]; decide) (ok.letE (v1 := 24) (by rw [hR1]) ?_)
  refine ok.bd (clear0_R24T hI1) ?_
  rintro q2 Z2 ⟨⟨hF2, hI2⟩, hc6, hc1⟩
  refine ok.wI (L := [9203]) hI2 (show True from trivial) (show (9203 : Nat) ∈ [9203] from by decide) (by decide) (fun Z3 hI3 hF3 hk3 _ => ?_)
  refine ok.wI (L := [9204]) hI3 (show True from trivial) (show (9204 : Nat) ∈ [9204] from by decide) (by decide) (fun Z4 hI4 hF4 hk4 _ => ?_)
  refine ok.wI (L := [9202]) hI4 (show 0 ≤ (0 : Int) ∧ (0 : Int) ≤ 60 from by decide) (show (9202 : Nat) ∈ [9202] from by decide) (by decide) (fun Z5 hI5 hF5 hk5 _ => ?_)
  refine ok.wI (L := [9205]) hI5 (show 0 ≤ (0 : Int) ∧ (0 : Int) ≤ 126 from by decide) (show (9205 : Nat) ∈ [9205] from by decide) (by decide) (fun Z6 hI6 hF6 hk6 _ => ?_)
  refine ok.wI (L := [9206]) hI6 (show 0 ≤ (0 : Int) ∧ (0 : Int) ≤ 164 from by decide) (show (9206 : Nat) ∈ [9206] from by decide) (by decide) (fun Z7 hI7 hF7 hk7 _ => ?_)
  have hW : Fr YC [9202, 9203, 9204, 9205, 9206] Z2 Z7 := ((((Fr.mono hF3 (by decide)).tr hF4 (by decide)).tr hF5 (by decide)).tr hF6 (by decide)).tr hF7 (by decide)
  refine ok.bd (v_Tokens_begin_1 hI7 h0) ?_
  rintro q8 Z8 ⟨⟨hF8, hI8⟩, hT, hR8⟩
  have e86 : Z8.1 24 6 = Z2.1 24 6 := (hF8.1 24 6 n4806_Qv36).trans (hW.1 24 6 (show (4806 : Nat) ∉ [9202, 9203, 9204, 9205, 9206] from by decide))
  have e81 : Z8.1 24 1 = Z2.1 24 1 := (hF8.1 24 1 n4801_Qv36).trans (hW.1 24 1 (show (4801 : Nat) ∉ [9202, 9203, 9204, 9205, 9206] from by decide))
  have hr : Z8.2.2 46 1 = 25 := ((((hF8.2.2 46 1 n9201_Qv36).trans (hW.2.2 46 1 (show (9201 : Nat) ∉ [9202, 9203, 9204, 9205, 9206] from by decide))).trans (hF2.2.2 46 1 (show (9201 : Nat) ∉ [4801, 4802, 4806, 5000, 6200, 8000] from by decide))).trans hR1)
  have ho : (Z8.1 46 2).toInt = 0 := (congrArg Int32.toInt ((hF8.1 46 2 n9202_Qv36).trans ((hF7.1 46 2 (show (9202 : Nat) ∉ [9206] from by decide)).trans ((hF6.1 46 2 (show (9202 : Nat) ∉ [9205] from by decide)).trans hk5)))).trans rfl
  refine ri58_R24T BIG p3 0 Z8 hI8 ((((Fr.mono hF1 (show ∀ k ∈ [9201], k ∈ Qv63 from by decide)).tr hF2 s4801x4802x4806x5000x6200x8000_Qv63).tr hW (show ∀ k ∈ [9202, 9203, 9204, 9205, 9206], k ∈ Qv63 from by decide)).tr hF8 sQv36_Qv63) hr hR8 ho (by decide) (Or.inl ⟨by rw [e81]; exact hc1, by decide⟩) (fun _ => ⟨hT, fun j hj => ?_⟩) (fun j hj => ?_) (ltBIG (by decide))
  · rw [e86, hc6] at hj
    omega
  · rw [e81, hc1] at hj
    omega
