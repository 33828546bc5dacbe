/-! reading a text -/
/-- entries of the parts read so far -/
def EN (p en : Nat) (t : Int) (X : St) : Prop := ∀ j : Nat, (j : Int) < (X.1 p 1).toInt + t → (X.1 en j).toInt ≤ (X.1 p 6).toInt
theorem EN.fr {p en : Nat} {t : Int} {X Y : St} {L : List Nat} (h : EN p en t X) (hF : Fr YC L X Y) (h1 : cod YC p 1 ∉ L) (he : ∀ j, cod YC en j ∉ L) (h6 : (X.1 p 6).toInt ≤ (Y.1 p 6).toInt) : EN p en t Y := by
  intro j hj
  rw [hF.1 p 1 h1] at hj
  rw [hF.1 en j (he j)]
  exact Int.le_trans (h j hj) h6
theorem PGC.of {p op x en : Nat} {X : St} (hI : INV X) (hq : QX p op x 0 X) (hf : (X.1 46 3).toInt = 0) (he : ∀ k : Nat, (k : Int) ≤ (X.1 p 1).toInt → (X.1 en k).toInt ≤ (X.1 p 6).toInt) : PGC p op x en X := by
  refine ⟨fun j hj hc => ?_, he⟩
  have h := (hq hf).2 j hj hc
  have g5 : 0 ≤ (X.1 46 5).toInt ∧ (X.1 46 5).toInt ≤ 126 := hI.1 46 5
  have g4 : 0 ≤ (X.1 47 4).toInt ∧ (X.1 47 4).toInt ≤ 3000 := hI.1 47 4
  omega
set_option maxHeartbeats 4000000 in
theorem clear0_R2T {X : St} (hI : INV X) : ok (g_Program_clear 2 X) (fun r Y => (Fr YC [401, 402, 406, 600, 1800, 3600] X Y ∧ INV Y) ∧ ((Y.1 2 6).toInt = 0) ∧ ((Y.1 2 1).toInt = 0)) := by
  unfold g_Program_clear
  refine ok.letE (v1 := 3) (by decide) ?_
  refine ok.bd (v_Kinds_forgetTexts_3 hI) ?_
  rintro r_1 Z3 ⟨hFZ3, hIZ3⟩
  refine ok.wI (L := [401]) hIZ3 (show 0 ≤ (0 : Int) ∧ (0 : Int) ≤ 40 from by omega) (show (401 : Nat) ∈ [401] from by decide) (by decide) (fun Z4 hIZ4 hFZ4 hkZ4 hoZ4 => ?_)
  refine ok.wI (L := [402]) hIZ4 (show -1 ≤ (-1 : Int) ∧ (-1 : Int) ≤ 39 from by omega) (show (402 : Nat) ∈ [402] from by decide) (by decide) (fun Z5 hIZ5 hFZ5 hkZ5 hoZ5 => ?_)
  refine ok.wI (L := [406]) hIZ5 (show 0 ≤ (0 : Int) ∧ (0 : Int) ≤ 9080 from by omega) (show (406 : Nat) ∈ [406] from by decide) (by decide) (fun Z6 hIZ6 hFZ6 hkZ6 hoZ6 => ?_)
  have lpu7 : ∀ (n : Nat), ∀ (a_1u7 : Int32) (Zu7 : St), INV Zu7 → Fr YC [401, 402, 406, 600, 1800, 3600] X Zu7 → (0 ≤ a_1u7.toInt ∧ a_1u7.toInt ≤ 40) → ((Zu7.1 2 6).toInt = 0) → ((Zu7.1 2 1).toInt = 0) → (41 - a_1u7.toInt).toNat < n → ok (g_Program_clear_24 n 2 a_1u7 Zu7) (fun r Y => (Fr YC [401, 402, 406, 600, 1800, 3600] X Y ∧ INV Y) ∧ ((Y.1 2 6).toInt = 0) ∧ ((Y.1 2 1).toInt = 0)) := by
    intro n
    unfold g_Program_clear_24
    refine lp_indN (P := fun (n : Nat) (r_u7 : Nat → Int32 → St → Option (Int32 × St)) => ∀ (a_1u7 : Int32) (Zu7 : St), INV Zu7 → Fr YC [401, 402, 406, 600, 1800, 3600] X Zu7 → (0 ≤ a_1u7.toInt ∧ a_1u7.toInt ≤ 40) → ((Zu7.1 2 6).toInt = 0) → ((Zu7.1 2 1).toInt = 0) → (41 - a_1u7.toInt).toNat < n → ok (r_u7 2 a_1u7 Zu7) (fun r Y => (Fr YC [401, 402, 406, 600, 1800, 3600] X Y ∧ INV Y) ∧ ((Y.1 2 6).toInt = 0) ∧ ((Y.1 2 1).toInt = 0))) ?_ ?_ n
    · intro a_1u7 Zu7 hIu7 hFu7 u7_0 u7_1 u7_2  hm; exact absurd hm (Nat.not_lt_zero _)
    · intro n r_u7 ih_u7 a_1u7 Zu7 hIu7 hFu7 u7_0 u7_1 u7_2  hmu7
      unfold g_Program_clear_24_s
      refine ok.ite (fun c8 => ?_) (fun c8 => ?_)
      · skip
        exact ok.ret ⟨⟨(Fr.rf.tr hFu7 (fun _ q => q)), hIu7⟩, (show (Zu7.1 2 6).toInt = 0 from by have := (show 0 ≤ (Zu7.1 2 6).toInt ∧ (Zu7.1 2 6).toInt ≤ 9080 from hIu7.1 2 6); omega), (show (Zu7.1 2 1).toInt = 0 from by have := (show 0 ≤ (Zu7.1 2 1).toInt ∧ (Zu7.1 2 1).toInt ≤ 40 from hIu7.1 2 1); omega)⟩
      · skip
        refine ok.letE (v1 := 18) (by decide) ?_
        refine ok.ck (show 0 ≤ a_1u7.toInt ∧ a_1u7.toInt < ((40 : Nat) : Int) from by omega) ?_
        refine ok.wI (L := [3600]) hIu7 (show True from trivial) (show (3600 : Nat) ∈ [3600] from by decide) (by decide) (fun Z9 hIZ9 hFZ9 hkZ9 hoZ9 => ?_)
        refine ok.inc (by decide) (show _ ≤ a_1u7.toInt + (1) ∧ a_1u7.toInt + (1) ≤ _ from by omega) (fun x8 hx8 => ?_)
        have hx8 : x8.toInt = a_1u7.toInt + (1) := hx8
        exact ih_u7 x8 Z9 hIZ9 ((Fr.rf.tr hFu7 (fun _ q => q)).tr hFZ9 (by decide)) (show 0 ≤ x8.toInt ∧ x8.toInt ≤ 40 from by omega) (show (Z9.1 2 6).toInt = 0 from by have := (show (Z9.1 2 6).toInt = (Zu7.1 2 6).toInt from congrArg Int32.toInt (hFZ9.1 2 6 (show (406 : Nat) ∉ [3600] from by decide))); have := (show 0 ≤ (Zu7.1 2 6).toInt ∧ (Zu7.1 2 6).toInt ≤ 9080 from hIu7.1 2 6); omega) (show (Z9.1 2 1).toInt = 0 from by have := (show (Z9.1 2 1).toInt = (Zu7.1 2 1).toInt from congrArg Int32.toInt (hFZ9.1 2 1 (show (401 : Nat) ∉ [3600] from by decide))); have := (show 0 ≤ (Zu7.1 2 1).toInt ∧ (Zu7.1 2 1).toInt ≤ 40 from hIu7.1 2 1); omega) (show (41 - x8.toInt).toNat < _ from by omega)
  exact lpu7 BIG (0 : Int32) Z6 hIZ6 ((((Fr.rf.tr hFZ3 (by decide)).tr hFZ4 (by decide)).tr hFZ5 (by decide)).tr hFZ6 (by decide)) (show 0 ≤ (0 : Int) ∧ (0 : Int) ≤ 40 from by omega) (show (Z6.1 2 6).toInt = 0 from by have := (show (Z6.1 2 6).toInt = (0 : Int) from congrArg Int32.toInt hkZ6); omega) (show (Z6.1 2 1).toInt = 0 from by have := (show (Z6.1 2 1).toInt = (0 : Int) from congrArg Int32.toInt (((hFZ6.1 2 1 (show (401 : Nat) ∉ [406] from by decide)).trans (hFZ5.1 2 1 (show (401 : Nat) ∉ [402] from by decide))).trans hkZ4)); omega) (show (41 - (0 : Int)).toNat < BIG from ltBIG (show _ < 100000 from by omega))
def Qv50 : List Nat := [401, 402, 405, 406, 600, 800, 1000, 1200, 1400, 1600, 1800, 2000, 2400, 2600, 2800, 3000, 3200, 3400, 3600, 3800, 4000, 4200, 4400, 4600, 9201, 9202, 9203, 9204, 9205, 9206, 9209, 9400, 9401, 9402, 9403, 9404, 9405, 9406, 9407, 9800, 10000, 10200, 10400, 10600, 10800]
def Qv51 : List Nat := [402, 405, 3800, 4200, 9203, 9204, 9402, 9403, 9404, 9405, 9406, 9407]
theorem sQv49_Qv51 : ∀ k ∈ Qv49, k ∈ Qv51 := by decide
theorem s9203x9204x9402x9403_Qv51 : ∀ k ∈ [9203, 9204, 9402, 9403], k ∈ Qv51 := by decide
theorem n9201_Qv37 : (9201 : Nat) ∉ Qv37 := by decide
theorem n9400_Qv37 : (9400 : Nat) ∉ Qv37 := by decide
theorem n9201_Qv42 : (9201 : Nat) ∉ Qv42 := by decide
theorem n9400_Qv42 : (9400 : Nat) ∉ Qv42 := by decide
theorem n9201_Qv47 : (9201 : Nat) ∉ Qv47 := by decide
theorem n9400_Qv47 : (9400 : Nat) ∉ Qv47 := by decide
theorem sQv51_Qv50 : ∀ k ∈ Qv51, k ∈ Qv50 := by decide
theorem n9202_Qv37 : (9202 : Nat) ∉ Qv37 := by decide
theorem n401_Qv37 : (401 : Nat) ∉ Qv37 := by decide
theorem n401_Qv41 : (401 : Nat) ∉ Qv41 := by decide
theorem n401_Qv42 : (401 : Nat) ∉ Qv42 := by decide
theorem n401_Qv46 : (401 : Nat) ∉ Qv46 := by decide
theorem n9202_Qv47 : (9202 : Nat) ∉ Qv47 := by decide
theorem n406_Qv37 : (406 : Nat) ∉ Qv37 := by decide
theorem n3800_Qv37 : (3800 : Nat) ∉ Qv37 := by decide
theorem n406_Qv41 : (406 : Nat) ∉ Qv41 := by decide
theorem n3800_Qv41 : (3800 : Nat) ∉ Qv41 := by decide
theorem n406_Qv42 : (406 : Nat) ∉ Qv42 := by decide
theorem n3800_Qv46 : (3800 : Nat) ∉ Qv46 := by decide
theorem n3800_Qv47 : (3800 : Nat) ∉ Qv47 := by decide
theorem sQv37_Qv50 : ∀ k ∈ Qv37, k ∈ Qv50 := by decide
theorem sQv41_Qv50 : ∀ k ∈ Qv41, k ∈ Qv50 := by decide
theorem sQv42_Qv50 : ∀ k ∈ Qv42, k ∈ Qv50 := by decide
theorem sQv46_Qv50 : ∀ k ∈ Qv46, k ∈ Qv50 := by decide
theorem sQv47_Qv50 : ∀ k ∈ Qv47, k ∈ Qv50 := by decide
theorem s9203x9204x9402x9403_Qv50 : ∀ k ∈ [9203, 9204, 9402, 9403], k ∈ Qv50 := by decide
theorem n406_Qv36 : (406 : Nat) ∉ Qv36 := by decide
theorem n401_Qv36 : (401 : Nat) ∉ Qv36 := by decide
theorem n9201_Qv36 : (9201 : Nat) ∉ Qv36 := by decide
theorem n9202_Qv36 : (9202 : Nat) ∉ Qv36 := by decide
theorem s401x402x406x600x1800x3600_Qv50 : ∀ k ∈ [401, 402, 406, 600, 1800, 3600], k ∈ Qv50 := by decide
theorem sQv36_Qv50 : ∀ k ∈ Qv36, k ∈ Qv50 := by decide
theorem ri145_R2T {a3 : Int32} {Z : St} (hI : INV Z) (hr1 : Z.2.2 46 1 = 3) (hr0 : Z.2.2 47 0 = 2) (hq : QX 2 20 21 0 Z) (he : EN 2 19 0 Z) : ok (g_Reader_readInto_145 a3 Z) (fun _ Y => (Fr YC Qv51 Z Y ∧ INV Y) ∧ ((Y.1 46 3).toInt = 0 → PGC 2 20 21 19 Y)) := by
  have g1 : 0 ≤ (Z.1 2 1).toInt ∧ (Z.1 2 1).toInt ≤ 40 := hI.1 2 1
  have g6 : 0 ≤ (Z.1 2 6).toInt ∧ (Z.1 2 6).toInt ≤ 9080 := hI.1 2 6
  have e1 := ixc (z := Z.1 2 1) g1.1
  unfold g_Reader_readInto_145
  refine ok.ck (by rw [hr1]; decide) (ok.letE (v1 := 2) (by rw [hr1]) (ok.letE (v1 := 19) (by decide) ?_))
  refine ok.ck (by rw [hr1]; decide) (ok.letE (v1 := 2) (by rw [hr1]) (ok.letE (v1 := Z.1 2 1) rfl ?_))
  refine ok.ck (by rw [hr1]; decide) (ok.letE (v1 := 2) (by rw [hr1]) (ok.letE (v1 := Z.1 2 6) rfl ?_))
  refine ok.ck (show 0 ≤ (Z.1 2 1).toInt ∧ (Z.1 2 1).toInt < ((41 : Nat) : Int) from by omega) ?_
  refine ok.wI (L := [3800]) hI (show 0 ≤ (Z.1 2 6).toInt ∧ (Z.1 2 6).toInt ≤ 9080 from g6) (show (3800 : Nat) ∈ [3800] from by decide) (by decide) (fun Z1 hI1 hF1 hk1 ho1 => ?_)
  have hr11 : Z1.2.2 46 1 = 3 := (hF1.2.2 46 1 (show (9201 : Nat) ∉ [3800] from by decide)).trans hr1
  refine ok.ck (by rw [hr11]; decide) (ok.letE (v1 := 2) (by rw [hr11]) ?_)
  refine ok.ck (by rw [hr11]; decide) (ok.letE (v1 := 2) (by rw [hr11]) (ok.letE (v1 := 3) (by decide) (ok.any (fun x21 => ?_))))
  refine ok.wI (L := [405]) hI1 (show True from trivial) (show (405 : Nat) ∈ [405] from by decide) (by decide) (fun Z2 hI2 hF2 hk2 ho2 => ?_)
  have hF : Fr YC [3800, 405] Z Z2 := (Fr.mono hF1 (by decide)).tr hF2 (by decide)
  have h21 : Z2.1 2 1 = Z.1 2 1 := hF.1 2 1 (show (401 : Nat) ∉ [3800, 405] from by decide)
  have h26 : Z2.1 2 6 = Z.1 2 6 := hF.1 2 6 (show (406 : Nat) ∉ [3800, 405] from by decide)
  have hq2 : QX 2 20 21 0 Z2 := QX.fr hF ⟨by decide, by decide, by decide, by decide, by decide, by decide⟩ (show (406 : Nat) ∉ [3800, 405] from by decide) (fun j => show (4000 : Nat) ∉ [3800, 405] from by decide) (fun j => show (4200 : Nat) ∉ [3800, 405] from by decide) hq
  have hp : (Z2.1 46 3).toInt = 0 → PGC 2 20 21 19 Z2 := by
    intro hf
    refine PGC.of hI2 hq2 hf (fun k hk => ?_)
    rw [h21] at hk
    rw [h26, hF2.1 19 k (show (3800 : Nat) ∉ [405] from by decide)]
    by_cases q : k = ix (Z.1 2 1)
    · rw [q, hk1]
      exact Int.le_refl _
    · rw [ho1 k q]
      exact he k (by omega)
  refine ok.letE (v1 := Z2.1 46 3) rfl (ok.ite (fun c => ?_) (fun c => ok.ret ⟨⟨Fr.mono hF (show ∀ k ∈ [3800, 405], k ∈ Qv51 from by decide), hI2⟩, hp⟩))
  refine ok.bd (v_Reader_resolve_R2T hI2 ((hF.2.2 46 1 (show (9201 : Nat) ∉ [3800, 405] from by decide)).trans hr1) ((hF.2.2 47 0 (show (9400 : Nat) ∉ [3800, 405] from by decide)).trans hr0)) ?_
  rintro r Y ⟨⟨hFY, hIY⟩, hpY⟩
  exact ok.ret ⟨⟨(Fr.mono hF (show ∀ k ∈ [3800, 405], k ∈ Qv51 from by decide)).tr hFY sQv49_Qv51, hIY⟩, fun _ => hpY (hp c)⟩
theorem ri127_R2T {a3 : Int32} {Z : St} (hI : INV Z) (hr1 : Z.2.2 46 1 = 3) (hr0 : Z.2.2 47 0 = 2) (hq : QX 2 20 21 0 Z) (he : EN 2 19 0 Z) : ok (g_Reader_readInto_127 a3 Z) (fun _ Y => (Fr YC Qv51 Z Y ∧ INV Y) ∧ ((Y.1 46 3).toInt = 0 → PGC 2 20 21 19 Y)) := by
  unfold g_Reader_readInto_127
  refine ok.letV (ok.ite (fun _ => ?_) (fun _ => ?_))
  · refine ok.mono (ri145_R2T hI hr1 hr0 hq he) ?_
    rintro r Y ⟨⟨hFY, hIY⟩, hp⟩
    exact ⟨⟨Fr.mono hFY (fun _ q => q), hIY⟩, hp⟩
  · have l1 : ((1 : Int32)).toInt = 1 := rfl
    refine ok.bd (v_Reader_refuse_R2T hI (by rw [l1]; decide)) ?_
    rintro r Z1 ⟨⟨hF1, hI1⟩, hb, -, -, -⟩
    refine ok.mono (ri145_R2T hI1 ((hF1.2.2 46 1 (show (9201 : Nat) ∉ [9203, 9204, 9402, 9403] from by decide)).trans hr1) ((hF1.2.2 47 0 (show (9400 : Nat) ∉ [9203, 9204, 9402, 9403] from by decide)).trans hr0) (QX.bad hb) (EN.fr he hF1 (show (401 : Nat) ∉ [9203, 9204, 9402, 9403] from by decide) (fun j => (show (3800 : Nat) ∉ [9203, 9204, 9402, 9403] from by decide)) (by rw [hF1.1 2 6 (show (406 : Nat) ∉ [9203, 9204, 9402, 9403] from by decide)]; exact Int.le_refl _))) ?_
    rintro r Y ⟨⟨hFY, hIY⟩, hp⟩
    exact ⟨⟨(Fr.mono hF1 s9203x9204x9402x9403_Qv51).tr hFY (fun _ q => q), hIY⟩, hp⟩
theorem ri58_R2T {X : St} : ∀ (n : Nat), ∀ (a3 a4 : Int32) (Z : St), INV Z → Fr YC Qv50 X Z → Z.2.2 46 1 = 3 → Z.2.2 47 0 = 2 → (Z.1 46 2).toInt = 0 → 0 ≤ a4.toInt → (((Z.1 2 1).toInt = a4.toInt ∧ a4.toInt ≤ 40) ∨ a4.toInt = 41) → QX 2 20 21 0 Z → EN 2 19 0 Z → (42 - a4.toInt).toNat < n → ok (g_Reader_readInto_58 n a3 a4 Z) (fun _ Y => (Fr YC Qv50 X Y ∧ INV Y) ∧ ((Y.1 46 3).toInt = 0 → PGC 2 20 21 19 Y)) := by
  intro n
  unfold g_Reader_readInto_58
  refine lp_indN (P := fun (n : Nat) (r : Int32 → Int32 → St → Option (Int32 × St)) => ∀ (a3 a4 : Int32) (Z : St), INV Z → Fr YC Qv50 X Z → Z.2.2 46 1 = 3 → Z.2.2 47 0 = 2 → (Z.1 46 2).toInt = 0 → 0 ≤ a4.toInt → (((Z.1 2 1).toInt = a4.toInt ∧ a4.toInt ≤ 40) ∨ a4.toInt = 41) → QX 2 20 21 0 Z → EN 2 19 0 Z → (42 - a4.toInt).toNat < n → ok (r a3 a4 Z) (fun _ Y => (Fr YC Qv50 X Y ∧ INV Y) ∧ ((Y.1 46 3).toInt = 0 → PGC 2 20 21 19 Y))) ?_ ?_ n
  · intro a3 a4 Z _ _ _ _ _ _ _ _ _ hm
    exact absurd hm (Nat.not_lt_zero _)
  intro n r ih a3 a4 Z hI hF r10 r00 ho h0 hk hq he hm
  have out : ok (g_Reader_readInto_127 a3 Z) (fun _ Y => (Fr YC Qv50 X Y ∧ INV Y) ∧ ((Y.1 46 3).toInt = 0 → PGC 2 20 21 19 Y)) := by
    refine ok.mono (ri127_R2T hI r10 r00 hq he) ?_
    rintro r Y ⟨⟨hFY, hIY⟩, hp⟩
    exact ⟨⟨hF.tr hFY sQv51_Qv50, hIY⟩, hp⟩
  unfold g_Reader_readInto_58_s
  refine ok.ite (fun _ => out) (fun c => ?_)
  refine ok.letV (ok.ite (fun c1 => ?_) (fun _ => out))
  refine ok.ite (fun c2 => ?_) (fun c2 => ?_)
  · have hkk : (Z.1 2 1).toInt = a4.toInt := by omega
    have ea := ixc (z := a4) h0
    refine ok.bd (v_Reader_takePartName_R2T hI r10 r00 ⟨h0, by omega⟩) ?_
    rintro q1 Z1 ⟨⟨hF1, hI1⟩, -, hq1⟩
    have r11 : Z1.2.2 46 1 = 3 := ((hF1.2.2 46 1 n9201_Qv37).trans r10)
    have r01 : Z1.2.2 47 0 = 2 := ((hF1.2.2 47 0 n9400_Qv37).trans r00)
    have o1 : (Z1.1 46 2).toInt = 0 := (congrArg Int32.toInt (hF1.1 46 2 n9202_Qv37)).trans ho
    have he1 : EN 2 19 0 Z1 := (EN.fr he hF1 n401_Qv37 (fun j => n3800_Qv37) (by rw [hF1.1 2 6 n406_Qv37]; exact Int.le_refl _))
    refine ok.bd (v_Reader_takeParams_R2T hI1 r11 r01 ⟨h0, by omega⟩ (by omega)) ?_
    rintro q2 Z2 ⟨⟨hF2, hI2⟩, ho2, -, hq2⟩
    have r12 : Z2.2.2 46 1 = 3 := ((hF2.2.2 46 1 n9201_Qv41).trans r11)
    have r02 : Z2.2.2 47 0 = 2 := ((hF2.2.2 47 0 n9400_Qv41).trans r01)
    have he2 : EN 2 19 0 Z2 := (EN.fr he1 hF2 n401_Qv41 (fun j => n3800_Qv41) (by rw [hF2.1 2 6 n406_Qv41]; exact Int.le_refl _))
    refine ok.bd (v_Reader_takeOwnKind_R2T hI2 r12 r02 ⟨h0, by omega⟩ (by omega)) ?_
    rintro q3 Z3 ⟨⟨hF3, hI3⟩, hen, ho3, hoth, -, hq3⟩
    have r13 : Z3.2.2 46 1 = 3 := ((hF3.2.2 46 1 n9201_Qv42).trans r12)
    have r03 : Z3.2.2 47 0 = 2 := ((hF3.2.2 47 0 n9400_Qv42).trans r02)
    have p1 : Z1.1 2 1 = Z.1 2 1 := (hF1.1 2 1 n401_Qv37)
    have p2 : Z2.1 2 1 = Z1.1 2 1 := (hF2.1 2 1 n401_Qv41)
    have p3 : Z3.1 2 1 = Z2.1 2 1 := (hF3.1 2 1 n401_Qv42)
    have he3 : EN 2 19 1 Z3 := by
      intro j hj
      rw [(hF3.1 2 6 n406_Qv42)]
      rw [p3] at hj
      by_cases q : j = ix a4
      · rw [q, hen]
        exact Int.le_refl _
      · rw [hoth j q]
        rw [p2, p1] at hj
        exact he2 j (by rw [p2, p1]; omega)
    refine ok.bd (v_Reader_takeE_R2T hI3 r13 r03 (by omega) (Or.inr ⟨by omega, by omega⟩)) ?_
    rintro q4 Z4 ⟨⟨hF4, hI4⟩, hr4, ho4, hl4, -, hq4⟩
    have r14 : Z4.2.2 46 1 = 3 := ((hF4.2.2 46 1 n9201_Qv46).trans r13)
    have r04 : Z4.2.2 47 0 = 2 := ((hF4.2.2 47 0 n9400_Qv46).trans r03)
    have p4 : Z4.1 2 1 = Z3.1 2 1 := (hF4.1 2 1 n401_Qv46)
    have he4 : EN 2 19 1 Z4 := (EN.fr he3 hF4 n401_Qv46 (fun j => n3800_Qv46) hl4)
    refine ok.bd (v_Reader_endPart_R2T hI4 r14 r04 ⟨h0, by omega⟩ hr4) ?_
    rintro q5 Z5 ⟨⟨hF5, hI5⟩, hp5, hl5, -, hq5⟩
    have r15 : Z5.2.2 46 1 = 3 := ((hF5.2.2 46 1 n9201_Qv47).trans r14)
    have r05 : Z5.2.2 47 0 = 2 := ((hF5.2.2 47 0 n9400_Qv47).trans r04)
    have o5 : (Z5.1 46 2).toInt = 0 := (congrArg Int32.toInt (hF5.1 46 2 n9202_Qv47)).trans (by omega)
    have he5 : EN 2 19 0 Z5 := by
      intro j hj
      rw [(hF5.1 19 j n3800_Qv47)]
      exact Int.le_trans (he4 j (by rw [p4, p3, p2, p1]; omega)) hl5
    unfold g_Reader_readInto_121
    refine ok.inc (by decide) (by omega) (fun y hy => ?_)
    exact ih a3 y Z5 hI5 (((((hF.tr hF1 sQv37_Qv50).tr hF2 sQv41_Qv50).tr hF3 sQv42_Qv50).tr hF4 sQv46_Qv50).tr hF5 sQv47_Qv50) r15 r05 o5 (by omega) (by omega) (hq5 (hq4 (hq3 (hq2 (hq1 hq))))) he5 (by omega)
  · have l1 : ((3 : Int32)).toInt = 3 := rfl
    refine ok.bd (v_Reader_refuse_R2T hI (by rw [l1]; decide)) ?_
    rintro q1 Z1 ⟨⟨hF1, hI1⟩, hb, -, -, -⟩
    unfold g_Reader_readInto_121
    refine ok.inc (by decide) (by omega) (fun y hy => ?_)
    exact ih a3 y Z1 hI1 (hF.tr hF1 s9203x9204x9402x9403_Qv50) ((hF1.2.2 46 1 (show (9201 : Nat) ∉ [9203, 9204, 9402, 9403] from by decide)).trans r10) ((hF1.2.2 47 0 (show (9400 : Nat) ∉ [9203, 9204, 9402, 9403] from by decide)).trans r00) ((congrArg Int32.toInt (hF1.1 46 2 (show (9202 : Nat) ∉ [9203, 9204, 9402, 9403] from by decide))).trans ho) (by omega) (Or.inr (by omega)) (QX.bad hb) (EN.fr he hF1 (show (401 : Nat) ∉ [9203, 9204, 9402, 9403] from by decide) (fun j => (show (3800 : Nat) ∉ [9203, 9204, 9402, 9403] from by decide)) (by rw [hF1.1 2 6 (show (406 : Nat) ∉ [9203, 9204, 9402, 9403] from by decide)]; exact Int.le_refl _)) (by omega)
theorem v_readInto_R2T {p3 : Int32} {X : St} (hI : INV X) (h0 : 0 ≤ p3.toInt ∧ p3.toInt ≤ 3000) : ok (g_Reader_readInto 2 1 p3 X) (fun _ Y => (Fr YC Qv50 X Y ∧ INV Y) ∧ ((Y.1 46 3).toInt = 0 → PGC 2 20 21 19 Y)) := by
  unfold g_Reader_readInto
  refine ok.wR (L := [9201]) hI (show (9201 : Nat) ∈ [9201] from by decide) (fun Z1 hI1 hF1 he1 hR1 => ?_)
  refine ok.ck (by rw [hR1]; decide) (ok.letE (v1 := 2) (by rw [hR1]) ?_)
  refine ok.bd (clear0_R2T hI1) ?_
  rintro q2 Z2 ⟨⟨hF2, hI2⟩, hc6, hc1⟩
  refine ok.wI (L := [9203]) hI2 (show True from trivial) (show (9203 : Nat) ∈ [9203] from by decide) (by decide) (fun Z3 hI3 hF3 hk3 _ => ?_)
  refine ok.wI (L := [9204]) hI3 (show True from trivial) (show (9204 : Nat) ∈ [9204] from by decide) (by decide) (fun Z4 hI4 hF4 hk4 _ => ?_)
  refine ok.wI (L := [9202]) hI4 (show 0 ≤ (0 : Int) ∧ (0 : Int) ≤ 60 from by decide) (show (9202 : Nat) ∈ [9202] from by decide) (by decide) (fun Z5 hI5 hF5 hk5 _ => ?_)
  refine ok.wI (L := [9205]) hI5 (show 0 ≤ (0 : Int) ∧ (0 : Int) ≤ 126 from by decide) (show (9205 : Nat) ∈ [9205] from by decide) (by decide) (fun Z6 hI6 hF6 hk6 _ => ?_)
  refine ok.wI (L := [9206]) hI6 (show 0 ≤ (0 : Int) ∧ (0 : Int) ≤ 164 from by decide) (show (9206 : Nat) ∈ [9206] from by decide) (by decide) (fun Z7 hI7 hF7 hk7 _ => ?_)
  have hW : Fr YC [9202, 9203, 9204, 9205, 9206] Z2 Z7 := ((((Fr.mono hF3 (by decide)).tr hF4 (by decide)).tr hF5 (by decide)).tr hF6 (by decide)).tr hF7 (by decide)
  refine ok.bd (v_Tokens_begin_1 hI7 h0) ?_
  rintro q8 Z8 ⟨⟨hF8, hI8⟩, hT, hR8⟩
  have e86 : Z8.1 2 6 = Z2.1 2 6 := (hF8.1 2 6 n406_Qv36).trans (hW.1 2 6 (show (406 : Nat) ∉ [9202, 9203, 9204, 9205, 9206] from by decide))
  have e81 : Z8.1 2 1 = Z2.1 2 1 := (hF8.1 2 1 n401_Qv36).trans (hW.1 2 1 (show (401 : Nat) ∉ [9202, 9203, 9204, 9205, 9206] from by decide))
  have hr : Z8.2.2 46 1 = 3 := ((((hF8.2.2 46 1 n9201_Qv36).trans (hW.2.2 46 1 (show (9201 : Nat) ∉ [9202, 9203, 9204, 9205, 9206] from by decide))).trans (hF2.2.2 46 1 (show (9201 : Nat) ∉ [401, 402, 406, 600, 1800, 3600] from by decide))).trans hR1)
  have ho : (Z8.1 46 2).toInt = 0 := (congrArg Int32.toInt ((hF8.1 46 2 n9202_Qv36).trans ((hF7.1 46 2 (show (9202 : Nat) ∉ [9206] from by decide)).trans ((hF6.1 46 2 (show (9202 : Nat) ∉ [9205] from by decide)).trans hk5)))).trans rfl
  refine ri58_R2T BIG p3 0 Z8 hI8 ((((Fr.mono hF1 (show ∀ k ∈ [9201], k ∈ Qv50 from by decide)).tr hF2 s401x402x406x600x1800x3600_Qv50).tr hW (show ∀ k ∈ [9202, 9203, 9204, 9205, 9206], k ∈ Qv50 from by decide)).tr hF8 sQv36_Qv50) hr hR8 ho (by decide) (Or.inl ⟨by rw [e81]; exact hc1, by decide⟩) (fun _ => ⟨hT, fun j hj => ?_⟩) (fun j hj => ?_) (ltBIG (by decide))
  · rw [e86, hc6] at hj
    omega
  · rw [e81, hc1] at hj
    omega
