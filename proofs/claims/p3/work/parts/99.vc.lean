/-! judging parts, running -/
def Qv9 : List Nat := [600, 800, 1000, 1200, 1400, 1600, 1800, 2000, 4400, 11005, 11200, 11400, 11600, 11800, 12000, 12203, 12204, 12205, 12214, 12400, 13200, 13400, 13600, 13800]
theorem n12201_Qv9 : (12201 : Nat) ∉ Qv9 := by decide
theorem n3000_Qv9 : (3000 : Nat) ∉ Qv9 := by decide
theorem n3800_Qv9 : (3800 : Nat) ∉ Qv9 := by decide
def Qv10 : List Nat := [600, 800, 1000, 1200, 1400, 1600, 1800, 2000, 4400, 11005, 11200, 11400, 11600, 11800, 12000, 12200, 12201, 12202, 12203, 12204, 12205, 12214, 12400, 12600, 12800, 13000, 13200, 13400, 13600, 13800]
def Qv11 : List Nat := [14000, 14002, 14003, 14004, 14005, 14006, 14007, 14008, 14009, 14010, 14011, 14015, 14018, 14200, 14201, 14202, 14400, 14600, 14800, 15000, 15200, 15400, 15600, 15800, 16000, 16200, 16400, 16600, 16800, 17000, 17200, 17400]
set_option maxHeartbeats 4000000 in
theorem v_JArrays_fill_87 {p1 : Int32} {X : St} (hI : INV X) : ok (g_JArrays_fill 87 p1 X) (fun r Y => (Fr YC [17400] X Y ∧ INV Y)) := by
  unfold g_JArrays_fill
  refine ok.letE (v1 := (1600 : Int32)) (by decide) ?_
  have lpu1 : ∀ (n : Nat), ∀ (a_1u1 : Int32) (a_2u1 : Int32) (a_3u1 : Int32) (Zu1 : St), INV Zu1 → Fr YC [17400] X Zu1 → (0 ≤ a_2u1.toInt ∧ a_2u1.toInt ≤ a_3u1.toInt) → (a_3u1.toInt = 1600) → (a_3u1.toInt - a_2u1.toInt).toNat + 1 < n → ok (g_JArrays_fill_5 n 87 a_1u1 a_2u1 a_3u1 Zu1) (fun r Y => (Fr YC [17400] X Y ∧ INV Y)) := by
    intro n
    unfold g_JArrays_fill_5
    refine lp_indN (P := fun (n : Nat) (r_u1 : Nat → Int32 → Int32 → Int32 → St → Option (Int32 × St)) => ∀ (a_1u1 : Int32) (a_2u1 : Int32) (a_3u1 : Int32) (Zu1 : St), INV Zu1 → Fr YC [17400] X Zu1 → (0 ≤ a_2u1.toInt ∧ a_2u1.toInt ≤ a_3u1.toInt) → (a_3u1.toInt = 1600) → (a_3u1.toInt - a_2u1.toInt).toNat + 1 < n → ok (r_u1 87 a_1u1 a_2u1 a_3u1 Zu1) (fun r Y => (Fr YC [17400] X Y ∧ INV Y))) ?_ ?_ n
    · intro a_1u1 a_2u1 a_3u1 Zu1 hIu1 hFu1 u1_0 u1_1  hm; exact absurd hm (Nat.not_lt_zero _)
    · intro n r_u1 ih_u1 a_1u1 a_2u1 a_3u1 Zu1 hIu1 hFu1 u1_0 u1_1  hmu1
      unfold g_JArrays_fill_5_s
      refine ok.ite (fun c2 => ?_) (fun c2 => ?_)
      · skip
        exact ok.ret ⟨(Fr.rf.tr hFu1 (fun _ q => q)), hIu1⟩
      · skip
        refine ok.ck (show 0 ≤ a_2u1.toInt ∧ a_2u1.toInt < ((1600 : Nat) : Int) from by omega) ?_
        refine ok.wI (L := [17400]) hIu1 (show True from trivial) (show (17400 : Nat) ∈ [17400] from by decide) (by decide) (fun Z3 hIZ3 hFZ3 hkZ3 hoZ3 => ?_)
        refine ok.inc (by decide) (show _ ≤ a_2u1.toInt + (1) ∧ a_2u1.toInt + (1) ≤ _ from by omega) (fun x3 hx3 => ?_)
        have hx3 : x3.toInt = a_2u1.toInt + (1) := hx3
        exact ih_u1 a_1u1 x3 a_3u1 Z3 hIZ3 ((Fr.rf.tr hFu1 (fun _ q => q)).tr hFZ3 (fun _ q => q)) (show 0 ≤ x3.toInt ∧ x3.toInt ≤ a_3u1.toInt from by omega) (show a_3u1.toInt = 1600 from by omega) (show (a_3u1.toInt - x3.toInt).toNat + 1 < _ from by omega)
  exact lpu1 BIG p1 (0 : Int32) (1600 : Int32) X hI (Fr.rf : Fr YC [17400] _ _) (show 0 ≤ (0 : Int) ∧ (0 : Int) ≤ (1600 : Int) from by omega) (show (1600 : Int) = 1600 from by omega) (show ((1600 : Int) - (0 : Int)).toNat + 1 < BIG from ltBIG (show _ < 100000 from by omega))
set_option maxHeartbeats 4000000 in
theorem v_Running_push {q1 : Int64} {X : St} (hI : INV X) : ok (g_Running_push q1 X) (fun r Y => (Fr YC [14015, 16800] X Y ∧ INV Y)) := by
  unfold g_Running_push
  refine ok.letE (v1 := (X.1 70 15)) rfl ?_
  have g1 : 0 ≤ (X.1 70 15).toInt ∧ (X.1 70 15).toInt ≤ 20002 := hI.1 70 15
  refine ok.ite (fun c2 => ?_) (fun c2 => ?_)
  · skip
    exact ok.ret ⟨(Fr.rf : Fr YC [14015, 16800] _ _), hI⟩
  · skip
    refine ok.letE (v1 := (X.1 70 15)) rfl ?_
    refine ok.ck (show 0 ≤ (X.1 70 15).toInt ∧ (X.1 70 15).toInt < ((20002 : Nat) : Int) from by omega) ?_
    refine ok.wL (L := [16800]) hI (show (16800 : Nat) ∈ [16800] from by decide) (fun Z3 hIZ3 hFZ3 heZ3 => ?_)
    refine ok.letE (v1 := (X.1 70 15)) (congrFun (congrFun heZ3 70) 15) ?_
    refine ok.add (show _ ≤ (X.1 70 15).toInt + (1 : Int) ∧ (X.1 70 15).toInt + (1 : Int) ≤ _ from by omega) (fun x5 hx5 => ?_)
    have hx5 : x5.toInt = (X.1 70 15).toInt + (1 : Int) := hx5
    refine ok.wI (L := [14015]) hIZ3 (show 0 ≤ x5.toInt ∧ x5.toInt ≤ 20002 from by omega) (show (14015 : Nat) ∈ [14015] from by decide) (by decide) (fun Z4 hIZ4 hFZ4 hkZ4 hoZ4 => ?_)
    exact ok.ret ⟨((Fr.rf.tr hFZ3 (by decide)).tr hFZ4 (by decide)), hIZ4⟩
def Qv12 : List Nat := [14004, 14005, 14006, 14010, 14011, 14015, 16400, 16600]
theorem n14002_Qv12 : (14002 : Nat) ∉ Qv12 := by decide
theorem n401_Qv12 : (401 : Nat) ∉ Qv12 := by decide
theorem n3800_Qv12 : (3800 : Nat) ∉ Qv12 := by decide
set_option maxHeartbeats 4000000 in
theorem v_Running_slotAt {p1 : Int32} {X : St} (hI : INV X) : ok (g_Running_slotAt p1 X) (fun r Y => (X = Y) ∧ (0 ≤ r.toInt ∧ r.toInt ≤ 4399)) := by
  unfold g_Running_slotAt
  refine ok.letE (v1 := (X.1 70 11)) rfl ?_
  have g1 : 0 ≤ (X.1 70 11).toInt ∧ (X.1 70 11).toInt ≤ 100 := hI.1 70 11
  refine ok.sub (show _ ≤ (X.1 70 11).toInt - (1 : Int) ∧ (X.1 70 11).toInt - (1 : Int) ≤ _ from by omega) (fun x2 hx2 => ?_)
  have hx2 : x2.toInt = (X.1 70 11).toInt - (1 : Int) := hx2
  refine ok.mul (show _ ≤ x2.toInt * (44 : Int) ∧ x2.toInt * (44 : Int) ≤ _ from by omega) (fun x3 hx3 => ?_)
  have hx3 : x3.toInt = x2.toInt * (44 : Int) := hx3
  refine ok.any (fun x4 => ?_)
  refine ok.ite (fun c2 => ?_) (fun c2 => ?_)
  · skip
    have g3 := i32_le x4
    exact ok.ret ⟨rfl, (show 0 ≤ (0 : Int) ∧ (0 : Int) ≤ 4399 from by omega)⟩
  · skip
    have g4 := i32_le x4
    refine ok.ite (fun c5 => ?_) (fun c5 => ?_)
    · skip
      exact ok.ret ⟨rfl, (show 0 ≤ (0 : Int) ∧ (0 : Int) ≤ 4399 from by omega)⟩
    · skip
      exact ok.ret ⟨rfl, (show 0 ≤ x4.toInt ∧ x4.toInt ≤ 4399 from by omega)⟩
set_option maxHeartbeats 4000000 in
theorem v_Running_pop {X : St} (hI : INV X) : ok (g_Running_pop X) (fun r Y => (Fr YC [14015] X Y ∧ INV Y)) := by
  unfold g_Running_pop
  refine ok.letE (v1 := (X.1 70 15)) rfl ?_
  have g1 : 0 ≤ (X.1 70 15).toInt ∧ (X.1 70 15).toInt ≤ 20002 := hI.1 70 15
  refine ok.ite (fun c2 => ?_) (fun c2 => ?_)
  · skip
    refine ok.letE (v1 := (X.1 70 15)) rfl ?_
    refine ok.sub (show _ ≤ (X.1 70 15).toInt - (1 : Int) ∧ (X.1 70 15).toInt - (1 : Int) ≤ _ from by omega) (fun x3 hx3 => ?_)
    have hx3 : x3.toInt = (X.1 70 15).toInt - (1 : Int) := hx3
    refine ok.wI (L := [14015]) hI (show 0 ≤ x3.toInt ∧ x3.toInt ≤ 20002 from by omega) (show (14015 : Nat) ∈ [14015] from by decide) (by decide) (fun Z3 hIZ3 hFZ3 hkZ3 hoZ3 => ?_)
    refine ok.letE (v1 := x3) hkZ3 ?_
    refine ok.ck (show 0 ≤ x3.toInt ∧ x3.toInt < ((20002 : Nat) : Int) from by omega) ?_
    refine ok.any (fun y6 => ?_)
    exact ok.ret ⟨(Fr.rf.tr hFZ3 (fun _ q => q)), hIZ3⟩
  · skip
    exact ok.ret ⟨(Fr.rf : Fr YC [14015] _ _), hI⟩
set_option maxHeartbeats 4000000 in
theorem v_Running_failWith {p1 : Int32} {p2 : Int32} {X : St} (hI : INV X) : ok (g_Running_failWith p1 p2 X) (fun r Y => (Fr YC [14004, 14005, 14006] X Y ∧ INV Y)) := by
  unfold g_Running_failWith
  refine ok.letE (v1 := (X.1 70 4)) rfl ?_
  refine ok.ite (fun c1 => ?_) (fun c1 => ?_)
  · skip
    have g2 := i32_le (X.1 70 4)
    exact ok.ret ⟨(Fr.rf : Fr YC [14004, 14005, 14006] _ _), hI⟩
  · skip
    refine ok.wI (L := [14004]) hI (show True from trivial) (show (14004 : Nat) ∈ [14004] from by decide) (by decide) (fun Z3 hIZ3 hFZ3 hkZ3 hoZ3 => ?_)
    refine ok.wI (L := [14005]) hIZ3 (show True from trivial) (show (14005 : Nat) ∈ [14005] from by decide) (by decide) (fun Z4 hIZ4 hFZ4 hkZ4 hoZ4 => ?_)
    refine ok.wI (L := [14006]) hIZ4 (show True from trivial) (show (14006 : Nat) ∈ [14006] from by decide) (by decide) (fun Z5 hIZ5 hFZ5 hkZ5 hoZ5 => ?_)
    exact ok.ret ⟨(((Fr.rf.tr hFZ3 (by decide)).tr hFZ4 (by decide)).tr hFZ5 (by decide)), hIZ5⟩
set_option maxHeartbeats 4000000 in
theorem v_Running_enterPart_N2 {p1 : Int32} {p2 : Int32} {p3 : Int32} {X : St} (hI : INV X) (hr70_2 : X.2.2 70 2 = 3) (h0 : 0 ≤ p2.toInt ∧ p2.toInt ≤ 20002) : ok (g_Running_enterPart p1 p2 p3 X) (fun r Y => (Fr YC Qv12 X Y ∧ INV Y)) := by
  unfold g_Running_enterPart
  refine ok.letE (v1 := (X.1 70 11)) rfl ?_
  have g1 : 0 ≤ (X.1 70 11).toInt ∧ (X.1 70 11).toInt ≤ 100 := hI.1 70 11
  refine ok.ite (fun c2 => ?_) (fun c2 => ?_)
  · skip
    refine ok.letE (v1 := (X.1 70 11)) rfl ?_
    refine ok.letE (v1 := (X.1 70 10)) rfl ?_
    refine ok.ck (show 0 ≤ (X.1 70 11).toInt ∧ (X.1 70 11).toInt < ((100 : Nat) : Int) from by omega) ?_
    refine ok.wI (L := [16400]) hI (show True from trivial) (show (16400 : Nat) ∈ [16400] from by decide) (by decide) (fun Z3 hIZ3 hFZ3 hkZ3 hoZ3 => ?_)
    refine ok.letE (v1 := (X.1 70 11)) (hFZ3.1 70 11 (show (14011 : Nat) ∉ [16400] from by decide)) ?_
    refine ok.add (show _ ≤ (X.1 70 11).toInt + (1 : Int) ∧ (X.1 70 11).toInt + (1 : Int) ≤ _ from by omega) (fun x6 hx6 => ?_)
    have hx6 : x6.toInt = (X.1 70 11).toInt + (1 : Int) := hx6
    refine ok.wI (L := [14011]) hIZ3 (show 0 ≤ x6.toInt ∧ x6.toInt ≤ 100 from by omega) (show (14011 : Nat) ∈ [14011] from by decide) (by decide) (fun Z4 hIZ4 hFZ4 hkZ4 hoZ4 => ?_)
    refine ok.sub (show _ ≤ p2.toInt - (1 : Int) ∧ p2.toInt - (1 : Int) ≤ _ from by omega) (fun x8 hx8 => ?_)
    have hx8 : x8.toInt = p2.toInt - (1 : Int) := hx8
    have lpu5 : ∀ (n : Nat), ∀ (a_1u5 : Int32) (a_4u5 : Int32) (Zu5 : St), INV Zu5 → Fr YC Qv12 X Zu5 → (-1 ≤ a_4u5.toInt ∧ a_4u5.toInt ≤ 20001) → (a_4u5.toInt + 1).toNat < n → ok (g_Running_enterPart_44 n a_1u5 a_4u5 Zu5) (fun r Y => (Fr YC Qv12 X Y ∧ INV Y)) := by
      intro n
      unfold g_Running_enterPart_44
      refine lp_indN (P := fun (n : Nat) (r_u5 : Int32 → Int32 → St → Option (Int32 × St)) => ∀ (a_1u5 : Int32) (a_4u5 : Int32) (Zu5 : St), INV Zu5 → Fr YC Qv12 X Zu5 → (-1 ≤ a_4u5.toInt ∧ a_4u5.toInt ≤ 20001) → (a_4u5.toInt + 1).toNat < n → ok (r_u5 a_1u5 a_4u5 Zu5) (fun r Y => (Fr YC Qv12 X Y ∧ INV Y))) ?_ ?_ n
      · intro a_1u5 a_4u5 Zu5 hIu5 hFu5 u5_0  hm; exact absurd hm (Nat.not_lt_zero _)
      · intro n r_u5 ih_u5 a_1u5 a_4u5 Zu5 hIu5 hFu5 u5_0  hmu5
        unfold g_Running_enterPart_44_s
        refine ok.ite (fun c6 => ?_) (fun c6 => ?_)
        · skip
          refine ok.ite (fun c7 => ?_) (fun c7 => ?_)
          · skip
            have g8 := i32_le a_1u5
            unfold g_Running_enterPart_98
            unfold g_Running_enterPart_99
            refine ok.wI (L := [14010]) hIu5 (show True from trivial) (show (14010 : Nat) ∈ [14010] from by decide) (by decide) (fun Z9 hIZ9 hFZ9 hkZ9 hoZ9 => ?_)
            exact ok.ret ⟨((Fr.rf.tr hFu5 (fun _ q => q)).tr hFZ9 (by decide)), hIZ9⟩
          · skip
            have g10 := i32_le a_1u5
            refine ok.ck (by rw [((hFu5.2.2 70 2 n14002_Qv12).trans hr70_2)]; decide) ?_
            refine ok.letE (v1 := 2) (by rw [((hFu5.2.2 70 2 n14002_Qv12).trans hr70_2)]) ?_
            refine ok.letE (v1 := (X.1 2 1)) (hFu5.1 2 1 n401_Qv12) ?_
            have g11 : 0 ≤ (X.1 2 1).toInt ∧ (X.1 2 1).toInt ≤ 40 := hI.1 2 1
            refine ok.ite (fun c12 => ?_) (fun c12 => ?_)
            · skip
              unfold g_Running_enterPart_98
              unfold g_Running_enterPart_99
              refine ok.wI (L := [14010]) hIu5 (show True from trivial) (show (14010 : Nat) ∈ [14010] from by decide) (by decide) (fun Z13 hIZ13 hFZ13 hkZ13 hoZ13 => ?_)
              exact ok.ret ⟨((Fr.rf.tr hFu5 (fun _ q => q)).tr hFZ13 (by decide)), hIZ13⟩
            · skip
              refine ok.ck (by rw [((hFu5.2.2 70 2 n14002_Qv12).trans hr70_2)]; decide) ?_
              refine ok.letE (v1 := 2) (by rw [((hFu5.2.2 70 2 n14002_Qv12).trans hr70_2)]) ?_
              refine ok.letE (v1 := 19) (by decide) ?_
              refine ok.ck (show 0 ≤ a_1u5.toInt ∧ a_1u5.toInt < ((41 : Nat) : Int) from by omega) ?_
              refine ok.letE (v1 := (X.1 19 (ix a_1u5))) (hFu5.1 19 (ix a_1u5) n3800_Qv12) ?_
              have g14 : 0 ≤ (X.1 19 (ix a_1u5)).toInt ∧ (X.1 19 (ix a_1u5)).toInt ≤ 9080 := hI.1 19 (ix a_1u5)
              unfold g_Running_enterPart_99
              refine ok.wI (L := [14010]) hIu5 (show True from trivial) (show (14010 : Nat) ∈ [14010] from by decide) (by decide) (fun Z15 hIZ15 hFZ15 hkZ15 hoZ15 => ?_)
              exact ok.ret ⟨((Fr.rf.tr hFu5 (fun _ q => q)).tr hFZ15 (by decide)), hIZ15⟩
        · skip
          refine ok.bd (v_Running_slotAt hIu5) ?_
          rintro x15 _ ⟨rfl, hp16⟩
          have hp16 : 0 ≤ x15.toInt ∧ x15.toInt ≤ 4399 := hp16
          refine ok.bd (v_Running_pop hIu5) ?_
          rintro y17 Z18 ⟨hFZ18, hIZ18⟩
          refine ok.ck (show 0 ≤ x15.toInt ∧ x15.toInt < ((4400 : Nat) : Int) from by omega) ?_
          refine ok.wL (L := [16600]) hIZ18 (show (16600 : Nat) ∈ [16600] from by decide) (fun Z19 hIZ19 hFZ19 heZ19 => ?_)
          refine ok.inc (by decide) (show _ ≤ a_4u5.toInt + (-1) ∧ a_4u5.toInt + (-1) ≤ _ from by omega) (fun x20 hx20 => ?_)
          have hx20 : x20.toInt = a_4u5.toInt + (-1) := hx20
          exact ih_u5 a_1u5 x20 Z19 hIZ19 (((Fr.rf.tr hFu5 (fun _ q => q)).tr hFZ18 (by decide)).tr hFZ19 (by decide)) (show -1 ≤ x20.toInt ∧ x20.toInt ≤ 20001 from by omega) (show (x20.toInt + 1).toNat < _ from by omega)
    exact lpu5 BIG p1 x8 Z4 hIZ4 ((Fr.rf.tr hFZ3 (by decide)).tr hFZ4 (by decide)) (show -1 ≤ x8.toInt ∧ x8.toInt ≤ 20001 from by omega) (show (x8.toInt + 1).toNat < BIG from ltBIG (show _ < 100000 from by omega))
  · skip
    refine ok.bd (v_Running_failWith hI) ?_
    rintro r_20 Z22 ⟨hFZ22, hIZ22⟩
    exact ok.ret ⟨(Fr.rf.tr hFZ22 (by decide)), hIZ22⟩
set_option maxHeartbeats 4000000 in
theorem v_Running_contentTold {q1 : Int64} {X : St} (hI : INV X) : ok (g_Running_contentTold q1 X) (fun r Y => (X = Y)) := by
  unfold g_Running_contentTold
  refine ok.bd (v_Heap_sortOf hI) ?_
  rintro x1 _ rfl
  refine ok.ite (fun c2 => ?_) (fun c2 => ?_)
  · skip
    have g3 := i32_le x1
    refine ok.bd (v_Heap_lengthOf hI) ?_
    rintro x5 _ rfl
    exact ok.ret rfl
  · skip
    refine ok.bd (v_Heap_contentOf hI) ?_
    rintro x3 _ rfl
    exact ok.ret rfl
set_option maxHeartbeats 4000000 in
theorem v_Running_tellOf {p1 : Int32} {X : St} (hI : INV X) : ok (g_Running_tellOf p1 X) (fun r Y => (X = Y)) := by
  unfold g_Running_tellOf
  refine ok.letE (v1 := (X.1 70 15)) rfl ?_
  have g1 : 0 ≤ (X.1 70 15).toInt ∧ (X.1 70 15).toInt ≤ 20002 := hI.1 70 15
  refine ok.ite (fun c2 => ?_) (fun c2 => ?_)
  · skip
    unfold g_Running_tellOf_22
    refine ok.ite (fun c3 => ?_) (fun c3 => ?_)
    · skip
      have g4 := i32_le p1
      refine ok.letE (v1 := (X.1 70 5)) rfl ?_
      exact ok.ret rfl
    · skip
      refine ok.ite (fun c5 => ?_) (fun c5 => ?_)
      · skip
        have g6 := i32_le p1
        refine ok.letE (v1 := (X.1 70 6)) rfl ?_
        exact ok.ret rfl
      · skip
        refine ok.ite (fun c7 => ?_) (fun c7 => ?_)
        · skip
          have g8 := i32_le p1
          refine ok.letE (v1 := (X.1 70 7)) rfl ?_
          exact ok.ret rfl
        · skip
          refine ok.ite (fun c9 => ?_) (fun c9 => ?_)
          · skip
            have g10 := i32_le p1
            refine ok.letE (v1 := (X.1 70 9)) rfl ?_
            exact ok.ret rfl
          · skip
            refine ok.ite (fun c11 => ?_) (fun c11 => ?_)
            · skip
              have g12 := i32_le p1
              refine ok.letE (v1 := (X.1 70 5)) rfl ?_
              refine ok.ite (fun c13 => ?_) (fun c13 => ?_)
              · skip
                have g14 := i32_le (X.1 70 5)
                refine ok.bd (v_Heap_core hI) ?_
                rintro y12 _ rfl
                refine ok.bd (v_Heap_sortOf hI) ?_
                rintro x14 _ rfl
                exact ok.ret rfl
              · skip
                exact ok.ret rfl
            · skip
              refine ok.ite (fun c17 => ?_) (fun c17 => ?_)
              · skip
                have g18 := i32_le p1
                refine ok.letE (v1 := (X.1 70 5)) rfl ?_
                refine ok.ite (fun c19 => ?_) (fun c19 => ?_)
                · skip
                  have g20 := i32_le (X.1 70 5)
                  refine ok.bd (v_Heap_core hI) ?_
                  rintro y18 _ rfl
                  refine ok.bd (v_Running_contentTold hI) ?_
                  rintro x20 _ rfl
                  exact ok.ret rfl
                · skip
                  exact ok.ret rfl
              · skip
                refine ok.ite (fun c23 => ?_) (fun c23 => ?_)
                · skip
                  have g24 := i32_le p1
                  refine ok.letE (v1 := (X.1 70 5)) rfl ?_
                  refine ok.ite (fun c25 => ?_) (fun c25 => ?_)
                  · skip
                    have g26 := i32_le (X.1 70 5)
                    refine ok.bd (v_Heap_wrappingsAround hI) ?_
                    rintro x24 _ rfl
                    exact ok.ret rfl
                  · skip
                    exact ok.ret rfl
                · skip
                  refine ok.ite (fun c28 => ?_) (fun c28 => ?_)
                  · skip
                    have g29 := i32_le p1
                    refine ok.letE (v1 := (X.1 70 18)) rfl ?_
                    have g30 : 0 ≤ (X.1 70 18).toInt ∧ (X.1 70 18).toInt ≤ 200 := hI.1 70 18
                    exact ok.ret rfl
                  · skip
                    refine ok.ite (fun c31 => ?_) (fun c31 => ?_)
                    · skip
                      have g32 := i32_le p1
                      refine ok.letE (v1 := (X.1 71 2)) rfl ?_
                      have g33 : 0 ≤ (X.1 71 2).toInt ∧ (X.1 71 2).toInt ≤ 1000 := hI.1 71 2
                      exact ok.ret rfl
                    · skip
                      refine ok.ite (fun c34 => ?_) (fun c34 => ?_)
                      · skip
                        have g35 := i32_le p1
                        refine ok.letE (v1 := (X.1 71 0)) rfl ?_
                        have g36 : 0 ≤ (X.1 71 0).toInt ∧ (X.1 71 0).toInt ≤ 1000 := hI.1 71 0
                        exact ok.ret rfl
                      · skip
                        exact ok.ret rfl
  · skip
    refine ok.letE (v1 := (X.1 70 15)) rfl ?_
    refine ok.sub (show _ ≤ (X.1 70 15).toInt - (1 : Int) ∧ (X.1 70 15).toInt - (1 : Int) ≤ _ from by omega) (fun x33 hx33 => ?_)
    have hx33 : x33.toInt = (X.1 70 15).toInt - (1 : Int) := hx33
    refine ok.ck (show 0 ≤ x33.toInt ∧ x33.toInt < ((20002 : Nat) : Int) from by omega) ?_
    refine ok.any (fun y34 => ?_)
    unfold g_Running_tellOf_22
    refine ok.ite (fun c37 => ?_) (fun c37 => ?_)
    · skip
      have g38 := i32_le p1
      refine ok.letE (v1 := (X.1 70 5)) rfl ?_
      exact ok.ret rfl
    · skip
      refine ok.ite (fun c39 => ?_) (fun c39 => ?_)
      · skip
        have g40 := i32_le p1
        refine ok.letE (v1 := (X.1 70 6)) rfl ?_
        exact ok.ret rfl
      · skip
        refine ok.ite (fun c41 => ?_) (fun c41 => ?_)
        · skip
          have g42 := i32_le p1
          refine ok.letE (v1 := (X.1 70 7)) rfl ?_
          exact ok.ret rfl
        · skip
          refine ok.ite (fun c43 => ?_) (fun c43 => ?_)
          · skip
            have g44 := i32_le p1
            refine ok.letE (v1 := (X.1 70 9)) rfl ?_
            exact ok.ret rfl
          · skip
            refine ok.ite (fun c45 => ?_) (fun c45 => ?_)
            · skip
              have g46 := i32_le p1
              refine ok.letE (v1 := (X.1 70 5)) rfl ?_
              refine ok.ite (fun c47 => ?_) (fun c47 => ?_)
              · skip
                have g48 := i32_le (X.1 70 5)
                refine ok.bd (v_Heap_core hI) ?_
                rintro y12 _ rfl
                refine ok.bd (v_Heap_sortOf hI) ?_
                rintro x14 _ rfl
                exact ok.ret rfl
              · skip
                exact ok.ret rfl
            · skip
              refine ok.ite (fun c51 => ?_) (fun c51 => ?_)
              · skip
                have g52 := i32_le p1
                refine ok.letE (v1 := (X.1 70 5)) rfl ?_
                refine ok.ite (fun c53 => ?_) (fun c53 => ?_)
                · skip
                  have g54 := i32_le (X.1 70 5)
                  refine ok.bd (v_Heap_core hI) ?_
                  rintro y18 _ rfl
                  refine ok.bd (v_Running_contentTold hI) ?_
                  rintro x20 _ rfl
                  exact ok.ret rfl
                · skip
                  exact ok.ret rfl
              · skip
                refine ok.ite (fun c57 => ?_) (fun c57 => ?_)
                · skip
                  have g58 := i32_le p1
                  refine ok.letE (v1 := (X.1 70 5)) rfl ?_
                  refine ok.ite (fun c59 => ?_) (fun c59 => ?_)
                  · skip
                    have g60 := i32_le (X.1 70 5)
                    refine ok.bd (v_Heap_wrappingsAround hI) ?_
                    rintro x24 _ rfl
                    exact ok.ret rfl
                  · skip
                    exact ok.ret rfl
                · skip
                  refine ok.ite (fun c62 => ?_) (fun c62 => ?_)
                  · skip
                    have g63 := i32_le p1
                    refine ok.letE (v1 := (X.1 70 18)) rfl ?_
                    have g64 : 0 ≤ (X.1 70 18).toInt ∧ (X.1 70 18).toInt ≤ 200 := hI.1 70 18
                    exact ok.ret rfl
                  · skip
                    refine ok.ite (fun c65 => ?_) (fun c65 => ?_)
                    · skip
                      have g66 := i32_le p1
                      refine ok.letE (v1 := (X.1 71 2)) rfl ?_
                      have g67 : 0 ≤ (X.1 71 2).toInt ∧ (X.1 71 2).toInt ≤ 1000 := hI.1 71 2
                      exact ok.ret rfl
                    · skip
                      refine ok.ite (fun c68 => ?_) (fun c68 => ?_)
                      · skip
                        have g69 := i32_le p1
                        refine ok.letE (v1 := (X.1 71 0)) rfl ?_
                        have g70 : 0 ≤ (X.1 71 0).toInt ∧ (X.1 71 0).toInt ≤ 1000 := hI.1 71 0
                        exact ok.ret rfl
                      · skip
                        exact ok.ret rfl
