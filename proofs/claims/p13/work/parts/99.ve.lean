/-! tokens -/
set_option maxHeartbeats 4000000 in
theorem v_Tokens_isLetter {p0 : Int32} {X : St} (hI : INV X) : ok (g_Tokens_isLetter p0 X) (fun r Y => (X = Y) ∧ ((r.toInt = 1 ∧ ((97 ≤ p0.toInt ∧ p0.toInt ≤ 122) ∨ (65 ≤ p0.toInt ∧ p0.toInt ≤ 90))) ∨ (r.toInt = 0 ∧ ¬ ((97 ≤ p0.toInt ∧ p0.toInt ≤ 122) ∨ (65 ≤ p0.toInt ∧ p0.toInt ≤ 90))))) := by
  unfold g_Tokens_isLetter
  refine ok.ite (fun c1 => ?_) (fun c1 => ?_)
  · skip
    have g2 := i32_le p0
    unfold g_Tokens_isLetter_12
    refine ok.ite (fun c3 => ?_) (fun c3 => ?_)
    · skip
      exact ok.ret ⟨rfl, (show ((0 : Int) = 1 ∧ ((97 ≤ p0.toInt ∧ p0.toInt ≤ 122) ∨ (65 ≤ p0.toInt ∧ p0.toInt ≤ 90))) ∨ ((0 : Int) = 0 ∧ ¬ ((97 ≤ p0.toInt ∧ p0.toInt ≤ 122) ∨ (65 ≤ p0.toInt ∧ p0.toInt ≤ 90))) from by omega)⟩
    · skip
      refine ok.ite (fun c4 => ?_) (fun c4 => ?_)
      · skip
        exact ok.ret ⟨rfl, (show ((0 : Int) = 1 ∧ ((97 ≤ p0.toInt ∧ p0.toInt ≤ 122) ∨ (65 ≤ p0.toInt ∧ p0.toInt ≤ 90))) ∨ ((0 : Int) = 0 ∧ ¬ ((97 ≤ p0.toInt ∧ p0.toInt ≤ 122) ∨ (65 ≤ p0.toInt ∧ p0.toInt ≤ 90))) from by omega)⟩
      · skip
        exact ok.ret ⟨rfl, (show ((1 : Int) = 1 ∧ ((97 ≤ p0.toInt ∧ p0.toInt ≤ 122) ∨ (65 ≤ p0.toInt ∧ p0.toInt ≤ 90))) ∨ ((1 : Int) = 0 ∧ ¬ ((97 ≤ p0.toInt ∧ p0.toInt ≤ 122) ∨ (65 ≤ p0.toInt ∧ p0.toInt ≤ 90))) from by omega)⟩
  · skip
    have g5 := i32_le p0
    refine ok.ite (fun c6 => ?_) (fun c6 => ?_)
    · skip
      exact ok.ret ⟨rfl, (show ((1 : Int) = 1 ∧ ((97 ≤ p0.toInt ∧ p0.toInt ≤ 122) ∨ (65 ≤ p0.toInt ∧ p0.toInt ≤ 90))) ∨ ((1 : Int) = 0 ∧ ¬ ((97 ≤ p0.toInt ∧ p0.toInt ≤ 122) ∨ (65 ≤ p0.toInt ∧ p0.toInt ≤ 90))) from by omega)⟩
    · skip
      unfold g_Tokens_isLetter_12
      refine ok.ite (fun c7 => absurd c7 (show ¬ (p0.toInt < 65) from by omega)) (fun c7 => ?_)
      refine ok.ite (fun c8 => ?_) (fun c8 => absurd (show 90 < p0.toInt from by omega) c8)
      exact ok.ret ⟨rfl, (show ((0 : Int) = 1 ∧ ((97 ≤ p0.toInt ∧ p0.toInt ≤ 122) ∨ (65 ≤ p0.toInt ∧ p0.toInt ≤ 90))) ∨ ((0 : Int) = 0 ∧ ¬ ((97 ≤ p0.toInt ∧ p0.toInt ≤ 122) ∨ (65 ≤ p0.toInt ∧ p0.toInt ≤ 90))) from by omega)⟩
set_option maxHeartbeats 4000000 in
theorem v_Tokens_isDigit {p0 : Int32} {X : St} (hI : INV X) : ok (g_Tokens_isDigit p0 X) (fun r Y => (X = Y) ∧ ((r.toInt = 1 ∧ (48 ≤ p0.toInt ∧ p0.toInt ≤ 57)) ∨ (r.toInt = 0 ∧ ¬ (48 ≤ p0.toInt ∧ p0.toInt ≤ 57)))) := by
  unfold g_Tokens_isDigit
  refine ok.ite (fun c1 => ?_) (fun c1 => ?_)
  · skip
    have g2 := i32_le p0
    exact ok.ret ⟨rfl, (show ((0 : Int) = 1 ∧ (48 ≤ p0.toInt ∧ p0.toInt ≤ 57)) ∨ ((0 : Int) = 0 ∧ ¬ (48 ≤ p0.toInt ∧ p0.toInt ≤ 57)) from by omega)⟩
  · skip
    have g3 := i32_le p0
    refine ok.ite (fun c4 => ?_) (fun c4 => ?_)
    · skip
      exact ok.ret ⟨rfl, (show ((0 : Int) = 1 ∧ (48 ≤ p0.toInt ∧ p0.toInt ≤ 57)) ∨ ((0 : Int) = 0 ∧ ¬ (48 ≤ p0.toInt ∧ p0.toInt ≤ 57)) from by omega)⟩
    · skip
      exact ok.ret ⟨rfl, (show ((1 : Int) = 1 ∧ (48 ≤ p0.toInt ∧ p0.toInt ≤ 57)) ∨ ((1 : Int) = 0 ∧ ¬ (48 ≤ p0.toInt ∧ p0.toInt ≤ 57)) from by omega)⟩
set_option maxHeartbeats 4000000 in
theorem v_Tokens_wordType {X : St} (hI : INV X) : ok (g_Tokens_wordType X) (fun r Y => (X = Y)) := by
  unfold g_Tokens_wordType
  have lpu1 : ∀ (n : Nat), ∀ (a_1u1 : Int32) (Zu1 : St), INV Zu1 → Fr YC [] X Zu1 → (0 ≤ a_1u1.toInt ∧ a_1u1.toInt ≤ 15) → (16 - a_1u1.toInt).toNat < n → ok (g_Tokens_wordType_2 n a_1u1 Zu1) (fun r Y => (X = Y)) := by
    intro n
    unfold g_Tokens_wordType_2
    refine lp_indN (P := fun (n : Nat) (r_u1 : Int32 → St → Option (Int32 × St)) => ∀ (a_1u1 : Int32) (Zu1 : St), INV Zu1 → Fr YC [] X Zu1 → (0 ≤ a_1u1.toInt ∧ a_1u1.toInt ≤ 15) → (16 - a_1u1.toInt).toNat < n → ok (r_u1 a_1u1 Zu1) (fun r Y => (X = Y))) ?_ ?_ n
    · intro a_1u1 Zu1 hIu1 hFu1 u1_0  hm; exact absurd hm (Nat.not_lt_zero _)
    · intro n r_u1 ih_u1 a_1u1 Zu1 hIu1 hFu1 u1_0  hmu1
      unfold g_Tokens_wordType_2_s
      refine ok.ite (fun c2 => ?_) (fun c2 => ?_)
      · skip
        exact ok.ret (Fr.nil hFu1).symm
      · skip
        refine ok.ck (show 0 ≤ a_1u1.toInt ∧ a_1u1.toInt < ((15 : Nat) : Int) from by omega) ?_
        refine ok.any (fun y1 => ?_)
        refine ok.any (fun y2 => ?_)
        refine ok.any (fun x3 => ?_)
        refine ok.ite (fun c3 => ?_) (fun c3 => ?_)
        · skip
          have g4 := i32_le x3
          refine ok.add (show _ ≤ (261 : Int) + a_1u1.toInt ∧ (261 : Int) + a_1u1.toInt ≤ _ from by omega) (fun x5 hx5 => ?_)
          have hx5 : x5.toInt = (261 : Int) + a_1u1.toInt := hx5
          exact ok.ret (Fr.nil hFu1).symm
        · skip
          refine ok.inc (by decide) (show _ ≤ a_1u1.toInt + (1) ∧ a_1u1.toInt + (1) ≤ _ from by omega) (fun x4 hx4 => ?_)
          have hx4 : x4.toInt = a_1u1.toInt + (1) := hx4
          exact ih_u1 x4 Zu1 hIu1 (Fr.rf.tr hFu1 (fun _ q => q)) (show 0 ≤ x4.toInt ∧ x4.toInt ≤ 15 from by omega) (show (16 - x4.toInt).toNat < _ from by omega)
  exact lpu1 BIG (0 : Int32) X hI (Fr.rf : Fr YC [] _ _) (show 0 ≤ (0 : Int) ∧ (0 : Int) ≤ 15 from by omega) (show (16 - (0 : Int)).toNat < BIG from ltBIG (show _ < 100000 from by omega))
set_option maxHeartbeats 4000000 in
theorem v_Tokens_isSign {p0 : Int32} {X : St} (hI : INV X) : ok (g_Tokens_isSign p0 X) (fun r Y => (X = Y)) := by
  unfold g_Tokens_isSign
  refine ok.ite (fun c1 => ?_) (fun c1 => ?_)
  · skip
    have g2 := i32_le p0
    exact ok.ret rfl
  · skip
    refine ok.ite (fun c3 => ?_) (fun c3 => ?_)
    · skip
      have g4 := i32_le p0
      exact ok.ret rfl
    · skip
      refine ok.ite (fun c5 => ?_) (fun c5 => ?_)
      · skip
        have g6 := i32_le p0
        exact ok.ret rfl
      · skip
        refine ok.ite (fun c7 => ?_) (fun c7 => ?_)
        · skip
          have g8 := i32_le p0
          exact ok.ret rfl
        · skip
          refine ok.ite (fun c9 => ?_) (fun c9 => ?_)
          · skip
            have g10 := i32_le p0
            exact ok.ret rfl
          · skip
            refine ok.ite (fun c11 => ?_) (fun c11 => ?_)
            · skip
              have g12 := i32_le p0
              exact ok.ret rfl
            · skip
              refine ok.ite (fun c13 => ?_) (fun c13 => ?_)
              · skip
                have g14 := i32_le p0
                exact ok.ret rfl
              · skip
                refine ok.ite (fun c15 => ?_) (fun c15 => ?_)
                · skip
                  have g16 := i32_le p0
                  exact ok.ret rfl
                · skip
                  refine ok.ite (fun c17 => ?_) (fun c17 => ?_)
                  · skip
                    have g18 := i32_le p0
                    exact ok.ret rfl
                  · skip
                    refine ok.ite (fun c19 => ?_) (fun c19 => ?_)
                    · skip
                      have g20 := i32_le p0
                      exact ok.ret rfl
                    · skip
                      refine ok.ite (fun c21 => ?_) (fun c21 => ?_)
                      · skip
                        have g22 := i32_le p0
                        exact ok.ret rfl
                      · skip
                        refine ok.ite (fun c23 => ?_) (fun c23 => ?_)
                        · skip
                          have g24 := i32_le p0
                          exact ok.ret rfl
                        · skip
                          refine ok.ite (fun c25 => ?_) (fun c25 => ?_)
                          · skip
                            have g26 := i32_le p0
                            exact ok.ret rfl
                          · skip
                            refine ok.ite (fun c27 => ?_) (fun c27 => ?_)
                            · skip
                              have g28 := i32_le p0
                              exact ok.ret rfl
                            · skip
                              refine ok.ite (fun c29 => ?_) (fun c29 => ?_)
                              · skip
                                have g30 := i32_le p0
                                exact ok.ret rfl
                              · skip
                                refine ok.ite (fun c31 => ?_) (fun c31 => ?_)
                                · skip
                                  have g32 := i32_le p0
                                  exact ok.ret rfl
                                · skip
                                  refine ok.ite (fun c33 => ?_) (fun c33 => ?_)
                                  · skip
                                    have g34 := i32_le p0
                                    exact ok.ret rfl
                                  · skip
                                    exact ok.ret rfl
def Qv36 : List Nat := [9400, 9401, 9402, 9403, 9404, 9405, 9406, 9407]
/-- the byte at a place -/
def bt (X : St) (a : Int32) : Int32 := if a.toInt < 0 then -1 else if (X.1 47 1).toInt ≤ a.toInt then -1 else (X.1 1 (ix a)) &&& (255 : Int32)
theorem bt_eq {X Y : St} (h1 : Y.1 47 1 = X.1 47 1) (h2 : ∀ k, Y.1 1 k = X.1 1 k) (a : Int32) : bt Y a = bt X a := by
  unfold bt
  rw [h1, h2]
theorem bt_out {X : St} {a : Int32} (h : (X.1 47 1).toInt ≤ a.toInt) : (bt X a).toInt = -1 := by
  unfold bt
  by_cases c : a.toInt < 0
  · rw [if_pos c]
    decide
  · rw [if_neg c, if_pos h]
    decide
theorem bt_in {X : St} {a : Int32} (h0 : 0 ≤ a.toInt) (h : a.toInt < (X.1 47 1).toInt) : 0 ≤ (bt X a).toInt := by
  unfold bt
  rw [if_neg (by omega), if_neg (by omega)]
  exact (and_mask_255 _).1
def ltp (z : Int) : Prop := (97 ≤ z ∧ z ≤ 122) ∨ (65 ≤ z ∧ z ≤ 90)
def dgp (z : Int) : Prop := 48 ≤ z ∧ z ≤ 57
theorem tk_byte {p1 : Int32} {X : St} (hb : (X.1 47 1).toInt ≤ 3000) (hr : X.2.2 47 0 = 2) : ok (g_Tokens_byteAt p1 X) (fun r Y => X = Y ∧ r = bt X p1) := by
  unfold g_Tokens_byteAt
  refine ok.ite (fun c => ok.ret ⟨rfl, ?_⟩) (fun c => ?_)
  · unfold bt
    rw [if_pos c]
  refine ok.letE (v1 := X.1 47 1) rfl ?_
  refine ok.ite (fun c2 => ok.ret ⟨rfl, ?_⟩) (fun c2 => ?_)
  · unfold bt
    rw [if_neg c, if_pos c2]
  refine ok.ck (by rw [hr]; decide) (ok.letE (v1 := 1) (by rw [hr]) ?_)
  refine ok.ck (show 0 ≤ p1.toInt ∧ p1.toInt < ((3000 : Nat) : Int) from by omega) ?_
  exact ok.letV (ok.letV (ok.ret ⟨rfl, by unfold bt; rw [if_neg c, if_neg c2]⟩))
theorem tk_word53 {a : Int32} {Z : St} (hI : INV Z) (h0 : 0 ≤ a.toInt ∧ a.toInt ≤ 3000) : ok (g_Tokens_takeWord_53 a Z) (fun _ Y => (Fr YC [9402, 9403, 9406] Z Y ∧ INV Y) ∧ Y.1 47 2 = a) := by
  unfold g_Tokens_takeWord_53
  refine ok.wI (L := [9402]) hI (show 0 ≤ a.toInt ∧ a.toInt ≤ 3000 from h0) (show (9402 : Nat) ∈ [9402] from by decide) (by decide) (fun Z1 hI1 hF1 hk1 _ => ?_)
  refine ok.any (fun _ => ok.any (fun x6 => ?_))
  refine ok.wI (L := [9406]) hI1 (show True from trivial) (show (9406 : Nat) ∈ [9406] from by decide) (by decide) (fun Z2 hI2 hF2 _ _ => ?_)
  have e : ∀ b, ok (g_Tokens_takeWord_88 b Z2) (fun _ Y => (Fr YC [9402, 9403, 9406] Z Y ∧ INV Y) ∧ Y.1 47 2 = a) := by
    intro b
    unfold g_Tokens_takeWord_88
    refine ok.wI (L := [9403]) hI2 (show True from trivial) (show (9403 : Nat) ∈ [9403] from by decide) (by decide) (fun Z3 hI3 hF3 _ _ => ?_)
    exact ok.ret ⟨⟨((Fr.mono hF1 (by decide)).tr hF2 (by decide)).tr hF3 (by decide), hI3⟩, ((hF3.1 47 2 (show (9402 : Nat) ∉ [9403] from by decide)).trans (hF2.1 47 2 (show (9402 : Nat) ∉ [9406] from by decide))).trans hk1⟩
  refine ok.any (fun _ => ok.ite (fun _ => ?_) (fun _ => e _))
  refine ok.bd (v_Tokens_wordType hI2) ?_
  rintro r _ rfl
  exact e _
theorem tk_word {X : St} (hI : INV X) (hr : X.2.2 47 0 = 2) (hl : ltp (bt X (X.1 47 4)).toInt) : ok (g_Tokens_takeWord X) (fun _ Y => (Fr YC [9402, 9403, 9405, 9406] X Y ∧ INV Y) ∧ (X.1 47 4).toInt < (Y.1 47 2).toInt ∧ (Y.1 47 2).toInt ≤ (X.1 47 1).toInt) := by
  have g1 : 0 ≤ (X.1 47 1).toInt ∧ (X.1 47 1).toInt ≤ 3000 := hI.1 47 1
  have g4 : 0 ≤ (X.1 47 4).toInt ∧ (X.1 47 4).toInt ≤ 3000 := hI.1 47 4
  have hlt : (X.1 47 4).toInt < (X.1 47 1).toInt := by
    by_cases c : (X.1 47 1).toInt ≤ (X.1 47 4).toInt
    · have := bt_out c
      unfold ltp at hl
      omega
    · omega
  unfold g_Tokens_takeWord
  refine ok.wL (L := [9405]) hI (show (9405 : Nat) ∈ [9405] from by decide) (fun Z1 hI1 hF1 he1 => ?_)
  refine ok.letE (v1 := X.1 47 4) (congrFun (congrFun he1 47) 4) ?_
  have lp : ∀ (n : Nat), ∀ (a : Int32) (Z : St), INV Z → Fr YC [9405] X Z → Z.1 = X.1 → (X.1 47 4).toInt ≤ a.toInt → a.toInt ≤ (X.1 47 1).toInt → (3001 - a.toInt).toNat < n → ok (g_Tokens_takeWord_10 n a Z) (fun _ Y => (Fr YC [9402, 9403, 9405, 9406] X Y ∧ INV Y) ∧ (X.1 47 4).toInt < (Y.1 47 2).toInt ∧ (Y.1 47 2).toInt ≤ (X.1 47 1).toInt) := by
    intro n
    unfold g_Tokens_takeWord_10
    refine lp_indN (P := fun (n : Nat) (r : Int32 → St → Option (Int32 × St)) => ∀ (a : Int32) (Z : St), INV Z → Fr YC [9405] X Z → Z.1 = X.1 → (X.1 47 4).toInt ≤ a.toInt → a.toInt ≤ (X.1 47 1).toInt → (3001 - a.toInt).toNat < n → ok (r a Z) (fun _ Y => (Fr YC [9402, 9403, 9405, 9406] X Y ∧ INV Y) ∧ (X.1 47 4).toInt < (Y.1 47 2).toInt ∧ (Y.1 47 2).toInt ≤ (X.1 47 1).toInt)) ?_ ?_ n
    · intro a Z _ _ _ _ _ hm
      exact absurd hm (Nat.not_lt_zero _)
    intro n r ih a Z hIZ hF he ha hb hm
    have out : (X.1 47 4).toInt < a.toInt → ok (g_Tokens_takeWord_53 a Z) (fun _ Y => (Fr YC [9402, 9403, 9405, 9406] X Y ∧ INV Y) ∧ (X.1 47 4).toInt < (Y.1 47 2).toInt ∧ (Y.1 47 2).toInt ≤ (X.1 47 1).toInt) := by
      intro hlt
      refine ok.mono (tk_word53 hIZ ⟨by omega, by omega⟩) ?_
      rintro r Y ⟨⟨hFY, hIY⟩, h2⟩
      exact ⟨⟨(Fr.mono hF (by decide)).tr hFY (by decide), hIY⟩, by rw [h2]; exact hlt, by rw [h2]; exact hb⟩
    unfold g_Tokens_takeWord_10_s
    refine ok.letE (v1 := X.1 47 1) (congrFun (congrFun he 47) 1) ?_
    refine ok.ite (fun c => out (by omega)) (fun c => ?_)
    have hrZ : Z.2.2 47 0 = 2 := (hF.2.2 47 0 (show (9400 : Nat) ∉ [9405] from by decide)).trans hr
    have hbZ : (Z.1 47 1).toInt ≤ 3000 := (hIZ.1 47 1).2
    refine ok.bd (tk_byte hbZ hrZ) ?_
    rintro b _ ⟨rfl, rfl⟩
    refine ok.bd (v_Tokens_isLetter hIZ) ?_
    rintro b2 _ ⟨rfl, h2⟩
    have hbt : bt Z a = bt X a := bt_eq (congrFun (congrFun he 47) 1) (fun k => congrFun (congrFun he 1) k) a
    refine ok.ite (fun c2 => out ?_) (fun c2 => ?_)
    · by_cases q : a.toInt = (X.1 47 4).toInt
      · have q2 : a = X.1 47 4 := Int32.toInt_inj.mp q
        rw [hbt, q2] at h2
        unfold ltp at hl
        omega
      · omega
    refine ok.any (fun _ => ok.any (fun _ => ok.bd (tk_byte hbZ hrZ) ?_))
    rintro b _ ⟨rfl, rfl⟩
    refine ok.any (fun _ => ok.any (fun v => ?_))
    refine ok.wL (L := [9405]) hIZ (show (9405 : Nat) ∈ [9405] from by decide) (fun Z2 hI2 hF2 he2 => ?_)
    refine ok.inc (by decide) (by omega) (fun x hx => ?_)
    exact ih x Z2 hI2 (hF.tr hF2 (by decide)) (he2.trans he) (by omega) (by omega) (by omega)
  exact lp BIG (X.1 47 4) Z1 hI1 hF1 he1 (Int.le_refl _) (by omega) (ltBIG (by omega))
theorem tk_num83 {a : Int32} {Z : St} (hI : INV Z) (h0 : 0 ≤ a.toInt ∧ a.toInt ≤ 3000) : ok (g_Tokens_takeNumber_83 a Z) (fun _ Y => (Fr YC [9402, 9403] Z Y ∧ INV Y) ∧ Y.1 47 2 = a) := by
  unfold g_Tokens_takeNumber_83
  refine ok.wI (L := [9402]) hI (show 0 ≤ a.toInt ∧ a.toInt ≤ 3000 from h0) (show (9402 : Nat) ∈ [9402] from by decide) (by decide) (fun Z1 hI1 hF1 hk1 _ => ?_)
  refine ok.wI (L := [9403]) hI1 (show True from trivial) (show (9403 : Nat) ∈ [9403] from by decide) (by decide) (fun Z3 hI3 hF3 _ _ => ?_)
  exact ok.ret ⟨⟨(Fr.mono hF1 (by decide)).tr hF3 (by decide), hI3⟩, (hF3.1 47 2 (show (9402 : Nat) ∉ [9403] from by decide)).trans hk1⟩
theorem tk_num {X : St} (hI : INV X) (hr : X.2.2 47 0 = 2) (hl : dgp (bt X (X.1 47 4)).toInt) : ok (g_Tokens_takeNumber X) (fun _ Y => (Fr YC [9402, 9403, 9407] X Y ∧ INV Y) ∧ (X.1 47 4).toInt < (Y.1 47 2).toInt ∧ (Y.1 47 2).toInt ≤ (X.1 47 1).toInt) := by
  have g1 : 0 ≤ (X.1 47 1).toInt ∧ (X.1 47 1).toInt ≤ 3000 := hI.1 47 1
  have g4 : 0 ≤ (X.1 47 4).toInt ∧ (X.1 47 4).toInt ≤ 3000 := hI.1 47 4
  have hlt : (X.1 47 4).toInt < (X.1 47 1).toInt := by
    by_cases c : (X.1 47 1).toInt ≤ (X.1 47 4).toInt
    · have := bt_out c
      unfold dgp at hl
      omega
    · omega
  unfold g_Tokens_takeNumber
  refine ok.wL (L := [9407]) hI (show (9407 : Nat) ∈ [9407] from by decide) (fun Z1 hI1 hF1 he1 => ?_)
  refine ok.letE (v1 := X.1 47 4) (congrFun (congrFun he1 47) 4) ?_
  have lp : ∀ (n : Nat), ∀ (a : Int32) (Z : St), INV Z → Fr YC [9407] X Z → Z.1 = X.1 → (X.1 47 4).toInt ≤ a.toInt → a.toInt ≤ (X.1 47 1).toInt → (3001 - a.toInt).toNat < n → ok (g_Tokens_takeNumber_10 n a Z) (fun _ Y => (Fr YC [9402, 9403, 9407] X Y ∧ INV Y) ∧ (X.1 47 4).toInt < (Y.1 47 2).toInt ∧ (Y.1 47 2).toInt ≤ (X.1 47 1).toInt) := by
    intro n
    unfold g_Tokens_takeNumber_10
    refine lp_indN (P := fun (n : Nat) (r : Int32 → St → Option (Int32 × St)) => ∀ (a : Int32) (Z : St), INV Z → Fr YC [9407] X Z → Z.1 = X.1 → (X.1 47 4).toInt ≤ a.toInt → a.toInt ≤ (X.1 47 1).toInt → (3001 - a.toInt).toNat < n → ok (r a Z) (fun _ Y => (Fr YC [9402, 9403, 9407] X Y ∧ INV Y) ∧ (X.1 47 4).toInt < (Y.1 47 2).toInt ∧ (Y.1 47 2).toInt ≤ (X.1 47 1).toInt)) ?_ ?_ n
    · intro a Z _ _ _ _ _ hm
      exact absurd hm (Nat.not_lt_zero _)
    intro n r ih a Z hIZ hF he ha hb hm
    have out : (X.1 47 4).toInt < a.toInt → ok (g_Tokens_takeNumber_83 a Z) (fun _ Y => (Fr YC [9402, 9403, 9407] X Y ∧ INV Y) ∧ (X.1 47 4).toInt < (Y.1 47 2).toInt ∧ (Y.1 47 2).toInt ≤ (X.1 47 1).toInt) := by
      intro hlt
      refine ok.mono (tk_num83 hIZ ⟨by omega, by omega⟩) ?_
      rintro r Y ⟨⟨hFY, hIY⟩, h2⟩
      exact ⟨⟨(Fr.mono hF (by decide)).tr hFY (by decide), hIY⟩, by rw [h2]; exact hlt, by rw [h2]; exact hb⟩
    unfold g_Tokens_takeNumber_10_s
    refine ok.letE (v1 := X.1 47 1) (congrFun (congrFun he 47) 1) ?_
    refine ok.ite (fun c => out (by omega)) (fun c => ?_)
    have hrZ : Z.2.2 47 0 = 2 := (hF.2.2 47 0 (show (9400 : Nat) ∉ [9407] from by decide)).trans hr
    have hbZ : (Z.1 47 1).toInt ≤ 3000 := (hIZ.1 47 1).2
    refine ok.bd (tk_byte hbZ hrZ) ?_
    rintro b _ ⟨rfl, rfl⟩
    refine ok.bd (v_Tokens_isDigit hIZ) ?_
    rintro b2 _ ⟨rfl, h2⟩
    have hbt : bt Z a = bt X a := bt_eq (congrFun (congrFun he 47) 1) (fun k => congrFun (congrFun he 1) k) a
    refine ok.ite (fun c2 => out ?_) (fun c2 => ?_)
    · by_cases q : a.toInt = (X.1 47 4).toInt
      · have q2 : a = X.1 47 4 := Int32.toInt_inj.mp q
        rw [hbt, q2] at h2
        unfold dgp at hl
        omega
      · omega
    refine ok.any (fun _ => ok.any (fun _ => ok.bd (tk_byte hbZ hrZ) ?_))
    rintro b _ ⟨rfl, rfl⟩
    refine ok.any (fun _ => ok.any (fun _ => ok.any (fun v => ?_)))
    refine ok.wL (L := [9407]) hIZ (show (9407 : Nat) ∈ [9407] from by decide) (fun Z2 hI2 hF2 he2 => ?_)
    have e74 : ∀ m, ok (g_Tokens_takeNumber_74 r a m Z2) (fun _ Y => (Fr YC [9402, 9403, 9407] X Y ∧ INV Y) ∧ (X.1 47 4).toInt < (Y.1 47 2).toInt ∧ (Y.1 47 2).toInt ≤ (X.1 47 1).toInt) := by
      intro m
      unfold g_Tokens_takeNumber_74
      refine ok.wL (L := [9407]) hI2 (show (9407 : Nat) ∈ [9407] from by decide) (fun Z3 hI3 hF3 he3 => ?_)
      refine ok.inc (by decide) (by omega) (fun x hx => ?_)
      exact ih x Z3 hI3 ((hF.tr hF2 (by decide)).tr hF3 (by decide)) ((he3.trans he2).trans he) (by omega) (by omega) (by omega)
    exact ok.any (fun _ => ok.any (fun _ => ok.ite (fun _ => ok.any (fun _ => e74 _)) (fun _ => e74 _)))
  exact lp BIG (X.1 47 4) Z1 hI1 hF1 he1 (Int.le_refl _) (by omega) (ltBIG (by omega))
theorem tk_sign {p1 : Int32} {X : St} (hI : INV X) (hr : X.2.2 47 0 = 2) (h1 : (X.1 47 4).toInt < (X.1 47 1).toInt) (h2 : (X.1 47 2).toInt = (X.1 47 4).toInt + 1) : ok (g_Tokens_takeSign p1 X) (fun _ Y => (Fr YC [9402, 9403] X Y ∧ INV Y) ∧ (X.1 47 4).toInt < (Y.1 47 2).toInt ∧ (Y.1 47 2).toInt ≤ (X.1 47 1).toInt) := by
  have g1 : 0 ≤ (X.1 47 1).toInt ∧ (X.1 47 1).toInt ≤ 3000 := hI.1 47 1
  have g4 : 0 ≤ (X.1 47 4).toInt ∧ (X.1 47 4).toInt ≤ 3000 := hI.1 47 4
  have l1 : (1 : Int32).toInt = 1 := rfl
  have l2 : (2 : Int32).toInt = 2 := rfl
  have e54 : ∀ b, ok (g_Tokens_takeSign_54 b X) (fun _ Y => (Fr YC [9402, 9403] X Y ∧ INV Y) ∧ (X.1 47 4).toInt < (Y.1 47 2).toInt ∧ (Y.1 47 2).toInt ≤ (X.1 47 1).toInt) := by
    intro b
    unfold g_Tokens_takeSign_54
    refine ok.wI (L := [9403]) hI (show True from trivial) (show (9403 : Nat) ∈ [9403] from by decide) (by decide) (fun Z3 hI3 hF3 _ _ => ?_)
    have e : Z3.1 47 2 = X.1 47 2 := hF3.1 47 2 (show (9402 : Nat) ∉ [9403] from by decide)
    exact ok.ret ⟨⟨Fr.mono hF3 (by decide), hI3⟩, by rw [e]; omega, by rw [e]; omega⟩
  have e39 : ok (g_Tokens_takeSign_39 p1 X) (fun _ Y => (Fr YC [9402, 9403] X Y ∧ INV Y) ∧ (X.1 47 4).toInt < (Y.1 47 2).toInt ∧ (Y.1 47 2).toInt ≤ (X.1 47 1).toInt) := by
    unfold g_Tokens_takeSign_39
    refine ok.bd (v_Tokens_isSign hI) ?_
    rintro r _ rfl
    exact ok.ite (fun _ => e54 _) (fun _ => e54 _)
  unfold g_Tokens_takeSign
  refine ok.ite (fun _ => ?_) (fun _ => e39)
  refine ok.letV (ok.add (by rw [l1]; omega) (fun x hx => ?_))
  rw [l1] at hx
  refine ok.bd (tk_byte g1.2 hr) ?_
  rintro b _ ⟨rfl, rfl⟩
  refine ok.ite (fun c => ?_) (fun _ => e39)
  have hx2 : x.toInt < (X.1 47 1).toInt := by
    by_cases q : (X.1 47 1).toInt ≤ x.toInt
    · have := bt_out q
      omega
    · omega
  refine ok.wI (L := [9403]) hI (show True from trivial) (show (9403 : Nat) ∈ [9403] from by decide) (by decide) (fun Z3 hI3 hF3 _ _ => ?_)
  refine ok.letE (v1 := X.1 47 4) (hF3.1 47 4 (show (9404 : Nat) ∉ [9403] from by decide)) (ok.add (by rw [l2]; omega) (fun y hy => ?_))
  rw [l2] at hy
  refine ok.wI (L := [9402]) hI3 (show 0 ≤ y.toInt ∧ y.toInt ≤ 3000 from by omega) (show (9402 : Nat) ∈ [9402] from by decide) (by decide) (fun Z4 hI4 hF4 hk4 _ => ?_)
  exact ok.ret ⟨⟨(Fr.mono hF3 (by decide)).tr hF4 (by decide), hI4⟩, by rw [hk4]; omega, by rw [hk4]; omega⟩
theorem wI_over {X : St} {e k e2 k2 : Nat} {a b c : Int32} (h : ¬ (e2 = e ∧ k2 = k)) : _root_.Jvm.Pilot.CBlameCourtLaw_law_r8381_f30dd1.wI (_root_.Jvm.Pilot.CBlameCourtLaw_law_r8381_f30dd1.wI (_root_.Jvm.Pilot.CBlameCourtLaw_law_r8381_f30dd1.wI X e k a) e2 k2 b) e k c = _root_.Jvm.Pilot.CBlameCourtLaw_law_r8381_f30dd1.wI (_root_.Jvm.Pilot.CBlameCourtLaw_law_r8381_f30dd1.wI X e2 k2 b) e k c := by
  refine Prod.ext (funext fun e1 => funext fun k1 => ?_) rfl
  by_cases g : e1 = e ∧ k1 = k
  · obtain ⟨rfl, rfl⟩ := g
    rw [wI_at, wI_at]
  · rw [wI_ne _ _ _ _ _ _ g, wI_ne _ _ _ _ _ _ g]
    by_cases g2 : e1 = e2 ∧ k1 = k2
    · obtain ⟨rfl, rfl⟩ := g2
      rw [wI_at, wI_at]
    · rw [wI_ne _ _ _ _ _ _ g2, wI_ne _ _ _ _ _ _ g2, wI_ne _ _ _ _ _ _ g]
theorem tk_adv50 {a : Int32} {X : St} (hI : INV X) (hr : X.2.2 47 0 = 2) (h0 : 0 ≤ a.toInt ∧ a.toInt ≤ 3000) : ok (g_Tokens_advance_50 a X) (fun _ Y => (Fr YC [9402, 9403, 9404, 9405, 9406, 9407] X Y ∧ INV Y) ∧ Y.1 47 4 = a ∧ ((a.toInt < (Y.1 47 2).toInt ∧ (Y.1 47 2).toInt ≤ (X.1 47 1).toInt) ∨ ((Y.1 47 3).toInt = 257 ∧ Y.1 47 2 = X.1 47 1))) := by
  have g1 : 0 ≤ (X.1 47 1).toInt ∧ (X.1 47 1).toInt ≤ 3000 := hI.1 47 1
  have l1 : (1 : Int32).toInt = 1 := rfl
  unfold g_Tokens_advance_50
  by_cases c : (X.1 47 1).toInt ≤ a.toInt
  · -- the end: the next place is written twice
    refine ok.letV (ok.letV (ok.letV ?_))
    have hX6 : (_root_.Jvm.Pilot.CBlameCourtLaw_law_r8381_f30dd1.wI (_root_.Jvm.Pilot.CBlameCourtLaw_law_r8381_f30dd1.wI X 47 4 a) 47 2 (a + 1)).1 47 1 = X.1 47 1 := by
      rw [wI_ne _ _ _ _ _ _ (by decide), wI_ne _ _ _ _ _ _ (by decide)]
    refine ok.bd (tk_byte (by rw [hX6]; exact g1.2) hr) ?_
    rintro b _ ⟨rfl, rfl⟩
    have hb : (bt (_root_.Jvm.Pilot.CBlameCourtLaw_law_r8381_f30dd1.wI (_root_.Jvm.Pilot.CBlameCourtLaw_law_r8381_f30dd1.wI X 47 4 a) 47 2 (a + 1)) a).toInt = -1 := bt_out (by rw [hX6]; exact c)
    refine ok.ite (fun _ => ?_) (fun z => absurd hb z)
    refine ok.letV (ok.letE (v1 := X.1 47 1) ?_ ?_)
    · rw [wI_ne _ _ _ _ _ _ (by decide)]
      exact hX6
    refine ok.letV (ok.ret ?_)
    rw [wI_over (show ¬ ((47 : Nat) = 47 ∧ (3 : Nat) = 2) from by decide)]
    refine ⟨⟨((Fr.rf.wI 47 4 a (show (9404 : Nat) ∈ [9402, 9403, 9404, 9405, 9406, 9407] from by decide)).wI 47 3 257 (show (9403 : Nat) ∈ [9402, 9403, 9404, 9405, 9406, 9407] from by decide)).wI 47 2 _ (show (9402 : Nat) ∈ [9402, 9403, 9404, 9405, 9406, 9407] from by decide), ?_⟩, ?_, Or.inr ⟨?_, ?_⟩⟩
    · exact ((hI.wI (show OKC 47 4 a.toInt from h0) (by decide)).wI (show OKC 47 3 _ from trivial) (by decide)).wI (show 0 ≤ (X.1 47 1).toInt ∧ (X.1 47 1).toInt ≤ 3000 from g1) (by decide)
    · rw [wI_ne _ _ _ _ _ _ (by decide), wI_ne _ _ _ _ _ _ (by decide), wI_at]
    · rw [wI_ne _ _ _ _ _ _ (by decide), wI_at]
      rfl
    · rw [wI_at]
  · refine ok.wI (L := [9404]) hI (show 0 ≤ a.toInt ∧ a.toInt ≤ 3000 from h0) (show (9404 : Nat) ∈ [9404] from by decide) (by decide) (fun Z1 hI1 hF1 hk1 _ => ?_)
    refine ok.add (by rw [l1]; omega) (fun x hx => ?_)
    rw [l1] at hx
    refine ok.wI (L := [9402]) hI1 (show 0 ≤ x.toInt ∧ x.toInt ≤ 3000 from by omega) (show (9402 : Nat) ∈ [9402] from by decide) (by decide) (fun Z2 hI2 hF2 hk2 _ => ?_)
    have hF : Fr YC [9402, 9404] X Z2 := (Fr.mono hF1 (by decide)).tr hF2 (by decide)
    have hr2 : Z2.2.2 47 0 = 2 := (hF.2.2 47 0 (show (9400 : Nat) ∉ [9402, 9404] from by decide)).trans hr
    have h21 : Z2.1 47 1 = X.1 47 1 := hF.1 47 1 (show (9401 : Nat) ∉ [9402, 9404] from by decide)
    have h24 : Z2.1 47 4 = a := (hF2.1 47 4 (show (9404 : Nat) ∉ [9402] from by decide)).trans hk1
    refine ok.bd (tk_byte (hI2.1 47 1).2 hr2) ?_
    rintro b _ ⟨rfl, rfl⟩
    have hbi : 0 ≤ (bt Z2 a).toInt := bt_in h0.1 (by rw [h21]; omega)
    refine ok.ite (fun z => by omega) (fun _ => ?_)
    have fin : ∀ (L : List Nat) (hs : ∀ k ∈ L, k ∈ [9402, 9403, 9405, 9406, 9407]) (Y : St), Fr YC L Z2 Y → INV Y → (Z2.1 47 4).toInt < (Y.1 47 2).toInt → (Y.1 47 2).toInt ≤ (Z2.1 47 1).toInt → (Fr YC [9402, 9403, 9404, 9405, 9406, 9407] X Y ∧ INV Y) ∧ Y.1 47 4 = a ∧ ((a.toInt < (Y.1 47 2).toInt ∧ (Y.1 47 2).toInt ≤ (X.1 47 1).toInt) ∨ ((Y.1 47 3).toInt = 257 ∧ Y.1 47 2 = X.1 47 1)) := by
      intro L hs Y hFY hIY p q
      have hFY2 : Fr YC [9402, 9403, 9405, 9406, 9407] Z2 Y := Fr.mono hFY hs
      rw [h24] at p
      rw [h21] at q
      exact ⟨⟨(Fr.mono hF (by decide)).tr hFY2 (by decide), hIY⟩, (hFY2.1 47 4 (show (9404 : Nat) ∉ [9402, 9403, 9405, 9406, 9407] from by decide)).trans h24, Or.inl ⟨p, q⟩⟩
    refine ok.bd (v_Tokens_isLetter hI2) ?_
    rintro b2 _ ⟨rfl, h2⟩
    refine ok.ite (fun c2 => ?_) (fun c2 => ?_)
    · refine ok.bd (v_Tokens_isDigit hI2) ?_
      rintro b3 _ ⟨rfl, h3⟩
      refine ok.ite (fun c3 => ?_) (fun c3 => ?_)
      · refine ok.bd (tk_sign hI2 hr2 (by rw [h24, h21]; omega) (by rw [h24, hk2]; omega)) ?_
        rintro _ Y ⟨⟨hFY, hIY⟩, p, q⟩
        exact ok.ret (fin _ (by decide) Y hFY hIY p q)
      · refine ok.bd (tk_num hI2 hr2 (by rw [h24]; unfold dgp; omega)) ?_
        rintro _ Y ⟨⟨hFY, hIY⟩, p, q⟩
        exact ok.ret (fin _ (by decide) Y hFY hIY p q)
    · refine ok.bd (tk_word hI2 hr2 (by rw [h24]; unfold ltp; omega)) ?_
      rintro _ Y ⟨⟨hFY, hIY⟩, p, q⟩
      exact ok.ret (fin _ (by decide) Y hFY hIY p q)
theorem v_Tokens_advance_T {X : St} (hI : INV X) (hr : X.2.2 47 0 = 2) : ok (g_Tokens_advance X) (fun r Y => (Fr YC [9402, 9403, 9404, 9405, 9406, 9407] X Y ∧ INV Y) ∧ ((X.1 47 3).toInt = 260 → (Y.1 47 3).toInt = 260) ∧ TA X Y) := by
  have g1 : 0 ≤ (X.1 47 1).toInt ∧ (X.1 47 1).toInt ≤ 3000 := hI.1 47 1
  have g2 : 0 ≤ (X.1 47 2).toInt ∧ (X.1 47 2).toInt ≤ 3000 := hI.1 47 2
  unfold g_Tokens_advance
  refine ok.letV (ok.ite (fun c => ok.ret ⟨⟨Fr.rf, hI⟩, fun q => q, Or.inl ⟨c, c, rfl, rfl⟩⟩) (fun c => ?_))
  refine ok.letV ?_
  have lp : ∀ (n : Nat), ∀ (a : Int32), (X.1 47 2).toInt ≤ a.toInt → (a.toInt ≤ (X.1 47 1).toInt ∨ a.toInt = (X.1 47 2).toInt) → (3001 - a.toInt).toNat < n → ok (g_Tokens_advance_16 n a X) (fun r Y => (Fr YC [9402, 9403, 9404, 9405, 9406, 9407] X Y ∧ INV Y) ∧ ((X.1 47 3).toInt = 260 → (Y.1 47 3).toInt = 260) ∧ TA X Y) := by
    intro n
    unfold g_Tokens_advance_16
    refine lp_indN (P := fun (n : Nat) (r : Int32 → St → Option (Int32 × St)) => ∀ (a : Int32), (X.1 47 2).toInt ≤ a.toInt → (a.toInt ≤ (X.1 47 1).toInt ∨ a.toInt = (X.1 47 2).toInt) → (3001 - a.toInt).toNat < n → ok (r a X) (fun r Y => (Fr YC [9402, 9403, 9404, 9405, 9406, 9407] X Y ∧ INV Y) ∧ ((X.1 47 3).toInt = 260 → (Y.1 47 3).toInt = 260) ∧ TA X Y)) ?_ ?_ n
    · intro a _ _ hm
      exact absurd hm (Nat.not_lt_zero _)
    intro n r ih a ha hb hm
    have out : ok (g_Tokens_advance_50 a X) (fun r Y => (Fr YC [9402, 9403, 9404, 9405, 9406, 9407] X Y ∧ INV Y) ∧ ((X.1 47 3).toInt = 260 → (Y.1 47 3).toInt = 260) ∧ TA X Y) := by
      refine ok.mono (tk_adv50 hI hr ⟨by omega, by omega⟩) ?_
      rintro r Y ⟨hF, h4, h⟩
      refine ⟨hF, fun q => absurd q c, Or.inr (fun hn => ?_)⟩
      have e1 : Y.1 47 1 = X.1 47 1 := hF.1.1 47 1 (show (9401 : Nat) ∉ [9402, 9403, 9404, 9405, 9406, 9407] from by decide)
      unfold TKP
      rw [h4, e1]
      rcases h with ⟨p, q⟩ | ⟨p, q⟩
      · exact ⟨⟨by omega, q, Or.inr (Or.inr p)⟩, ha⟩
      · rw [q]
        exact ⟨⟨by omega, Int.le_refl _, Or.inl p⟩, ha⟩
    unfold g_Tokens_advance_16_s
    refine ok.letV (ok.ite (fun _ => out) (fun c2 => ?_))
    have e44 : ok (g_Tokens_advance_44 r a X) (fun r Y => (Fr YC [9402, 9403, 9404, 9405, 9406, 9407] X Y ∧ INV Y) ∧ ((X.1 47 3).toInt = 260 → (Y.1 47 3).toInt = 260) ∧ TA X Y) := by
      unfold g_Tokens_advance_44
      refine ok.inc (by decide) (by omega) (fun x hx => ?_)
      exact ih x (by omega) (by omega) (by omega)
    refine ok.bd (tk_byte g1.2 hr) ?_
    rintro b _ ⟨rfl, rfl⟩
    refine ok.ite (fun _ => e44) (fun _ => ?_)
    refine ok.bd (tk_byte g1.2 hr) ?_
    rintro b _ ⟨rfl, rfl⟩
    exact ok.ite (fun _ => e44) (fun _ => out)
  exact lp BIG (X.1 47 2) (Int.le_refl _) (Or.inr rfl) (ltBIG (by omega))
theorem tk_goTo {p1 : Int32} {X : St} (hI : INV X) (hr : X.2.2 47 0 = 2) (h0 : 0 ≤ p1.toInt ∧ p1.toInt ≤ 3000) : ok (g_Tokens_goTo p1 X) (fun r Y => (Fr YC [9402, 9403, 9404, 9405, 9406, 9407] X Y ∧ INV Y) ∧ (p1.toInt ≤ (X.1 47 1).toInt → TKP Y)) := by
  unfold g_Tokens_goTo
  refine ok.wI (L := [9402]) hI (show 0 ≤ p1.toInt ∧ p1.toInt ≤ 3000 from h0) (show (9402 : Nat) ∈ [9402] from by decide) (by decide) (fun Z1 hI1 hF1 hk1 _ => ?_)
  refine ok.wI (L := [9403]) hI1 (show True from trivial) (show (9403 : Nat) ∈ [9403] from by decide) (by decide) (fun Z2 hI2 hF2 hk2 _ => ?_)
  have hF : Fr YC [9402, 9403] X Z2 := (Fr.mono hF1 (by decide)).tr hF2 (by decide)
  refine ok.bd (v_Tokens_advance_T hI2 ((hF.2.2 47 0 (show (9400 : Nat) ∉ [9402, 9403] from by decide)).trans hr)) ?_
  rintro r Y ⟨⟨hFY, hIY⟩, -, hT⟩
  refine ok.ret ⟨⟨(Fr.mono hF (by decide)).tr hFY (by decide), hIY⟩, fun q => ?_⟩
  have e1 : Z2.1 47 1 = X.1 47 1 := hF.1 47 1 (show (9401 : Nat) ∉ [9402, 9403] from by decide)
  have e2 : Z2.1 47 2 = p1 := (hF2.1 47 2 (show (9402 : Nat) ∉ [9403] from by decide)).trans hk1
  rcases hT with ⟨h, -⟩ | h
  · rw [hk2] at h
    exact absurd h (by decide)
  · exact (h (by rw [e1, e2]; exact q)).1
theorem v_Tokens_goTo_T {p1 : Int32} {X : St} (hI : INV X) (hr : X.2.2 47 0 = 2) (h0 : 0 ≤ p1.toInt ∧ p1.toInt ≤ 3000) : ok (g_Tokens_goTo p1 X) (fun r Y => Fr YC [9402, 9403, 9404, 9405, 9406, 9407] X Y ∧ INV Y) := ok.mono (tk_goTo hI hr h0) (fun _ _ h => h.1)
theorem v_Tokens_begin_1 {p2 : Int32} {X : St} (hI : INV X) (h0 : 0 ≤ p2.toInt ∧ p2.toInt ≤ 3000) : ok (g_Tokens_begin 1 p2 X) (fun r Y => (Fr YC Qv36 X Y ∧ INV Y) ∧ TKP Y ∧ Y.2.2 47 0 = 2) := by
  unfold g_Tokens_begin
  refine ok.wR (L := [9400]) hI (show (9400 : Nat) ∈ [9400] from by decide) (fun Z1 hI1 hF1 he1 hR1 => ?_)
  refine ok.letE (v1 := (3000 : Int32)) (by decide) (ok.eqv (fun x hx => ?_))
  have l0 : (0 : Int32).toInt = 0 := rfl
  have l3 : (3000 : Int32).toInt = 3000 := by decide
  have hx2 : 0 ≤ x.toInt ∧ x.toInt ≤ 3000 := by
    rw [hx]
    by_cases c : (3000 : Int32) < p2
    · rw [if_pos c]
      omega
    · rw [if_neg c]
      exact h0
  refine ok.wI (L := [9401]) hI1 (show 0 ≤ x.toInt ∧ x.toInt ≤ 3000 from hx2) (show (9401 : Nat) ∈ [9401] from by decide) (by decide) (fun Z2 hI2 hF2 hk2 _ => ?_)
  have hR2 : Z2.2.2 47 0 = 2 := (hF2.2.2 47 0 (show (9400 : Nat) ∉ [9401] from by decide)).trans hR1
  refine ok.bd (tk_goTo hI2 hR2 (by rw [l0]; decide)) ?_
  rintro r Y ⟨⟨hFY, hIY⟩, hT⟩
  exact ok.ret ⟨⟨((Fr.mono hF1 (show ∀ k ∈ [9400], k ∈ Qv36 from by decide)).tr hF2 (by decide)).tr hFY (by decide), hIY⟩, hT (by rw [hk2, l0]; exact hx2.1), (hFY.2.2 47 0 (show (9400 : Nat) ∉ [9402, 9403, 9404, 9405, 9406, 9407] from by decide)).trans hR2⟩
