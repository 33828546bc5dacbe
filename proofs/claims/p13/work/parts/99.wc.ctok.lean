/-! the class's tokens -/
theorem i1 {x : Int32} (h : x.toInt ≤ 2147483646) : (x + Int32.ofInt 1).toInt = x.toInt + 1 := by
  have hc : (Int32.ofInt 1).toInt = 1 := by decide
  have := ti_lo x
  rw [ti_add (by rw [hc]; omega) (by rw [hc]; omega), hc]
theorem im1 {x : Int32} (h : -2147483647 ≤ x.toInt) : (x + Int32.ofInt (-1)).toInt = x.toInt - 1 := by
  have hc : (Int32.ofInt (-1)).toInt = -1 := by decide
  have := ti_hi x
  rw [ti_add (by rw [hc]; omega) (by rw [hc]; omega), hc]
  omega
theorem cmp0 (a b : Int64) : (lg_cmp a b).toInt = 0 ↔ a = b := by
  rw [← lg_cmp_eq]
  exact ⟨fun h => Int32.toInt_inj.mp h, fun h => by rw [h]; rfl⟩
/-- the text in the class's rows -/
def TXC (ch : Tx) (n : Nat) (X : St) : Prop := TXT ch n ∧ X.2.2 47 0 = 2 ∧ (X.1 47 1).toInt = n ∧ ∀ i, i < n → (X.1 1 i &&& 255).toInt = ch i
/-- only the tokens' own cells change -/
def TKF (X Y : St) : Prop := (∀ e k, ¬ e = 47 → Y.1 e k = X.1 e k) ∧ (∀ e k, ¬ e = 47 → Y.2.1 e k = X.2.1 e k) ∧ Y.2.2 = X.2.2 ∧ Y.1 47 1 = X.1 47 1
section CTK
variable {ch : Tx} {n : Nat} {X Y Z : St}
theorem TKF.rf : TKF X X := ⟨fun _ _ _ => rfl, fun _ _ _ => rfl, rfl, rfl⟩
theorem TKF.tr (h : TKF X Y) (g : TKF Y Z) : TKF X Z := ⟨fun e k q => (g.1 e k q).trans (h.1 e k q), fun e k q => (g.2.1 e k q).trans (h.2.1 e k q), g.2.2.1.trans h.2.2.1, g.2.2.2.trans h.2.2.2⟩
theorem TKF.wI (h : TKF X Y) (k : Nat) (v : Int32) (hk : ¬ k = 1) : TKF X (_root_.Jvm.Pilot.CBlameCourtLaw_law_r8381_f30dd1.wI Y 47 k v) :=
  ⟨fun e j q => (wI_ne _ _ _ _ _ _ (fun g => q g.1)).trans (h.1 e j q), h.2.1, h.2.2.1, (wI_ne _ _ _ _ _ _ (fun g => hk g.2.symm)).trans h.2.2.2⟩
theorem TKF.wL (h : TKF X Y) (k : Nat) (v : Int64) : TKF X (_root_.Jvm.Pilot.CBlameCourtLaw_law_r8381_f30dd1.wL Y 47 k v) :=
  ⟨h.1, fun e j q => (wL_ne _ _ _ _ _ _ (fun g => q g.1)).trans (h.2.1 e j q), h.2.2.1, h.2.2.2⟩
theorem TXC.fr (h : TXC ch n X) (g : TKF X Y) : TXC ch n Y := ⟨h.1, by rw [g.2.2.1]; exact h.2.1, by rw [g.2.2.2]; exact h.2.2.1, fun i hi => by rw [g.1 1 i (by decide)]; exact h.2.2.2 i hi⟩
theorem c_byteAt {p : Int32} {a : Nat} (h : TXC ch n X) (hp : p.toInt = a) : pw (g_Tokens_byteAt p X) (fun r Y => Y = X ∧ r.toInt = ch a) := by
  unfold g_Tokens_byteAt
  refine pw_ite (fun c => by exfalso; omega) (fun _ => ?_)
  refine pw_let ?_
  refine pw_ite (fun c => ?_) (fun c => ?_)
  · refine pw_ret ⟨rfl, ?_⟩
    rw [h.2.2.1] at c
    rw [h.1.2.1 a (by omega)]
    rfl
  · refine pw_ck (fun _ => ?_)
    refine pw_to (w := 1) (by rw [h.2.1]) ?_
    refine pw_ck (fun _ => ?_)
    refine pw_let ?_
    refine pw_let ?_
    refine pw_ret ⟨rfl, ?_⟩
    rw [h.2.2.1] at c
    rw [ixn hp]
    exact h.2.2.2 a (by omega)
/-- a truth as the class tells it -/
def zB (r : Int32) (b : Bool) : Prop := (r.toInt = 0 ∧ b = false) ∨ (¬ r.toInt = 0 ∧ b = true)
theorem zB.t {r : Int32} {b : Bool} (h : zB r b) (c : ¬ r.toInt = 0) : b = true := by
  rcases h with h | h
  · exact absurd h.1 c
  · exact h.2
theorem zB.f {r : Int32} {b : Bool} (h : zB r b) (c : r.toInt = 0) : b = false := by
  rcases h with h | h
  · exact h.2
  · exact absurd c h.1
theorem c_isLetter (p : Int32) (X : St) : pw (g_Tokens_isLetter p X) (fun r Y => Y = X ∧ zB r (isLt p.toInt)) := by
  have h12 : ¬ (97 ≤ p.toInt ∧ p.toInt ≤ 122) → pw (g_Tokens_isLetter_12 p X) (fun r Y => Y = X ∧ zB r (isLt p.toInt)) := by
    intro hn
    unfold g_Tokens_isLetter_12
    refine pw_ite (fun c => pw_ret ⟨rfl, Or.inl ⟨rfl, nb.mpr (fun g => ?_)⟩⟩) (fun c => pw_ite (fun c1 => pw_ret ⟨rfl, Or.inl ⟨rfl, nb.mpr (fun g => ?_)⟩⟩) (fun c1 => pw_ret ⟨rfl, Or.inr ⟨by decide, ?_⟩⟩))
    · have := (isLt_iff _).mp g; omega
    · have := (isLt_iff _).mp g; omega
    · exact (isLt_iff _).mpr (Or.inr (by omega))
  unfold g_Tokens_isLetter
  refine pw_ite (fun c => h12 (by omega)) (fun c => pw_ite (fun c1 => pw_ret ⟨rfl, Or.inr ⟨by decide, (isLt_iff _).mpr (Or.inl (by omega))⟩⟩) (fun c1 => h12 (by omega)))
theorem c_isDigit (p : Int32) (X : St) : pw (g_Tokens_isDigit p X) (fun r Y => Y = X ∧ zB r (isDg p.toInt)) := by
  unfold g_Tokens_isDigit
  refine pw_ite (fun c => pw_ret ⟨rfl, Or.inl ⟨rfl, nb.mpr (fun g => ?_)⟩⟩) (fun c => pw_ite (fun c1 => pw_ret ⟨rfl, Or.inl ⟨rfl, nb.mpr (fun g => ?_)⟩⟩) (fun c1 => pw_ret ⟨rfl, Or.inr ⟨by decide, (isDg_iff _).mpr (by omega)⟩⟩))
  · have := (isDg_iff _).mp g; omega
  · have := (isDg_iff _).mp g; omega
theorem WL_lt : ∀ w ∈ WL, (∀ x ∈ w, isLt x = true) ∧ w.length ≤ 8 := by decide
theorem WRD_is : ∀ j, j < 15 → WRD j = lN (p8 (WL.getD j [])) := by decide +kernel
theorem WL_drop {j : Nat} (h : j < 15) : WL.drop j = WL.getD j [] :: WL.drop (j + 1) := by
  have h1 : j < WL.length := h
  rw [List.drop_eq_getElem_cons h1, List.getD_eq_getElem?_getD, List.getElem?_eq_getElem h1]
  rfl
theorem c_wordType {l : Nm} (hl : LT l) (h8 : l.length ≤ 8) (hL : X.2.1 47 5 = lN (p8 l)) : pw (g_Tokens_wordType X) (fun r Y => Y = X ∧ r.toInt = wt WL 261 l) := by
  have loop : ∀ N (i : Int32) (j : Nat), i.toInt = j → j ≤ 15 → wt WL 261 l = wt (WL.drop j) (261 + j) l → pw (g_Tokens_wordType_2 N i X) (fun r Y => Y = X ∧ r.toInt = wt WL 261 l) := by
    intro N
    unfold g_Tokens_wordType_2
    refine lp_ind (P := fun (r : Int32 → St → Option (Int32 × St)) => ∀ (i : Int32) (j : Nat), i.toInt = j → j ≤ 15 → wt WL 261 l = wt (WL.drop j) (261 + j) l → pw (r i X) (fun r Y => Y = X ∧ r.toInt = wt WL 261 l)) (fun _ _ _ _ _ => pw_none) (fun r ih i j hi hj hw => ?_) N
    unfold g_Tokens_wordType_2_s
    refine pw_ite (fun c => ?_) (fun c => ?_)
    · refine pw_ret ⟨rfl, ?_⟩
      have : j = 15 := by omega
      rw [hw, this]
      rfl
    · have hj : j < 15 := by omega
      refine pw_ck (fun _ => ?_)
      refine pw_let ?_
      refine pw_let ?_
      refine pw_let ?_
      rw [ixn hi, WRD_is j hj, hL]
      have hd := WL_drop hj
      have hm : WL.getD j [] ∈ WL := List.mem_of_mem_drop (hd ▸ List.mem_cons_self)
      have hlt := WL_lt _ hm
      rw [hd] at hw
      have hw : wt WL 261 l = (if l = WL.getD j [] then (261 + (j : Int)) else wt (WL.drop (j + 1)) (261 + (j : Int) + 1) l) := hw
      refine pw_ite (fun c1 => ?_) (fun c1 => ?_)
      · have e := (cmp0 _ _).mp c1
        have e1 := (pk_lEQ (p8_lt hlt.1 hlt.2) (p8_lt hl h8)).mp e
        have e2 := p8_inj hlt.1 hl e1
        rw [if_pos e2.symm] at hw
        refine pw_let ?_
        refine pw_ret ⟨rfl, ?_⟩
        have h261 : ((261 : Int32)).toInt = 261 := by decide
        rw [ti_add (by rw [h261]; omega) (by rw [h261]; omega), h261, hw, hi]
      · have hne : ¬ l = WL.getD j [] := fun g => c1 ((cmp0 _ _).mpr (by rw [g]))
        rw [if_neg hne] at hw
        refine pw_let ?_
        refine ih _ (j + 1) (by rw [i1 (by omega), hi]; rfl) (by omega) ?_
        rw [hw]
        congr 1
  unfold g_Tokens_wordType
  exact loop BIG 0 0 rfl (by decide) rfl
theorem tl_add {a b : Int64} (h1 : -9223372036854775808 ≤ a.toInt + b.toInt) (h2 : a.toInt + b.toInt ≤ 9223372036854775807) : (a + b).toInt = a.toInt + b.toInt := by
  rw [Int64.toInt_add]
  exact Int.bmod_eq_of_le (by omega) (by omega)
theorem tl_sub {a b : Int64} (h1 : -9223372036854775808 ≤ a.toInt - b.toInt) (h2 : a.toInt - b.toInt ≤ 9223372036854775807) : (a - b).toInt = a.toInt - b.toInt := by
  rw [Int64.toInt_sub]
  exact Int.bmod_eq_of_le (by omega) (by omega)
theorem tl_mul {a b : Int64} (h1 : -9223372036854775808 ≤ a.toInt * b.toInt) (h2 : a.toInt * b.toInt ≤ 9223372036854775807) : (a * b).toInt = a.toInt * b.toInt := by
  rw [Int64.toInt_mul]
  exact Int.bmod_eq_of_le (by omega) (by omega)
theorem cmpL (a b : Int64) : (lg_cmp a b).toInt ≤ 0 ↔ a.toInt ≤ b.toInt := by
  rw [← Int64.le_iff_toInt_le, ← lg_cmp_le, Int32.le_iff_toInt_le]
  rfl
theorem cmpT (a b : Int64) : (lg_cmp a b).toInt < 0 ↔ a.toInt < b.toInt := by
  rw [← Int64.lt_iff_toInt_lt, ← lg_cmp_lt, Int32.lt_iff_toInt_lt]
  rfl
theorem nIi {x : Int32} {m : Nat} (h : x.toInt = m) (hm : m < 2147483648) : x = nI m := by
  apply Int32.toInt_inj.mp
  rw [h]
  exact (Int32.toInt_ofNat_of_lt hm).symm
theorem wb_tb (n : Nat) : (lN n).toBitVec = BitVec.ofNat 64 n := rfl
theorem wb_inj {a b : Int64} (h : a.toBitVec = b.toBitVec) : a = b := Int64.toBitVec_inj.mp h
theorem wb_c : ∀ k, k < 64 → ((nI k).toInt64 &&& 63) = lN k := by decide +kernel
theorem wb_sm : ∀ k, k < 64 → (BitVec.ofNat 64 k).smod 64 = BitVec.ofNat 64 k := by decide +kernel
theorem wb_shl (n : Nat) {k : Nat} (hk : k < 64) : lN n <<< ((nI k).toInt64 &&& 63) = lN (n * 2 ^ k) := by
  rw [wb_c k hk]
  apply wb_inj
  rw [Int64.toBitVec_shiftLeft, wb_tb, wb_tb, wb_tb, wb_sm k hk]
  apply BitVec.eq_of_toNat_eq
  rw [BitVec.shiftLeft_eq', BitVec.toNat_shiftLeft, BitVec.toNat_ofNat, BitVec.toNat_ofNat, BitVec.toNat_ofNat, Nat.mod_eq_of_lt (show k < 2 ^ 64 by omega), Nat.shiftLeft_eq, Nat.mul_mod, Nat.mod_mod, ← Nat.mul_mod]
theorem wb_or {a b : Nat} (ha : a < 2 ^ 64) (hb : b < 2 ^ 64) : lN a ||| lN b = lN (a ||| b) := by
  apply wb_inj
  rw [Int64.toBitVec_or, wb_tb, wb_tb, wb_tb]
  apply BitVec.eq_of_toNat_eq
  rw [BitVec.toNat_or, BitVec.toNat_ofNat, BitVec.toNat_ofNat, BitVec.toNat_ofNat, Nat.mod_eq_of_lt ha, Nat.mod_eq_of_lt hb, Nat.mod_eq_of_lt (Nat.or_lt_two_pow ha hb)]
/-- one letter more -/
theorem p8_more {l : Nm} {x : Int} {z : Int32} (hl : LT l) (h7 : l.length ≤ 7) (hx : 0 ≤ x ∧ x ≤ 255) (hz : z.toInt = x) : (lN (p8 l) <<< ((8 : Int32).toInt64 &&& 63)) ||| z.toInt64 = lN (p8 (x :: l)) := by
  have hb := p8_b l hl
  have hp : 256 ^ l.length ≤ 256 ^ 7 := Nat.pow_le_pow_right (by decide) h7
  have hv : (256 : Nat) ^ 7 = 72057594037927936 := by decide
  have h8 : p8 l < 72057594037927936 := by
    show pkr 256 Int.toNat l < _
    omega
  have e1 : lN (p8 l) <<< ((8 : Int32).toInt64 &&& 63) = lN (p8 l * 2 ^ 8) := wb_shl (p8 l) (k := 8) (by decide)
  have e2 : z = nI x.toNat := nIi (by omega) (by omega)
  rw [e1, e2, nI_l (by omega), wb_or (by omega) (by omega)]
  congr 1
  have e3 := Nat.two_pow_add_eq_or_of_lt (i := 8) (b := x.toNat) (by omega) (p8 l)
  rw [Nat.mul_comm (p8 l) (2 ^ 8), ← e3]
  show 2 ^ 8 * p8 l + x.toNat = x.toNat + 256 * p8 l
  omega
def WPost (ch : Tx) (p k : Nat) (X Y : St) : Prop := TKF X Y ∧ Y.1 47 4 = X.1 47 4 ∧ (Y.1 47 2).toInt = ((p + k : Nat) : Int) ∧ (Y.1 47 6).toInt = (k : Int) ∧ (Y.1 47 3).toInt = (if 8 < k then 260 else wt WL 261 (nmr ch p k)) ∧ (k ≤ 8 → Y.2.1 47 5 = lN (p8 (nmr ch p k)))
theorem c_word53 {X0 : St} {a : Int32} {p k : Nat} (hT : TXC ch n X) (hF : TKF X0 X) (h4 : X.1 47 4 = X0.1 47 4) (hp : (X0.1 47 4).toInt = p) (ha : a.toInt = ((p + k : Nat) : Int)) (hk : p + k ≤ n) (hl : LT (nmr ch p k)) (hL : k ≤ 8 → X.2.1 47 5 = lN (p8 (nmr ch p k))) : pw (g_Tokens_takeWord_53 a X) (fun _ Y => WPost ch p k X0 Y) := by
  have hn := hT.1.1
  have hlen := nmr_len ch p k
  unfold g_Tokens_takeWord_53
  refine pw_eq (fun X4 e4 => ?_)
  refine pw_eq (fun x5 e5 => ?_)
  refine pw_eq (fun x6 e6 => ?_)
  refine pw_eq (fun X7 e7 => ?_)
  refine pw_eq (fun x8 e8 => ?_)
  have h5 : x5.toInt = p := by rw [e5, e4, wI_ne _ _ _ _ _ _ (by decide), h4, hp]
  have h6 : x6.toInt = k := by
    rw [e6, ti_sub (by omega) (by omega)]
    omega
  have h8 : x8 = x6 := by rw [e8, e7, wI_at]
  have hF7 : TKF X0 X7 := by
    rw [e7, e4]
    exact (hF.wI 2 _ (by decide)).wI 6 _ (by decide)
  have c2 : X7.1 47 2 = a := by rw [e7, wI_ne _ _ _ _ _ _ (by decide), e4, wI_at]
  have c4 : X7.1 47 4 = X0.1 47 4 := by rw [e7, wI_ne _ _ _ _ _ _ (by decide), e4, wI_ne _ _ _ _ _ _ (by decide), h4]
  have c6 : X7.1 47 6 = x6 := by rw [e7, wI_at]
  have cL : X7.2.1 47 5 = X.2.1 47 5 := by rw [e7, e4]; rfl
  have fin : ∀ r : Int32, r.toInt = (if 8 < k then 260 else wt WL 261 (nmr ch p k)) → pw (g_Tokens_takeWord_88 r X7) (fun _ Y => WPost ch p k X0 Y) := by
    intro r hr
    unfold g_Tokens_takeWord_88
    refine pw_eq (fun X11 e11 => ?_)
    refine pw_ret ?_
    rw [e11]
    refine ⟨hF7.wI 3 _ (by decide), ?_, ?_, ?_, ?_, fun h => ?_⟩
    · rw [wI_ne _ _ _ _ _ _ (by decide), c4]
    · rw [wI_ne _ _ _ _ _ _ (by decide), c2, ha]
    · rw [wI_ne _ _ _ _ _ _ (by decide), c6, h6]
    · rw [wI_at, hr]
    · exact cL.trans (hL h)
  refine pw_ite (fun c => ?_) (fun c => ?_)
  · have hk8 : k ≤ 8 := by rw [h8, h6] at c; omega
    refine pw_bd (c_wordType hl (by omega) (cL.trans (hL hk8))) ?_
    rintro r Y ⟨rfl, hr⟩
    exact fin r (by rw [if_neg (by omega), hr])
  · have hk8 : 8 < k := by rw [h8, h6] at c; omega
    exact fin 260 (by rw [if_pos hk8]; decide)
theorem cc_word (hT : TXC ch n X) {p : Nat} (hp : (X.1 47 4).toInt = p) (hpn : p ≤ n) : pw (g_Tokens_takeWord X) (fun _ Y => WPost ch p (RN isLt ch p - p) X Y) := by
  have hn := hT.1.1
  have hno : isLt (-1) = false := by decide
  have loop : ∀ N (a : Int32) (X1 : St) (k : Nat), TXC ch n X1 → TKF X X1 → X1.1 47 4 = X.1 47 4 → a.toInt = ((p + k : Nat) : Int) → p + k ≤ n → (∀ i, p ≤ i → i < p + k → isLt (ch i) = true) → (k ≤ 8 → X1.2.1 47 5 = lN (p8 (nmr ch p k))) → pw (g_Tokens_takeWord_10 N a X1) (fun _ Y => WPost ch p (RN isLt ch p - p) X Y) := by
    intro N
    unfold g_Tokens_takeWord_10
    refine lp_ind (P := fun (r : Int32 → St → Option (Int32 × St)) => ∀ (a : Int32) (X1 : St) (k : Nat), TXC ch n X1 → TKF X X1 → X1.1 47 4 = X.1 47 4 → a.toInt = ((p + k : Nat) : Int) → p + k ≤ n → (∀ i, p ≤ i → i < p + k → isLt (ch i) = true) → (k ≤ 8 → X1.2.1 47 5 = lN (p8 (nmr ch p k))) → pw (r a X1) (fun _ Y => WPost ch p (RN isLt ch p - p) X Y)) (fun _ _ _ _ _ _ _ _ _ _ => pw_none) (fun r ih a X1 k h1 hF h4 ha hk hw hL => ?_) N
    have hl : LT (nmr ch p k) := nmr_all k hw
    have out : isLt (ch (p + k)) = false → pw (g_Tokens_takeWord_53 a X1) (fun _ Y => WPost ch p (RN isLt ch p - p) X Y) := by
      intro hx
      have e := RN_is hT.1 hno (Nat.le_add_right p k) hw hx
      have e2 : RN isLt ch p - p = k := by omega
      rw [e2]
      exact c_word53 h1 hF h4 hp ha hk hl hL
    unfold g_Tokens_takeWord_10_s
    refine pw_let ?_
    refine pw_ite (fun c => ?_) (fun c => ?_)
    · rw [h1.2.2.1] at c
      refine out ?_
      rw [hT.1.2.1 _ (by omega)]
      exact hno
    · rw [h1.2.2.1] at c
      have hkn : p + k < n := by omega
      refine pw_bd (c_byteAt h1 ha) ?_
      rintro x12 X13 ⟨rfl, hx⟩
      refine pw_bd (c_isLetter _ _) ?_
      rintro x14 X15 ⟨rfl, hz⟩
      rw [hx] at hz
      refine pw_ite (fun c1 => out (hz.f c1)) (fun c1 => ?_)
      have hlet := hz.t c1
      refine pw_let ?_
      refine pw_let ?_
      refine pw_bd (c_byteAt h1 ha) ?_
      rintro x18 X19 ⟨rfl, hx8⟩
      refine pw_let ?_
      refine pw_let ?_
      refine pw_eq (fun X22 e22 => ?_)
      refine pw_let ?_
      have hF2 : TKF X19 X22 := by rw [e22]; exact TKF.rf.wL 5 _
      refine ih _ X22 (k + 1) (h1.fr hF2) (hF.tr hF2) ?_ ?_ (by omega) (fun i i1 i2 => ?_) (fun h8 => ?_)
      · rw [e22]; exact h4
      · rw [i1 (by omega), ha]; omega
      · by_cases e : i = p + k
        · rw [e]; exact hlet
        · exact hw i i1 (by omega)
      · rw [e22, wL_at, hL (by omega)]
        exact p8_more hl (by rw [nmr_len]; omega) (hT.1.2.2 _ hkn) hx8
  unfold g_Tokens_takeWord
  refine pw_eq (fun X1 e1 => ?_)
  refine pw_eq (fun x2 e2 => ?_)
  have hF : TKF X X1 := by rw [e1]; exact TKF.rf.wL 5 _
  have h4 : X1.1 47 4 = X.1 47 4 := by rw [e1]; rfl
  refine loop BIG x2 X1 0 (hT.fr hF) hF h4 (by rw [e2, h4, hp]; rfl) hpn (fun i i1 i2 => absurd i2 (by omega)) (fun _ => ?_)
  rw [e1, wL_at]
  rfl
theorem nvr_in {ch : Tx} {p : Nat} : ∀ k, (∀ i, p ≤ i → i < p + k → 48 ≤ ch i ∧ ch i ≤ 57) → 0 ≤ nvr ch p k ∧ nvr ch p k ≤ 2147483648 := by
  intro k
  induction k with
  | zero => intro _; exact ⟨Int.le_refl 0, by show (0 : Int) ≤ _; omega⟩
  | succ k ih =>
    intro h
    have h1 := ih (fun i a b => h i a (by omega))
    have h2 := h (p + k) (by omega) (by omega)
    show 0 ≤ (if 2147483648 < 10 * nvr ch p k + (ch (p + k) - 48) then (2147483648 : Int) else 10 * nvr ch p k + (ch (p + k) - 48)) ∧ (if 2147483648 < 10 * nvr ch p k + (ch (p + k) - 48) then (2147483648 : Int) else 10 * nvr ch p k + (ch (p + k) - 48)) ≤ 2147483648
    by_cases c : 2147483648 < 10 * nvr ch p k + (ch (p + k) - 48)
    · rw [if_pos c]; omega
    · rw [if_neg c]; omega
def NPost (ch : Tx) (p k : Nat) (X Y : St) : Prop := TKF X Y ∧ Y.1 47 4 = X.1 47 4 ∧ (Y.1 47 2).toInt = ((p + k : Nat) : Int) ∧ (Y.1 47 3).toInt = 259 ∧ (Y.2.1 47 7).toInt = nvr ch p k
theorem cc_number (hT : TXC ch n X) {p : Nat} (hp : (X.1 47 4).toInt = p) (hpn : p ≤ n) : pw (g_Tokens_takeNumber X) (fun _ Y => NPost ch p (RN isDg ch p - p) X Y) := by
  have hn := hT.1.1
  have hno : isDg (-1) = false := by decide
  have loop : ∀ N (a : Int32) (X1 : St) (k : Nat), TXC ch n X1 → TKF X X1 → X1.1 47 4 = X.1 47 4 → a.toInt = ((p + k : Nat) : Int) → p + k ≤ n → (∀ i, p ≤ i → i < p + k → isDg (ch i) = true) → (X1.2.1 47 7).toInt = nvr ch p k → pw (g_Tokens_takeNumber_10 N a X1) (fun _ Y => NPost ch p (RN isDg ch p - p) X Y) := by
    intro N
    unfold g_Tokens_takeNumber_10
    refine lp_ind (P := fun (r : Int32 → St → Option (Int32 × St)) => ∀ (a : Int32) (X1 : St) (k : Nat), TXC ch n X1 → TKF X X1 → X1.1 47 4 = X.1 47 4 → a.toInt = ((p + k : Nat) : Int) → p + k ≤ n → (∀ i, p ≤ i → i < p + k → isDg (ch i) = true) → (X1.2.1 47 7).toInt = nvr ch p k → pw (r a X1) (fun _ Y => NPost ch p (RN isDg ch p - p) X Y)) (fun _ _ _ _ _ _ _ _ _ _ => pw_none) (fun r ih a X1 k h1 hF h4 ha hk hw hL => ?_) N
    have hin := nvr_in (ch := ch) k (fun i a b => (isDg_iff _).mp (hw i a b))
    have out : isDg (ch (p + k)) = false → pw (g_Tokens_takeNumber_83 a X1) (fun _ Y => NPost ch p (RN isDg ch p - p) X Y) := by
      intro hx
      have e := RN_is hT.1 hno (Nat.le_add_right p k) hw hx
      have e2 : RN isDg ch p - p = k := by omega
      rw [e2]
      unfold g_Tokens_takeNumber_83
      refine pw_eq (fun X4 e4 => ?_)
      refine pw_eq (fun X5 e5 => ?_)
      refine pw_ret ?_
      rw [e5, e4]
      refine ⟨(hF.wI 2 _ (by decide)).wI 3 _ (by decide), ?_, ?_, ?_, hL⟩
      · rw [wI_ne _ _ _ _ _ _ (by decide), wI_ne _ _ _ _ _ _ (by decide), h4]
      · rw [wI_ne _ _ _ _ _ _ (by decide), wI_at, ha]
      · rw [wI_at]; decide
    unfold g_Tokens_takeNumber_10_s
    refine pw_let ?_
    refine pw_ite (fun c => ?_) (fun c => ?_)
    · rw [h1.2.2.1] at c
      refine out ?_
      rw [hT.1.2.1 _ (by omega)]
      exact hno
    · rw [h1.2.2.1] at c
      refine pw_bd (c_byteAt h1 ha) ?_
      rintro x6 X7 ⟨rfl, hx⟩
      refine pw_bd (c_isDigit _ _) ?_
      rintro x8 X9 ⟨rfl, hz⟩
      rw [hx] at hz
      refine pw_ite (fun c1 => out (hz.f c1)) (fun c1 => ?_)
      have hdig := (isDg_iff _).mp (hz.t c1)
      refine pw_let ?_
      refine pw_eq (fun y11 e11 => ?_)
      refine pw_bd (c_byteAt h1 ha) ?_
      rintro x12 X13 ⟨rfl, hx8⟩
      refine pw_eq (fun y14 e14 => ?_)
      refine pw_eq (fun y15 e15 => ?_)
      refine pw_eq (fun y16 e16 => ?_)
      have l10 : (10 : Int64).toInt = 10 := by decide
      have l48 : (48 : Int64).toInt = 48 := by decide
      have lmx : (2147483648 : Int64).toInt = 2147483648 := by decide
      have v11 : y11.toInt = nvr ch p k * 10 := by rw [e11, tl_mul (by rw [l10, hL]; omega) (by rw [l10, hL]; omega), l10, hL]
      have v14 : y14.toInt = ch (p + k) := by rw [e14, Int32.toInt_toInt64, hx8]
      have v15 : y15.toInt = nvr ch p k * 10 + ch (p + k) := by rw [e15, tl_add (by rw [v11, v14]; omega) (by rw [v11, v14]; omega), v11, v14]
      have v16 : y16.toInt = nvr ch p k * 10 + ch (p + k) - 48 := by rw [e16, tl_sub (by rw [v15, l48]; omega) (by rw [v15, l48]; omega), v15, l48]
      refine pw_eq (fun X17 e17 => ?_)
      have hF1 : TKF X13 X17 := by rw [e17]; exact TKF.rf.wL 7 _
      have c7 : X17.2.1 47 7 = y16 := by rw [e17, wL_at]
      have go : ∀ m : Int64, m.toInt = nvr ch p (k + 1) → pw (g_Tokens_takeNumber_74 r a m X17) (fun _ Y => NPost ch p (RN isDg ch p - p) X Y) := by
        intro m hm
        unfold g_Tokens_takeNumber_74
        refine pw_eq (fun X21 e21 => ?_)
        refine pw_let ?_
        have hF2 : TKF X13 X21 := by rw [e21]; exact hF1.wL 7 _
        refine ih _ X21 (k + 1) (h1.fr hF2) (hF.tr hF2) ?_ ?_ (by omega) (fun i i1 i2 => ?_) ?_
        · rw [e21, e17]; exact h4
        · rw [i1 (by omega), ha]; omega
        · by_cases e : i = p + k
          · rw [e]; exact (isDg_iff _).mpr hdig
          · exact hw i i1 (by omega)
        · rw [e21, wL_at, hm]
      have step : nvr ch p (k + 1) = (if 2147483648 < 10 * nvr ch p k + (ch (p + k) - 48) then (2147483648 : Int) else 10 * nvr ch p k + (ch (p + k) - 48)) := rfl
      refine pw_let ?_
      refine pw_let ?_
      refine pw_ite (fun c2 => ?_) (fun c2 => ?_)
      · rw [cmpL, c7, v16, lmx] at c2
        refine pw_let ?_
        refine go _ ?_
        rw [c7, v16, step, if_neg (by omega)]
        omega
      · rw [cmpL, c7, v16, lmx] at c2
        refine go _ ?_
        rw [lmx, step, if_pos (by omega)]
  unfold g_Tokens_takeNumber
  refine pw_eq (fun X1 e1 => ?_)
  refine pw_eq (fun x2 e2 => ?_)
  have hF : TKF X X1 := by rw [e1]; exact TKF.rf.wL 7 _
  have h4 : X1.1 47 4 = X.1 47 4 := by rw [e1]; rfl
  refine loop BIG x2 X1 0 (hT.fr hF) hF h4 (by rw [e2, h4, hp]; rfl) hpn (fun i i1 i2 => absurd i2 (by omega)) ?_
  rw [e1, wL_at]
  rfl
/-- the token that stands in the class's rows is that from q on -/
def TKq (ch : Tx) (Y : St) (q : Nat) : Prop := (Y.1 47 3).toInt = ty ch q ∧ (Y.1 47 4).toInt = pl ch q ∧ (Y.1 47 2).toInt = nx ch q ∧ (ty ch q = 258 → Y.2.1 47 5 = lN (p8 (nm ch q)) ∧ (Y.1 47 6).toInt = (nm ch q).length) ∧ (ty ch q = 259 → (Y.2.1 47 7).toInt = num ch q)
theorem cc_isSign (p : Int32) (X : St) : pw (g_Tokens_isSign p X) (fun r Y => Y = X ∧ zB r (isSg p.toInt)) := by
  unfold g_Tokens_isSign
  have yes : isSg p.toInt = true → pw (some ((1 : Int32), X)) (fun r Y => Y = X ∧ zB r (isSg p.toInt)) := fun h => pw_ret ⟨rfl, Or.inr ⟨by decide, h⟩⟩
  refine pw_ite (fun c => yes ((isSg_iff _).mpr (by omega))) (fun c1 => ?_)
  refine pw_ite (fun c => yes ((isSg_iff _).mpr (by omega))) (fun c2 => ?_)
  refine pw_ite (fun c => yes ((isSg_iff _).mpr (by omega))) (fun c3 => ?_)
  refine pw_ite (fun c => yes ((isSg_iff _).mpr (by omega))) (fun c4 => ?_)
  refine pw_ite (fun c => yes ((isSg_iff _).mpr (by omega))) (fun c5 => ?_)
  refine pw_ite (fun c => yes ((isSg_iff _).mpr (by omega))) (fun c6 => ?_)
  refine pw_ite (fun c => yes ((isSg_iff _).mpr (by omega))) (fun c7 => ?_)
  refine pw_ite (fun c => yes ((isSg_iff _).mpr (by omega))) (fun c8 => ?_)
  refine pw_ite (fun c => yes ((isSg_iff _).mpr (by omega))) (fun c9 => ?_)
  refine pw_ite (fun c => yes ((isSg_iff _).mpr (by omega))) (fun c10 => ?_)
  refine pw_ite (fun c => yes ((isSg_iff _).mpr (by omega))) (fun c11 => ?_)
  refine pw_ite (fun c => yes ((isSg_iff _).mpr (by omega))) (fun c12 => ?_)
  refine pw_ite (fun c => yes ((isSg_iff _).mpr (by omega))) (fun c13 => ?_)
  refine pw_ite (fun c => yes ((isSg_iff _).mpr (by omega))) (fun c14 => ?_)
  refine pw_ite (fun c => yes ((isSg_iff _).mpr (by omega))) (fun c15 => ?_)
  refine pw_ite (fun c => yes ((isSg_iff _).mpr (by omega))) (fun c16 => ?_)
  refine pw_ite (fun c => yes ((isSg_iff _).mpr (by omega))) (fun c17 => ?_)
  refine pw_ret ⟨rfl, Or.inl ⟨rfl, nb.mpr (fun g => ?_)⟩⟩
  have := (isSg_iff _).mp g
  omega
theorem cc_sign (hT : TXC ch n X) {z : Int32} {p : Nat} (hp : (X.1 47 4).toInt = p) (h2 : (X.1 47 2).toInt = ((p + 1 : Nat) : Int)) (hpn : p < n) (hz : z.toInt = ch p) : pw (g_Tokens_takeSign z X) (fun _ Y => TKF X Y ∧ Y.1 47 4 = X.1 47 4 ∧ (Y.1 47 2).toInt = (((if ch p = 58 ∧ ch (p + 1) = 61 then p + 2 else p + 1) : Nat) : Int) ∧ (Y.1 47 3).toInt = (if ch p = 58 ∧ ch (p + 1) = 61 then 256 else if isSg (ch p) = true then ch p else 260)) := by
  have hn := hT.1.1
  have one : ∀ r : Int32, ¬ (ch p = 58 ∧ ch (p + 1) = 61) → r.toInt = (if isSg (ch p) = true then ch p else 260) → pw (g_Tokens_takeSign_54 r X) (fun _ Y => TKF X Y ∧ Y.1 47 4 = X.1 47 4 ∧ (Y.1 47 2).toInt = (((if ch p = 58 ∧ ch (p + 1) = 61 then p + 2 else p + 1) : Nat) : Int) ∧ (Y.1 47 3).toInt = (if ch p = 58 ∧ ch (p + 1) = 61 then 256 else if isSg (ch p) = true then ch p else 260)) := by
    intro r hno hr
    unfold g_Tokens_takeSign_54
    refine pw_eq (fun X3 e3 => ?_)
    refine pw_ret ?_
    rw [e3, if_neg hno, if_neg hno]
    refine ⟨TKF.rf.wI 3 _ (by decide), ?_, ?_, ?_⟩
    · rw [wI_ne _ _ _ _ _ _ (by decide)]
    · rw [wI_ne _ _ _ _ _ _ (by decide), h2]
    · rw [wI_at, hr]
  have two : ¬ (ch p = 58 ∧ ch (p + 1) = 61) → pw (g_Tokens_takeSign_39 z X) (fun _ Y => TKF X Y ∧ Y.1 47 4 = X.1 47 4 ∧ (Y.1 47 2).toInt = (((if ch p = 58 ∧ ch (p + 1) = 61 then p + 2 else p + 1) : Nat) : Int) ∧ (Y.1 47 3).toInt = (if ch p = 58 ∧ ch (p + 1) = 61 then 256 else if isSg (ch p) = true then ch p else 260)) := by
    intro hno
    unfold g_Tokens_takeSign_39
    refine pw_bd (cc_isSign _ _) ?_
    rintro x1 X2 ⟨rfl, hb⟩
    rw [hz] at hb
    refine pw_ite (fun c => one 260 hno (by rw [if_neg (nb.mp (hb.f c))]; decide)) (fun c => one z hno (by rw [if_pos (hb.t c), hz]))
  unfold g_Tokens_takeSign
  refine pw_ite (fun c => ?_) (fun c => two (fun g => c (by rw [hz]; exact g.1)))
  rw [hz] at c
  refine pw_let ?_
  refine pw_eq (fun x5 e5 => ?_)
  have l1 : (1 : Int32).toInt = 1 := by decide
  have v5 : x5.toInt = ((p + 1 : Nat) : Int) := by rw [e5, ti_add (by rw [hp, l1]; omega) (by rw [hp, l1]; omega), hp, l1]; omega
  refine pw_bd (c_byteAt hT v5) ?_
  rintro x6 X7 ⟨rfl, hx⟩
  refine pw_ite (fun c1 => ?_) (fun c1 => two (fun g => c1 (by rw [hx]; exact g.2)))
  rw [hx] at c1
  refine pw_eq (fun X8 e8 => ?_)
  refine pw_eq (fun x9 e9 => ?_)
  refine pw_eq (fun x10 e10 => ?_)
  refine pw_eq (fun X11 e11 => ?_)
  have l2 : (2 : Int32).toInt = 2 := by decide
  have v9 : x9.toInt = p := by rw [e9, e8, wI_ne _ _ _ _ _ _ (by decide), hp]
  have v10 : x10.toInt = ((p + 2 : Nat) : Int) := by rw [e10, ti_add (by rw [v9, l2]; omega) (by rw [v9, l2]; omega), v9, l2]; omega
  refine pw_ret ?_
  rw [e11, e8, if_pos ⟨c, c1⟩, if_pos ⟨c, c1⟩]
  refine ⟨(TKF.rf.wI 3 _ (by decide)).wI 2 _ (by decide), ?_, ?_, ?_⟩
  · rw [wI_ne _ _ _ _ _ _ (by decide), wI_ne _ _ _ _ _ _ (by decide)]
  · rw [wI_at, v10]
  · rw [wI_ne _ _ _ _ _ _ (by decide), wI_at]; decide
theorem c_adv50 (hT : TXC ch n X) {a : Int32} {q : Nat} (ha : a.toInt = pl ch q) (hq : pl ch q ≤ n) : pw (g_Tokens_advance_50 a X) (fun _ Y => TKF X Y ∧ TKq ch Y q) := by
  have hn := hT.1.1
  have l1 : (1 : Int32).toInt = 1 := by decide
  unfold g_Tokens_advance_50
  refine pw_eq (fun X4 e4 => ?_)
  refine pw_eq (fun x5 e5 => ?_)
  refine pw_eq (fun X6 e6 => ?_)
  have v5 : x5.toInt = ((pl ch q + 1 : Nat) : Int) := by rw [e5, ti_add (by rw [ha, l1]; omega) (by rw [ha, l1]; omega), ha, l1]; omega
  have hF : TKF X X6 := by rw [e6, e4]; exact (TKF.rf.wI 4 _ (by decide)).wI 2 _ (by decide)
  have hT6 := hT.fr hF
  have c4 : (X6.1 47 4).toInt = pl ch q := by rw [e6, wI_ne _ _ _ _ _ _ (by decide), e4, wI_at, ha]
  have c2 : (X6.1 47 2).toInt = ((pl ch q + 1 : Nat) : Int) := by rw [e6, wI_at, v5]
  refine pw_bd (c_byteAt hT6 ha) ?_
  rintro x7 X8 ⟨rfl, hx⟩
  have hneg : x7.toInt = -1 ↔ ch (pl ch q) < 0 := by
    rw [hx]
    constructor
    · intro g; omega
    · intro g
      rcases Nat.lt_or_ge (pl ch q) n with h | h
      · have := hT.1.2.2 _ h
        omega
      · exact hT.1.2.1 _ h
  refine pw_ite (fun c => ?_) (fun c => ?_)
  · have h0 := hneg.mp c
    have hpn : pl ch q = n := by
      rcases Nat.lt_or_ge (pl ch q) n with h | h
      · have := hT.1.2.2 _ h
        omega
      · omega
    refine pw_eq (fun X16 e16 => ?_)
    refine pw_eq (fun x17 e17 => ?_)
    refine pw_eq (fun X18 e18 => ?_)
    have v17 : x17.toInt = n := by rw [e17, e16, wI_ne _ _ _ _ _ _ (by decide), hT6.2.2.1]
    refine pw_ret ?_
    rw [e18, e16]
    have ht : ty ch q = 257 := (ty_end hT.1).mpr h0
    refine ⟨(hF.wI 3 _ (by decide)).wI 2 _ (by decide), ?_, ?_, ?_, fun g => ?_, fun g => ?_⟩
    · rw [wI_ne _ _ _ _ _ _ (by decide), wI_at, ht]; decide
    · rw [wI_ne _ _ _ _ _ _ (by decide), wI_ne _ _ _ _ _ _ (by decide), c4]
    · rw [wI_at, v17]
      unfold nx
      rw [if_pos h0, hpn]
    · rw [ht] at g; exact absurd g (by decide)
    · rw [ht] at g; exact absurd g (by decide)
  · have h0 : ¬ ch (pl ch q) < 0 := fun g => c (hneg.mpr g)
    have hpn : pl ch q < n := ch_in hT.1 h0
    refine pw_bd (c_isLetter _ _) ?_
    rintro x9 X10 ⟨rfl, hb⟩
    rw [hx] at hb
    refine pw_ite (fun c1 => ?_) (fun c1 => ?_)
    · have h1 := nb.mp (hb.f c1)
      refine pw_bd (c_isDigit _ _) ?_
      rintro x11 X12 ⟨rfl, hd⟩
      rw [hx] at hd
      refine pw_ite (fun c3 => ?_) (fun c3 => ?_)
      · have h2 := nb.mp (hd.f c3)
        refine pw_bd (cc_sign hT6 c4 c2 hpn hx) ?_
        rintro r Y ⟨gF, g4, g2, g3⟩
        have ht : ty ch q = (if ch (pl ch q) = 58 ∧ ch (pl ch q + 1) = 61 then 256 else if isSg (ch (pl ch q)) = true then ch (pl ch q) else 260) := by
          unfold ty
          rw [if_neg h0, if_neg h1, if_neg h2]
        have hs : ty ch q = 256 ∨ ty ch q ≤ 125 ∨ ty ch q = 260 := by
          rw [ht]
          by_cases k1 : ch (pl ch q) = 58 ∧ ch (pl ch q + 1) = 61
          · rw [if_pos k1]; exact Or.inl rfl
          · rw [if_neg k1]
            by_cases k2 : isSg (ch (pl ch q)) = true
            · rw [if_pos k2]
              have := (isSg_iff _).mp k2
              omega
            · rw [if_neg k2]; exact Or.inr (Or.inr rfl)
        refine pw_ret ⟨hF.tr gF, ?_, ?_, ?_, fun g => by omega, fun g => by omega⟩
        · rw [g3, ht]
        · rw [g4, c4]
        · rw [g2]
          unfold nx
          rw [if_neg h0, if_neg h1, if_neg h2]
      · have h2 := hd.t c3
        refine pw_bd (cc_number hT6 c4 hq) ?_
        rintro r Y ⟨gF, g4, g2, g3, g7⟩
        have hge := (RN_sp (P := isDg) hT.1 (by decide) (pl ch q)).1
        have ht : ty ch q = 259 := by
          unfold ty
          rw [if_neg h0, if_neg h1, if_pos h2]
        refine pw_ret ⟨hF.tr gF, ?_, ?_, ?_, fun g => by omega, fun g => ?_⟩
        · rw [g3, ht]
        · rw [g4, c4]
        · rw [g2]
          unfold nx
          rw [if_neg h0, if_neg h1, if_pos h2]
          show ((pl ch q + (RN isDg ch (pl ch q) - pl ch q) : Nat) : Int) = ((RN isDg ch (pl ch q) : Nat) : Int)
          omega
        · exact g7
    · have h1 := hb.t c1
      refine pw_bd (cc_word hT6 c4 hq) ?_
      rintro r Y ⟨gF, g4, g2, g6, g3, g5⟩
      have hge := (RN_sp (P := isLt) hT.1 (by decide) (pl ch q)).1
      have ht : ty ch q = (if 8 < le ch q - pl ch q then 260 else wt WL 261 (nm ch q)) := by
        unfold ty
        rw [if_neg h0, if_pos h1]
      refine pw_ret ⟨hF.tr gF, ?_, ?_, ?_, fun g => ?_, fun g => ?_⟩
      · rw [g3, ht]; rfl
      · rw [g4, c4]
      · rw [g2]
        unfold nx
        rw [if_neg h0, if_pos h1]
        show ((pl ch q + (RN isLt ch (pl ch q) - pl ch q) : Nat) : Int) = ((RN isLt ch (pl ch q) : Nat) : Int)
        omega
      · have h8 : ¬ 8 < le ch q - pl ch q := by
          intro k
          rw [ht, if_pos k] at g
          exact absurd g (by decide)
        have h8 : RN isLt ch (pl ch q) - pl ch q ≤ 8 := Nat.not_lt.mp h8
        refine ⟨g5 h8, ?_⟩
        rw [g6]
        have : (nm ch q).length = RN isLt ch (pl ch q) - pl ch q := nmr_len _ _ _
        rw [this]
      · exfalso
        rw [ht] at g
        by_cases k : 8 < le ch q - pl ch q
        · rw [if_pos k] at g; exact absurd g (by decide)
        · rw [if_neg k] at g
          rcases wt_rg (nm ch q) with e | e <;> omega
theorem c_advance (hT : TXC ch n X) {q : Nat} (hq : (X.1 47 2).toInt = q) (hqn : q ≤ n) (h3 : ¬ (X.1 47 3).toInt = 260) : pw (g_Tokens_advance X) (fun _ Y => TKF X Y ∧ TKq ch Y q) := by
  have hn := hT.1.1
  have hno : isBl (-1) = false := by decide
  have loop : ∀ N (a : Int32) (b : Nat), a.toInt = b → q ≤ b → b ≤ n → (∀ i, q ≤ i → i < b → isBl (ch i) = true) → pw (g_Tokens_advance_16 N a X) (fun _ Y => TKF X Y ∧ TKq ch Y q) := by
    intro N
    unfold g_Tokens_advance_16
    refine lp_ind (P := fun (r : Int32 → St → Option (Int32 × St)) => ∀ (a : Int32) (b : Nat), a.toInt = b → q ≤ b → b ≤ n → (∀ i, q ≤ i → i < b → isBl (ch i) = true) → pw (r a X) (fun _ Y => TKF X Y ∧ TKq ch Y q)) (fun _ _ _ _ _ _ => pw_none) (fun r ih a b ha hqb hb hw => ?_) N
    have out : isBl (ch b) = false → pw (g_Tokens_advance_50 a X) (fun _ Y => TKF X Y ∧ TKq ch Y q) := by
      intro hx
      have e : b = pl ch q := RN_is hT.1 hno hqb hw hx
      exact c_adv50 hT (by rw [ha, e]) (by omega)
    have go : isBl (ch b) = true → b < n → pw (g_Tokens_advance_44 r a X) (fun _ Y => TKF X Y ∧ TKq ch Y q) := by
      intro hx hbn
      unfold g_Tokens_advance_44
      refine pw_let ?_
      refine ih _ (b + 1) (by rw [i1 (by omega), ha]; omega) (by omega) (by omega) (fun i i1 i2 => ?_)
      by_cases e : i = b
      · rw [e]; exact hx
      · exact hw i i1 (by omega)
    unfold g_Tokens_advance_16_s
    refine pw_let ?_
    refine pw_ite (fun c => ?_) (fun c => ?_)
    · rw [hT.2.2.1] at c
      refine out ?_
      rw [hT.1.2.1 _ (by omega)]
      exact hno
    · rw [hT.2.2.1] at c
      refine pw_bd (c_byteAt hT ha) ?_
      rintro x19 X20 ⟨rfl, hx⟩
      refine pw_ite (fun c1 => go ((isBl_iff _).mpr (by omega)) (by omega)) (fun c1 => ?_)
      refine pw_bd (c_byteAt hT ha) ?_
      rintro x22 X23 ⟨rfl, hx2⟩
      refine pw_ite (fun c2 => go ((isBl_iff _).mpr (by omega)) (by omega)) (fun c2 => out (nb.mpr (fun g => ?_)))
      have := (isBl_iff _).mp g
      omega
  unfold g_Tokens_advance
  refine pw_let ?_
  refine pw_neg h3 ?_
  refine pw_let ?_
  exact loop BIG _ q hq (Nat.le_refl q) hqn (fun i i1 i2 => absurd i2 (by omega))
theorem c_goTo (hT : TXC ch n X) {a : Int32} {q : Nat} (hq : a.toInt = q) (hqn : q ≤ n) : pw (g_Tokens_goTo a X) (fun _ Y => TKF X Y ∧ TKq ch Y q) := by
  unfold g_Tokens_goTo
  refine pw_eq (fun X1 e1 => ?_)
  refine pw_eq (fun X2 e2 => ?_)
  have hF : TKF X X2 := by rw [e2, e1]; exact (TKF.rf.wI 2 _ (by decide)).wI 3 _ (by decide)
  refine pw_bd (c_advance (hT.fr hF) (q := q) (by rw [e2, wI_ne _ _ _ _ _ _ (by decide), e1, wI_at, hq]) hqn (by rw [e2, wI_at]; decide)) ?_
  rintro r Y ⟨g, h⟩
  exact pw_ret ⟨hF.tr g, h⟩
end CTK
