/-! both tapes take the same bytes -/
/-- the k-th byte of four -/
def fb (p : Int32) (k : Nat) : Int32 := vp_nar .byte ((p >>> (Int32.ofInt (24 - 8 * (k : Int)) &&& 31)).toInt8.toInt32)
/-- four bytes behind n -/
def PUq (X Y : St) (n : Nat) (p : Int32) : Prop := ∀ i, i < n + 4 → Y.1 1 i = if i < n then X.1 1 i else fb p (i - n)
section FEED
variable {n : Nat} {X Y Z : St} {p : Int32}
theorem b32 (b : Int32) : b.toInt % 256 = (b.toBitVec.toNat : Int) % 256 := by
  have h : b.toInt = b.toBitVec.toInt := rfl
  rw [h, BitVec.toInt_eq_toNat_cond]
  split <;> omega
theorem and255 (b : Int32) : (b &&& 255).toInt = b.toInt % 256 := by
  have h1 : (b &&& 255).toBitVec.toNat = b.toBitVec.toNat % 256 := by
    rw [Int32.toBitVec_and, BitVec.toNat_and]
    exact Nat.and_two_pow_sub_one_eq_mod _ 8
  have h : (b &&& 255).toInt = (b &&& 255).toBitVec.toInt := rfl
  rw [b32, h, BitVec.toInt_eq_toNat_cond, h1]
  split <;> omega
/-- a byte told as one that may be below 0, and told from 0 on -/
theorem BY_nar (b : Int32) : BY (vp_nar .byte b) ((b &&& 255).toInt) := by
  have e : (vp_nar .byte b).toInt = b.toInt.bmod 256 := by
    show (b.toInt8.toInt32).toInt = _
    rw [Int8.toInt_toInt32, Int32.toInt_toInt8]
  rw [and255]
  unfold BY
  rw [e, Int.bmod_def]
  split <;> omega
theorem fb_0 : fb p 0 = vp_nar .byte ((p >>> ((24 : Int32) &&& 31)).toInt8.toInt32) := by
  unfold fb
  rw [show Int32.ofInt (24 - 8 * ((0 : Nat) : Int)) = (24 : Int32) from by decide]
theorem fb_1 : fb p 1 = vp_nar .byte ((p >>> ((16 : Int32) &&& 31)).toInt8.toInt32) := by
  unfold fb
  rw [show Int32.ofInt (24 - 8 * ((1 : Nat) : Int)) = (16 : Int32) from by decide]
theorem fb_2 : fb p 2 = vp_nar .byte ((p >>> ((8 : Int32) &&& 31)).toInt8.toInt32) := by
  unfold fb
  rw [show Int32.ofInt (24 - 8 * ((2 : Nat) : Int)) = (8 : Int32) from by decide]
theorem shr0 (p : Int32) : p >>> ((0 : Int32) &&& 31) = p := by
  rw [show ((0 : Int32) &&& 31) = 0 from by decide]
  exact Int32.shiftRight_zero
theorem fb_3 : fb p 3 = vp_nar .byte (p.toInt8.toInt32) := by
  unfold fb
  rw [show Int32.ofInt (24 - 8 * ((3 : Nat) : Int)) = (0 : Int32) from by decide, shr0]
theorem cl_put (h : (X.1 0 1).toInt = (n : Int)) (hn : n + 4 ≤ 3000) : pw (g_Court_putFour p X) (fun _ Y => PUq X Y n p ∧ (Y.1 0 1).toInt = ((n + 4 : Nat) : Int)) := by
  have l1 : (1 : Int32).toInt = 1 := by decide
  have l8 : (Int32.ofInt (-8)).toInt = -8 := by decide
  have loop : ∀ (M j : Nat) (a : Int32) (Z : St), j ≤ 4 → a = Int32.ofInt (24 - 8 * (j : Int)) → a.toInt = 24 - 8 * (j : Int) → (Z.1 0 1).toInt = ((n + j : Nat) : Int) → (∀ i, i < n + j → Z.1 1 i = if i < n then X.1 1 i else fb p (i - n)) → pw (g_Court_putFour_3 M p a Z) (fun _ Y => PUq X Y n p ∧ (Y.1 0 1).toInt = ((n + 4 : Nat) : Int)) := by
    intro M
    induction M with
    | zero => exact fun _ _ _ _ _ _ _ _ => pw_none
    | succ M ih =>
      intro j a Z hj ha hv h1 hB
      have e : g_Court_putFour_3 (M + 1) = g_Court_putFour_3_s (g_Court_putFour_3 M) := by
        unfold g_Court_putFour_3
        exact lp_succ _ _ _
      rw [e]
      unfold g_Court_putFour_3_s
      refine pw_ite (fun c => ?_) (fun c => ?_)
      · have e4 : j = 4 := by omega
        rw [e4] at h1 hB
        exact pw_ret ⟨hB, h1⟩
      · have hj3 : j ≤ 3 := by omega
        have st : a + Int32.ofInt (-8) = Int32.ofInt (24 - 8 * ((j + 1 : Nat) : Int)) := by
          rw [ha]
          have all : ∀ j : Nat, j < 4 → Int32.ofInt (24 - 8 * (j : Int)) + Int32.ofInt (-8) = Int32.ofInt (24 - 8 * ((j + 1 : Nat) : Int)) := by decide
          exact all j (by omega)
        have sv : (a + Int32.ofInt (-8)).toInt = 24 - 8 * ((j + 1 : Nat) : Int) := by
          rw [ti_add (by rw [hv, l8]; omega) (by rw [hv, l8]; omega), hv, l8]
          omega
        refine pw_let (pw_neg (by have : (3000 : Int32).toInt = 3000 := by decide
                                  omega) ?_)
        refine pw_let (pw_let (pw_let ?_))
        rw [ixn h1]
        refine pw_ck (fun _ => pw_eq (fun X6 e6 => pw_let (pw_eq (fun x8 e8 => pw_eq (fun X9 e9 => ?_)))))
        have k6 : X6.1 0 1 = Z.1 0 1 := by rw [e6, wI_ne _ _ _ _ _ _ (by omega)]
        have v8 : x8.toInt = ((n + (j + 1) : Nat) : Int) := by
          rw [e8, k6, ti_add (by rw [h1, l1]; omega) (by rw [h1, l1]; omega), h1, l1]
          omega
        unfold g_Court_putFour_40
        refine pw_let (ih (j + 1) _ X9 (by omega) st sv (by rw [e9, wI_at]; exact v8) (fun i hi => ?_))
        by_cases ei : i = n + j
        · rw [e9, wI_ne _ _ _ _ _ _ (by omega), e6, ei, wI_at, if_neg (by omega), Nat.add_sub_cancel_left]
          unfold fb
          rw [ha]
        · rw [e9, wI_ne _ _ _ _ _ _ (by omega), e6, wI_ne _ _ _ _ _ _ (by omega)]
          exact hB i (by omega)
  unfold g_Court_putFour
  exact loop BIG 0 24 X (by omega) (by decide) (by decide) h (fun i hi => by rw [if_pos (by omega)])
theorem rl_put (h : (X.1 0 0).toInt = (n : Int)) (hn : n + 4 ≤ 3000) : pw (f_put p X) (fun _ Y => PUq X Y n p ∧ (Y.1 0 0).toInt = ((n + 4 : Nat) : Int)) := by
  have l1 : (1 : Int32).toInt = 1 := by decide
  have l2 : (2 : Int32).toInt = 2 := by decide
  have l3 : (3 : Int32).toInt = 3 := by decide
  have l4 : (4 : Int32).toInt = 4 := by decide
  unfold f_put
  refine pw_let (pw_let (pw_let ?_))
  rw [ixn h, ← fb_0]
  refine pw_ck (fun _ => pw_eq (fun X4 e4 => ?_))
  have k4 : X4.1 0 0 = X.1 0 0 := by rw [e4, wI_ne _ _ _ _ _ _ (by omega)]
  rw [k4]
  refine pw_let (pw_eq (fun x6 e6 => pw_let (pw_let ?_)))
  have v6 : x6.toInt = ((n + 1 : Nat) : Int) := by rw [e6, ti_add (by rw [h, l1]; omega) (by rw [h, l1]; omega), h, l1]; omega
  rw [ixn v6, ← fb_1]
  refine pw_ck (fun _ => pw_eq (fun X9 e9 => ?_))
  have k9 : X9.1 0 0 = X.1 0 0 := by rw [e9, wI_ne _ _ _ _ _ _ (by omega), k4]
  rw [k9]
  refine pw_let (pw_eq (fun x11 e11 => pw_let (pw_let ?_)))
  have v11 : x11.toInt = ((n + 2 : Nat) : Int) := by rw [e11, ti_add (by rw [h, l2]; omega) (by rw [h, l2]; omega), h, l2]; omega
  rw [ixn v11, ← fb_2]
  refine pw_ck (fun _ => pw_eq (fun X14 e14 => ?_))
  have k14 : X14.1 0 0 = X.1 0 0 := by rw [e14, wI_ne _ _ _ _ _ _ (by omega), k9]
  rw [k14]
  refine pw_let (pw_eq (fun x16 e16 => pw_let ?_))
  have v16 : x16.toInt = ((n + 3 : Nat) : Int) := by rw [e16, ti_add (by rw [h, l3]; omega) (by rw [h, l3]; omega), h, l3]; omega
  rw [ixn v16, ← fb_3]
  refine pw_ck (fun _ => pw_eq (fun X18 e18 => ?_))
  have k18 : X18.1 0 0 = X.1 0 0 := by rw [e18, wI_ne _ _ _ _ _ _ (by omega), k14]
  rw [k18]
  refine pw_let (pw_eq (fun x20 e20 => pw_eq (fun X21 e21 => pw_ret ⟨fun i hi => ?_, ?_⟩)))
  · rw [e21, wI_ne _ _ _ _ _ _ (by omega)]
    by_cases i3 : i = n + 3
    · rw [e18, i3, wI_at, if_neg (by omega), Nat.add_sub_cancel_left]
    · rw [e18, wI_ne _ _ _ _ _ _ (by omega)]
      by_cases i2 : i = n + 2
      · rw [e14, i2, wI_at, if_neg (by omega), Nat.add_sub_cancel_left]
      · rw [e14, wI_ne _ _ _ _ _ _ (by omega)]
        by_cases i1 : i = n + 1
        · rw [e9, i1, wI_at, if_neg (by omega), Nat.add_sub_cancel_left]
        · rw [e9, wI_ne _ _ _ _ _ _ (by omega)]
          by_cases i0 : i = n
          · rw [e4, i0, wI_at, if_neg (by omega), Nat.sub_self]
          · rw [e4, wI_ne _ _ _ _ _ _ (by omega), if_pos (by omega)]
  · rw [e21, wI_at, e20, ti_add (by rw [h, l4]; omega) (by rw [h, l4]; omega), h, l4]
    omega
/-- the same bytes up to n -/
def EQn (n : Nat) (X Y : St) : Prop := ∀ i, i < n → X.1 1 i = Y.1 1 i
theorem EQn.put {X1 Y1 : St} (h : EQn n X Y) (a : PUq X X1 n p) (b : PUq Y Y1 n p) : EQn (n + 4) X1 Y1 := by
  intro i hi
  rw [a i hi, b i hi]
  by_cases c : i < n
  · rw [if_pos c, if_pos c]
    exact h i c
  · rw [if_neg c, if_neg c]
/-- five times four bytes -/
def FDq (X Y : St) (n : Nat) (p1 p2 p3 p4 p5 : Int32) : Prop := ∃ A1 A2 A3 A4, PUq X A1 n p1 ∧ PUq A1 A2 (n + 4) p2 ∧ PUq A2 A3 (n + 4 + 4) p3 ∧ PUq A3 A4 (n + 4 + 4 + 4) p4 ∧ PUq A4 Y (n + 4 + 4 + 4 + 4) p5
theorem EQn.fd {X1 Y1 : St} {p1 p2 p3 p4 p5 : Int32} (h : EQn n X Y) (a : FDq X X1 n p1 p2 p3 p4 p5) (b : FDq Y Y1 n p1 p2 p3 p4 p5) : EQn (n + 20) X1 Y1 := by
  obtain ⟨A1, A2, A3, A4, a1, a2, a3, a4, a5⟩ := a
  obtain ⟨B1, B2, B3, B4, b1, b2, b3, b4, b5⟩ := b
  exact ((((h.put a1 b1).put a2 b2).put a3 b3).put a4 b4).put a5 b5
theorem cl_feed {p1 p2 p3 p4 p5 : Int32} (h : (X.1 0 1).toInt = (n : Int)) (hn : n ≤ 3000) : pw (g_Court_feed p1 p2 p3 p4 p5 X) (fun _ Y => (n + 20 ≤ 3000 → FDq X Y n p1 p2 p3 p4 p5) ∧ (¬ n + 20 ≤ 3000 → Y = X)) := by
  have l20 : (20 : Int32).toInt = 20 := by decide
  have l3 : (3000 : Int32).toInt = 3000 := by decide
  unfold g_Court_feed
  refine pw_let (pw_eq (fun x2 e2 => ?_))
  have v2 : x2.toInt = (n : Int) + 20 := by rw [e2, ti_add (by rw [h, l20]; omega) (by rw [h, l20]; omega), h, l20]
  refine pw_ite (fun c => ?_) (fun c => pw_ret ⟨fun z => absurd z (by omega), fun _ => rfl⟩)
  refine pw_bd (cl_put h (by omega)) ?_
  rintro _ A1 ⟨a1, h1⟩
  refine pw_bd (cl_put h1 (by omega)) ?_
  rintro _ A2 ⟨a2, h2⟩
  refine pw_bd (cl_put h2 (by omega)) ?_
  rintro _ A3 ⟨a3, h3⟩
  refine pw_bd (cl_put h3 (by omega)) ?_
  rintro _ A4 ⟨a4, h4⟩
  refine pw_bd (cl_put h4 (by omega)) ?_
  rintro _ A5 ⟨a5, h5⟩
  exact pw_let (pw_ret ⟨fun _ => ⟨A1, A2, A3, A4, a1, a2, a3, a4, a5⟩, fun z => absurd (show n + 20 ≤ 3000 by omega) z⟩)
theorem rl_feed {p1 p2 p3 p4 p5 : Int32} (h : (X.1 0 0).toInt = (n : Int)) (hn : n ≤ 3000) : pw (f_feed p1 p2 p3 p4 p5 X) (fun _ Y => (n + 20 ≤ 3000 → FDq X Y n p1 p2 p3 p4 p5) ∧ (¬ n + 20 ≤ 3000 → Y = X)) := by
  have l20 : (20 : Int32).toInt = 20 := by decide
  have l3 : (3000 : Int32).toInt = 3000 := by decide
  unfold f_feed
  refine pw_let (pw_eq (fun x2 e2 => ?_))
  have v2 : x2.toInt = (n : Int) + 20 := by rw [e2, ti_add (by rw [h, l20]; omega) (by rw [h, l20]; omega), h, l20]
  refine pw_ite (fun c => ?_) (fun c => pw_ret ⟨fun z => absurd z (by omega), fun _ => rfl⟩)
  refine pw_bd (rl_put h (by omega)) ?_
  rintro _ A1 ⟨a1, h1⟩
  refine pw_bd (rl_put h1 (by omega)) ?_
  rintro _ A2 ⟨a2, h2⟩
  refine pw_bd (rl_put h2 (by omega)) ?_
  rintro _ A3 ⟨a3, h3⟩
  refine pw_bd (rl_put h3 (by omega)) ?_
  rintro _ A4 ⟨a4, h4⟩
  refine pw_bd (rl_put h4 (by omega)) ?_
  rintro _ A5 ⟨a5, h5⟩
  exact pw_let (pw_ret ⟨fun _ => ⟨A1, A2, A3, A4, a1, a2, a3, a4, a5⟩, fun z => absurd (show n + 20 ≤ 3000 by omega) z⟩)
end FEED
/-- the text on the tape -/
def chT (X : St) (n : Nat) (i : Nat) : Int := if i < n then (X.1 1 i &&& 255).toInt else -1
theorem chT_txt {X : St} {n : Nat} (hn : n ≤ 3000) : TXT (chT X n) n := by
  refine ⟨hn, fun i hi => if_neg (by omega), fun i hi => ?_⟩
  unfold chT
  rw [if_pos hi, and255]
  omega
theorem ok.pw1 {ρ : Type} {A : Option (ρ × St)} {R : ρ → St → Prop} (h : ok A R) : pw A R := by
  intro r X e
  obtain ⟨r1, X1, e1, h1⟩ := h
  rw [e] at e1
  have e2 := Option.some.inj e1
  rw [show r = r1 from congrArg Prod.fst e2, show X = X1 from congrArg Prod.snd e2]
  exact h1
