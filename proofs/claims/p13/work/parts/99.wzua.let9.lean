/-! letters of names -/
section LET9
variable {ch : Tx} {X : St} {l : Nm} {x : Int}
theorem wb_shr {n k : Nat} (hn : n < 2 ^ 63) (hk : k < 64) : (lN n >>> ((nI k).toInt64 &&& 63)).toInt = ((n / 2 ^ k : Nat) : Int) := by
  rw [wb_c k hk]
  have h : (lN n >>> lN k).toInt = (lN n >>> lN k).toBitVec.toInt := rfl
  rw [h, Int64.toBitVec_shiftRight, wb_tb, wb_tb, wb_sm k hk, BitVec.toInt_sshiftRight']
  have e1 : (BitVec.ofNat 64 k).toNat = k := by rw [BitVec.toNat_ofNat]; exact Nat.mod_eq_of_lt (by omega)
  have e2 : (BitVec.ofNat 64 n).toInt = (n : Int) := by
    rw [BitVec.toInt_eq_toNat_cond, BitVec.toNat_ofNat, Nat.mod_eq_of_lt (by omega)]
    exact if_pos (by omega)
  rw [e1, e2]
  show ((n >>> k : Nat) : Int) = _
  rw [Nat.shiftRight_eq_div_pow]
theorem p8_at : ∀ (l : Nm) (j : Nat), LT l → l[j]? = some x → p8 l / 256 ^ j % 256 = x.toNat := by
  intro l
  induction l with
  | nil => exact fun j _ h => absurd h.symm (by rw [List.getElem?_nil]; exact Option.some_ne_none _)
  | cons y r ih =>
    intro j hl h
    have hy := (isLt_iff y).mp (hl y (List.mem_cons_self ..))
    have e : p8 (y :: r) = y.toNat + 256 * p8 r := rfl
    cases j with
    | zero =>
      have hx : y = x := Option.some.inj h
      rw [e, Nat.pow_zero, Nat.div_one, ← hx]
      omega
    | succ j =>
      have h : r[j]? = some x := h
      have q : (y.toNat + 256 * p8 r) / 256 = p8 r := by omega
      rw [e, Nat.pow_succ, Nat.mul_comm (256 ^ j) 256, ← Nat.div_div_eq_div_mul, q]
      exact ih j (fun z hz => hl z (List.mem_cons_of_mem _ hz)) h
theorem p8_le : ∀ l : Nm, LT l → 255 * p8 l + 122 ≤ 122 * 256 ^ l.length := by
  intro l
  induction l with
  | nil => exact fun _ => by show 255 * 0 + 122 ≤ 122 * 256 ^ 0; decide
  | cons y r ih =>
    intro hl
    have hy := (isLt_iff y).mp (hl y (List.mem_cons_self ..))
    have e : p8 (y :: r) = y.toNat + 256 * p8 r := rfl
    have i := ih (fun z hz => hl z (List.mem_cons_of_mem _ hz))
    rw [e, List.length_cons, Nat.pow_succ]
    omega
theorem p8_63 (hl : LT l) (h8 : l.length ≤ 8) : p8 l < 2 ^ 63 := by
  have a := p8_le l hl
  have b : 256 ^ l.length ≤ 256 ^ 8 := Nat.pow_le_pow_right (by decide) h8
  have c : (256 : Nat) ^ 8 = 18446744073709551616 := by decide
  omega
theorem byte_at {j : Nat} {x9 : Int32} (hl : LT l) (h8 : l.length ≤ 8) (h9 : x9.toInt = 8 * (j : Int)) (hx : l[j]? = some x) : (((lN (p8 l)) >>> (x9.toInt64 &&& 63)).toInt32 &&& 255).toInt = x := by
  have hj := (List.getElem?_eq_some_iff.mp hx).1
  have hy := (isLt_iff x).mp (hl x (List.mem_of_getElem? hx))
  have e9 : x9 = nI (8 * j) := nIi (by omega) (by omega)
  have hv := wb_shr (n := p8 l) (k := 8 * j) (p8_63 hl h8) (by omega)
  have hp : (2 : Nat) ^ (8 * j) = 256 ^ j := by rw [Nat.pow_mul]
  have ha := p8_at l j hl hx
  rw [and255, Int64.toInt_toInt32, e9, hv, hp]
  have hm : (((p8 l / 256 ^ j : Nat) : Int)) % 256 = ((x.toNat : Nat) : Int) := by rw [← ha]; omega
  rw [Int.bmod_def]
  split <;> omega
/-- a name's letters -/
theorem nmr_at (a : Nat) : ∀ (k i : Nat), i < k → (nmr ch a k)[k - 1 - i]? = some (ch (a + i)) := by
  intro k
  induction k with
  | zero => exact fun i h => absurd h (Nat.not_lt_zero _)
  | succ k ih =>
    intro i hi
    by_cases z : i = k
    · rw [z, show k + 1 - 1 - k = 0 by omega]
      rfl
    · rw [show k + 1 - 1 - i = (k - 1 - i) + 1 by omega]
      exact ih i (by omega)
/-- where a name stands -/
def NPo (ch : Tx) (p : Pt) : Prop := p.2.2.1 = nmr ch p.2.1 p.2.2.1.length
theorem sParts_np : ∀ (k : Nat) (ps : List Pt) (q : Nat) (c : List Ins) (ps1 : List Pt) (c1 : List Ins), (∀ p ∈ ps, NPo ch p) → sParts ch k ps q c = some (ps1, c1) → ∀ p ∈ ps1, NPo ch p := by
  intro k
  induction k with
  | zero => exact fun ps q c ps1 c1 _ h => absurd h.symm (Option.some_ne_none _)
  | succ k ih =>
    intro ps q c ps1 c1 hp h
    rw [sParts] at h
    by_cases c1' : ty ch q = 261
    · rw [if_pos c1'] at h
      by_cases c2 : ps.length < 40
      · rw [if_pos c2] at h
        obtain ⟨r, h1, h2⟩ := Option.bind_eq_some_iff.mp h
        refine ih _ _ _ _ _ (fun p hpp => ?_) h2
        rcases List.mem_append.mp hpp with z | z
        · exact hp p z
        · rw [List.mem_singleton.mp z]
          unfold sPart at h1
          obtain ⟨q2, _, h1⟩ := Option.bind_eq_some_iff.mp h1
          obtain ⟨pr, _, h1⟩ := Option.bind_eq_some_iff.mp h1
          obtain ⟨ow, _, h1⟩ := Option.bind_eq_some_iff.mp h1
          obtain ⟨r2, _, h1⟩ := Option.bind_eq_some_iff.mp h1
          obtain ⟨s, _, h1⟩ := Option.bind_eq_some_iff.mp h1
          have e := congrArg Prod.fst (Option.some.inj h1)
          rw [← e]
          show nm ch (nx ch q) = nmr ch (pl ch (nx ch q)) (nm ch (nx ch q)).length
          unfold nm
          rw [nmr_len]
      · rw [if_neg c2] at h
        exact absurd h.symm (Option.some_ne_none _)
    · rw [if_neg c1'] at h
      by_cases c3 : ty ch q = 257
      · rw [if_pos c3] at h
        have e := congrArg Prod.fst (Option.some.inj h)
        have e : ps = ps1 := e
        rw [← e]
        exact hp
      · rw [if_neg c3] at h
        exact absurd h.symm (Option.some_ne_none _)
end LET9
