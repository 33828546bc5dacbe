/-! the class's values: a sort and a content in one long -/
def VLs (s c : Int32) : Int64 := (s.toInt64 <<< ((32 : Int32).toInt64 &&& 63)) ||| (c.toInt64 &&& (4294967295 : Int64))
theorem vl_bv {s c : Int32} : (VLs s c).toBitVec = ((s.toBitVec.signExtend 64) <<< 32) ||| ((c.toBitVec.signExtend 64) &&& (BitVec.ofNat 64 (2 ^ 32 - 1))) := by
  have h : ((32 : Int32).toInt64 &&& 63) = 32 := by decide
  unfold VLs
  rw [h]
  rw [Int64.toBitVec_or, Int64.toBitVec_and, Int64.toBitVec_shiftLeft, Int32.toBitVec_toInt64, Int32.toBitVec_toInt64]
  rfl
theorem vl_con {s c : Int32} : (VLs s c).toInt32 = c := by
  apply Int32.toBitVec_inj.mp
  rw [Int64.toBitVec_toInt32, vl_bv]
  apply BitVec.eq_of_getLsbD_eq
  intro i hi
  have h64 : i < 64 := by omega
  rw [BitVec.getLsbD_signExtend, BitVec.getLsbD_or, BitVec.getLsbD_and, BitVec.getLsbD_shiftLeft, BitVec.getLsbD_signExtend, BitVec.getLsbD_signExtend, BitVec.getLsbD_ofNat, Nat.testBit_two_pow_sub_one]
  simp [hi, h64]
theorem vl_srt {s c : Int32} : ((VLs s c) >>> ((32 : Int32).toInt64 &&& 63)) = s.toInt64 := by
  have h : ((32 : Int32).toInt64 &&& 63) = 32 := by decide
  rw [h]
  apply Int64.toBitVec_inj.mp
  rw [Int64.toBitVec_shiftRight, vl_bv, Int32.toBitVec_toInt64]
  have e : (BitVec.smod (32 : Int64).toBitVec 64).toNat = 32 := by decide
  apply BitVec.eq_of_getLsbD_eq
  intro i hi
  rw [BitVec.sshiftRight', e, BitVec.getLsbD_sshiftRight, BitVec.getLsbD_signExtend]
  by_cases g : 32 + i < 64
  · rw [if_pos g, BitVec.getLsbD_or, BitVec.getLsbD_and, BitVec.getLsbD_shiftLeft, BitVec.getLsbD_signExtend, BitVec.getLsbD_signExtend, BitVec.getLsbD_ofNat, Nat.testBit_two_pow_sub_one]
    have q : ¬ (32 + i < 32) := by omega
    have q2 : ¬ 64 ≤ i := by omega
    have q3 : i < 32 := by omega
    have q4 : 32 + i - 32 = i := by omega
    simp [g, q, q2, q3, q4, hi]
  · rw [if_neg g]
    have q : ¬ i < 32 := by omega
    have q2 : ¬ 64 ≤ i := by omega
    rw [BitVec.msb_eq_getLsbD_last]
    rw [BitVec.getLsbD_or, BitVec.getLsbD_and, BitVec.getLsbD_shiftLeft, BitVec.getLsbD_signExtend, BitVec.getLsbD_signExtend, BitVec.getLsbD_ofNat, Nat.testBit_two_pow_sub_one]
    simp [q, q2, hi, BitVec.msb_eq_getLsbD_last]
theorem i64_32 {s : Int32} : s.toInt64.toInt32 = s := Int32.toInt32_toInt64 s
theorem i64_inj {s t : Int32} (h : s.toInt64 = t.toInt64) : s = t := by rw [← @i64_32 s, ← @i64_32 t, h]
section VLS
variable {s c v : Int32} {X Y : St} {y : Int64}
theorem l_valueOf : pw (g_Heap_valueOf s c X) (fun r Y => Y = X ∧ r = VLs s c) := by
  unfold g_Heap_valueOf
  exact pw_let (pw_let (pw_let (pw_let (pw_let (pw_ret ⟨rfl, rfl⟩)))))
theorem l_contentOf : pw (g_Heap_contentOf (VLs s c) X) (fun r Y => Y = X ∧ r = c) := by
  unfold g_Heap_contentOf
  exact pw_to vl_con (pw_ret ⟨rfl, rfl⟩)
theorem l_hsortOf : pw (g_Heap_sortOf (VLs s c) X) (fun r Y => Y = X ∧ r = s) := by
  unfold g_Heap_sortOf
  exact pw_to vl_srt (pw_to i64_32 (pw_ret ⟨rfl, rfl⟩))
/-- of a wrapped value: which wrapping -/
theorem l_wrapOf2 (h : 0 ≤ c.toInt ∧ c.toInt < (X.1 71 2).toInt) : pw (g_Heap_wrappingOf (VLs 2 c) X) (fun r Y => Y = X ∧ r = c) := by
  unfold g_Heap_wrappingOf
  refine pw_to vl_con (pw_to vl_srt (pw_eq (fun x3 e3 => pw_pos ?_ (pw_neg (by omega) (pw_let (pw_neg (by omega) (pw_ret ⟨rfl, rfl⟩)))))))
  rw [e3, cmp0]
  decide
/-- of another one -/
theorem l_wrapOfN (h : ¬ s.toInt = 2) : pw (g_Heap_wrappingOf (VLs s c) X) (fun r Y => Y = X ∧ r = -1) := by
  unfold g_Heap_wrappingOf
  refine pw_let (pw_to vl_srt (pw_eq (fun x3 e3 => pw_neg ?_ (pw_ret ⟨rfl, rfl⟩))))
  rw [e3, cmp0]
  intro z
  have z2 : s = 2 := i64_inj (z.trans (by decide))
  rw [z2] at h
  exact h (by decide)
end VLS
