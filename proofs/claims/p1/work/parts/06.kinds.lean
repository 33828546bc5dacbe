theorem dJ7_fill_53178_0 : decode cJ7_fill_53178 0 = .ok (.iconst 0, 1) := by decide +kernel
theorem dJ7_fill_53178_1 : decode cJ7_fill_53178 1 = .ok (.istore_n 2, 1) := by decide +kernel
theorem dJ7_fill_53178_2 : decode cJ7_fill_53178 2 = .ok (.aload_n 0, 1) := by decide +kernel
theorem dJ7_fill_53178_3 : decode cJ7_fill_53178 3 = .ok (.arraylength, 1) := by decide +kernel
theorem dJ7_fill_53178_4 : decode cJ7_fill_53178 4 = .ok (.istore_n 3, 1) := by decide +kernel
theorem dJ7_fill_53178_5 : decode cJ7_fill_53178 5 = .ok (.iload_n 2, 1) := by decide +kernel
theorem dJ7_fill_53178_6 : decode cJ7_fill_53178 6 = .ok (.iload_n 3, 1) := by decide +kernel
theorem dJ7_fill_53178_7 : decode cJ7_fill_53178 7 = .ok (.if_icmp .ge 13, 3) := by decide +kernel
theorem dJ7_fill_53178_10 : decode cJ7_fill_53178 10 = .ok (.aload_n 0, 1) := by decide +kernel
theorem dJ7_fill_53178_11 : decode cJ7_fill_53178 11 = .ok (.iload_n 2, 1) := by decide +kernel
theorem dJ7_fill_53178_12 : decode cJ7_fill_53178 12 = .ok (.iload_n 1, 1) := by decide +kernel
theorem dJ7_fill_53178_13 : decode cJ7_fill_53178 13 = .ok (.iastore, 1) := by decide +kernel
theorem dJ7_fill_53178_14 : decode cJ7_fill_53178 14 = .ok (.iinc 2 1, 3) := by decide +kernel
theorem dJ7_fill_53178_17 : decode cJ7_fill_53178 17 = .ok (.goto (-12), 3) := by decide +kernel
theorem dJ7_fill_53178_20 : decode cJ7_fill_53178 20 = .ok (.return_, 1) := by decide +kernel
theorem dX3_bucketOf_0 : decode cX3_bucketOf 0 = .ok (.iload_n 0, 1) := by decide +kernel
theorem dX3_bucketOf_1 : decode cX3_bucketOf 1 = .ok (.iload_n 0, 1) := by decide +kernel
theorem dX3_bucketOf_2 : decode cX3_bucketOf 2 = .ok (.bipush 9, 2) := by decide +kernel
theorem dX3_bucketOf_4 : decode cX3_bucketOf 4 = .ok (.iushr, 1) := by decide +kernel
theorem dX3_bucketOf_5 : decode cX3_bucketOf 5 = .ok (.ixor, 1) := by decide +kernel
theorem dX3_bucketOf_6 : decode cX3_bucketOf 6 = .ok (.iload_n 0, 1) := by decide +kernel
theorem dX3_bucketOf_7 : decode cX3_bucketOf 7 = .ok (.bipush 18, 2) := by decide +kernel
theorem dX3_bucketOf_9 : decode cX3_bucketOf 9 = .ok (.iushr, 1) := by decide +kernel
theorem dX3_bucketOf_10 : decode cX3_bucketOf 10 = .ok (.ixor, 1) := by decide +kernel
theorem dX3_bucketOf_11 : decode cX3_bucketOf 11 = .ok (.sipush 511, 3) := by decide +kernel
theorem dX3_bucketOf_14 : decode cX3_bucketOf 14 = .ok (.iand, 1) := by decide +kernel
theorem dX3_bucketOf_15 : decode cX3_bucketOf 15 = .ok (.ireturn, 1) := by decide +kernel
theorem dX3_codeOf_0 : decode cX3_codeOf 0 = .ok (.iload_n 1, 1) := by decide +kernel
theorem dX3_codeOf_1 : decode cX3_codeOf 1 = .ok (.ifCond .lt 20, 3) := by decide +kernel
theorem dX3_codeOf_4 : decode cX3_codeOf 4 = .ok (.iload_n 1, 1) := by decide +kernel
theorem dX3_codeOf_5 : decode cX3_codeOf 5 = .ok (.aload_n 0, 1) := by decide +kernel
theorem dX3_codeOf_6 : decode cX3_codeOf 6 = .ok (.getfield 34, 3) := by decide +kernel
theorem dX3_codeOf_9 : decode cX3_codeOf 9 = .ok (.if_icmp .ge 12, 3) := by decide +kernel
theorem dX3_codeOf_12 : decode cX3_codeOf 12 = .ok (.aload_n 0, 1) := by decide +kernel
theorem dX3_codeOf_13 : decode cX3_codeOf 13 = .ok (.getfield 21, 3) := by decide +kernel
theorem dX3_codeOf_16 : decode cX3_codeOf 16 = .ok (.iload_n 1, 1) := by decide +kernel
theorem dX3_codeOf_17 : decode cX3_codeOf 17 = .ok (.iaload, 1) := by decide +kernel
theorem dX3_codeOf_18 : decode cX3_codeOf 18 = .ok (.goto 4, 3) := by decide +kernel
theorem dX3_codeOf_21 : decode cX3_codeOf 21 = .ok (.iconst (-1), 1) := by decide +kernel
theorem dX3_codeOf_22 : decode cX3_codeOf 22 = .ok (.ireturn, 1) := by decide +kernel
theorem dX3_hasAny_0 : decode cX3_hasAny 0 = .ok (.iload_n 1, 1) := by decide +kernel
theorem dX3_hasAny_1 : decode cX3_hasAny 1 = .ok (.ifCond .lt 24, 3) := by decide +kernel
theorem dX3_hasAny_4 : decode cX3_hasAny 4 = .ok (.iload_n 1, 1) := by decide +kernel
theorem dX3_hasAny_5 : decode cX3_hasAny 5 = .ok (.aload_n 0, 1) := by decide +kernel
theorem dX3_hasAny_6 : decode cX3_hasAny 6 = .ok (.getfield 34, 3) := by decide +kernel
theorem dX3_hasAny_9 : decode cX3_hasAny 9 = .ok (.if_icmp .ge 16, 3) := by decide +kernel
theorem dX3_hasAny_12 : decode cX3_hasAny 12 = .ok (.aload_n 0, 1) := by decide +kernel
theorem dX3_hasAny_13 : decode cX3_hasAny 13 = .ok (.getfield 24, 3) := by decide +kernel
theorem dX3_hasAny_16 : decode cX3_hasAny 16 = .ok (.iload_n 1, 1) := by decide +kernel
theorem dX3_hasAny_17 : decode cX3_hasAny 17 = .ok (.baload, 1) := by decide +kernel
theorem dX3_hasAny_18 : decode cX3_hasAny 18 = .ok (.ifCond .eq 7, 3) := by decide +kernel
theorem dX3_hasAny_21 : decode cX3_hasAny 21 = .ok (.iconst 1, 1) := by decide +kernel
theorem dX3_hasAny_22 : decode cX3_hasAny 22 = .ok (.goto 4, 3) := by decide +kernel
theorem dX3_hasAny_25 : decode cX3_hasAny 25 = .ok (.iconst 0, 1) := by decide +kernel
theorem dX3_hasAny_26 : decode cX3_hasAny 26 = .ok (.ireturn, 1) := by decide +kernel
theorem dX3_isSame_0 : decode cX3_isSame 0 = .ok (.aload_n 0, 1) := by decide +kernel
theorem dX3_isSame_1 : decode cX3_isSame 1 = .ok (.getfield 15, 3) := by decide +kernel
theorem dX3_isSame_4 : decode cX3_isSame 4 = .ok (.iload_n 1, 1) := by decide +kernel
theorem dX3_isSame_5 : decode cX3_isSame 5 = .ok (.iaload, 1) := by decide +kernel
theorem dX3_isSame_6 : decode cX3_isSame 6 = .ok (.iload_n 2, 1) := by decide +kernel
theorem dX3_isSame_7 : decode cX3_isSame 7 = .ok (.if_icmp .ne 18, 3) := by decide +kernel
theorem dX3_isSame_10 : decode cX3_isSame 10 = .ok (.aload_n 0, 1) := by decide +kernel
theorem dX3_isSame_11 : decode cX3_isSame 11 = .ok (.getfield 18, 3) := by decide +kernel
theorem dX3_isSame_14 : decode cX3_isSame 14 = .ok (.iload_n 1, 1) := by decide +kernel
theorem dX3_isSame_15 : decode cX3_isSame 15 = .ok (.iconst 5, 1) := by decide +kernel
theorem dX3_isSame_16 : decode cX3_isSame 16 = .ok (.imul, 1) := by decide +kernel
theorem dX3_isSame_17 : decode cX3_isSame 17 = .ok (.iconst 4, 1) := by decide +kernel
theorem dX3_isSame_18 : decode cX3_isSame 18 = .ok (.iadd, 1) := by decide +kernel
theorem dX3_isSame_19 : decode cX3_isSame 19 = .ok (.iaload, 1) := by decide +kernel
theorem dX3_isSame_20 : decode cX3_isSame 20 = .ok (.iload 5, 2) := by decide +kernel
theorem dX3_isSame_22 : decode cX3_isSame 22 = .ok (.if_icmp .eq 5, 3) := by decide +kernel
theorem dX3_isSame_25 : decode cX3_isSame 25 = .ok (.iconst 0, 1) := by decide +kernel
theorem dX3_isSame_26 : decode cX3_isSame 26 = .ok (.ireturn, 1) := by decide +kernel
theorem dX3_isSame_27 : decode cX3_isSame 27 = .ok (.iconst 0, 1) := by decide +kernel
theorem dX3_isSame_28 : decode cX3_isSame 28 = .ok (.istore 6, 2) := by decide +kernel
theorem dX3_isSame_30 : decode cX3_isSame 30 = .ok (.iload 6, 2) := by decide +kernel
theorem dX3_isSame_32 : decode cX3_isSame 32 = .ok (.iload_n 2, 1) := by decide +kernel
theorem dX3_isSame_33 : decode cX3_isSame 33 = .ok (.if_icmp .ge 32, 3) := by decide +kernel
theorem dX3_isSame_36 : decode cX3_isSame 36 = .ok (.aload_n 0, 1) := by decide +kernel
theorem dX3_isSame_37 : decode cX3_isSame 37 = .ok (.getfield 18, 3) := by decide +kernel
theorem dX3_isSame_40 : decode cX3_isSame 40 = .ok (.iload_n 1, 1) := by decide +kernel
theorem dX3_isSame_41 : decode cX3_isSame 41 = .ok (.iconst 5, 1) := by decide +kernel
theorem dX3_isSame_42 : decode cX3_isSame 42 = .ok (.imul, 1) := by decide +kernel
theorem dX3_isSame_43 : decode cX3_isSame 43 = .ok (.iload 6, 2) := by decide +kernel
theorem dX3_isSame_45 : decode cX3_isSame 45 = .ok (.iadd, 1) := by decide +kernel
theorem dX3_isSame_46 : decode cX3_isSame 46 = .ok (.iaload, 1) := by decide +kernel
theorem dX3_isSame_47 : decode cX3_isSame 47 = .ok (.aload_n 3, 1) := by decide +kernel
theorem dX3_isSame_48 : decode cX3_isSame 48 = .ok (.iload 4, 2) := by decide +kernel
theorem dX3_isSame_50 : decode cX3_isSame 50 = .ok (.iload 6, 2) := by decide +kernel
theorem dX3_isSame_52 : decode cX3_isSame 52 = .ok (.iadd, 1) := by decide +kernel
theorem dX3_isSame_53 : decode cX3_isSame 53 = .ok (.iaload, 1) := by decide +kernel
theorem dX3_isSame_54 : decode cX3_isSame 54 = .ok (.if_icmp .eq 5, 3) := by decide +kernel
theorem dX3_isSame_57 : decode cX3_isSame 57 = .ok (.iconst 0, 1) := by decide +kernel
theorem dX3_isSame_58 : decode cX3_isSame 58 = .ok (.ireturn, 1) := by decide +kernel
theorem dX3_isSame_59 : decode cX3_isSame 59 = .ok (.iinc 6 1, 3) := by decide +kernel
theorem dX3_isSame_62 : decode cX3_isSame 62 = .ok (.goto (-32), 3) := by decide +kernel
theorem dX3_isSame_65 : decode cX3_isSame 65 = .ok (.iconst 1, 1) := by decide +kernel
theorem dX3_isSame_66 : decode cX3_isSame 66 = .ok (.ireturn, 1) := by decide +kernel
theorem k251 : Cond.fieldLink "BlameCourt$Kinds" 15 "BlameCourt$Kinds" "takes" "[I" ∈ gtb := gtm (in_tables_1_1 (List.mem_of_getElem? (i := 65) rfl)) rfl
theorem k252 : Cond.fieldLink "BlameCourt$Kinds" 18 "BlameCourt$Kinds" "inne\x72" "[I" ∈ gtb := gtm (in_tables_1_1 (List.mem_of_getElem? (i := 66) rfl)) rfl
theorem k253 : Cond.fieldLink "BlameCourt$Kinds" 21 "BlameCourt$Kinds" "code" "[I" ∈ gtb := gtm (in_tables_1_1 (List.mem_of_getElem? (i := 67) rfl)) rfl
theorem k254 : Cond.fieldLink "BlameCourt$Kinds" 24 "BlameCourt$Kinds" "hasAny" "[Z" ∈ gtb := gtm (in_tables_1_1 (List.mem_of_getElem? (i := 68) rfl)) rfl
theorem k257 : Cond.fieldLink "BlameCourt$Kinds" 34 "BlameCourt$Kinds" "count" "I" ∈ gtb := gtm (in_tables_1_1 (List.mem_of_getElem? (i := 71) rfl)) rfl
theorem k229 : Cond.code yX3_bucketOf cX3_bucketOf 1 (some .int) ∈ gtb := gtm (in_tables_1_1 (List.mem_of_getElem? (i := 43) rfl)) rfl
theorem k189 : Cond.initialized "BlameCourt$Kinds" ∈ gtb := gtm (in_tables_1_1 (List.mem_of_getElem? (i := 3) rfl)) rfl
theorem ka_X3_bucketOf : KA yX3_bucketOf cX3_bucketOf 1 (some .int) 1 := ⟨k229, k189, by decide, by decide, by decide +kernel⟩
theorem k245 : Cond.code yX3_codeOf cX3_codeOf 2 (some .int) ∈ gtb := gtm (in_tables_1_1 (List.mem_of_getElem? (i := 59) rfl)) rfl
theorem ka_X3_codeOf : KA yX3_codeOf cX3_codeOf 2 (some .int) 1 := ⟨k245, k189, by decide, by decide, by decide +kernel⟩
theorem k243 : Cond.instanceMethod yX3_codeOf ∈ gtb := gtm (in_tables_1_1 (List.mem_of_getElem? (i := 57) rfl)) rfl
theorem k244 : Cond.selects "BlameCourt$Kinds" yX3_codeOf yX3_codeOf ∈ gtb := gtm (in_tables_1_1 (List.mem_of_getElem? (i := 58) rfl)) rfl
theorem kv_X3_codeOf : KV yX3_codeOf := ⟨k243, k244⟩
theorem k237 : Cond.code yX3_hasAny cX3_hasAny 2 (some .boolean) ∈ gtb := gtm (in_tables_1_1 (List.mem_of_getElem? (i := 51) rfl)) rfl
theorem ka_X3_hasAny : KA yX3_hasAny cX3_hasAny 2 (some .boolean) 1 := ⟨k237, k189, by decide, by decide, by decide +kernel⟩
theorem k235 : Cond.instanceMethod yX3_hasAny ∈ gtb := gtm (in_tables_1_1 (List.mem_of_getElem? (i := 49) rfl)) rfl
theorem k236 : Cond.selects "BlameCourt$Kinds" yX3_hasAny yX3_hasAny ∈ gtb := gtm (in_tables_1_1 (List.mem_of_getElem? (i := 50) rfl)) rfl
theorem kv_X3_hasAny : KV yX3_hasAny := ⟨k235, k236⟩
theorem k233 : Cond.code yX3_isSame cX3_isSame 7 (some .boolean) ∈ gtb := gtm (in_tables_1_1 (List.mem_of_getElem? (i := 47) rfl)) rfl
theorem ka_X3_isSame : KA yX3_isSame cX3_isSame 7 (some .boolean) 5 := ⟨k233, k189, by decide, by decide, by decide +kernel⟩
theorem k232 : Cond.instanceMethod yX3_isSame ∈ gtb := gtm (in_tables_1_1 (List.mem_of_getElem? (i := 46) rfl)) rfl
theorem k1 : Cond.selects "BlameCourt$Kinds" yX3_isSame yX3_isSame ∈ gtb := gtm (in_lw_privs_1 (q := (yX3_isSame, 8)) (List.mem_of_getElem? (i := 1) rfl)) rfl
theorem kv_X3_isSame : KV yX3_isSame := ⟨k232, k1⟩
theorem k222 : Cond.code yJ7_fill_53178 cJ7_fill_53178 4 none ∈ gtb := gtm (in_tables_1_1 (List.mem_of_getElem? (i := 36) rfl)) rfl
theorem k190 : Cond.initialized "java/util/Arrays" ∈ gtb := gtm (in_tables_1_1 (List.mem_of_getElem? (i := 4) rfl)) rfl
theorem ka_J7_fill_53178 : KA yJ7_fill_53178 cJ7_fill_53178 4 none 2 := ⟨k222, k190, by decide, by decide, by decide +kernel⟩
/-- numbers of the kinds' table -/
theorem nI_mul (a b : Nat) : nI a * nI b = nI (a * b) := (Int32.ofNat_mul a b).symm
theorem nI_m1 (k : Nat) : ¬ nI k = -1 ∨ 2147483648 ≤ k := by
  by_cases h : k < 2 ^ 31
  · refine Or.inl (fun q => ?_)
    have a := nI_toInt h
    rw [q] at a
    have e : (-1 : Int32).toInt = -1 := by decide
    omega
  · exact Or.inr (by omega)
theorem and511 (x : Int32) : ∃ b : Nat, b < 512 ∧ x &&& 511 = nI b := by
  refine ⟨(x &&& 511).toBitVec.toNat, ?_, ?_⟩
  · rw [Int32.toBitVec_and, BitVec.toNat_and]
    exact Nat.lt_of_le_of_lt Nat.and_le_right (by decide)
  · apply Int32.toBitVec_inj.mp
    apply BitVec.eq_of_toNat_eq
    have h : (x &&& 511).toBitVec.toNat < 2 ^ 32 := BitVec.isLt _
    show _ = (Int32.ofNat _).toBitVec.toNat
    rw [Int32.toBitVec_ofNat', BitVec.toNat_ofNat, Nat.mod_eq_of_lt h]
/-- an entry of the buckets: none, or a kind -/
def kiv (cnt : Nat) (x : Int32) : Prop := x = -1 ∨ ∃ k : Nat, k < cnt ∧ x = nI k
def KI (cnt : Nat) (bk nx : Nat → Int32) : Prop := (∀ b, b < 512 → kiv cnt (bk b)) ∧ ∀ k, k < cnt → kiv cnt (nx k)
theorem kiv.mono {a b : Nat} {x : Int32} (h : kiv a x) (hab : a ≤ b) : kiv b x := h.imp id (fun ⟨k, h1, h2⟩ => ⟨k, Nat.lt_of_lt_of_le h1 hab, h2⟩)
theorem KI.ins {cnt b : Nat} {bk nx : Nat → Int32} (h : KI cnt bk nx) (hb : b < 512) : KI (cnt + 1) (upd bk b (nI cnt)) (upd nx cnt (bk b)) := by
  refine ⟨fun j hj => ?_, fun k hk => ?_⟩
  · unfold upd
    split
    · exact Or.inr ⟨cnt, by omega, rfl⟩
    · exact (h.1 j hj).mono (by omega)
  · unfold upd
    split
    · exact (h.1 b hb).mono (by omega)
    · exact (h.2 k (by omega)).mono (by omega)
theorem nI_tc {k : Nat} (h : k < 2147483648) : (nI k).toNatClampNeg = k := nI_clamp (by omega)
theorem add_toInt {x : Int32} {j N : Nat} (h0 : 0 ≤ x.toInt) (h : x.toInt + j < N) (hN : N < 2147483648) : (x + nI j).toInt = x.toInt + j := by
  obtain ⟨a, ha, rfl⟩ := nI_of (x := x) (by rw [Int32.lt_iff_toInt_lt, Int32.toInt_zero]; omega)
  rw [nI_toInt ha] at h h0 ⊢
  rw [nI_add, nI_toInt (by omega)]
  omega
theorem vp_in_add {x : Int32} {j N : Nat} (h0 : 0 ≤ x.toInt) (h : x.toInt + j < N) (hN : N < 2147483648) : vp_in (x + nI j) N := vp_in_iff.mpr (by rw [add_toInt h0 h hN]; omega)
theorem nI_ge_lit {a : Nat} {n : Int32} (ha : a < 2147483648) (h : ¬ n ≤ nI a) : (a : Int) < n.toInt := by
  rw [Int32.le_iff_toInt_le, nI_toInt (by omega)] at h; omega
theorem nI_lt_lit {a : Nat} {n : Int32} (ha : a < 2147483648) (h : nI a < n) : (a : Int) < n.toInt := by
  rw [Int32.lt_iff_toInt_lt, nI_toInt (by omega)] at h; exact h

set_option maxHeartbeats 4000000 in
set_option maxRecDepth 100000 in
theorem c_fill (l : Launch) (dC : Nat → ClassId) (dI : Nat → Nat → Nat) (q : Nat) (cA : ClassId) (n : Nat) (f : Nat → Int32) (v : Int32) (sz : Nat) (hn : n < 2147483648) : Met l yJ7_fill_53178 (wsOf yJ7_fill_53178 cJ7_fill_53178 4 none) ({ frames := 6, cells := 0, slots := 0, locals := 90 } : Room) (va_Pc [.ref q, .int v] (PB dC dI sz [(q, .inl (cA, n, .inl f))] [(cA, .int)])) (va_Qv (S := (Nat → Int32)) (fun x => ∀ j, j < n → x j = v) (fun x t => PW dC dI (va_A [(q, .inl (cA, n, .inl f))] sz) ([(q, .inl (cA, n, .inl x))]) ([(cA, .int)]) t) (va_A [(q, .inl (cA, n, .inl f))] sz)) 0 0 (va_A [(q, .inl (cA, n, .inl f))] sz) := by
  refine mbody (y := yJ7_fill_53178) (av := [.ref q, .int v]) (b := cJ7_fill_53178) (n := 4) (ret := none) (Qc := fun A => (va_Qv (S := (Nat → Int32)) (fun x => ∀ j, j < n → x j = v) (fun x t => PW dC dI A ([(q, .inl (cA, n, .inl x))]) ([(cA, .int)]) t) A)) (by decide) (Nat.le_of_ble_eq_true rfl) ?_
  intro p e s m below meth c ls A H hf hr hin hlk hw hl
  have hl : lv_has ls 4 [(0, .ref q), (1, .int v)] := hl
  refine lv_iconst (v := 0) hf.1 hf.2.1 dJ7_fill_53178_0 (by decide) ?_
  refine lv_istore_n (lv' := [(2, .int 0), (0, .ref q), (1, .int v)]) hf.1 hf.2.1 dJ7_fill_53178_1 rfl hl (by decide) rfl (fun ls hl => ?_)
  refine lv_aload_n hf.1 hf.2.1 dJ7_fill_53178_2 rfl (lv_at hl 1 rfl) ?_
  refine malen hf hw 0 0 rfl rfl (v := nI n) rfl dJ7_fill_53178_3 ?_
  refine lv_istore_n (lv' := [(3, .int (nI n)), (2, .int 0), (0, .ref q), (1, .int v)]) hf.1 hf.2.1 dJ7_fill_53178_4 rfl hl (by decide) rfl (fun ls hl => ?_)
  have loop : ∀ (N : Nat) (i : Nat) (g : Nat → Int32) (H : Heap) (locs : List Loc) (ls : Array Slot), n - i < N → i ≤ n → (∀ j, j < i → g j = v) → Wd dC dI A [(q, .inl (cA, n, .inl g))] [(cA, .int)] s H locs → lv_has ls 4 [(3, .int (nI n)), (2, .int (nI i)), (0, .ref q), (1, .int v)] → W p l e ({ frames := 6, cells := 0, slots := 0, locals := 90 } : Room) s m [.ref q, .int v].toArray below meth c H locs 0 0 (MQ below (va_Qv (S := (Nat → Int32)) (fun x => ∀ j, j < n → x j = v) (fun x t => PW dC dI A ([(q, .inl (cA, n, .inl x))]) ([(cA, .int)]) t) A) [.ref q, .int v].toArray s 0 0 A) (F0 m 5 ls []) := by
    intro N
    induction N with
    | zero => intro i g H locs ls hm; exact absurd hm (Nat.not_lt_zero _)
    | succ N ih =>
      intro i g H locs ls hm hi hg hw hl
      refine lv_iload_n hf.1 hf.2.1 dJ7_fill_53178_5 rfl (lv_at hl 1 rfl) ?_
      refine lv_iload_n hf.1 hf.2.1 dJ7_fill_53178_6 rfl (lv_at hl 0 rfl) ?_
      refine lv_icmp_ge (tgt := 20) hf.1 hf.2.1 dJ7_fill_53178_7 (by decide) (fun c_1 => ?_) (fun c_1 => ?_)
      · exact mret_v hf hr hlk hw g (fun j hj => hg j (by have := Nat.not_lt.mp (fun q => nI_ge q (by omega) c_1); omega)) [0] [0] rfl rfl rfl (Nat.le_of_ble_eq_true rfl) (Nat.le_of_ble_eq_true rfl) dJ7_fill_53178_20
      · have hlt : i < n := by rcases Nat.lt_or_ge i n with q | q; exact q; exact absurd (nI_le q (by omega)) c_1
        refine lv_aload_n hf.1 hf.2.1 dJ7_fill_53178_10 rfl (lv_at hl 2 rfl) ?_
        refine lv_iload_n hf.1 hf.2.1 dJ7_fill_53178_11 rfl (lv_at hl 1 rfl) ?_
        refine lv_iload_n hf.1 hf.2.1 dJ7_fill_53178_12 rfl (lv_at hl 3 rfl) ?_
        refine miast hf hw 0 0 rfl rfl (vp_in_nI hlt (by omega)) dJ7_fill_53178_13 (fun f_2 ef_2 H locs hw => ?_)
        have hw : Wd dC dI A [(q, .inl (cA, n, .inl f_2))] [(cA, .int)] s H locs := hw
        obtain rfl : f_2 = upd g i v := by rw [ef_2, nI_tc (by omega)]
        obtain ⟨x_3, ex_3⟩ : ∃ y : Int32, y = (nI i) + 1 := ⟨_, rfl⟩
        refine lv_iinc (v := x_3) (lv' := [(2, .int x_3), (3, .int (nI n)), (0, .ref q), (1, .int v)]) hf.1 hf.2.1 dJ7_fill_53178_14 hl (k := 1) rfl (by rw [ex_3]; rfl) (by decide) rfl (fun ls hl => ?_)
        obtain rfl : x_3 = nI (i + 1) := by rw [ex_3, nI_1]
        refine lv_goto (tgt := 5) hf.1 hf.2.1 dJ7_fill_53178_17 (by decide) ?_
        exact ih (i + 1) (upd g i v) _ _ _ (by omega) (by omega) (fun j hj => by unfold upd; split; rfl; exact hg j (by omega)) hw (lv_sub hl [1, 0, 2, 3] rfl)
  exact loop (n + 1) 0 f _ _ _ (by omega) (Nat.zero_le _) (fun j hj => absurd hj (Nat.not_lt_zero _)) hw (lv_sub hl [0, 1, 2, 3] rfl)

set_option maxHeartbeats 4000000 in
set_option maxRecDepth 100000 in
theorem c_bucketOf (l : Launch) (dC : Nat → ClassId) (dI : Nat → Nat → Nat) (x : Int32) (sz : Nat) : Met l yX3_bucketOf (wsOf yX3_bucketOf cX3_bucketOf 1 (some .int)) ({ frames := 6, cells := 0, slots := 0, locals := 90 } : Room) (va_Pc [.int x] (PB dC dI sz [] [])) (va_Qi (S := Unit) (fun r _ => ∃ b : Nat, b < 512 ∧ r = nI b) (fun x t => PW dC dI (va_A [] sz) ([]) ([]) t) (va_A [] sz)) 0 0 (va_A [] sz) := by
  refine mbody (y := yX3_bucketOf) (av := [.int x]) (b := cX3_bucketOf) (n := 1) (ret := (some .int)) (Qc := fun A => (va_Qi (S := Unit) (fun r _ => ∃ b : Nat, b < 512 ∧ r = nI b) (fun x t => PW dC dI A ([]) ([]) t) A)) (by decide) (Nat.le_of_ble_eq_true rfl) ?_
  intro p e s m below meth c ls A H hf hr hin hlk hw hl
  have hl : lv_has ls 1 [(0, .int x)] := hl
  refine lv_iload_n hf.1 hf.2.1 dX3_bucketOf_0 rfl (lv_at hl 0 rfl) ?_
  refine lv_iload_n hf.1 hf.2.1 dX3_bucketOf_1 rfl (lv_at hl 0 rfl) ?_
  refine lv_bipush (v := 9) hf.1 hf.2.1 dX3_bucketOf_2 (by decide) ?_
  refine lv_iushr hf.1 hf.2.1 dX3_bucketOf_4 rfl ?_
  refine lv_topi (fun x_1 ex_1 => ?_)
  refine lv_ixor hf.1 hf.2.1 dX3_bucketOf_5 ?_
  refine lv_topi (fun x_2 ex_2 => ?_)
  refine lv_iload_n hf.1 hf.2.1 dX3_bucketOf_6 rfl (lv_at hl 0 rfl) ?_
  refine lv_bipush (v := 18) hf.1 hf.2.1 dX3_bucketOf_7 (by decide) ?_
  refine lv_iushr hf.1 hf.2.1 dX3_bucketOf_9 rfl ?_
  refine lv_topi (fun x_3 ex_3 => ?_)
  refine lv_ixor hf.1 hf.2.1 dX3_bucketOf_10 ?_
  refine lv_topi (fun x_4 ex_4 => ?_)
  refine lv_sipush (v := 511) hf.1 hf.2.1 dX3_bucketOf_11 (by decide) ?_
  refine lv_iand hf.1 hf.2.1 dX3_bucketOf_14 ?_
  refine lv_topi (fun x_5 ex_5 => ?_)
  obtain ⟨b, hb, eb⟩ := and511 _
  exact mret_i (v := x_5) hf hr hlk hw () ⟨b, hb, by rw [ex_5]; exact eb⟩ [] [] rfl rfl rfl (Nat.le_of_ble_eq_true rfl) (Nat.le_of_ble_eq_true rfl) dX3_bucketOf_15

set_option maxHeartbeats 4000000 in
set_option maxRecDepth 100000 in
theorem c_hasAny (l : Launch) (dC : Nat → ClassId) (dI : Nat → Nat → Nat) (h0 q1 q2 q3 q4 q5 q6 q7 : Nat) (c5 : ClassId) (f5 : Nat → Int32) (cnt : Nat) (kd : Int32) (sz : Nat) (hc : cnt ≤ 1549) : Met l yX3_hasAny (wsOf yX3_hasAny cX3_hasAny 2 (some .boolean)) ({ frames := 6, cells := 0, slots := 0, locals := 90 } : Room) (va_Pc [.ref h0, .int kd] (PB dC dI sz [(h0, .inr (3, [.int (nI cnt), .ref q1, .ref q2, .ref q3, .ref q4, .ref q5, .ref q6, .ref q7])), (q5, .inl (c5, 1549, .inl f5))] [(c5, .boolean)])) (va_Qi (S := Unit) (fun r _ => r = 0 ∨ r = 1) (fun x t => PW dC dI (va_A [(h0, .inr (3, [.int (nI cnt), .ref q1, .ref q2, .ref q3, .ref q4, .ref q5, .ref q6, .ref q7])), (q5, .inl (c5, 1549, .inl f5))] sz) ([(h0, .inr (3, [.int (nI cnt), .ref q1, .ref q2, .ref q3, .ref q4, .ref q5, .ref q6, .ref q7])), (q5, .inl (c5, 1549, .inl f5))]) ([(c5, .boolean)]) t) (va_A [(h0, .inr (3, [.int (nI cnt), .ref q1, .ref q2, .ref q3, .ref q4, .ref q5, .ref q6, .ref q7])), (q5, .inl (c5, 1549, .inl f5))] sz)) 0 0 (va_A [(h0, .inr (3, [.int (nI cnt), .ref q1, .ref q2, .ref q3, .ref q4, .ref q5, .ref q6, .ref q7])), (q5, .inl (c5, 1549, .inl f5))] sz) := by
  refine mbody (y := yX3_hasAny) (av := [.ref h0, .int kd]) (b := cX3_hasAny) (n := 2) (ret := (some .boolean)) (Qc := fun A => (va_Qi (S := Unit) (fun r _ => r = 0 ∨ r = 1) (fun x t => PW dC dI A ([(h0, .inr (3, [.int (nI cnt), .ref q1, .ref q2, .ref q3, .ref q4, .ref q5, .ref q6, .ref q7])), (q5, .inl (c5, 1549, .inl f5))]) ([(c5, .boolean)]) t) A)) (by decide) (Nat.le_of_ble_eq_true rfl) ?_
  intro p e s m below meth c ls A H hf hr hin hlk hw hl
  have hl : lv_has ls 2 [(0, .ref h0), (1, .int kd)] := hl
  refine lv_iload_n hf.1 hf.2.1 dX3_hasAny_0 rfl (lv_at hl 1 rfl) ?_
  refine lv_if_lt (tgt := 25) hf.1 hf.2.1 dX3_hasAny_1 (by decide) (fun c_1 => ?_) (fun c_1 => ?_)
  · refine lv_iconst (v := 0) hf.1 hf.2.1 dX3_hasAny_25 (by decide) ?_
    exact mret_z (v := 0) hf hr hlk (by decide) hw () (Or.inl rfl) [0, 1] [0] rfl rfl rfl (Nat.le_of_ble_eq_true rfl) (Nat.le_of_ble_eq_true rfl) dX3_hasAny_26
  · refine lv_iload_n hf.1 hf.2.1 dX3_hasAny_4 rfl (lv_at hl 1 rfl) ?_
    refine lv_aload_n hf.1 hf.2.1 dX3_hasAny_5 rfl (lv_at hl 0 rfl) ?_
    refine mget hf hw iX3 0 rfl rfl 0 (by decide) k257 rfl dX3_hasAny_6 ?_
    refine lv_icmp_ge (tgt := 25) hf.1 hf.2.1 dX3_hasAny_9 (by decide) (fun c_2 => ?_) (fun c_2 => ?_)
    · refine lv_iconst (v := 0) hf.1 hf.2.1 dX3_hasAny_25 (by decide) ?_
      exact mret_z (v := 0) hf hr hlk (by decide) hw () (Or.inl rfl) [0, 1] [0] rfl rfl rfl (Nat.le_of_ble_eq_true rfl) (Nat.le_of_ble_eq_true rfl) dX3_hasAny_26
    · obtain ⟨k, hk, rfl⟩ := nI_of c_1
      have hlt : k < 1549 := by rcases Nat.lt_or_ge k cnt with q | q; omega; exact absurd (nI_le q (by omega)) c_2
      refine lv_aload_n hf.1 hf.2.1 dX3_hasAny_12 rfl (lv_at hl 0 rfl) ?_
      refine mget hf hw iX3 0 rfl rfl 5 (by decide) k254 rfl dX3_hasAny_13 ?_
      refine lv_iload_n hf.1 hf.2.1 dX3_hasAny_16 rfl (lv_at hl 1 rfl) ?_
      refine mzald hf hw 1 0 rfl rfl (vp_in_nI hlt (by decide)) dX3_hasAny_17 ?_
      refine lv_topi (fun x_3 ex_3 => ?_)
      refine lv_if_eq (tgt := 25) hf.1 hf.2.1 dX3_hasAny_18 (by decide) (fun c_4 => ?_) (fun c_4 => ?_)
      · refine lv_iconst (v := 0) hf.1 hf.2.1 dX3_hasAny_25 (by decide) ?_
        exact mret_z (v := 0) hf hr hlk (by decide) hw () (Or.inl rfl) [0, 1] [0] rfl rfl rfl (Nat.le_of_ble_eq_true rfl) (Nat.le_of_ble_eq_true rfl) dX3_hasAny_26
      · refine lv_iconst (v := 1) hf.1 hf.2.1 dX3_hasAny_21 (by decide) ?_
        refine lv_goto (tgt := 26) hf.1 hf.2.1 dX3_hasAny_22 (by decide) ?_
        exact mret_z (v := 1) hf hr hlk (by decide) hw () (Or.inr rfl) [0, 1] [0] rfl rfl rfl (Nat.le_of_ble_eq_true rfl) (Nat.le_of_ble_eq_true rfl) dX3_hasAny_26

set_option maxHeartbeats 4000000 in
set_option maxRecDepth 100000 in
theorem c_codeOf (l : Launch) (dC : Nat → ClassId) (dI : Nat → Nat → Nat) (h0 q1 q2 q3 q4 q5 q6 q7 : Nat) (c4 : ClassId) (f4 : Nat → Int32) (cnt : Nat) (kd : Int32) (sz : Nat) (hc : cnt ≤ 1549) : Met l yX3_codeOf (wsOf yX3_codeOf cX3_codeOf 2 (some .int)) ({ frames := 6, cells := 0, slots := 0, locals := 90 } : Room) (va_Pc [.ref h0, .int kd] (PB dC dI sz [(h0, .inr (3, [.int (nI cnt), .ref q1, .ref q2, .ref q3, .ref q4, .ref q5, .ref q6, .ref q7])), (q4, .inl (c4, 1549, .inl f4))] [(c4, .int)])) (va_Qi (S := Unit) (fun _ _ => True) (fun x t => PW dC dI (va_A [(h0, .inr (3, [.int (nI cnt), .ref q1, .ref q2, .ref q3, .ref q4, .ref q5, .ref q6, .ref q7])), (q4, .inl (c4, 1549, .inl f4))] sz) ([(h0, .inr (3, [.int (nI cnt), .ref q1, .ref q2, .ref q3, .ref q4, .ref q5, .ref q6, .ref q7])), (q4, .inl (c4, 1549, .inl f4))]) ([(c4, .int)]) t) (va_A [(h0, .inr (3, [.int (nI cnt), .ref q1, .ref q2, .ref q3, .ref q4, .ref q5, .ref q6, .ref q7])), (q4, .inl (c4, 1549, .inl f4))] sz)) 0 0 (va_A [(h0, .inr (3, [.int (nI cnt), .ref q1, .ref q2, .ref q3, .ref q4, .ref q5, .ref q6, .ref q7])), (q4, .inl (c4, 1549, .inl f4))] sz) := by
  refine mbody (y := yX3_codeOf) (av := [.ref h0, .int kd]) (b := cX3_codeOf) (n := 2) (ret := (some .int)) (Qc := fun A => (va_Qi (S := Unit) (fun _ _ => True) (fun x t => PW dC dI A ([(h0, .inr (3, [.int (nI cnt), .ref q1, .ref q2, .ref q3, .ref q4, .ref q5, .ref q6, .ref q7])), (q4, .inl (c4, 1549, .inl f4))]) ([(c4, .int)]) t) A)) (by decide) (Nat.le_of_ble_eq_true rfl) ?_
  intro p e s m below meth c ls A H hf hr hin hlk hw hl
  have hl : lv_has ls 2 [(0, .ref h0), (1, .int kd)] := hl
  refine lv_iload_n hf.1 hf.2.1 dX3_codeOf_0 rfl (lv_at hl 1 rfl) ?_
  refine lv_if_lt (tgt := 21) hf.1 hf.2.1 dX3_codeOf_1 (by decide) (fun c_1 => ?_) (fun c_1 => ?_)
  · refine lv_iconst (v := (-1)) hf.1 hf.2.1 dX3_codeOf_21 (by decide) ?_
    exact mret_i (v := (-1)) hf hr hlk hw () trivial [0, 1] [0] rfl rfl rfl (Nat.le_of_ble_eq_true rfl) (Nat.le_of_ble_eq_true rfl) dX3_codeOf_22
  · refine lv_iload_n hf.1 hf.2.1 dX3_codeOf_4 rfl (lv_at hl 1 rfl) ?_
    refine lv_aload_n hf.1 hf.2.1 dX3_codeOf_5 rfl (lv_at hl 0 rfl) ?_
    refine mget hf hw iX3 0 rfl rfl 0 (by decide) k257 rfl dX3_codeOf_6 ?_
    refine lv_icmp_ge (tgt := 21) hf.1 hf.2.1 dX3_codeOf_9 (by decide) (fun c_2 => ?_) (fun c_2 => ?_)
    · refine lv_iconst (v := (-1)) hf.1 hf.2.1 dX3_codeOf_21 (by decide) ?_
      exact mret_i (v := (-1)) hf hr hlk hw () trivial [0, 1] [0] rfl rfl rfl (Nat.le_of_ble_eq_true rfl) (Nat.le_of_ble_eq_true rfl) dX3_codeOf_22
    · obtain ⟨k, hk, rfl⟩ := nI_of c_1
      have hlt : k < 1549 := by rcases Nat.lt_or_ge k cnt with q | q; omega; exact absurd (nI_le q (by omega)) c_2
      refine lv_aload_n hf.1 hf.2.1 dX3_codeOf_12 rfl (lv_at hl 0 rfl) ?_
      refine mget hf hw iX3 0 rfl rfl 4 (by decide) k253 rfl dX3_codeOf_13 ?_
      refine lv_iload_n hf.1 hf.2.1 dX3_codeOf_16 rfl (lv_at hl 1 rfl) ?_
      refine miald hf hw 1 0 rfl rfl (vp_in_nI hlt (by decide)) dX3_codeOf_17 ?_
      refine lv_topi (fun x_3 ex_3 => ?_)
      refine lv_goto (tgt := 22) hf.1 hf.2.1 dX3_codeOf_18 (by decide) ?_
      exact mret_i (v := x_3) hf hr hlk hw () trivial [0, 1] [0] rfl rfl rfl (Nat.le_of_ble_eq_true rfl) (Nat.le_of_ble_eq_true rfl) dX3_codeOf_22

set_option maxHeartbeats 4000000 in
set_option maxRecDepth 100000 in
theorem c_isSame (l : Launch) (dC : Nat → ClassId) (dI : Nat → Nat → Nat) (h0 q1 q2 q3 q4 q5 q6 q7 : Nat) (c2 c3 : ClassId) (f2 f3 : Nat → Int32) (cnt k : Nat) (n fr gi : Int32) (pr : Nat) (cp : ClassId) (NP : Nat) (fp : Nat → Int32) (sz : Nat) (hk : k < 1549) (hn4 : n.toInt ≤ 4) (hfr : 0 ≤ fr.toInt) (hfp : fr.toInt + n.toInt ≤ NP) (hNP : NP < 2147483648) : Met l yX3_isSame (wsOf yX3_isSame cX3_isSame 7 (some .boolean)) ({ frames := 6, cells := 0, slots := 0, locals := 90 } : Room) (va_Pc [.ref h0, .int (nI k), .int n, .ref pr, .int fr, .int gi] (PB dC dI sz [(h0, .inr (3, [.int (nI cnt), .ref q1, .ref q2, .ref q3, .ref q4, .ref q5, .ref q6, .ref q7])), (q2, .inl (c2, 1549, .inl f2)), (q3, .inl (c3, 7745, .inl f3)), (pr, .inl (cp, NP, .inl fp))] [(c2, .int), (c3, .int), (cp, .int)])) (va_Qi (S := Unit) (fun r _ => r = 0 ∨ r = 1) (fun x t => PW dC dI (va_A [(h0, .inr (3, [.int (nI cnt), .ref q1, .ref q2, .ref q3, .ref q4, .ref q5, .ref q6, .ref q7])), (q2, .inl (c2, 1549, .inl f2)), (q3, .inl (c3, 7745, .inl f3)), (pr, .inl (cp, NP, .inl fp))] sz) ([(h0, .inr (3, [.int (nI cnt), .ref q1, .ref q2, .ref q3, .ref q4, .ref q5, .ref q6, .ref q7])), (q2, .inl (c2, 1549, .inl f2)), (q3, .inl (c3, 7745, .inl f3)), (pr, .inl (cp, NP, .inl fp))]) ([(c2, .int), (c3, .int), (cp, .int)]) t) (va_A [(h0, .inr (3, [.int (nI cnt), .ref q1, .ref q2, .ref q3, .ref q4, .ref q5, .ref q6, .ref q7])), (q2, .inl (c2, 1549, .inl f2)), (q3, .inl (c3, 7745, .inl f3)), (pr, .inl (cp, NP, .inl fp))] sz)) 0 0 (va_A [(h0, .inr (3, [.int (nI cnt), .ref q1, .ref q2, .ref q3, .ref q4, .ref q5, .ref q6, .ref q7])), (q2, .inl (c2, 1549, .inl f2)), (q3, .inl (c3, 7745, .inl f3)), (pr, .inl (cp, NP, .inl fp))] sz) := by
  refine mbody (y := yX3_isSame) (av := [.ref h0, .int (nI k), .int n, .ref pr, .int fr, .int gi]) (b := cX3_isSame) (n := 7) (ret := (some .boolean)) (Qc := fun A => (va_Qi (S := Unit) (fun r _ => r = 0 ∨ r = 1) (fun x t => PW dC dI A ([(h0, .inr (3, [.int (nI cnt), .ref q1, .ref q2, .ref q3, .ref q4, .ref q5, .ref q6, .ref q7])), (q2, .inl (c2, 1549, .inl f2)), (q3, .inl (c3, 7745, .inl f3)), (pr, .inl (cp, NP, .inl fp))]) ([(c2, .int), (c3, .int), (cp, .int)]) t) A)) (by decide) (Nat.le_of_ble_eq_true rfl) ?_
  intro p e s m below meth c ls A H hf hr hin hlk hw hl
  have hl : lv_has ls 7 [(0, .ref h0), (1, .int (nI k)), (2, .int n), (3, .ref pr), (4, .int fr), (5, .int gi)] := hl
  refine lv_aload_n hf.1 hf.2.1 dX3_isSame_0 rfl (lv_at hl 0 rfl) ?_
  refine mget hf hw iX3 0 rfl rfl 2 (by decide) k251 rfl dX3_isSame_1 ?_
  refine lv_iload_n hf.1 hf.2.1 dX3_isSame_4 rfl (lv_at hl 1 rfl) ?_
  refine miald hf hw 1 0 rfl rfl (vp_in_nI hk (by decide)) dX3_isSame_5 ?_
  refine lv_topi (fun x_1 ex_1 => ?_)
  refine lv_iload_n hf.1 hf.2.1 dX3_isSame_6 rfl (lv_at hl 2 rfl) ?_
  refine lv_icmp_ne (tgt := 25) hf.1 hf.2.1 dX3_isSame_7 (by decide) (fun c_2 => ?_) (fun c_2 => ?_)
  · refine lv_iconst (v := 0) hf.1 hf.2.1 dX3_isSame_25 (by decide) ?_
    exact mret_z (v := 0) hf hr hlk (by decide) hw () (Or.inl rfl) [0, 1, 2, 3] [0, 1, 2] rfl rfl rfl (Nat.le_of_ble_eq_true rfl) (Nat.le_of_ble_eq_true rfl) dX3_isSame_26
  · refine lv_aload_n hf.1 hf.2.1 dX3_isSame_10 rfl (lv_at hl 0 rfl) ?_
    refine mget hf hw iX3 0 rfl rfl 3 (by decide) k252 rfl dX3_isSame_11 ?_
    refine lv_iload_n hf.1 hf.2.1 dX3_isSame_14 rfl (lv_at hl 1 rfl) ?_
    refine lv_iconst (v := 5) hf.1 hf.2.1 dX3_isSame_15 (by decide) ?_
    refine lv_imul hf.1 hf.2.1 dX3_isSame_16 ?_
    refine lv_topi (fun x_3 ex_3 => ?_)
    obtain rfl : x_3 = nI (k * 5) := by rw [ex_3]; exact nI_mul k 5
    refine lv_iconst (v := 4) hf.1 hf.2.1 dX3_isSame_17 (by decide) ?_
    refine lv_iadd hf.1 hf.2.1 dX3_isSame_18 ?_
    refine lv_topi (fun x_4 ex_4 => ?_)
    obtain rfl : x_4 = nI (k * 5 + 4) := by rw [ex_4]; exact nI_add _ 4
    refine miald hf hw 2 1 rfl rfl (vp_in_nI (by omega) (by decide)) dX3_isSame_19 ?_
    refine lv_topi (fun x_5 ex_5 => ?_)
    refine lv_iload hf.1 hf.2.1 dX3_isSame_20 (lv_at hl 5 rfl) ?_
    refine lv_icmp_eq (tgt := 27) hf.1 hf.2.1 dX3_isSame_22 (by decide) (fun c_6 => ?_) (fun c_6 => ?_)
    · refine lv_iconst (v := 0) hf.1 hf.2.1 dX3_isSame_27 (by decide) ?_
      refine lv_istore (lv' := [(6, .int 0), (0, .ref h0), (1, .int (nI k)), (2, .int n), (3, .ref pr), (4, .int fr), (5, .int gi)]) hf.1 hf.2.1 dX3_isSame_28 hl (by decide) rfl (fun ls hl => ?_)
      have loop : ∀ (N : Nat) (j : Nat) (H : Heap) (locs : List Loc) (ls : Array Slot), 5 - j < N → (j : Int) ≤ 4 → Wd dC dI A [(h0, .inr (3, [.int (nI cnt), .ref q1, .ref q2, .ref q3, .ref q4, .ref q5, .ref q6, .ref q7])), (q2, .inl (c2, 1549, .inl f2)), (q3, .inl (c3, 7745, .inl f3)), (pr, .inl (cp, NP, .inl fp))] [(c2, .int), (c3, .int), (cp, .int)] s H locs → lv_has ls 7 [(6, .int (nI j)), (0, .ref h0), (1, .int (nI k)), (2, .int n), (3, .ref pr), (4, .int fr), (5, .int gi)] → W p l e ({ frames := 6, cells := 0, slots := 0, locals := 90 } : Room) s m [.ref h0, .int (nI k), .int n, .ref pr, .int fr, .int gi].toArray below meth c H locs 0 0 (MQ below (va_Qi (S := Unit) (fun r _ => r = 0 ∨ r = 1) (fun x t => PW dC dI A ([(h0, .inr (3, [.int (nI cnt), .ref q1, .ref q2, .ref q3, .ref q4, .ref q5, .ref q6, .ref q7])), (q2, .inl (c2, 1549, .inl f2)), (q3, .inl (c3, 7745, .inl f3)), (pr, .inl (cp, NP, .inl fp))]) ([(c2, .int), (c3, .int), (cp, .int)]) t) A) [.ref h0, .int (nI k), .int n, .ref pr, .int fr, .int gi].toArray s 0 0 A) (F0 m 30 ls []) := by
        intro N
        induction N with
        | zero => intro j H locs ls hm; exact absurd hm (Nat.not_lt_zero _)
        | succ N ih =>
          intro j H locs ls hm hj4 hw hl
          refine lv_iload hf.1 hf.2.1 dX3_isSame_30 (lv_at hl 0 rfl) ?_
          refine lv_iload_n hf.1 hf.2.1 dX3_isSame_32 rfl (lv_at hl 3 rfl) ?_
          refine lv_icmp_ge (tgt := 65) hf.1 hf.2.1 dX3_isSame_33 (by decide) (fun c_7 => ?_) (fun c_7 => ?_)
          · refine lv_iconst (v := 1) hf.1 hf.2.1 dX3_isSame_65 (by decide) ?_
            exact mret_z (v := 1) hf hr hlk (by decide) hw () (Or.inr rfl) [0, 1, 2, 3] [0, 1, 2] rfl rfl rfl (Nat.le_of_ble_eq_true rfl) (Nat.le_of_ble_eq_true rfl) dX3_isSame_66
          · have hj : (j : Int) < n.toInt := nI_ge_lit (by omega) c_7
            refine lv_aload_n hf.1 hf.2.1 dX3_isSame_36 rfl (lv_at hl 1 rfl) ?_
            refine mget hf hw iX3 0 rfl rfl 3 (by decide) k252 rfl dX3_isSame_37 ?_
            refine lv_iload_n hf.1 hf.2.1 dX3_isSame_40 rfl (lv_at hl 2 rfl) ?_
            refine lv_iconst (v := 5) hf.1 hf.2.1 dX3_isSame_41 (by decide) ?_
            refine lv_imul hf.1 hf.2.1 dX3_isSame_42 ?_
            refine lv_topi (fun x_8 ex_8 => ?_)
            obtain rfl : x_8 = nI (k * 5) := by rw [ex_8]; exact nI_mul k 5
            refine lv_iload hf.1 hf.2.1 dX3_isSame_43 (lv_at hl 0 rfl) ?_
            refine lv_iadd hf.1 hf.2.1 dX3_isSame_45 ?_
            refine lv_topi (fun x_9 ex_9 => ?_)
            obtain rfl : x_9 = nI (k * 5 + j) := by rw [ex_9]; exact nI_add _ j
            refine miald hf hw 2 1 rfl rfl (vp_in_nI (by omega) (by decide)) dX3_isSame_46 ?_
            refine lv_topi (fun x_10 ex_10 => ?_)
            refine lv_aload_n hf.1 hf.2.1 dX3_isSame_47 rfl (lv_at hl 4 rfl) ?_
            refine lv_iload hf.1 hf.2.1 dX3_isSame_48 (lv_at hl 5 rfl) ?_
            refine lv_iload hf.1 hf.2.1 dX3_isSame_50 (lv_at hl 0 rfl) ?_
            refine lv_iadd hf.1 hf.2.1 dX3_isSame_52 ?_
            refine lv_topi (fun x_11 ex_11 => ?_)
            refine miald hf hw 3 2 rfl rfl (by rw [ex_11]; exact vp_in_add hfr (by omega) hNP) dX3_isSame_53 ?_
            refine lv_topi (fun x_12 ex_12 => ?_)
            refine lv_icmp_eq (tgt := 59) hf.1 hf.2.1 dX3_isSame_54 (by decide) (fun c_13 => ?_) (fun c_13 => ?_)
            · obtain ⟨x_14, ex_14⟩ : ∃ y : Int32, y = (nI j) + 1 := ⟨_, rfl⟩
              refine lv_iinc (v := x_14) (lv' := [(6, .int x_14), (0, .ref h0), (1, .int (nI k)), (2, .int n), (3, .ref pr), (4, .int fr), (5, .int gi)]) hf.1 hf.2.1 dX3_isSame_59 hl (k := 0) rfl (by rw [ex_14]; rfl) (by decide) rfl (fun ls hl => ?_)
              obtain rfl : x_14 = nI (j + 1) := by rw [ex_14, nI_1]
              refine lv_goto (tgt := 30) hf.1 hf.2.1 dX3_isSame_62 (by decide) ?_
              exact ih (j + 1) _ _ _ (by omega) (by omega) hw (lv_sub hl [0, 1, 2, 3, 4, 5, 6] rfl)
            · refine lv_iconst (v := 0) hf.1 hf.2.1 dX3_isSame_57 (by decide) ?_
              exact mret_z (v := 0) hf hr hlk (by decide) hw () (Or.inl rfl) [0, 1, 2, 3] [0, 1, 2] rfl rfl rfl (Nat.le_of_ble_eq_true rfl) (Nat.le_of_ble_eq_true rfl) dX3_isSame_58
      exact loop 6 0 _ _ _ (by omega) (by omega) hw (lv_sub hl [0, 1, 2, 3, 4, 5, 6] rfl)
    · refine lv_iconst (v := 0) hf.1 hf.2.1 dX3_isSame_25 (by decide) ?_
      exact mret_z (v := 0) hf hr hlk (by decide) hw () (Or.inl rfl) [0, 1, 2, 3] [0, 1, 2] rfl rfl rfl (Nat.le_of_ble_eq_true rfl) (Nat.le_of_ble_eq_true rfl) dX3_isSame_26

set_option maxHeartbeats 4000000 in
set_option maxRecDepth 100000 in
theorem c_isSame0 (l : Launch) (dC : Nat → ClassId) (dI : Nat → Nat → Nat) (h0 q1 q2 q3 q4 q5 q6 q7 : Nat) (c2 c3 : ClassId) (f2 f3 : Nat → Int32) (cnt k : Nat) (n fr gi : Int32) (pr : Nat) (sz : Nat) (hk : k < 1549) (hn4 : n.toInt = 0) : Met l yX3_isSame (wsOf yX3_isSame cX3_isSame 7 (some .boolean)) ({ frames := 6, cells := 0, slots := 0, locals := 90 } : Room) (va_Pc [.ref h0, .int (nI k), .int n, .ref pr, .int fr, .int gi] (PB dC dI sz [(h0, .inr (3, [.int (nI cnt), .ref q1, .ref q2, .ref q3, .ref q4, .ref q5, .ref q6, .ref q7])), (q2, .inl (c2, 1549, .inl f2)), (q3, .inl (c3, 7745, .inl f3))] [(c2, .int), (c3, .int)])) (va_Qi (S := Unit) (fun r _ => r = 0 ∨ r = 1) (fun x t => PW dC dI (va_A [(h0, .inr (3, [.int (nI cnt), .ref q1, .ref q2, .ref q3, .ref q4, .ref q5, .ref q6, .ref q7])), (q2, .inl (c2, 1549, .inl f2)), (q3, .inl (c3, 7745, .inl f3))] sz) ([(h0, .inr (3, [.int (nI cnt), .ref q1, .ref q2, .ref q3, .ref q4, .ref q5, .ref q6, .ref q7])), (q2, .inl (c2, 1549, .inl f2)), (q3, .inl (c3, 7745, .inl f3))]) ([(c2, .int), (c3, .int)]) t) (va_A [(h0, .inr (3, [.int (nI cnt), .ref q1, .ref q2, .ref q3, .ref q4, .ref q5, .ref q6, .ref q7])), (q2, .inl (c2, 1549, .inl f2)), (q3, .inl (c3, 7745, .inl f3))] sz)) 0 0 (va_A [(h0, .inr (3, [.int (nI cnt), .ref q1, .ref q2, .ref q3, .ref q4, .ref q5, .ref q6, .ref q7])), (q2, .inl (c2, 1549, .inl f2)), (q3, .inl (c3, 7745, .inl f3))] sz) := by
  refine mbody (y := yX3_isSame) (av := [.ref h0, .int (nI k), .int n, .ref pr, .int fr, .int gi]) (b := cX3_isSame) (n := 7) (ret := (some .boolean)) (Qc := fun A => (va_Qi (S := Unit) (fun r _ => r = 0 ∨ r = 1) (fun x t => PW dC dI A ([(h0, .inr (3, [.int (nI cnt), .ref q1, .ref q2, .ref q3, .ref q4, .ref q5, .ref q6, .ref q7])), (q2, .inl (c2, 1549, .inl f2)), (q3, .inl (c3, 7745, .inl f3))]) ([(c2, .int), (c3, .int)]) t) A)) (by decide) (Nat.le_of_ble_eq_true rfl) ?_
  intro p e s m below meth c ls A H hf hr hin hlk hw hl
  have hl : lv_has ls 7 [(0, .ref h0), (1, .int (nI k)), (2, .int n), (3, .ref pr), (4, .int fr), (5, .int gi)] := hl
  refine lv_aload_n hf.1 hf.2.1 dX3_isSame_0 rfl (lv_at hl 0 rfl) ?_
  refine mget hf hw iX3 0 rfl rfl 2 (by decide) k251 rfl dX3_isSame_1 ?_
  refine lv_iload_n hf.1 hf.2.1 dX3_isSame_4 rfl (lv_at hl 1 rfl) ?_
  refine miald hf hw 1 0 rfl rfl (vp_in_nI hk (by decide)) dX3_isSame_5 ?_
  refine lv_topi (fun x_1 ex_1 => ?_)
  refine lv_iload_n hf.1 hf.2.1 dX3_isSame_6 rfl (lv_at hl 2 rfl) ?_
  refine lv_icmp_ne (tgt := 25) hf.1 hf.2.1 dX3_isSame_7 (by decide) (fun c_2 => ?_) (fun c_2 => ?_)
  · refine lv_iconst (v := 0) hf.1 hf.2.1 dX3_isSame_25 (by decide) ?_
    exact mret_z (v := 0) hf hr hlk (by decide) hw () (Or.inl rfl) [0, 1, 2] [0, 1] rfl rfl rfl (Nat.le_of_ble_eq_true rfl) (Nat.le_of_ble_eq_true rfl) dX3_isSame_26
  · refine lv_aload_n hf.1 hf.2.1 dX3_isSame_10 rfl (lv_at hl 0 rfl) ?_
    refine mget hf hw iX3 0 rfl rfl 3 (by decide) k252 rfl dX3_isSame_11 ?_
    refine lv_iload_n hf.1 hf.2.1 dX3_isSame_14 rfl (lv_at hl 1 rfl) ?_
    refine lv_iconst (v := 5) hf.1 hf.2.1 dX3_isSame_15 (by decide) ?_
    refine lv_imul hf.1 hf.2.1 dX3_isSame_16 ?_
    refine lv_topi (fun x_3 ex_3 => ?_)
    obtain rfl : x_3 = nI (k * 5) := by rw [ex_3]; exact nI_mul k 5
    refine lv_iconst (v := 4) hf.1 hf.2.1 dX3_isSame_17 (by decide) ?_
    refine lv_iadd hf.1 hf.2.1 dX3_isSame_18 ?_
    refine lv_topi (fun x_4 ex_4 => ?_)
    obtain rfl : x_4 = nI (k * 5 + 4) := by rw [ex_4]; exact nI_add _ 4
    refine miald hf hw 2 1 rfl rfl (vp_in_nI (by omega) (by decide)) dX3_isSame_19 ?_
    refine lv_topi (fun x_5 ex_5 => ?_)
    refine lv_iload hf.1 hf.2.1 dX3_isSame_20 (lv_at hl 5 rfl) ?_
    refine lv_icmp_eq (tgt := 27) hf.1 hf.2.1 dX3_isSame_22 (by decide) (fun c_6 => ?_) (fun c_6 => ?_)
    · refine lv_iconst (v := 0) hf.1 hf.2.1 dX3_isSame_27 (by decide) ?_
      refine lv_istore (lv' := [(6, .int 0), (0, .ref h0), (1, .int (nI k)), (2, .int n), (3, .ref pr), (4, .int fr), (5, .int gi)]) hf.1 hf.2.1 dX3_isSame_28 hl (by decide) rfl (fun ls hl => ?_)
      have loop : ∀ (N : Nat) (j : Nat) (H : Heap) (locs : List Loc) (ls : Array Slot), 5 - j < N → (j : Int) ≤ 4 → Wd dC dI A [(h0, .inr (3, [.int (nI cnt), .ref q1, .ref q2, .ref q3, .ref q4, .ref q5, .ref q6, .ref q7])), (q2, .inl (c2, 1549, .inl f2)), (q3, .inl (c3, 7745, .inl f3))] [(c2, .int), (c3, .int)] s H locs → lv_has ls 7 [(6, .int (nI j)), (0, .ref h0), (1, .int (nI k)), (2, .int n), (3, .ref pr), (4, .int fr), (5, .int gi)] → W p l e ({ frames := 6, cells := 0, slots := 0, locals := 90 } : Room) s m [.ref h0, .int (nI k), .int n, .ref pr, .int fr, .int gi].toArray below meth c H locs 0 0 (MQ below (va_Qi (S := Unit) (fun r _ => r = 0 ∨ r = 1) (fun x t => PW dC dI A ([(h0, .inr (3, [.int (nI cnt), .ref q1, .ref q2, .ref q3, .ref q4, .ref q5, .ref q6, .ref q7])), (q2, .inl (c2, 1549, .inl f2)), (q3, .inl (c3, 7745, .inl f3))]) ([(c2, .int), (c3, .int)]) t) A) [.ref h0, .int (nI k), .int n, .ref pr, .int fr, .int gi].toArray s 0 0 A) (F0 m 30 ls []) := by
        intro N
        induction N with
        | zero => intro j H locs ls hm; exact absurd hm (Nat.not_lt_zero _)
        | succ N ih =>
          intro j H locs ls hm hj4 hw hl
          refine lv_iload hf.1 hf.2.1 dX3_isSame_30 (lv_at hl 0 rfl) ?_
          refine lv_iload_n hf.1 hf.2.1 dX3_isSame_32 rfl (lv_at hl 3 rfl) ?_
          refine lv_icmp_ge (tgt := 65) hf.1 hf.2.1 dX3_isSame_33 (by decide) (fun c_7 => ?_) (fun c_7 => ?_)
          · refine lv_iconst (v := 1) hf.1 hf.2.1 dX3_isSame_65 (by decide) ?_
            exact mret_z (v := 1) hf hr hlk (by decide) hw () (Or.inr rfl) [0, 1, 2] [0, 1] rfl rfl rfl (Nat.le_of_ble_eq_true rfl) (Nat.le_of_ble_eq_true rfl) dX3_isSame_66
          · have hj : (j : Int) < n.toInt := nI_ge_lit (by omega) c_7
            exfalso; omega
      exact loop 6 0 _ _ _ (by omega) (by omega) hw (lv_sub hl [0, 1, 2, 3, 4, 5, 6] rfl)
    · refine lv_iconst (v := 0) hf.1 hf.2.1 dX3_isSame_25 (by decide) ?_
      exact mret_z (v := 0) hf hr hlk (by decide) hw () (Or.inl rfl) [0, 1, 2] [0, 1] rfl rfl rfl (Nat.le_of_ble_eq_true rfl) (Nat.le_of_ble_eq_true rfl) dX3_isSame_26
