/-! kindOf in two runs -/
theorem ctI_e (e : Nat) (h : ctI e ≠ 98) : e ∈ [4, 5, 6, 9, 2, 20, 21, 26, 27, 39, 35, 36, 37, 12, 15] := by
  unfold ctI at h
  simp only [List.mem_cons, List.not_mem_nil, or_false] at h ⊢
  repeat' split at h
  all_goals omega
theorem bdA_n {P : Int} {X : St} {e c : Nat} (h : ctI e = c ∧ c ≠ 99) : bdA P X (ctI e) = (X.1 0 c).toInt := by
  rw [h.1]
  unfold bdA
  rw [if_neg h.2]
theorem bdL_n {P : Int} {X : St} {e c : Nat} (h : ctL e = c ∧ c ≠ 99) : bdA P X (ctL e) = (X.1 0 c).toInt := by
  rw [h.1]
  unfold bdA
  rw [if_neg h.2]
theorem bdA_P {P : Int} {X : St} {e : Nat} (h : ctI e = 99) : bdA P X (ctI e) = P := by
  rw [h]
  unfold bdA
  rw [if_pos rfl]
theorem bdL_P {P : Int} {X : St} {e : Nat} (h : ctL e = 99) : bdA P X (ctL e) = P := by
  rw [h]
  unfold bdA
  rw [if_pos rfl]
theorem cod0 (k : Nat) : cod YR 0 k = k := by
  have h : (eY YR 0).1 = 0 := by decide
  unfold cod
  rw [if_pos h]
  omega
theorem scA_lt {lv k : Nat} (h : scA lv k) : k ≤ 24 := by
  rcases h with h | ⟨-, h⟩ | ⟨-, h⟩ | ⟨-, h⟩ | ⟨-, h⟩ <;> simp at h <;> omega
theorem AG.rk {lv : Nat} {P : Int} {X X1 : St} (h : AG lv P X X1) (e c : Nat) (hc : e ≠ 0 ∧ ctI e = c ∧ c ≠ 98 ∧ c ≠ 99 ∧ lvC c = 0) (k : Nat) (hz : (k : Int) < (X.1 0 c).toInt) : X1.1 e k = X.1 e k := h.1 e k (Or.inr ⟨hc.1, by rw [hc.2.1]; exact hc.2.2.1, by rw [hc.2.1, hc.2.2.2.2]; exact Nat.zero_le _, by
  rw [hc.2.1]
  show (k : Int) < (if c = 99 then P else (X.1 0 c).toInt)
  rw [if_neg hc.2.2.2.1]
  exact hz⟩)
theorem AG.new {lv : Nat} {P : Int} {X Xt X1 X1t : St} {s f n : Int32} (h : AG lv P X Xt) (hT : KT X) (hn : 0 ≤ n.toInt) (N : NEWK X X1 s f n) (Nt : NEWK Xt X1t s f n) (hgt : ∀ j : Nat, (j : Int) < n.toInt → Xt.1 10 (ix f + j) = X.1 10 (ix f + j)) : AG lv P X1 X1t := by
  have e13 : Xt.1 0 13 = X.1 0 13 := h.s0 13 (by decide)
  have e15 : Xt.1 0 15 = X.1 0 15 := h.s0 15 (by decide)
  obtain ⟨-, n13, n15, no, n4, n5, n6, n9, n9n⟩ := id N
  obtain ⟨-, t13, t15, to, t4, t5, t6, t9, t9n⟩ := id Nt
  rw [e13] at t13 to t4 t5 t6
  rw [e15] at t15 t6 t9 t9n
  have h13 := ixc hT.1
  have h15 := ixc hT.2.1
  refine ⟨fun e k hd => ?_, fun e k hd => ?_⟩
  · rcases hd with ⟨rfl, hs⟩ | ⟨a, b, c, d⟩
    · by_cases q : k = 13
      · subst q; exact Int32.toInt_inj.mp (by omega)
      · by_cases q1 : k = 15
        · subst q1; exact Int32.toInt_inj.mp (by omega)
        · have hk := scA_lt hs
          have hc : cod YR 0 k ∉ [13, 15, 800, 1000, 1200, 1400, 1600, 1800] := by
            rw [cod0]
            simp only [List.mem_cons, List.not_mem_nil, or_false]
            omega
          rw [Nt.1.1 0 k hc, N.1.1 0 k hc]
          exact h.1 0 k (Or.inl ⟨rfl, hs⟩)
    · have he := ctI_e e b
      simp only [List.mem_cons, List.not_mem_nil, or_false] at he
      rcases he with rfl | rfl | rfl | rfl | rfl | rfl | rfl | rfl | rfl | rfl | rfl | rfl | rfl | rfl | rfl
      · -- 4
        rw [bdA_n (e := 4) (c := 13) (by decide)] at d
        by_cases q : k = ix (X.1 0 13)
        · subst q; rw [t4, n4]
        · rw [(to k q).1, (no k q).1]
          exact h.rk 4 13 (by decide) k (by omega)
      · -- 5
        rw [bdA_n (e := 5) (c := 13) (by decide)] at d
        by_cases q : k = ix (X.1 0 13)
        · subst q; rw [t5, n5]
        · rw [(to k q).2.1, (no k q).2.1]
          exact h.rk 5 13 (by decide) k (by omega)
      · -- 6
        rw [bdA_n (e := 6) (c := 13) (by decide)] at d
        by_cases q : k = ix (X.1 0 13)
        · subst q; rw [t6, n6]
        · rw [(to k q).2.2, (no k q).2.2]
          exact h.rk 6 13 (by decide) k (by omega)
      · -- 9
        rw [bdA_n (e := 9) (c := 15) (by decide)] at d
        by_cases q : (k : Int) < (X.1 0 15).toInt
        · rw [t9 k q, n9 k q]
          exact h.rk 9 15 (by decide) k q
        · obtain ⟨j, hj⟩ : ∃ j : Nat, k = ix (X.1 0 15) + j := ⟨k - ix (X.1 0 15), by omega⟩
          subst hj
          rw [t9n j (by omega), n9n j (by omega)]
          exact hgt j (by omega)
      · -- 2
        rw [Nt.1.1 2 k (show (400 : Nat) ∉ [13, 15, 800, 1000, 1200, 1400, 1600, 1800] from by decide), N.1.1 2 k (show (400 : Nat) ∉ [13, 15, 800, 1000, 1200, 1400, 1600, 1800] from by decide)]
        refine h.1 2 k (Or.inr ⟨a, b, c, ?_⟩)
        rw [bdA_n (e := 2) (c := 1) (by decide)] at d ⊢
        rw [N.1.1 0 1 (show (1 : Nat) ∉ [13, 15, 800, 1000, 1200, 1400, 1600, 1800] from by decide)] at d
        exact d
      · -- 20
        rw [Nt.1.1 20 k (show (4000 : Nat) ∉ [13, 15, 800, 1000, 1200, 1400, 1600, 1800] from by decide), N.1.1 20 k (show (4000 : Nat) ∉ [13, 15, 800, 1000, 1200, 1400, 1600, 1800] from by decide)]
        refine h.1 20 k (Or.inr ⟨a, b, c, ?_⟩)
        rw [bdA_n (e := 20) (c := 19) (by decide)] at d ⊢
        rw [N.1.1 0 19 (show (19 : Nat) ∉ [13, 15, 800, 1000, 1200, 1400, 1600, 1800] from by decide)] at d
        exact d
      · -- 21
        rw [Nt.1.1 21 k (show (4200 : Nat) ∉ [13, 15, 800, 1000, 1200, 1400, 1600, 1800] from by decide), N.1.1 21 k (show (4200 : Nat) ∉ [13, 15, 800, 1000, 1200, 1400, 1600, 1800] from by decide)]
        refine h.1 21 k (Or.inr ⟨a, b, c, ?_⟩)
        rw [bdA_n (e := 21) (c := 19) (by decide)] at d ⊢
        rw [N.1.1 0 19 (show (19 : Nat) ∉ [13, 15, 800, 1000, 1200, 1400, 1600, 1800] from by decide)] at d
        exact d
      · -- 26
        rw [Nt.1.1 26 k (show (5200 : Nat) ∉ [13, 15, 800, 1000, 1200, 1400, 1600, 1800] from by decide), N.1.1 26 k (show (5200 : Nat) ∉ [13, 15, 800, 1000, 1200, 1400, 1600, 1800] from by decide)]
        refine h.1 26 k (Or.inr ⟨a, b, c, ?_⟩)
        rw [bdA_n (e := 26) (c := 19) (by decide)] at d ⊢
        rw [N.1.1 0 19 (show (19 : Nat) ∉ [13, 15, 800, 1000, 1200, 1400, 1600, 1800] from by decide)] at d
        exact d
      · -- 27
        rw [Nt.1.1 27 k (show (5400 : Nat) ∉ [13, 15, 800, 1000, 1200, 1400, 1600, 1800] from by decide), N.1.1 27 k (show (5400 : Nat) ∉ [13, 15, 800, 1000, 1200, 1400, 1600, 1800] from by decide)]
        refine h.1 27 k (Or.inr ⟨a, b, c, ?_⟩)
        rw [bdA_n (e := 27) (c := 19) (by decide)] at d ⊢
        rw [N.1.1 0 19 (show (19 : Nat) ∉ [13, 15, 800, 1000, 1200, 1400, 1600, 1800] from by decide)] at d
        exact d
      · -- 39
        rw [Nt.1.1 39 k (show (7800 : Nat) ∉ [13, 15, 800, 1000, 1200, 1400, 1600, 1800] from by decide), N.1.1 39 k (show (7800 : Nat) ∉ [13, 15, 800, 1000, 1200, 1400, 1600, 1800] from by decide)]
        refine h.1 39 k (Or.inr ⟨a, b, c, ?_⟩)
        rw [bdA_n (e := 39) (c := 19) (by decide)] at d ⊢
        rw [N.1.1 0 19 (show (19 : Nat) ∉ [13, 15, 800, 1000, 1200, 1400, 1600, 1800] from by decide)] at d
        exact d
      · -- 35
        rw [Nt.1.1 35 k (show (7000 : Nat) ∉ [13, 15, 800, 1000, 1200, 1400, 1600, 1800] from by decide), N.1.1 35 k (show (7000 : Nat) ∉ [13, 15, 800, 1000, 1200, 1400, 1600, 1800] from by decide)]
        refine h.1 35 k (Or.inr ⟨a, b, c, ?_⟩)
        rw [bdA_n (e := 35) (c := 22) (by decide)] at d ⊢
        rw [N.1.1 0 22 (show (22 : Nat) ∉ [13, 15, 800, 1000, 1200, 1400, 1600, 1800] from by decide)] at d
        exact d
      · -- 36
        rw [Nt.1.1 36 k (show (7200 : Nat) ∉ [13, 15, 800, 1000, 1200, 1400, 1600, 1800] from by decide), N.1.1 36 k (show (7200 : Nat) ∉ [13, 15, 800, 1000, 1200, 1400, 1600, 1800] from by decide)]
        refine h.1 36 k (Or.inr ⟨a, b, c, ?_⟩)
        rw [bdA_n (e := 36) (c := 22) (by decide)] at d ⊢
        rw [N.1.1 0 22 (show (22 : Nat) ∉ [13, 15, 800, 1000, 1200, 1400, 1600, 1800] from by decide)] at d
        exact d
      · -- 37
        rw [Nt.1.1 37 k (show (7400 : Nat) ∉ [13, 15, 800, 1000, 1200, 1400, 1600, 1800] from by decide), N.1.1 37 k (show (7400 : Nat) ∉ [13, 15, 800, 1000, 1200, 1400, 1600, 1800] from by decide)]
        refine h.1 37 k (Or.inr ⟨a, b, c, ?_⟩)
        rw [bdA_n (e := 37) (c := 22) (by decide)] at d ⊢
        rw [N.1.1 0 22 (show (22 : Nat) ∉ [13, 15, 800, 1000, 1200, 1400, 1600, 1800] from by decide)] at d
        exact d
      · -- 12
        rw [Nt.1.1 12 k (show (2400 : Nat) ∉ [13, 15, 800, 1000, 1200, 1400, 1600, 1800] from by decide), N.1.1 12 k (show (2400 : Nat) ∉ [13, 15, 800, 1000, 1200, 1400, 1600, 1800] from by decide)]
        refine h.1 12 k (Or.inr ⟨a, b, c, ?_⟩)
        rw [bdA_P (e := 12) (by decide)] at d ⊢
        exact d
      · -- 15
        rw [Nt.1.1 15 k (show (3000 : Nat) ∉ [13, 15, 800, 1000, 1200, 1400, 1600, 1800] from by decide), N.1.1 15 k (show (3000 : Nat) ∉ [13, 15, 800, 1000, 1200, 1400, 1600, 1800] from by decide)]
        refine h.1 15 k (Or.inr ⟨a, b, c, ?_⟩)
        rw [bdA_P (e := 15) (by decide)] at d ⊢
        exact d
  · rcases hd with ⟨rfl, hs⟩ | ⟨a, b, c, d⟩
    · obtain ⟨hs1, rfl⟩ := hs
      rw [Nt.1.2.1 0 47 (show (47 : Nat) ∉ [13, 15, 800, 1000, 1200, 1400, 1600, 1800] from by decide), N.1.2.1 0 47 (show (47 : Nat) ∉ [13, 15, 800, 1000, 1200, 1400, 1600, 1800] from by decide)]
      exact h.2 0 47 (Or.inl ⟨rfl, hs1, rfl⟩)
    · have he : e = 11 ∨ e = 29 ∨ e = 30 := by
        unfold ctL at b
        repeat' split at b
        all_goals simp_all
      rcases he with rfl | rfl | rfl
      · rw [Nt.1.2.1 11 k (show (2200 : Nat) ∉ [13, 15, 800, 1000, 1200, 1400, 1600, 1800] from by decide), N.1.2.1 11 k (show (2200 : Nat) ∉ [13, 15, 800, 1000, 1200, 1400, 1600, 1800] from by decide)]
        refine h.2 11 k (Or.inr ⟨a, b, c, ?_⟩)
        rw [bdL_P (e := 11) (by decide)] at d ⊢
        exact d
      · rw [Nt.1.2.1 29 k (show (5800 : Nat) ∉ [13, 15, 800, 1000, 1200, 1400, 1600, 1800] from by decide), N.1.2.1 29 k (show (5800 : Nat) ∉ [13, 15, 800, 1000, 1200, 1400, 1600, 1800] from by decide)]
        refine h.2 29 k (Or.inr ⟨a, b, c, ?_⟩)
        rw [bdL_n (e := 29) (c := 19) (by decide)] at d ⊢
        rw [N.1.1 0 19 (show (19 : Nat) ∉ [13, 15, 800, 1000, 1200, 1400, 1600, 1800] from by decide)] at d
        exact d
      · rw [Nt.1.2.1 30 k (show (6000 : Nat) ∉ [13, 15, 800, 1000, 1200, 1400, 1600, 1800] from by decide), N.1.2.1 30 k (show (6000 : Nat) ∉ [13, 15, 800, 1000, 1200, 1400, 1600, 1800] from by decide)]
        refine h.2 30 k (Or.inr ⟨a, b, c, ?_⟩)
        rw [bdL_n (e := 30) (c := 20) (by decide)] at d ⊢
        rw [N.1.1 0 20 (show (20 : Nat) ∉ [13, 15, 800, 1000, 1200, 1400, 1600, 1800] from by decide)] at d
        exact d
theorem KT.ag {lv : Nat} {P : Int} {X Xt : St} (hT : KT X) (h : AG lv P X Xt) : KT Xt := by
  have e13 : Xt.1 0 13 = X.1 0 13 := h.s0 13 (by decide)
  have e15 : Xt.1 0 15 = X.1 0 15 := h.s0 15 (by decide)
  refine ⟨by rw [e13]; exact hT.1, by rw [e15]; exact hT.2.1, fun k hk => ?_⟩
  rw [e13] at hk
  obtain ⟨a, b, c, d, e⟩ := hT.2.2 k hk
  unfold KTk
  rw [h.rk 4 13 (by decide) k hk, h.rk 5 13 (by decide) k hk, h.rk 6 13 (by decide) k hk, e15]
  refine ⟨a, b, c, d, fun i hi => ?_⟩
  have := ixc a
  rw [h.rk 9 15 (by decide) _ (by omega)]
  exact e i hi
theorem sameK.ag {lv : Nat} {P : Int} {X Xt : St} {s f n : Int32} {k : Nat} (h : AG lv P X Xt) (hT : KT X) (hk : (k : Int) < (X.1 0 13).toInt) (hgt : ∀ j : Nat, (j : Int) < n.toInt → Xt.1 10 (ix f + j) = X.1 10 (ix f + j)) : sameK Xt k s f n ↔ sameK X k s f n := by
  have e4 := h.rk 4 13 (by decide) k hk
  have e5 := h.rk 5 13 (by decide) k hk
  have e6 := h.rk 6 13 (by decide) k hk
  obtain ⟨a, b, c, d, e⟩ := hT.2.2 k hk
  have := ixc a
  unfold sameK
  rw [e4, e5, e6]
  constructor
  · rintro ⟨q4, q5, q9⟩
    refine ⟨q4, q5, fun i hi => ?_⟩
    rw [← hgt i hi, ← q9 i hi]
    rw [q5] at c
    exact (h.rk 9 15 (by decide) _ (by omega)).symm
  · rintro ⟨q4, q5, q9⟩
    refine ⟨q4, q5, fun i hi => ?_⟩
    rw [hgt i hi, ← q9 i hi]
    rw [q5] at c
    exact h.rk 9 15 (by decide) _ (by omega)
theorem t_f_kindOf {s f n : Int32} {X Xt : St} (lv : Nat) (P : Int) (hag : AG lv P X Xt) (hT : KT X) (hc : (X.1 0 13).toInt ≤ 5999) (hl : (X.1 0 15).toInt + n.toInt ≤ 20000) (hf : 0 ≤ f.toInt ∧ f.toInt + n.toInt ≤ 3100) (hS : KS s.toInt n.toInt) (hg : ∀ j : Nat, (j : Int) < n.toInt → 0 ≤ (X.1 10 (ix f + j)).toInt ∧ (X.1 10 (ix f + j)).toInt < (X.1 0 13).toInt) (hgt : ∀ j : Nat, (j : Int) < n.toInt → Xt.1 10 (ix f + j) = X.1 10 (ix f + j)) : ok2 (f_kindOf s f n X) (f_kindOf s f n Xt) (fun r X1 X1t => KOF X X1 s f n r ∧ KOF Xt X1t s f n r ∧ AG lv P X1 X1t) := by
  have e13 : Xt.1 0 13 = X.1 0 13 := hag.s0 13 (by decide)
  have e15 : Xt.1 0 15 = X.1 0 15 := hag.s0 15 (by decide)
  have hn : 0 ≤ n.toInt := by rcases hS with h | h | h <;> omega
  obtain ⟨r, X1, eq, h⟩ := s_kindOf hT hc hl hf hS hg
  obtain ⟨rt, X1t, eqt, ht⟩ := s_kindOf (s := s) (f := f) (n := n) (hT.ag hag) (by rw [e13]; exact hc) (by rw [e15]; exact hl) hf hS (fun j hj => by rw [hgt j hj, e13]; exact hg j hj)
  have key : rt = r ∧ AG lv P X1 X1t := by
    rcases id h with ⟨a, b, c, d, g⟩ | ⟨c, d, g⟩
    · rcases id ht with ⟨at', bt, ct, dt, gt⟩ | ⟨ct, dt, gt⟩
      · rw [e13] at bt
        have h1 := ixc a
        have h2 := ixc at'
        have ct1 := (sameK.ag hag hT (by omega) hgt).mp ct
        have h3 : rt.toInt = r.toInt := by
          rcases Int.lt_trichotomy rt.toInt r.toInt with q | q | q
          · exact absurd ct1 (d _ (by omega))
          · exact q
          · exact absurd ((sameK.ag hag hT (by omega) hgt).mpr c) (dt _ (by omega))
        exact ⟨Int32.toInt_inj.mp h3, by rw [g, gt]; exact hag⟩
      · have h1 := ixc a
        exact absurd ((sameK.ag hag hT (by omega) hgt).mpr c) (ct _ (by rw [e13]; omega))
    · rcases id ht with ⟨at', bt, ct, dt, gt⟩ | ⟨ct, dt, gt⟩
      · rw [e13] at bt
        have h2 := ixc at'
        exact absurd ((sameK.ag hag hT (by omega) hgt).mp ct) (c _ (by omega))
      · exact ⟨by rw [d, dt, e13], hag.new hT hn g gt hgt⟩
  obtain ⟨rfl, hA⟩ := key
  exact ⟨rt, X1, X1t, eq, eqt, h, ht, hA⟩
/-- sizes of kinds -/
def sumN (g : Nat → Nat) : Nat → Nat
  | 0 => 0
  | n + 1 => sumN g n + g n
def kz (X : St) : Nat → Nat → Nat
  | 0, _ => 0
  | m + 1, k => 1 + sumN (fun i => kz X m (ix (X.1 9 (ix (X.1 6 k) + i)))) (ix (X.1 5 k))
def ksz (X : St) (k : Nat) : Nat := kz X (k + 1) k
theorem sumN_congr {g g1 : Nat → Nat} : ∀ (n : Nat), (∀ i, i < n → g i = g1 i) → sumN g n = sumN g1 n
  | 0, _ => rfl
  | n + 1, h => by
    show sumN g n + g n = sumN g1 n + g1 n
    rw [sumN_congr n (fun i hi => h i (Nat.lt_succ_of_lt hi)), h n (Nat.lt_succ_self n)]
theorem sumN_le {g : Nat → Nat} {n m : Nat} (h : n ≤ m) : sumN g n ≤ sumN g m := by
  induction m with
  | zero => rw [Nat.le_zero.mp h]; exact Nat.le_refl _
  | succ m ih =>
    rcases Nat.lt_or_ge n (m + 1) with q | q
    · exact Nat.le_trans (ih (Nat.le_of_lt_succ q)) (Nat.le_add_right _ _)
    · rw [Nat.le_antisymm h q]; exact Nat.le_refl _
theorem sumN_add (g : Nat → Nat) (a : Nat) : ∀ n, sumN g (a + n) = sumN g a + sumN (fun i => g (a + i)) n
  | 0 => rfl
  | n + 1 => by
    show sumN g (a + n) + g (a + n) = _
    rw [sumN_add g a n]
    show _ = sumN g a + (sumN (fun i => g (a + i)) n + g (a + n))
    omega
theorem kz_st {X : St} (hT : KT X) : ∀ (k : Nat), (k : Int) < (X.1 0 13).toInt → ∀ m, k < m → kz X m k = kz X (k + 1) k := by
  intro k
  induction k using Nat.strongRecOn with
  | _ k ih =>
    intro hk m hm
    obtain ⟨m, rfl⟩ : ∃ m1, m = m1 + 1 := ⟨m - 1, by omega⟩
    show 1 + sumN _ _ = 1 + sumN _ _
    congr 1
    obtain ⟨a, b, c, d, e⟩ := hT.2.2 k hk
    refine sumN_congr _ (fun i hi => ?_)
    have hb := ixc b
    have he := e i (by omega)
    have hc := ixc he.1
    rw [ih _ (by omega) (by omega) m (by omega), ih _ (by omega) (by omega) k (by omega)]
theorem ksz_eq {X : St} (hT : KT X) {k : Nat} (hk : (k : Int) < (X.1 0 13).toInt) : ksz X k = 1 + sumN (fun i => ksz X (ix (X.1 9 (ix (X.1 6 k) + i)))) (ix (X.1 5 k)) := by
  show 1 + sumN _ _ = 1 + sumN _ _
  congr 1
  obtain ⟨a, b, c, d, e⟩ := hT.2.2 k hk
  refine sumN_congr _ (fun i hi => ?_)
  have hb := ixc b
  have he := e i (by omega)
  have hc := ixc he.1
  exact kz_st hT _ (by omega) k (by omega)
theorem ksz_kx {X X1 : St} (hT : KT X) (hT1 : KT X1) (h : KX X X1) : ∀ (k : Nat), (k : Int) < (X.1 0 13).toInt → ksz X1 k = ksz X k := by
  intro k
  induction k using Nat.strongRecOn with
  | _ k ih =>
    intro hk
    rw [ksz_eq hT hk, ksz_eq hT1 (Int.lt_of_lt_of_le hk h.1)]
    obtain ⟨e4, e5, e6⟩ := h.2.2.1 k hk
    obtain ⟨a, b, c, d, e⟩ := hT.2.2 k hk
    rw [e5, e6]
    congr 1
    refine sumN_congr _ (fun i hi => ?_)
    have ha := ixc a
    have hb := ixc b
    have he := e i (by omega)
    have hc := ixc he.1
    rw [h.2.2.2 _ (by omega)]
    exact ih _ (by omega) (by omega)
theorem ksz_pos {X : St} {k : Nat} : 1 ≤ ksz X k := Nat.le_add_right 1 _
theorem isK.sz {X X1 : St} {s f n r : Int32} (hT : KT X) (hT1 : KT X1) (hx : KX X X1) (h : isK X X1 s f n r) (hg : ∀ j : Nat, (j : Int) < n.toInt → 0 ≤ (X.1 10 (ix f + j)).toInt ∧ (X.1 10 (ix f + j)).toInt < (X.1 0 13).toInt) : ksz X1 (ix r) = 1 + sumN (fun i => ksz X (ix (X.1 10 (ix f + i)))) (ix n) := by
  obtain ⟨h0, h1, h4, h5, h9⟩ := h
  have hr := ixc h0
  rw [ksz_eq hT1 (by omega), h5]
  congr 1
  refine sumN_congr _ (fun i hi => ?_)
  obtain ⟨a, b, c, d, e⟩ := hT1.2.2 (ix r) (by omega)
  rw [h5] at b
  have hb := ixc b
  have hgi := hg i (by omega)
  have hc := ixc hgi.1
  rw [h9 i (by omega)]
  exact ksz_kx hT hT1 hx _ (by omega)
