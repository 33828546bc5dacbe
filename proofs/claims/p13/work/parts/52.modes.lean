/-! make, enter, and the reader's modes -/
/-- where a node begins -/
def FST (X X1 : St) (p r : Int32) : Prop := X1.1 21 (ix r) = p ∧ ∀ i, i ≠ ix r → X1.1 21 i = X.1 21 i
def MAK (X X1 : St) (k r : Int32) : Prop := r = X.1 0 19 ∧ X1.1 20 (ix r) = k ∧ X1.1 23 (ix r) = -1 ∧ X1.1 24 (ix r) = -1 ∧ X1.1 25 (ix r) = -1 ∧ X1.1 26 (ix r) = 0 ∧ X1.1 27 (ix r) = 0 ∧ X1.1 28 (ix r) = -1 ∧ ∀ i, i ≠ ix r → X1.1 20 i = X.1 20 i ∧ X1.1 23 i = X.1 23 i ∧ X1.1 24 i = X.1 24 i ∧ X1.1 25 i = X.1 25 i ∧ X1.1 26 i = X.1 26 i ∧ X1.1 27 i = X.1 27 i ∧ X1.1 28 i = X.1 28 i
def ENT (X X1 : St) (k n : Int32) : Prop := X1.1 35 (ix (X.1 0 22)) = k ∧ X1.1 36 (ix (X.1 0 22)) = n ∧ X1.1 37 (ix (X.1 0 22)) = -1 ∧ ∀ i, i ≠ ix (X.1 0 22) → X1.1 35 i = X.1 35 i ∧ X1.1 36 i = X.1 36 i ∧ X1.1 37 i = X.1 37 i
theorem wI_out (X : St) (e k : Nat) (v w : Int32) (c : Nat) (he : e ≠ 0) : wI (wI X 0 c w) e k v = wI (wI X e k v) 0 c w := by
  refine Prod.ext (funext (fun j => funext (fun i => ?_))) rfl
  by_cases q : j = 0
  · subst q
    rw [wI_ne _ _ _ _ _ _ (by rintro ⟨q, -⟩; exact he q.symm)]
    by_cases q1 : i = c
    · subst q1; rw [wI_at, wI_at]
    · rw [wI_ne _ _ _ _ _ _ (by rintro ⟨-, q⟩; exact q1 q), wI_ne _ _ _ _ _ _ (by rintro ⟨-, q⟩; exact q1 q), wI_ne _ _ _ _ _ _ (by rintro ⟨q, -⟩; exact he q.symm)]
  · rw [wI_ne _ 0 c _ _ _ (by rintro ⟨q1, -⟩; exact q q1)]
    by_cases q1 : j = e ∧ i = k
    · rw [q1.1, q1.2, wI_at, wI_at]
    · rw [wI_ne _ _ _ _ _ _ q1, wI_ne _ _ _ _ _ _ q1, wI_ne _ _ _ _ _ _ (by rintro ⟨q2, -⟩; exact q q2)]
theorem wL_out (X : St) (e k : Nat) (v : Int64) (w : Int32) (c : Nat) : wL (wI X 0 c w) e k v = wI (wL X e k v) 0 c w := rfl
theorem ctI19 (e : Nat) (h : ctI e = 19) : e = 20 ∨ e = 21 ∨ e = 26 ∨ e = 27 ∨ e = 39 := by
  unfold ctI at h
  simp only [List.mem_cons, List.not_mem_nil, or_false] at h
  repeat' split at h
  all_goals omega
theorem ctL19 (e : Nat) (h : ctL e = 19) : e = 29 := by
  unfold ctL at h
  repeat' split at h
  all_goals omega
theorem ctI22 (e : Nat) (h : ctI e = 22) : e = 35 ∨ e = 36 ∨ e = 37 := by
  unfold ctI at h
  simp only [List.mem_cons, List.not_mem_nil, or_false] at h
  repeat' split at h
  all_goals omega
theorem ctL22 (e : Nat) (h : ctL e = 22) : False := by
  unfold ctL at h
  repeat' split at h
  all_goals omega
theorem t_f_make (p1 p2 : Int32) (X Xt : St) (lv : Nat) (P : Int) (hag : AG lv P X Xt) (hn : 0 ≤ (X.1 0 19).toInt ∧ (X.1 0 19).toInt ≤ 3099) : ok2 (f_make p1 p2 X) (f_make p1 p2 Xt) (fun r X1 X1t => Fr YR [19, 4000, 4200, 4400, 4600, 4800, 5000, 5200, 5400, 5600, 5800, 7800] X X1 ∧ Fr YR [19, 4000, 4200, 4400, 4600, 4800, 5000, 5200, 5400, 5600, 5800, 7800] Xt X1t ∧ AG lv P X1 X1t ∧ (r.toInt = (X.1 0 19).toInt ∧ (X1.1 0 19).toInt = (X.1 0 19).toInt + 1) ∧ (MAK X X1 p1 r) ∧ (FST X X1 p2 r)) := by
  unfold f_make
  have e19 : Xt.1 0 19 = X.1 0 19 := hag.s0 19 (by decide)
  refine ok2.letE (v1 := X.1 0 19) rfl e19 (ok2.letE (v1 := X.1 0 19) rfl e19 (ok2.add (by rw [show (1 : Int32).toInt = 1 from rfl]; omega) (fun x3 hx3 => ?_)))
  have hx3 : x3.toInt = (X.1 0 19).toInt + 1 := hx3
  have hc : inR (X.1 0 19) 3100 := ⟨hn.1, show (X.1 0 19).toInt < ((3100 : Nat) : Int) by omega⟩
  refine ok2.letV ?_
  refine ok2.ck hc (ok2.letV ?_)
  refine ok2.ck hc (ok2.letV ?_)
  refine ok2.ck hc (ok2.letV ?_)
  refine ok2.ck hc (ok2.letV ?_)
  refine ok2.ck hc (ok2.letV ?_)
  refine ok2.ck hc (ok2.letV ?_)
  refine ok2.ck hc (ok2.letV ?_)
  refine ok2.ck hc (ok2.letV ?_)
  refine ok2.ck hc (ok2.letV ?_)
  refine ok2.ck hc (ok2.letV ?_)
  refine ok2.ck hc (ok2.letV ?_)
  have eA : (wI (wL (wI (wI (wI (wI (wI (wI (wI (wI (wI (wI X 0 19 x3) 20 (ix (X.1 0 19)) p1) 21 (ix (X.1 0 19)) p2) 22 (ix (X.1 0 19)) p2) 23 (ix (X.1 0 19)) (-1 : Int32)) 24 (ix (X.1 0 19)) (-1 : Int32)) 25 (ix (X.1 0 19)) (-1 : Int32)) 26 (ix (X.1 0 19)) (0 : Int32)) 27 (ix (X.1 0 19)) (0 : Int32)) 28 (ix (X.1 0 19)) (-1 : Int32)) 29 (ix (X.1 0 19)) (0 : Int64)) 39 (ix (X.1 0 19)) (0 : Int32)) = (wI (wI (wL (wI (wI (wI (wI (wI (wI (wI (wI (wI X 20 (ix (X.1 0 19)) p1) 21 (ix (X.1 0 19)) p2) 22 (ix (X.1 0 19)) p2) 23 (ix (X.1 0 19)) (-1 : Int32)) 24 (ix (X.1 0 19)) (-1 : Int32)) 25 (ix (X.1 0 19)) (-1 : Int32)) 26 (ix (X.1 0 19)) (0 : Int32)) 27 (ix (X.1 0 19)) (0 : Int32)) 28 (ix (X.1 0 19)) (-1 : Int32)) 29 (ix (X.1 0 19)) (0 : Int64)) 39 (ix (X.1 0 19)) (0 : Int32)) 0 19 x3) := by
    rw [wI_out _ 20 _ _ _ _ (by decide), wI_out _ 21 _ _ _ _ (by decide), wI_out _ 22 _ _ _ _ (by decide), wI_out _ 23 _ _ _ _ (by decide), wI_out _ 24 _ _ _ _ (by decide), wI_out _ 25 _ _ _ _ (by decide), wI_out _ 26 _ _ _ _ (by decide), wI_out _ 27 _ _ _ _ (by decide), wI_out _ 28 _ _ _ _ (by decide), wL_out, wI_out _ 39 _ _ _ _ (by decide)]
  have eAt : (wI (wL (wI (wI (wI (wI (wI (wI (wI (wI (wI (wI Xt 0 19 x3) 20 (ix (X.1 0 19)) p1) 21 (ix (X.1 0 19)) p2) 22 (ix (X.1 0 19)) p2) 23 (ix (X.1 0 19)) (-1 : Int32)) 24 (ix (X.1 0 19)) (-1 : Int32)) 25 (ix (X.1 0 19)) (-1 : Int32)) 26 (ix (X.1 0 19)) (0 : Int32)) 27 (ix (X.1 0 19)) (0 : Int32)) 28 (ix (X.1 0 19)) (-1 : Int32)) 29 (ix (X.1 0 19)) (0 : Int64)) 39 (ix (X.1 0 19)) (0 : Int32)) = (wI (wI (wL (wI (wI (wI (wI (wI (wI (wI (wI (wI Xt 20 (ix (X.1 0 19)) p1) 21 (ix (X.1 0 19)) p2) 22 (ix (X.1 0 19)) p2) 23 (ix (X.1 0 19)) (-1 : Int32)) 24 (ix (X.1 0 19)) (-1 : Int32)) 25 (ix (X.1 0 19)) (-1 : Int32)) 26 (ix (X.1 0 19)) (0 : Int32)) 27 (ix (X.1 0 19)) (0 : Int32)) 28 (ix (X.1 0 19)) (-1 : Int32)) 29 (ix (X.1 0 19)) (0 : Int64)) 39 (ix (X.1 0 19)) (0 : Int32)) 0 19 x3) := by
    rw [wI_out _ 20 _ _ _ _ (by decide), wI_out _ 21 _ _ _ _ (by decide), wI_out _ 22 _ _ _ _ (by decide), wI_out _ 23 _ _ _ _ (by decide), wI_out _ 24 _ _ _ _ (by decide), wI_out _ 25 _ _ _ _ (by decide), wI_out _ 26 _ _ _ _ (by decide), wI_out _ 27 _ _ _ _ (by decide), wI_out _ 28 _ _ _ _ (by decide), wL_out, wI_out _ 39 _ _ _ _ (by decide)]
  rw [eA, eAt]
  have hA : AG lv P (wI (wI (wL (wI (wI (wI (wI (wI (wI (wI (wI (wI X 20 (ix (X.1 0 19)) p1) 21 (ix (X.1 0 19)) p2) 22 (ix (X.1 0 19)) p2) 23 (ix (X.1 0 19)) (-1 : Int32)) 24 (ix (X.1 0 19)) (-1 : Int32)) 25 (ix (X.1 0 19)) (-1 : Int32)) 26 (ix (X.1 0 19)) (0 : Int32)) 27 (ix (X.1 0 19)) (0 : Int32)) 28 (ix (X.1 0 19)) (-1 : Int32)) 29 (ix (X.1 0 19)) (0 : Int64)) 39 (ix (X.1 0 19)) (0 : Int32)) 0 19 x3) (wI (wI (wL (wI (wI (wI (wI (wI (wI (wI (wI (wI Xt 20 (ix (X.1 0 19)) p1) 21 (ix (X.1 0 19)) p2) 22 (ix (X.1 0 19)) p2) 23 (ix (X.1 0 19)) (-1 : Int32)) 24 (ix (X.1 0 19)) (-1 : Int32)) 25 (ix (X.1 0 19)) (-1 : Int32)) 26 (ix (X.1 0 19)) (0 : Int32)) 27 (ix (X.1 0 19)) (0 : Int32)) 28 (ix (X.1 0 19)) (-1 : Int32)) 29 (ix (X.1 0 19)) (0 : Int64)) 39 (ix (X.1 0 19)) (0 : Int32)) 0 19 x3) := by
    refine AG.up (z := X.1 0 19) (((((((((((hag.wI 20 _ _ (Or.inl (by decide))).wI 21 _ _ (Or.inl (by decide))).wI 22 _ _ (Or.inl (by decide))).wI 23 _ _ (Or.inl (by decide))).wI 24 _ _ (Or.inl (by decide))).wI 25 _ _ (Or.inl (by decide))).wI 26 _ _ (Or.inl (by decide))).wI 27 _ _ (Or.inl (by decide))).wI 28 _ _ (Or.inl (by decide))).wL 29 _ _).wI 39 _ _ (Or.inl (by decide))) 19 x3 (by decide) rfl hx3 hn.1 (fun e he => ?_) (fun e he => ?_)
    · rcases ctI19 e he with rfl | rfl | rfl | rfl | rfl
      · exact (show ((wI (wL (wI (wI (wI (wI (wI (wI (wI (wI (wI Xt 20 (ix (X.1 0 19)) p1) 21 (ix (X.1 0 19)) p2) 22 (ix (X.1 0 19)) p2) 23 (ix (X.1 0 19)) (-1 : Int32)) 24 (ix (X.1 0 19)) (-1 : Int32)) 25 (ix (X.1 0 19)) (-1 : Int32)) 26 (ix (X.1 0 19)) (0 : Int32)) 27 (ix (X.1 0 19)) (0 : Int32)) 28 (ix (X.1 0 19)) (-1 : Int32)) 29 (ix (X.1 0 19)) (0 : Int64)) 39 (ix (X.1 0 19)) (0 : Int32))).1 20 (ix (X.1 0 19)) = p1 from wI_at (_) 20 (ix (X.1 0 19)) p1).trans (show ((wI (wL (wI (wI (wI (wI (wI (wI (wI (wI (wI X 20 (ix (X.1 0 19)) p1) 21 (ix (X.1 0 19)) p2) 22 (ix (X.1 0 19)) p2) 23 (ix (X.1 0 19)) (-1 : Int32)) 24 (ix (X.1 0 19)) (-1 : Int32)) 25 (ix (X.1 0 19)) (-1 : Int32)) 26 (ix (X.1 0 19)) (0 : Int32)) 27 (ix (X.1 0 19)) (0 : Int32)) 28 (ix (X.1 0 19)) (-1 : Int32)) 29 (ix (X.1 0 19)) (0 : Int64)) 39 (ix (X.1 0 19)) (0 : Int32))).1 20 (ix (X.1 0 19)) = p1 from wI_at (_) 20 (ix (X.1 0 19)) p1).symm
      · exact (show ((wI (wL (wI (wI (wI (wI (wI (wI (wI (wI (wI Xt 20 (ix (X.1 0 19)) p1) 21 (ix (X.1 0 19)) p2) 22 (ix (X.1 0 19)) p2) 23 (ix (X.1 0 19)) (-1 : Int32)) 24 (ix (X.1 0 19)) (-1 : Int32)) 25 (ix (X.1 0 19)) (-1 : Int32)) 26 (ix (X.1 0 19)) (0 : Int32)) 27 (ix (X.1 0 19)) (0 : Int32)) 28 (ix (X.1 0 19)) (-1 : Int32)) 29 (ix (X.1 0 19)) (0 : Int64)) 39 (ix (X.1 0 19)) (0 : Int32))).1 21 (ix (X.1 0 19)) = p2 from wI_at (_) 21 (ix (X.1 0 19)) p2).trans (show ((wI (wL (wI (wI (wI (wI (wI (wI (wI (wI (wI X 20 (ix (X.1 0 19)) p1) 21 (ix (X.1 0 19)) p2) 22 (ix (X.1 0 19)) p2) 23 (ix (X.1 0 19)) (-1 : Int32)) 24 (ix (X.1 0 19)) (-1 : Int32)) 25 (ix (X.1 0 19)) (-1 : Int32)) 26 (ix (X.1 0 19)) (0 : Int32)) 27 (ix (X.1 0 19)) (0 : Int32)) 28 (ix (X.1 0 19)) (-1 : Int32)) 29 (ix (X.1 0 19)) (0 : Int64)) 39 (ix (X.1 0 19)) (0 : Int32))).1 21 (ix (X.1 0 19)) = p2 from wI_at (_) 21 (ix (X.1 0 19)) p2).symm
      · exact (show ((wI (wL (wI (wI (wI (wI (wI (wI (wI (wI (wI Xt 20 (ix (X.1 0 19)) p1) 21 (ix (X.1 0 19)) p2) 22 (ix (X.1 0 19)) p2) 23 (ix (X.1 0 19)) (-1 : Int32)) 24 (ix (X.1 0 19)) (-1 : Int32)) 25 (ix (X.1 0 19)) (-1 : Int32)) 26 (ix (X.1 0 19)) (0 : Int32)) 27 (ix (X.1 0 19)) (0 : Int32)) 28 (ix (X.1 0 19)) (-1 : Int32)) 29 (ix (X.1 0 19)) (0 : Int64)) 39 (ix (X.1 0 19)) (0 : Int32))).1 26 (ix (X.1 0 19)) = (0 : Int32) from wI_at (_) 26 (ix (X.1 0 19)) (0 : Int32)).trans (show ((wI (wL (wI (wI (wI (wI (wI (wI (wI (wI (wI X 20 (ix (X.1 0 19)) p1) 21 (ix (X.1 0 19)) p2) 22 (ix (X.1 0 19)) p2) 23 (ix (X.1 0 19)) (-1 : Int32)) 24 (ix (X.1 0 19)) (-1 : Int32)) 25 (ix (X.1 0 19)) (-1 : Int32)) 26 (ix (X.1 0 19)) (0 : Int32)) 27 (ix (X.1 0 19)) (0 : Int32)) 28 (ix (X.1 0 19)) (-1 : Int32)) 29 (ix (X.1 0 19)) (0 : Int64)) 39 (ix (X.1 0 19)) (0 : Int32))).1 26 (ix (X.1 0 19)) = (0 : Int32) from wI_at (_) 26 (ix (X.1 0 19)) (0 : Int32)).symm
      · exact (show ((wI (wL (wI (wI (wI (wI (wI (wI (wI (wI (wI Xt 20 (ix (X.1 0 19)) p1) 21 (ix (X.1 0 19)) p2) 22 (ix (X.1 0 19)) p2) 23 (ix (X.1 0 19)) (-1 : Int32)) 24 (ix (X.1 0 19)) (-1 : Int32)) 25 (ix (X.1 0 19)) (-1 : Int32)) 26 (ix (X.1 0 19)) (0 : Int32)) 27 (ix (X.1 0 19)) (0 : Int32)) 28 (ix (X.1 0 19)) (-1 : Int32)) 29 (ix (X.1 0 19)) (0 : Int64)) 39 (ix (X.1 0 19)) (0 : Int32))).1 27 (ix (X.1 0 19)) = (0 : Int32) from wI_at (_) 27 (ix (X.1 0 19)) (0 : Int32)).trans (show ((wI (wL (wI (wI (wI (wI (wI (wI (wI (wI (wI X 20 (ix (X.1 0 19)) p1) 21 (ix (X.1 0 19)) p2) 22 (ix (X.1 0 19)) p2) 23 (ix (X.1 0 19)) (-1 : Int32)) 24 (ix (X.1 0 19)) (-1 : Int32)) 25 (ix (X.1 0 19)) (-1 : Int32)) 26 (ix (X.1 0 19)) (0 : Int32)) 27 (ix (X.1 0 19)) (0 : Int32)) 28 (ix (X.1 0 19)) (-1 : Int32)) 29 (ix (X.1 0 19)) (0 : Int64)) 39 (ix (X.1 0 19)) (0 : Int32))).1 27 (ix (X.1 0 19)) = (0 : Int32) from wI_at (_) 27 (ix (X.1 0 19)) (0 : Int32)).symm
      · exact (show ((wI (wL (wI (wI (wI (wI (wI (wI (wI (wI (wI Xt 20 (ix (X.1 0 19)) p1) 21 (ix (X.1 0 19)) p2) 22 (ix (X.1 0 19)) p2) 23 (ix (X.1 0 19)) (-1 : Int32)) 24 (ix (X.1 0 19)) (-1 : Int32)) 25 (ix (X.1 0 19)) (-1 : Int32)) 26 (ix (X.1 0 19)) (0 : Int32)) 27 (ix (X.1 0 19)) (0 : Int32)) 28 (ix (X.1 0 19)) (-1 : Int32)) 29 (ix (X.1 0 19)) (0 : Int64)) 39 (ix (X.1 0 19)) (0 : Int32))).1 39 (ix (X.1 0 19)) = (0 : Int32) from wI_at (_) 39 (ix (X.1 0 19)) (0 : Int32)).trans (show ((wI (wL (wI (wI (wI (wI (wI (wI (wI (wI (wI X 20 (ix (X.1 0 19)) p1) 21 (ix (X.1 0 19)) p2) 22 (ix (X.1 0 19)) p2) 23 (ix (X.1 0 19)) (-1 : Int32)) 24 (ix (X.1 0 19)) (-1 : Int32)) 25 (ix (X.1 0 19)) (-1 : Int32)) 26 (ix (X.1 0 19)) (0 : Int32)) 27 (ix (X.1 0 19)) (0 : Int32)) 28 (ix (X.1 0 19)) (-1 : Int32)) 29 (ix (X.1 0 19)) (0 : Int64)) 39 (ix (X.1 0 19)) (0 : Int32))).1 39 (ix (X.1 0 19)) = (0 : Int32) from wI_at (_) 39 (ix (X.1 0 19)) (0 : Int32)).symm
    · obtain rfl := ctL19 e he
      exact (show ((wI (wL (wI (wI (wI (wI (wI (wI (wI (wI (wI Xt 20 (ix (X.1 0 19)) p1) 21 (ix (X.1 0 19)) p2) 22 (ix (X.1 0 19)) p2) 23 (ix (X.1 0 19)) (-1 : Int32)) 24 (ix (X.1 0 19)) (-1 : Int32)) 25 (ix (X.1 0 19)) (-1 : Int32)) 26 (ix (X.1 0 19)) (0 : Int32)) 27 (ix (X.1 0 19)) (0 : Int32)) 28 (ix (X.1 0 19)) (-1 : Int32)) 29 (ix (X.1 0 19)) (0 : Int64)) 39 (ix (X.1 0 19)) (0 : Int32))).2.1 29 (ix (X.1 0 19)) = (0 : Int64) from wL_at _ _ _ _).trans (show ((wI (wL (wI (wI (wI (wI (wI (wI (wI (wI (wI X 20 (ix (X.1 0 19)) p1) 21 (ix (X.1 0 19)) p2) 22 (ix (X.1 0 19)) p2) 23 (ix (X.1 0 19)) (-1 : Int32)) 24 (ix (X.1 0 19)) (-1 : Int32)) 25 (ix (X.1 0 19)) (-1 : Int32)) 26 (ix (X.1 0 19)) (0 : Int32)) 27 (ix (X.1 0 19)) (0 : Int32)) 28 (ix (X.1 0 19)) (-1 : Int32)) 29 (ix (X.1 0 19)) (0 : Int64)) 39 (ix (X.1 0 19)) (0 : Int32))).2.1 29 (ix (X.1 0 19)) = (0 : Int64) from wL_at _ _ _ _).symm
  have c0 : ∀ i, i ≠ ix (X.1 0 19) → ((wI (wI (wL (wI (wI (wI (wI (wI (wI (wI (wI (wI X 20 (ix (X.1 0 19)) p1) 21 (ix (X.1 0 19)) p2) 22 (ix (X.1 0 19)) p2) 23 (ix (X.1 0 19)) (-1 : Int32)) 24 (ix (X.1 0 19)) (-1 : Int32)) 25 (ix (X.1 0 19)) (-1 : Int32)) 26 (ix (X.1 0 19)) (0 : Int32)) 27 (ix (X.1 0 19)) (0 : Int32)) 28 (ix (X.1 0 19)) (-1 : Int32)) 29 (ix (X.1 0 19)) (0 : Int64)) 39 (ix (X.1 0 19)) (0 : Int32)) 0 19 x3)).1 20 i = X.1 20 i ∧ ((wI (wI (wL (wI (wI (wI (wI (wI (wI (wI (wI (wI X 20 (ix (X.1 0 19)) p1) 21 (ix (X.1 0 19)) p2) 22 (ix (X.1 0 19)) p2) 23 (ix (X.1 0 19)) (-1 : Int32)) 24 (ix (X.1 0 19)) (-1 : Int32)) 25 (ix (X.1 0 19)) (-1 : Int32)) 26 (ix (X.1 0 19)) (0 : Int32)) 27 (ix (X.1 0 19)) (0 : Int32)) 28 (ix (X.1 0 19)) (-1 : Int32)) 29 (ix (X.1 0 19)) (0 : Int64)) 39 (ix (X.1 0 19)) (0 : Int32)) 0 19 x3)).1 23 i = X.1 23 i ∧ ((wI (wI (wL (wI (wI (wI (wI (wI (wI (wI (wI (wI X 20 (ix (X.1 0 19)) p1) 21 (ix (X.1 0 19)) p2) 22 (ix (X.1 0 19)) p2) 23 (ix (X.1 0 19)) (-1 : Int32)) 24 (ix (X.1 0 19)) (-1 : Int32)) 25 (ix (X.1 0 19)) (-1 : Int32)) 26 (ix (X.1 0 19)) (0 : Int32)) 27 (ix (X.1 0 19)) (0 : Int32)) 28 (ix (X.1 0 19)) (-1 : Int32)) 29 (ix (X.1 0 19)) (0 : Int64)) 39 (ix (X.1 0 19)) (0 : Int32)) 0 19 x3)).1 24 i = X.1 24 i ∧ ((wI (wI (wL (wI (wI (wI (wI (wI (wI (wI (wI (wI X 20 (ix (X.1 0 19)) p1) 21 (ix (X.1 0 19)) p2) 22 (ix (X.1 0 19)) p2) 23 (ix (X.1 0 19)) (-1 : Int32)) 24 (ix (X.1 0 19)) (-1 : Int32)) 25 (ix (X.1 0 19)) (-1 : Int32)) 26 (ix (X.1 0 19)) (0 : Int32)) 27 (ix (X.1 0 19)) (0 : Int32)) 28 (ix (X.1 0 19)) (-1 : Int32)) 29 (ix (X.1 0 19)) (0 : Int64)) 39 (ix (X.1 0 19)) (0 : Int32)) 0 19 x3)).1 25 i = X.1 25 i ∧ ((wI (wI (wL (wI (wI (wI (wI (wI (wI (wI (wI (wI X 20 (ix (X.1 0 19)) p1) 21 (ix (X.1 0 19)) p2) 22 (ix (X.1 0 19)) p2) 23 (ix (X.1 0 19)) (-1 : Int32)) 24 (ix (X.1 0 19)) (-1 : Int32)) 25 (ix (X.1 0 19)) (-1 : Int32)) 26 (ix (X.1 0 19)) (0 : Int32)) 27 (ix (X.1 0 19)) (0 : Int32)) 28 (ix (X.1 0 19)) (-1 : Int32)) 29 (ix (X.1 0 19)) (0 : Int64)) 39 (ix (X.1 0 19)) (0 : Int32)) 0 19 x3)).1 26 i = X.1 26 i ∧ ((wI (wI (wL (wI (wI (wI (wI (wI (wI (wI (wI (wI X 20 (ix (X.1 0 19)) p1) 21 (ix (X.1 0 19)) p2) 22 (ix (X.1 0 19)) p2) 23 (ix (X.1 0 19)) (-1 : Int32)) 24 (ix (X.1 0 19)) (-1 : Int32)) 25 (ix (X.1 0 19)) (-1 : Int32)) 26 (ix (X.1 0 19)) (0 : Int32)) 27 (ix (X.1 0 19)) (0 : Int32)) 28 (ix (X.1 0 19)) (-1 : Int32)) 29 (ix (X.1 0 19)) (0 : Int64)) 39 (ix (X.1 0 19)) (0 : Int32)) 0 19 x3)).1 27 i = X.1 27 i ∧ ((wI (wI (wL (wI (wI (wI (wI (wI (wI (wI (wI (wI X 20 (ix (X.1 0 19)) p1) 21 (ix (X.1 0 19)) p2) 22 (ix (X.1 0 19)) p2) 23 (ix (X.1 0 19)) (-1 : Int32)) 24 (ix (X.1 0 19)) (-1 : Int32)) 25 (ix (X.1 0 19)) (-1 : Int32)) 26 (ix (X.1 0 19)) (0 : Int32)) 27 (ix (X.1 0 19)) (0 : Int32)) 28 (ix (X.1 0 19)) (-1 : Int32)) 29 (ix (X.1 0 19)) (0 : Int64)) 39 (ix (X.1 0 19)) (0 : Int32)) 0 19 x3)).1 28 i = X.1 28 i := by
    intro i hi
    exact ⟨(show (wI X 20 (ix (X.1 0 19)) p1).1 20 i = X.1 20 i from wI_ne _ _ _ _ _ _ (fun q => hi q.2)), (show (wI X 23 (ix (X.1 0 19)) (-1 : Int32)).1 23 i = X.1 23 i from wI_ne _ _ _ _ _ _ (fun q => hi q.2)), (show (wI X 24 (ix (X.1 0 19)) (-1 : Int32)).1 24 i = X.1 24 i from wI_ne _ _ _ _ _ _ (fun q => hi q.2)), (show (wI X 25 (ix (X.1 0 19)) (-1 : Int32)).1 25 i = X.1 25 i from wI_ne _ _ _ _ _ _ (fun q => hi q.2)), (show (wI X 26 (ix (X.1 0 19)) (0 : Int32)).1 26 i = X.1 26 i from wI_ne _ _ _ _ _ _ (fun q => hi q.2)), (show (wI X 27 (ix (X.1 0 19)) (0 : Int32)).1 27 i = X.1 27 i from wI_ne _ _ _ _ _ _ (fun q => hi q.2)), (show (wI X 28 (ix (X.1 0 19)) (-1 : Int32)).1 28 i = X.1 28 i from wI_ne _ _ _ _ _ _ (fun q => hi q.2))⟩
  have c1 : ∀ i, i ≠ ix (X.1 0 19) → ((wI (wI (wL (wI (wI (wI (wI (wI (wI (wI (wI (wI X 20 (ix (X.1 0 19)) p1) 21 (ix (X.1 0 19)) p2) 22 (ix (X.1 0 19)) p2) 23 (ix (X.1 0 19)) (-1 : Int32)) 24 (ix (X.1 0 19)) (-1 : Int32)) 25 (ix (X.1 0 19)) (-1 : Int32)) 26 (ix (X.1 0 19)) (0 : Int32)) 27 (ix (X.1 0 19)) (0 : Int32)) 28 (ix (X.1 0 19)) (-1 : Int32)) 29 (ix (X.1 0 19)) (0 : Int64)) 39 (ix (X.1 0 19)) (0 : Int32)) 0 19 x3)).1 21 i = X.1 21 i := by
    intro i hi
    exact (show (wI X 21 (ix (X.1 0 19)) p2).1 21 i = X.1 21 i from wI_ne _ _ _ _ _ _ (fun q => hi q.2))
  exact ok2.ret ⟨eA ▸ ((((((((((((Fr.rf.wI 0 19 _ (show (19 : Nat) ∈ [19, 4000, 4200, 4400, 4600, 4800, 5000, 5200, 5400, 5600, 5800, 7800] from by decide)).wI 20 _ _ (show (4000 : Nat) ∈ [19, 4000, 4200, 4400, 4600, 4800, 5000, 5200, 5400, 5600, 5800, 7800] from by decide)).wI 21 _ _ (show (4200 : Nat) ∈ [19, 4000, 4200, 4400, 4600, 4800, 5000, 5200, 5400, 5600, 5800, 7800] from by decide)).wI 22 _ _ (show (4400 : Nat) ∈ [19, 4000, 4200, 4400, 4600, 4800, 5000, 5200, 5400, 5600, 5800, 7800] from by decide)).wI 23 _ _ (show (4600 : Nat) ∈ [19, 4000, 4200, 4400, 4600, 4800, 5000, 5200, 5400, 5600, 5800, 7800] from by decide)).wI 24 _ _ (show (4800 : Nat) ∈ [19, 4000, 4200, 4400, 4600, 4800, 5000, 5200, 5400, 5600, 5800, 7800] from by decide)).wI 25 _ _ (show (5000 : Nat) ∈ [19, 4000, 4200, 4400, 4600, 4800, 5000, 5200, 5400, 5600, 5800, 7800] from by decide)).wI 26 _ _ (show (5200 : Nat) ∈ [19, 4000, 4200, 4400, 4600, 4800, 5000, 5200, 5400, 5600, 5800, 7800] from by decide)).wI 27 _ _ (show (5400 : Nat) ∈ [19, 4000, 4200, 4400, 4600, 4800, 5000, 5200, 5400, 5600, 5800, 7800] from by decide)).wI 28 _ _ (show (5600 : Nat) ∈ [19, 4000, 4200, 4400, 4600, 4800, 5000, 5200, 5400, 5600, 5800, 7800] from by decide)).wL 29 _ _ (show (5800 : Nat) ∈ [19, 4000, 4200, 4400, 4600, 4800, 5000, 5200, 5400, 5600, 5800, 7800] from by decide)).wI 39 _ _ (show (7800 : Nat) ∈ [19, 4000, 4200, 4400, 4600, 4800, 5000, 5200, 5400, 5600, 5800, 7800] from by decide)), eAt ▸ ((((((((((((Fr.rf.wI 0 19 _ (show (19 : Nat) ∈ [19, 4000, 4200, 4400, 4600, 4800, 5000, 5200, 5400, 5600, 5800, 7800] from by decide)).wI 20 _ _ (show (4000 : Nat) ∈ [19, 4000, 4200, 4400, 4600, 4800, 5000, 5200, 5400, 5600, 5800, 7800] from by decide)).wI 21 _ _ (show (4200 : Nat) ∈ [19, 4000, 4200, 4400, 4600, 4800, 5000, 5200, 5400, 5600, 5800, 7800] from by decide)).wI 22 _ _ (show (4400 : Nat) ∈ [19, 4000, 4200, 4400, 4600, 4800, 5000, 5200, 5400, 5600, 5800, 7800] from by decide)).wI 23 _ _ (show (4600 : Nat) ∈ [19, 4000, 4200, 4400, 4600, 4800, 5000, 5200, 5400, 5600, 5800, 7800] from by decide)).wI 24 _ _ (show (4800 : Nat) ∈ [19, 4000, 4200, 4400, 4600, 4800, 5000, 5200, 5400, 5600, 5800, 7800] from by decide)).wI 25 _ _ (show (5000 : Nat) ∈ [19, 4000, 4200, 4400, 4600, 4800, 5000, 5200, 5400, 5600, 5800, 7800] from by decide)).wI 26 _ _ (show (5200 : Nat) ∈ [19, 4000, 4200, 4400, 4600, 4800, 5000, 5200, 5400, 5600, 5800, 7800] from by decide)).wI 27 _ _ (show (5400 : Nat) ∈ [19, 4000, 4200, 4400, 4600, 4800, 5000, 5200, 5400, 5600, 5800, 7800] from by decide)).wI 28 _ _ (show (5600 : Nat) ∈ [19, 4000, 4200, 4400, 4600, 4800, 5000, 5200, 5400, 5600, 5800, 7800] from by decide)).wL 29 _ _ (show (5800 : Nat) ∈ [19, 4000, 4200, 4400, 4600, 4800, 5000, 5200, 5400, 5600, 5800, 7800] from by decide)).wI 39 _ _ (show (7800 : Nat) ∈ [19, 4000, 4200, 4400, 4600, 4800, 5000, 5200, 5400, 5600, 5800, 7800] from by decide)), hA, ⟨rfl, (show (((wI (wI (wL (wI (wI (wI (wI (wI (wI (wI (wI (wI X 20 (ix (X.1 0 19)) p1) 21 (ix (X.1 0 19)) p2) 22 (ix (X.1 0 19)) p2) 23 (ix (X.1 0 19)) (-1 : Int32)) 24 (ix (X.1 0 19)) (-1 : Int32)) 25 (ix (X.1 0 19)) (-1 : Int32)) 26 (ix (X.1 0 19)) (0 : Int32)) 27 (ix (X.1 0 19)) (0 : Int32)) 28 (ix (X.1 0 19)) (-1 : Int32)) 29 (ix (X.1 0 19)) (0 : Int64)) 39 (ix (X.1 0 19)) (0 : Int32)) 0 19 x3)).1 0 19).toInt = _ from by rw [wI_at]; exact hx3)⟩, ⟨rfl, (show (wI X 20 (ix (X.1 0 19)) p1).1 20 (ix (X.1 0 19)) = p1 from wI_at _ _ _ _), (show (wI X 23 (ix (X.1 0 19)) (-1 : Int32)).1 23 (ix (X.1 0 19)) = (-1 : Int32) from wI_at _ _ _ _), (show (wI X 24 (ix (X.1 0 19)) (-1 : Int32)).1 24 (ix (X.1 0 19)) = (-1 : Int32) from wI_at _ _ _ _), (show (wI X 25 (ix (X.1 0 19)) (-1 : Int32)).1 25 (ix (X.1 0 19)) = (-1 : Int32) from wI_at _ _ _ _), (show (wI X 26 (ix (X.1 0 19)) (0 : Int32)).1 26 (ix (X.1 0 19)) = (0 : Int32) from wI_at _ _ _ _), (show (wI X 27 (ix (X.1 0 19)) (0 : Int32)).1 27 (ix (X.1 0 19)) = (0 : Int32) from wI_at _ _ _ _), (show (wI X 28 (ix (X.1 0 19)) (-1 : Int32)).1 28 (ix (X.1 0 19)) = (-1 : Int32) from wI_at _ _ _ _), c0⟩, (show (wI X 21 (ix (X.1 0 19)) p2).1 21 (ix (X.1 0 19)) = p2 from wI_at _ _ _ _), c1⟩

theorem t_f_enter (p1 p2 : Int32) (X Xt : St) (lv : Nat) (P : Int) (hag : AG lv P X Xt) (hlv : 3 ≤ lv) (hn : 0 ≤ (X.1 0 22).toInt ∧ (X.1 0 22).toInt ≤ 399) : ok2 (f_enter p1 p2 X) (f_enter p1 p2 Xt) (fun r X1 X1t => Fr YR [22, 7000, 7200, 7400, 7600] X X1 ∧ Fr YR [22, 7000, 7200, 7400, 7600] Xt X1t ∧ AG lv P X1 X1t ∧ ((X1.1 0 22).toInt = (X.1 0 22).toInt + 1) ∧ (ENT X X1 p1 p2)) := by
  unfold f_enter
  have e22 : Xt.1 0 22 = X.1 0 22 := hag.s3 22 (by decide) hlv
  have e20 : Xt.1 0 20 = X.1 0 20 := hag.s2 20 (by decide) (Nat.le_trans (by decide) hlv)
  have hc : inR (X.1 0 22) 400 := ⟨hn.1, show (X.1 0 22).toInt < ((400 : Nat) : Int) by omega⟩
  refine ok2.letE (v1 := X.1 0 22) rfl e22 (ok2.ck hc (ok2.letV ?_))
  refine ok2.letE (v1 := X.1 0 22) rfl e22 (ok2.ck hc (ok2.letV ?_))
  refine ok2.letE (v1 := X.1 0 22) rfl e22 (ok2.ck hc (ok2.letV ?_))
  refine ok2.letE (v1 := X.1 0 22) rfl e22 (ok2.letE (v1 := X.1 0 20) rfl e20 (ok2.ck hc (ok2.letV ?_)))
  refine ok2.letE (v1 := X.1 0 22) rfl e22 (ok2.add (by rw [show (1 : Int32).toInt = 1 from rfl]; omega) (fun x3 hx3 => ?_))
  have hx3 : x3.toInt = (X.1 0 22).toInt + 1 := hx3
  refine ok2.letV ?_
  have hA : AG lv P (wI (wI (wI (wI (wI X 35 (ix (X.1 0 22)) p1) 36 (ix (X.1 0 22)) p2) 37 (ix (X.1 0 22)) (-1 : Int32)) 38 (ix (X.1 0 22)) (X.1 0 20)) 0 22 x3) (wI (wI (wI (wI (wI Xt 35 (ix (X.1 0 22)) p1) 36 (ix (X.1 0 22)) p2) 37 (ix (X.1 0 22)) (-1 : Int32)) 38 (ix (X.1 0 22)) (X.1 0 20)) 0 22 x3) := by
    refine AG.up (z := X.1 0 22) ((((hag.wI 35 _ _ (Or.inl (by decide))).wI 36 _ _ (Or.inl (by decide))).wI 37 _ _ (Or.inl (by decide))).wI 38 _ _ (Or.inl (by decide))) 22 x3 (by decide) rfl hx3 hn.1 (fun e he => ?_) (fun e he => (ctL22 e he).elim)
    rcases ctI22 e he with rfl | rfl | rfl
    · exact (wI_at Xt 35 (ix (X.1 0 22)) p1).trans (wI_at X 35 (ix (X.1 0 22)) p1).symm
    · exact (wI_at Xt 36 (ix (X.1 0 22)) p2).trans (wI_at X 36 (ix (X.1 0 22)) p2).symm
    · exact (wI_at Xt 37 (ix (X.1 0 22)) (-1)).trans (wI_at X 37 (ix (X.1 0 22)) (-1)).symm
  exact ok2.ret ⟨(((((Fr.rf.wI 35 _ _ (show (7000 : Nat) ∈ [22, 7000, 7200, 7400, 7600] from by decide)).wI 36 _ _ (show (7200 : Nat) ∈ [22, 7000, 7200, 7400, 7600] from by decide)).wI 37 _ _ (show (7400 : Nat) ∈ [22, 7000, 7200, 7400, 7600] from by decide)).wI 38 _ _ (show (7600 : Nat) ∈ [22, 7000, 7200, 7400, 7600] from by decide)).wI 0 22 _ (show (22 : Nat) ∈ [22, 7000, 7200, 7400, 7600] from by decide)), (((((Fr.rf.wI 35 _ _ (show (7000 : Nat) ∈ [22, 7000, 7200, 7400, 7600] from by decide)).wI 36 _ _ (show (7200 : Nat) ∈ [22, 7000, 7200, 7400, 7600] from by decide)).wI 37 _ _ (show (7400 : Nat) ∈ [22, 7000, 7200, 7400, 7600] from by decide)).wI 38 _ _ (show (7600 : Nat) ∈ [22, 7000, 7200, 7400, 7600] from by decide)).wI 0 22 _ (show (22 : Nat) ∈ [22, 7000, 7200, 7400, 7600] from by decide)), hA, (show ((wI (wI (wI (wI (wI X 35 (ix (X.1 0 22)) p1) 36 (ix (X.1 0 22)) p2) 37 (ix (X.1 0 22)) (-1 : Int32)) 38 (ix (X.1 0 22)) (X.1 0 20)) 0 22 x3).1 0 22).toInt = _ from by rw [wI_at]; exact hx3), wI_at X 35 (ix (X.1 0 22)) p1, wI_at X 36 (ix (X.1 0 22)) p2, wI_at X 37 (ix (X.1 0 22)) (-1), fun i hi => ⟨(wI_ne X 35 _ p1 35 i (fun q => hi q.2)), (wI_ne X 36 _ p2 36 i (fun q => hi q.2)), (wI_ne X 37 _ (-1) 37 i (fun q => hi q.2))⟩⟩

theorem FS.mak {X X1 : St} {k r : Int32} {j hi : Nat} (h : MAK X X1 k r) (hF : Fr YR [19, 4000, 4200, 4400, 4600, 4800, 5000, 5200, 5400, 5600, 5800, 7800] X X1) (hh : hi ≤ ix (X.1 0 19)) : FS X X1 j hi := by
  obtain ⟨hr, -, -, -, -, -, -, -, ho⟩ := h
  refine ⟨fun i _ => ⟨hF.1 35 i (show (7000 : Nat) ∉ [19, 4000, 4200, 4400, 4600, 4800, 5000, 5200, 5400, 5600, 5800, 7800] from by decide), hF.1 36 i (show (7200 : Nat) ∉ [19, 4000, 4200, 4400, 4600, 4800, 5000, 5200, 5400, 5600, 5800, 7800] from by decide), hF.1 37 i (show (7400 : Nat) ∉ [19, 4000, 4200, 4400, 4600, 4800, 5000, 5200, 5400, 5600, 5800, 7800] from by decide)⟩, fun i q => ho i ?_⟩
  rw [hr]
  omega
theorem FS.ent {X X1 : St} {k n : Int32} {j hi : Nat} (h : ENT X X1 k n) (hF : Fr YR [22, 7000, 7200, 7400, 7600] X X1) (hh : j ≤ ix (X.1 0 22)) : FS X X1 j hi := by
  obtain ⟨-, -, -, ho⟩ := h
  exact ⟨fun i q => ho i (by omega), fun i _ => ⟨hF.1 20 i (show (4000 : Nat) ∉ [22, 7000, 7200, 7400, 7600] from by decide), hF.1 23 i (show (4600 : Nat) ∉ [22, 7000, 7200, 7400, 7600] from by decide), hF.1 24 i (show (4800 : Nat) ∉ [22, 7000, 7200, 7400, 7600] from by decide), hF.1 25 i (show (5000 : Nat) ∉ [22, 7000, 7200, 7400, 7600] from by decide), hF.1 26 i (show (5200 : Nat) ∉ [22, 7000, 7200, 7400, 7600] from by decide), hF.1 27 i (show (5400 : Nat) ∉ [22, 7000, 7200, 7400, 7600] from by decide), hF.1 28 i (show (5600 : Nat) ∉ [22, 7000, 7200, 7400, 7600] from by decide)⟩⟩
/-- a cell at a node from hi on, or of a frame from j on -/
theorem FS.w {X : St} {e k j hi : Nat} {v : Int32} (he : (e = 35 ∨ e = 36 ∨ e = 37) ∧ j ≤ k ∨ ¬ (e = 35 ∨ e = 36 ∨ e = 37) ∧ hi ≤ k) : FS X (wI X e k v) j hi := by
  have h1 : ∀ e1 i, ¬ (e1 = e ∧ i = k) → (wI X e k v).1 e1 i = X.1 e1 i := fun e1 i q => wI_ne _ _ _ _ _ _ q
  refine ⟨fun i q => ⟨h1 _ _ ?_, h1 _ _ ?_, h1 _ _ ?_⟩, fun i q => ⟨h1 _ _ ?_, h1 _ _ ?_, h1 _ _ ?_, h1 _ _ ?_, h1 _ _ ?_, h1 _ _ ?_, h1 _ _ ?_⟩⟩ <;> (rintro ⟨q1, q2⟩; omega)
def MF (X : St) (L : Nat) (S N : Int) (j cu : Nat) (sc nc lv tp mm : Int) : Prop := FI X L S j cu sc nc lv tp mm ∧ (X.1 0 22).toInt = j ∧ 1 ≤ j ∧ (X.1 0 20).toInt = sc ∧ (X.1 0 21).toInt = N + nc ∧ cu ≤ ix (X.1 0 19) ∧ 0 ≤ (X.1 0 19).toInt
def ME (X : St) (L : Nat) (S N : Int) : Prop := ∃ j sc nc lv tp, MF X L S N j (ix (X.1 0 19)) sc nc lv tp 1 ∧ ¬ tp = 15 ∧ ¬ tp = 16
def MP (X : St) (L : Nat) (S N : Int) : Prop := ∃ j sc nc lv tp, MF X L S N j (ix (X.1 0 19)) sc nc lv tp 0
def MH (X : St) (L : Nat) (S N : Int) (G : Nat → Int → Prop) : Prop := ∃ j cu sc nc lv tp, MF X L S N j cu sc nc lv tp 0 ∧ WH X (X.1 0 24) cu (ix (X.1 0 19)) sc ∧ (X.1 28 (ix (X.1 0 24))).toInt < 0 ∧ G cu tp
def GB (X : St) : Nat → Int → Prop := fun _ _ => (X.1 20 (ix (X.1 0 24))).toInt = 10 → (X.1 25 (ix (X.1 0 24))).toInt < 0
def GA : Nat → Int → Prop := fun _ _ => True
def GD : Nat → Int → Prop := fun _ tp => ¬ tp = 15 ∧ ¬ tp = 16
def MM (X : St) (L : Nat) (S N : Int) : Prop := (X.1 0 9).toInt = 0 → ((X.1 0 22).toInt = 0 ∧ WH X (X.1 0 24) L (ix (X.1 0 19)) S ∧ (X.1 0 20).toInt = S ∧ (X.1 0 21).toInt = N) ∨ ((X.1 0 23).toInt = 0 ∧ ME X L S N) ∨ ((X.1 0 23).toInt = 1 ∧ MP X L S N) ∨ ((X.1 0 23).toInt = 2 ∧ MH X L S N (GB X)) ∨ ((X.1 0 23).toInt = 3 ∧ MH X L S N GA) ∨ (4 ≤ (X.1 0 23).toInt ∧ MH X L S N GD)
theorem MH.any {X : St} {L : Nat} {S N : Int} {G : Nat → Int → Prop} (h : MH X L S N G) : MH X L S N GA := by
  obtain ⟨j, cu, sc, nc, lv, tp, a, b, c, d⟩ := h
  exact ⟨j, cu, sc, nc, lv, tp, a, b, c, trivial⟩
theorem FR.top {X : St} {j lo cu : Nat} {s0 n0 l0 t0 sc nc lv mm : Int} (h : FR X j lo s0 n0 l0 t0 cu sc nc lv mm) : 0 ≤ (X.1 35 j).toInt ∧ (X.1 35 j).toInt ≤ 16 ∧ ((X.1 35 j).toInt = 0 → j = 0) ∧ (¬ (X.1 35 j).toInt = 0 → 0 ≤ (X.1 36 j).toInt ∧ ix (X.1 36 j) < cu ∧ 1 ≤ j) := by
  rcases h with h | ⟨a, b, c, d, e, h⟩
  · omega
  · rcases h with ⟨p1, p2, p3, p4, p5, h⟩ | ⟨p1, p2, p3, h⟩ | ⟨p1, p2, p3, p4, p5, p6, p7, p8, p9, p10⟩
    · rcases h with h | ⟨p, q, r, s, t, u, v⟩ | h | ⟨p, q, r, s⟩ | ⟨p, q, ⟨m, r, s⟩, t⟩ <;> omega
    · omega
    · omega
/-- the top frame as the code reads it -/
theorem MF.top {X : St} {L j cu : Nat} {S N sc nc lv tp mm : Int} {o : Int32} (h : MF X L S N j cu sc nc lv tp mm) (ho : o.toInt = (X.1 0 22).toInt - 1) : ix o + 1 = j ∧ tp = (X.1 35 (ix o)).toInt ∧ 0 ≤ tp ∧ tp ≤ 16 ∧ (tp = 0 → j = 1) ∧ (¬ tp = 0 → 0 ≤ (X.1 36 (ix o)).toInt ∧ (X.1 36 (ix o)).toInt < (X.1 0 19).toInt ∧ 2 ≤ j) := by
  obtain ⟨h1, h2, h3, h4, h5, h6, h7⟩ := h
  have e := ixc (z := o) (by omega)
  have e7 := ixc h7
  obtain ⟨i, rfl⟩ : ∃ i, j = i + 1 := ⟨j - 1, by omega⟩
  have ei : ix o = i := by omega
  rw [ei]
  obtain ⟨lo, s0, n0, l0, t0, q1, q2, q3⟩ := h1
  have q := q2.top
  refine ⟨rfl, q3, by omega, by omega, fun q4 => by omega, fun q4 => ?_⟩
  have q5 := q.2.2.2 (by omega)
  have := ixc q5.1
  omega
theorem MH.hand {X : St} {L : Nat} {S N : Int} {G : Nat → Int → Prop} (h : MH X L S N G) : 0 ≤ (X.1 0 24).toInt ∧ (X.1 0 24).toInt < (X.1 0 19).toInt := by
  obtain ⟨j, cu, sc, nc, lv, tp, ⟨h1, h2, h3, h4, h5, h6, h7⟩, b, c, d⟩ := h
  have := b.2.bd
  have := ixc b.1
  have := ixc h7
  exact ⟨b.1, by omega⟩
theorem MF.num {X : St} {L j cu : Nat} {S N sc nc lv tp mm : Int} (h : MF X L S N j cu sc nc lv tp mm) : 1 ≤ (X.1 0 22).toInt ∧ (X.1 0 22).toInt ≤ 4 * ((X.1 0 21).toInt - N) + 4 ∧ N ≤ (X.1 0 21).toInt ∧ S ≤ (X.1 0 20).toInt ∧ (X.1 0 20).toInt ≤ S + ((X.1 0 21).toInt - N) ∧ (tp = 1 → (X.1 0 20).toInt ≤ S + ((X.1 0 21).toInt - N) - 1) := by
  obtain ⟨h1, h2, h3, h4, h5, h6, h7⟩ := h
  have := h1.num
  omega
/-- nodes begin in the text; a let's told kind is a kind, and no larger than a text -/
def LVS (X : St) (e : Nat) : Prop := ∀ i : Nat, (i : Int) < (X.1 0 19).toInt → i ≠ e → (X.1 20 i).toInt = 14 → 2 ≤ (levF (X.1 26 i).toInt64).toInt
def FLe (X : St) (e : Nat) : Prop := (∀ i : Nat, (i : Int) < (X.1 0 19).toInt → (X.1 21 i).toInt ≤ (X.1 0 1).toInt) ∧ (∀ i : Nat, (i : Int) < (X.1 0 19).toInt → (X.1 20 i).toInt = 17 → (X.1 25 i).toInt < 0 ∨ ((X.1 25 i).toInt < (X.1 0 13).toInt ∧ ((ksz X (ix (X.1 25 i)) : Nat) : Int) ≤ 3000)) ∧ LVS X e
/-- .. and a sum's sign is one -/
def FLa (X : St) : Prop := FLe X 9999
def FLw (X : St) : Prop := (X.1 0 9).toInt = 0 → FLa X
theorem kz_fr {X Y : St} {L : List Nat} (hF : Fr YR L X Y) (hl : 1000 ∉ L ∧ 1200 ∉ L ∧ 1800 ∉ L) : ∀ m k, kz Y m k = kz X m k := by
  intro m
  induction m with
  | zero => intro k; rfl
  | succ m ih =>
    intro k
    show 1 + sumN (fun i => kz Y m (ix (Y.1 9 (ix (Y.1 6 k) + i)))) (ix (Y.1 5 k)) = 1 + sumN (fun i => kz X m (ix (X.1 9 (ix (X.1 6 k) + i)))) (ix (X.1 5 k))
    rw [hF.1 6 k hl.2.1, hF.1 5 k hl.1, sumN_congr _ (fun i _ => by rw [hF.1 9 _ hl.2.2, ih])]
theorem ksz_fr {X Y : St} {L : List Nat} (hF : Fr YR L X Y) (hl : 1000 ∉ L ∧ 1200 ∉ L ∧ 1800 ∉ L) (k : Nat) : ksz Y k = ksz X k := kz_fr hF hl _ k
theorem FLe.fr {X Y : St} {e : Nat} {L : List Nat} (h : FLe X e) (hF : Fr YR L X Y) (hl : (1 ∉ L ∧ 19 ∉ L ∧ 13 ∉ L ∧ 4000 ∉ L ∧ 4200 ∉ L ∧ 5000 ∉ L) ∧ 1000 ∉ L ∧ 1200 ∉ L ∧ 1800 ∉ L) (hl2 : 5200 ∉ L) : FLe Y e := by
  refine ⟨fun i hi => ?_, fun i hi h17 => ?_, fun i hi he h14 => ?_⟩
  · rw [hF.1 0 19 hl.1.2.1] at hi
    rw [hF.1 21 i hl.1.2.2.2.2.1, hF.1 0 1 hl.1.1]
    exact h.1 i hi
  · rw [hF.1 0 19 hl.1.2.1] at hi
    rw [hF.1 20 i hl.1.2.2.2.1] at h17
    rw [hF.1 25 i hl.1.2.2.2.2.2, hF.1 0 13 hl.1.2.2.1, ksz_fr hF hl.2]
    exact h.2.1 i hi h17
  · rw [hF.1 0 19 hl.1.2.1] at hi
    rw [hF.1 20 i hl.1.2.2.2.1] at h14
    rw [hF.1 26 i hl2]
    exact h.2.2 i hi he h14
theorem FLa.fr {X Y : St} {L : List Nat} (h : FLa X) (hF : Fr YR L X Y) (hl : ((1 ∉ L ∧ 19 ∉ L ∧ 13 ∉ L ∧ 4000 ∉ L ∧ 4200 ∉ L ∧ 5000 ∉ L) ∧ 1000 ∉ L ∧ 1200 ∉ L ∧ 1800 ∉ L) ∧ 5200 ∉ L) : FLa Y := FLe.fr h hF hl.1 hl.2
theorem FLe.kx {X Y : St} {e : Nat} {L : List Nat} (h : FLe X e) (hT : KT X) (hTY : KT Y) (hK : KX X Y) (hF : Fr YR L X Y) (hl : (1 ∉ L ∧ 19 ∉ L ∧ 4000 ∉ L ∧ 4200 ∉ L ∧ 5000 ∉ L) ∧ 5200 ∉ L) : FLe Y e := by
  obtain ⟨hl, hl2⟩ := hl
  refine ⟨fun i hi => ?_, fun i hi h17 => ?_, fun i hi he h14 => ?_⟩
  · rw [hF.1 0 19 hl.2.1] at hi
    rw [hF.1 21 i hl.2.2.2.1, hF.1 0 1 hl.1]
    exact h.1 i hi
  · rw [hF.1 0 19 hl.2.1] at hi
    rw [hF.1 20 i hl.2.2.1] at h17
    rw [hF.1 25 i hl.2.2.2.2]
    by_cases q0 : (X.1 25 i).toInt < 0
    · exact Or.inl q0
    · have q := (h.2.1 i hi h17).resolve_left q0
      have e := ixc (z := X.1 25 i) (by omega)
      have := hK.1
      rw [ksz_kx hT hTY hK _ (by omega)]
      exact Or.inr ⟨by omega, q.2⟩
  · rw [hF.1 0 19 hl.2.1] at hi
    rw [hF.1 20 i hl.2.2.1] at h14
    rw [hF.1 26 i hl2]
    exact h.2.2 i hi he h14
theorem FLa.kx {X Y : St} {L : List Nat} (h : FLa X) (hT : KT X) (hTY : KT Y) (hK : KX X Y) (hF : Fr YR L X Y) (hl : (1 ∉ L ∧ 19 ∉ L ∧ 4000 ∉ L ∧ 4200 ∉ L ∧ 5000 ∉ L) ∧ 5200 ∉ L) : FLa Y := FLe.kx h hT hTY hK hF hl
theorem FLa.mak14 {X Y : St} {k p r : Int32} {L : List Nat} (h : FLa X) (hm : MAK X Y k r) (hf : FST X Y p r) (hF : Fr YR L X Y) (hl : 1 ∉ L ∧ 13 ∉ L ∧ 1000 ∉ L ∧ 1200 ∉ L ∧ 1800 ∉ L) (h0 : 0 ≤ (X.1 0 19).toInt) (h19 : (Y.1 0 19).toInt = (X.1 0 19).toInt + 1) (hp : p.toInt ≤ (X.1 0 1).toInt) (h39 : (X.1 0 19).toInt ≤ 3100) : FLe Y (ix r) := by
  obtain ⟨rfl, m20, m23, m24, m25, m26, m27, m28, mo⟩ := hm
  have e := ixc h0
  refine ⟨fun i hi => ?_, fun i hi h17 => ?_, fun i hi he h14 => ?_⟩
  · rw [hF.1 0 1 hl.1]
    by_cases q : i = ix (X.1 0 19)
    · rw [q, hf.1]
      exact hp
    · rw [hf.2 i q]
      exact h.1 i (by omega)
  · by_cases q : i = ix (X.1 0 19)
    · left
      rw [q, m25]
      decide
    · obtain ⟨a, -, -, b, -⟩ := mo i q
      rw [a] at h17
      rw [b, hF.1 0 13 hl.2.1, ksz_fr hF hl.2.2]
      exact h.2.1 i (by omega) h17
  · obtain ⟨a, -, -, -, c, -⟩ := mo i he
    rw [a] at h14
    rw [c]
    exact h.2.2 i (by omega) (by omega) h14
/-- the node left out has its sign -/
theorem FLe.done {X : St} {e : Nat} (h : FLe X e) (he : ¬ (X.1 20 e).toInt = 14 ∨ 2 ≤ (levF (X.1 26 e).toInt64).toInt) : FLa X := by
  refine ⟨h.1, h.2.1, fun i hi _ h14 => ?_⟩
  by_cases q : i = e
  · subst q
    exact he.resolve_left (fun g => g h14)
  · exact h.2.2 i hi q h14
theorem FLa.mak {X Y : St} {k p r : Int32} {L : List Nat} (h : FLa X) (hm : MAK X Y k r) (hf : FST X Y p r) (hF : Fr YR L X Y) (hl : 1 ∉ L ∧ 13 ∉ L ∧ 1000 ∉ L ∧ 1200 ∉ L ∧ 1800 ∉ L) (h0 : 0 ≤ (X.1 0 19).toInt) (h19 : (Y.1 0 19).toInt = (X.1 0 19).toInt + 1) (hp : p.toInt ≤ (X.1 0 1).toInt) (h39 : (X.1 0 19).toInt ≤ 3100) (hk : ¬ k.toInt = 14) : FLa Y := by
  refine (h.mak14 hm hf hF hl h0 h19 hp h39).done (Or.inl ?_)
  obtain ⟨rfl, m20, -⟩ := hm
  rw [m20]
  exact hk
theorem FLe.c {X : St} {k e : Nat} {v : Int32} (h : FLe X e) (hv : ¬ (X.1 20 k).toInt = 17 ∨ v.toInt < 0 ∨ (v.toInt < (X.1 0 13).toInt ∧ ((ksz X (ix v) : Nat) : Int) ≤ 3000)) : FLe (wI X 25 k v) e := by
  have hF : Fr YR [5000] X (wI X 25 k v) := Fr.rf.wI 25 k v (show (5000 : Nat) ∈ [5000] from by decide)
  refine ⟨fun i hi => ?_, fun i hi h17 => ?_, fun i hi he h14 => ?_⟩
  · rw [hF.1 0 19 (by decide)] at hi
    rw [hF.1 21 i (show (4200 : Nat) ∉ [5000] from by decide), hF.1 0 1 (by decide)]
    exact h.1 i hi
  · rw [hF.1 0 19 (by decide)] at hi
    rw [hF.1 20 i (show (4000 : Nat) ∉ [5000] from by decide)] at h17
    rw [hF.1 0 13 (by decide), ksz_fr hF (by decide)]
    by_cases q : i = k
    · subst q
      rw [wI_at]
      rcases hv with hv | hv | hv
      · exact absurd h17 hv
      · exact Or.inl hv
      · exact Or.inr hv
    · rw [wI_ne _ _ _ _ _ _ (fun g => q g.2)]
      exact h.2.1 i hi h17
  · rw [hF.1 0 19 (by decide)] at hi
    rw [hF.1 20 i (show (4000 : Nat) ∉ [5000] from by decide)] at h14
    rw [hF.1 26 i (show (5200 : Nat) ∉ [5000] from by decide)]
    exact h.2.2 i hi he h14
theorem FLa.c {X : St} {k : Nat} {v : Int32} (h : FLa X) (hv : ¬ (X.1 20 k).toInt = 17 ∨ v.toInt < 0 ∨ (v.toInt < (X.1 0 13).toInt ∧ ((ksz X (ix v) : Nat) : Int) ≤ 3000)) : FLa (wI X 25 k v) := FLe.c h hv
/-- a node's number is written -/
theorem FLe.v {X : St} {k e : Nat} {v : Int32} (h : FLe X e) (hv : ¬ (X.1 20 k).toInt = 14 ∨ 2 ≤ (levF v.toInt64).toInt) (he : e = k ∨ e = 9999) : FLa (wI X 26 k v) := by
  have hF : Fr YR [5200] X (wI X 26 k v) := Fr.rf.wI 26 k v (show (5200 : Nat) ∈ [5200] from by decide)
  refine ⟨fun i hi => ?_, fun i hi h17 => ?_, fun i hi h9 h14 => ?_⟩
  · rw [hF.1 0 19 (by decide)] at hi
    rw [hF.1 21 i (show (4200 : Nat) ∉ [5200] from by decide), hF.1 0 1 (by decide)]
    exact h.1 i hi
  · rw [hF.1 0 19 (by decide)] at hi
    rw [hF.1 20 i (show (4000 : Nat) ∉ [5200] from by decide)] at h17
    rw [hF.1 0 13 (by decide), hF.1 25 i (show (5000 : Nat) ∉ [5200] from by decide), ksz_fr hF (by decide)]
    exact h.2.1 i hi h17
  · rw [hF.1 0 19 (by decide)] at hi
    rw [hF.1 20 i (show (4000 : Nat) ∉ [5200] from by decide)] at h14
    by_cases q : i = k
    · subst q
      rw [wI_at]
      exact hv.resolve_left (fun g => g h14)
    · rw [wI_ne _ _ _ _ _ _ (fun g => q g.2)]
      exact h.2.2 i hi (by omega) h14
theorem FLa.v {X : St} {k : Nat} {v : Int32} (h : FLa X) (hv : ¬ (X.1 20 k).toInt = 14 ∨ 2 ≤ (levF v.toInt64).toInt) : FLa (wI X 26 k v) := FLe.v h hv (Or.inr rfl)
/-- numbers of other nodes than sums may change -/
theorem FLa.v3 {X Y : St} {L : List Nat} (h : FLa X) (hF : Fr YR L X Y) (hl : (1 ∉ L ∧ 19 ∉ L ∧ 13 ∉ L ∧ 4000 ∉ L ∧ 4200 ∉ L ∧ 5000 ∉ L) ∧ 1000 ∉ L ∧ 1200 ∉ L ∧ 1800 ∉ L) (h3 : ∀ i : Nat, ¬ (X.1 20 i).toInt = 3 → Y.1 26 i = X.1 26 i) : FLa Y := by
  refine ⟨fun i hi => ?_, fun i hi h17 => ?_, fun i hi he h14 => ?_⟩
  · rw [hF.1 0 19 hl.1.2.1] at hi
    rw [hF.1 21 i hl.1.2.2.2.2.1, hF.1 0 1 hl.1.1]
    exact h.1 i hi
  · rw [hF.1 0 19 hl.1.2.1] at hi
    rw [hF.1 20 i hl.1.2.2.2.1] at h17
    rw [hF.1 25 i hl.1.2.2.2.2.2, hF.1 0 13 hl.1.2.2.1, ksz_fr hF hl.2]
    exact h.2.1 i hi h17
  · rw [hF.1 0 19 hl.1.2.1] at hi
    rw [hF.1 20 i hl.1.2.2.2.1] at h14
    rw [h3 i (by omega)]
    exact h.2.2 i hi he h14
theorem FS.fr0 {X Y : St} {L : List Nat} {hi : Nat} (h : Fr YR L X Y) (hl : 4000 ∉ L ∧ 4600 ∉ L ∧ 4800 ∉ L ∧ 5000 ∉ L ∧ 5200 ∉ L ∧ 5400 ∉ L ∧ 5600 ∉ L) : FS X Y 0 hi := ⟨fun i q => absurd q (Nat.not_lt_zero i), fun i _ => ⟨h.1 20 i hl.1, h.1 23 i hl.2.1, h.1 24 i hl.2.2.1, h.1 25 i hl.2.2.2.1, h.1 26 i hl.2.2.2.2.1, h.1 27 i hl.2.2.2.2.2.1, h.1 28 i hl.2.2.2.2.2.2⟩⟩
theorem MF.low {X : St} {L j cu : Nat} {S N sc nc lv tp mm : Int} (h : MF X L S N j cu sc nc lv tp mm) : L ≤ ix (X.1 0 19) := by
  obtain ⟨h1, h2, h3, h4, h5, h6, h7⟩ := h
  have := h1.num
  omega
theorem ME.low {X : St} {L : Nat} {S N : Int} (h : ME X L S N) : L ≤ ix (X.1 0 19) := by
  obtain ⟨j, sc, nc, lv, tp, hM, -⟩ := h
  exact hM.low
theorem MP.low {X : St} {L : Nat} {S N : Int} (h : MP X L S N) : L ≤ ix (X.1 0 19) := by
  obtain ⟨j, sc, nc, lv, tp, hM⟩ := h
  exact hM.low
theorem MH.low {X : St} {L : Nat} {S N : Int} {G : Nat → Int → Prop} (h : MH X L S N G) : L ≤ ix (X.1 0 19) := by
  obtain ⟨j, cu, sc, nc, lv, tp, hM, -⟩ := h
  exact hM.low
theorem MH.topL {X : St} {L : Nat} {S N : Int} {G : Nat → Int → Prop} {o : Int32} (h : MH X L S N G) (ho : o.toInt = (X.1 0 22).toInt - 1) (hk : ¬ (X.1 35 (ix o)).toInt = 0) : L ≤ ix (X.1 36 (ix o)) := by
  obtain ⟨j, cu, sc, nc, lv, tp, ⟨h1, h2, h3, h4, h5, h6, h7⟩, -⟩ := h
  have eo := ixc (z := o) (by omega)
  obtain ⟨i, rfl⟩ : ∃ i, j = i + 1 := ⟨j - 1, by omega⟩
  have ei : ix o = i := by omega
  obtain ⟨lo, s0, n0, l0, t0, hB, hR, hT⟩ := h1
  rw [ei] at hk ⊢
  have hb := hB.num
  rcases hR with hR | ⟨a, b, c, d⟩
  · exact absurd hR.1 hk
  · omega
