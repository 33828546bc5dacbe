/-! tasks and orders -/
theorem lp_succ {γ : Type} (bot : γ) (step : γ → γ) (n : Nat) : lp bot step (n + 1) = step (lp bot step n) := rfl
/-- tasks L are laid on top -/
def TP (K : List Nat) (X Y : St) (L : List (Int32 × Int32 × Int32)) : Prop := Fr YR K X Y ∧ (Y.1 0 27).toInt = (X.1 0 27).toInt + L.length ∧ (∀ i : Nat, (i : Int) < (X.1 0 27).toInt → Y.1 48 i = X.1 48 i ∧ Y.1 49 i = X.1 49 i ∧ Y.1 50 i = X.1 50 i) ∧ ∀ j : Nat, ∀ x, L[j]? = some x → Y.1 48 (ix (X.1 0 27) + j) = x.1 ∧ Y.1 49 (ix (X.1 0 27) + j) = x.2.1 ∧ Y.1 50 (ix (X.1 0 27) + j) = x.2.2
theorem TP.nil (K : List Nat) (X : St) : TP K X X [] := ⟨Fr.rf, by show _ = _ + ((0 : Nat) : Int); omega, fun _ _ => ⟨rfl, rfl, rfl⟩, fun j x h => by cases h⟩
theorem t_task {K : List Nat} {X Y : St} {L : List (Int32 × Int32 × Int32)} (h : TP K X Y L) (hK : 27 ∈ K ∧ 9600 ∈ K ∧ 9800 ∈ K ∧ 10000 ∈ K) (h0 : 0 ≤ (X.1 0 27).toInt ∧ (X.1 0 27).toInt + L.length < 13000) (o n m : Int32) : ok (f_task o n m Y) (fun _ Z => TP K X Z (L ++ [(o, n, m)]) ∧ Fr YR [27, 9600, 9800, 10000] Y Z) := by
  obtain ⟨hF, h27, hlo, hL⟩ := h
  have e0 := ixc h0.1
  have e1 := ixc (z := Y.1 0 27) (by omega)
  have ek : ix (Y.1 0 27) = ix (X.1 0 27) + L.length := by omega
  have hc : inR (Y.1 0 27) 13000 := ⟨by omega, show (Y.1 0 27).toInt < ((13000 : Nat) : Int) by omega⟩
  unfold f_task
  refine ok.letE (v1 := Y.1 0 27) rfl (ok.ck hc (ok.letV ?_))
  refine ok.letE (v1 := Y.1 0 27) rfl (ok.ck hc (ok.letV ?_))
  refine ok.letE (v1 := Y.1 0 27) rfl (ok.ck hc (ok.letV ?_))
  refine ok.letE (v1 := Y.1 0 27) rfl (ok.add (by rw [show (1 : Int32).toInt = 1 from rfl]; omega) (fun x8 h8 => ?_))
  have h8 : x8.toInt = (Y.1 0 27).toInt + 1 := h8
  refine ok.letV (ok.ret ?_)
  have c48 : ∀ i, i ≠ (ix (Y.1 0 27)) → (wI (wI (wI (wI Y 48 (ix (Y.1 0 27)) o) 49 (ix (Y.1 0 27)) n) 50 (ix (Y.1 0 27)) m) 0 27 x8).1 48 i = Y.1 48 i := by
    intro i hi
    rw [wI_ne _ 0 _ _ 48 _ (by rintro ⟨q, -⟩; omega), wI_ne _ 50 _ _ 48 _ (by rintro ⟨q, -⟩; omega), wI_ne _ 49 _ _ 48 _ (by rintro ⟨q, -⟩; omega), wI_ne _ 48 _ _ 48 _ (fun q => hi q.2)]
  have c49 : ∀ i, i ≠ (ix (Y.1 0 27)) → (wI (wI (wI (wI Y 48 (ix (Y.1 0 27)) o) 49 (ix (Y.1 0 27)) n) 50 (ix (Y.1 0 27)) m) 0 27 x8).1 49 i = Y.1 49 i := by
    intro i hi
    rw [wI_ne _ 0 _ _ 49 _ (by rintro ⟨q, -⟩; omega), wI_ne _ 50 _ _ 49 _ (by rintro ⟨q, -⟩; omega), wI_ne _ 49 _ _ 49 _ (fun q => hi q.2), wI_ne _ 48 _ _ 49 _ (by rintro ⟨q, -⟩; omega)]
  have c50 : ∀ i, i ≠ (ix (Y.1 0 27)) → (wI (wI (wI (wI Y 48 (ix (Y.1 0 27)) o) 49 (ix (Y.1 0 27)) n) 50 (ix (Y.1 0 27)) m) 0 27 x8).1 50 i = Y.1 50 i := by
    intro i hi
    rw [wI_ne _ 0 _ _ 50 _ (by rintro ⟨q, -⟩; omega), wI_ne _ 50 _ _ 50 _ (fun q => hi q.2), wI_ne _ 49 _ _ 50 _ (by rintro ⟨q, -⟩; omega), wI_ne _ 48 _ _ 50 _ (by rintro ⟨q, -⟩; omega)]
  have d48 : (wI (wI (wI (wI Y 48 (ix (Y.1 0 27)) o) 49 (ix (Y.1 0 27)) n) 50 (ix (Y.1 0 27)) m) 0 27 x8).1 48 (ix (Y.1 0 27)) = o := by
    rw [wI_ne _ 0 _ _ 48 _ (by rintro ⟨q, -⟩; omega), wI_ne _ 50 _ _ 48 _ (by rintro ⟨q, -⟩; omega), wI_ne _ 49 _ _ 48 _ (by rintro ⟨q, -⟩; omega), wI_at]
  have d49 : (wI (wI (wI (wI Y 48 (ix (Y.1 0 27)) o) 49 (ix (Y.1 0 27)) n) 50 (ix (Y.1 0 27)) m) 0 27 x8).1 49 (ix (Y.1 0 27)) = n := by
    rw [wI_ne _ 0 _ _ 49 _ (by rintro ⟨q, -⟩; omega), wI_ne _ 50 _ _ 49 _ (by rintro ⟨q, -⟩; omega), wI_at]
  have d50 : (wI (wI (wI (wI Y 48 (ix (Y.1 0 27)) o) 49 (ix (Y.1 0 27)) n) 50 (ix (Y.1 0 27)) m) 0 27 x8).1 50 (ix (Y.1 0 27)) = m := by
    rw [wI_ne _ 0 _ _ 50 _ (by rintro ⟨q, -⟩; omega), wI_at]
  have hFZ : Fr YR K X (wI (wI (wI (wI Y 48 (ix (Y.1 0 27)) o) 49 (ix (Y.1 0 27)) n) 50 (ix (Y.1 0 27)) m) 0 27 x8) := (((hF.wI 48 _ _ (show (9600 : Nat) ∈ K from hK.2.1)).wI 49 _ _ (show (9800 : Nat) ∈ K from hK.2.2.1)).wI 50 _ _ (show (10000 : Nat) ∈ K from hK.2.2.2)).wI 0 27 _ (show (27 : Nat) ∈ K from hK.1)
  have hFY : Fr YR [27, 9600, 9800, 10000] Y (wI (wI (wI (wI Y 48 (ix (Y.1 0 27)) o) 49 (ix (Y.1 0 27)) n) 50 (ix (Y.1 0 27)) m) 0 27 x8) := (((Fr.rf.wI 48 _ _ (show (9600 : Nat) ∈ [27, 9600, 9800, 10000] from by decide)).wI 49 _ _ (show (9800 : Nat) ∈ [27, 9600, 9800, 10000] from by decide)).wI 50 _ _ (show (10000 : Nat) ∈ [27, 9600, 9800, 10000] from by decide)).wI 0 27 _ (show (27 : Nat) ∈ [27, 9600, 9800, 10000] from by decide)
  have d27 : (wI (wI (wI (wI Y 48 (ix (Y.1 0 27)) o) 49 (ix (Y.1 0 27)) n) 50 (ix (Y.1 0 27)) m) 0 27 x8).1 0 27 = x8 := wI_at _ 0 27 _
  obtain ⟨Z, hZ⟩ : ∃ Z : St, (wI (wI (wI (wI Y 48 (ix (Y.1 0 27)) o) 49 (ix (Y.1 0 27)) n) 50 (ix (Y.1 0 27)) m) 0 27 x8) = Z := ⟨_, rfl⟩
  rw [hZ] at c48 c49 c50 d48 d49 d50 hFZ hFY d27 ⊢
  refine ⟨⟨hFZ, by rw [d27, List.length_append]; show x8.toInt = _ + ((L.length + 1 : Nat) : Int); omega, fun i hi => ?_, fun j x hx => ?_⟩, hFY⟩
  · obtain ⟨a, b, c⟩ := hlo i hi
    rw [c48 i (by omega), c49 i (by omega), c50 i (by omega)]
    exact ⟨a, b, c⟩
  · by_cases q : j < L.length
    · rw [List.getElem?_append_left q] at hx
      rw [c48 _ (by omega), c49 _ (by omega), c50 _ (by omega)]
      exact hL j x hx
    · rw [List.getElem?_append_right (by omega)] at hx
      have q2 : j - L.length = 0 := by
        by_cases q3 : j - L.length = 0
        · exact q3
        · rw [List.getElem?_eq_none (by show 1 ≤ _; omega)] at hx
          cases hx
      rw [q2] at hx
      have q4 : ix (X.1 0 27) + j = ix (Y.1 0 27) := by omega
      rw [q4, d48, d49, d50]
      injection hx with hx
      rw [← hx]
      exact ⟨rfl, rfl, rfl⟩
/-- an order is laid -/
def ORD (X Y : St) (o n m : Int32) : Prop := Fr YR [26, 8000, 8200, 8400, 8600] X Y ∧ (Y.1 0 26).toInt = (X.1 0 26).toInt + 1 ∧ (Y.1 40 (ix (X.1 0 26)) = o ∧ Y.1 41 (ix (X.1 0 26)) = n ∧ Y.1 42 (ix (X.1 0 26)) = m ∧ Y.1 43 (ix (X.1 0 26)) = -1) ∧ ∀ i, i ≠ ix (X.1 0 26) → Y.1 40 i = X.1 40 i ∧ Y.1 41 i = X.1 41 i ∧ Y.1 42 i = X.1 42 i ∧ Y.1 43 i = X.1 43 i
theorem t_order {X : St} (h0 : 0 ≤ (X.1 0 26).toInt ∧ (X.1 0 26).toInt < 24000) (o n m : Int32) : ok (f_order o n m X) (fun _ Y => ORD X Y o n m) := by
  have hc : inR (X.1 0 26) 24000 := ⟨h0.1, show (X.1 0 26).toInt < ((24000 : Nat) : Int) by omega⟩
  unfold f_order
  refine ok.letE (v1 := X.1 0 26) rfl (ok.ck hc (ok.letV ?_))
  refine ok.letE (v1 := X.1 0 26) rfl (ok.ck hc (ok.letV ?_))
  refine ok.letE (v1 := X.1 0 26) rfl (ok.ck hc (ok.letV ?_))
  refine ok.letE (v1 := X.1 0 26) rfl (ok.ck hc (ok.letV ?_))
  refine ok.letE (v1 := X.1 0 26) rfl (ok.add (by rw [show (1 : Int32).toInt = 1 from rfl]; omega) (fun x8 h8 => ?_))
  have h8 : x8.toInt = (X.1 0 26).toInt + 1 := h8
  refine ok.letV (ok.ret ?_)
  have d40 : (wI (wI (wI (wI (wI X 40 (ix (X.1 0 26)) o) 41 (ix (X.1 0 26)) n) 42 (ix (X.1 0 26)) m) 43 (ix (X.1 0 26)) (-1)) 0 26 x8).1 40 (ix (X.1 0 26)) = o := by
    rw [wI_ne _ 0 _ _ 40 _ (by rintro ⟨q, -⟩; omega), wI_ne _ 43 _ _ 40 _ (by rintro ⟨q, -⟩; omega), wI_ne _ 42 _ _ 40 _ (by rintro ⟨q, -⟩; omega), wI_ne _ 41 _ _ 40 _ (by rintro ⟨q, -⟩; omega), wI_at]
  have c40 : ∀ i, i ≠ (ix (X.1 0 26)) → (wI (wI (wI (wI (wI X 40 (ix (X.1 0 26)) o) 41 (ix (X.1 0 26)) n) 42 (ix (X.1 0 26)) m) 43 (ix (X.1 0 26)) (-1)) 0 26 x8).1 40 i = X.1 40 i := by
    intro i hi
    rw [wI_ne _ 0 _ _ 40 _ (by rintro ⟨q, -⟩; omega), wI_ne _ 43 _ _ 40 _ (by rintro ⟨q, -⟩; omega), wI_ne _ 42 _ _ 40 _ (by rintro ⟨q, -⟩; omega), wI_ne _ 41 _ _ 40 _ (by rintro ⟨q, -⟩; omega), wI_ne _ 40 _ _ 40 _ (fun q => hi q.2)]
  have d41 : (wI (wI (wI (wI (wI X 40 (ix (X.1 0 26)) o) 41 (ix (X.1 0 26)) n) 42 (ix (X.1 0 26)) m) 43 (ix (X.1 0 26)) (-1)) 0 26 x8).1 41 (ix (X.1 0 26)) = n := by
    rw [wI_ne _ 0 _ _ 41 _ (by rintro ⟨q, -⟩; omega), wI_ne _ 43 _ _ 41 _ (by rintro ⟨q, -⟩; omega), wI_ne _ 42 _ _ 41 _ (by rintro ⟨q, -⟩; omega), wI_at]
  have c41 : ∀ i, i ≠ (ix (X.1 0 26)) → (wI (wI (wI (wI (wI X 40 (ix (X.1 0 26)) o) 41 (ix (X.1 0 26)) n) 42 (ix (X.1 0 26)) m) 43 (ix (X.1 0 26)) (-1)) 0 26 x8).1 41 i = X.1 41 i := by
    intro i hi
    rw [wI_ne _ 0 _ _ 41 _ (by rintro ⟨q, -⟩; omega), wI_ne _ 43 _ _ 41 _ (by rintro ⟨q, -⟩; omega), wI_ne _ 42 _ _ 41 _ (by rintro ⟨q, -⟩; omega), wI_ne _ 41 _ _ 41 _ (fun q => hi q.2), wI_ne _ 40 _ _ 41 _ (by rintro ⟨q, -⟩; omega)]
  have d42 : (wI (wI (wI (wI (wI X 40 (ix (X.1 0 26)) o) 41 (ix (X.1 0 26)) n) 42 (ix (X.1 0 26)) m) 43 (ix (X.1 0 26)) (-1)) 0 26 x8).1 42 (ix (X.1 0 26)) = m := by
    rw [wI_ne _ 0 _ _ 42 _ (by rintro ⟨q, -⟩; omega), wI_ne _ 43 _ _ 42 _ (by rintro ⟨q, -⟩; omega), wI_at]
  have c42 : ∀ i, i ≠ (ix (X.1 0 26)) → (wI (wI (wI (wI (wI X 40 (ix (X.1 0 26)) o) 41 (ix (X.1 0 26)) n) 42 (ix (X.1 0 26)) m) 43 (ix (X.1 0 26)) (-1)) 0 26 x8).1 42 i = X.1 42 i := by
    intro i hi
    rw [wI_ne _ 0 _ _ 42 _ (by rintro ⟨q, -⟩; omega), wI_ne _ 43 _ _ 42 _ (by rintro ⟨q, -⟩; omega), wI_ne _ 42 _ _ 42 _ (fun q => hi q.2), wI_ne _ 41 _ _ 42 _ (by rintro ⟨q, -⟩; omega), wI_ne _ 40 _ _ 42 _ (by rintro ⟨q, -⟩; omega)]
  have d43 : (wI (wI (wI (wI (wI X 40 (ix (X.1 0 26)) o) 41 (ix (X.1 0 26)) n) 42 (ix (X.1 0 26)) m) 43 (ix (X.1 0 26)) (-1)) 0 26 x8).1 43 (ix (X.1 0 26)) = (-1) := by
    rw [wI_ne _ 0 _ _ 43 _ (by rintro ⟨q, -⟩; omega), wI_at]
  have c43 : ∀ i, i ≠ (ix (X.1 0 26)) → (wI (wI (wI (wI (wI X 40 (ix (X.1 0 26)) o) 41 (ix (X.1 0 26)) n) 42 (ix (X.1 0 26)) m) 43 (ix (X.1 0 26)) (-1)) 0 26 x8).1 43 i = X.1 43 i := by
    intro i hi
    rw [wI_ne _ 0 _ _ 43 _ (by rintro ⟨q, -⟩; omega), wI_ne _ 43 _ _ 43 _ (fun q => hi q.2), wI_ne _ 42 _ _ 43 _ (by rintro ⟨q, -⟩; omega), wI_ne _ 41 _ _ 43 _ (by rintro ⟨q, -⟩; omega), wI_ne _ 40 _ _ 43 _ (by rintro ⟨q, -⟩; omega)]
  have hFZ : Fr YR [26, 8000, 8200, 8400, 8600] X (wI (wI (wI (wI (wI X 40 (ix (X.1 0 26)) o) 41 (ix (X.1 0 26)) n) 42 (ix (X.1 0 26)) m) 43 (ix (X.1 0 26)) (-1)) 0 26 x8) := (((((Fr.rf.wI 40 _ _ (show (8000 : Nat) ∈ [26, 8000, 8200, 8400, 8600] from by decide)).wI 41 _ _ (show (8200 : Nat) ∈ [26, 8000, 8200, 8400, 8600] from by decide)).wI 42 _ _ (show (8400 : Nat) ∈ [26, 8000, 8200, 8400, 8600] from by decide)).wI 43 _ _ (show (8600 : Nat) ∈ [26, 8000, 8200, 8400, 8600] from by decide)).wI 0 26 _ (show (26 : Nat) ∈ [26, 8000, 8200, 8400, 8600] from by decide))
  exact ⟨hFZ, h8, ⟨d40, d41, d42, d43⟩, fun i hi => ⟨c40 i hi, c41 i hi, c42 i hi, c43 i hi⟩⟩
theorem tells_0 {X : St} {p1 : Int32} (hn : inR p1 3100) (hk : (X.1 20 (ix p1)).toInt = 0) (h0 : 0 ≤ (X.1 0 27).toInt ∧ (X.1 0 27).toInt + 9 < 13000) : ok (f_tells p1 X) (fun _ Y => TP [27, 9600, 9800, 10000] X Y [((1 : Int32), p1, (0 : Int32))]) := by
  have hT0 := TP.nil [27, 9600, 9800, 10000] X
  unfold f_tells
  refine ok.ck hn ?_
  refine ok.letE (v1 := X.1 20 (ix p1)) rfl ?_
  refine ok.ite (fun c => ?_) (fun c => absurd (show (X.1 20 (ix p1)).toInt = 0 from by omega) c)
  refine ok.bd (t_task hT0 (by decide) (by simp only [List.length_append, List.length_cons, List.length_nil]; omega) (1 : Int32) p1 (0 : Int32)) ?_
  rintro - Y1 ⟨hT1, hf1⟩
  exact ok.ret hT1
theorem tells_1 {X : St} {p1 : Int32} (hn : inR p1 3100) (hk : (X.1 20 (ix p1)).toInt = 1) (h0 : 0 ≤ (X.1 0 27).toInt ∧ (X.1 0 27).toInt + 9 < 13000) : ok (f_tells p1 X) (fun _ Y => TP [27, 9600, 9800, 10000] X Y [((2 : Int32), p1, (0 : Int32))]) := by
  have hT0 := TP.nil [27, 9600, 9800, 10000] X
  unfold f_tells
  refine ok.ck hn ?_
  refine ok.letE (v1 := X.1 20 (ix p1)) rfl ?_
  refine ok.ite (fun c => absurd c (show ¬ ((X.1 20 (ix p1)).toInt = 0) from by omega)) (fun c => ?_)
  refine ok.ite (fun c => ?_) (fun c => absurd (show (X.1 20 (ix p1)).toInt = 1 from by omega) c)
  refine ok.bd (t_task hT0 (by decide) (by simp only [List.length_append, List.length_cons, List.length_nil]; omega) (2 : Int32) p1 (0 : Int32)) ?_
  rintro - Y1 ⟨hT1, hf1⟩
  exact ok.ret hT1
theorem tells_2 {X : St} {p1 : Int32} (hn : inR p1 3100) (hk : (X.1 20 (ix p1)).toInt = 2) (h0 : 0 ≤ (X.1 0 27).toInt ∧ (X.1 0 27).toInt + 9 < 13000) : ok (f_tells p1 X) (fun _ Y => TP [27, 9600, 9800, 10000] X Y [((3 : Int32), p1, (0 : Int32))]) := by
  have hT0 := TP.nil [27, 9600, 9800, 10000] X
  unfold f_tells
  refine ok.ck hn ?_
  refine ok.letE (v1 := X.1 20 (ix p1)) rfl ?_
  refine ok.ite (fun c => absurd c (show ¬ ((X.1 20 (ix p1)).toInt = 0) from by omega)) (fun c => ?_)
  refine ok.ite (fun c => absurd c (show ¬ ((X.1 20 (ix p1)).toInt = 1) from by omega)) (fun c => ?_)
  refine ok.ite (fun c => ?_) (fun c => absurd (show (X.1 20 (ix p1)).toInt = 2 from by omega) c)
  refine ok.bd (t_task hT0 (by decide) (by simp only [List.length_append, List.length_cons, List.length_nil]; omega) (3 : Int32) p1 (0 : Int32)) ?_
  rintro - Y1 ⟨hT1, hf1⟩
  exact ok.ret hT1
theorem tells_3 {X : St} {p1 : Int32} (hn : inR p1 3100) (hk : (X.1 20 (ix p1)).toInt = 3) (h0 : 0 ≤ (X.1 0 27).toInt ∧ (X.1 0 27).toInt + 9 < 13000) : ok (f_tells p1 X) (fun _ Y => TP [27, 9600, 9800, 10000] X Y [((4 : Int32), p1, (0 : Int32))]) := by
  have hT0 := TP.nil [27, 9600, 9800, 10000] X
  unfold f_tells
  refine ok.ck hn ?_
  refine ok.letE (v1 := X.1 20 (ix p1)) rfl ?_
  refine ok.ite (fun c => absurd c (show ¬ ((X.1 20 (ix p1)).toInt = 0) from by omega)) (fun c => ?_)
  refine ok.ite (fun c => absurd c (show ¬ ((X.1 20 (ix p1)).toInt = 1) from by omega)) (fun c => ?_)
  refine ok.ite (fun c => absurd c (show ¬ ((X.1 20 (ix p1)).toInt = 2) from by omega)) (fun c => ?_)
  refine ok.ite (fun c => ?_) (fun c => absurd (show (X.1 20 (ix p1)).toInt = 3 from by omega) c)
  refine ok.bd (t_task hT0 (by decide) (by simp only [List.length_append, List.length_cons, List.length_nil]; omega) (4 : Int32) p1 (0 : Int32)) ?_
  rintro - Y1 ⟨hT1, hf1⟩
  exact ok.ret hT1
theorem tells_8 {X : St} {p1 : Int32} (hn : inR p1 3100) (hk : (X.1 20 (ix p1)).toInt = 8) (h0 : 0 ≤ (X.1 0 27).toInt ∧ (X.1 0 27).toInt + 9 < 13000) : ok (f_tells p1 X) (fun _ Y => TP [27, 9600, 9800, 10000] X Y [((40 : Int32), (X.1 23 (ix p1)), (0 : Int32))]) := by
  have hT0 := TP.nil [27, 9600, 9800, 10000] X
  unfold f_tells
  refine ok.ck hn ?_
  refine ok.letE (v1 := X.1 20 (ix p1)) rfl ?_
  refine ok.ite (fun c => absurd c (show ¬ ((X.1 20 (ix p1)).toInt = 0) from by omega)) (fun c => ?_)
  refine ok.ite (fun c => absurd c (show ¬ ((X.1 20 (ix p1)).toInt = 1) from by omega)) (fun c => ?_)
  refine ok.ite (fun c => absurd c (show ¬ ((X.1 20 (ix p1)).toInt = 2) from by omega)) (fun c => ?_)
  refine ok.ite (fun c => absurd c (show ¬ ((X.1 20 (ix p1)).toInt = 3) from by omega)) (fun c => ?_)
  refine ok.ite (fun c => absurd c (show ¬ ((X.1 20 (ix p1)).toInt = 4) from by omega)) (fun c => ?_)
  refine ok.ite (fun c => ?_) (fun c => absurd (show (X.1 20 (ix p1)).toInt = 8 from by omega) c)
  refine ok.ck hn ?_
  refine ok.letE (v1 := X.1 23 (ix p1)) rfl ?_
  refine ok.bd (t_task hT0 (by decide) (by simp only [List.length_append, List.length_cons, List.length_nil]; omega) (40 : Int32) (X.1 23 (ix p1)) (0 : Int32)) ?_
  rintro - Y1 ⟨hT1, hf1⟩
  exact ok.ret hT1
theorem tells_5 {X : St} {p1 : Int32} (hn : inR p1 3100) (hk : (X.1 20 (ix p1)).toInt = 5) (h0 : 0 ≤ (X.1 0 27).toInt ∧ (X.1 0 27).toInt + 9 < 13000) : ok (f_tells p1 X) (fun _ Y => TP [27, 9600, 9800, 10000] X Y [((19 : Int32), p1, (0 : Int32)), ((40 : Int32), (X.1 24 (ix p1)), (0 : Int32)), ((5 : Int32), (X.1 23 (ix p1)), (0 : Int32)), ((40 : Int32), (X.1 23 (ix p1)), (0 : Int32))]) := by
  have hT0 := TP.nil [27, 9600, 9800, 10000] X
  unfold f_tells
  refine ok.ck hn ?_
  refine ok.letE (v1 := X.1 20 (ix p1)) rfl ?_
  refine ok.ite (fun c => absurd c (show ¬ ((X.1 20 (ix p1)).toInt = 0) from by omega)) (fun c => ?_)
  refine ok.ite (fun c => absurd c (show ¬ ((X.1 20 (ix p1)).toInt = 1) from by omega)) (fun c => ?_)
  refine ok.ite (fun c => absurd c (show ¬ ((X.1 20 (ix p1)).toInt = 2) from by omega)) (fun c => ?_)
  refine ok.ite (fun c => absurd c (show ¬ ((X.1 20 (ix p1)).toInt = 3) from by omega)) (fun c => ?_)
  refine ok.ite (fun c => absurd c (show ¬ ((X.1 20 (ix p1)).toInt = 4) from by omega)) (fun c => ?_)
  refine ok.ite (fun c => absurd c (show ¬ ((X.1 20 (ix p1)).toInt = 8) from by omega)) (fun c => ?_)
  refine ok.ite (fun c => absurd c (show ¬ ((X.1 20 (ix p1)).toInt = 9) from by omega)) (fun c => ?_)
  refine ok.ite (fun c => absurd c (show ¬ ((X.1 20 (ix p1)).toInt = 11) from by omega)) (fun c => ?_)
  refine ok.bd (R := fun _ Y => TP [27, 9600, 9800, 10000] X Y [((19 : Int32), p1, (0 : Int32)), ((40 : Int32), (X.1 24 (ix p1)), (0 : Int32)), ((5 : Int32), (X.1 23 (ix p1)), (0 : Int32)), ((40 : Int32), (X.1 23 (ix p1)), (0 : Int32))]) ?_ (fun _ Y h => ok.ret h)
  unfold f_tellsMore
  refine ok.ck hn ?_
  refine ok.letE (v1 := X.1 20 (ix p1)) rfl ?_
  refine ok.ite (fun c => ?_) (fun c => absurd (show (X.1 20 (ix p1)).toInt = 5 from by omega) c)
  refine ok.bd (t_task hT0 (by decide) (by simp only [List.length_append, List.length_cons, List.length_nil]; omega) (19 : Int32) p1 (0 : Int32)) ?_
  rintro - Y1 ⟨hT1, hf1⟩
  refine ok.ck hn ?_
  refine ok.letE (v1 := X.1 24 (ix p1)) (hT1.1.1 24 (ix p1) (show (4800 : Nat) ∉ [27, 9600, 9800, 10000] from by decide)) ?_
  refine ok.bd (t_task hT1 (by decide) (by simp only [List.length_append, List.length_cons, List.length_nil]; omega) (40 : Int32) (X.1 24 (ix p1)) (0 : Int32)) ?_
  rintro - Y2 ⟨hT2, hf2⟩
  refine ok.ck hn ?_
  refine ok.letE (v1 := X.1 23 (ix p1)) (hT2.1.1 23 (ix p1) (show (4600 : Nat) ∉ [27, 9600, 9800, 10000] from by decide)) ?_
  refine ok.bd (t_task hT2 (by decide) (by simp only [List.length_append, List.length_cons, List.length_nil]; omega) (5 : Int32) (X.1 23 (ix p1)) (0 : Int32)) ?_
  rintro - Y3 ⟨hT3, hf3⟩
  refine ok.ck hn ?_
  refine ok.letE (v1 := X.1 23 (ix p1)) (hT3.1.1 23 (ix p1) (show (4600 : Nat) ∉ [27, 9600, 9800, 10000] from by decide)) ?_
  refine ok.bd (t_task hT3 (by decide) (by simp only [List.length_append, List.length_cons, List.length_nil]; omega) (40 : Int32) (X.1 23 (ix p1)) (0 : Int32)) ?_
  rintro - Y4 ⟨hT4, hf4⟩
  exact ok.ret hT4
theorem tells_6 {X : St} {p1 : Int32} (hn : inR p1 3100) (hk : (X.1 20 (ix p1)).toInt = 6) (h0 : 0 ≤ (X.1 0 27).toInt ∧ (X.1 0 27).toInt + 9 < 13000) : ok (f_tells p1 X) (fun _ Y => TP [27, 9600, 9800, 10000] X Y [((20 : Int32), p1, (0 : Int32)), ((9 : Int32), (X.1 23 (ix p1)), (0 : Int32)), ((40 : Int32), (X.1 23 (ix p1)), (0 : Int32))]) := by
  have hT0 := TP.nil [27, 9600, 9800, 10000] X
  unfold f_tells
  refine ok.ck hn ?_
  refine ok.letE (v1 := X.1 20 (ix p1)) rfl ?_
  refine ok.ite (fun c => absurd c (show ¬ ((X.1 20 (ix p1)).toInt = 0) from by omega)) (fun c => ?_)
  refine ok.ite (fun c => absurd c (show ¬ ((X.1 20 (ix p1)).toInt = 1) from by omega)) (fun c => ?_)
  refine ok.ite (fun c => absurd c (show ¬ ((X.1 20 (ix p1)).toInt = 2) from by omega)) (fun c => ?_)
  refine ok.ite (fun c => absurd c (show ¬ ((X.1 20 (ix p1)).toInt = 3) from by omega)) (fun c => ?_)
  refine ok.ite (fun c => absurd c (show ¬ ((X.1 20 (ix p1)).toInt = 4) from by omega)) (fun c => ?_)
  refine ok.ite (fun c => absurd c (show ¬ ((X.1 20 (ix p1)).toInt = 8) from by omega)) (fun c => ?_)
  refine ok.ite (fun c => absurd c (show ¬ ((X.1 20 (ix p1)).toInt = 9) from by omega)) (fun c => ?_)
  refine ok.ite (fun c => absurd c (show ¬ ((X.1 20 (ix p1)).toInt = 11) from by omega)) (fun c => ?_)
  refine ok.bd (R := fun _ Y => TP [27, 9600, 9800, 10000] X Y [((20 : Int32), p1, (0 : Int32)), ((9 : Int32), (X.1 23 (ix p1)), (0 : Int32)), ((40 : Int32), (X.1 23 (ix p1)), (0 : Int32))]) ?_ (fun _ Y h => ok.ret h)
  unfold f_tellsMore
  refine ok.ck hn ?_
  refine ok.letE (v1 := X.1 20 (ix p1)) rfl ?_
  refine ok.ite (fun c => absurd c (show ¬ ((X.1 20 (ix p1)).toInt = 5) from by omega)) (fun c => ?_)
  refine ok.ite (fun c => ?_) (fun c => absurd (show (X.1 20 (ix p1)).toInt = 6 from by omega) c)
  refine ok.bd (t_task hT0 (by decide) (by simp only [List.length_append, List.length_cons, List.length_nil]; omega) (20 : Int32) p1 (0 : Int32)) ?_
  rintro - Y1 ⟨hT1, hf1⟩
  refine ok.ck hn ?_
  refine ok.letE (v1 := X.1 23 (ix p1)) (hT1.1.1 23 (ix p1) (show (4600 : Nat) ∉ [27, 9600, 9800, 10000] from by decide)) ?_
  refine ok.bd (t_task hT1 (by decide) (by simp only [List.length_append, List.length_cons, List.length_nil]; omega) (9 : Int32) (X.1 23 (ix p1)) (0 : Int32)) ?_
  rintro - Y2 ⟨hT2, hf2⟩
  refine ok.ck hn ?_
  refine ok.letE (v1 := X.1 23 (ix p1)) (hT2.1.1 23 (ix p1) (show (4600 : Nat) ∉ [27, 9600, 9800, 10000] from by decide)) ?_
  refine ok.bd (t_task hT2 (by decide) (by simp only [List.length_append, List.length_cons, List.length_nil]; omega) (40 : Int32) (X.1 23 (ix p1)) (0 : Int32)) ?_
  rintro - Y3 ⟨hT3, hf3⟩
  exact ok.ret hT3
theorem tells_7 {X : St} {p1 : Int32} (hn : inR p1 3100) (hk : (X.1 20 (ix p1)).toInt = 7) (h0 : 0 ≤ (X.1 0 27).toInt ∧ (X.1 0 27).toInt + 9 < 13000) : ok (f_tells p1 X) (fun _ Y => TP [27, 9600, 9800, 10000] X Y [((21 : Int32), p1, (0 : Int32)), ((5 : Int32), (X.1 23 (ix p1)), (0 : Int32)), ((40 : Int32), (X.1 23 (ix p1)), (0 : Int32))]) := by
  have hT0 := TP.nil [27, 9600, 9800, 10000] X
  unfold f_tells
  refine ok.ck hn ?_
  refine ok.letE (v1 := X.1 20 (ix p1)) rfl ?_
  refine ok.ite (fun c => absurd c (show ¬ ((X.1 20 (ix p1)).toInt = 0) from by omega)) (fun c => ?_)
  refine ok.ite (fun c => absurd c (show ¬ ((X.1 20 (ix p1)).toInt = 1) from by omega)) (fun c => ?_)
  refine ok.ite (fun c => absurd c (show ¬ ((X.1 20 (ix p1)).toInt = 2) from by omega)) (fun c => ?_)
  refine ok.ite (fun c => absurd c (show ¬ ((X.1 20 (ix p1)).toInt = 3) from by omega)) (fun c => ?_)
  refine ok.ite (fun c => absurd c (show ¬ ((X.1 20 (ix p1)).toInt = 4) from by omega)) (fun c => ?_)
  refine ok.ite (fun c => absurd c (show ¬ ((X.1 20 (ix p1)).toInt = 8) from by omega)) (fun c => ?_)
  refine ok.ite (fun c => absurd c (show ¬ ((X.1 20 (ix p1)).toInt = 9) from by omega)) (fun c => ?_)
  refine ok.ite (fun c => absurd c (show ¬ ((X.1 20 (ix p1)).toInt = 11) from by omega)) (fun c => ?_)
  refine ok.bd (R := fun _ Y => TP [27, 9600, 9800, 10000] X Y [((21 : Int32), p1, (0 : Int32)), ((5 : Int32), (X.1 23 (ix p1)), (0 : Int32)), ((40 : Int32), (X.1 23 (ix p1)), (0 : Int32))]) ?_ (fun _ Y h => ok.ret h)
  unfold f_tellsMore
  refine ok.ck hn ?_
  refine ok.letE (v1 := X.1 20 (ix p1)) rfl ?_
  refine ok.ite (fun c => absurd c (show ¬ ((X.1 20 (ix p1)).toInt = 5) from by omega)) (fun c => ?_)
  refine ok.ite (fun c => absurd c (show ¬ ((X.1 20 (ix p1)).toInt = 6) from by omega)) (fun c => ?_)
  refine ok.ite (fun c => ?_) (fun c => absurd (show (X.1 20 (ix p1)).toInt = 7 from by omega) c)
  refine ok.ck hn ?_
  refine ok.letE (v1 := X.1 20 (ix p1)) rfl ?_
  refine ok.ite (fun c => ?_) (fun c => absurd (show (X.1 20 (ix p1)).toInt = 7 from by omega) c)
  unfold f_tellsMore_173
  refine ok.bd (t_task hT0 (by decide) (by simp only [List.length_append, List.length_cons, List.length_nil]; omega) (21 : Int32) p1 (0 : Int32)) ?_
  rintro - Y1 ⟨hT1, hf1⟩
  refine ok.ck hn ?_
  refine ok.letE (v1 := X.1 23 (ix p1)) (hT1.1.1 23 (ix p1) (show (4600 : Nat) ∉ [27, 9600, 9800, 10000] from by decide)) ?_
  refine ok.bd (t_task hT1 (by decide) (by simp only [List.length_append, List.length_cons, List.length_nil]; omega) (5 : Int32) (X.1 23 (ix p1)) (0 : Int32)) ?_
  rintro - Y2 ⟨hT2, hf2⟩
  refine ok.ck hn ?_
  refine ok.letE (v1 := X.1 23 (ix p1)) (hT2.1.1 23 (ix p1) (show (4600 : Nat) ∉ [27, 9600, 9800, 10000] from by decide)) ?_
  refine ok.bd (t_task hT2 (by decide) (by simp only [List.length_append, List.length_cons, List.length_nil]; omega) (40 : Int32) (X.1 23 (ix p1)) (0 : Int32)) ?_
  rintro - Y3 ⟨hT3, hf3⟩
  exact ok.ret hT3
theorem tells_12 {X : St} {p1 : Int32} (hn : inR p1 3100) (hk : (X.1 20 (ix p1)).toInt = 12) (h0 : 0 ≤ (X.1 0 27).toInt ∧ (X.1 0 27).toInt + 9 < 13000) : ok (f_tells p1 X) (fun _ Y => TP [27, 9600, 9800, 10000] X Y [((22 : Int32), p1, (0 : Int32)), ((5 : Int32), (X.1 23 (ix p1)), (0 : Int32)), ((40 : Int32), (X.1 23 (ix p1)), (0 : Int32))]) := by
  have hT0 := TP.nil [27, 9600, 9800, 10000] X
  unfold f_tells
  refine ok.ck hn ?_
  refine ok.letE (v1 := X.1 20 (ix p1)) rfl ?_
  refine ok.ite (fun c => absurd c (show ¬ ((X.1 20 (ix p1)).toInt = 0) from by omega)) (fun c => ?_)
  refine ok.ite (fun c => absurd c (show ¬ ((X.1 20 (ix p1)).toInt = 1) from by omega)) (fun c => ?_)
  refine ok.ite (fun c => absurd c (show ¬ ((X.1 20 (ix p1)).toInt = 2) from by omega)) (fun c => ?_)
  refine ok.ite (fun c => absurd c (show ¬ ((X.1 20 (ix p1)).toInt = 3) from by omega)) (fun c => ?_)
  refine ok.ite (fun c => absurd c (show ¬ ((X.1 20 (ix p1)).toInt = 4) from by omega)) (fun c => ?_)
  refine ok.ite (fun c => absurd c (show ¬ ((X.1 20 (ix p1)).toInt = 8) from by omega)) (fun c => ?_)
  refine ok.ite (fun c => absurd c (show ¬ ((X.1 20 (ix p1)).toInt = 9) from by omega)) (fun c => ?_)
  refine ok.ite (fun c => absurd c (show ¬ ((X.1 20 (ix p1)).toInt = 11) from by omega)) (fun c => ?_)
  refine ok.bd (R := fun _ Y => TP [27, 9600, 9800, 10000] X Y [((22 : Int32), p1, (0 : Int32)), ((5 : Int32), (X.1 23 (ix p1)), (0 : Int32)), ((40 : Int32), (X.1 23 (ix p1)), (0 : Int32))]) ?_ (fun _ Y h => ok.ret h)
  unfold f_tellsMore
  refine ok.ck hn ?_
  refine ok.letE (v1 := X.1 20 (ix p1)) rfl ?_
  refine ok.ite (fun c => absurd c (show ¬ ((X.1 20 (ix p1)).toInt = 5) from by omega)) (fun c => ?_)
  refine ok.ite (fun c => absurd c (show ¬ ((X.1 20 (ix p1)).toInt = 6) from by omega)) (fun c => ?_)
  refine ok.ite (fun c => absurd c (show ¬ ((X.1 20 (ix p1)).toInt = 7) from by omega)) (fun c => ?_)
  refine ok.ite (fun c => absurd c (show ¬ ((X.1 20 (ix p1)).toInt = 10) from by omega)) (fun c => ?_)
  refine ok.ite (fun c => ?_) (fun c => absurd (show (X.1 20 (ix p1)).toInt = 12 from by omega) c)
  refine ok.ck hn ?_
  refine ok.letE (v1 := X.1 20 (ix p1)) rfl ?_
  refine ok.ite (fun c => absurd c (show ¬ ((X.1 20 (ix p1)).toInt = 7) from by omega)) (fun c => ?_)
  unfold f_tellsMore_173
  refine ok.bd (t_task hT0 (by decide) (by simp only [List.length_append, List.length_cons, List.length_nil]; omega) (22 : Int32) p1 (0 : Int32)) ?_
  rintro - Y1 ⟨hT1, hf1⟩
  refine ok.ck hn ?_
  refine ok.letE (v1 := X.1 23 (ix p1)) (hT1.1.1 23 (ix p1) (show (4600 : Nat) ∉ [27, 9600, 9800, 10000] from by decide)) ?_
  refine ok.bd (t_task hT1 (by decide) (by simp only [List.length_append, List.length_cons, List.length_nil]; omega) (5 : Int32) (X.1 23 (ix p1)) (0 : Int32)) ?_
  rintro - Y2 ⟨hT2, hf2⟩
  refine ok.ck hn ?_
  refine ok.letE (v1 := X.1 23 (ix p1)) (hT2.1.1 23 (ix p1) (show (4600 : Nat) ∉ [27, 9600, 9800, 10000] from by decide)) ?_
  refine ok.bd (t_task hT2 (by decide) (by simp only [List.length_append, List.length_cons, List.length_nil]; omega) (40 : Int32) (X.1 23 (ix p1)) (0 : Int32)) ?_
  rintro - Y3 ⟨hT3, hf3⟩
  exact ok.ret hT3
theorem tells_13 {X : St} {p1 : Int32} (hn : inR p1 3100) (hk : (X.1 20 (ix p1)).toInt = 13) (h0 : 0 ≤ (X.1 0 27).toInt ∧ (X.1 0 27).toInt + 9 < 13000) : ok (f_tells p1 X) (fun _ Y => TP [27, 9600, 9800, 10000] X Y [((23 : Int32), p1, (0 : Int32)), ((6 : Int32), (X.1 23 (ix p1)), (0 : Int32)), ((40 : Int32), (X.1 23 (ix p1)), (0 : Int32))]) := by
  have hT0 := TP.nil [27, 9600, 9800, 10000] X
  unfold f_tells
  refine ok.ck hn ?_
  refine ok.letE (v1 := X.1 20 (ix p1)) rfl ?_
  refine ok.ite (fun c => absurd c (show ¬ ((X.1 20 (ix p1)).toInt = 0) from by omega)) (fun c => ?_)
  refine ok.ite (fun c => absurd c (show ¬ ((X.1 20 (ix p1)).toInt = 1) from by omega)) (fun c => ?_)
  refine ok.ite (fun c => absurd c (show ¬ ((X.1 20 (ix p1)).toInt = 2) from by omega)) (fun c => ?_)
  refine ok.ite (fun c => absurd c (show ¬ ((X.1 20 (ix p1)).toInt = 3) from by omega)) (fun c => ?_)
  refine ok.ite (fun c => absurd c (show ¬ ((X.1 20 (ix p1)).toInt = 4) from by omega)) (fun c => ?_)
  refine ok.ite (fun c => absurd c (show ¬ ((X.1 20 (ix p1)).toInt = 8) from by omega)) (fun c => ?_)
  refine ok.ite (fun c => absurd c (show ¬ ((X.1 20 (ix p1)).toInt = 9) from by omega)) (fun c => ?_)
  refine ok.ite (fun c => absurd c (show ¬ ((X.1 20 (ix p1)).toInt = 11) from by omega)) (fun c => ?_)
  refine ok.bd (R := fun _ Y => TP [27, 9600, 9800, 10000] X Y [((23 : Int32), p1, (0 : Int32)), ((6 : Int32), (X.1 23 (ix p1)), (0 : Int32)), ((40 : Int32), (X.1 23 (ix p1)), (0 : Int32))]) ?_ (fun _ Y h => ok.ret h)
  unfold f_tellsMore
  refine ok.ck hn ?_
  refine ok.letE (v1 := X.1 20 (ix p1)) rfl ?_
  refine ok.ite (fun c => absurd c (show ¬ ((X.1 20 (ix p1)).toInt = 5) from by omega)) (fun c => ?_)
  refine ok.ite (fun c => absurd c (show ¬ ((X.1 20 (ix p1)).toInt = 6) from by omega)) (fun c => ?_)
  refine ok.ite (fun c => absurd c (show ¬ ((X.1 20 (ix p1)).toInt = 7) from by omega)) (fun c => ?_)
  refine ok.ite (fun c => absurd c (show ¬ ((X.1 20 (ix p1)).toInt = 10) from by omega)) (fun c => ?_)
  refine ok.ite (fun c => absurd c (show ¬ ((X.1 20 (ix p1)).toInt = 12) from by omega)) (fun c => ?_)
  refine ok.ite (fun c => ?_) (fun c => absurd (show (X.1 20 (ix p1)).toInt = 13 from by omega) c)
  refine ok.bd (t_task hT0 (by decide) (by simp only [List.length_append, List.length_cons, List.length_nil]; omega) (23 : Int32) p1 (0 : Int32)) ?_
  rintro - Y1 ⟨hT1, hf1⟩
  refine ok.ck hn ?_
  refine ok.letE (v1 := X.1 23 (ix p1)) (hT1.1.1 23 (ix p1) (show (4600 : Nat) ∉ [27, 9600, 9800, 10000] from by decide)) ?_
  refine ok.bd (t_task hT1 (by decide) (by simp only [List.length_append, List.length_cons, List.length_nil]; omega) (6 : Int32) (X.1 23 (ix p1)) (0 : Int32)) ?_
  rintro - Y2 ⟨hT2, hf2⟩
  refine ok.ck hn ?_
  refine ok.letE (v1 := X.1 23 (ix p1)) (hT2.1.1 23 (ix p1) (show (4600 : Nat) ∉ [27, 9600, 9800, 10000] from by decide)) ?_
  refine ok.bd (t_task hT2 (by decide) (by simp only [List.length_append, List.length_cons, List.length_nil]; omega) (40 : Int32) (X.1 23 (ix p1)) (0 : Int32)) ?_
  rintro - Y3 ⟨hT3, hf3⟩
  exact ok.ret hT3
theorem tells_14 {X : St} {p1 : Int32} (hn : inR p1 3100) (hk : (X.1 20 (ix p1)).toInt = 14) (h0 : 0 ≤ (X.1 0 27).toInt ∧ (X.1 0 27).toInt + 9 < 13000) : ok (f_tells p1 X) (fun _ Y => TP [27, 9600, 9800, 10000] X Y [((24 : Int32), p1, (0 : Int32)), ((5 : Int32), (X.1 24 (ix p1)), (0 : Int32)), ((40 : Int32), (X.1 24 (ix p1)), (0 : Int32)), ((5 : Int32), (X.1 23 (ix p1)), (0 : Int32)), ((40 : Int32), (X.1 23 (ix p1)), (0 : Int32))]) := by
  have hT0 := TP.nil [27, 9600, 9800, 10000] X
  unfold f_tells
  refine ok.ck hn ?_
  refine ok.letE (v1 := X.1 20 (ix p1)) rfl ?_
  refine ok.ite (fun c => absurd c (show ¬ ((X.1 20 (ix p1)).toInt = 0) from by omega)) (fun c => ?_)
  refine ok.ite (fun c => absurd c (show ¬ ((X.1 20 (ix p1)).toInt = 1) from by omega)) (fun c => ?_)
  refine ok.ite (fun c => absurd c (show ¬ ((X.1 20 (ix p1)).toInt = 2) from by omega)) (fun c => ?_)
  refine ok.ite (fun c => absurd c (show ¬ ((X.1 20 (ix p1)).toInt = 3) from by omega)) (fun c => ?_)
  refine ok.ite (fun c => absurd c (show ¬ ((X.1 20 (ix p1)).toInt = 4) from by omega)) (fun c => ?_)
  refine ok.ite (fun c => absurd c (show ¬ ((X.1 20 (ix p1)).toInt = 8) from by omega)) (fun c => ?_)
  refine ok.ite (fun c => absurd c (show ¬ ((X.1 20 (ix p1)).toInt = 9) from by omega)) (fun c => ?_)
  refine ok.ite (fun c => absurd c (show ¬ ((X.1 20 (ix p1)).toInt = 11) from by omega)) (fun c => ?_)
  refine ok.bd (R := fun _ Y => TP [27, 9600, 9800, 10000] X Y [((24 : Int32), p1, (0 : Int32)), ((5 : Int32), (X.1 24 (ix p1)), (0 : Int32)), ((40 : Int32), (X.1 24 (ix p1)), (0 : Int32)), ((5 : Int32), (X.1 23 (ix p1)), (0 : Int32)), ((40 : Int32), (X.1 23 (ix p1)), (0 : Int32))]) ?_ (fun _ Y h => ok.ret h)
  unfold f_tellsMore
  refine ok.ck hn ?_
  refine ok.letE (v1 := X.1 20 (ix p1)) rfl ?_
  refine ok.ite (fun c => absurd c (show ¬ ((X.1 20 (ix p1)).toInt = 5) from by omega)) (fun c => ?_)
  refine ok.ite (fun c => absurd c (show ¬ ((X.1 20 (ix p1)).toInt = 6) from by omega)) (fun c => ?_)
  refine ok.ite (fun c => absurd c (show ¬ ((X.1 20 (ix p1)).toInt = 7) from by omega)) (fun c => ?_)
  refine ok.ite (fun c => absurd c (show ¬ ((X.1 20 (ix p1)).toInt = 10) from by omega)) (fun c => ?_)
  refine ok.ite (fun c => absurd c (show ¬ ((X.1 20 (ix p1)).toInt = 12) from by omega)) (fun c => ?_)
  refine ok.ite (fun c => absurd c (show ¬ ((X.1 20 (ix p1)).toInt = 13) from by omega)) (fun c => ?_)
  refine ok.ite (fun c => ?_) (fun c => absurd (show (X.1 20 (ix p1)).toInt = 14 from by omega) c)
  refine ok.ck hn ?_
  refine ok.letE (v1 := X.1 20 (ix p1)) rfl ?_
  refine ok.ite (fun c => ?_) (fun c => absurd (show (X.1 20 (ix p1)).toInt = 14 from by omega) c)
  unfold f_tellsMore_262
  refine ok.bd (t_task hT0 (by decide) (by simp only [List.length_append, List.length_cons, List.length_nil]; omega) (24 : Int32) p1 (0 : Int32)) ?_
  rintro - Y1 ⟨hT1, hf1⟩
  refine ok.ck hn ?_
  refine ok.letE (v1 := X.1 24 (ix p1)) (hT1.1.1 24 (ix p1) (show (4800 : Nat) ∉ [27, 9600, 9800, 10000] from by decide)) ?_
  refine ok.bd (t_task hT1 (by decide) (by simp only [List.length_append, List.length_cons, List.length_nil]; omega) (5 : Int32) (X.1 24 (ix p1)) (0 : Int32)) ?_
  rintro - Y2 ⟨hT2, hf2⟩
  refine ok.ck hn ?_
  refine ok.letE (v1 := X.1 24 (ix p1)) (hT2.1.1 24 (ix p1) (show (4800 : Nat) ∉ [27, 9600, 9800, 10000] from by decide)) ?_
  refine ok.bd (t_task hT2 (by decide) (by simp only [List.length_append, List.length_cons, List.length_nil]; omega) (40 : Int32) (X.1 24 (ix p1)) (0 : Int32)) ?_
  rintro - Y3 ⟨hT3, hf3⟩
  refine ok.ck hn ?_
  refine ok.letE (v1 := X.1 23 (ix p1)) (hT3.1.1 23 (ix p1) (show (4600 : Nat) ∉ [27, 9600, 9800, 10000] from by decide)) ?_
  refine ok.bd (t_task hT3 (by decide) (by simp only [List.length_append, List.length_cons, List.length_nil]; omega) (5 : Int32) (X.1 23 (ix p1)) (0 : Int32)) ?_
  rintro - Y4 ⟨hT4, hf4⟩
  refine ok.ck hn ?_
  refine ok.letE (v1 := X.1 23 (ix p1)) (hT4.1.1 23 (ix p1) (show (4600 : Nat) ∉ [27, 9600, 9800, 10000] from by decide)) ?_
  refine ok.bd (t_task hT4 (by decide) (by simp only [List.length_append, List.length_cons, List.length_nil]; omega) (40 : Int32) (X.1 23 (ix p1)) (0 : Int32)) ?_
  rintro - Y5 ⟨hT5, hf5⟩
  exact ok.ret hT5
theorem tells_15 {X : St} {p1 : Int32} (hn : inR p1 3100) (hk : (X.1 20 (ix p1)).toInt = 15) (h0 : 0 ≤ (X.1 0 27).toInt ∧ (X.1 0 27).toInt + 9 < 13000) : ok (f_tells p1 X) (fun _ Y => TP [27, 9600, 9800, 10000] X Y [((25 : Int32), p1, (0 : Int32)), ((5 : Int32), (X.1 24 (ix p1)), (0 : Int32)), ((40 : Int32), (X.1 24 (ix p1)), (0 : Int32)), ((5 : Int32), (X.1 23 (ix p1)), (0 : Int32)), ((40 : Int32), (X.1 23 (ix p1)), (0 : Int32))]) := by
  have hT0 := TP.nil [27, 9600, 9800, 10000] X
  unfold f_tells
  refine ok.ck hn ?_
  refine ok.letE (v1 := X.1 20 (ix p1)) rfl ?_
  refine ok.ite (fun c => absurd c (show ¬ ((X.1 20 (ix p1)).toInt = 0) from by omega)) (fun c => ?_)
  refine ok.ite (fun c => absurd c (show ¬ ((X.1 20 (ix p1)).toInt = 1) from by omega)) (fun c => ?_)
  refine ok.ite (fun c => absurd c (show ¬ ((X.1 20 (ix p1)).toInt = 2) from by omega)) (fun c => ?_)
  refine ok.ite (fun c => absurd c (show ¬ ((X.1 20 (ix p1)).toInt = 3) from by omega)) (fun c => ?_)
  refine ok.ite (fun c => absurd c (show ¬ ((X.1 20 (ix p1)).toInt = 4) from by omega)) (fun c => ?_)
  refine ok.ite (fun c => absurd c (show ¬ ((X.1 20 (ix p1)).toInt = 8) from by omega)) (fun c => ?_)
  refine ok.ite (fun c => absurd c (show ¬ ((X.1 20 (ix p1)).toInt = 9) from by omega)) (fun c => ?_)
  refine ok.ite (fun c => absurd c (show ¬ ((X.1 20 (ix p1)).toInt = 11) from by omega)) (fun c => ?_)
  refine ok.bd (R := fun _ Y => TP [27, 9600, 9800, 10000] X Y [((25 : Int32), p1, (0 : Int32)), ((5 : Int32), (X.1 24 (ix p1)), (0 : Int32)), ((40 : Int32), (X.1 24 (ix p1)), (0 : Int32)), ((5 : Int32), (X.1 23 (ix p1)), (0 : Int32)), ((40 : Int32), (X.1 23 (ix p1)), (0 : Int32))]) ?_ (fun _ Y h => ok.ret h)
  unfold f_tellsMore
  refine ok.ck hn ?_
  refine ok.letE (v1 := X.1 20 (ix p1)) rfl ?_
  refine ok.ite (fun c => absurd c (show ¬ ((X.1 20 (ix p1)).toInt = 5) from by omega)) (fun c => ?_)
  refine ok.ite (fun c => absurd c (show ¬ ((X.1 20 (ix p1)).toInt = 6) from by omega)) (fun c => ?_)
  refine ok.ite (fun c => absurd c (show ¬ ((X.1 20 (ix p1)).toInt = 7) from by omega)) (fun c => ?_)
  refine ok.ite (fun c => absurd c (show ¬ ((X.1 20 (ix p1)).toInt = 10) from by omega)) (fun c => ?_)
  refine ok.ite (fun c => absurd c (show ¬ ((X.1 20 (ix p1)).toInt = 12) from by omega)) (fun c => ?_)
  refine ok.ite (fun c => absurd c (show ¬ ((X.1 20 (ix p1)).toInt = 13) from by omega)) (fun c => ?_)
  refine ok.ite (fun c => absurd c (show ¬ ((X.1 20 (ix p1)).toInt = 14) from by omega)) (fun c => ?_)
  refine ok.ite (fun c => ?_) (fun c => absurd (show (X.1 20 (ix p1)).toInt = 15 from by omega) c)
  refine ok.ck hn ?_
  refine ok.letE (v1 := X.1 20 (ix p1)) rfl ?_
  refine ok.ite (fun c => absurd c (show ¬ ((X.1 20 (ix p1)).toInt = 14) from by omega)) (fun c => ?_)
  unfold f_tellsMore_262
  refine ok.bd (t_task hT0 (by decide) (by simp only [List.length_append, List.length_cons, List.length_nil]; omega) (25 : Int32) p1 (0 : Int32)) ?_
  rintro - Y1 ⟨hT1, hf1⟩
  refine ok.ck hn ?_
  refine ok.letE (v1 := X.1 24 (ix p1)) (hT1.1.1 24 (ix p1) (show (4800 : Nat) ∉ [27, 9600, 9800, 10000] from by decide)) ?_
  refine ok.bd (t_task hT1 (by decide) (by simp only [List.length_append, List.length_cons, List.length_nil]; omega) (5 : Int32) (X.1 24 (ix p1)) (0 : Int32)) ?_
  rintro - Y2 ⟨hT2, hf2⟩
  refine ok.ck hn ?_
  refine ok.letE (v1 := X.1 24 (ix p1)) (hT2.1.1 24 (ix p1) (show (4800 : Nat) ∉ [27, 9600, 9800, 10000] from by decide)) ?_
  refine ok.bd (t_task hT2 (by decide) (by simp only [List.length_append, List.length_cons, List.length_nil]; omega) (40 : Int32) (X.1 24 (ix p1)) (0 : Int32)) ?_
  rintro - Y3 ⟨hT3, hf3⟩
  refine ok.ck hn ?_
  refine ok.letE (v1 := X.1 23 (ix p1)) (hT3.1.1 23 (ix p1) (show (4600 : Nat) ∉ [27, 9600, 9800, 10000] from by decide)) ?_
  refine ok.bd (t_task hT3 (by decide) (by simp only [List.length_append, List.length_cons, List.length_nil]; omega) (5 : Int32) (X.1 23 (ix p1)) (0 : Int32)) ?_
  rintro - Y4 ⟨hT4, hf4⟩
  refine ok.ck hn ?_
  refine ok.letE (v1 := X.1 23 (ix p1)) (hT4.1.1 23 (ix p1) (show (4600 : Nat) ∉ [27, 9600, 9800, 10000] from by decide)) ?_
  refine ok.bd (t_task hT4 (by decide) (by simp only [List.length_append, List.length_cons, List.length_nil]; omega) (40 : Int32) (X.1 23 (ix p1)) (0 : Int32)) ?_
  rintro - Y5 ⟨hT5, hf5⟩
  exact ok.ret hT5
theorem tells_16 {X : St} {p1 : Int32} (hn : inR p1 3100) (hk : (X.1 20 (ix p1)).toInt = 16) (h0 : 0 ≤ (X.1 0 27).toInt ∧ (X.1 0 27).toInt + 9 < 13000) : ok (f_tells p1 X) (fun _ Y => TP [27, 9600, 9800, 10000] X Y [((17 : Int32), p1, (0 : Int32)), ((14 : Int32), (X.1 25 (ix p1)), (0 : Int32)), ((40 : Int32), (X.1 25 (ix p1)), (0 : Int32)), ((16 : Int32), p1, (0 : Int32)), ((14 : Int32), (X.1 24 (ix p1)), (0 : Int32)), ((40 : Int32), (X.1 24 (ix p1)), (0 : Int32)), ((15 : Int32), p1, (0 : Int32)), ((6 : Int32), (X.1 23 (ix p1)), (0 : Int32)), ((40 : Int32), (X.1 23 (ix p1)), (0 : Int32))]) := by
  have hT0 := TP.nil [27, 9600, 9800, 10000] X
  unfold f_tells
  refine ok.ck hn ?_
  refine ok.letE (v1 := X.1 20 (ix p1)) rfl ?_
  refine ok.ite (fun c => absurd c (show ¬ ((X.1 20 (ix p1)).toInt = 0) from by omega)) (fun c => ?_)
  refine ok.ite (fun c => absurd c (show ¬ ((X.1 20 (ix p1)).toInt = 1) from by omega)) (fun c => ?_)
  refine ok.ite (fun c => absurd c (show ¬ ((X.1 20 (ix p1)).toInt = 2) from by omega)) (fun c => ?_)
  refine ok.ite (fun c => absurd c (show ¬ ((X.1 20 (ix p1)).toInt = 3) from by omega)) (fun c => ?_)
  refine ok.ite (fun c => absurd c (show ¬ ((X.1 20 (ix p1)).toInt = 4) from by omega)) (fun c => ?_)
  refine ok.ite (fun c => absurd c (show ¬ ((X.1 20 (ix p1)).toInt = 8) from by omega)) (fun c => ?_)
  refine ok.ite (fun c => absurd c (show ¬ ((X.1 20 (ix p1)).toInt = 9) from by omega)) (fun c => ?_)
  refine ok.ite (fun c => absurd c (show ¬ ((X.1 20 (ix p1)).toInt = 11) from by omega)) (fun c => ?_)
  refine ok.bd (R := fun _ Y => TP [27, 9600, 9800, 10000] X Y [((17 : Int32), p1, (0 : Int32)), ((14 : Int32), (X.1 25 (ix p1)), (0 : Int32)), ((40 : Int32), (X.1 25 (ix p1)), (0 : Int32)), ((16 : Int32), p1, (0 : Int32)), ((14 : Int32), (X.1 24 (ix p1)), (0 : Int32)), ((40 : Int32), (X.1 24 (ix p1)), (0 : Int32)), ((15 : Int32), p1, (0 : Int32)), ((6 : Int32), (X.1 23 (ix p1)), (0 : Int32)), ((40 : Int32), (X.1 23 (ix p1)), (0 : Int32))]) ?_ (fun _ Y h => ok.ret h)
  unfold f_tellsMore
  refine ok.ck hn ?_
  refine ok.letE (v1 := X.1 20 (ix p1)) rfl ?_
  refine ok.ite (fun c => absurd c (show ¬ ((X.1 20 (ix p1)).toInt = 5) from by omega)) (fun c => ?_)
  refine ok.ite (fun c => absurd c (show ¬ ((X.1 20 (ix p1)).toInt = 6) from by omega)) (fun c => ?_)
  refine ok.ite (fun c => absurd c (show ¬ ((X.1 20 (ix p1)).toInt = 7) from by omega)) (fun c => ?_)
  refine ok.ite (fun c => absurd c (show ¬ ((X.1 20 (ix p1)).toInt = 10) from by omega)) (fun c => ?_)
  refine ok.ite (fun c => absurd c (show ¬ ((X.1 20 (ix p1)).toInt = 12) from by omega)) (fun c => ?_)
  refine ok.ite (fun c => absurd c (show ¬ ((X.1 20 (ix p1)).toInt = 13) from by omega)) (fun c => ?_)
  refine ok.ite (fun c => absurd c (show ¬ ((X.1 20 (ix p1)).toInt = 14) from by omega)) (fun c => ?_)
  refine ok.ite (fun c => absurd c (show ¬ ((X.1 20 (ix p1)).toInt = 15) from by omega)) (fun c => ?_)
  refine ok.ite (fun c => ?_) (fun c => absurd (show (X.1 20 (ix p1)).toInt = 16 from by omega) c)
  refine ok.bd (t_task hT0 (by decide) (by simp only [List.length_append, List.length_cons, List.length_nil]; omega) (17 : Int32) p1 (0 : Int32)) ?_
  rintro - Y1 ⟨hT1, hf1⟩
  refine ok.ck hn ?_
  refine ok.letE (v1 := X.1 25 (ix p1)) (hT1.1.1 25 (ix p1) (show (5000 : Nat) ∉ [27, 9600, 9800, 10000] from by decide)) ?_
  refine ok.bd (t_task hT1 (by decide) (by simp only [List.length_append, List.length_cons, List.length_nil]; omega) (14 : Int32) (X.1 25 (ix p1)) (0 : Int32)) ?_
  rintro - Y2 ⟨hT2, hf2⟩
  refine ok.ck hn ?_
  refine ok.letE (v1 := X.1 25 (ix p1)) (hT2.1.1 25 (ix p1) (show (5000 : Nat) ∉ [27, 9600, 9800, 10000] from by decide)) ?_
  refine ok.bd (t_task hT2 (by decide) (by simp only [List.length_append, List.length_cons, List.length_nil]; omega) (40 : Int32) (X.1 25 (ix p1)) (0 : Int32)) ?_
  rintro - Y3 ⟨hT3, hf3⟩
  refine ok.bd (t_task hT3 (by decide) (by simp only [List.length_append, List.length_cons, List.length_nil]; omega) (16 : Int32) p1 (0 : Int32)) ?_
  rintro - Y4 ⟨hT4, hf4⟩
  refine ok.ck hn ?_
  refine ok.letE (v1 := X.1 24 (ix p1)) (hT4.1.1 24 (ix p1) (show (4800 : Nat) ∉ [27, 9600, 9800, 10000] from by decide)) ?_
  refine ok.bd (t_task hT4 (by decide) (by simp only [List.length_append, List.length_cons, List.length_nil]; omega) (14 : Int32) (X.1 24 (ix p1)) (0 : Int32)) ?_
  rintro - Y5 ⟨hT5, hf5⟩
  refine ok.ck hn ?_
  refine ok.letE (v1 := X.1 24 (ix p1)) (hT5.1.1 24 (ix p1) (show (4800 : Nat) ∉ [27, 9600, 9800, 10000] from by decide)) ?_
  refine ok.bd (t_task hT5 (by decide) (by simp only [List.length_append, List.length_cons, List.length_nil]; omega) (40 : Int32) (X.1 24 (ix p1)) (0 : Int32)) ?_
  rintro - Y6 ⟨hT6, hf6⟩
  refine ok.bd (t_task hT6 (by decide) (by simp only [List.length_append, List.length_cons, List.length_nil]; omega) (15 : Int32) p1 (0 : Int32)) ?_
  rintro - Y7 ⟨hT7, hf7⟩
  refine ok.ck hn ?_
  refine ok.letE (v1 := X.1 23 (ix p1)) (hT7.1.1 23 (ix p1) (show (4600 : Nat) ∉ [27, 9600, 9800, 10000] from by decide)) ?_
  refine ok.bd (t_task hT7 (by decide) (by simp only [List.length_append, List.length_cons, List.length_nil]; omega) (6 : Int32) (X.1 23 (ix p1)) (0 : Int32)) ?_
  rintro - Y8 ⟨hT8, hf8⟩
  refine ok.ck hn ?_
  refine ok.letE (v1 := X.1 23 (ix p1)) (hT8.1.1 23 (ix p1) (show (4600 : Nat) ∉ [27, 9600, 9800, 10000] from by decide)) ?_
  refine ok.bd (t_task hT8 (by decide) (by simp only [List.length_append, List.length_cons, List.length_nil]; omega) (40 : Int32) (X.1 23 (ix p1)) (0 : Int32)) ?_
  rintro - Y9 ⟨hT9, hf9⟩
  exact ok.ret hT9
theorem tells_17 {X : St} {p1 : Int32} (hn : inR p1 3100) (hk : (X.1 20 (ix p1)).toInt = 17) (h0 : 0 ≤ (X.1 0 27).toInt ∧ (X.1 0 27).toInt + 9 < 13000) : ok (f_tells p1 X) (fun _ Y => TP [27, 9600, 9800, 10000] X Y [((40 : Int32), (X.1 24 (ix p1)), (0 : Int32)), ((13 : Int32), p1, (0 : Int32)), ((12 : Int32), p1, (0 : Int32)), ((40 : Int32), (X.1 23 (ix p1)), (0 : Int32))]) := by
  have hT0 := TP.nil [27, 9600, 9800, 10000] X
  unfold f_tells
  refine ok.ck hn ?_
  refine ok.letE (v1 := X.1 20 (ix p1)) rfl ?_
  refine ok.ite (fun c => absurd c (show ¬ ((X.1 20 (ix p1)).toInt = 0) from by omega)) (fun c => ?_)
  refine ok.ite (fun c => absurd c (show ¬ ((X.1 20 (ix p1)).toInt = 1) from by omega)) (fun c => ?_)
  refine ok.ite (fun c => absurd c (show ¬ ((X.1 20 (ix p1)).toInt = 2) from by omega)) (fun c => ?_)
  refine ok.ite (fun c => absurd c (show ¬ ((X.1 20 (ix p1)).toInt = 3) from by omega)) (fun c => ?_)
  refine ok.ite (fun c => absurd c (show ¬ ((X.1 20 (ix p1)).toInt = 4) from by omega)) (fun c => ?_)
  refine ok.ite (fun c => absurd c (show ¬ ((X.1 20 (ix p1)).toInt = 8) from by omega)) (fun c => ?_)
  refine ok.ite (fun c => absurd c (show ¬ ((X.1 20 (ix p1)).toInt = 9) from by omega)) (fun c => ?_)
  refine ok.ite (fun c => absurd c (show ¬ ((X.1 20 (ix p1)).toInt = 11) from by omega)) (fun c => ?_)
  refine ok.bd (R := fun _ Y => TP [27, 9600, 9800, 10000] X Y [((40 : Int32), (X.1 24 (ix p1)), (0 : Int32)), ((13 : Int32), p1, (0 : Int32)), ((12 : Int32), p1, (0 : Int32)), ((40 : Int32), (X.1 23 (ix p1)), (0 : Int32))]) ?_ (fun _ Y h => ok.ret h)
  unfold f_tellsMore
  refine ok.ck hn ?_
  refine ok.letE (v1 := X.1 20 (ix p1)) rfl ?_
  refine ok.ite (fun c => absurd c (show ¬ ((X.1 20 (ix p1)).toInt = 5) from by omega)) (fun c => ?_)
  refine ok.ite (fun c => absurd c (show ¬ ((X.1 20 (ix p1)).toInt = 6) from by omega)) (fun c => ?_)
  refine ok.ite (fun c => absurd c (show ¬ ((X.1 20 (ix p1)).toInt = 7) from by omega)) (fun c => ?_)
  refine ok.ite (fun c => absurd c (show ¬ ((X.1 20 (ix p1)).toInt = 10) from by omega)) (fun c => ?_)
  refine ok.ite (fun c => absurd c (show ¬ ((X.1 20 (ix p1)).toInt = 12) from by omega)) (fun c => ?_)
  refine ok.ite (fun c => absurd c (show ¬ ((X.1 20 (ix p1)).toInt = 13) from by omega)) (fun c => ?_)
  refine ok.ite (fun c => absurd c (show ¬ ((X.1 20 (ix p1)).toInt = 14) from by omega)) (fun c => ?_)
  refine ok.ite (fun c => absurd c (show ¬ ((X.1 20 (ix p1)).toInt = 15) from by omega)) (fun c => ?_)
  refine ok.ite (fun c => absurd c (show ¬ ((X.1 20 (ix p1)).toInt = 16) from by omega)) (fun c => ?_)
  refine ok.ck hn ?_
  refine ok.letE (v1 := X.1 24 (ix p1)) rfl ?_
  refine ok.bd (t_task hT0 (by decide) (by simp only [List.length_append, List.length_cons, List.length_nil]; omega) (40 : Int32) (X.1 24 (ix p1)) (0 : Int32)) ?_
  rintro - Y1 ⟨hT1, hf1⟩
  refine ok.bd (t_task hT1 (by decide) (by simp only [List.length_append, List.length_cons, List.length_nil]; omega) (13 : Int32) p1 (0 : Int32)) ?_
  rintro - Y2 ⟨hT2, hf2⟩
  refine ok.bd (t_task hT2 (by decide) (by simp only [List.length_append, List.length_cons, List.length_nil]; omega) (12 : Int32) p1 (0 : Int32)) ?_
  rintro - Y3 ⟨hT3, hf3⟩
  refine ok.ck hn ?_
  refine ok.letE (v1 := X.1 23 (ix p1)) (hT3.1.1 23 (ix p1) (show (4600 : Nat) ∉ [27, 9600, 9800, 10000] from by decide)) ?_
  refine ok.bd (t_task hT3 (by decide) (by simp only [List.length_append, List.length_cons, List.length_nil]; omega) (40 : Int32) (X.1 23 (ix p1)) (0 : Int32)) ?_
  rintro - Y4 ⟨hT4, hf4⟩
  exact ok.ret hT4
theorem tells_4 {X : St} {p1 : Int32} (hn : inR p1 3100) (hk : (X.1 20 (ix p1)).toInt = 4) (h24 : 0 ≤ (X.1 24 (ix p1)).toInt) (h0 : 0 ≤ (X.1 0 27).toInt ∧ (X.1 0 27).toInt + 9 < 13000) : ok (f_tells p1 X) (fun _ Y => TP [27, 9600, 9800, 10000] X Y [((18 : Int32), p1, (0 : Int32)), ((41 : Int32), (X.1 24 (ix p1)), (0 : Int32))]) := by
  have hT0 := TP.nil [27, 9600, 9800, 10000] X
  unfold f_tells
  refine ok.ck hn ?_
  refine ok.letE (v1 := X.1 20 (ix p1)) rfl ?_
  refine ok.ite (fun c => absurd c (show ¬ ((X.1 20 (ix p1)).toInt = 0) from by omega)) (fun c => ?_)
  refine ok.ite (fun c => absurd c (show ¬ ((X.1 20 (ix p1)).toInt = 1) from by omega)) (fun c => ?_)
  refine ok.ite (fun c => absurd c (show ¬ ((X.1 20 (ix p1)).toInt = 2) from by omega)) (fun c => ?_)
  refine ok.ite (fun c => absurd c (show ¬ ((X.1 20 (ix p1)).toInt = 3) from by omega)) (fun c => ?_)
  refine ok.ite (fun c => ?_) (fun c => absurd (show (X.1 20 (ix p1)).toInt = 4 from by omega) c)
  refine ok.bd (t_task hT0 (by decide) (by simp only [List.length_append, List.length_cons, List.length_nil]; omega) (18 : Int32) p1 (0 : Int32)) ?_
  rintro - Y1 ⟨hT1, hf1⟩
  refine ok.ck hn ?_
  refine ok.letE (v1 := X.1 24 (ix p1)) (hT1.1.1 24 (ix p1) (show (4800 : Nat) ∉ [27, 9600, 9800, 10000] from by decide)) ?_
  refine ok.ite (fun c => absurd c (show ¬ ((X.1 24 (ix p1)).toInt < 0) from by omega)) (fun c => ?_)
  refine ok.ck hn ?_
  refine ok.letE (v1 := X.1 24 (ix p1)) (hT1.1.1 24 (ix p1) (show (4800 : Nat) ∉ [27, 9600, 9800, 10000] from by decide)) ?_
  refine ok.bd (t_task hT1 (by decide) (by simp only [List.length_append, List.length_cons, List.length_nil]; omega) (41 : Int32) (X.1 24 (ix p1)) (0 : Int32)) ?_
  rintro - Y2 ⟨hT2, hf2⟩
  exact ok.ret hT2
theorem tells_4n {X : St} {p1 : Int32} (hn : inR p1 3100) (hk : (X.1 20 (ix p1)).toInt = 4) (h24 : (X.1 24 (ix p1)).toInt < 0) (h0 : 0 ≤ (X.1 0 27).toInt ∧ (X.1 0 27).toInt + 9 < 13000) : ok (f_tells p1 X) (fun _ Y => TP [27, 9600, 9800, 10000] X Y [((18 : Int32), p1, (0 : Int32))]) := by
  have hT0 := TP.nil [27, 9600, 9800, 10000] X
  unfold f_tells
  refine ok.ck hn ?_
  refine ok.letE (v1 := X.1 20 (ix p1)) rfl ?_
  refine ok.ite (fun c => absurd c (show ¬ ((X.1 20 (ix p1)).toInt = 0) from by omega)) (fun c => ?_)
  refine ok.ite (fun c => absurd c (show ¬ ((X.1 20 (ix p1)).toInt = 1) from by omega)) (fun c => ?_)
  refine ok.ite (fun c => absurd c (show ¬ ((X.1 20 (ix p1)).toInt = 2) from by omega)) (fun c => ?_)
  refine ok.ite (fun c => absurd c (show ¬ ((X.1 20 (ix p1)).toInt = 3) from by omega)) (fun c => ?_)
  refine ok.ite (fun c => ?_) (fun c => absurd (show (X.1 20 (ix p1)).toInt = 4 from by omega) c)
  refine ok.bd (t_task hT0 (by decide) (by simp only [List.length_append, List.length_cons, List.length_nil]; omega) (18 : Int32) p1 (0 : Int32)) ?_
  rintro - Y1 ⟨hT1, hf1⟩
  refine ok.ck hn ?_
  refine ok.letE (v1 := X.1 24 (ix p1)) (hT1.1.1 24 (ix p1) (show (4800 : Nat) ∉ [27, 9600, 9800, 10000] from by decide)) ?_
  refine ok.ite (fun c => ?_) (fun c => absurd (show (X.1 24 (ix p1)).toInt < 0 from by omega) c)
  exact ok.ret hT1
theorem tells_9 {X : St} {p1 : Int32} (hn : inR p1 3100) (hk : (X.1 20 (ix p1)).toInt = 9) (h0 : 0 ≤ (X.1 0 27).toInt ∧ (X.1 0 27).toInt + 9 < 13000) : ok (f_tells p1 X) (fun _ Y => TP [27, 9600, 9800, 10000] X Y [((41 : Int32), (X.1 24 (ix p1)), (1 : Int32))]) := by
  have hT0 := TP.nil [27, 9600, 9800, 10000] X
  unfold f_tells
  refine ok.ck hn ?_
  refine ok.letE (v1 := X.1 20 (ix p1)) rfl ?_
  refine ok.ite (fun c => absurd c (show ¬ ((X.1 20 (ix p1)).toInt = 0) from by omega)) (fun c => ?_)
  refine ok.ite (fun c => absurd c (show ¬ ((X.1 20 (ix p1)).toInt = 1) from by omega)) (fun c => ?_)
  refine ok.ite (fun c => absurd c (show ¬ ((X.1 20 (ix p1)).toInt = 2) from by omega)) (fun c => ?_)
  refine ok.ite (fun c => absurd c (show ¬ ((X.1 20 (ix p1)).toInt = 3) from by omega)) (fun c => ?_)
  refine ok.ite (fun c => absurd c (show ¬ ((X.1 20 (ix p1)).toInt = 4) from by omega)) (fun c => ?_)
  refine ok.ite (fun c => absurd c (show ¬ ((X.1 20 (ix p1)).toInt = 8) from by omega)) (fun c => ?_)
  refine ok.ite (fun c => ?_) (fun c => absurd (show (X.1 20 (ix p1)).toInt = 9 from by omega) c)
  refine ok.ck hn ?_
  refine ok.letE (v1 := X.1 24 (ix p1)) rfl ?_
  refine ok.bd (t_task hT0 (by decide) (by simp only [List.length_append, List.length_cons, List.length_nil]; omega) (41 : Int32) (X.1 24 (ix p1)) (1 : Int32)) ?_
  rintro - Y1 ⟨hT1, hf1⟩
  exact ok.ret hT1
theorem tells_10 {X : St} {p1 : Int32} (hn : inR p1 3100) (hk : (X.1 20 (ix p1)).toInt = 10) (h25 : (X.1 25 (ix p1)).toInt < 0) (h0 : 0 ≤ (X.1 0 27).toInt ∧ (X.1 0 27).toInt + 9 < 13000) : ok (f_tells p1 X) (fun _ Y => TP [27, 9600, 9800, 10000] X Y [((26 : Int32), p1, (0 : Int32)), ((5 : Int32), (X.1 24 (ix p1)), (0 : Int32)), ((40 : Int32), (X.1 24 (ix p1)), (0 : Int32)), ((8 : Int32), p1, (0 : Int32)), ((40 : Int32), (X.1 23 (ix p1)), (0 : Int32))]) := by
  have hT0 := TP.nil [27, 9600, 9800, 10000] X
  unfold f_tells
  refine ok.ck hn ?_
  refine ok.letE (v1 := X.1 20 (ix p1)) rfl ?_
  refine ok.ite (fun c => absurd c (show ¬ ((X.1 20 (ix p1)).toInt = 0) from by omega)) (fun c => ?_)
  refine ok.ite (fun c => absurd c (show ¬ ((X.1 20 (ix p1)).toInt = 1) from by omega)) (fun c => ?_)
  refine ok.ite (fun c => absurd c (show ¬ ((X.1 20 (ix p1)).toInt = 2) from by omega)) (fun c => ?_)
  refine ok.ite (fun c => absurd c (show ¬ ((X.1 20 (ix p1)).toInt = 3) from by omega)) (fun c => ?_)
  refine ok.ite (fun c => absurd c (show ¬ ((X.1 20 (ix p1)).toInt = 4) from by omega)) (fun c => ?_)
  refine ok.ite (fun c => absurd c (show ¬ ((X.1 20 (ix p1)).toInt = 8) from by omega)) (fun c => ?_)
  refine ok.ite (fun c => absurd c (show ¬ ((X.1 20 (ix p1)).toInt = 9) from by omega)) (fun c => ?_)
  refine ok.ite (fun c => absurd c (show ¬ ((X.1 20 (ix p1)).toInt = 11) from by omega)) (fun c => ?_)
  refine ok.bd (R := fun _ Y => TP [27, 9600, 9800, 10000] X Y [((26 : Int32), p1, (0 : Int32)), ((5 : Int32), (X.1 24 (ix p1)), (0 : Int32)), ((40 : Int32), (X.1 24 (ix p1)), (0 : Int32)), ((8 : Int32), p1, (0 : Int32)), ((40 : Int32), (X.1 23 (ix p1)), (0 : Int32))]) ?_ (fun _ Y h => ok.ret h)
  unfold f_tellsMore
  refine ok.ck hn ?_
  refine ok.letE (v1 := X.1 20 (ix p1)) rfl ?_
  refine ok.ite (fun c => absurd c (show ¬ ((X.1 20 (ix p1)).toInt = 5) from by omega)) (fun c => ?_)
  refine ok.ite (fun c => absurd c (show ¬ ((X.1 20 (ix p1)).toInt = 6) from by omega)) (fun c => ?_)
  refine ok.ite (fun c => absurd c (show ¬ ((X.1 20 (ix p1)).toInt = 7) from by omega)) (fun c => ?_)
  refine ok.ite (fun c => ?_) (fun c => absurd (show (X.1 20 (ix p1)).toInt = 10 from by omega) c)
  refine ok.ck hn ?_
  refine ok.letE (v1 := X.1 25 (ix p1)) rfl ?_
  refine ok.ite (fun c => absurd c (show ¬ (0 ≤ (X.1 25 (ix p1)).toInt) from by omega)) (fun c => ?_)
  unfold f_tellsMore_337
  refine ok.bd (t_task hT0 (by decide) (by simp only [List.length_append, List.length_cons, List.length_nil]; omega) (26 : Int32) p1 (0 : Int32)) ?_
  rintro - Y1 ⟨hT1, hf1⟩
  refine ok.ck hn ?_
  refine ok.letE (v1 := X.1 25 (ix p1)) (hT1.1.1 25 (ix p1) (show (5000 : Nat) ∉ [27, 9600, 9800, 10000] from by decide)) ?_
  refine ok.ite (fun c => ?_) (fun c => absurd (show (X.1 25 (ix p1)).toInt < 0 from by omega) c)
  unfold f_tellsMore_372
  refine ok.ck hn ?_
  refine ok.letE (v1 := X.1 24 (ix p1)) (hT1.1.1 24 (ix p1) (show (4800 : Nat) ∉ [27, 9600, 9800, 10000] from by decide)) ?_
  refine ok.bd (t_task hT1 (by decide) (by simp only [List.length_append, List.length_cons, List.length_nil]; omega) (5 : Int32) (X.1 24 (ix p1)) (0 : Int32)) ?_
  rintro - Y2 ⟨hT2, hf2⟩
  refine ok.ck hn ?_
  refine ok.letE (v1 := X.1 24 (ix p1)) (hT2.1.1 24 (ix p1) (show (4800 : Nat) ∉ [27, 9600, 9800, 10000] from by decide)) ?_
  refine ok.bd (t_task hT2 (by decide) (by simp only [List.length_append, List.length_cons, List.length_nil]; omega) (40 : Int32) (X.1 24 (ix p1)) (0 : Int32)) ?_
  rintro - Y3 ⟨hT3, hf3⟩
  refine ok.bd (t_task hT3 (by decide) (by simp only [List.length_append, List.length_cons, List.length_nil]; omega) (8 : Int32) p1 (0 : Int32)) ?_
  rintro - Y4 ⟨hT4, hf4⟩
  refine ok.ck hn ?_
  refine ok.letE (v1 := X.1 23 (ix p1)) (hT4.1.1 23 (ix p1) (show (4600 : Nat) ∉ [27, 9600, 9800, 10000] from by decide)) ?_
  refine ok.bd (t_task hT4 (by decide) (by simp only [List.length_append, List.length_cons, List.length_nil]; omega) (40 : Int32) (X.1 23 (ix p1)) (0 : Int32)) ?_
  rintro - Y5 ⟨hT5, hf5⟩
  exact ok.ret hT5
theorem tells_10w {X : St} {p1 : Int32} (hn : inR p1 3100) (hk : (X.1 20 (ix p1)).toInt = 10) (h25 : 0 ≤ (X.1 25 (ix p1)).toInt) (h0 : 0 ≤ (X.1 0 27).toInt ∧ (X.1 0 27).toInt + 9 < 13000) : ok (f_tells p1 X) (fun _ Y => TP [27, 9600, 9800, 10000] X Y [((27 : Int32), p1, (0 : Int32)), ((11 : Int32), p1, (0 : Int32)), ((40 : Int32), (X.1 25 (ix p1)), (0 : Int32)), ((5 : Int32), (X.1 24 (ix p1)), (0 : Int32)), ((40 : Int32), (X.1 24 (ix p1)), (0 : Int32)), ((8 : Int32), p1, (0 : Int32)), ((40 : Int32), (X.1 23 (ix p1)), (0 : Int32))]) := by
  have hT0 := TP.nil [27, 9600, 9800, 10000] X
  unfold f_tells
  refine ok.ck hn ?_
  refine ok.letE (v1 := X.1 20 (ix p1)) rfl ?_
  refine ok.ite (fun c => absurd c (show ¬ ((X.1 20 (ix p1)).toInt = 0) from by omega)) (fun c => ?_)
  refine ok.ite (fun c => absurd c (show ¬ ((X.1 20 (ix p1)).toInt = 1) from by omega)) (fun c => ?_)
  refine ok.ite (fun c => absurd c (show ¬ ((X.1 20 (ix p1)).toInt = 2) from by omega)) (fun c => ?_)
  refine ok.ite (fun c => absurd c (show ¬ ((X.1 20 (ix p1)).toInt = 3) from by omega)) (fun c => ?_)
  refine ok.ite (fun c => absurd c (show ¬ ((X.1 20 (ix p1)).toInt = 4) from by omega)) (fun c => ?_)
  refine ok.ite (fun c => absurd c (show ¬ ((X.1 20 (ix p1)).toInt = 8) from by omega)) (fun c => ?_)
  refine ok.ite (fun c => absurd c (show ¬ ((X.1 20 (ix p1)).toInt = 9) from by omega)) (fun c => ?_)
  refine ok.ite (fun c => absurd c (show ¬ ((X.1 20 (ix p1)).toInt = 11) from by omega)) (fun c => ?_)
  refine ok.bd (R := fun _ Y => TP [27, 9600, 9800, 10000] X Y [((27 : Int32), p1, (0 : Int32)), ((11 : Int32), p1, (0 : Int32)), ((40 : Int32), (X.1 25 (ix p1)), (0 : Int32)), ((5 : Int32), (X.1 24 (ix p1)), (0 : Int32)), ((40 : Int32), (X.1 24 (ix p1)), (0 : Int32)), ((8 : Int32), p1, (0 : Int32)), ((40 : Int32), (X.1 23 (ix p1)), (0 : Int32))]) ?_ (fun _ Y h => ok.ret h)
  unfold f_tellsMore
  refine ok.ck hn ?_
  refine ok.letE (v1 := X.1 20 (ix p1)) rfl ?_
  refine ok.ite (fun c => absurd c (show ¬ ((X.1 20 (ix p1)).toInt = 5) from by omega)) (fun c => ?_)
  refine ok.ite (fun c => absurd c (show ¬ ((X.1 20 (ix p1)).toInt = 6) from by omega)) (fun c => ?_)
  refine ok.ite (fun c => absurd c (show ¬ ((X.1 20 (ix p1)).toInt = 7) from by omega)) (fun c => ?_)
  refine ok.ite (fun c => ?_) (fun c => absurd (show (X.1 20 (ix p1)).toInt = 10 from by omega) c)
  refine ok.ck hn ?_
  refine ok.letE (v1 := X.1 25 (ix p1)) rfl ?_
  refine ok.ite (fun c => ?_) (fun c => absurd (show 0 ≤ (X.1 25 (ix p1)).toInt from by omega) c)
  unfold f_tellsMore_337
  refine ok.bd (t_task hT0 (by decide) (by simp only [List.length_append, List.length_cons, List.length_nil]; omega) (27 : Int32) p1 (0 : Int32)) ?_
  rintro - Y1 ⟨hT1, hf1⟩
  refine ok.ck hn ?_
  refine ok.letE (v1 := X.1 25 (ix p1)) (hT1.1.1 25 (ix p1) (show (5000 : Nat) ∉ [27, 9600, 9800, 10000] from by decide)) ?_
  refine ok.ite (fun c => absurd c (show ¬ ((X.1 25 (ix p1)).toInt < 0) from by omega)) (fun c => ?_)
  refine ok.bd (t_task hT1 (by decide) (by simp only [List.length_append, List.length_cons, List.length_nil]; omega) (11 : Int32) p1 (0 : Int32)) ?_
  rintro - Y2 ⟨hT2, hf2⟩
  refine ok.ck hn ?_
  refine ok.letE (v1 := X.1 25 (ix p1)) (hT2.1.1 25 (ix p1) (show (5000 : Nat) ∉ [27, 9600, 9800, 10000] from by decide)) ?_
  refine ok.bd (t_task hT2 (by decide) (by simp only [List.length_append, List.length_cons, List.length_nil]; omega) (40 : Int32) (X.1 25 (ix p1)) (0 : Int32)) ?_
  rintro - Y3 ⟨hT3, hf3⟩
  unfold f_tellsMore_372
  refine ok.ck hn ?_
  refine ok.letE (v1 := X.1 24 (ix p1)) (hT3.1.1 24 (ix p1) (show (4800 : Nat) ∉ [27, 9600, 9800, 10000] from by decide)) ?_
  refine ok.bd (t_task hT3 (by decide) (by simp only [List.length_append, List.length_cons, List.length_nil]; omega) (5 : Int32) (X.1 24 (ix p1)) (0 : Int32)) ?_
  rintro - Y4 ⟨hT4, hf4⟩
  refine ok.ck hn ?_
  refine ok.letE (v1 := X.1 24 (ix p1)) (hT4.1.1 24 (ix p1) (show (4800 : Nat) ∉ [27, 9600, 9800, 10000] from by decide)) ?_
  refine ok.bd (t_task hT4 (by decide) (by simp only [List.length_append, List.length_cons, List.length_nil]; omega) (40 : Int32) (X.1 24 (ix p1)) (0 : Int32)) ?_
  rintro - Y5 ⟨hT5, hf5⟩
  refine ok.bd (t_task hT5 (by decide) (by simp only [List.length_append, List.length_cons, List.length_nil]; omega) (8 : Int32) p1 (0 : Int32)) ?_
  rintro - Y6 ⟨hT6, hf6⟩
  refine ok.ck hn ?_
  refine ok.letE (v1 := X.1 23 (ix p1)) (hT6.1.1 23 (ix p1) (show (4600 : Nat) ∉ [27, 9600, 9800, 10000] from by decide)) ?_
  refine ok.bd (t_task hT6 (by decide) (by simp only [List.length_append, List.length_cons, List.length_nil]; omega) (40 : Int32) (X.1 23 (ix p1)) (0 : Int32)) ?_
  rintro - Y7 ⟨hT7, hf7⟩
  exact ok.ret hT7
theorem tells_11n {X : St} {p1 : Int32} (hn : inR p1 3100) (hk : (X.1 20 (ix p1)).toInt = 11) (h24 : (X.1 24 (ix p1)).toInt < 0) (h0 : 0 ≤ (X.1 0 27).toInt ∧ (X.1 0 27).toInt + 9 < 13000) : ok (f_tells p1 X) (fun _ Y => TP [27, 9600, 9800, 10000] X Y [((28 : Int32), p1, (0 : Int32)), ((7 : Int32), p1, (0 : Int32)), ((40 : Int32), (X.1 23 (ix p1)), (0 : Int32))]) := by
  have hT0 := TP.nil [27, 9600, 9800, 10000] X
  unfold f_tells
  refine ok.ck hn ?_
  refine ok.letE (v1 := X.1 20 (ix p1)) rfl ?_
  refine ok.ite (fun c => absurd c (show ¬ ((X.1 20 (ix p1)).toInt = 0) from by omega)) (fun c => ?_)
  refine ok.ite (fun c => absurd c (show ¬ ((X.1 20 (ix p1)).toInt = 1) from by omega)) (fun c => ?_)
  refine ok.ite (fun c => absurd c (show ¬ ((X.1 20 (ix p1)).toInt = 2) from by omega)) (fun c => ?_)
  refine ok.ite (fun c => absurd c (show ¬ ((X.1 20 (ix p1)).toInt = 3) from by omega)) (fun c => ?_)
  refine ok.ite (fun c => absurd c (show ¬ ((X.1 20 (ix p1)).toInt = 4) from by omega)) (fun c => ?_)
  refine ok.ite (fun c => absurd c (show ¬ ((X.1 20 (ix p1)).toInt = 8) from by omega)) (fun c => ?_)
  refine ok.ite (fun c => absurd c (show ¬ ((X.1 20 (ix p1)).toInt = 9) from by omega)) (fun c => ?_)
  refine ok.ite (fun c => ?_) (fun c => absurd (show (X.1 20 (ix p1)).toInt = 11 from by omega) c)
  refine ok.bd (t_task hT0 (by decide) (by simp only [List.length_append, List.length_cons, List.length_nil]; omega) (28 : Int32) p1 (0 : Int32)) ?_
  rintro - Y1 ⟨hT1, hf1⟩
  refine ok.ck hn ?_
  refine ok.letE (v1 := X.1 24 (ix p1)) (hT1.1.1 24 (ix p1) (show (4800 : Nat) ∉ [27, 9600, 9800, 10000] from by decide)) ?_
  refine ok.ite (fun c => ?_) (fun c => absurd (show (X.1 24 (ix p1)).toInt < 0 from by omega) c)
  unfold f_tells_195
  refine ok.bd (t_task hT1 (by decide) (by simp only [List.length_append, List.length_cons, List.length_nil]; omega) (7 : Int32) p1 (0 : Int32)) ?_
  rintro - Y2 ⟨hT2, hf2⟩
  refine ok.ck hn ?_
  refine ok.letE (v1 := X.1 23 (ix p1)) (hT2.1.1 23 (ix p1) (show (4600 : Nat) ∉ [27, 9600, 9800, 10000] from by decide)) ?_
  refine ok.bd (t_task hT2 (by decide) (by simp only [List.length_append, List.length_cons, List.length_nil]; omega) (40 : Int32) (X.1 23 (ix p1)) (0 : Int32)) ?_
  rintro - Y3 ⟨hT3, hf3⟩
  exact ok.ret hT3
theorem TP.mono {K K1 : List Nat} {X Y : St} {L : List (Int32 × Int32 × Int32)} (h : TP K X Y L) (hK : ∀ k ∈ K, k ∈ K1) : TP K1 X Y L := ⟨h.1.mono hK, h.2⟩
theorem TP.w51 {X Y : St} {L : List (Int32 × Int32 × Int32)} (h : TP [27, 9600, 9800, 10000, 10200] X Y L) (k : Nat) (v : Int32) : TP [27, 9600, 9800, 10000, 10200] X (wI Y 51 k v) L := by
  obtain ⟨a, b, c, d⟩ := h
  have e : ∀ f, f ≠ 51 → ∀ i, (wI Y 51 k v).1 f i = Y.1 f i := fun f hf i => wI_ne _ 51 _ _ f i (fun q => hf q.1)
  refine ⟨a.wI 51 k v (show (10200 : Nat) ∈ [27, 9600, 9800, 10000, 10200] from by decide), by rw [e 0 (by decide)]; exact b, fun i hi => ?_, fun j x hx => ?_⟩
  · rw [e 48 (by decide), e 49 (by decide), e 50 (by decide)]
    exact c i hi
  · rw [e 48 (by decide), e 49 (by decide), e 50 (by decide)]
    exact d j x hx
theorem t_toc {X : St} {L : List (Int32 × Int32 × Int32)} {n : Int32} {it : Nat → Nat} {m : Nat} (hn : inR n 3100) (hb : ∀ j, j < m → it j < 3100) (hl : ∀ i, i < m → (i + 1 < m → 0 ≤ (X.1 28 (it i)).toInt ∧ ix (X.1 28 (it i)) = it (i + 1)) ∧ (i + 1 = m → (X.1 28 (it i)).toInt < 0)) (h0 : 0 ≤ (X.1 0 27).toInt ∧ (X.1 0 27).toInt + L.length < 13000) : ∀ (d i : Nat) (Y : St) (a2 : Int32) (N : Nat), i + d = m → d < N → TP [27, 9600, 9800, 10000, 10200] X Y L → (d = 0 → a2.toInt < 0) → (0 < d → 0 ≤ a2.toInt ∧ ix a2 = it i) → ok (f_taskOfCall_7 N n a2 Y) (fun _ Z => TP [27, 9600, 9800, 10000, 10200] X Z (L ++ [((43 : Int32), (X.1 24 (ix n)), (0 : Int32))]) ∧ (∀ j, i ≤ j → j < m → Z.1 51 (it j) = n) ∧ (∀ q, (∀ j, i ≤ j → j < m → q ≠ it j) → Z.1 51 q = Y.1 51 q)) := by
  intro d
  induction d with
  | zero =>
    intro i Y a2 N hi hN hT h1 h2
    obtain ⟨N, rfl⟩ : ∃ k, N = k + 1 := ⟨N - 1, by omega⟩
    unfold f_taskOfCall_7
    rw [lp_succ]
    unfold f_taskOfCall_7_s
    refine ok.ite (fun c => ?_) (fun c => absurd (h1 rfl) c)
    refine ok.ck hn (ok.letE (v1 := X.1 24 (ix n)) (hT.1.1 24 _ (show (4800 : Nat) ∉ [27, 9600, 9800, 10000, 10200] from by decide)) ?_)
    refine ok.bd (t_task hT (by decide) h0 _ _ _) ?_
    rintro - Z ⟨hZ, hF⟩
    exact ok.ret ⟨hZ, fun j h1 h2 => by omega, fun q _ => hF.1 51 q (show (10200 : Nat) ∉ [27, 9600, 9800, 10000] from by decide)⟩
  | succ d ih =>
    intro i Y a2 N hi hN hT h1 h2
    obtain ⟨N, rfl⟩ : ∃ k, N = k + 1 := ⟨N - 1, by omega⟩
    obtain ⟨g1, g2⟩ := h2 (by omega)
    have hbi := hb i (by omega)
    have ea := ixc g1
    have hc : inR a2 3100 := ⟨g1, show a2.toInt < ((3100 : Nat) : Int) by omega⟩
    unfold f_taskOfCall_7
    rw [lp_succ]
    unfold f_taskOfCall_7_s
    refine ok.ite (fun c => absurd c (by omega)) (fun c => ?_)
    refine ok.ck hc (ok.letV ?_)
    refine ok.ck hc (ok.letE (v1 := X.1 28 (it i)) (by rw [wI_ne _ 51 _ _ 28 _ (by rintro ⟨q, -⟩; omega), g2]; exact hT.1.1 28 _ (show (5600 : Nat) ∉ [27, 9600, 9800, 10000, 10200] from by decide)) ?_)
    have hli := hl i (by omega)
    have key := ih (i + 1) (wI Y 51 (ix a2) n) (X.1 28 (it i)) N (by omega) (by omega) (hT.w51 _ _) (fun q => hli.2 (by omega)) (fun q => hli.1 (by omega))
    unfold f_taskOfCall_7 at key
    refine key.mono ?_
    rintro - Z ⟨k1, k2, k3⟩
    refine ⟨k1, fun j j1 j2 => ?_, fun q hq => ?_⟩
    · by_cases q : i + 1 ≤ j
      · exact k2 j q j2
      · have ej : j = i := by omega
        subst ej
        by_cases q2 : ∃ j2, j + 1 ≤ j2 ∧ j2 < m ∧ it j = it j2
        · obtain ⟨j3, q3, q4, q5⟩ := q2
          rw [q5]
          exact k2 j3 q3 q4
        · rw [k3 (it j) (fun j3 q3 q4 q5 => q2 ⟨j3, q3, q4, q5⟩), ← g2]
          exact wI_at _ 51 _ _
    · rw [k3 q (fun j q1 q2 => hq j (by omega) q2)]
      exact wI_ne _ 51 _ _ 51 _ (fun g => hq i (Nat.le_refl _) (by omega) (by rw [← g2]; exact g.2))
theorem go_plain {X : St} {o n m : Int32} (h0 : 0 ≤ (X.1 0 26).toInt ∧ (X.1 0 26).toInt < 24000) (ho : ¬ o.toInt = 14 ∧ ¬ o.toInt = 16 ∧ ¬ o.toInt = 17 ∧ ¬ o.toInt = 40 ∧ ¬ o.toInt = 41 ∧ ¬ o.toInt = 43) : ok (f_goesOn o n m X) (fun _ Y => ORD X Y o n m) := by
  unfold f_goesOn
  refine ok.ite (fun c => absurd c ho.1) (fun _ => ok.ite (fun c => absurd c ho.2.1) (fun _ => ok.ite (fun c => absurd c ho.2.2.1) (fun _ => ok.ite (fun c => absurd c ho.2.2.2.1) (fun _ => ok.ite (fun c => absurd c ho.2.2.2.2.1) (fun _ => ok.ite (fun c => absurd c ho.2.2.2.2.2) (fun _ => ?_))))))
  exact ok.bd (t_order h0 o n m) (fun _ Y h => ok.ret h)
theorem go_14 {X : St} {n m : Int32} (h0 : 0 ≤ (X.1 0 26).toInt ∧ (X.1 0 26).toInt < 24000) (hn : inR n 3100) : ok (f_goesOn 14 n m X) (fun _ Y => ORD (wI X 45 (ix n) (X.1 0 26)) Y 14 n m) := by
  unfold f_goesOn
  refine ok.ite (fun _ => ?_) (fun c => absurd (by decide) c)
  refine ok.letV (ok.ck hn (ok.letV ?_))
  exact ok.bd (t_order (X := wI X 45 (ix n) (X.1 0 26)) h0 14 n m) (fun _ Y h => ok.ret h)
theorem go_16 {X : St} {n m : Int32} (h0 : 0 ≤ (X.1 0 26).toInt ∧ (X.1 0 26).toInt < 24000) (hn : inR n 3100) : ok (f_goesOn 16 n m X) (fun _ Y => ∃ W, ORD X W 16 n m ∧ Y = wI W 46 (ix n) (W.1 0 26)) := by
  unfold f_goesOn
  refine ok.ite (fun c => absurd c (by decide)) (fun _ => ok.ite (fun _ => ?_) (fun c => absurd (by decide) c))
  refine ok.bd (t_order h0 16 n m) (fun _ W h => ?_)
  exact ok.letV (ok.ck hn (ok.letV (ok.ret ⟨W, h, rfl⟩)))
theorem go_17 {X : St} {n m : Int32} (h0 : 0 ≤ (X.1 0 26).toInt ∧ (X.1 0 26).toInt < 24000) (hn : inR n 3100) : ok (f_goesOn 17 n m X) (fun _ Y => ∃ W, ORD X W 17 n m ∧ Y = wI W 47 (ix n) (W.1 0 26)) := by
  unfold f_goesOn
  refine ok.ite (fun c => absurd c (by decide)) (fun _ => ok.ite (fun c => absurd c (by decide)) (fun _ => ok.ite (fun _ => ?_) (fun c => absurd (by decide) c)))
  refine ok.bd (t_order h0 17 n m) (fun _ W h => ?_)
  exact ok.letV (ok.ck hn (ok.letV (ok.ret ⟨W, h, rfl⟩)))
theorem go_40 {X : St} {n m : Int32} {Q : St → St → Prop} (h0 : 0 ≤ (X.1 0 26).toInt ∧ (X.1 0 26).toInt < 24000) (ht : ∀ W, ORD X W 0 n 0 → ok (f_tells n W) (fun _ Y => Q W Y)) : ok (f_goesOn 40 n m X) (fun _ Y => ∃ W, ORD X W 0 n 0 ∧ Q W Y) := by
  unfold f_goesOn
  refine ok.ite (fun c => absurd c (by decide)) (fun _ => ok.ite (fun c => absurd c (by decide)) (fun _ => ok.ite (fun c => absurd c (by decide)) (fun _ => ok.ite (fun _ => ?_) (fun c => absurd (by decide) c))))
  refine ok.bd (t_order h0 0 n 0) (fun _ W h => ?_)
  exact ok.bd (ht W h) (fun _ Y hq => ok.ret ⟨W, h, hq⟩)
theorem item_0 {X : St} {p1 p2 p3 : Int32} (h1 : p1.toInt = 41) (h3 : p3.toInt = 0) (hn : inR p2 3100) (h28 : 0 ≤ (X.1 28 (ix p2)).toInt) (h0 : 0 ≤ (X.1 0 27).toInt ∧ (X.1 0 27).toInt + 9 < 13000) : ok (f_goesOn p1 p2 p3 X) (fun _ Y => TP [27, 9600, 9800, 10000] X Y [((41 : Int32), (X.1 28 (ix p2)), p3), ((14 : Int32), p2, (0 : Int32)), ((40 : Int32), p2, (0 : Int32))]) := by
  have hT0 := TP.nil [27, 9600, 9800, 10000] X
  unfold f_goesOn
  refine ok.ite (fun c => absurd c (show ¬ (p1.toInt = 14) from by omega)) (fun c => ?_)
  refine ok.ite (fun c => absurd c (show ¬ (p1.toInt = 16) from by omega)) (fun c => ?_)
  refine ok.ite (fun c => absurd c (show ¬ (p1.toInt = 17) from by omega)) (fun c => ?_)
  refine ok.ite (fun c => absurd c (show ¬ (p1.toInt = 40) from by omega)) (fun c => ?_)
  refine ok.ite (fun c => ?_) (fun c => absurd (show p1.toInt = 41 from by omega) c)
  refine ok.ck hn ?_
  refine ok.letE (v1 := X.1 28 (ix p2)) rfl ?_
  refine ok.ite (fun c => absurd c (show ¬ ((X.1 28 (ix p2)).toInt < 0) from by omega)) (fun c => ?_)
  refine ok.ck hn ?_
  refine ok.letE (v1 := X.1 28 (ix p2)) rfl ?_
  refine ok.bd (t_task hT0 (by decide) (by simp only [List.length_append, List.length_cons, List.length_nil]; omega) (41 : Int32) (X.1 28 (ix p2)) p3) ?_
  rintro - Y1 ⟨hT1, hf1⟩
  refine ok.ite (fun c => absurd c (show ¬ (p3.toInt = 1) from by omega)) (fun c => ?_)
  unfold f_goesOn_110
  refine ok.ite (fun c => ?_) (fun c => absurd (show p3.toInt = 0 from by omega) c)
  refine ok.bd (t_task hT1 (by decide) (by simp only [List.length_append, List.length_cons, List.length_nil]; omega) (14 : Int32) p2 (0 : Int32)) ?_
  rintro - Y2 ⟨hT2, hf2⟩
  unfold f_goesOn_122
  refine ok.bd (t_task hT2 (by decide) (by simp only [List.length_append, List.length_cons, List.length_nil]; omega) (40 : Int32) p2 (0 : Int32)) ?_
  rintro - Y3 ⟨hT3, hf3⟩
  exact ok.ret hT3
theorem item_0l {X : St} {p1 p2 p3 : Int32} (h1 : p1.toInt = 41) (h3 : p3.toInt = 0) (hn : inR p2 3100) (h28 : (X.1 28 (ix p2)).toInt < 0) (h0 : 0 ≤ (X.1 0 27).toInt ∧ (X.1 0 27).toInt + 9 < 13000) : ok (f_goesOn p1 p2 p3 X) (fun _ Y => TP [27, 9600, 9800, 10000] X Y [((14 : Int32), p2, (0 : Int32)), ((40 : Int32), p2, (0 : Int32))]) := by
  have hT0 := TP.nil [27, 9600, 9800, 10000] X
  unfold f_goesOn
  refine ok.ite (fun c => absurd c (show ¬ (p1.toInt = 14) from by omega)) (fun c => ?_)
  refine ok.ite (fun c => absurd c (show ¬ (p1.toInt = 16) from by omega)) (fun c => ?_)
  refine ok.ite (fun c => absurd c (show ¬ (p1.toInt = 17) from by omega)) (fun c => ?_)
  refine ok.ite (fun c => absurd c (show ¬ (p1.toInt = 40) from by omega)) (fun c => ?_)
  refine ok.ite (fun c => ?_) (fun c => absurd (show p1.toInt = 41 from by omega) c)
  refine ok.ck hn ?_
  refine ok.letE (v1 := X.1 28 (ix p2)) rfl ?_
  refine ok.ite (fun c => ?_) (fun c => absurd (show (X.1 28 (ix p2)).toInt < 0 from by omega) c)
  unfold f_goesOn_110
  refine ok.ite (fun c => ?_) (fun c => absurd (show p3.toInt = 0 from by omega) c)
  refine ok.bd (t_task hT0 (by decide) (by simp only [List.length_append, List.length_cons, List.length_nil]; omega) (14 : Int32) p2 (0 : Int32)) ?_
  rintro - Y1 ⟨hT1, hf1⟩
  unfold f_goesOn_122
  refine ok.bd (t_task hT1 (by decide) (by simp only [List.length_append, List.length_cons, List.length_nil]; omega) (40 : Int32) p2 (0 : Int32)) ?_
  rintro - Y2 ⟨hT2, hf2⟩
  exact ok.ret hT2
theorem item_1 {X : St} {p1 p2 p3 : Int32} (h1 : p1.toInt = 41) (h3 : p3.toInt = 1) (hn : inR p2 3100) (h28 : 0 ≤ (X.1 28 (ix p2)).toInt) (h0 : 0 ≤ (X.1 0 27).toInt ∧ (X.1 0 27).toInt + 9 < 13000) : ok (f_goesOn p1 p2 p3 X) (fun _ Y => TP [27, 9600, 9800, 10000] X Y [((41 : Int32), (X.1 28 (ix p2)), p3), ((29 : Int32), p2, (0 : Int32)), ((40 : Int32), p2, (0 : Int32))]) := by
  have hT0 := TP.nil [27, 9600, 9800, 10000] X
  unfold f_goesOn
  refine ok.ite (fun c => absurd c (show ¬ (p1.toInt = 14) from by omega)) (fun c => ?_)
  refine ok.ite (fun c => absurd c (show ¬ (p1.toInt = 16) from by omega)) (fun c => ?_)
  refine ok.ite (fun c => absurd c (show ¬ (p1.toInt = 17) from by omega)) (fun c => ?_)
  refine ok.ite (fun c => absurd c (show ¬ (p1.toInt = 40) from by omega)) (fun c => ?_)
  refine ok.ite (fun c => ?_) (fun c => absurd (show p1.toInt = 41 from by omega) c)
  refine ok.ck hn ?_
  refine ok.letE (v1 := X.1 28 (ix p2)) rfl ?_
  refine ok.ite (fun c => absurd c (show ¬ ((X.1 28 (ix p2)).toInt < 0) from by omega)) (fun c => ?_)
  refine ok.ck hn ?_
  refine ok.letE (v1 := X.1 28 (ix p2)) rfl ?_
  refine ok.bd (t_task hT0 (by decide) (by simp only [List.length_append, List.length_cons, List.length_nil]; omega) (41 : Int32) (X.1 28 (ix p2)) p3) ?_
  rintro - Y1 ⟨hT1, hf1⟩
  refine ok.ite (fun c => ?_) (fun c => absurd (show p3.toInt = 1 from by omega) c)
  refine ok.bd (t_task hT1 (by decide) (by simp only [List.length_append, List.length_cons, List.length_nil]; omega) (29 : Int32) p2 (0 : Int32)) ?_
  rintro - Y2 ⟨hT2, hf2⟩
  unfold f_goesOn_110
  refine ok.ite (fun c => absurd c (show ¬ (p3.toInt = 0) from by omega)) (fun c => ?_)
  unfold f_goesOn_122
  refine ok.bd (t_task hT2 (by decide) (by simp only [List.length_append, List.length_cons, List.length_nil]; omega) (40 : Int32) p2 (0 : Int32)) ?_
  rintro - Y3 ⟨hT3, hf3⟩
  exact ok.ret hT3
theorem item_1l {X : St} {p1 p2 p3 : Int32} (h1 : p1.toInt = 41) (h3 : p3.toInt = 1) (hn : inR p2 3100) (h28 : (X.1 28 (ix p2)).toInt < 0) (h0 : 0 ≤ (X.1 0 27).toInt ∧ (X.1 0 27).toInt + 9 < 13000) : ok (f_goesOn p1 p2 p3 X) (fun _ Y => TP [27, 9600, 9800, 10000] X Y [((40 : Int32), p2, (0 : Int32))]) := by
  have hT0 := TP.nil [27, 9600, 9800, 10000] X
  unfold f_goesOn
  refine ok.ite (fun c => absurd c (show ¬ (p1.toInt = 14) from by omega)) (fun c => ?_)
  refine ok.ite (fun c => absurd c (show ¬ (p1.toInt = 16) from by omega)) (fun c => ?_)
  refine ok.ite (fun c => absurd c (show ¬ (p1.toInt = 17) from by omega)) (fun c => ?_)
  refine ok.ite (fun c => absurd c (show ¬ (p1.toInt = 40) from by omega)) (fun c => ?_)
  refine ok.ite (fun c => ?_) (fun c => absurd (show p1.toInt = 41 from by omega) c)
  refine ok.ck hn ?_
  refine ok.letE (v1 := X.1 28 (ix p2)) rfl ?_
  refine ok.ite (fun c => ?_) (fun c => absurd (show (X.1 28 (ix p2)).toInt < 0 from by omega) c)
  unfold f_goesOn_110
  refine ok.ite (fun c => absurd c (show ¬ (p3.toInt = 0) from by omega)) (fun c => ?_)
  unfold f_goesOn_122
  refine ok.bd (t_task hT0 (by decide) (by simp only [List.length_append, List.length_cons, List.length_nil]; omega) (40 : Int32) p2 (0 : Int32)) ?_
  rintro - Y1 ⟨hT1, hf1⟩
  exact ok.ret hT1
theorem gives {X : St} {p1 p2 p3 : Int32} (h1 : p1.toInt = 43) (hn : inR p2 3100) (h28 : 0 ≤ (X.1 28 (ix p2)).toInt) (h0 : 0 ≤ (X.1 0 27).toInt ∧ (X.1 0 27).toInt + 9 < 13000) : ok (f_goesOn p1 p2 p3 X) (fun _ Y => TP [27, 9600, 9800, 10000] X Y [((43 : Int32), (X.1 28 (ix p2)), (p3 + (8 : Int32))), ((10 : Int32), p2, p3), ((40 : Int32), p2, (0 : Int32))]) := by
  have hT0 := TP.nil [27, 9600, 9800, 10000] X
  unfold f_goesOn
  refine ok.ite (fun c => absurd c (show ¬ (p1.toInt = 14) from by omega)) (fun c => ?_)
  refine ok.ite (fun c => absurd c (show ¬ (p1.toInt = 16) from by omega)) (fun c => ?_)
  refine ok.ite (fun c => absurd c (show ¬ (p1.toInt = 17) from by omega)) (fun c => ?_)
  refine ok.ite (fun c => absurd c (show ¬ (p1.toInt = 40) from by omega)) (fun c => ?_)
  refine ok.ite (fun c => absurd c (show ¬ (p1.toInt = 41) from by omega)) (fun c => ?_)
  refine ok.ite (fun c => ?_) (fun c => absurd (show p1.toInt = 43 from by omega) c)
  refine ok.ck hn ?_
  refine ok.letE (v1 := X.1 28 (ix p2)) rfl ?_
  refine ok.ite (fun c => absurd c (show ¬ ((X.1 28 (ix p2)).toInt < 0) from by omega)) (fun c => ?_)
  refine ok.ck hn ?_
  refine ok.letE (v1 := X.1 28 (ix p2)) rfl ?_
  refine ok.letV ?_
  refine ok.bd (t_task hT0 (by decide) (by simp only [List.length_append, List.length_cons, List.length_nil]; omega) (43 : Int32) (X.1 28 (ix p2)) (p3 + (8 : Int32))) ?_
  rintro - Y1 ⟨hT1, hf1⟩
  unfold f_goesOn_158
  refine ok.bd (t_task hT1 (by decide) (by simp only [List.length_append, List.length_cons, List.length_nil]; omega) (10 : Int32) p2 p3) ?_
  rintro - Y2 ⟨hT2, hf2⟩
  refine ok.bd (t_task hT2 (by decide) (by simp only [List.length_append, List.length_cons, List.length_nil]; omega) (40 : Int32) p2 (0 : Int32)) ?_
  rintro - Y3 ⟨hT3, hf3⟩
  exact ok.ret hT3
theorem givesl {X : St} {p1 p2 p3 : Int32} (h1 : p1.toInt = 43) (hn : inR p2 3100) (h28 : (X.1 28 (ix p2)).toInt < 0) (h0 : 0 ≤ (X.1 0 27).toInt ∧ (X.1 0 27).toInt + 9 < 13000) : ok (f_goesOn p1 p2 p3 X) (fun _ Y => TP [27, 9600, 9800, 10000] X Y [((10 : Int32), p2, p3), ((40 : Int32), p2, (0 : Int32))]) := by
  have hT0 := TP.nil [27, 9600, 9800, 10000] X
  unfold f_goesOn
  refine ok.ite (fun c => absurd c (show ¬ (p1.toInt = 14) from by omega)) (fun c => ?_)
  refine ok.ite (fun c => absurd c (show ¬ (p1.toInt = 16) from by omega)) (fun c => ?_)
  refine ok.ite (fun c => absurd c (show ¬ (p1.toInt = 17) from by omega)) (fun c => ?_)
  refine ok.ite (fun c => absurd c (show ¬ (p1.toInt = 40) from by omega)) (fun c => ?_)
  refine ok.ite (fun c => absurd c (show ¬ (p1.toInt = 41) from by omega)) (fun c => ?_)
  refine ok.ite (fun c => ?_) (fun c => absurd (show p1.toInt = 43 from by omega) c)
  refine ok.ck hn ?_
  refine ok.letE (v1 := X.1 28 (ix p2)) rfl ?_
  refine ok.ite (fun c => ?_) (fun c => absurd (show (X.1 28 (ix p2)).toInt < 0 from by omega) c)
  unfold f_goesOn_158
  refine ok.bd (t_task hT0 (by decide) (by simp only [List.length_append, List.length_cons, List.length_nil]; omega) (10 : Int32) p2 p3) ?_
  rintro - Y1 ⟨hT1, hf1⟩
  refine ok.bd (t_task hT1 (by decide) (by simp only [List.length_append, List.length_cons, List.length_nil]; omega) (40 : Int32) p2 (0 : Int32)) ?_
  rintro - Y2 ⟨hT2, hf2⟩
  exact ok.ret hT2
theorem tells_11 {X : St} {p1 : Int32} {it : Nat → Nat} {m : Nat} (hn : inR p1 3100) (hk : (X.1 20 (ix p1)).toInt = 11) (hm : 0 < m ∧ m < 100000) (hb : ∀ j, j < m → it j < 3100) (h24 : 0 ≤ (X.1 24 (ix p1)).toInt ∧ ix (X.1 24 (ix p1)) = it 0) (hl : ∀ i, i < m → (i + 1 < m → 0 ≤ (X.1 28 (it i)).toInt ∧ ix (X.1 28 (it i)) = it (i + 1)) ∧ (i + 1 = m → (X.1 28 (it i)).toInt < 0)) (h0 : 0 ≤ (X.1 0 27).toInt ∧ (X.1 0 27).toInt + 9 < 13000) : ok (f_tells p1 X) (fun _ Y => TP [27, 9600, 9800, 10000, 10200] X Y [((28 : Int32), p1, (0 : Int32)), ((43 : Int32), (X.1 24 (ix p1)), (0 : Int32)), ((7 : Int32), p1, (0 : Int32)), ((40 : Int32), (X.1 23 (ix p1)), (0 : Int32))] ∧ (∀ j, j < m → Y.1 51 (it j) = p1) ∧ (∀ q, (∀ j, j < m → q ≠ it j) → Y.1 51 q = X.1 51 q)) := by
  have hT0 := TP.nil [27, 9600, 9800, 10000, 10200] X
  unfold f_tells
  refine ok.ck hn (ok.letE (v1 := X.1 20 (ix p1)) rfl ?_)
  refine ok.ite (fun c => absurd c (by omega)) (fun _ => ok.ite (fun c => absurd c (by omega)) (fun _ => ok.ite (fun c => absurd c (by omega)) (fun _ => ok.ite (fun c => absurd c (by omega)) (fun _ => ok.ite (fun c => absurd c (by omega)) (fun _ => ok.ite (fun c => absurd c (by omega)) (fun _ => ok.ite (fun c => absurd c (by omega)) (fun _ => ok.ite (fun _ => ?_) (fun c => absurd hk c))))))))
  refine ok.bd (t_task hT0 (by decide) (by simp only [List.length_nil]; omega) 28 p1 0) ?_
  rintro - Y1 ⟨hT1, hf1⟩
  refine ok.ck hn (ok.letE (v1 := X.1 24 (ix p1)) (hT1.1.1 24 (ix p1) (show (4800 : Nat) ∉ [27, 9600, 9800, 10000, 10200] from by decide)) ?_)
  refine ok.ite (fun c => absurd c (by omega)) (fun _ => ?_)
  refine ok.bd (R := fun _ Z => TP [27, 9600, 9800, 10000, 10200] X Z (([] ++ [((28 : Int32), p1, (0 : Int32))]) ++ [((43 : Int32), (X.1 24 (ix p1)), (0 : Int32))]) ∧ (∀ j, 0 ≤ j → j < m → Z.1 51 (it j) = p1) ∧ (∀ q, (∀ j, 0 ≤ j → j < m → q ≠ it j) → Z.1 51 q = Y1.1 51 q)) ?_ ?_
  · unfold f_taskOfCall
    refine ok.ck hn (ok.letE (v1 := X.1 24 (ix p1)) (hT1.1.1 24 (ix p1) (show (4800 : Nat) ∉ [27, 9600, 9800, 10000, 10200] from by decide)) ?_)
    exact t_toc hn hb hl (by simp only [List.length_append, List.length_cons, List.length_nil]; omega) m 0 Y1 _ BIG (by omega) (Nat.lt_of_lt_of_le hm.2 (by decide)) hT1 (fun q => absurd q (by omega)) (fun _ => h24)
  · rintro - Y2 ⟨hT2, k1, k2⟩
    unfold f_tells_195
    refine ok.bd (t_task hT2 (by decide) (by simp only [List.length_append, List.length_cons, List.length_nil]; omega) 7 p1 0) ?_
    rintro - Y3 ⟨hT3, hf3⟩
    refine ok.ck hn (ok.letE (v1 := X.1 23 (ix p1)) (hT3.1.1 23 (ix p1) (show (4600 : Nat) ∉ [27, 9600, 9800, 10000, 10200] from by decide)) ?_)
    refine ok.bd (t_task hT3 (by decide) (by simp only [List.length_append, List.length_cons, List.length_nil]; omega) 40 _ 0) ?_
    rintro - Y4 ⟨hT4, hf4⟩
    have e3 : ∀ q, Y4.1 51 q = Y2.1 51 q := fun q => (hf4.1 51 q (show (10200 : Nat) ∉ [27, 9600, 9800, 10000] from by decide)).trans (hf3.1 51 q (show (10200 : Nat) ∉ [27, 9600, 9800, 10000] from by decide))
    exact ok.ret ⟨hT4, fun j hj => (e3 _).trans (k1 j (Nat.zero_le _) hj), fun q hq => (e3 q).trans ((k2 q (fun j _ hj => hq j hj)).trans (hf1.1 51 q (show (10200 : Nat) ∉ [27, 9600, 9800, 10000] from by decide)))⟩
