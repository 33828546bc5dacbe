/-! the code of a tree and its orders: calls, all trees, parts -/
section TRE3
variable {ch : Tx} {X : St} {R : Nat → Nat → Nat → Nat → List Ins → Prop} {nr : Int → Int} {c d : List Ins} {t i N lo hi : Nat}
theorem OMf.nam {m u : Nat} {e : List Ins} (h : OMf ch X m lo hi u i e) (k : iv X 20 u = 3) : (e = [(0, 1, iv X 21 u, []), (4, -1, iv X 21 u, [])] ∧ X.2.1 29 u = lN (p6 (nm ch (iv X 21 u).toNat))) ∧ u < hi := by
  cases m with
  | zero => exact h.elim
  | succ m =>
    rw [OMf] at h
    obtain ⟨h1, h2, h3, h⟩ := h
    refine ⟨?_, h2⟩
    rcases h with h | h | h | h | h | h
    · rcases h with ⟨z, _⟩ | ⟨z, _⟩ | ⟨z, _⟩ | ⟨z, a, b⟩
      · omega
      · omega
      · omega
      · exact ⟨a, b⟩
    · obtain ⟨u1, e1, _, _, h⟩ := h
      rcases h with ⟨z, _⟩ | ⟨z, _⟩ | ⟨z, _⟩ | ⟨z, _⟩ | ⟨z, _⟩ <;> omega
    · rcases h with ⟨z, _⟩ | ⟨z, _⟩ <;> omega
    · rcases h with ⟨z, _⟩ | ⟨z, _⟩
      · omega
      · rw [k] at z
        split at z <;> omega
    · rcases h with ⟨z, _⟩ | ⟨z, _⟩ <;> omega
    · rcases h with ⟨z, _⟩ | ⟨z, _⟩ <;> omega
theorem drop_rep (w : SE) (S : List SE) : ∀ m : Nat, (List.replicate m ((none, none, 0) : SE) ++ w :: S).drop (m + 1) = S := by
  intro m
  rw [show m + 1 = (List.replicate m ((none, none, 0) : SE)).length + 1 by rw [List.length_replicate], ← List.drop_drop, List.drop_left]
  rfl
theorem tre_11 (b3 : plh d = iv X 21 t) (hh : hi ≤ N) (ht : t < hi) (hN : NRq ch X nr c N) (hR : ∀ lo hi u i e, R lo hi u i e → iv X 20 u = 3 → (e = [(0, 1, iv X 21 u, []), (4, -1, iv X 21 u, [])] ∧ X.2.1 29 u = lN (p6 (nm ch (iv X 21 u).toNat))) ∧ u < hi) (ih : ∀ lo hi u i e, R lo hi u i e → hi ≤ N → TRE X nr c u i e) (k0 : iv X 20 t = 11) (h : ∃ (u : Nat) (e : List Ins) (es : Els), iv X 23 t = (u : Int) ∧ R lo t u i e ∧ OMc X R sepA (t + 1) (iv X 24 t) (i + e.length + 1) 0 es ∧ iv X 27 t = (es.length : Int) ∧ (∀ a ∈ es, a.2.1 ≤ hi) ∧ d = stp e ++ ((if iv X 20 u = 3 then 31 else 30), (es.length : Int), iv X 22 t, []) :: (cds es ++ [(16, (es.length : Int), iv X 22 t, [])])) : TRE X nr c t i d := by
  obtain ⟨u, e, es, h23, r1, hc, h27, hle, rfl⟩ := h
  have c23 : ix (X.1 23 t) = u := ixn h23
  have c27 : ix (X.1 27 t) = es.length := ixn h27
  have T := ih _ _ _ _ _ r1 (by omega)
  refine ⟨⟨b3, ned _ T.1.2⟩, fun k s e1 lo hi sc S hC hA hk => ?_⟩
  obtain ⟨o1, p, q, ⟨_, _, o2⟩, o3, ⟨l, r, ⟨it, cu, ps, hD⟩⟩, o5, rfl⟩ := hC.k11 k0
  rw [c23] at o2
  have hk1 := k_left T.1.2 b3 o1 hk
  rw [addx_stp _ k T.1.2] at hA ⊢
  have G := T.2 (k + 1) s p _ _ _ S o2 hA.app.1 hk1
  have A1 := hA.sg G
  have L : (addx e 0 ((k + 1 : Nat) : Int)).length = e.length := addx_len _ _ _
  refine G.app ?_
  rw [L] at A1 ⊢
  obtain ⟨z1, z2, z3, z4, z5, z6, z7, z8⟩ := hD
  have hD : LSD (CX X) X t l r sc 2 (p + 1) q it cu ps := ⟨z1, z2, z3, z4, z5, z6, z7, z8⟩
  have body : ∀ tk : Option Nat, ((iv X 20 (ix (X.1 23 t)) = 3 ∧ ∃ t1 a1, tk = some t1 ∧ iv X 26 (ix (X.1 23 t)) = nr (plc c t1) ∧ c[t1]? = some a1 ∧ a1.1 = 4) ∨ (¬ iv X 20 (ix (X.1 23 t)) = 3 ∧ tk = none)) → ATc c (i + e.length + 1) false (p + 1) (cds es ++ [(16, (es.length : Int), iv X 22 t, [])]) → SGm X nr c (i + e.length + 1) false (p + 1) ((none, tk, 2 + es.length) :: S) (cds es ++ [(16, (es.length : Int), iv X 22 t, [])]) false (q + 1) ((none, none, 0) :: S) := by
    intro tk H A2
    have A3 := A2.app.1
    rw [← z3] at A3
    have := ls_call (N := N) (S1 := S) hD H ih es 0 _ _ _ hc (fun a ha => Nat.le_trans (hle a ha) (by omega)) (by omega) (fun z => by
      obtain ⟨y1, y2⟩ := z7 (by have := ixc z5; omega)
      have := ixc y1
      unfold iv
      omega) A3
    rw [z3, z4, c27] at this
    refine SGm.app this (SGm.i16 (n := t) ⟨o5, rfl, h27, by omega, by rw [show ((es.length : Int)).toNat = es.length by omega]; exact ⟨_, rep_get _ _ _, rfl⟩⟩ ?_ (by rw [List.length_append, List.length_replicate, List.length_cons]; omega))
    rw [drop_rep]
    exact SGm.nil
  by_cases k3 : iv X 20 u = 3
  · obtain ⟨⟨ne, n29⟩, nu⟩ := hR _ _ _ _ _ r1 k3
    have el : e.length = 2 := by rw [ne]; rfl
    have hc1 : c[i + e.length - 1]? = some (4, -1, iv X 21 u, []) := by
      have := hA.app.1
      rw [ne] at this
      have g := this.cons.get
      rw [el]
      exact g
    rw [if_pos k3] at A1 ⊢
    have n26 : iv X 26 u = nr (plc c (i + e.length - 1)) := by
      rw [plc_at hc1]
      exact hN u (by omega) k3 n29 ⟨_, List.mem_of_getElem? hc1, rfl, rfl⟩
    exact SGm.i31 (n := t) ⟨o3, rfl, h27, by rw [c23]; exact k3, by rw [c23]; exact n26, by omega, _, hc1, rfl⟩ (body _ (Or.inl ⟨by rw [c23]; exact k3, _, _, rfl, by rw [c23]; exact n26, hc1, rfl⟩) A1.cons)
  · rw [if_neg k3] at A1 ⊢
    exact SGm.i30 (n := t) ⟨o3, rfl, h27, by rw [c23]; exact k3⟩ (body _ (Or.inr ⟨by rw [c23]; exact k3, rfl⟩) A1.cons)
theorem OMf.tre (hN : NRq ch X nr c N) : ∀ (m lo hi t i : Nat) (d : List Ins), OMf ch X m lo hi t i d → hi ≤ N → TRE X nr c t i d := by
  intro m
  induction m with
  | zero => exact fun _ _ _ _ _ h => h.elim
  | succ m ih =>
    intro lo hi t i d h hh
    rw [OMf] at h
    obtain ⟨h1, h2, h3, h⟩ := h
    rcases h with h | h | h | h | h | h
    · exact tre_l h3 (by omega) hN h
    · exact tre_u h3 hh ih h
    · exact tre_e h3 hh ih h
    · exact tre_2 h3 hh h2 ih h
    · rcases h with ⟨k, h⟩ | ⟨k, h⟩
      · exact tre_10 h3 hh h2 ih k h
      · exact tre_11 h3 hh h2 hN (fun lo hi u i e r k => OMf.nam r k) ih k h
    · rcases h with ⟨k, h⟩ | ⟨k, h⟩
      · exact tre_16 h3 hh ih k h
      · exact tre_17 h3 hh ih k h
end TRE3
