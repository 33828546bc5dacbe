/-! two runs side by side: both answer, with the same result -/
def ok2 {ρ : Type} (F F1 : Option (ρ × St)) (Q : ρ → St → St → Prop) : Prop := ∃ r X X1, F = some (r, X) ∧ F1 = some (r, X1) ∧ Q r X X1
section OK2
variable {ρ ρ1 τ : Type} {Q : ρ → St → St → Prop} {A A1 B B1 : Option (ρ × St)}
theorem ok2.ret {r : ρ} {X X1 : St} (h : Q r X X1) : ok2 (some (r, X)) (some (r, X1)) Q := ⟨r, X, X1, rfl, rfl, h⟩
theorem ok2.ite {c : Prop} [Decidable c] (h1 : c → ok2 A A1 Q) (h2 : ¬ c → ok2 B B1 Q) : ok2 (if c then A else B) (if c then A1 else B1) Q := by
  by_cases h : c
  · rw [if_pos h, if_pos h]; exact h1 h
  · rw [if_neg h, if_neg h]; exact h2 h
theorem ok2.ck {c : Prop} [Decidable c] (hc : c) (h : ok2 A A1 Q) : ok2 (chk c A) (chk c A1) Q := by
  show ok2 (if c then A else none) (if c then A1 else none) Q
  rw [if_pos hc, if_pos hc]; exact h
theorem ok2.letV {v w : τ} {K K1 : τ → Option (ρ × St)} (h : ok2 (K v) (K1 w) Q) : ok2 (_root_.Jvm.Pilot.CBlameCourtLaw_law_r8381_f30dd1.letV v K) (_root_.Jvm.Pilot.CBlameCourtLaw_law_r8381_f30dd1.letV w K1) Q := h
theorem ok2.letE {v w v1 : τ} {K K1 : τ → Option (ρ × St)} (e : v = v1) (e1 : w = v1) (h : ok2 (K v1) (K1 v1) Q) : ok2 (_root_.Jvm.Pilot.CBlameCourtLaw_law_r8381_f30dd1.letV v K) (_root_.Jvm.Pilot.CBlameCourtLaw_law_r8381_f30dd1.letV w K1) Q := by
  subst e; subst e1; exact h
theorem ok2.any {v : τ} {K K1 : τ → Option (ρ × St)} (h : ∀ z, ok2 (K z) (K1 z) Q) : ok2 (_root_.Jvm.Pilot.CBlameCourtLaw_law_r8381_f30dd1.letV v K) (_root_.Jvm.Pilot.CBlameCourtLaw_law_r8381_f30dd1.letV v K1) Q := h v
theorem ok2.anyE {v w : τ} {K K1 : τ → Option (ρ × St)} (e : w = v) (h : ∀ z, ok2 (K z) (K1 z) Q) : ok2 (_root_.Jvm.Pilot.CBlameCourtLaw_law_r8381_f30dd1.letV v K) (_root_.Jvm.Pilot.CBlameCourtLaw_law_r8381_f30dd1.letV w K1) Q := by
  subst e; exact h _
theorem ok2.letD {v w : τ} {K K1 : τ → Option (ρ × St)} (h : ∀ z u, ok2 (K z) (K1 u) Q) : ok2 (_root_.Jvm.Pilot.CBlameCourtLaw_law_r8381_f30dd1.letV v K) (_root_.Jvm.Pilot.CBlameCourtLaw_law_r8381_f30dd1.letV w K1) Q := h v w
theorem ok2.eqv {v : τ} {K K1 : τ → Option (ρ × St)} (h : ∀ z, z = v → ok2 (K z) (K1 z) Q) : ok2 (_root_.Jvm.Pilot.CBlameCourtLaw_law_r8381_f30dd1.letV v K) (_root_.Jvm.Pilot.CBlameCourtLaw_law_r8381_f30dd1.letV v K1) Q := h v rfl
theorem ok2.add {x y : Int32} {K K1 : Int32 → Option (ρ × St)} (hb : -2147483648 ≤ x.toInt + y.toInt ∧ x.toInt + y.toInt ≤ 2147483647) (h : ∀ z : Int32, z.toInt = x.toInt + y.toInt → ok2 (K z) (K1 z) Q) : ok2 (_root_.Jvm.Pilot.CBlameCourtLaw_law_r8381_f30dd1.letV (x + y) K) (_root_.Jvm.Pilot.CBlameCourtLaw_law_r8381_f30dd1.letV (x + y) K1) Q := h _ (ti_add hb.1 hb.2)
theorem ok2.sub {x y : Int32} {K K1 : Int32 → Option (ρ × St)} (hb : -2147483648 ≤ x.toInt - y.toInt ∧ x.toInt - y.toInt ≤ 2147483647) (h : ∀ z : Int32, z.toInt = x.toInt - y.toInt → ok2 (K z) (K1 z) Q) : ok2 (_root_.Jvm.Pilot.CBlameCourtLaw_law_r8381_f30dd1.letV (x - y) K) (_root_.Jvm.Pilot.CBlameCourtLaw_law_r8381_f30dd1.letV (x - y) K1) Q := h _ (ti_sub hb.1 hb.2)
theorem ok2.mul {x y : Int32} {K K1 : Int32 → Option (ρ × St)} (hb : -2147483648 ≤ x.toInt * y.toInt ∧ x.toInt * y.toInt ≤ 2147483647) (h : ∀ z : Int32, z.toInt = x.toInt * y.toInt → ok2 (K z) (K1 z) Q) : ok2 (_root_.Jvm.Pilot.CBlameCourtLaw_law_r8381_f30dd1.letV (x * y) K) (_root_.Jvm.Pilot.CBlameCourtLaw_law_r8381_f30dd1.letV (x * y) K1) Q := h _ (ti_mul hb.1 hb.2)
theorem ok2.inc {x : Int32} {c : Int} {K K1 : Int32 → Option (ρ × St)} (hc : (Int32.ofInt c).toInt = c) (hb : -2147483648 ≤ x.toInt + c ∧ x.toInt + c ≤ 2147483647) (h : ∀ z : Int32, z.toInt = x.toInt + c → ok2 (K z) (K1 z) Q) : ok2 (_root_.Jvm.Pilot.CBlameCourtLaw_law_r8381_f30dd1.letV (x + Int32.ofInt c) K) (_root_.Jvm.Pilot.CBlameCourtLaw_law_r8381_f30dd1.letV (x + Int32.ofInt c) K1) Q := h _ (by rw [ti_add (by rw [hc]; exact hb.1) (by rw [hc]; exact hb.2), hc])
theorem ok2.bd {G G1 : Option (ρ1 × St)} {K K1 : ρ1 → St → Option (ρ × St)} {R : ρ1 → St → St → Prop} (hG : ok2 G G1 R) (h : ∀ r X X1, R r X X1 → ok2 (K r X) (K1 r X1) Q) : ok2 (bnd G K) (bnd G1 K1) Q := by
  obtain ⟨r, X, X1, e, e1, hr⟩ := hG
  subst e
  subst e1
  exact h r X X1 hr
theorem ok2.mono {R : ρ → St → St → Prop} (hA : ok2 A A1 R) (h : ∀ r X X1, R r X X1 → Q r X X1) : ok2 A A1 Q := by
  obtain ⟨r, X, X1, e, e1, hr⟩ := hA
  exact ⟨r, X, X1, e, e1, h r X X1 hr⟩
end OK2
theorem wI_at (X : St) (e k : Nat) (v : Int32) : (_root_.Jvm.Pilot.CBlameCourtLaw_law_r8381_f30dd1.wI X e k v).1 e k = v := by
  show uA X.1 e (upd (X.1 e) k v) e k = v
  rw [uA_at]
  show (if k = k then v else X.1 e k) = v
  rw [if_pos rfl]
theorem wI_ne (X : St) (e k : Nat) (v : Int32) (j i : Nat) (h : ¬ (j = e ∧ i = k)) : (_root_.Jvm.Pilot.CBlameCourtLaw_law_r8381_f30dd1.wI X e k v).1 j i = X.1 j i := by
  show uA X.1 e (upd (X.1 e) k v) j i = X.1 j i
  apply uA_off
  rintro ⟨rfl, q⟩
  apply q
  show (if i = k then v else X.1 j i) = _
  rw [if_neg (fun hh => h ⟨rfl, hh⟩)]
theorem wL_at (X : St) (e k : Nat) (v : Int64) : (_root_.Jvm.Pilot.CBlameCourtLaw_law_r8381_f30dd1.wL X e k v).2.1 e k = v := by
  show uA X.2.1 e (vp_updL (X.2.1 e) k v) e k = v
  rw [uA_at]
  show (if k = k then v else X.2.1 e k) = v
  rw [if_pos rfl]
theorem wL_ne (X : St) (e k : Nat) (v : Int64) (j i : Nat) (h : ¬ (j = e ∧ i = k)) : (_root_.Jvm.Pilot.CBlameCourtLaw_law_r8381_f30dd1.wL X e k v).2.1 j i = X.2.1 j i := by
  show uA X.2.1 e (vp_updL (X.2.1 e) k v) j i = X.2.1 j i
  apply uA_off
  rintro ⟨rfl, q⟩
  apply q
  show (if i = k then v else X.2.1 j i) = _
  rw [if_neg (fun hh => h ⟨rfl, hh⟩)]
/-- rows whose cells below a counter are determined -/
def ctI (e : Nat) : Nat := if e = 2 then 1 else if e ∈ [4, 5, 6] then 13 else if e = 9 then 15 else if e ∈ [20, 21, 26, 27, 39] then 19 else if e ∈ [35, 36, 37] then 22 else if e ∈ [12, 15] then 99 else 98
def ctL (e : Nat) : Nat := if e = 11 then 99 else if e = 29 then 19 else if e = 30 then 20 else 98
def lvC (c : Nat) : Nat := if c = 20 then 2 else if c = 22 then 3 else 0
def scA (lv k : Nat) : Prop := k ∈ [1, 5, 9, 13, 15, 18, 19] ∨ (1 ≤ lv ∧ k ∈ [6, 7]) ∨ (2 ≤ lv ∧ k ∈ [20, 21]) ∨ (3 ≤ lv ∧ k ∈ [22]) ∨ (4 ≤ lv ∧ k ∈ [23, 24])
def bdA (P : Int) (X : St) (c : Nat) : Int := if c = 99 then P else (X.1 0 c).toInt
def DI (lv : Nat) (P : Int) (X : St) (e k : Nat) : Prop := (e = 0 ∧ scA lv k) ∨ (e ≠ 0 ∧ ctI e ≠ 98 ∧ lvC (ctI e) ≤ lv ∧ (k : Int) < bdA P X (ctI e))
def DLo (lv : Nat) (P : Int) (X : St) (e k : Nat) : Prop := (e = 0 ∧ 1 ≤ lv ∧ k = 47) ∨ (e ≠ 0 ∧ ctL e ≠ 98 ∧ lvC (ctL e) ≤ lv ∧ (k : Int) < bdA P X (ctL e))
def AG (lv : Nat) (P : Int) (X X1 : St) : Prop := (∀ e k, DI lv P X e k → X1.1 e k = X.1 e k) ∧ (∀ e k, DLo lv P X e k → X1.2.1 e k = X.2.1 e k)
theorem ixc {z : Int32} (h : 0 ≤ z.toInt) : ((ix z : Nat) : Int) = z.toInt := by
  show ((z.toInt.toNat : Nat) : Int) = z.toInt
  omega
section AGS
variable {lv lw : Nat} {P P1 : Int} {X X1 X2 X3 : St}
theorem AG.s0 (h : AG lv P X X1) (k : Nat) (hk : k ∈ [1, 5, 9, 13, 15, 18, 19]) : X1.1 0 k = X.1 0 k := h.1 0 k (Or.inl ⟨rfl, Or.inl hk⟩)
theorem AG.s1 (h : AG lv P X X1) (k : Nat) (hk : k ∈ [6, 7]) (hl : 1 ≤ lv) : X1.1 0 k = X.1 0 k := h.1 0 k (Or.inl ⟨rfl, Or.inr (Or.inl ⟨hl, hk⟩)⟩)
theorem AG.s2 (h : AG lv P X X1) (k : Nat) (hk : k ∈ [20, 21]) (hl : 2 ≤ lv) : X1.1 0 k = X.1 0 k := h.1 0 k (Or.inl ⟨rfl, Or.inr (Or.inr (Or.inl ⟨hl, hk⟩))⟩)
theorem AG.s3 (h : AG lv P X X1) (k : Nat) (hk : k ∈ [22]) (hl : 3 ≤ lv) : X1.1 0 k = X.1 0 k := h.1 0 k (Or.inl ⟨rfl, Or.inr (Or.inr (Or.inr (Or.inl ⟨hl, hk⟩)))⟩)
theorem AG.s4 (h : AG lv P X X1) (k : Nat) (hk : k ∈ [23, 24]) (hl : 4 ≤ lv) : X1.1 0 k = X.1 0 k := h.1 0 k (Or.inl ⟨rfl, Or.inr (Or.inr (Or.inr (Or.inr ⟨hl, hk⟩)))⟩)
theorem AG.told (h : AG lv P X X1) (hl : 1 ≤ lv) : X1.2.1 0 47 = X.2.1 0 47 := h.2 0 47 (Or.inl ⟨rfl, hl, rfl⟩)
theorem AG.ri (h : AG lv P X X1) (e c : Nat) (hc : e ≠ 0 ∧ ctI e = c ∧ c ≠ 98 ∧ c ≠ 99) (hl : lvC c ≤ lv) (z : Int32) (hz : 0 ≤ z.toInt ∧ z.toInt < (X.1 0 c).toInt) : X1.1 e (ix z) = X.1 e (ix z) := h.1 e _ (Or.inr ⟨hc.1, by rw [hc.2.1]; exact hc.2.2.1, by rw [hc.2.1]; exact hl, by
  rw [hc.2.1, ixc hz.1]
  show z.toInt < (if c = 99 then P else (X.1 0 c).toInt)
  rw [if_neg hc.2.2.2]
  exact hz.2⟩)
theorem AG.rP (h : AG lv P X X1) (e : Nat) (hc : e ≠ 0 ∧ ctI e = 99) (z : Int32) (hz : 0 ≤ z.toInt ∧ z.toInt < P) : X1.1 e (ix z) = X.1 e (ix z) := h.1 e _ (Or.inr ⟨hc.1, by rw [hc.2]; decide, by rw [hc.2]; exact Nat.zero_le _, by
  rw [hc.2, ixc hz.1]
  show z.toInt < (if 99 = 99 then P else _)
  rw [if_pos rfl]
  exact hz.2⟩)
theorem AG.rl (h : AG lv P X X1) (e c : Nat) (hc : e ≠ 0 ∧ ctL e = c ∧ c ≠ 98 ∧ c ≠ 99) (hl : lvC c ≤ lv) (z : Int32) (hz : 0 ≤ z.toInt ∧ z.toInt < (X.1 0 c).toInt) : X1.2.1 e (ix z) = X.2.1 e (ix z) := h.2 e _ (Or.inr ⟨hc.1, by rw [hc.2.1]; exact hc.2.2.1, by rw [hc.2.1]; exact hl, by
  rw [hc.2.1, ixc hz.1]
  show z.toInt < (if c = 99 then P else (X.1 0 c).toInt)
  rw [if_neg hc.2.2.2]
  exact hz.2⟩)
theorem AG.lP (h : AG lv P X X1) (e : Nat) (hc : e ≠ 0 ∧ ctL e = 99) (z : Int32) (hz : 0 ≤ z.toInt ∧ z.toInt < P) : X1.2.1 e (ix z) = X.2.1 e (ix z) := h.2 e _ (Or.inr ⟨hc.1, by rw [hc.2]; decide, by rw [hc.2]; exact Nat.zero_le _, by
  rw [hc.2, ixc hz.1]
  show z.toInt < (if 99 = 99 then P else _)
  rw [if_pos rfl]
  exact hz.2⟩)
theorem ctI_in (e : Nat) (h : ctI e ≠ 98) (h9 : ctI e ≠ 99) : ctI e ∈ [1, 13, 15, 19, 20, 22] := by
  unfold ctI at h h9 ⊢
  repeat' split at h
  all_goals simp_all
theorem ctL_in (e : Nat) (h : ctL e ≠ 98) (h9 : ctL e ≠ 99) : ctL e ∈ [1, 13, 15, 19, 20, 22] := by
  unfold ctL at h h9 ⊢
  repeat' split at h
  all_goals simp_all
theorem bdA_wI (e k : Nat) (v : Int32) (hc : e ≠ 0 ∨ k ∉ [1, 13, 15, 19, 20, 22]) (c : Nat) (h : c = 99 ∨ c ∈ [1, 13, 15, 19, 20, 22]) : bdA P (_root_.Jvm.Pilot.CBlameCourtLaw_law_r8381_f30dd1.wI X e k v) c = bdA P X c := by
  unfold bdA
  rcases h with rfl | h
  · rw [if_pos rfl, if_pos rfl]
  · rw [wI_ne]
    rintro ⟨rfl, rfl⟩
    rcases hc with q | q
    · exact q rfl
    · exact q h
theorem c99 (c : Nat → Nat) (hin : ∀ e, c e ≠ 98 → c e ≠ 99 → c e ∈ [1, 13, 15, 19, 20, 22]) (e : Nat) (h : c e ≠ 98) : c e = 99 ∨ c e ∈ [1, 13, 15, 19, 20, 22] := by
  by_cases q : c e = 99
  · exact Or.inl q
  · exact Or.inr (hin e h q)
theorem AG.wI (h : AG lv P X X1) (e k : Nat) (v : Int32) (hc : e ≠ 0 ∨ k ∉ [1, 13, 15, 19, 20, 22]) : AG lv P (_root_.Jvm.Pilot.CBlameCourtLaw_law_r8381_f30dd1.wI X e k v) (_root_.Jvm.Pilot.CBlameCourtLaw_law_r8381_f30dd1.wI X1 e k v) := by
  refine ⟨fun j i hd => ?_, fun j i hd => ?_⟩
  · by_cases q : j = e ∧ i = k
    · rw [q.1, q.2, wI_at, wI_at]
    · rw [wI_ne _ _ _ _ _ _ q, wI_ne _ _ _ _ _ _ q]
      refine h.1 j i ?_
      rcases hd with hd | ⟨a, b, c, d⟩
      · exact Or.inl hd
      · refine Or.inr ⟨a, b, c, ?_⟩
        rw [bdA_wI e k v hc _ (c99 ctI ctI_in j b)] at d
        exact d
  · refine h.2 j i ?_
    rcases hd with hd | ⟨a, b, c, d⟩
    · exact Or.inl hd
    · refine Or.inr ⟨a, b, c, ?_⟩
      rw [bdA_wI e k v hc _ (c99 ctL ctL_in j b)] at d
      exact d
theorem AG.wL (h : AG lv P X X1) (e k : Nat) (v : Int64) : AG lv P (_root_.Jvm.Pilot.CBlameCourtLaw_law_r8381_f30dd1.wL X e k v) (_root_.Jvm.Pilot.CBlameCourtLaw_law_r8381_f30dd1.wL X1 e k v) := by
  refine ⟨fun j i hd => h.1 j i hd, fun j i hd => ?_⟩
  by_cases q : j = e ∧ i = k
  · rw [q.1, q.2, wL_at, wL_at]
  · rw [wL_ne _ _ _ _ _ _ q, wL_ne _ _ _ _ _ _ q]
    exact h.2 j i hd
/-- cells that are nowhere determined may differ -/
theorem AG.wD (h : AG lv P X X1) (e k : Nat) (v w : Int32) (hc : e ≠ 0 ∧ ctI e = 98) : AG lv P (_root_.Jvm.Pilot.CBlameCourtLaw_law_r8381_f30dd1.wI X e k v) (_root_.Jvm.Pilot.CBlameCourtLaw_law_r8381_f30dd1.wI X1 e k w) := by
  refine ⟨fun j i hd => ?_, fun j i hd => ?_⟩
  · have q : ¬ (j = e ∧ i = k) := by
      rintro ⟨rfl, rfl⟩
      rcases hd with hd | hd
      · exact hc.1 hd.1
      · exact hd.2.1 hc.2
    rw [wI_ne _ _ _ _ _ _ q, wI_ne _ _ _ _ _ _ q]
    refine h.1 j i ?_
    rcases hd with hd | ⟨a, b, c, d⟩
    · exact Or.inl hd
    · refine Or.inr ⟨a, b, c, ?_⟩
      rw [bdA_wI e k v (Or.inl hc.1) _ (c99 ctI ctI_in j b)] at d
      exact d
  · refine h.2 j i ?_
    rcases hd with hd | ⟨a, b, c, d⟩
    · exact Or.inl hd
    · refine Or.inr ⟨a, b, c, ?_⟩
      rw [bdA_wI e k v (Or.inl hc.1) _ (c99 ctL ctL_in j b)] at d
      exact d
/-- a counter gets another value: what it then tells agreed already -/
theorem AG.cn (h : AG lv P X X1) (k : Nat) (v : Int32) (hI : ∀ (e i : Nat), e ≠ 0 → ctI e = k → k ≠ 98 → lvC k ≤ lv → (i : Int) < v.toInt → X1.1 e i = X.1 e i) (hL : ∀ (e i : Nat), e ≠ 0 → ctL e = k → k ≠ 98 → lvC k ≤ lv → (i : Int) < v.toInt → X1.2.1 e i = X.2.1 e i) (h9 : k ≠ 99) : AG lv P (_root_.Jvm.Pilot.CBlameCourtLaw_law_r8381_f30dd1.wI X 0 k v) (_root_.Jvm.Pilot.CBlameCourtLaw_law_r8381_f30dd1.wI X1 0 k v) := by
  have hb : ∀ c, c ≠ k → bdA P (_root_.Jvm.Pilot.CBlameCourtLaw_law_r8381_f30dd1.wI X 0 k v) c = bdA P X c := by
    intro c hc
    unfold bdA
    rw [wI_ne]
    rintro ⟨-, rfl⟩
    exact hc rfl
  have hk : bdA P (_root_.Jvm.Pilot.CBlameCourtLaw_law_r8381_f30dd1.wI X 0 k v) k = v.toInt := by
    unfold bdA
    rw [if_neg h9, wI_at]
  refine ⟨fun j i hd => ?_, fun j i hd => ?_⟩
  · by_cases q : j = 0 ∧ i = k
    · rw [q.1, q.2, wI_at, wI_at]
    · rw [wI_ne _ _ _ _ _ _ q, wI_ne _ _ _ _ _ _ q]
      rcases hd with hd | ⟨a, b, c, d⟩
      · exact h.1 j i (Or.inl hd)
      · by_cases g : ctI j = k
        · subst g
          rw [hk] at d
          exact hI j i a rfl b c d
        · rw [hb _ g] at d
          exact h.1 j i (Or.inr ⟨a, b, c, d⟩)
  · show X1.2.1 j i = X.2.1 j i
    rcases hd with hd | ⟨a, b, c, d⟩
    · exact h.2 j i (Or.inl hd)
    · by_cases g : ctL j = k
      · subst g
        rw [hk] at d
        exact hL j i a rfl b c d
      · rw [hb _ g] at d
        exact h.2 j i (Or.inr ⟨a, b, c, d⟩)
theorem AG.below (h : AG lv P X X1) (c : Nat) (h9 : c ≠ 99) (v : Int32) (hv : v.toInt ≤ (X.1 0 c).toInt) : (∀ (e i : Nat), e ≠ 0 → ctI e = c → c ≠ 98 → lvC c ≤ lv → (i : Int) < v.toInt → X1.1 e i = X.1 e i) ∧ (∀ (e i : Nat), e ≠ 0 → ctL e = c → c ≠ 98 → lvC c ≤ lv → (i : Int) < v.toInt → X1.2.1 e i = X.2.1 e i) := by
  refine ⟨fun e i a b g l d => h.1 e i (Or.inr ⟨a, by rw [b]; exact g, by rw [b]; exact l, ?_⟩), fun e i a b g l d => h.2 e i (Or.inr ⟨a, by rw [b]; exact g, by rw [b]; exact l, ?_⟩)⟩
  · rw [b]
    unfold bdA
    rw [if_neg h9]
    omega
  · rw [b]
    unfold bdA
    rw [if_neg h9]
    omega
theorem AG.dec (h : AG lv P X X1) (c : Nat) (v : Int32) (h9 : c ≠ 99) (hv : v.toInt ≤ (X.1 0 c).toInt) : AG lv P (_root_.Jvm.Pilot.CBlameCourtLaw_law_r8381_f30dd1.wI X 0 c v) (_root_.Jvm.Pilot.CBlameCourtLaw_law_r8381_f30dd1.wI X1 0 c v) := h.cn c v (h.below c h9 v hv).1 (h.below c h9 v hv).2 h9
/-- a counter grows by one: the rows' cells there agree -/
theorem AG.up (h : AG lv P X X1) (c : Nat) (v z : Int32) (h9 : c ≠ 99) (hz : z = X.1 0 c) (hv : v.toInt = z.toInt + 1) (h0 : 0 ≤ z.toInt) (hI : ∀ e, ctI e = c → X1.1 e (ix z) = X.1 e (ix z)) (hL : ∀ e, ctL e = c → X1.2.1 e (ix z) = X.2.1 e (ix z)) : AG lv P (_root_.Jvm.Pilot.CBlameCourtLaw_law_r8381_f30dd1.wI X 0 c v) (_root_.Jvm.Pilot.CBlameCourtLaw_law_r8381_f30dd1.wI X1 0 c v) := by
  subst hz
  have hb := h.below c h9 (X.1 0 c) (Int.le_refl _)
  refine h.cn c v (fun e i a b g l d => ?_) (fun e i a b g l d => ?_) h9
  · by_cases q : i = ix (X.1 0 c)
    · rw [q]; exact hI e b
    · refine hb.1 e i a b g l ?_
      have := ixc h0
      omega
  · by_cases q : i = ix (X.1 0 c)
    · rw [q]; exact hL e b
    · refine hb.2 e i a b g l ?_
      have := ixc h0
      omega
theorem AG.lo (h : AG lv P X X1) (hl : lw ≤ lv) : AG lw P X X1 := by
  refine ⟨fun e k hd => h.1 e k ?_, fun e k hd => h.2 e k ?_⟩
  · rcases hd with ⟨a, b⟩ | ⟨a, b, c, d⟩
    · refine Or.inl ⟨a, ?_⟩
      rcases b with b | b | b | b | b
      · exact Or.inl b
      · exact Or.inr (Or.inl ⟨Nat.le_trans b.1 hl, b.2⟩)
      · exact Or.inr (Or.inr (Or.inl ⟨Nat.le_trans b.1 hl, b.2⟩))
      · exact Or.inr (Or.inr (Or.inr (Or.inl ⟨Nat.le_trans b.1 hl, b.2⟩)))
      · exact Or.inr (Or.inr (Or.inr (Or.inr ⟨Nat.le_trans b.1 hl, b.2⟩)))
    · exact Or.inr ⟨a, b, Nat.le_trans c hl, d⟩
  · rcases hd with ⟨a, b, c⟩ | ⟨a, b, c, d⟩
    · exact Or.inl ⟨a, Nat.le_trans b hl, c⟩
    · exact Or.inr ⟨a, b, Nat.le_trans c hl, d⟩
theorem AG.up1 (h : AG 0 P X X1) (h6 : X1.1 0 6 = X.1 0 6) (h7 : X1.1 0 7 = X.1 0 7) (ht : X1.2.1 0 47 = X.2.1 0 47) : AG 1 P X X1 := by
  refine ⟨fun e k hd => ?_, fun e k hd => ?_⟩
  · rcases hd with ⟨a, b⟩ | ⟨a, b, c, d⟩
    · subst a
      rcases b with b | b | b | b | b
      · exact h.s0 k b
      · rcases b with ⟨-, b⟩
        rcases List.mem_cons.mp b with rfl | b
        · exact h6
        · rcases List.mem_cons.mp b with rfl | b
          · exact h7
          · exact absurd b List.not_mem_nil
      · exact absurd b.1 (by decide)
      · exact absurd b.1 (by decide)
      · exact absurd b.1 (by decide)
    · refine h.1 e k (Or.inr ⟨a, b, ?_, d⟩)
      unfold lvC at c ⊢
      split at c
      · exact absurd c (by decide)
      · split at c
        · exact absurd c (by decide)
        · rename_i h1 h2
          rw [if_neg h1, if_neg h2]
          exact Nat.le_refl _
  · rcases hd with ⟨a, b, c⟩ | ⟨a, b, c, d⟩
    · subst a
      subst c
      exact ht
    · refine h.2 e k (Or.inr ⟨a, b, ?_, d⟩)
      unfold lvC at c ⊢
      split at c
      · exact absurd c (by decide)
      · split at c
        · exact absurd c (by decide)
        · rename_i h1 h2
          rw [if_neg h1, if_neg h2]
          exact Nat.le_refl _
theorem AG.up2 (h : AG 1 P X X1) (h20 : X1.1 0 20 = X.1 0 20) (h21 : X1.1 0 21 = X.1 0 21) (hz : (X.1 0 20).toInt ≤ 0) : AG 2 P X X1 := by
  refine ⟨fun e k hd => ?_, fun e k hd => ?_⟩
  · rcases hd with ⟨a, b⟩ | ⟨a, b, c, d⟩
    · subst a
      rcases b with b | b | b | b | b
      · exact h.s0 k b
      · exact h.s1 k b.2 (Nat.le_refl 1)
      · rcases b with ⟨-, b⟩
        rcases List.mem_cons.mp b with rfl | b
        · exact h20
        · rcases List.mem_cons.mp b with rfl | b
          · exact h21
          · exact absurd b List.not_mem_nil
      · exact absurd b.1 (by decide)
      · exact absurd b.1 (by decide)
    · by_cases q : ctI e = 20
      · rw [q] at d
        have d : (k : Int) < (X.1 0 20).toInt := d
        omega
      · refine h.1 e k (Or.inr ⟨a, b, ?_, d⟩)
        unfold lvC at c ⊢
        rw [if_neg q] at c ⊢
        split at c
        · exact absurd c (by decide)
        · rename_i h2
          rw [if_neg h2]
          exact Nat.zero_le _
  · rcases hd with ⟨a, b, c⟩ | ⟨a, b, c, d⟩
    · subst a
      subst c
      exact h.told (Nat.le_refl 1)
    · by_cases q : ctL e = 20
      · rw [q] at d
        have d : (k : Int) < (X.1 0 20).toInt := d
        omega
      · refine h.2 e k (Or.inr ⟨a, b, ?_, d⟩)
        unfold lvC at c ⊢
        rw [if_neg q] at c ⊢
        split at c
        · exact absurd c (by decide)
        · rename_i h2
          rw [if_neg h2]
          exact Nat.zero_le _
theorem AG.up3 (h : AG 2 P X X1) (h22 : X1.1 0 22 = X.1 0 22) (hz : (X.1 0 22).toInt ≤ 0) : AG 3 P X X1 := by
  refine ⟨fun e k hd => ?_, fun e k hd => ?_⟩
  · rcases hd with ⟨a, b⟩ | ⟨a, b, c, d⟩
    · subst a
      rcases b with b | b | b | b | b
      · exact h.s0 k b
      · exact h.s1 k b.2 (by decide)
      · exact h.s2 k b.2 (by decide)
      · rcases b with ⟨-, b⟩
        rcases List.mem_cons.mp b with rfl | b
        · exact h22
        · exact absurd b List.not_mem_nil
      · exact absurd b.1 (by decide)
    · by_cases q : ctI e = 22
      · rw [q] at d
        have d : (k : Int) < (X.1 0 22).toInt := d
        omega
      · refine h.1 e k (Or.inr ⟨a, b, ?_, d⟩)
        unfold lvC at c ⊢
        split
        · exact Nat.le_refl _
        · exact Nat.zero_le _
  · rcases hd with ⟨a, b, c⟩ | ⟨a, b, c, d⟩
    · subst a
      subst c
      exact h.told (by decide)
    · refine h.2 e k (Or.inr ⟨a, b, ?_, d⟩)
      have q : ctL e ≠ 22 := by
        unfold ctL
        repeat' split
        all_goals decide
      unfold lvC at c ⊢
      split
      · exact Nat.le_refl _
      · exact Nat.zero_le _
theorem AG.up4 (h : AG 3 P X X1) (h23 : X1.1 0 23 = X.1 0 23) (h24 : X1.1 0 24 = X.1 0 24) : AG 4 P X X1 := by
  have hc : ∀ c, lvC c ≤ 3 := by
    intro c
    unfold lvC
    split
    · decide
    · split
      · decide
      · decide
  refine ⟨fun e k hd => ?_, fun e k hd => ?_⟩
  · rcases hd with ⟨a, b⟩ | ⟨a, b, c, d⟩
    · subst a
      rcases b with b | b | b | b | b
      · exact h.s0 k b
      · exact h.s1 k b.2 (by decide)
      · exact h.s2 k b.2 (by decide)
      · exact h.s3 k b.2 (by decide)
      · rcases b with ⟨-, b⟩
        rcases List.mem_cons.mp b with rfl | b
        · exact h23
        · rcases List.mem_cons.mp b with rfl | b
          · exact h24
          · exact absurd b List.not_mem_nil
    · exact h.1 e k (Or.inr ⟨a, b, hc _, d⟩)
  · rcases hd with ⟨a, b, c⟩ | ⟨a, b, c, d⟩
    · subst a
      subst c
      exact h.told (by decide)
    · exact h.2 e k (Or.inr ⟨a, b, hc _, d⟩)
theorem AG.rf : AG lv P X X := ⟨fun _ _ _ => rfl, fun _ _ _ => rfl⟩
end AGS
set_option maxHeartbeats 4000000 in
set_option maxRecDepth 100000 in
theorem t_f_in (p0 : Int32) (p1 : Int32) (p2 : Int32) (X Xt : St) : ok2 (f_in p0 p1 p2 X) (f_in p0 p1 p2 Xt) (fun r X1 X1t => X = X1 ∧ Xt = X1t ∧ ((r.toInt = 1 ∧ p1.toInt ≤ p0.toInt ∧ p0.toInt ≤ p2.toInt) ∨ (r.toInt = 0 ∧ (p0.toInt < p1.toInt ∨ p2.toInt < p0.toInt)))) := by
  unfold f_in
  refine ok2.ite (fun c1 => ?_) (fun c1 => ?_)
  · skip
    exact ok2.ret ⟨rfl, rfl, (show ((0 : Int) = 1 ∧ p1.toInt ≤ p0.toInt ∧ p0.toInt ≤ p2.toInt) ∨ ((0 : Int) = 0 ∧ (p0.toInt < p1.toInt ∨ p2.toInt < p0.toInt)) from by exact (by omega))⟩
  · skip
    refine ok2.ite (fun c2 => ?_) (fun c2 => ?_)
    · skip
      exact ok2.ret ⟨rfl, rfl, (show ((0 : Int) = 1 ∧ p1.toInt ≤ p0.toInt ∧ p0.toInt ≤ p2.toInt) ∨ ((0 : Int) = 0 ∧ (p0.toInt < p1.toInt ∨ p2.toInt < p0.toInt)) from by exact (by omega))⟩
    · skip
      exact ok2.ret ⟨rfl, rfl, (show ((1 : Int) = 1 ∧ p1.toInt ≤ p0.toInt ∧ p0.toInt ≤ p2.toInt) ∨ ((1 : Int) = 0 ∧ (p0.toInt < p1.toInt ∨ p2.toInt < p0.toInt)) from by exact (by omega))⟩
theorem t_f_letterOf (p0 : Int32) (X Xt : St) : ok2 (f_letterOf p0 X) (f_letterOf p0 Xt) (fun r X1 X1t => X = X1 ∧ Xt = X1t ∧ (r.toInt = (letF p0).toInt ∧ 0 ≤ r.toInt ∧ r.toInt ≤ 52 ∧ (r.toInt = 0 ∨ 65 ≤ p0.toInt))) := by
  obtain ⟨r, X1, e, hF, h⟩ := s_f_letterOf p0 X
  have e2 := letF_eq p0 X
  rw [e] at e2
  injection e2 with e2
  injection e2 with e3 e4
  subst e3
  exact ⟨_, _, _, letF_eq p0 X, letF_eq p0 Xt, rfl, rfl, h⟩
set_option maxHeartbeats 4000000 in
set_option maxRecDepth 100000 in
theorem t_f_wordOf (q0 : Int64) (X Xt : St) : ok2 (f_wordOf q0 X) (f_wordOf q0 Xt) (fun r X1 X1t => X = X1 ∧ Xt = X1t ∧ (-1 ≤ r.toInt ∧ r.toInt ≤ 14)) := by
  unfold f_wordOf
  refine ok2.any (fun x1 => ?_)
  refine ok2.ite (fun c1 => ?_) (fun c1 => ?_)
  · skip
    refine ok2.any (fun x2 => ?_)
    refine ok2.ite (fun c2 => ?_) (fun c2 => ?_)
    · skip
      exact ok2.ret ⟨rfl, rfl, (show -1 ≤ (14 : Int) ∧ (14 : Int) ≤ 14 from by exact ⟨(by omega), (by omega)⟩)⟩
    · skip
      refine ok2.ite (fun c3 => ?_) (fun c3 => ?_)
      · skip
        exact ok2.ret ⟨rfl, rfl, (show -1 ≤ (3 : Int) ∧ (3 : Int) ≤ 14 from by exact ⟨(by omega), (by omega)⟩)⟩
      · skip
        refine ok2.ite (fun c4 => ?_) (fun c4 => ?_)
        · skip
          exact ok2.ret ⟨rfl, rfl, (show -1 ≤ (2 : Int) ∧ (2 : Int) ≤ 14 from by exact ⟨(by omega), (by omega)⟩)⟩
        · skip
          refine ok2.ite (fun c5 => ?_) (fun c5 => ?_)
          · skip
            exact ok2.ret ⟨rfl, rfl, (show -1 ≤ (13 : Int) ∧ (13 : Int) ≤ 14 from by exact ⟨(by omega), (by omega)⟩)⟩
          · skip
            refine ok2.ite (fun c6 => ?_) (fun c6 => ?_)
            · skip
              exact ok2.ret ⟨rfl, rfl, (show -1 ≤ (11 : Int) ∧ (11 : Int) ≤ 14 from by exact ⟨(by omega), (by omega)⟩)⟩
            · skip
              refine ok2.ite (fun c7 => ?_) (fun c7 => ?_)
              · skip
                exact ok2.ret ⟨rfl, rfl, (show -1 ≤ (1 : Int) ∧ (1 : Int) ≤ 14 from by exact ⟨(by omega), (by omega)⟩)⟩
              · skip
                refine ok2.ite (fun c8 => ?_) (fun c8 => ?_)
                · skip
                  exact ok2.ret ⟨rfl, rfl, (show -1 ≤ (8 : Int) ∧ (8 : Int) ≤ 14 from by exact ⟨(by omega), (by omega)⟩)⟩
                · skip
                  refine ok2.ite (fun c9 => ?_) (fun c9 => ?_)
                  · skip
                    exact ok2.ret ⟨rfl, rfl, (show -1 ≤ (5 : Int) ∧ (5 : Int) ≤ 14 from by exact ⟨(by omega), (by omega)⟩)⟩
                  · skip
                    refine ok2.ite (fun c10 => ?_) (fun c10 => ?_)
                    · skip
                      exact ok2.ret ⟨rfl, rfl, (show -1 ≤ (12 : Int) ∧ (12 : Int) ≤ 14 from by exact ⟨(by omega), (by omega)⟩)⟩
                    · skip
                      refine ok2.ite (fun c11 => ?_) (fun c11 => ?_)
                      · skip
                        exact ok2.ret ⟨rfl, rfl, (show -1 ≤ (0 : Int) ∧ (0 : Int) ≤ 14 from by exact ⟨(by omega), (by omega)⟩)⟩
                      · skip
                        refine ok2.ite (fun c12 => ?_) (fun c12 => ?_)
                        · skip
                          exact ok2.ret ⟨rfl, rfl, (show -1 ≤ (9 : Int) ∧ (9 : Int) ≤ 14 from by exact ⟨(by omega), (by omega)⟩)⟩
                        · skip
                          refine ok2.ite (fun c13 => ?_) (fun c13 => ?_)
                          · skip
                            exact ok2.ret ⟨rfl, rfl, (show -1 ≤ (4 : Int) ∧ (4 : Int) ≤ 14 from by exact ⟨(by omega), (by omega)⟩)⟩
                          · skip
                            refine ok2.ite (fun c14 => ?_) (fun c14 => ?_)
                            · skip
                              exact ok2.ret ⟨rfl, rfl, (show -1 ≤ (6 : Int) ∧ (6 : Int) ≤ 14 from by exact ⟨(by omega), (by omega)⟩)⟩
                            · skip
                              refine ok2.ite (fun c15 => ?_) (fun c15 => ?_)
                              · skip
                                exact ok2.ret ⟨rfl, rfl, (show -1 ≤ (7 : Int) ∧ (7 : Int) ≤ 14 from by exact ⟨(by omega), (by omega)⟩)⟩
                              · skip
                                refine ok2.ite (fun c16 => ?_) (fun c16 => ?_)
                                · skip
                                  exact ok2.ret ⟨rfl, rfl, (show -1 ≤ (10 : Int) ∧ (10 : Int) ≤ 14 from by exact ⟨(by omega), (by omega)⟩)⟩
                                · skip
                                  exact ok2.ret ⟨rfl, rfl, (show -1 ≤ (-1 : Int) ∧ (-1 : Int) ≤ 14 from by exact ⟨(by omega), (by omega)⟩)⟩
  · skip
    exact ok2.ret ⟨rfl, rfl, (show -1 ≤ (-1 : Int) ∧ (-1 : Int) ≤ 14 from by exact ⟨(by omega), (by omega)⟩)⟩
set_option maxHeartbeats 4000000 in
set_option maxRecDepth 100000 in
theorem t_f_isWell (X Xt : St) (lv : Nat) (P : Int) (hag : AG lv P X Xt) : ok2 (f_isWell X) (f_isWell Xt) (fun r X1 X1t => X = X1 ∧ Xt = X1t ∧ ((r.toInt = 1 ∧ (X.1 0 9).toInt = 0) ∨ (r.toInt = 0 ∧ ¬ (X.1 0 9).toInt = 0))) := by
  unfold f_isWell
  refine ok2.letE (v1 := (X.1 0 9)) rfl (hag.s0 9 (by decide)) ?_
  refine ok2.ite (fun c1 => ?_) (fun c1 => ?_)
  · skip
    exact ok2.ret ⟨rfl, rfl, (show ((1 : Int) = 1 ∧ (X.1 0 9).toInt = 0) ∨ ((1 : Int) = 0 ∧ ¬ (X.1 0 9).toInt = 0) from by exact (by omega))⟩
  · skip
    exact ok2.ret ⟨rfl, rfl, (show ((0 : Int) = 1 ∧ (X.1 0 9).toInt = 0) ∨ ((0 : Int) = 0 ∧ ¬ (X.1 0 9).toInt = 0) from by exact (by omega))⟩
set_option maxHeartbeats 4000000 in
set_option maxRecDepth 100000 in
theorem t_f_fails (p1 : Int32) (p2 : Int32) (X Xt : St) (lv : Nat) (P : Int) (hag : AG lv P X Xt) : ok2 (f_fails p1 p2 X) (f_fails p1 p2 Xt) (fun r X1 X1t => Fr YR [9, 10] X X1 ∧ Fr YR [9, 10] Xt X1t ∧ AG lv P X1 X1t ∧ (((X.1 0 9).toInt = 0 ∧ (X1.1 0 9).toInt = p1.toInt) ∨ (¬ (X.1 0 9).toInt = 0 ∧ (X1.1 0 9).toInt = (X.1 0 9).toInt))) := by
  unfold f_fails
  refine ok2.letE (v1 := (X.1 0 9)) rfl (hag.s0 9 (by decide)) ?_
  refine ok2.ite (fun c1 => ?_) (fun c1 => ?_)
  · skip
    refine ok2.letV ?_
    refine ok2.letV ?_
    exact ok2.ret ⟨((Fr.rf.wI 0 9 _ (show (9 : Nat) ∈ [9, 10] from by decide)).wI 0 10 _ (show (10 : Nat) ∈ [9, 10] from by decide)), ((Fr.rf.wI 0 9 _ (show (9 : Nat) ∈ [9, 10] from by decide)).wI 0 10 _ (show (10 : Nat) ∈ [9, 10] from by decide)), ((hag.wI 0 9 _ (by decide)).wI 0 10 _ (by decide)), (show ((X.1 0 9).toInt = 0 ∧ p1.toInt = p1.toInt) ∨ (¬ (X.1 0 9).toInt = 0 ∧ p1.toInt = (X.1 0 9).toInt) from by exact (by omega))⟩
  · skip
    exact ok2.ret ⟨Fr.rf, Fr.rf, hag, (show ((X.1 0 9).toInt = 0 ∧ (X.1 0 9).toInt = p1.toInt) ∨ (¬ (X.1 0 9).toInt = 0 ∧ (X.1 0 9).toInt = (X.1 0 9).toInt) from by exact (by omega))⟩
set_option maxHeartbeats 4000000 in
set_option maxRecDepth 100000 in
theorem t_f_stray (X Xt : St) (lv : Nat) (P : Int) (hag : AG lv P X Xt) (hlv : 1 ≤ lv) : ok2 (f_stray X) (f_stray Xt) (fun r X1 X1t => Fr YR [9, 10] X X1 ∧ Fr YR [9, 10] Xt X1t ∧ AG lv P X1 X1t ∧ (¬ (X1.1 0 9).toInt = 0)) := by
  unfold f_stray
  refine ok2.letE (v1 := (X.1 0 6)) rfl (hag.s1 6 (by decide) (Nat.le_trans (show 1 ≤ 1 from by decide) hlv)) ?_
  refine ok2.bd (t_f_fails _ _ _ _ lv P hag) ?_
  rintro r_3 X_2 X_2t ⟨hFh1, hGh1, hAh1, hh1⟩
  have hh1 : (((X.1 0 9).toInt = 0 ∧ (X_2.1 0 9).toInt = (1 : Int)) ∨ (¬ (X.1 0 9).toInt = 0 ∧ (X_2.1 0 9).toInt = (X.1 0 9).toInt)) := hh1
  exact ok2.ret ⟨(Fr.rf.tr hFh1 (by decide)), (Fr.rf.tr hGh1 (by decide)), hAh1, (show ¬ (X_2.1 0 9).toInt = 0 from by exact (by omega))⟩
set_option maxHeartbeats 4000000 in
set_option maxRecDepth 100000 in
theorem t_f_isSign (p1 : Int32) (X Xt : St) (lv : Nat) (P : Int) (hag : AG lv P X Xt) (hlv : 1 ≤ lv) : ok2 (f_isSign p1 X) (f_isSign p1 Xt) (fun r X1 X1t => X = X1 ∧ Xt = X1t ∧ ((r.toInt = 1 ∧ (X.1 0 9).toInt = 0 ∧ (X.1 0 7).toInt = 4) ∨ r.toInt = 0)) := by
  unfold f_isSign
  refine ok2.bd (t_f_isWell  _ _ lv P hag) ?_
  rintro x1 X_2 X_2t ⟨eX_2, eX_2t, hh1⟩
  subst eX_2
  subst eX_2t
  have hh1 : ((x1.toInt = 1 ∧ (X.1 0 9).toInt = 0) ∨ (x1.toInt = 0 ∧ ¬ (X.1 0 9).toInt = 0)) := hh1
  refine ok2.ite (fun c3 => ?_) (fun c3 => ?_)
  · skip
    exact ok2.ret ⟨rfl, rfl, (show ((0 : Int) = 1 ∧ (X.1 0 9).toInt = 0 ∧ (X.1 0 7).toInt = 4) ∨ (0 : Int) = 0 from by exact (by omega))⟩
  · skip
    refine ok2.letE (v1 := (X.1 0 7)) rfl (hag.s1 7 (by decide) (Nat.le_trans (show 1 ≤ 1 from by decide) hlv)) ?_
    refine ok2.ite (fun c4 => ?_) (fun c4 => ?_)
    · skip
      refine ok2.anyE (hag.told (Nat.le_trans (show 1 ≤ 1 from by decide) hlv)) (fun y4 => ?_)
      refine ok2.any (fun y5 => ?_)
      refine ok2.any (fun x6 => ?_)
      refine ok2.ite (fun c5 => ?_) (fun c5 => ?_)
      · skip
        exact ok2.ret ⟨rfl, rfl, (show ((1 : Int) = 1 ∧ (X.1 0 9).toInt = 0 ∧ (X.1 0 7).toInt = 4) ∨ (1 : Int) = 0 from by exact (by omega))⟩
      · skip
        exact ok2.ret ⟨rfl, rfl, (show ((0 : Int) = 1 ∧ (X.1 0 9).toInt = 0 ∧ (X.1 0 7).toInt = 4) ∨ (0 : Int) = 0 from by exact (by omega))⟩
    · skip
      exact ok2.ret ⟨rfl, rfl, (show ((0 : Int) = 1 ∧ (X.1 0 9).toInt = 0 ∧ (X.1 0 7).toInt = 4) ∨ (0 : Int) = 0 from by exact (by omega))⟩
set_option maxHeartbeats 4000000 in
set_option maxRecDepth 100000 in
theorem t_f_isWord (p1 : Int32) (X Xt : St) (lv : Nat) (P : Int) (hag : AG lv P X Xt) (hlv : 1 ≤ lv) : ok2 (f_isWord p1 X) (f_isWord p1 Xt) (fun r X1 X1t => X = X1 ∧ Xt = X1t ∧ ((r.toInt = 1 ∧ (X.1 0 9).toInt = 0 ∧ (X.1 0 7).toInt = 2) ∨ r.toInt = 0)) := by
  unfold f_isWord
  refine ok2.bd (t_f_isWell  _ _ lv P hag) ?_
  rintro x1 X_2 X_2t ⟨eX_2, eX_2t, hh1⟩
  subst eX_2
  subst eX_2t
  have hh1 : ((x1.toInt = 1 ∧ (X.1 0 9).toInt = 0) ∨ (x1.toInt = 0 ∧ ¬ (X.1 0 9).toInt = 0)) := hh1
  refine ok2.ite (fun c3 => ?_) (fun c3 => ?_)
  · skip
    exact ok2.ret ⟨rfl, rfl, (show ((0 : Int) = 1 ∧ (X.1 0 9).toInt = 0 ∧ (X.1 0 7).toInt = 2) ∨ (0 : Int) = 0 from by exact (by omega))⟩
  · skip
    refine ok2.letE (v1 := (X.1 0 7)) rfl (hag.s1 7 (by decide) (Nat.le_trans (show 1 ≤ 1 from by decide) hlv)) ?_
    refine ok2.ite (fun c4 => ?_) (fun c4 => ?_)
    · skip
      refine ok2.anyE (hag.told (Nat.le_trans (show 1 ≤ 1 from by decide) hlv)) (fun y4 => ?_)
      refine ok2.any (fun y5 => ?_)
      refine ok2.any (fun x6 => ?_)
      refine ok2.ite (fun c5 => ?_) (fun c5 => ?_)
      · skip
        exact ok2.ret ⟨rfl, rfl, (show ((1 : Int) = 1 ∧ (X.1 0 9).toInt = 0 ∧ (X.1 0 7).toInt = 2) ∨ (1 : Int) = 0 from by exact (by omega))⟩
      · skip
        exact ok2.ret ⟨rfl, rfl, (show ((0 : Int) = 1 ∧ (X.1 0 9).toInt = 0 ∧ (X.1 0 7).toInt = 2) ∨ (0 : Int) = 0 from by exact (by omega))⟩
    · skip
      exact ok2.ret ⟨rfl, rfl, (show ((0 : Int) = 1 ∧ (X.1 0 9).toInt = 0 ∧ (X.1 0 7).toInt = 2) ∨ (0 : Int) = 0 from by exact (by omega))⟩
