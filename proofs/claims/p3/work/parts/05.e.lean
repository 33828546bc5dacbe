/-! frames of functions, numbers in Int -/
def offS (L : List Nat) (σ σ' : Nat → Int32) : Prop := ∀ k, k ∉ L → σ' k = σ k
def offA {T : Type} (L : List Nat) (α α' : Nat → Nat → T) : Prop := ∀ i, i ∉ L → α' i = α i
theorem offS_nil {σ σ' : Nat → Int32} (h : offS [] σ σ') : σ' = σ := funext (fun i => h i List.not_mem_nil)
theorem offA_nil {T : Type} {α α' : Nat → Nat → T} (h : offA [] α α') : α' = α := funext (fun i => h i List.not_mem_nil)
theorem offS.rf {L : List Nat} {σ : Nat → Int32} : offS L σ σ := fun _ _ => rfl
theorem offS.put {L : List Nat} {σ σ' : Nat → Int32} (h : offS L σ σ') (k : Nat) (hk : k ∈ L) (v : Int32) : offS L σ (uS σ' k v) := fun j hj => by
  have hne : j ≠ k := fun e => hj (e ▸ hk)
  show (if j = k then v else σ' j) = σ j
  rw [if_neg hne]
  exact h j hj
theorem offS.tr {L L1 : List Nat} {σ σ' σ'' : Nat → Int32} (h : offS L σ σ') (h1 : offS L1 σ' σ'') (hs : ∀ k ∈ L1, k ∈ L) : offS L σ σ'' := fun j hj => (h1 j (fun q => hj (hs j q))).trans (h j hj)
theorem offA.rf {T : Type} {L : List Nat} {α : Nat → Nat → T} : offA L α α := fun _ _ => rfl
theorem offA.put {T : Type} {L : List Nat} {α α' : Nat → Nat → T} (h : offA L α α') (k : Nat) (hk : k ∈ L) (f : Nat → T) : offA L α (uA α' k f) := fun j hj => by
  have hne : j ≠ k := fun e => hj (e ▸ hk)
  show (if j = k then f else α' j) = α j
  rw [if_neg hne]
  exact h j hj
theorem offA.tr {T : Type} {L L1 : List Nat} {α α' α'' : Nat → Nat → T} (h : offA L α α') (h1 : offA L1 α' α'') (hs : ∀ k ∈ L1, k ∈ L) : offA L α α'' := fun j hj => (h1 j (fun q => hj (hs j q))).trans (h j hj)
theorem ti_add {a b : Int32} (h1 : -2147483648 ≤ a.toInt + b.toInt) (h2 : a.toInt + b.toInt ≤ 2147483647) : (a + b).toInt = a.toInt + b.toInt := by
  rw [Int32.toInt_add]
  exact Int.bmod_eq_of_le (by omega) (by omega)
theorem ti_sub {a b : Int32} (h1 : -2147483648 ≤ a.toInt - b.toInt) (h2 : a.toInt - b.toInt ≤ 2147483647) : (a - b).toInt = a.toInt - b.toInt := by
  rw [Int32.toInt_sub]
  exact Int.bmod_eq_of_le (by omega) (by omega)
theorem ti_mul {a b : Int32} (h1 : -2147483648 ≤ a.toInt * b.toInt) (h2 : a.toInt * b.toInt ≤ 2147483647) : (a * b).toInt = a.toInt * b.toInt := by
  rw [Int32.toInt_mul]
  exact Int.bmod_eq_of_le (by omega) (by omega)
theorem ti_inc {x : Int32} {c : Int} (h : -2147483648 ≤ x.toInt + c ∧ x.toInt + c ≤ 2147483647) (hc : (Int32.ofInt c).toInt = c) : ∃ y : Int32, x + Int32.ofInt c = y ∧ y.toInt = x.toInt + c := ⟨_, rfl, by
  rw [ti_add (by rw [hc]; exact h.1) (by rw [hc]; exact h.2), hc]⟩
theorem ti_in {x : Int32} {n : Nat} (h1 : 0 ≤ x.toInt) (h2 : x.toInt < n) : vp_in x n := vp_in_iff.mpr ⟨h1, h2⟩
theorem ti_lt {a b : Int32} (h : a < b) : a.toInt < b.toInt := Int32.lt_iff_toInt_lt.mp h
theorem ti_nlt {a b : Int32} (h : ¬ a < b) : b.toInt ≤ a.toInt := by rw [Int32.lt_iff_toInt_lt] at h; omega
theorem ti_le {a b : Int32} (h : a ≤ b) : a.toInt ≤ b.toInt := Int32.le_iff_toInt_le.mp h
theorem ti_nle {a b : Int32} (h : ¬ a ≤ b) : b.toInt < a.toInt := by rw [Int32.le_iff_toInt_le] at h; omega
theorem ti_eq {a b : Int32} (h : a = b) : a.toInt = b.toInt := by rw [h]
theorem ti_ne {a b : Int32} (h : ¬ a = b) : ¬ a.toInt = b.toInt := fun q => h (Int32.toInt_inj.mp q)
theorem ti_lo (x : Int32) : -2147483648 ≤ x.toInt := Int32.le_toInt x
theorem ti_hi (x : Int32) : x.toInt ≤ 2147483647 := by have := Int32.toInt_lt x; omega
/-! the layer E: from here on every start that agrees with S on what is determined (D) comes to one end -/
abbrev Sx : Type := Launch × (Nat → ClassId) × (Nat → Nat → Nat) × Nat × (Nat → Nat) × (Nat → ClassId)
abbrev MK : Type := ByteArray × Nat × String × Option FieldType × Room
abbrev Dn : Type := (Nat → Prop) × Prop × (Nat → Nat → Prop) × (Nat → Nat → Prop)
abbrev Lm : Type := List Nat × Bool × List Nat × List Nat
def Dle (D D' : Dn) : Prop := (∀ k, D.1 k → D'.1 k) ∧ (D.2.1 → D'.2.1) ∧ (∀ i j, D.2.2.1 i j → D'.2.2.1 i j) ∧ (∀ i j, D.2.2.2 i j → D'.2.2.2 i j)
theorem Dle.rf {D : Dn} : Dle D D := ⟨fun _ h => h, fun h => h, fun _ _ h => h, fun _ _ h => h⟩
theorem Dle.tr {D D' D'' : Dn} (h : Dle D D') (g : Dle D' D'') : Dle D D'' := ⟨fun k q => g.1 k (h.1 k q), fun q => g.2.1 (h.2.1 q), fun i j q => g.2.2.1 i j (h.2.2.1 i j q), fun i j q => g.2.2.2 i j (h.2.2.2 i j q)⟩
def Ag (D : Dn) (S X : MX) : Prop := (∀ k, D.1 k → X.1 k = S.1 k) ∧ (D.2.1 → X.2.1 = S.2.1) ∧ (∀ i j, D.2.2.1 i j → X.2.2.1 i j = S.2.2.1 i j) ∧ (∀ i j, D.2.2.2 i j → X.2.2.2 i j = S.2.2.2 i j)
def Fr (L : Lm) (S S' : MX) : Prop := offS L.1 S.1 S'.1 ∧ (L.2.1 = false → S'.2.1 = S.2.1) ∧ offA L.2.2.1 S.2.2.1 S'.2.2.1 ∧ offA L.2.2.2 S.2.2.2 S'.2.2.2
theorem Fr.rf {L : Lm} {S : MX} : Fr L S S := ⟨offS.rf, fun _ => rfl, offA.rf, offA.rf⟩
def Lle (L L' : Lm) : Prop := (∀ k ∈ L.1, k ∈ L'.1) ∧ (L.2.1 = true → L'.2.1 = true) ∧ (∀ k ∈ L.2.2.1, k ∈ L'.2.2.1) ∧ (∀ k ∈ L.2.2.2, k ∈ L'.2.2.2)
theorem Fr.tr {L : Lm} {S S' S'' : MX} (h : Fr L S S') (g : Fr L S' S'') : Fr L S S'' := ⟨h.1.tr g.1 (fun _ q => q), fun q => (g.2.1 q).trans (h.2.1 q), h.2.2.1.tr g.2.2.1 (fun _ q => q), h.2.2.2.tr g.2.2.2 (fun _ q => q)⟩
theorem Fr.mo {L L' : Lm} {S S' : MX} (h : Fr L S S') (g : Lle L L') : Fr L' S S' := ⟨fun k hk => h.1 k (fun q => hk (g.1 k q)), fun q => h.2.1 (by
  cases hb : L.2.1 with
  | false => rfl
  | true => rw [g.2.1 hb] at q; cases q), fun k hk => h.2.2.1 k (fun q => hk (g.2.2.1 k q)), fun k hk => h.2.2.2 k (fun q => hk (g.2.2.2 k q))⟩
def DS (D : Dn) (l : List Nat) : Prop := ∀ k ∈ l, D.1 k
theorem DS.le {D D' : Dn} {l : List Nat} (h : DS D l) (g : Dle D D') : DS D' l := fun k q => g.1 k (h k q)
theorem DS.sub {D : Dn} {l l' : List Nat} (h : DS D l) (g : ∀ k ∈ l', k ∈ l) : DS D l' := fun k q => h k (g k q)
theorem DS.cons {D : Dn} {l : List Nat} {k : Nat} (hk : D.1 k) (h : DS D l) : DS D (k :: l) := fun j q => by
  rcases List.mem_cons.mp q with e | e
  · rw [e]; exact hk
  · exact h j e
theorem DS.app {D : Dn} {l l' : List Nat} (h : DS D l) (g : DS D l') : DS D (l ++ l') := fun k q => (List.mem_append.mp q).elim (h k) (g k)
/-- rows of ints determined up to a number -/
def LV (D : Dn) (is : List Nat) (n : Int) : Prop := ∀ i ∈ is, ∀ j : Nat, (j : Int) < n → D.2.2.1 i j
theorem LV.le {D D' : Dn} {is : List Nat} {n : Int} (h : LV D is n) (g : Dle D D') : LV D' is n := fun i hi j hj => g.2.2.1 i j (h i hi j hj)
theorem LV.up {D : Dn} {is : List Nat} {n n' : Int} (h : LV D is n) (g : n' ≤ n) : LV D is n' := fun i hi j hj => h i hi j (Int.lt_of_lt_of_le hj g)
theorem LV.sub {D : Dn} {is is' : List Nat} {n : Int} (h : LV D is n) (g : ∀ k ∈ is', k ∈ is) : LV D is' n := fun i hi j hj => h i (g i hi) j hj
def LVb (D : Dn) (is : List Nat) (n : Int) : Prop := ∀ i ∈ is, ∀ j : Nat, (j : Int) < n → D.2.2.2 i j
theorem LVb.le {D D' : Dn} {is : List Nat} {n : Int} (h : LVb D is n) (g : Dle D D') : LVb D' is n := fun i hi j hj => g.2.2.2 i j (h i hi j hj)
theorem LVb.up {D : Dn} {is : List Nat} {n n' : Int} (h : LVb D is n) (g : n' ≤ n) : LVb D is n' := fun i hi j hj => h i hi j (Int.lt_of_lt_of_le hj g)
theorem tnc {x : Int32} (h : 0 ≤ x.toInt) : (x.toNatClampNeg : Int) = x.toInt := by
  have e : x.toNatClampNeg = x.toInt.toNat := rfl
  omega
theorem LV.at {D : Dn} {is : List Nat} {n : Int} (h : LV D is n) {i : Nat} (hi : i ∈ is) {x : Int32} (h0 : 0 ≤ x.toInt) (h1 : x.toInt < n) : D.2.2.1 i x.toNatClampNeg := h i hi _ (by have := tnc h0; omega)
theorem LVb.at {D : Dn} {is : List Nat} {n : Int} (h : LVb D is n) {i : Nat} (hi : i ∈ is) {x : Int32} (h0 : 0 ≤ x.toInt) (h1 : x.toInt < n) : D.2.2.2 i x.toNatClampNeg := h i hi _ (by have := tnc h0; omega)
/-- all is determined -/
def Dtop : Dn := (fun _ => True, True, fun _ _ => True, fun _ _ => True)
def WdX (Γ : Sx) (A : Nat → Prop) (X : MX) (s : State) (H : Heap) (locs : List Loc) : Prop := Wd Γ.2.1 Γ.2.2.1 A (MW Γ.2.2.2.1 Γ.2.2.2.2.1 Γ.2.2.2.2.2 X.1 X.2.1 X.2.2.1 X.2.2.2) (MT Γ.2.2.2.2.2) s H locs
def EQi (Γ : Sx) (A : Nat → Prop) (s : State) (below : List Frame) (av : List Value) (v : Bool) (ψ : Int32 → MX → Prop) : State → Prop :=
  bif v then MZv below (ψ 0) Γ.2.2.2.1 Γ.2.2.2.2.1 Γ.2.2.2.2.2 Γ.2.1 Γ.2.2.1 A s av else MZi below ψ Γ.2.2.2.1 Γ.2.2.2.2.1 Γ.2.2.2.2.2 Γ.2.1 Γ.2.2.1 A s av
def psi (v : Bool) (r : Int32) (S' : MX) (D' : Dn) (L : Lm) (X0 : MX) : Int32 → MX → Prop := fun r' x => (v = false → r' = r) ∧ Ag D' S' x ∧ Fr L X0 x
def WE (Γ : Sx) (K : MK) (As : List Value) (L : Lm) (v : Bool) (pc : Nat) (lv : List (Nat × Value)) (st : List Value) (S : MX) (D : Dn) (r : Int32) (S' : MX) (D' : Dn) : Prop :=
  ∀ (X0 X : MX), Fr L X0 X → Ag D S X → ∀ (p : Program) (e : Env) (s : State) (m : MethodId) (below : List Frame) (meth : Method) (c : Code) (ls : Array Slot) (A : Nat → Prop) (H : Heap) (locs : List Loc),
    Fx p c K.1 K.2.1 s (.ref Γ.2.2.2.1 :: As : List Value).toArray m K.2.2.1 → meth.sig.returnType = K.2.2.2.1 → meth.locks = false → WdX Γ A X s H locs → lv_has ls K.2.1 lv →
    W p Γ.1 e K.2.2.2.2 s m (.ref Γ.2.2.2.1 :: As : List Value).toArray below meth c H locs 0 0 (EQi Γ A s below (.ref Γ.2.2.2.1 :: As) v (psi v r S' D' L X0)) (F0 m pc ls st)
def E (Γ : Sx) (K : MK) (As : List Value) (L : Lm) (v : Bool) (pc : Nat) (lv : List (Nat × Value)) (st : List Value) (S : MX) (D : Dn) (φ : Int32 → MX → Dn → Prop) : Prop :=
  ∃ (r : Int32) (S' : MX) (D' : Dn), Fr L S S' ∧ Dle D D' ∧ φ r S' D' ∧ WE Γ K As L v pc lv st S D r S' D'
/-- a contract -/
def MCE (Γ : Sx) (y : MethodName) (K : MK) (As : List Value) (L : Lm) (v : Bool) (S : MX) (D : Dn) (φ : Int32 → MX → Dn → Prop) : Prop :=
  ∃ (r : Int32) (S' : MX) (D' : Dn), Fr L S S' ∧ Dle D D' ∧ φ r S' D' ∧ ∀ (X : MX) (sz : Nat), Ag D S X →
    bif v then MCv Γ.1 Γ.2.1 Γ.2.2.1 Γ.2.2.2.1 Γ.2.2.2.2.1 Γ.2.2.2.2.2 y K.1 K.2.1 K.2.2.2.2 As X.1 X.2.1 X.2.2.1 X.2.2.2 (psi v r S' D' L X 0) sz
    else MCi Γ.1 Γ.2.1 Γ.2.2.1 Γ.2.2.2.1 Γ.2.2.2.2.1 Γ.2.2.2.2.2 y K.1 K.2.1 K.2.2.2.1 K.2.2.2.2 As X.1 X.2.1 X.2.2.1 X.2.2.2 (psi v r S' D' L X) sz
section EL
variable {Γ : Sx} {K K1 : MK} {As As1 rest st st1 st0 : List Value} {L L1 : Lm} {v : Bool} {pc pc1 : Nat} {lv lv1 : List (Nat × Value)} {S S1 : MX} {D D1 : Dn} {φ φ1 : Int32 → MX → Dn → Prop} {y : MethodName} {n index : Nat}
variable {σ : Nat → Int32} {τ : Int64} {α : Nat → Nat → Int32} {β : Nat → Nat → Int64}
theorem MCE.of_i (hy : plainName y.cls = true) (hav : (lg_sl (.ref Γ.2.2.2.1 :: As)).length ≤ K.2.1) (hown : K.2.2.1 = y.cls) (h : E Γ K As L false 0 (lv_args 0 (.ref Γ.2.2.2.1 :: As)) [] S D φ) : MCE Γ y K As L false S D φ := by
  obtain ⟨r, S', D', a, b, q, h⟩ := h
  refine ⟨r, S', D', a, b, q, fun X sz hX => ?_⟩
  exact gbody_i hy hav (fun p e s m below meth c ls A H hf hr hlk hw hl => h X X Fr.rf hX p e s m below meth c ls A H [] (by rw [hown]; exact hf) hr hlk hw hl)
theorem MCE.of_v (hy : plainName y.cls = true) (hav : (lg_sl (.ref Γ.2.2.2.1 :: As)).length ≤ K.2.1) (hown : K.2.2.1 = y.cls) (hret : K.2.2.2.1 = none) (h : E Γ K As L true 0 (lv_args 0 (.ref Γ.2.2.2.1 :: As)) [] S D φ) : MCE Γ y K As L true S D φ := by
  obtain ⟨r, S', D', a, b, q, h⟩ := h
  refine ⟨r, S', D', a, b, q, fun X sz hX => ?_⟩
  exact gbody_v hy hav (fun p e s m below meth c ls A H hf hr hlk hw hl => h X X Fr.rf hX p e s m below meth c ls A H [] (by rw [hown]; exact hf) (by rw [hret]; exact hr) hlk hw hl)
theorem E.ret_i {x : Int32} (hret : K.2.2.2.1 = some .int) (hφ : φ x S D) (hdg : decode K.1 pc = .ok (.ireturn, 1)) : E Γ K As L false pc lv [.int x] S D φ :=
  ⟨x, S, D, Fr.rf, Dle.rf, hφ, fun X0 X hX0 hX p e s m below meth c ls A H locs hf hr hlk hw hl => gret_i (φ := psi false x S D L X0) hf (hr.trans hret) hlk hw ⟨fun _ => rfl, hX, hX0⟩ hdg⟩
theorem E.ret_z {x : Int32} (hret : K.2.2.2.1 = some .boolean) (hz : narrow .boolean (.int x) = .int x) (hφ : φ x S D) (hdg : decode K.1 pc = .ok (.ireturn, 1)) : E Γ K As L false pc lv [.int x] S D φ :=
  ⟨x, S, D, Fr.rf, Dle.rf, hφ, fun X0 X hX0 hX p e s m below meth c ls A H locs hf hr hlk hw hl => gret_z (φ := psi false x S D L X0) hf (hr.trans hret) hlk hz hw ⟨fun _ => rfl, hX, hX0⟩ hdg⟩
theorem E.ret_v (hret : K.2.2.2.1 = none) (hφ : φ 0 S D) (hdg : decode K.1 pc = .ok (.return_, 1)) : E Γ K As L true pc lv [] S D φ :=
  ⟨0, S, D, Fr.rf, Dle.rf, hφ, fun X0 X hX0 hX p e s m below meth c ls A H locs hf hr hlk hw hl => gret_v (φ := psi true 0 S D L X0 0) hf (hr.trans hret) hlk hw ⟨fun _ => rfl, hX, hX0⟩ hdg⟩
theorem E.lift (f : MX → MX) (hS : Fr L S S1) (hD : Dle D D1) (hf : ∀ X, Ag D S X → Ag D1 S1 (f X) ∧ Fr L X (f X)) (h : E Γ K As L v pc1 lv1 st1 S1 D1 φ)
    (step : ∀ (X : MX) (p : Program) (e : Env) (s : State) (m : MethodId) (below : List Frame) (meth : Method) (c : Code) (ls : Array Slot) (A : Nat → Prop) (H : Heap) (locs : List Loc) (Q : State → Prop), Ag D S X → Fx p c K.1 K.2.1 s (.ref Γ.2.2.2.1 :: As : List Value).toArray m K.2.2.1 → WdX Γ A X s H locs → lv_has ls K.2.1 lv →
      (∀ (ls1 : Array Slot) (H1 : Heap) (locs1 : List Loc), WdX Γ A (f X) s H1 locs1 → lv_has ls1 K.2.1 lv1 → W p Γ.1 e K.2.2.2.2 s m (.ref Γ.2.2.2.1 :: As : List Value).toArray below meth c H1 locs1 0 0 Q (F0 m pc1 ls1 st1)) →
      W p Γ.1 e K.2.2.2.2 s m (.ref Γ.2.2.2.1 :: As : List Value).toArray below meth c H locs 0 0 Q (F0 m pc ls st)) : E Γ K As L v pc lv st S D φ := by
  obtain ⟨r, S', D', hr, hd, hp, hw⟩ := h
  refine ⟨r, S', D', hS.tr hr, hD.tr hd, hp, ?_⟩
  intro X0 X hX0 hX p e s m below meth c ls A H locs hfx hret hlk hwd hlv
  exact step X p e s m below meth c ls A H locs _ hX hfx hwd hlv (fun ls1 H1 locs1 hw1 hl1 => hw X0 (f X) (hX0.tr (hf X hX).2) (hf X hX).1 p e s m below meth c ls1 A H1 locs1 hfx hret hlk hw1 hl1)
/-- the state stays -/
theorem E.lf (h : E Γ K As L v pc1 lv1 st1 S D φ)
    (step : ∀ (X : MX) (p : Program) (e : Env) (s : State) (m : MethodId) (below : List Frame) (meth : Method) (c : Code) (ls : Array Slot) (A : Nat → Prop) (H : Heap) (locs : List Loc) (Q : State → Prop), Ag D S X → Fx p c K.1 K.2.1 s (.ref Γ.2.2.2.1 :: As : List Value).toArray m K.2.2.1 → WdX Γ A X s H locs → lv_has ls K.2.1 lv →
      (∀ (ls1 : Array Slot), lv_has ls1 K.2.1 lv1 → W p Γ.1 e K.2.2.2.2 s m (.ref Γ.2.2.2.1 :: As : List Value).toArray below meth c H locs 0 0 Q (F0 m pc1 ls1 st1)) →
      W p Γ.1 e K.2.2.2.2 s m (.ref Γ.2.2.2.1 :: As : List Value).toArray below meth c H locs 0 0 Q (F0 m pc ls st)) : E Γ K As L v pc lv st S D φ :=
  E.lift (fun X => X) Fr.rf Dle.rf (fun X hX => ⟨hX, Fr.rf⟩) h (fun X p e s m below meth c ls A H locs Q hX hf hw hl k => step X p e s m below meth c ls A H locs Q hX hf hw hl (fun ls1 hl1 => k ls1 H locs hw hl1))
theorem E.iconst {z : Int} {w : Int32} (hdg : decode K.1 pc = .ok (.iconst z, 1)) (hv : Int32.ofInt z = w) (k : E Γ K As L v (pc + 1) lv (.int w :: rest) S D φ) : E Γ K As L v pc lv rest S D φ :=
  E.lf k (fun X p e s m below meth c ls A H locs Q hX hf hw hl k => lv_iconst hf.1 hf.2.1 hdg hv (k ls hl))

theorem E.bipush {z : Int} {w : Int32} (hdg : decode K.1 pc = .ok (.bipush z, 2)) (hv : (Int8.ofInt z).toInt32 = w) (k : E Γ K As L v (pc + 2) lv (.int w :: rest) S D φ) : E Γ K As L v pc lv rest S D φ :=
  E.lf k (fun X p e s m below meth c ls A H locs Q hX hf hw hl k => lv_bipush hf.1 hf.2.1 hdg hv (k ls hl))

theorem E.sipush {z : Int} {w : Int32} (hdg : decode K.1 pc = .ok (.sipush z, 3)) (hv : (Int16.ofInt z).toInt32 = w) (k : E Γ K As L v (pc + 3) lv (.int w :: rest) S D φ) : E Γ K As L v pc lv rest S D φ :=
  E.lf k (fun X p e s m below meth c ls A H locs Q hX hf hw hl k => lv_sipush hf.1 hf.2.1 hdg hv (k ls hl))

theorem E.lconst {z : Fin 2} {w : Int64} (hdg : decode K.1 pc = .ok (.lconst z, 1)) (hv : Int64.ofNat (z : Nat) = w) (k : E Γ K As L v (pc + 1) lv (.long w :: rest) S D φ) : E Γ K As L v pc lv rest S D φ :=
  E.lf k (fun X p e s m below meth c ls A H locs Q hX hf hw hl k => lv_lconst hf.1 hf.2.1 hdg hv (k ls hl))

theorem E.ldc {w : Int32} (hc : Cond.constant K.2.2.1 index w ∈ gtb) (hdg : decode K.1 pc = .ok (.ldc index, 2)) (k : E Γ K As L v (pc + 2) lv (.int w :: rest) S D φ) : E Γ K As L v pc lv rest S D φ :=
  E.lf k (fun X p e s m below meth c ls A H locs Q hX hf hw hl k => lv_ldc hf.1 hf.2.1 hf.2.2.2.1 (hf.2.2.2.2.1 _ hc) hdg (k ls hl))

theorem E.ldc2 {w : Int64} (hc : Cond.constantLong K.2.2.1 index w ∈ gtb) (hdg : decode K.1 pc = .ok (.ldc2_w index, 3)) (k : E Γ K As L v (pc + 3) lv (.long w :: rest) S D φ) : E Γ K As L v pc lv rest S D φ :=
  E.lf k (fun X p e s m below meth c ls A H locs Q hX hf hw hl k => lv_ldc2 hf.1 hf.2.1 hf.2.2.2.1 (hf.2.2.2.2.1 _ hc) hdg (k ls hl))

theorem E.iload_n {j : Fin 4} {i : Nat} {w : Int32} (hdg : decode K.1 pc = .ok (.iload_n j, 1)) (hi : (j : Nat) = i) (q : Nat) (hq : lv[q]? = some (i, .int w)) (k : E Γ K As L v (pc + 1) lv (.int w :: rest) S D φ) : E Γ K As L v pc lv rest S D φ :=
  E.lf k (fun X p e s m below meth c ls A H locs Q hX hf hw hl k => lv_iload_n hf.1 hf.2.1 hdg hi (lv_at hl q hq) (k ls hl))

theorem E.iload {i : Nat} {w : Int32} (hdg : decode K.1 pc = .ok (.iload i, 2)) (q : Nat) (hq : lv[q]? = some (i, .int w)) (k : E Γ K As L v (pc + 2) lv (.int w :: rest) S D φ) : E Γ K As L v pc lv rest S D φ :=
  E.lf k (fun X p e s m below meth c ls A H locs Q hX hf hw hl k => lv_iload hf.1 hf.2.1 hdg (lv_at hl q hq) (k ls hl))

theorem E.aload_n {j : Fin 4} {i : Nat} {w : Nat} (hdg : decode K.1 pc = .ok (.aload_n j, 1)) (hi : (j : Nat) = i) (q : Nat) (hq : lv[q]? = some (i, .ref w)) (k : E Γ K As L v (pc + 1) lv (.ref w :: rest) S D φ) : E Γ K As L v pc lv rest S D φ :=
  E.lf k (fun X p e s m below meth c ls A H locs Q hX hf hw hl k => lv_aload_n hf.1 hf.2.1 hdg hi (lv_at hl q hq) (k ls hl))

theorem E.aload {i : Nat} {w : Nat} (hdg : decode K.1 pc = .ok (.aload i, 2)) (q : Nat) (hq : lv[q]? = some (i, .ref w)) (k : E Γ K As L v (pc + 2) lv (.ref w :: rest) S D φ) : E Γ K As L v pc lv rest S D φ :=
  E.lf k (fun X p e s m below meth c ls A H locs Q hX hf hw hl k => lv_aload hf.1 hf.2.1 hdg (lv_at hl q hq) (k ls hl))

theorem E.lload_n {j : Fin 4} {i : Nat} {w : Int64} (hdg : decode K.1 pc = .ok (.lload_n j, 1)) (hi : (j : Nat) = i) (q : Nat) (hq : lv[q]? = some (i, .long w)) (k : E Γ K As L v (pc + 1) lv (.long w :: rest) S D φ) : E Γ K As L v pc lv rest S D φ :=
  E.lf k (fun X p e s m below meth c ls A H locs Q hX hf hw hl k => lv_lload_n hf.1 hf.2.1 hdg hi (lv_at hl q hq) (k ls hl))

theorem E.lload {i : Nat} {w : Int64} (hdg : decode K.1 pc = .ok (.lload i, 2)) (q : Nat) (hq : lv[q]? = some (i, .long w)) (k : E Γ K As L v (pc + 2) lv (.long w :: rest) S D φ) : E Γ K As L v pc lv rest S D φ :=
  E.lf k (fun X p e s m below meth c ls A H locs Q hX hf hw hl k => lv_lload hf.1 hf.2.1 hdg (lv_at hl q hq) (k ls hl))

theorem E.istore_n {j : Fin 4} {i : Nat} {w : Int32} (hdg : decode K.1 pc = .ok (.istore_n j, 1)) (hi : (j : Nat) = i) (hn : i < K.2.1) (hl1 : (i, Value.int w) :: lv.filter (fun q => !(q.1 == i) && !(q.1 + 1 == i && q.2.category == 2)) = lv1) (k : E Γ K As L v (pc + 1) lv1 rest S D φ) : E Γ K As L v pc lv (.int w :: rest) S D φ :=
  E.lf k (fun X p e s m below meth c ls A H locs Q hX hf hw hl k => lv_istore_n hf.1 hf.2.1 hdg hi hl hn hl1 (fun ls1 hl1 => k ls1 hl1))

theorem E.istore {i : Nat} {w : Int32} (hdg : decode K.1 pc = .ok (.istore i, 2)) (hn : i < K.2.1) (hl1 : (i, Value.int w) :: lv.filter (fun q => !(q.1 == i) && !(q.1 + 1 == i && q.2.category == 2)) = lv1) (k : E Γ K As L v (pc + 2) lv1 rest S D φ) : E Γ K As L v pc lv (.int w :: rest) S D φ :=
  E.lf k (fun X p e s m below meth c ls A H locs Q hX hf hw hl k => lv_istore hf.1 hf.2.1 hdg hl hn hl1 (fun ls1 hl1 => k ls1 hl1))

theorem E.lstore_n {j : Fin 4} {i : Nat} {w : Int64} (hdg : decode K.1 pc = .ok (.lstore_n j, 1)) (hi : (j : Nat) = i) (hn : i + 1 < K.2.1) (hl1 : (i, Value.long w) :: lv.filter (fun q => !(q.1 == i) && (!(q.1 == i + 1) && !(q.1 + 1 == i && q.2.category == 2))) = lv1) (k : E Γ K As L v (pc + 1) lv1 rest S D φ) : E Γ K As L v pc lv (.long w :: rest) S D φ :=
  E.lf k (fun X p e s m below meth c ls A H locs Q hX hf hw hl k => lv_lstore_n hf.1 hf.2.1 hdg hi hl hn hl1 (fun ls1 hl1 => k ls1 hl1))

theorem E.lstore {i : Nat} {w : Int64} (hdg : decode K.1 pc = .ok (.lstore i, 2)) (hn : i + 1 < K.2.1) (hl1 : (i, Value.long w) :: lv.filter (fun q => !(q.1 == i) && (!(q.1 == i + 1) && !(q.1 + 1 == i && q.2.category == 2))) = lv1) (k : E Γ K As L v (pc + 2) lv1 rest S D φ) : E Γ K As L v pc lv (.long w :: rest) S D φ :=
  E.lf k (fun X p e s m below meth c ls A H locs Q hX hf hw hl k => lv_lstore hf.1 hf.2.1 hdg hl hn hl1 (fun ls1 hl1 => k ls1 hl1))

theorem E.iinc {i : Nat} {z : Int} {x w : Int32} (hdg : decode K.1 pc = .ok (.iinc i z, 3)) (q : Nat) (hq : lv[q]? = some (i, .int x)) (hw : x + Int32.ofInt z = w) (hn : i < K.2.1) (hl1 : (i, Value.int w) :: lv.filter (fun q => !(q.1 == i) && !(q.1 + 1 == i && q.2.category == 2)) = lv1) (k : E Γ K As L v (pc + 3) lv1 rest S D φ) : E Γ K As L v pc lv rest S D φ :=
  E.lf k (fun X p e s m below meth c ls A H locs Q hX hf hw' hl k => lv_iinc hf.1 hf.2.1 hdg hl hq hw hn hl1 (fun ls1 hl1 => k ls1 hl1))

theorem E.iadd {a b : Int32} (hdg : decode K.1 pc = .ok (.iadd, 1)) (k : ∀ w : Int32, w = a + b → E Γ K As L v (pc + 1) lv (.int w :: rest) S D φ) : E Γ K As L v pc lv (.int b :: .int a :: rest) S D φ :=
  E.lf (k _ rfl) (fun X p e s m below meth c ls A H locs Q hX hf hw hl k => lv_iadd hf.1 hf.2.1 hdg (k ls hl))

theorem E.isub {a b : Int32} (hdg : decode K.1 pc = .ok (.isub, 1)) (k : ∀ w : Int32, w = a - b → E Γ K As L v (pc + 1) lv (.int w :: rest) S D φ) : E Γ K As L v pc lv (.int b :: .int a :: rest) S D φ :=
  E.lf (k _ rfl) (fun X p e s m below meth c ls A H locs Q hX hf hw hl k => lv_isub hf.1 hf.2.1 hdg (k ls hl))

theorem E.imul {a b : Int32} (hdg : decode K.1 pc = .ok (.imul, 1)) (k : ∀ w : Int32, w = a * b → E Γ K As L v (pc + 1) lv (.int w :: rest) S D φ) : E Γ K As L v pc lv (.int b :: .int a :: rest) S D φ :=
  E.lf (k _ rfl) (fun X p e s m below meth c ls A H locs Q hX hf hw hl k => lv_imul hf.1 hf.2.1 hdg (k ls hl))

theorem E.ladd {a b : Int64} (hdg : decode K.1 pc = .ok (.ladd, 1)) (k : ∀ w : Int64, w = a + b → E Γ K As L v (pc + 1) lv (.long w :: rest) S D φ) : E Γ K As L v pc lv (.long b :: .long a :: rest) S D φ :=
  E.lf (k _ rfl) (fun X p e s m below meth c ls A H locs Q hX hf hw hl k => lv_ladd hf.1 hf.2.1 hdg (k ls hl))

theorem E.lsub {a b : Int64} (hdg : decode K.1 pc = .ok (.lsub, 1)) (k : ∀ w : Int64, w = a - b → E Γ K As L v (pc + 1) lv (.long w :: rest) S D φ) : E Γ K As L v pc lv (.long b :: .long a :: rest) S D φ :=
  E.lf (k _ rfl) (fun X p e s m below meth c ls A H locs Q hX hf hw hl k => lv_lsub hf.1 hf.2.1 hdg (k ls hl))

theorem E.lmul {a b : Int64} (hdg : decode K.1 pc = .ok (.lmul, 1)) (k : ∀ w : Int64, w = a * b → E Γ K As L v (pc + 1) lv (.long w :: rest) S D φ) : E Γ K As L v pc lv (.long b :: .long a :: rest) S D φ :=
  E.lf (k _ rfl) (fun X p e s m below meth c ls A H locs Q hX hf hw hl k => lv_lmul hf.1 hf.2.1 hdg (k ls hl))

theorem E.iand {a b : Int32} (hdg : decode K.1 pc = .ok (.iand, 1)) (k : ∀ w : Int32, w = a &&& b → E Γ K As L v (pc + 1) lv (.int w :: rest) S D φ) : E Γ K As L v pc lv (.int b :: .int a :: rest) S D φ :=
  E.lf (k _ rfl) (fun X p e s m below meth c ls A H locs Q hX hf hw hl k => lv_iand hf.1 hf.2.1 hdg (k ls hl))

theorem E.ior {a b : Int32} (hdg : decode K.1 pc = .ok (.ior, 1)) (k : ∀ w : Int32, w = a ||| b → E Γ K As L v (pc + 1) lv (.int w :: rest) S D φ) : E Γ K As L v pc lv (.int b :: .int a :: rest) S D φ :=
  E.lf (k _ rfl) (fun X p e s m below meth c ls A H locs Q hX hf hw hl k => lv_ior hf.1 hf.2.1 hdg (k ls hl))

theorem E.iaddI {a b : Int32} (hdg : decode K.1 pc = .ok (.iadd, 1)) (hb : -2147483648 ≤ a.toInt + b.toInt ∧ a.toInt + b.toInt ≤ 2147483647) (k : ∀ w : Int32, w.toInt = a.toInt + b.toInt → E Γ K As L v (pc + 1) lv (.int w :: rest) S D φ) : E Γ K As L v pc lv (.int b :: .int a :: rest) S D φ :=
  E.iadd hdg (fun w hw => k w (by rw [hw]; exact ti_add hb.1 hb.2))

theorem E.isubI {a b : Int32} (hdg : decode K.1 pc = .ok (.isub, 1)) (hb : -2147483648 ≤ a.toInt - b.toInt ∧ a.toInt - b.toInt ≤ 2147483647) (k : ∀ w : Int32, w.toInt = a.toInt - b.toInt → E Γ K As L v (pc + 1) lv (.int w :: rest) S D φ) : E Γ K As L v pc lv (.int b :: .int a :: rest) S D φ :=
  E.isub hdg (fun w hw => k w (by rw [hw]; exact ti_sub hb.1 hb.2))

theorem E.imulI {a b : Int32} (hdg : decode K.1 pc = .ok (.imul, 1)) (hb : -2147483648 ≤ a.toInt * b.toInt ∧ a.toInt * b.toInt ≤ 2147483647) (k : ∀ w : Int32, w.toInt = a.toInt * b.toInt → E Γ K As L v (pc + 1) lv (.int w :: rest) S D φ) : E Γ K As L v pc lv (.int b :: .int a :: rest) S D φ :=
  E.imul hdg (fun w hw => k w (by rw [hw]; exact ti_mul hb.1 hb.2))

theorem E.idiv {a b : Int32} (hdg : decode K.1 pc = .ok (.idiv, 1)) (hne : ¬ b = 0) (k : ∀ w : Int32, w = a / b → E Γ K As L v (pc + 1) lv (.int w :: rest) S D φ) : E Γ K As L v pc lv (.int b :: .int a :: rest) S D φ :=
  E.lf (k _ rfl) (fun X p e s m below meth c ls A H locs Q hX hf hw hl k => lv_idiv hf.1 hf.2.1 hdg hne (k ls hl))

theorem E.irem {a b : Int32} (hdg : decode K.1 pc = .ok (.irem, 1)) (hne : ¬ b = 0) (k : ∀ w : Int32, w = a - a / b * b → E Γ K As L v (pc + 1) lv (.int w :: rest) S D φ) : E Γ K As L v pc lv (.int b :: .int a :: rest) S D φ :=
  E.lf (k _ rfl) (fun X p e s m below meth c ls A H locs Q hX hf hw hl k => lv_irem hf.1 hf.2.1 hdg hne (k ls hl))

theorem E.ineg {a : Int32} (hdg : decode K.1 pc = .ok (.ineg, 1)) (k : ∀ w : Int32, w = -a → E Γ K As L v (pc + 1) lv (.int w :: rest) S D φ) : E Γ K As L v pc lv (.int a :: rest) S D φ :=
  E.lf (k _ rfl) (fun X p e s m below meth c ls A H locs Q hX hf hw hl k => lv_ineg hf.1 hf.2.1 hdg (k ls hl))

theorem E.i2b {a : Int32} (hdg : decode K.1 pc = .ok (.i2b, 1)) (k : ∀ w : Int32, w = a.toInt8.toInt32 → E Γ K As L v (pc + 1) lv (.int w :: rest) S D φ) : E Γ K As L v pc lv (.int a :: rest) S D φ :=
  E.lf (k _ rfl) (fun X p e s m below meth c ls A H locs Q hX hf hw hl k => lv_i2b hf.1 hf.2.1 hdg rfl (k ls hl))

theorem E.i2l {a : Int32} (hdg : decode K.1 pc = .ok (.i2l, 1)) (k : ∀ w : Int64, w = a.toInt64 → E Γ K As L v (pc + 1) lv (.long w :: rest) S D φ) : E Γ K As L v pc lv (.int a :: rest) S D φ :=
  E.lf (k _ rfl) (fun X p e s m below meth c ls A H locs Q hX hf hw hl k => lv_i2l hf.1 hf.2.1 hdg rfl (k ls hl))

theorem E.l2i {a : Int64} (hdg : decode K.1 pc = .ok (.l2i, 1)) (k : ∀ w : Int32, w = a.toInt32 → E Γ K As L v (pc + 1) lv (.int w :: rest) S D φ) : E Γ K As L v pc lv (.long a :: rest) S D φ :=
  E.lf (k _ rfl) (fun X p e s m below meth c ls A H locs Q hX hf hw hl k => lv_l2i hf.1 hf.2.1 hdg rfl (k ls hl))

theorem E.ishr {a b : Int32} (hdg : decode K.1 pc = .ok (.ishr, 1)) (k : ∀ w : Int32, E Γ K As L v (pc + 1) lv (.int w :: rest) S D φ) : E Γ K As L v pc lv (.int b :: .int a :: rest) S D φ :=
  E.lf (k _) (fun X p e s m below meth c ls A H locs Q hX hf hw hl k => lv_ishr hf.1 hf.2.1 hdg (k ls hl))
theorem E.lcmp {a b : Int64} (hdg : decode K.1 pc = .ok (.lcmp, 1)) (k : ∀ w : Int32, w = lg_cmp a b → E Γ K As L v (pc + 1) lv (.int w :: rest) S D φ) : E Γ K As L v pc lv (.long b :: .long a :: rest) S D φ :=
  E.lf (k _ rfl) (fun X p e s m below meth c ls A H locs Q hX hf hw hl k => W.lcmp hf.1 hf.2.1 hdg (k ls hl))

theorem E.dup {a : Int32} (hdg : decode K.1 pc = .ok (.dup, 1)) (k : E Γ K As L v (pc + 1) lv (.int a :: .int a :: rest) S D φ) : E Γ K As L v pc lv (.int a :: rest) S D φ :=
  E.lf k (fun X p e s m below meth c ls A H locs Q hX hf hw hl k => lv_dup hf.1 hf.2.1 hdg rfl (k ls hl))

theorem E.dupr {a : Nat} (hdg : decode K.1 pc = .ok (.dup, 1)) (k : E Γ K As L v (pc + 1) lv (.ref a :: .ref a :: rest) S D φ) : E Γ K As L v pc lv (.ref a :: rest) S D φ :=
  E.lf k (fun X p e s m below meth c ls A H locs Q hX hf hw hl k => lv_dup hf.1 hf.2.1 hdg rfl (k ls hl))

theorem E.pop {a : Int32} (hdg : decode K.1 pc = .ok (.pop, 1)) (k : E Γ K As L v (pc + 1) lv rest S D φ) : E Γ K As L v pc lv (.int a :: rest) S D φ :=
  E.lf k (fun X p e s m below meth c ls A H locs Q hX hf hw hl k => lv_pop hf.1 hf.2.1 hdg rfl (k ls hl))

theorem E.dup2 {a : Int32} {b : Nat} (hdg : decode K.1 pc = .ok (.dup2, 1)) (k : E Γ K As L v (pc + 1) lv (.int a :: .ref b :: .int a :: .ref b :: rest) S D φ) : E Γ K As L v pc lv (.int a :: .ref b :: rest) S D φ :=
  E.lf k (fun X p e s m below meth c ls A H locs Q hX hf hw hl k => lv_dup2_11 hf.1 hf.2.1 hdg rfl rfl (k ls hl))

theorem E.dup_x1 {a : Int32} {b : Nat} (hdg : decode K.1 pc = .ok (.dup_x1, 1)) (k : E Γ K As L v (pc + 1) lv (.int a :: .ref b :: .int a :: rest) S D φ) : E Γ K As L v pc lv (.int a :: .ref b :: rest) S D φ :=
  E.lf k (fun X p e s m below meth c ls A H locs Q hX hf hw hl k => lv_dup_x1 hf.1 hf.2.1 hdg rfl rfl (k ls hl))

theorem E.goto {off : Int} (hdg : decode K.1 pc = .ok (.goto off, 3)) (ht : (pc : Int) + off = (pc1 : Int)) (k : E Γ K As L v pc1 lv rest S D φ) : E Γ K As L v pc lv rest S D φ :=
  E.lf k (fun X p e s m below meth c ls A H locs Q hX hf hw hl k => lv_goto hf.1 hf.2.1 hdg ht (k ls hl))

theorem E.lookup {d : Int} {ps : Array (Int × Int)} {len : Nat} {x : Int32} {off : Int} (hdg : decode K.1 pc = .ok (.lookupswitch d ps, len)) (hp : (ps.toList.zip (ps.toList.drop 1)).all (fun (a, next) => a.1 < next.1) = true) (ho : Op.lookupswitch.offset ps.toList d x.toInt = off) (ht : (pc : Int) + off = (pc1 : Int)) (k : E Γ K As L v pc1 lv rest S D φ) : E Γ K As L v pc lv (.int x :: rest) S D φ :=
  E.lf k (fun X p e s m below meth c ls A H locs Q hX hf hw hl k => lv_lookup hf.1 hf.2.1 hdg hp ho ht (k ls hl))

theorem E.if_eq {x : Int32} {off : Int} (hdg : decode K.1 pc = .ok (.ifCond .eq off, 3)) (ht : (pc : Int) + off = (pc1 : Int)) (kt : x = 0 → x.toInt = (0 : Int) → E Γ K As L v pc1 lv rest S D φ) (kf : ¬ x = 0 → ¬ x.toInt = (0 : Int) → E Γ K As L v (pc + 3) lv rest S D φ) : E Γ K As L v pc lv (.int x :: rest) S D φ := by
  by_cases h : x = 0
  · exact E.lf (kt h (ti_eq h)) (fun X p e s m below meth c ls A H locs Q hX hf hw hl k => lv_if_eq hf.1 hf.2.1 hdg ht (fun _ => k ls hl) (fun g => absurd h g))
  · exact E.lf (kf h (ti_ne h)) (fun X p e s m below meth c ls A H locs Q hX hf hw hl k => lv_if_eq hf.1 hf.2.1 hdg ht (fun g => absurd g h) (fun _ => k ls hl))

theorem E.icmp_eq {x y : Int32} {off : Int} (hdg : decode K.1 pc = .ok (.if_icmp .eq off, 3)) (ht : (pc : Int) + off = (pc1 : Int)) (kt : x = y → x.toInt = y.toInt → E Γ K As L v pc1 lv rest S D φ) (kf : ¬ x = y → ¬ x.toInt = y.toInt → E Γ K As L v (pc + 3) lv rest S D φ) : E Γ K As L v pc lv (.int y :: .int x :: rest) S D φ := by
  by_cases h : x = y
  · exact E.lf (kt h (ti_eq h)) (fun X p e s m below meth c ls A H locs Q hX hf hw hl k => lv_icmp_eq hf.1 hf.2.1 hdg ht (fun _ => k ls hl) (fun g => absurd h g))
  · exact E.lf (kf h (ti_ne h)) (fun X p e s m below meth c ls A H locs Q hX hf hw hl k => lv_icmp_eq hf.1 hf.2.1 hdg ht (fun g => absurd g h) (fun _ => k ls hl))

theorem E.if_ne {x : Int32} {off : Int} (hdg : decode K.1 pc = .ok (.ifCond .ne off, 3)) (ht : (pc : Int) + off = (pc1 : Int)) (kt : ¬ x = 0 → ¬ x.toInt = (0 : Int) → E Γ K As L v pc1 lv rest S D φ) (kf : x = 0 → x.toInt = (0 : Int) → E Γ K As L v (pc + 3) lv rest S D φ) : E Γ K As L v pc lv (.int x :: rest) S D φ := by
  by_cases h : ¬ x = 0
  · exact E.lf (kt h (ti_ne h)) (fun X p e s m below meth c ls A H locs Q hX hf hw hl k => lv_if_ne hf.1 hf.2.1 hdg ht (fun _ => k ls hl) (fun g => absurd g h))
  · exact E.lf (kf (Decidable.not_not.mp h) (ti_eq (Decidable.not_not.mp h))) (fun X p e s m below meth c ls A H locs Q hX hf hw hl k => lv_if_ne hf.1 hf.2.1 hdg ht (fun g => absurd g h) (fun _ => k ls hl))

theorem E.icmp_ne {x y : Int32} {off : Int} (hdg : decode K.1 pc = .ok (.if_icmp .ne off, 3)) (ht : (pc : Int) + off = (pc1 : Int)) (kt : ¬ x = y → ¬ x.toInt = y.toInt → E Γ K As L v pc1 lv rest S D φ) (kf : x = y → x.toInt = y.toInt → E Γ K As L v (pc + 3) lv rest S D φ) : E Γ K As L v pc lv (.int y :: .int x :: rest) S D φ := by
  by_cases h : ¬ x = y
  · exact E.lf (kt h (ti_ne h)) (fun X p e s m below meth c ls A H locs Q hX hf hw hl k => lv_icmp_ne hf.1 hf.2.1 hdg ht (fun _ => k ls hl) (fun g => absurd g h))
  · exact E.lf (kf (Decidable.not_not.mp h) (ti_eq (Decidable.not_not.mp h))) (fun X p e s m below meth c ls A H locs Q hX hf hw hl k => lv_icmp_ne hf.1 hf.2.1 hdg ht (fun g => absurd g h) (fun _ => k ls hl))

theorem E.if_lt {x : Int32} {off : Int} (hdg : decode K.1 pc = .ok (.ifCond .lt off, 3)) (ht : (pc : Int) + off = (pc1 : Int)) (kt : x.toInt < (0 : Int) → E Γ K As L v pc1 lv rest S D φ) (kf : (0 : Int) ≤ x.toInt → E Γ K As L v (pc + 3) lv rest S D φ) : E Γ K As L v pc lv (.int x :: rest) S D φ := by
  by_cases h : x < 0
  · exact E.lf (kt (ti_lt h)) (fun X p e s m below meth c ls A H locs Q hX hf hw hl k => lv_if_lt hf.1 hf.2.1 hdg ht (fun _ => k ls hl) (fun g => absurd h g))
  · exact E.lf (kf (ti_nlt h)) (fun X p e s m below meth c ls A H locs Q hX hf hw hl k => lv_if_lt hf.1 hf.2.1 hdg ht (fun g => absurd g h) (fun _ => k ls hl))

theorem E.icmp_lt {x y : Int32} {off : Int} (hdg : decode K.1 pc = .ok (.if_icmp .lt off, 3)) (ht : (pc : Int) + off = (pc1 : Int)) (kt : x.toInt < y.toInt → E Γ K As L v pc1 lv rest S D φ) (kf : y.toInt ≤ x.toInt → E Γ K As L v (pc + 3) lv rest S D φ) : E Γ K As L v pc lv (.int y :: .int x :: rest) S D φ := by
  by_cases h : x < y
  · exact E.lf (kt (ti_lt h)) (fun X p e s m below meth c ls A H locs Q hX hf hw hl k => lv_icmp_lt hf.1 hf.2.1 hdg ht (fun _ => k ls hl) (fun g => absurd h g))
  · exact E.lf (kf (ti_nlt h)) (fun X p e s m below meth c ls A H locs Q hX hf hw hl k => lv_icmp_lt hf.1 hf.2.1 hdg ht (fun g => absurd g h) (fun _ => k ls hl))

theorem E.if_ge {x : Int32} {off : Int} (hdg : decode K.1 pc = .ok (.ifCond .ge off, 3)) (ht : (pc : Int) + off = (pc1 : Int)) (kt : (0 : Int) ≤ x.toInt → E Γ K As L v pc1 lv rest S D φ) (kf : x.toInt < (0 : Int) → E Γ K As L v (pc + 3) lv rest S D φ) : E Γ K As L v pc lv (.int x :: rest) S D φ := by
  by_cases h : 0 ≤ x
  · exact E.lf (kt (ti_le h)) (fun X p e s m below meth c ls A H locs Q hX hf hw hl k => lv_if_ge hf.1 hf.2.1 hdg ht (fun _ => k ls hl) (fun g => absurd h g))
  · exact E.lf (kf (ti_nle h)) (fun X p e s m below meth c ls A H locs Q hX hf hw hl k => lv_if_ge hf.1 hf.2.1 hdg ht (fun g => absurd g h) (fun _ => k ls hl))

theorem E.icmp_ge {x y : Int32} {off : Int} (hdg : decode K.1 pc = .ok (.if_icmp .ge off, 3)) (ht : (pc : Int) + off = (pc1 : Int)) (kt : y.toInt ≤ x.toInt → E Γ K As L v pc1 lv rest S D φ) (kf : x.toInt < y.toInt → E Γ K As L v (pc + 3) lv rest S D φ) : E Γ K As L v pc lv (.int y :: .int x :: rest) S D φ := by
  by_cases h : y ≤ x
  · exact E.lf (kt (ti_le h)) (fun X p e s m below meth c ls A H locs Q hX hf hw hl k => lv_icmp_ge hf.1 hf.2.1 hdg ht (fun _ => k ls hl) (fun g => absurd h g))
  · exact E.lf (kf (ti_nle h)) (fun X p e s m below meth c ls A H locs Q hX hf hw hl k => lv_icmp_ge hf.1 hf.2.1 hdg ht (fun g => absurd g h) (fun _ => k ls hl))

theorem E.if_gt {x : Int32} {off : Int} (hdg : decode K.1 pc = .ok (.ifCond .gt off, 3)) (ht : (pc : Int) + off = (pc1 : Int)) (kt : (0 : Int) < x.toInt → E Γ K As L v pc1 lv rest S D φ) (kf : x.toInt ≤ (0 : Int) → E Γ K As L v (pc + 3) lv rest S D φ) : E Γ K As L v pc lv (.int x :: rest) S D φ := by
  by_cases h : 0 < x
  · exact E.lf (kt (ti_lt h)) (fun X p e s m below meth c ls A H locs Q hX hf hw hl k => lv_if_gt hf.1 hf.2.1 hdg ht (fun _ => k ls hl) (fun g => absurd h g))
  · exact E.lf (kf (ti_nlt h)) (fun X p e s m below meth c ls A H locs Q hX hf hw hl k => lv_if_gt hf.1 hf.2.1 hdg ht (fun g => absurd g h) (fun _ => k ls hl))

theorem E.icmp_gt {x y : Int32} {off : Int} (hdg : decode K.1 pc = .ok (.if_icmp .gt off, 3)) (ht : (pc : Int) + off = (pc1 : Int)) (kt : y.toInt < x.toInt → E Γ K As L v pc1 lv rest S D φ) (kf : x.toInt ≤ y.toInt → E Γ K As L v (pc + 3) lv rest S D φ) : E Γ K As L v pc lv (.int y :: .int x :: rest) S D φ := by
  by_cases h : y < x
  · exact E.lf (kt (ti_lt h)) (fun X p e s m below meth c ls A H locs Q hX hf hw hl k => lv_icmp_gt hf.1 hf.2.1 hdg ht (fun _ => k ls hl) (fun g => absurd h g))
  · exact E.lf (kf (ti_nlt h)) (fun X p e s m below meth c ls A H locs Q hX hf hw hl k => lv_icmp_gt hf.1 hf.2.1 hdg ht (fun g => absurd g h) (fun _ => k ls hl))

theorem E.if_le {x : Int32} {off : Int} (hdg : decode K.1 pc = .ok (.ifCond .le off, 3)) (ht : (pc : Int) + off = (pc1 : Int)) (kt : x.toInt ≤ (0 : Int) → E Γ K As L v pc1 lv rest S D φ) (kf : (0 : Int) < x.toInt → E Γ K As L v (pc + 3) lv rest S D φ) : E Γ K As L v pc lv (.int x :: rest) S D φ := by
  by_cases h : x ≤ 0
  · exact E.lf (kt (ti_le h)) (fun X p e s m below meth c ls A H locs Q hX hf hw hl k => lv_if_le hf.1 hf.2.1 hdg ht (fun _ => k ls hl) (fun g => absurd h g))
  · exact E.lf (kf (ti_nle h)) (fun X p e s m below meth c ls A H locs Q hX hf hw hl k => lv_if_le hf.1 hf.2.1 hdg ht (fun g => absurd g h) (fun _ => k ls hl))

theorem E.icmp_le {x y : Int32} {off : Int} (hdg : decode K.1 pc = .ok (.if_icmp .le off, 3)) (ht : (pc : Int) + off = (pc1 : Int)) (kt : x.toInt ≤ y.toInt → E Γ K As L v pc1 lv rest S D φ) (kf : y.toInt < x.toInt → E Γ K As L v (pc + 3) lv rest S D φ) : E Γ K As L v pc lv (.int y :: .int x :: rest) S D φ := by
  by_cases h : x ≤ y
  · exact E.lf (kt (ti_le h)) (fun X p e s m below meth c ls A H locs Q hX hf hw hl k => lv_icmp_le hf.1 hf.2.1 hdg ht (fun _ => k ls hl) (fun g => absurd h g))
  · exact E.lf (kf (ti_nle h)) (fun X p e s m below meth c ls A H locs Q hX hf hw hl k => lv_icmp_le hf.1 hf.2.1 hdg ht (fun g => absurd g h) (fun _ => k ls hl))
theorem Ag.s {D : Dn} {S X : MX} (h : Ag D S X) (k : Nat) (hk : D.1 k) : X.1 k = S.1 k := h.1 k hk
theorem E.get (k : Nat) (hk : k < 47) (hd : D.1 k) (hlink : (Cond.fieldLink K.2.2.1 index (TX11 k).1 (TX11 k).2.1 (TX11 k).2.2.1) ∈ gtb) {w : Int32} (hv : S.1 k = w) (hdg : decode K.1 pc = .ok (.getfield index, 3))
    (kk : E Γ K As L v (pc + 3) lv (.int w :: rest) S D φ) : E Γ K As L v pc lv (.ref Γ.2.2.2.1 :: rest) S D φ :=
  E.lf kk (fun X p e s m below meth c ls A H locs Q hX hf hw hl kk => gget hf hw k hk hlink ((hX.1 k hd).trans hv) hdg (kk ls hl))
theorem E.getL (hd : D.2.1) (hlink : (Cond.fieldLink K.2.2.1 index (TX11 47).1 (TX11 47).2.1 (TX11 47).2.2.1) ∈ gtb) {w : Int64} (hv : S.2.1 = w) (hdg : decode K.1 pc = .ok (.getfield index, 3))
    (kk : E Γ K As L v (pc + 3) lv (.long w :: rest) S D φ) : E Γ K As L v pc lv (.ref Γ.2.2.2.1 :: rest) S D φ :=
  E.lf kk (fun X p e s m below meth c ls A H locs Q hX hf hw hl kk => ggetL hf hw hlink hdg (by rw [(hX.2.1 hd).trans hv]; exact kk ls hl))
theorem E.getA (i : Nat) (hi : i < 81) (hlink : (Cond.fieldLink K.2.2.1 index (TX11 (i + 48)).1 (TX11 (i + 48)).2.1 (TX11 (i + 48)).2.2.1) ∈ gtb) (hdg : decode K.1 pc = .ok (.getfield index, 3))
    (kk : E Γ K As L v (pc + 3) lv (.ref (Γ.2.2.2.2.1 i) :: rest) S D φ) : E Γ K As L v pc lv (.ref Γ.2.2.2.1 :: rest) S D φ :=
  E.lf kk (fun X p e s m below meth c ls A H locs Q hX hf hw hl kk => ggetA hf hw i hi hlink hdg (kk ls hl))
theorem Ag_ps {k : Nat} {w : Int32} {X : MX} {D1 : Dn} (hX : Ag D (σ, τ, α, β) X) (h1 : ∀ j, D1.1 j → j ≠ k → D.1 j) (h2 : D1.2 = D.2) : Ag D1 (uS σ k w, τ, α, β) (uS X.1 k w, X.2.1, X.2.2.1, X.2.2.2) := by
  refine ⟨fun j hj => ?_, ?_, ?_, ?_⟩
  · show (if j = k then w else X.1 j) = (if j = k then w else σ j)
    by_cases e : j = k
    · rw [if_pos e, if_pos e]
    · rw [if_neg e, if_neg e]; exact hX.1 j (h1 j hj e)
  · rw [h2]; exact hX.2.1
  · rw [h2]; exact hX.2.2.1
  · rw [h2]; exact hX.2.2.2
theorem offS_u {l : List Nat} {σ : Nat → Int32} {k : Nat} (hk : k ∈ l) (w : Int32) : offS l σ (uS σ k w) := offS.rf.put k hk w
theorem offA_u {T : Type} {l : List Nat} {α : Nat → Nat → T} {k : Nat} (hk : k ∈ l) (f : Nat → T) : offA l α (uA α k f) := offA.rf.put k hk f
theorem E.put (k : Nat) (hk : k < 47) (hkL : k ∈ L.1) (hlink : (Cond.fieldLink K.2.2.1 index (TX11 k).1 (TX11 k).2.1 (TX11 k).2.2.1) ∈ gtb) (hfin : (TX11 k).2.2.2 = false) {w : Int32} (hn : narrow (tyX11 k) (.int w) = .int w) (hfit : fits (tyX11 k) (.int w) = true)
    (hdg : decode K.1 pc = .ok (.putfield index, 3)) (kk : E Γ K As L v (pc + 3) lv rest (uS σ k w, τ, α, β) D φ) : E Γ K As L v pc lv (.int w :: .ref Γ.2.2.2.1 :: rest) (σ, τ, α, β) D φ :=
  E.lift (S1 := (uS σ k w, τ, α, β)) (D1 := D) (fun X => (uS X.1 k w, X.2.1, X.2.2.1, X.2.2.2)) ⟨offS_u hkL w, fun _ => rfl, offA.rf, offA.rf⟩ Dle.rf (fun X hX => ⟨Ag_ps hX (fun j hj _ => hj) rfl, offS_u hkL w, fun _ => rfl, offA.rf, offA.rf⟩) kk
    (fun X p e s m below meth c ls A H locs Q hX hf hw hl kk => gput hf hw k hk hlink hfin hn hfit hdg (fun H1 locs1 hw1 => kk ls H1 locs1 hw1 hl))
theorem E.putN (k : Nat) (hk : k < 47) (hkL : k ∈ L.1) (hlink : (Cond.fieldLink K.2.2.1 index (TX11 k).1 (TX11 k).2.1 (TX11 k).2.2.1) ∈ gtb) (hfin : (TX11 k).2.2.2 = false) {w : Int32} (hn : narrow (tyX11 k) (.int w) = .int w) (hfit : fits (tyX11 k) (.int w) = true)
    (hdg : decode K.1 pc = .ok (.putfield index, 3)) (kk : ∀ D1 : Dn, Dle D D1 → D1.1 k → E Γ K As L v (pc + 3) lv rest (uS σ k w, τ, α, β) D1 φ) : E Γ K As L v pc lv (.int w :: .ref Γ.2.2.2.1 :: rest) (σ, τ, α, β) D φ :=
  E.lift (S1 := (uS σ k w, τ, α, β)) (D1 := (fun j => j = k ∨ D.1 j, D.2)) (fun X => (uS X.1 k w, X.2.1, X.2.2.1, X.2.2.2)) ⟨offS_u hkL w, fun _ => rfl, offA.rf, offA.rf⟩ ⟨fun _ h => Or.inr h, fun h => h, fun _ _ h => h, fun _ _ h => h⟩ (fun X hX => ⟨Ag_ps hX (fun j hj e => hj.resolve_left e) rfl, offS_u hkL w, fun _ => rfl, offA.rf, offA.rf⟩) (kk (fun j => j = k ∨ D.1 j, D.2) ⟨fun _ h => Or.inr h, fun h => h, fun _ _ h => h, fun _ _ h => h⟩ (Or.inl rfl))
    (fun X p e s m below meth c ls A H locs Q hX hf hw hl kk => gput hf hw k hk hlink hfin hn hfit hdg (fun H1 locs1 hw1 => kk ls H1 locs1 hw1 hl))
theorem E.putL (hkL : L.2.1 = true) (hlink : (Cond.fieldLink K.2.2.1 index (TX11 47).1 (TX11 47).2.1 (TX11 47).2.2.1) ∈ gtb) {w : Int64}
    (hdg : decode K.1 pc = .ok (.putfield index, 3)) (kk : E Γ K As L v (pc + 3) lv rest (σ, w, α, β) (D.1, True, D.2.2) φ) : E Γ K As L v pc lv (.long w :: .ref Γ.2.2.2.1 :: rest) (σ, τ, α, β) D φ :=
  E.lift (S1 := (σ, w, α, β)) (D1 := (D.1, True, D.2.2)) (fun X => (X.1, w, X.2.2.1, X.2.2.2)) ⟨offS.rf, fun h => absurd (hkL.symm.trans h) (by decide), offA.rf, offA.rf⟩ ⟨fun _ h => h, fun _ => trivial, fun _ _ h => h, fun _ _ h => h⟩ (fun X hX => ⟨⟨hX.1, fun _ => rfl, hX.2.2.1, hX.2.2.2⟩, offS.rf, fun h => absurd (hkL.symm.trans h) (by decide), offA.rf, offA.rf⟩) kk
    (fun X p e s m below meth c ls A H locs Q hX hf hw hl kk => gputL hf hw hlink hdg (fun H1 locs1 hw1 => kk ls H1 locs1 hw1 hl))
theorem E.putLN (hkL : L.2.1 = true) (hlink : (Cond.fieldLink K.2.2.1 index (TX11 47).1 (TX11 47).2.1 (TX11 47).2.2.1) ∈ gtb) {w : Int64}
    (hdg : decode K.1 pc = .ok (.putfield index, 3)) (kk : ∀ D1 : Dn, Dle D D1 → D1.2.1 → E Γ K As L v (pc + 3) lv rest (σ, w, α, β) D1 φ) : E Γ K As L v pc lv (.long w :: .ref Γ.2.2.2.1 :: rest) (σ, τ, α, β) D φ :=
  E.putL hkL hlink hdg (kk _ ⟨fun _ h => h, fun _ => trivial, fun _ _ h => h, fun _ _ h => h⟩ trivial)
theorem Ag_pa {i x : Nat} {w : Int32} {X : MX} {D1 : Dn} (hX : Ag D (σ, τ, α, β) X) (h0 : D1.1 = D.1) (h2 : D1.2.1 = D.2.1) (h3 : ∀ i' j, D1.2.2.1 i' j → (i' = i ∧ j = x) ∨ D.2.2.1 i' j) (h4 : D1.2.2.2 = D.2.2.2) : Ag D1 (σ, τ, uA α i (upd (α i) x w), β) (X.1, X.2.1, uA X.2.2.1 i (upd (X.2.2.1 i) x w), X.2.2.2) := by
  refine ⟨?_, ?_, fun i' j hj => ?_, ?_⟩
  · rw [h0]; exact hX.1
  · rw [h2]; exact hX.2.1
  · show (if i' = i then upd (X.2.2.1 i) x w else X.2.2.1 i') j = (if i' = i then upd (α i) x w else α i') j
    by_cases e : i' = i
    · rw [if_pos e, if_pos e]
      show (if j = x then w else X.2.2.1 i j) = (if j = x then w else α i j)
      by_cases e2 : j = x
      · rw [if_pos e2, if_pos e2]
      · rw [if_neg e2, if_neg e2]
        rcases h3 i' j hj with q | q
        · exact absurd q.2 e2
        · rw [e] at q; exact hX.2.2.1 i j q
    · rw [if_neg e, if_neg e]
      rcases h3 i' j hj with q | q
      · exact absurd q.1 e
      · exact hX.2.2.1 i' j q
  · rw [h4]; exact hX.2.2.2
theorem Ag_pb {i x : Nat} {w : Int64} {X : MX} {D1 : Dn} (hX : Ag D (σ, τ, α, β) X) (h0 : D1.1 = D.1) (h2 : D1.2.1 = D.2.1) (h3 : D1.2.2.1 = D.2.2.1) (h4 : ∀ i' j, D1.2.2.2 i' j → (i' = i ∧ j = x) ∨ D.2.2.2 i' j) : Ag D1 (σ, τ, α, uA β i (vp_updL (β i) x w)) (X.1, X.2.1, X.2.2.1, uA X.2.2.2 i (vp_updL (X.2.2.2 i) x w)) := by
  refine ⟨?_, ?_, ?_, fun i' j hj => ?_⟩
  · rw [h0]; exact hX.1
  · rw [h2]; exact hX.2.1
  · rw [h3]; exact hX.2.2.1
  · show (if i' = i then vp_updL (X.2.2.2 i) x w else X.2.2.2 i') j = (if i' = i then vp_updL (β i) x w else β i') j
    by_cases e : i' = i
    · rw [if_pos e, if_pos e]
      show (if j = x then w else X.2.2.2 i j) = (if j = x then w else β i j)
      by_cases e2 : j = x
      · rw [if_pos e2, if_pos e2]
      · rw [if_neg e2, if_neg e2]
        rcases h4 i' j hj with q | q
        · exact absurd q.2 e2
        · rw [e] at q; exact hX.2.2.2 i j q
    · rw [if_neg e, if_neg e]
      rcases h4 i' j hj with q | q
      · exact absurd q.1 e
      · exact hX.2.2.2 i' j q
def Da (D : Dn) (i x : Nat) : Dn := (D.1, D.2.1, fun i' j => (i' = i ∧ j = x) ∨ D.2.2.1 i' j, D.2.2.2)
theorem Da_le {i x : Nat} : Dle D (Da D i x) := ⟨fun _ h => h, fun h => h, fun _ _ h => Or.inr h, fun _ _ h => h⟩
def Db (D : Dn) (i x : Nat) : Dn := (D.1, D.2.1, D.2.2.1, fun i' j => (i' = i ∧ j = x) ∨ D.2.2.2 i' j)
theorem Db_le {i x : Nat} : Dle D (Db D i x) := ⟨fun _ h => h, fun h => h, fun _ _ h => h, fun _ _ h => Or.inr h⟩

theorem E.ild (i : Nat) (hi : i < 81) (ht : eM i = .int) {n : Nat} (hz : zM i = n) (hlg : lM i = false) {x : Int32} (hx : 0 ≤ x.toInt ∧ x.toInt < n) (hd : D.2.2.1 i x.toNatClampNeg) (hdg : decode K.1 pc = .ok (.iaload, 1))
    (kk : ∀ w : Int32, w = S.2.2.1 i x.toNatClampNeg → E Γ K As L v (pc + 1) lv (.int w :: rest) S D φ) : E Γ K As L v pc lv (.int x :: .ref (Γ.2.2.2.2.1 i) :: rest) S D φ :=
  E.lf (kk _ rfl) (fun X p e s m below meth c ls A H locs Q hX hf hw hl kk => gild hf hw i hi ht (n := n) (f := X.2.2.1 i) (by unfold avM; rw [hz, hlg]; rfl) (ti_in hx.1 hx.2) hdg (by rw [hX.2.2.1 i _ hd]; exact kk ls hl))
theorem E.ildL (i : Nat) (hi : i < 81) (ht : eM i = .int) {n : Nat} (hz : zM i = n) (hlg : lM i = false) {is : List Nat} {N : Int} (hD : LV D is N) (hm : i ∈ is) {x : Int32} (hx : 0 ≤ x.toInt ∧ x.toInt < n ∧ x.toInt < N) (hdg : decode K.1 pc = .ok (.iaload, 1))
    (kk : ∀ w : Int32, w = S.2.2.1 i x.toNatClampNeg → E Γ K As L v (pc + 1) lv (.int w :: rest) S D φ) : E Γ K As L v pc lv (.int x :: .ref (Γ.2.2.2.2.1 i) :: rest) S D φ :=
  E.ild i hi ht hz hlg ⟨hx.1, hx.2.1⟩ (hD.at hm hx.1 hx.2.2) hdg kk
theorem E.ist (i : Nat) (hi : i < 81) (ht : eM i = .int) {n : Nat} (hz : zM i = n) (hlg : lM i = false) (hiL : i ∈ L.2.2.1) {x w : Int32} (hx : 0 ≤ x.toInt ∧ x.toInt < n) (hdg : decode K.1 pc = .ok (.iastore, 1))
    (kk : E Γ K As L v (pc + 1) lv rest (σ, τ, uA α i (upd (α i) x.toNatClampNeg w), β) D φ) : E Γ K As L v pc lv (.int w :: .int x :: .ref (Γ.2.2.2.2.1 i) :: rest) (σ, τ, α, β) D φ :=
  E.lift (S1 := (σ, τ, uA α i (upd (α i) x.toNatClampNeg w), β)) (D1 := D) (fun X => (X.1, X.2.1, uA X.2.2.1 i (upd (X.2.2.1 i) x.toNatClampNeg w), X.2.2.2)) ⟨offS.rf, fun _ => rfl, offA_u hiL _, offA.rf⟩ Dle.rf (fun X hX => ⟨Ag_pa hX rfl rfl (fun _ _ h => Or.inr h) rfl, offS.rf, fun _ => rfl, offA_u hiL _, offA.rf⟩) kk
    (fun X p e s m below meth c ls A H locs Q hX hf hw hl kk => gist hf hw i hi ht (n := n) (f := X.2.2.1 i) (by unfold avM; rw [hz, hlg]; rfl) hz hlg (ti_in hx.1 hx.2) hdg (fun H1 locs1 hw1 => kk ls H1 locs1 hw1 hl))
theorem E.istN (i : Nat) (hi : i < 81) (ht : eM i = .int) {n : Nat} (hz : zM i = n) (hlg : lM i = false) (hiL : i ∈ L.2.2.1) {x w : Int32} (hx : 0 ≤ x.toInt ∧ x.toInt < n) (hdg : decode K.1 pc = .ok (.iastore, 1))
    (kk : ∀ D1 : Dn, Dle D D1 → D1.2.2.1 i x.toNatClampNeg → E Γ K As L v (pc + 1) lv rest (σ, τ, uA α i (upd (α i) x.toNatClampNeg w), β) D1 φ) : E Γ K As L v pc lv (.int w :: .int x :: .ref (Γ.2.2.2.2.1 i) :: rest) (σ, τ, α, β) D φ :=
  E.lift (S1 := (σ, τ, uA α i (upd (α i) x.toNatClampNeg w), β)) (D1 := Da D i x.toNatClampNeg) (fun X => (X.1, X.2.1, uA X.2.2.1 i (upd (X.2.2.1 i) x.toNatClampNeg w), X.2.2.2)) ⟨offS.rf, fun _ => rfl, offA_u hiL _, offA.rf⟩ Da_le (fun X hX => ⟨Ag_pa hX rfl rfl (fun _ _ h => h) rfl, offS.rf, fun _ => rfl, offA_u hiL _, offA.rf⟩) (kk (Da D i x.toNatClampNeg) Da_le (Or.inl ⟨rfl, rfl⟩))
    (fun X p e s m below meth c ls A H locs Q hX hf hw hl kk => gist hf hw i hi ht (n := n) (f := X.2.2.1 i) (by unfold avM; rw [hz, hlg]; rfl) hz hlg (ti_in hx.1 hx.2) hdg (fun H1 locs1 hw1 => kk ls H1 locs1 hw1 hl))

theorem E.bld (i : Nat) (hi : i < 81) (ht : eM i = .byte) {n : Nat} (hz : zM i = n) (hlg : lM i = false) {x : Int32} (hx : 0 ≤ x.toInt ∧ x.toInt < n) (hd : D.2.2.1 i x.toNatClampNeg) (hdg : decode K.1 pc = .ok (.baload, 1))
    (kk : ∀ w : Int32, w = S.2.2.1 i x.toNatClampNeg → E Γ K As L v (pc + 1) lv (.int w :: rest) S D φ) : E Γ K As L v pc lv (.int x :: .ref (Γ.2.2.2.2.1 i) :: rest) S D φ :=
  E.lf (kk _ rfl) (fun X p e s m below meth c ls A H locs Q hX hf hw hl kk => gbld hf hw i hi ht (n := n) (f := X.2.2.1 i) (by unfold avM; rw [hz, hlg]; rfl) (ti_in hx.1 hx.2) hdg (by rw [hX.2.2.1 i _ hd]; exact kk ls hl))
theorem E.bldL (i : Nat) (hi : i < 81) (ht : eM i = .byte) {n : Nat} (hz : zM i = n) (hlg : lM i = false) {is : List Nat} {N : Int} (hD : LV D is N) (hm : i ∈ is) {x : Int32} (hx : 0 ≤ x.toInt ∧ x.toInt < n ∧ x.toInt < N) (hdg : decode K.1 pc = .ok (.baload, 1))
    (kk : ∀ w : Int32, w = S.2.2.1 i x.toNatClampNeg → E Γ K As L v (pc + 1) lv (.int w :: rest) S D φ) : E Γ K As L v pc lv (.int x :: .ref (Γ.2.2.2.2.1 i) :: rest) S D φ :=
  E.bld i hi ht hz hlg ⟨hx.1, hx.2.1⟩ (hD.at hm hx.1 hx.2.2) hdg kk
theorem E.bst (i : Nat) (hi : i < 81) (ht : eM i = .byte) {n : Nat} (hz : zM i = n) (hlg : lM i = false) (hiL : i ∈ L.2.2.1) {x w : Int32} (hx : 0 ≤ x.toInt ∧ x.toInt < n) (hdg : decode K.1 pc = .ok (.bastore, 1))
    (kk : E Γ K As L v (pc + 1) lv rest (σ, τ, uA α i (upd (α i) x.toNatClampNeg (vp_nar .byte w)), β) D φ) : E Γ K As L v pc lv (.int w :: .int x :: .ref (Γ.2.2.2.2.1 i) :: rest) (σ, τ, α, β) D φ :=
  E.lift (S1 := (σ, τ, uA α i (upd (α i) x.toNatClampNeg (vp_nar .byte w)), β)) (D1 := D) (fun X => (X.1, X.2.1, uA X.2.2.1 i (upd (X.2.2.1 i) x.toNatClampNeg (vp_nar .byte w)), X.2.2.2)) ⟨offS.rf, fun _ => rfl, offA_u hiL _, offA.rf⟩ Dle.rf (fun X hX => ⟨Ag_pa hX rfl rfl (fun _ _ h => Or.inr h) rfl, offS.rf, fun _ => rfl, offA_u hiL _, offA.rf⟩) kk
    (fun X p e s m below meth c ls A H locs Q hX hf hw hl kk => gbst hf hw i hi ht (n := n) (f := X.2.2.1 i) (by unfold avM; rw [hz, hlg]; rfl) hz hlg (ti_in hx.1 hx.2) hdg (fun H1 locs1 hw1 => kk ls H1 locs1 hw1 hl))
theorem E.bstN (i : Nat) (hi : i < 81) (ht : eM i = .byte) {n : Nat} (hz : zM i = n) (hlg : lM i = false) (hiL : i ∈ L.2.2.1) {x w : Int32} (hx : 0 ≤ x.toInt ∧ x.toInt < n) (hdg : decode K.1 pc = .ok (.bastore, 1))
    (kk : ∀ D1 : Dn, Dle D D1 → D1.2.2.1 i x.toNatClampNeg → E Γ K As L v (pc + 1) lv rest (σ, τ, uA α i (upd (α i) x.toNatClampNeg (vp_nar .byte w)), β) D1 φ) : E Γ K As L v pc lv (.int w :: .int x :: .ref (Γ.2.2.2.2.1 i) :: rest) (σ, τ, α, β) D φ :=
  E.lift (S1 := (σ, τ, uA α i (upd (α i) x.toNatClampNeg (vp_nar .byte w)), β)) (D1 := Da D i x.toNatClampNeg) (fun X => (X.1, X.2.1, uA X.2.2.1 i (upd (X.2.2.1 i) x.toNatClampNeg (vp_nar .byte w)), X.2.2.2)) ⟨offS.rf, fun _ => rfl, offA_u hiL _, offA.rf⟩ Da_le (fun X hX => ⟨Ag_pa hX rfl rfl (fun _ _ h => h) rfl, offS.rf, fun _ => rfl, offA_u hiL _, offA.rf⟩) (kk (Da D i x.toNatClampNeg) Da_le (Or.inl ⟨rfl, rfl⟩))
    (fun X p e s m below meth c ls A H locs Q hX hf hw hl kk => gbst hf hw i hi ht (n := n) (f := X.2.2.1 i) (by unfold avM; rw [hz, hlg]; rfl) hz hlg (ti_in hx.1 hx.2) hdg (fun H1 locs1 hw1 => kk ls H1 locs1 hw1 hl))

theorem E.zld (i : Nat) (hi : i < 81) (ht : eM i = .boolean) {n : Nat} (hz : zM i = n) (hlg : lM i = false) {x : Int32} (hx : 0 ≤ x.toInt ∧ x.toInt < n) (hd : D.2.2.1 i x.toNatClampNeg) (hdg : decode K.1 pc = .ok (.baload, 1))
    (kk : ∀ w : Int32, w = S.2.2.1 i x.toNatClampNeg → E Γ K As L v (pc + 1) lv (.int w :: rest) S D φ) : E Γ K As L v pc lv (.int x :: .ref (Γ.2.2.2.2.1 i) :: rest) S D φ :=
  E.lf (kk _ rfl) (fun X p e s m below meth c ls A H locs Q hX hf hw hl kk => gzld hf hw i hi ht (n := n) (f := X.2.2.1 i) (by unfold avM; rw [hz, hlg]; rfl) (ti_in hx.1 hx.2) hdg (by rw [hX.2.2.1 i _ hd]; exact kk ls hl))
theorem E.zldL (i : Nat) (hi : i < 81) (ht : eM i = .boolean) {n : Nat} (hz : zM i = n) (hlg : lM i = false) {is : List Nat} {N : Int} (hD : LV D is N) (hm : i ∈ is) {x : Int32} (hx : 0 ≤ x.toInt ∧ x.toInt < n ∧ x.toInt < N) (hdg : decode K.1 pc = .ok (.baload, 1))
    (kk : ∀ w : Int32, w = S.2.2.1 i x.toNatClampNeg → E Γ K As L v (pc + 1) lv (.int w :: rest) S D φ) : E Γ K As L v pc lv (.int x :: .ref (Γ.2.2.2.2.1 i) :: rest) S D φ :=
  E.zld i hi ht hz hlg ⟨hx.1, hx.2.1⟩ (hD.at hm hx.1 hx.2.2) hdg kk
theorem E.zst (i : Nat) (hi : i < 81) (ht : eM i = .boolean) {n : Nat} (hz : zM i = n) (hlg : lM i = false) (hiL : i ∈ L.2.2.1) {x w : Int32} (hx : 0 ≤ x.toInt ∧ x.toInt < n) (hdg : decode K.1 pc = .ok (.bastore, 1))
    (kk : E Γ K As L v (pc + 1) lv rest (σ, τ, uA α i (upd (α i) x.toNatClampNeg (vp_nar .boolean w)), β) D φ) : E Γ K As L v pc lv (.int w :: .int x :: .ref (Γ.2.2.2.2.1 i) :: rest) (σ, τ, α, β) D φ :=
  E.lift (S1 := (σ, τ, uA α i (upd (α i) x.toNatClampNeg (vp_nar .boolean w)), β)) (D1 := D) (fun X => (X.1, X.2.1, uA X.2.2.1 i (upd (X.2.2.1 i) x.toNatClampNeg (vp_nar .boolean w)), X.2.2.2)) ⟨offS.rf, fun _ => rfl, offA_u hiL _, offA.rf⟩ Dle.rf (fun X hX => ⟨Ag_pa hX rfl rfl (fun _ _ h => Or.inr h) rfl, offS.rf, fun _ => rfl, offA_u hiL _, offA.rf⟩) kk
    (fun X p e s m below meth c ls A H locs Q hX hf hw hl kk => gzst hf hw i hi ht (n := n) (f := X.2.2.1 i) (by unfold avM; rw [hz, hlg]; rfl) hz hlg (ti_in hx.1 hx.2) hdg (fun H1 locs1 hw1 => kk ls H1 locs1 hw1 hl))
theorem E.zstN (i : Nat) (hi : i < 81) (ht : eM i = .boolean) {n : Nat} (hz : zM i = n) (hlg : lM i = false) (hiL : i ∈ L.2.2.1) {x w : Int32} (hx : 0 ≤ x.toInt ∧ x.toInt < n) (hdg : decode K.1 pc = .ok (.bastore, 1))
    (kk : ∀ D1 : Dn, Dle D D1 → D1.2.2.1 i x.toNatClampNeg → E Γ K As L v (pc + 1) lv rest (σ, τ, uA α i (upd (α i) x.toNatClampNeg (vp_nar .boolean w)), β) D1 φ) : E Γ K As L v pc lv (.int w :: .int x :: .ref (Γ.2.2.2.2.1 i) :: rest) (σ, τ, α, β) D φ :=
  E.lift (S1 := (σ, τ, uA α i (upd (α i) x.toNatClampNeg (vp_nar .boolean w)), β)) (D1 := Da D i x.toNatClampNeg) (fun X => (X.1, X.2.1, uA X.2.2.1 i (upd (X.2.2.1 i) x.toNatClampNeg (vp_nar .boolean w)), X.2.2.2)) ⟨offS.rf, fun _ => rfl, offA_u hiL _, offA.rf⟩ Da_le (fun X hX => ⟨Ag_pa hX rfl rfl (fun _ _ h => h) rfl, offS.rf, fun _ => rfl, offA_u hiL _, offA.rf⟩) (kk (Da D i x.toNatClampNeg) Da_le (Or.inl ⟨rfl, rfl⟩))
    (fun X p e s m below meth c ls A H locs Q hX hf hw hl kk => gzst hf hw i hi ht (n := n) (f := X.2.2.1 i) (by unfold avM; rw [hz, hlg]; rfl) hz hlg (ti_in hx.1 hx.2) hdg (fun H1 locs1 hw1 => kk ls H1 locs1 hw1 hl))

theorem E.lldL (i : Nat) (hi : i < 81) (ht : eM i = .long) {n : Nat} (hz : zM i = n) (hlg : lM i = true) {is : List Nat} {N : Int} (hD : LVb D is N) (hm : i ∈ is) {x : Int32} (hx : 0 ≤ x.toInt ∧ x.toInt < n ∧ x.toInt < N) (hdg : decode K.1 pc = .ok (.laload, 1))
    (kk : ∀ w : Int64, w = S.2.2.2 i x.toNatClampNeg → E Γ K As L v (pc + 1) lv (.long w :: rest) S D φ) : E Γ K As L v pc lv (.int x :: .ref (Γ.2.2.2.2.1 i) :: rest) S D φ :=
  E.lf (kk _ rfl) (fun X p e s m below meth c ls A H locs Q hX hf hw hl kk => glld hf hw i hi ht (n := n) (f := X.2.2.2 i) (by unfold avM; rw [hz, hlg]; rfl) (ti_in hx.1 hx.2.1) hdg (by rw [hX.2.2.2 i _ (hD.at hm hx.1 hx.2.2)]; exact kk ls hl))
theorem E.lst (i : Nat) (hi : i < 81) (ht : eM i = .long) {n : Nat} (hz : zM i = n) (hlg : lM i = true) (hiL : i ∈ L.2.2.2) {x : Int32} {w : Int64} (hx : 0 ≤ x.toInt ∧ x.toInt < n) (hdg : decode K.1 pc = .ok (.lastore, 1))
    (kk : E Γ K As L v (pc + 1) lv rest (σ, τ, α, uA β i (vp_updL (β i) x.toNatClampNeg w)) D φ) : E Γ K As L v pc lv (.long w :: .int x :: .ref (Γ.2.2.2.2.1 i) :: rest) (σ, τ, α, β) D φ :=
  E.lift (S1 := (σ, τ, α, uA β i (vp_updL (β i) x.toNatClampNeg w))) (D1 := D) (fun X => (X.1, X.2.1, X.2.2.1, uA X.2.2.2 i (vp_updL (X.2.2.2 i) x.toNatClampNeg w))) ⟨offS.rf, fun _ => rfl, offA.rf, offA_u hiL _⟩ Dle.rf (fun X hX => ⟨Ag_pb hX rfl rfl rfl (fun _ _ h => Or.inr h), offS.rf, fun _ => rfl, offA.rf, offA_u hiL _⟩) kk
    (fun X p e s m below meth c ls A H locs Q hX hf hw hl kk => glst hf hw i hi ht (n := n) (f := X.2.2.2 i) (by unfold avM; rw [hz, hlg]; rfl) hz hlg (ti_in hx.1 hx.2) hdg (fun H1 locs1 hw1 => kk ls H1 locs1 hw1 hl))
theorem E.lstN (i : Nat) (hi : i < 81) (ht : eM i = .long) {n : Nat} (hz : zM i = n) (hlg : lM i = true) (hiL : i ∈ L.2.2.2) {x : Int32} {w : Int64} (hx : 0 ≤ x.toInt ∧ x.toInt < n) (hdg : decode K.1 pc = .ok (.lastore, 1))
    (kk : ∀ D1 : Dn, Dle D D1 → D1.2.2.2 i x.toNatClampNeg → E Γ K As L v (pc + 1) lv rest (σ, τ, α, uA β i (vp_updL (β i) x.toNatClampNeg w)) D1 φ) : E Γ K As L v pc lv (.long w :: .int x :: .ref (Γ.2.2.2.2.1 i) :: rest) (σ, τ, α, β) D φ :=
  E.lift (S1 := (σ, τ, α, uA β i (vp_updL (β i) x.toNatClampNeg w))) (D1 := Db D i x.toNatClampNeg) (fun X => (X.1, X.2.1, X.2.2.1, uA X.2.2.2 i (vp_updL (X.2.2.2 i) x.toNatClampNeg w))) ⟨offS.rf, fun _ => rfl, offA.rf, offA_u hiL _⟩ Db_le (fun X hX => ⟨Ag_pb hX rfl rfl rfl (fun _ _ h => h), offS.rf, fun _ => rfl, offA.rf, offA_u hiL _⟩) (kk (Db D i x.toNatClampNeg) Db_le (Or.inl ⟨rfl, rfl⟩))
    (fun X p e s m below meth c ls A H locs Q hX hf hw hl kk => glst hf hw i hi ht (n := n) (f := X.2.2.2 i) (by unfold avM; rw [hz, hlg]; rfl) hz hlg (ti_in hx.1 hx.2) hdg (fun H1 locs1 hw1 => kk ls H1 locs1 hw1 hl))

theorem E.call_i (hM : MCE Γ y K1 As1 L1 false S D φ1) (hk : KA y K1.1 K1.2.1 K1.2.2.2.1 n) (hv : KV y) (hcl : classes[9]? = some (y.cls, TX11, 129)) (hlink : Cond.methodLink K.2.2.1 index y ∈ gtb) (hst : st0 = As1.reverse ++ .ref Γ.2.2.2.1 :: rest) (hn : As1.length = n) (hrc : K1.2.2.2.2.cells = 0) (hrs : K1.2.2.2.2.slots = 0) (hR : K1.2.2.2.2.frames + 1 ≤ K.2.2.2.2.frames ∧ 8 + (K1.2.1 + 11) + K1.2.2.2.2.locals ≤ K.2.2.2.2.locals) (hcat : (rest.map fun v => v.category).sum ≤ 8) (hL : Lle L1 L) (hdg : decode K.1 pc = .ok (.invokevirtual index, 3))
    (kk : ∀ (r : Int32) (S1 : MX) (D1 : Dn), Fr L1 S S1 → Dle D D1 → φ1 r S1 D1 → E Γ K As L v (pc + 3) lv (.int r :: rest) S1 D1 φ) : E Γ K As L v pc lv st0 S D φ := by
  obtain ⟨r1, S1, D1, f1, d1, p1, h1⟩ := hM
  obtain ⟨r, S', D', fr, dl, hp, h⟩ := kk r1 S1 D1 f1 d1 p1
  refine ⟨r, S', D', (f1.mo hL).tr fr, d1.tr dl, hp, ?_⟩
  intro X0 X hX0 hX p e s m below meth c ls A H locs hf hret hlk hw hl
  refine gcall_i hf hw (h1 X H.size hX) hk hv hcl hlink hst hn hl.1 hrc hrs hR hcat ⟨Nat.zero_le _, Nat.zero_le _⟩ hdg (fun r' x hx H1 locs1 hw1 => ?_)
  obtain ⟨e1, ag, f2⟩ := hx
  have e2 : r' = r1 := e1 rfl
  subst e2
  exact h X0 x (hX0.tr (f2.mo hL)) ag p e s m below meth c ls A H1 locs1 hf hret hlk hw1 hl
theorem E.call_v (hM : MCE Γ y K1 As1 L1 true S D φ1) (hk : KA y K1.1 K1.2.1 none n) (hv : KV y) (hcl : classes[9]? = some (y.cls, TX11, 129)) (hlink : Cond.methodLink K.2.2.1 index y ∈ gtb) (hst : st0 = As1.reverse ++ .ref Γ.2.2.2.1 :: rest) (hn : As1.length = n) (hrc : K1.2.2.2.2.cells = 0) (hrs : K1.2.2.2.2.slots = 0) (hR : K1.2.2.2.2.frames + 1 ≤ K.2.2.2.2.frames ∧ 8 + (K1.2.1 + 11) + K1.2.2.2.2.locals ≤ K.2.2.2.2.locals) (hcat : (rest.map fun v => v.category).sum ≤ 8) (hL : Lle L1 L) (hdg : decode K.1 pc = .ok (.invokevirtual index, 3))
    (kk : ∀ (S1 : MX) (D1 : Dn), Fr L1 S S1 → Dle D D1 → (∃ r, φ1 r S1 D1) → E Γ K As L v (pc + 3) lv rest S1 D1 φ) : E Γ K As L v pc lv st0 S D φ := by
  obtain ⟨r1, S1, D1, f1, d1, p1, h1⟩ := hM
  obtain ⟨r, S', D', fr, dl, hp, h⟩ := kk S1 D1 f1 d1 ⟨r1, p1⟩
  refine ⟨r, S', D', (f1.mo hL).tr fr, d1.tr dl, hp, ?_⟩
  intro X0 X hX0 hX p e s m below meth c ls A H locs hf hret hlk hw hl
  refine gcall_v hf hw (h1 X H.size hX) hk hv hcl hlink hst hn hl.1 hrc hrs hR hcat ⟨Nat.zero_le _, Nat.zero_le _⟩ hdg (fun x hx H1 locs1 hw1 => ?_)
  obtain ⟨-, ag, f2⟩ := hx
  exact h X0 x (hX0.tr (f2.mo hL)) ag p e s m below meth c ls A H1 locs1 hf hret hlk hw1 hl
theorem E.call_p (hM : MCE Γ y K1 As1 L1 false S D φ1) (hk : KA y K1.1 K1.2.1 K1.2.2.2.1 n) (hv : KV y) (hcl : classes[9]? = some (y.cls, TX11, 129)) (hlink : Cond.methodLink K.2.2.1 index y ∈ gtb) (hst : st0 = As1.reverse ++ .ref Γ.2.2.2.1 :: rest) (hn : As1.length = n) (hrc : K1.2.2.2.2.cells = 0) (hrs : K1.2.2.2.2.slots = 0) (hR : K1.2.2.2.2.frames + 1 ≤ K.2.2.2.2.frames ∧ 8 + (K1.2.1 + 11) + K1.2.2.2.2.locals ≤ K.2.2.2.2.locals) (hcat : (rest.map fun v => v.category).sum ≤ 8) (hL : L1 = ([], false, [], [])) (hdg : decode K.1 pc = .ok (.invokevirtual index, 3))
    (kk : ∀ (r : Int32), (∃ D1, φ1 r S D1) → E Γ K As L v (pc + 3) lv (.int r :: rest) S D φ) : E Γ K As L v pc lv st0 S D φ := by
  subst hL
  obtain ⟨r1, S1, D1, f1, d1, p1, h1⟩ := hM
  have e1 : S1 = S := Prod.ext (offS_nil f1.1) (Prod.ext (f1.2.1 rfl) (Prod.ext (offA_nil f1.2.2.1) (offA_nil f1.2.2.2)))
  subst e1
  obtain ⟨r, S', D', fr, dl, hp, h⟩ := kk r1 ⟨D1, p1⟩
  refine ⟨r, S', D', fr, dl, hp, ?_⟩
  intro X0 X hX0 hX p e s m below meth c ls A H locs hf hret hlk hw hl
  refine gcall_i hf hw (h1 X H.size hX) hk hv hcl hlink hst hn hl.1 hrc hrs hR hcat ⟨Nat.zero_le _, Nat.zero_le _⟩ hdg (fun r' x hx H1 locs1 hw1 => ?_)
  obtain ⟨e1, ag, f2⟩ := hx
  have e2 : r' = r1 := e1 rfl
  subst e2
  have e3 : x = X := Prod.ext (offS_nil f2.1) (Prod.ext (f2.2.1 rfl) (Prod.ext (offA_nil f2.2.2.1) (offA_nil f2.2.2.2)))
  subst e3
  exact h X0 x hX0 hX p e s m below meth c ls A H1 locs1 hf hret hlk hw1 hl
theorem E.pcall {bytes : ByteArray} {maxL : Nat} {ret : Option FieldType} {rm : Room} {w : Int32} (hM : ∀ sz : Nat, PCi Γ.1 Γ.2.1 Γ.2.2.1 y bytes maxL ret rm As1 (fun r => r = w) sz) (hk : KA y bytes maxL ret n) (hv : Cond.static y ∈ gtb) (hlink : Cond.methodLink K.2.2.1 index y ∈ gtb) (hst : st0 = As1.reverse ++ rest) (hn : As1.length = n) (hrc : rm.cells = 0) (hrs : rm.slots = 0) (hR : rm.frames + 1 ≤ K.2.2.2.2.frames ∧ 8 + (maxL + 11) + rm.locals ≤ K.2.2.2.2.locals) (hcat : (rest.map fun v => v.category).sum ≤ 8) (hdg : decode K.1 pc = .ok (.invokestatic index, 3))
    (kk : ∀ r : Int32, r = w → E Γ K As L v (pc + 3) lv (.int r :: rest) S D φ) : E Γ K As L v pc lv st0 S D φ :=
  E.lift (S1 := S) (D1 := D) (fun X => X) Fr.rf Dle.rf (fun X hX => ⟨hX, Fr.rf⟩) (kk _ rfl) (fun X p e s m below meth c ls A H locs Q hX hf hw hl k => pcall_i hf hw (hM H.size) hk hv hlink hst hn hl.1 hrc hrs hR hcat ⟨Nat.zero_le _, Nat.zero_le _⟩ hdg (fun r hr H1 locs1 hw1 => by subst hr; exact k ls H1 locs1 hw1 hl))
theorem E.sub {lv' : List (Nat × Value)} (ks : List Nat) (hl : lv_pick lv ks = lv') (kk : E Γ K As L v pc lv' st S D φ) : E Γ K As L v pc lv st S D φ := by
  obtain ⟨r, S', D', fr, dl, hp, h⟩ := kk
  exact ⟨r, S', D', fr, dl, hp, fun X0 X hX0 hX p e s m below meth c ls A H locs hf hret hlk hw hlv => h X0 X hX0 hX p e s m below meth c ls A H locs hf hret hlk hw (lv_sub hlv ks hl)⟩
theorem E.cut {ι : Type} {pcJ : Nat} {lvJ : ι → List (Nat × Value)} {stJ : ι → List Value} {P : ι → Prop} (J : ∀ i, P i → E Γ K As L v pcJ (lvJ i) (stJ i) S D φ) (k : (∀ i, P i → E Γ K As L v pcJ (lvJ i) (stJ i) S D φ) → E Γ K As L v pc lv st S D φ) : E Γ K As L v pc lv st S D φ := k J
theorem E.cutN {ι : Type} {pcJ : Nat} {lvJ : ι → List (Nat × Value)} {stJ : ι → List Value} {P : ι → Prop} (f : ι → Nat) (J : ∀ i, P i → (∀ j, f j < f i → P j → E Γ K As L v pcJ (lvJ j) (stJ j) S D φ) → E Γ K As L v pcJ (lvJ i) (stJ i) S D φ) (k : (∀ i, P i → E Γ K As L v pcJ (lvJ i) (stJ i) S D φ) → E Γ K As L v pc lv st S D φ) : E Γ K As L v pc lv st S D φ := by
  have h : ∀ (N : Nat) (i : ι), f i < N → P i → E Γ K As L v pcJ (lvJ i) (stJ i) S D φ := by
    intro N
    induction N with
    | zero => intro i hm; exact absurd hm (Nat.not_lt_zero _)
    | succ N ih => intro i hm hp; exact J i hp (fun j hj hq => ih j (Nat.lt_of_lt_of_le hj (Nat.le_of_lt_succ hm)) hq)
  exact k (fun i => h (f i + 1) i (Nat.lt_succ_self _))
theorem E.topi {x : Int32} (kk : ∀ w : Int32, w = x → E Γ K As L v pc lv (.int w :: rest) S D φ) : E Γ K As L v pc lv (.int x :: rest) S D φ := kk x rfl
end EL
