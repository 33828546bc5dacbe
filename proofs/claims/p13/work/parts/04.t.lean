/-! the layer T: what a method does is a function of its arguments and of one state (ints, longs, references by object or row and place) -/
def uA {T : Type} (α : Nat → Nat → T) (i : Nat) (f : Nat → T) : Nat → Nat → T := fun j => if j = i then f else α j
theorem rset {T : Type} (g g' : Nat → T) {n i : Nat} {v : T} (hi : g' i = v) (ho : ∀ j, j ≠ i → g' j = g j) : ((List.range n).map g).set i v = (List.range n).map g' := by
  apply List.ext_getElem?
  intro j
  rw [List.getElem?_set]
  by_cases h : i = j
  · subst h
    by_cases hn : i < n
    · simp [hn, hi]
    · simp [hn]
  · rw [if_neg h]
    by_cases hn : j < n
    · simp [hn, ho j (Ne.symm h)]
    · simp [hn]
abbrev St : Type := (Nat → Nat → Int32) × (Nat → Nat → Int64) × (Nat → Nat → Nat)
abbrev Ent : Type := Nat × Nat × FieldType × List Nat
abbrev Gx : Type := Launch × (Nat → ClassId) × (Nat → Nat → Nat) × (Nat → Nat) × (Nat → ClassId)
def eY (Y : List Ent) (e : Nat) : Ent := Y.getD e (9, 0, .int, [])
def kY (Y : List Ent) (e k : Nat) : Nat := (eY Y e).2.2.2.getD k 9999
def zY (Y : List Ent) (e : Nat) : Nat := (eY Y e).2.1
def isO (Y : List Ent) (e ci n : Nat) : Prop := (eY Y e).1 = 0 ∧ (eY Y e).2.1 = ci ∧ (eY Y e).2.2.2.length = n
def isA (Y : List Ent) (e t z : Nat) (ft : FieldType) : Prop := (eY Y e).1 = t ∧ (eY Y e).2.1 = z ∧ (eY Y e).2.2.1 = ft
def fvE (ad : Nat → Nat) (X : St) (e k : Nat) (c : Nat) : Value := match c with
  | 0 => .int (X.1 e k)
  | 1 => .long (X.2.1 e k)
  | 2 => if X.2.2 e k = 0 then .null else .ref (ad (X.2.2 e k - 1))
  | c + 3 => .ref (ad c)
def entE (ad : Nat → Nat) (cA : Nat → ClassId) (X : St) (e : Nat) (n : Ent) : va_E :=
  if n.1 = 0 then .inr (n.2.1, (List.range n.2.2.2.length).map (fun k => fvE ad X e k (n.2.2.2.getD k 9999)))
  else if n.1 = 1 then .inl (cA e, n.2.1, .inl (X.1 e)) else .inl (cA e, n.2.1, .inr (.inl (X.2.1 e)))
def GW (Y : List Ent) (ad : Nat → Nat) (cA : Nat → ClassId) (X : St) : va_W := (List.range Y.length).map (fun e => (ad e, entE ad cA X e (eY Y e)))
def GT (Y : List Ent) (cA : Nat → ClassId) : List (ClassId × FieldType) := (List.range Y.length).filterMap (fun e => if (eY Y e).1 = 0 then none else some (cA e, (eY Y e).2.2.1))
def wI (X : St) (e k : Nat) (v : Int32) : St := (uA X.1 e (upd (X.1 e) k v), X.2.1, X.2.2)
def wL (X : St) (e k : Nat) (v : Int64) : St := (X.1, uA X.2.1 e (vp_updL (X.2.1 e) k v), X.2.2)
def wR (X : St) (e k : Nat) (v : Nat) : St := (X.1, X.2.1, uA X.2.2 e (fun j => if j = k then v else X.2.2 e j))
def ix (x : Int32) : Nat := x.toNatClampNeg
abbrev inR (x : Int32) (n : Nat) : Prop := 0 ≤ x.toInt ∧ x.toInt < n
abbrev chk {ρ : Type} (c : Prop) [Decidable c] (F : Option ρ) : Option ρ := if c then F else none
def letV {τ ρ : Type} (v : τ) (K : τ → Option ρ) : Option ρ := K v
def bnd {ρ ρ1 : Type} (G : Option (ρ1 × St)) (K : ρ1 → St → Option ρ) : Option ρ := match G with
  | none => none
  | some q => K q.1 q.2
/-- a loop: so many turns -/
noncomputable def lp {γ : Type} (bot : γ) (step : γ → γ) (n : Nat) : γ := Nat.rec bot (fun _ r => step r) n
theorem lp_ind {γ : Type} {bot : γ} {step : γ → γ} {P : γ → Prop} (h0 : P bot) (hs : ∀ r, P r → P (step r)) : ∀ n, P (lp bot step n) := by
  intro n
  induction n with
  | zero => exact h0
  | succ n ih => exact hs _ ih
theorem lp_indN {γ : Type} {bot : γ} {step : γ → γ} {P : Nat → γ → Prop} (h0 : P 0 bot) (hs : ∀ n r, P n r → P (n + 1) (step r)) : ∀ n, P n (lp bot step n) := by
  intro n
  induction n with
  | zero => exact h0
  | succ n ih => exact hs _ _ ih
def BIG : Nat := 1000000000
def DEP : Nat := 300
theorem eY_lt {Y : List Ent} {e : Nat} (h : (eY Y e).1 < 9) : e < Y.length := by
  rcases Nat.lt_or_ge e Y.length with q | q
  · exact q
  · unfold eY at h
    rw [List.getD_eq_getElem?_getD, List.getElem?_eq_none q] at h
    exact absurd h (Nat.lt_irrefl 9)
theorem GW_at {Y : List Ent} {ad : Nat → Nat} {cA : Nat → ClassId} {X : St} {e : Nat} (h : (eY Y e).1 < 9) : (GW Y ad cA X)[e]? = some (ad e, entE ad cA X e (eY Y e)) := by
  have := eY_lt h
  simp [GW, this]
theorem GW_o {Y : List Ent} {ad : Nat → Nat} {cA : Nat → ClassId} {X : St} {e ci n : Nat} (h : isO Y e ci n) : (GW Y ad cA X)[e]? = some (ad e, .inr (ci, (List.range n).map (fun k => fvE ad X e k (kY Y e k)))) := by
  obtain ⟨h1, h2, h3⟩ := h
  rw [GW_at (by rw [h1]; exact Nat.zero_lt_succ 8)]
  unfold entE kY
  rw [if_pos h1, h2, h3]
theorem GW_a {Y : List Ent} {ad : Nat → Nat} {cA : Nat → ClassId} {X : St} {e z : Nat} {ft : FieldType} (h : isA Y e 1 z ft) : (GW Y ad cA X)[e]? = some (ad e, .inl (cA e, z, .inl (X.1 e))) := by
  obtain ⟨h1, h2, h3⟩ := h
  rw [GW_at (by rw [h1]; decide)]
  unfold entE
  rw [if_neg (by rw [h1]; decide), if_pos h1, h2]
theorem GW_b {Y : List Ent} {ad : Nat → Nat} {cA : Nat → ClassId} {X : St} {e z : Nat} {ft : FieldType} (h : isA Y e 2 z ft) : (GW Y ad cA X)[e]? = some (ad e, .inl (cA e, z, .inr (.inl (X.2.1 e)))) := by
  obtain ⟨h1, h2, h3⟩ := h
  rw [GW_at (by rw [h1]; decide)]
  unfold entE
  rw [if_neg (by rw [h1]; decide), if_neg (by rw [h1]; decide), h2]
theorem GT_a {Y : List Ent} {cA : Nat → ClassId} {e t z : Nat} {ft : FieldType} (h : isA Y e (t + 1) z ft) (ht : t < 8) : ∃ i : Nat, (GT Y cA)[i]? = some (cA e, ft) := by
  obtain ⟨h1, h2, h3⟩ := h
  have hm : (cA e, ft) ∈ GT Y cA := by
    unfold GT
    refine List.mem_filterMap.mpr ⟨e, List.mem_range.mpr (eY_lt (by rw [h1]; omega)), ?_⟩
    rw [if_neg (by rw [h1]; omega), h3]
  obtain ⟨i, hi, he⟩ := List.mem_iff_getElem.mp hm
  exact ⟨i, by rw [List.getElem?_eq_getElem hi, he]⟩
theorem fs_get {ad : Nat → Nat} {Y : List Ent} {X : St} {e n k : Nat} (hk : k < n) : ((List.range n).map (fun k => fvE ad X e k (kY Y e k)))[k]? = some (fvE ad X e k (kY Y e k)) := by simp [hk]
theorem GW_set {Y : List Ent} {ad : Nat → Nat} {cA : Nat → ClassId} {X X' : St} {e : Nat} {v : va_E} (hv : entE ad cA X' e (eY Y e) = v) (h1 : ∀ j, j ≠ e → X'.1 j = X.1 j) (h2 : ∀ j, j ≠ e → X'.2.1 j = X.2.1 j) (h3 : ∀ j, j ≠ e → X'.2.2 j = X.2.2 j) : (GW Y ad cA X).set e (ad e, v) = GW Y ad cA X' := by
  unfold GW
  refine rset _ _ (by rw [hv]) (fun j hj => ?_)
  have e1 : ∀ k c, fvE ad X' j k c = fvE ad X j k c := by
    intro k c
    unfold fvE
    rw [h1 j hj, h2 j hj, h3 j hj]
  unfold entE
  rw [h1 j hj, h2 j hj]
  simp only [e1]
theorem GW_so {Y : List Ent} {ad : Nat → Nat} {cA : Nat → ClassId} {X X' : St} {e ci n k : Nat} {v : Value} (h : isO Y e ci n) (hv : fvE ad X' e k (kY Y e k) = v) (h1 : ∀ j, j ≠ e → X'.1 j = X.1 j) (h2 : ∀ j, j ≠ e → X'.2.1 j = X.2.1 j) (h3 : ∀ j, j ≠ e → X'.2.2 j = X.2.2 j) (g1 : ∀ j, j ≠ k → X'.1 e j = X.1 e j) (g2 : ∀ j, j ≠ k → X'.2.1 e j = X.2.1 e j) (g3 : ∀ j, j ≠ k → X'.2.2 e j = X.2.2 e j) : (GW Y ad cA X).set e (ad e, .inr (ci, ((List.range n).map (fun k => fvE ad X e k (kY Y e k))).set k v)) = GW Y ad cA X' := by
  refine GW_set ?_ h1 h2 h3
  obtain ⟨q1, q2, q3⟩ := h
  unfold entE
  rw [if_pos q1, q2, q3]
  congr 1
  congr 1
  refine (rset (fun k => fvE ad X e k (kY Y e k)) (fun k => fvE ad X' e k (kY Y e k)) (v := v) hv (fun j hj => ?_)).symm
  show fvE ad X' e j (kY Y e j) = fvE ad X e j (kY Y e j)
  unfold fvE
  rw [g1 j hj, g2 j hj, g3 j hj]
theorem uA_at {T : Type} (α : Nat → Nat → T) (i : Nat) (f : Nat → T) : uA α i f i = f := if_pos rfl
theorem uA_ne {T : Type} (α : Nat → Nat → T) (i : Nat) (f : Nat → T) {j : Nat} (h : j ≠ i) : uA α i f j = α j := if_neg h
theorem MW_all {ws : va_W} {n : Nat} (h : ws.length = n) : (List.range n).map (fun i => ws[i]?) = ws.map some := by
  subst h
  apply List.ext_getElem?
  intro j
  by_cases hj : j < ws.length
  · simp [hj]
  · simp [hj]
theorem MT_all {tys : List (ClassId × FieldType)} {n : Nat} (h : tys.length = n) : (List.range n).filterMap (fun i => tys[i]?) = tys := by
  have key : ∀ (l : List Nat), (∀ i ∈ l, i < tys.length) → (l.filterMap (fun i => tys[i]?)).map some = l.map (fun i => tys[i]?) := by
    intro l
    induction l with
    | nil => intro _; rfl
    | cons a t ih =>
      intro hl
      have ha : a < tys.length := hl a List.mem_cons_self
      have e : tys[a]? = some tys[a] := List.getElem?_eq_getElem ha
      simp only [List.filterMap_cons, e, List.map_cons]
      rw [ih (fun i hi => hl i (List.mem_cons_of_mem _ hi))]
  have h1 := key (List.range n) (fun i hi => by rw [h]; exact List.mem_range.mp hi)
  have h2 : (List.range n).map (fun i => tys[i]?) = tys.map some := by
    subst h
    apply List.ext_getElem?
    intro j
    by_cases hj : j < tys.length
    · simp [hj]
    · simp [hj]
  have inj : ∀ (l1 l2 : List (ClassId × FieldType)), l1.map some = l2.map some → l1 = l2 := by
    intro l1
    induction l1 with
    | nil => intro l2 h; cases l2 with
      | nil => rfl
      | cons a t => cases h
    | cons a t ih => intro l2 h; cases l2 with
      | nil => cases h
      | cons b u =>
        rw [List.map_cons, List.map_cons] at h
        injection h with e1 e2
        injection e1 with e1
        rw [e1, ih u e2]
  exact inj _ _ (h1.trans h2)
theorem va_nd_of : ∀ (l : List Nat), l.Nodup → va_nd l = true := by
  intro l
  induction l with
  | nil => intro _; rfl
  | cons a t ih =>
    intro h
    have h1 := List.nodup_cons.mp h
    simp only [va_nd, Bool.and_eq_true]
    refine ⟨?_, ih h1.2⟩
    simp [h1.1]
theorem va_nd_range (n : Nat) : va_nd (List.range n) = true := va_nd_of _ List.nodup_range
theorem ti_add {a b : Int32} (h1 : -2147483648 ≤ a.toInt + b.toInt) (h2 : a.toInt + b.toInt ≤ 2147483647) : (a + b).toInt = a.toInt + b.toInt := by
  rw [Int32.toInt_add]
  exact Int.bmod_eq_of_le (by omega) (by omega)
theorem ti_sub {a b : Int32} (h1 : -2147483648 ≤ a.toInt - b.toInt) (h2 : a.toInt - b.toInt ≤ 2147483647) : (a - b).toInt = a.toInt - b.toInt := by
  rw [Int32.toInt_sub]
  exact Int.bmod_eq_of_le (by omega) (by omega)
theorem ti_mul {a b : Int32} (h1 : -2147483648 ≤ a.toInt * b.toInt) (h2 : a.toInt * b.toInt ≤ 2147483647) : (a * b).toInt = a.toInt * b.toInt := by
  rw [Int32.toInt_mul]
  exact Int.bmod_eq_of_le (by omega) (by omega)
theorem ti_inc {x : Int32} {c : Int} (h : -2147483648 ≤ x.toInt + c ∧ x.toInt + c ≤ 2147483647) (hc : (Int32.ofInt c).toInt = c) : ∃ y : Int32, x + Int32.ofInt c = y ∧ y.toInt = x.toInt + c := ⟨_, rfl, by
  rw [ti_add (by rw [hc]; exact h.1) (by rw [hc]; exact h.2), hc]⟩
theorem ti_in {x : Int32} {n : Nat} (h1 : 0 ≤ x.toInt) (h2 : x.toInt < n) : vp_in x n := vp_in_iff.mpr ⟨h1, h2⟩
theorem ti_lt {a b : Int32} (h : a < b) : a.toInt < b.toInt := Int32.lt_iff_toInt_lt.mp h
theorem ti_nlt {a b : Int32} (h : ¬ a < b) : b.toInt ≤ a.toInt := by rw [Int32.lt_iff_toInt_lt] at h; omega
theorem ti_le {a b : Int32} (h : a ≤ b) : a.toInt ≤ b.toInt := Int32.le_iff_toInt_le.mp h
theorem ti_nle {a b : Int32} (h : ¬ a ≤ b) : b.toInt < a.toInt := by rw [Int32.le_iff_toInt_le] at h; omega
theorem ti_eq {a b : Int32} (h : a = b) : a.toInt = b.toInt := by rw [h]
theorem ti_ne {a b : Int32} (h : ¬ a = b) : ¬ a.toInt = b.toInt := fun q => h (Int32.toInt_inj.mp q)
theorem ti_lo (x : Int32) : -2147483648 ≤ x.toInt := Int32.le_toInt x
theorem ti_hi (x : Int32) : x.toInt ≤ 2147483647 := by have := Int32.toInt_lt x; omega
theorem nar01 {x : Int32} (h : x.toInt = 0 ∨ x.toInt = 1) : narrow .boolean (.int x) = .int x := by
  have e : x = 0 ∨ x = 1 := by
    rcases h with q | q
    · exact Or.inl (Int32.toInt_inj.mp q)
    · exact Or.inr (Int32.toInt_inj.mp q)
  rcases e with q | q
  · subst q; rfl
  · subst q; rfl
theorem fit01 {x : Int32} (h : x.toInt = 0 ∨ x.toInt = 1) : fits .boolean (.int x) = true := by
  have e : x = 0 ∨ x = 1 := by
    rcases h with q | q
    · exact Or.inl (Int32.toInt_inj.mp q)
    · exact Or.inr (Int32.toInt_inj.mp q)
  rcases e with q | q
  · subst q; rfl
  · subst q; rfl
def WdG (Y : List Ent) (Γ : Gx) (A : Nat → Prop) (X : St) (s : State) (H : Heap) (locs : List Loc) : Prop := Wd Γ.2.1 Γ.2.2.1 A (GW Y Γ.2.2.2.1 Γ.2.2.2.2 X) (GT Y Γ.2.2.2.2) s H locs
abbrev QT (ρ : Type) : Type := List Ent → Gx → (Nat → Prop) → State → List Frame → List Value → ρ → St → State → Prop
def qI : QT Int32 := fun Y Γ A s below av r X' => MQ below (va_Qi (fun r' (x : St) => r' = r ∧ x = X') (fun x t => PW Γ.2.1 Γ.2.2.1 A (GW Y Γ.2.2.2.1 Γ.2.2.2.2 x) (GT Y Γ.2.2.2.2) t) A) av.toArray s 0 0 A
def qL : QT Int64 := fun Y Γ A s below av r X' => MQ below (va_Ql (fun r' (x : St) => r' = r ∧ x = X') (fun x t => PW Γ.2.1 Γ.2.2.1 A (GW Y Γ.2.2.2.1 Γ.2.2.2.2 x) (GT Y Γ.2.2.2.2) t) A) av.toArray s 0 0 A
def qV : QT Int32 := fun Y Γ A s below av _ X' => MQ below (va_Qv (fun (x : St) => x = X') (fun x t => PW Γ.2.1 Γ.2.2.1 A (GW Y Γ.2.2.2.1 Γ.2.2.2.2 x) (GT Y Γ.2.2.2.2) t) A) av.toArray s 0 0 A
def T {ρ : Type} (Y : List Ent) (Γ : Gx) (cc : ByteArray) (nL : Nat) (own : String) (ret : Option FieldType) (R0 : Room) (As : List Value) (q : QT ρ) (pc : Nat) (lv : List (Nat × Value)) (st : List Value) (X : St) (F : Option (ρ × St)) : Prop :=
  ∀ (r : ρ) (X' : St), F = some (r, X') → ∀ (p : Program) (e : Env) (s : State) (m : MethodId) (below : List Frame) (meth : Method) (c : Code) (ls : Array Slot) (A : Nat → Prop) (H : Heap) (locs : List Loc),
    Fx p c cc nL s As.toArray m own → meth.sig.returnType = ret → meth.locks = false → WdG Y Γ A X s H locs → lv_has ls nL lv →
    W p Γ.1 e R0 s m As.toArray below meth c H locs 0 0 (q Y Γ A s below As r X') (F0 m pc ls st)
/-- contracts -/
def TMI (Y : List Ent) (Γ : Gx) (y : MethodName) (cc : ByteArray) (nL : Nat) (own : String) (ret : Option FieldType) (R0 : Room) (As : List Value) (X : St) (F : Option (Int32 × St)) : Prop :=
  ∀ (r : Int32) (X' : St), F = some (r, X') → ∀ sz : Nat, Met Γ.1 y (wsOf y cc nL ret) R0 (va_Pc As (PB Γ.2.1 Γ.2.2.1 sz (GW Y Γ.2.2.2.1 Γ.2.2.2.2 X) (GT Y Γ.2.2.2.2))) (va_Qi (fun r' (x : St) => r' = r ∧ x = X') (fun x t => PW Γ.2.1 Γ.2.2.1 (va_A (GW Y Γ.2.2.2.1 Γ.2.2.2.2 X) sz) (GW Y Γ.2.2.2.1 Γ.2.2.2.2 x) (GT Y Γ.2.2.2.2) t) (va_A (GW Y Γ.2.2.2.1 Γ.2.2.2.2 X) sz)) 0 0 (va_A (GW Y Γ.2.2.2.1 Γ.2.2.2.2 X) sz)
def TML (Y : List Ent) (Γ : Gx) (y : MethodName) (cc : ByteArray) (nL : Nat) (own : String) (ret : Option FieldType) (R0 : Room) (As : List Value) (X : St) (F : Option (Int64 × St)) : Prop :=
  ∀ (r : Int64) (X' : St), F = some (r, X') → ∀ sz : Nat, Met Γ.1 y (wsOf y cc nL ret) R0 (va_Pc As (PB Γ.2.1 Γ.2.2.1 sz (GW Y Γ.2.2.2.1 Γ.2.2.2.2 X) (GT Y Γ.2.2.2.2))) (va_Ql (fun r' (x : St) => r' = r ∧ x = X') (fun x t => PW Γ.2.1 Γ.2.2.1 (va_A (GW Y Γ.2.2.2.1 Γ.2.2.2.2 X) sz) (GW Y Γ.2.2.2.1 Γ.2.2.2.2 x) (GT Y Γ.2.2.2.2) t) (va_A (GW Y Γ.2.2.2.1 Γ.2.2.2.2 X) sz)) 0 0 (va_A (GW Y Γ.2.2.2.1 Γ.2.2.2.2 X) sz)
def TMV (Y : List Ent) (Γ : Gx) (y : MethodName) (cc : ByteArray) (nL : Nat) (own : String) (ret : Option FieldType) (R0 : Room) (As : List Value) (X : St) (F : Option (Int32 × St)) : Prop :=
  ∀ (r : Int32) (X' : St), F = some (r, X') → ∀ sz : Nat, Met Γ.1 y (wsOf y cc nL ret) R0 (va_Pc As (PB Γ.2.1 Γ.2.2.1 sz (GW Y Γ.2.2.2.1 Γ.2.2.2.2 X) (GT Y Γ.2.2.2.2))) (va_Qv (fun (x : St) => x = X') (fun x t => PW Γ.2.1 Γ.2.2.1 (va_A (GW Y Γ.2.2.2.1 Γ.2.2.2.2 X) sz) (GW Y Γ.2.2.2.1 Γ.2.2.2.2 x) (GT Y Γ.2.2.2.2) t) (va_A (GW Y Γ.2.2.2.1 Γ.2.2.2.2 X) sz)) 0 0 (va_A (GW Y Γ.2.2.2.1 Γ.2.2.2.2 X) sz)
section TL
variable {ρ : Type} {Y : List Ent} {Γ : Gx} {cc cc1 : ByteArray} {nL nL1 : Nat} {own own1 : String} {ret ret1 : Option FieldType} {R0 R1 : Room} {As As1 rest st st1 st0 : List Value} {q : QT ρ} {pc pc1 : Nat} {lv lv1 : List (Nat × Value)} {X X1 : St} {F F1 F2 : Option (ρ × St)} {y : MethodName} {n index : Nat}
theorem TMI.of (hy : plainName y.cls = true) (hav : (lg_sl As).length ≤ nL) (hown : own = y.cls) {F : Option (Int32 × St)} (h : T Y Γ cc nL own ret R0 As qI 0 (lv_args 0 As) [] X F) : TMI Y Γ y cc nL own ret R0 As X F := by
  intro r X' hF sz
  exact mbody (y := y) (av := As) (b := cc) (n := nL) (ret := ret) (rm := R0) (Qc := fun A => va_Qi (fun r' (x : St) => r' = r ∧ x = X') (fun x t => PW Γ.2.1 Γ.2.2.1 A (GW Y Γ.2.2.2.1 Γ.2.2.2.2 x) (GT Y Γ.2.2.2.2) t) A) hy hav (fun p e s m below meth c ls A H hf hr _ hlk hw hl => h r X' hF p e s m below meth c ls A H [] (by rw [hown]; exact hf) hr hlk hw hl)
theorem TML.of (hy : plainName y.cls = true) (hav : (lg_sl As).length ≤ nL) (hown : own = y.cls) {F : Option (Int64 × St)} (h : T Y Γ cc nL own ret R0 As qL 0 (lv_args 0 As) [] X F) : TML Y Γ y cc nL own ret R0 As X F := by
  intro r X' hF sz
  exact mbody (y := y) (av := As) (b := cc) (n := nL) (ret := ret) (rm := R0) (Qc := fun A => va_Ql (fun r' (x : St) => r' = r ∧ x = X') (fun x t => PW Γ.2.1 Γ.2.2.1 A (GW Y Γ.2.2.2.1 Γ.2.2.2.2 x) (GT Y Γ.2.2.2.2) t) A) hy hav (fun p e s m below meth c ls A H hf hr _ hlk hw hl => h r X' hF p e s m below meth c ls A H [] (by rw [hown]; exact hf) hr hlk hw hl)
theorem TMV.of (hy : plainName y.cls = true) (hav : (lg_sl As).length ≤ nL) (hown : own = y.cls) {F : Option (Int32 × St)} (h : T Y Γ cc nL own ret R0 As qV 0 (lv_args 0 As) [] X F) : TMV Y Γ y cc nL own ret R0 As X F := by
  intro r X' hF sz
  exact mbody (y := y) (av := As) (b := cc) (n := nL) (ret := ret) (rm := R0) (Qc := fun A => va_Qv (fun (x : St) => x = X') (fun x t => PW Γ.2.1 Γ.2.2.1 A (GW Y Γ.2.2.2.1 Γ.2.2.2.2 x) (GT Y Γ.2.2.2.2) t) A) hy hav (fun p e s m below meth c ls A H hf hr _ hlk hw hl => h r X' hF p e s m below meth c ls A H [] (by rw [hown]; exact hf) hr hlk hw hl)
theorem T.no : T Y Γ cc nL own ret R0 As q pc lv st X (none : Option (ρ × St)) := fun _ _ h => nomatch h
theorem T.lift (h : T Y Γ cc nL own ret R0 As q pc1 lv1 st1 X1 F) (step : ∀ (p : Program) (e : Env) (s : State) (m : MethodId) (below : List Frame) (meth : Method) (c : Code) (ls : Array Slot) (A : Nat → Prop) (H : Heap) (locs : List Loc) (Q : State → Prop), Fx p c cc nL s As.toArray m own → WdG Y Γ A X s H locs → lv_has ls nL lv →
      (∀ (ls1 : Array Slot) (H1 : Heap) (locs1 : List Loc), WdG Y Γ A X1 s H1 locs1 → lv_has ls1 nL lv1 → W p Γ.1 e R0 s m As.toArray below meth c H1 locs1 0 0 Q (F0 m pc1 ls1 st1)) →
      W p Γ.1 e R0 s m As.toArray below meth c H locs 0 0 Q (F0 m pc ls st)) : T Y Γ cc nL own ret R0 As q pc lv st X F := by
  intro r X' hF p e s m below meth c ls A H locs hfx hret hlk hwd hlv
  exact step p e s m below meth c ls A H locs _ hfx hwd hlv (fun ls1 H1 locs1 hw1 hl1 => h r X' hF p e s m below meth c ls1 A H1 locs1 hfx hret hlk hw1 hl1)
theorem T.lf (h : T Y Γ cc nL own ret R0 As q pc1 lv1 st1 X F)
    (step : ∀ (p : Program) (e : Env) (s : State) (m : MethodId) (below : List Frame) (meth : Method) (c : Code) (ls : Array Slot) (A : Nat → Prop) (H : Heap) (locs : List Loc) (Q : State → Prop), Fx p c cc nL s As.toArray m own → WdG Y Γ A X s H locs → lv_has ls nL lv →
      (∀ (ls1 : Array Slot), lv_has ls1 nL lv1 → W p Γ.1 e R0 s m As.toArray below meth c H locs 0 0 Q (F0 m pc1 ls1 st1)) →
      W p Γ.1 e R0 s m As.toArray below meth c H locs 0 0 Q (F0 m pc ls st)) : T Y Γ cc nL own ret R0 As q pc lv st X F :=
  T.lift h (fun p e s m below meth cd ls A H locs Q hf hw hl k => step p e s m below meth cd ls A H locs Q hf hw hl (fun ls1 hl1 => k ls1 H locs hw hl1))
theorem T.ite {c : Prop} [Decidable c] (h1 : c → T Y Γ cc nL own ret R0 As q pc lv st X F1) (h2 : ¬ c → T Y Γ cc nL own ret R0 As q pc lv st X F2) : T Y Γ cc nL own ret R0 As q pc lv st X (if c then F1 else F2) := by
  by_cases h : c
  · rw [if_pos h]; exact h1 h
  · rw [if_neg h]; exact h2 h
theorem T.ck {c : Prop} [Decidable c] (h1 : c → T Y Γ cc nL own ret R0 As q pc lv st X F) : T Y Γ cc nL own ret R0 As q pc lv st X (chk c F) := T.ite h1 (fun _ => T.no)
theorem T.ret_i {lv : List (Nat × Value)} {x : Int32} (hret : ret = some .int) (hdg : decode cc pc = .ok (.ireturn, 1)) : T Y Γ cc nL own ret R0 As qI pc lv [.int x] X (some (x, X)) := by
  intro r X' hF p e s m below meth c ls A H locs hf hr hlk hw hl
  injection hF with hF
  injection hF with e1 e2
  subst e1
  subst e2
  exact mret_i hf (hr.trans hret) hlk hw X ⟨rfl, rfl⟩ (List.range (GW Y Γ.2.2.2.1 Γ.2.2.2.2 X).length) (List.range (GT Y Γ.2.2.2.2).length) (MW_all rfl) (va_nd_range _) (MT_all rfl) (Nat.le_refl _) (Nat.le_refl _) hdg
theorem T.ret_z {lv : List (Nat × Value)} {x : Int32} (hret : ret = some .boolean) (hdg : decode cc pc = .ok (.ireturn, 1)) (hz : narrow .boolean (.int x) = .int x) : T Y Γ cc nL own ret R0 As qI pc lv [.int x] X (some (x, X)) := by
  intro r X' hF p e s m below meth c ls A H locs hf hr hlk hw hl
  injection hF with hF
  injection hF with e1 e2
  subst e1
  subst e2
  exact mret_z hf (hr.trans hret) hlk hz hw X ⟨rfl, rfl⟩ (List.range (GW Y Γ.2.2.2.1 Γ.2.2.2.2 X).length) (List.range (GT Y Γ.2.2.2.2).length) (MW_all rfl) (va_nd_range _) (MT_all rfl) (Nat.le_refl _) (Nat.le_refl _) hdg
theorem T.ret_l {lv : List (Nat × Value)} {x : Int64} (hret : ret = some .long) (hdg : decode cc pc = .ok (.lreturn, 1)) : T Y Γ cc nL own ret R0 As qL pc lv [.long x] X (some (x, X)) := by
  intro r X' hF p e s m below meth c ls A H locs hf hr hlk hw hl
  injection hF with hF
  injection hF with e1 e2
  subst e1
  subst e2
  exact W.widen (k := 0) (n := 0) (Nat.le_refl _) (Nat.le_refl _) (W.lret hf.1 hf.2.1 (hr.trans hret) (fun t h hW => ⟨⟨x, X, rfl, ⟨rfl, rfl⟩, mPW hw (List.range (GW Y Γ.2.2.2.1 Γ.2.2.2.2 X).length) (List.range (GT Y Γ.2.2.2.2).length) (MW_all rfl) (va_nd_range _) (MT_all rfl) h hW⟩, hw.2.2.2.1.F h⟩) hw.2.2.2.1.2.2 hdg hlk)
theorem T.ret_v {lv : List (Nat × Value)} (hret : ret = none) (hdg : decode cc pc = .ok (.return_, 1)) : T Y Γ cc nL own ret R0 As qV pc lv [] X (some (0, X)) := by
  intro r X' hF p e s m below meth c ls A H locs hf hr hlk hw hl
  injection hF with hF
  injection hF with e1 e2
  subst e2
  exact mret_v hf (hr.trans hret) hlk hw X rfl (List.range (GW Y Γ.2.2.2.1 Γ.2.2.2.2 X).length) (List.range (GT Y Γ.2.2.2.2).length) (MW_all rfl) (va_nd_range _) (MT_all rfl) (Nat.le_refl _) (Nat.le_refl _) hdg
theorem T.sub {lv' : List (Nat × Value)} (ks : List Nat) (hl : lv_pick lv ks = lv') (kk : T Y Γ cc nL own ret R0 As q pc lv' st X F) : T Y Γ cc nL own ret R0 As q pc lv st X F :=
  fun r X' hF p e s m below meth c ls A H locs hf hret hlk hw hlv => kk r X' hF p e s m below meth c ls A H locs hf hret hlk hw (lv_sub hlv ks hl)
theorem T.iconst {z : Int} {w : Int32} (hdg : decode cc pc = .ok (.iconst z, 1)) (hv : Int32.ofInt z = w) (k : T Y Γ cc nL own ret R0 As q (pc + 1) lv (.int w :: rest) X F) : T Y Γ cc nL own ret R0 As q pc lv rest X F :=
  T.lf k (fun p e s m below meth cd ls A H locs Q hf hw hl k => lv_iconst hf.1 hf.2.1 hdg hv (k ls hl))
theorem T.bipush {z : Int} {w : Int32} (hdg : decode cc pc = .ok (.bipush z, 2)) (hv : (Int8.ofInt z).toInt32 = w) (k : T Y Γ cc nL own ret R0 As q (pc + 2) lv (.int w :: rest) X F) : T Y Γ cc nL own ret R0 As q pc lv rest X F :=
  T.lf k (fun p e s m below meth cd ls A H locs Q hf hw hl k => lv_bipush hf.1 hf.2.1 hdg hv (k ls hl))
theorem T.sipush {z : Int} {w : Int32} (hdg : decode cc pc = .ok (.sipush z, 3)) (hv : (Int16.ofInt z).toInt32 = w) (k : T Y Γ cc nL own ret R0 As q (pc + 3) lv (.int w :: rest) X F) : T Y Γ cc nL own ret R0 As q pc lv rest X F :=
  T.lf k (fun p e s m below meth cd ls A H locs Q hf hw hl k => lv_sipush hf.1 hf.2.1 hdg hv (k ls hl))
theorem T.lconst {z : Fin 2} {w : Int64} (hdg : decode cc pc = .ok (.lconst z, 1)) (hv : Int64.ofNat (z : Nat) = w) (k : T Y Γ cc nL own ret R0 As q (pc + 1) lv (.long w :: rest) X F) : T Y Γ cc nL own ret R0 As q pc lv rest X F :=
  T.lf k (fun p e s m below meth cd ls A H locs Q hf hw hl k => lv_lconst hf.1 hf.2.1 hdg hv (k ls hl))
theorem T.ldc {w : Int32} (hdg : decode cc pc = .ok (.ldc index, 2)) (hc : Cond.constant own index w ∈ gtb) (k : T Y Γ cc nL own ret R0 As q (pc + 2) lv (.int w :: rest) X F) : T Y Γ cc nL own ret R0 As q pc lv rest X F :=
  T.lf k (fun p e s m below meth cd ls A H locs Q hf hw hl k => lv_ldc hf.1 hf.2.1 hf.2.2.2.1 (hf.2.2.2.2.1 _ hc) hdg (k ls hl))
theorem T.ldc2 {w : Int64} (hdg : decode cc pc = .ok (.ldc2_w index, 3)) (hc : Cond.constantLong own index w ∈ gtb) (k : T Y Γ cc nL own ret R0 As q (pc + 3) lv (.long w :: rest) X F) : T Y Γ cc nL own ret R0 As q pc lv rest X F :=
  T.lf k (fun p e s m below meth cd ls A H locs Q hf hw hl k => lv_ldc2 hf.1 hf.2.1 hf.2.2.2.1 (hf.2.2.2.2.1 _ hc) hdg (k ls hl))
theorem T.iload_n {j : Fin 4} {i : Nat} {w : Int32} (hdg : decode cc pc = .ok (.iload_n j, 1)) (hi : (j : Nat) = i) (z : Nat) (hz : lv[z]? = some (i, .int w)) (k : T Y Γ cc nL own ret R0 As q (pc + 1) lv (.int w :: rest) X F) : T Y Γ cc nL own ret R0 As q pc lv rest X F :=
  T.lf k (fun p e s m below meth cd ls A H locs Q hf hw hl k => lv_iload_n hf.1 hf.2.1 hdg hi (lv_at hl z hz) (k ls hl))
theorem T.iload {i : Nat} {w : Int32} (hdg : decode cc pc = .ok (.iload i, 2)) (z : Nat) (hz : lv[z]? = some (i, .int w)) (k : T Y Γ cc nL own ret R0 As q (pc + 2) lv (.int w :: rest) X F) : T Y Γ cc nL own ret R0 As q pc lv rest X F :=
  T.lf k (fun p e s m below meth cd ls A H locs Q hf hw hl k => lv_iload hf.1 hf.2.1 hdg (lv_at hl z hz) (k ls hl))
theorem T.istore_n {j : Fin 4} {i : Nat} {w : Int32} (hdg : decode cc pc = .ok (.istore_n j, 1)) (hi : (j : Nat) = i) (hn : i < nL) (hl1 : (i, Value.int w) :: lv.filter (fun q => !(q.1 == i) && !(q.1 + 1 == i && q.2.category == 2)) = lv1) (k : T Y Γ cc nL own ret R0 As q (pc + 1) lv1 rest X F) : T Y Γ cc nL own ret R0 As q pc lv (.int w :: rest) X F :=
  T.lf k (fun p e s m below meth cd ls A H locs Q hf hw hl k => lv_istore_n hf.1 hf.2.1 hdg hi hl hn hl1 (fun ls1 hl1 => k ls1 hl1))
theorem T.istore {i : Nat} {w : Int32} (hdg : decode cc pc = .ok (.istore i, 2)) (hn : i < nL) (hl1 : (i, Value.int w) :: lv.filter (fun q => !(q.1 == i) && !(q.1 + 1 == i && q.2.category == 2)) = lv1) (k : T Y Γ cc nL own ret R0 As q (pc + 2) lv1 rest X F) : T Y Γ cc nL own ret R0 As q pc lv (.int w :: rest) X F :=
  T.lf k (fun p e s m below meth cd ls A H locs Q hf hw hl k => lv_istore hf.1 hf.2.1 hdg hl hn hl1 (fun ls1 hl1 => k ls1 hl1))
theorem T.aload_n {j : Fin 4} {i : Nat} {w : Nat} (hdg : decode cc pc = .ok (.aload_n j, 1)) (hi : (j : Nat) = i) (z : Nat) (hz : lv[z]? = some (i, .ref w)) (k : T Y Γ cc nL own ret R0 As q (pc + 1) lv (.ref w :: rest) X F) : T Y Γ cc nL own ret R0 As q pc lv rest X F :=
  T.lf k (fun p e s m below meth cd ls A H locs Q hf hw hl k => lv_aload_n hf.1 hf.2.1 hdg hi (lv_at hl z hz) (k ls hl))
theorem T.aload {i : Nat} {w : Nat} (hdg : decode cc pc = .ok (.aload i, 2)) (z : Nat) (hz : lv[z]? = some (i, .ref w)) (k : T Y Γ cc nL own ret R0 As q (pc + 2) lv (.ref w :: rest) X F) : T Y Γ cc nL own ret R0 As q pc lv rest X F :=
  T.lf k (fun p e s m below meth cd ls A H locs Q hf hw hl k => lv_aload hf.1 hf.2.1 hdg (lv_at hl z hz) (k ls hl))
theorem T.astore_n {j : Fin 4} {i : Nat} {w : Nat} (hdg : decode cc pc = .ok (.astore_n j, 1)) (hi : (j : Nat) = i) (hn : i < nL) (hl1 : (i, Value.ref w) :: lv.filter (fun q => !(q.1 == i) && !(q.1 + 1 == i && q.2.category == 2)) = lv1) (k : T Y Γ cc nL own ret R0 As q (pc + 1) lv1 rest X F) : T Y Γ cc nL own ret R0 As q pc lv (.ref w :: rest) X F :=
  T.lf k (fun p e s m below meth cd ls A H locs Q hf hw hl k => lv_astore_n hf.1 hf.2.1 hdg hi hl hn hl1 (fun ls1 hl1 => k ls1 hl1))
theorem T.astore {i : Nat} {w : Nat} (hdg : decode cc pc = .ok (.astore i, 2)) (hn : i < nL) (hl1 : (i, Value.ref w) :: lv.filter (fun q => !(q.1 == i) && !(q.1 + 1 == i && q.2.category == 2)) = lv1) (k : T Y Γ cc nL own ret R0 As q (pc + 2) lv1 rest X F) : T Y Γ cc nL own ret R0 As q pc lv (.ref w :: rest) X F :=
  T.lf k (fun p e s m below meth cd ls A H locs Q hf hw hl k => lv_astore hf.1 hf.2.1 hdg hl hn hl1 (fun ls1 hl1 => k ls1 hl1))
theorem T.lload_n {j : Fin 4} {i : Nat} {w : Int64} (hdg : decode cc pc = .ok (.lload_n j, 1)) (hi : (j : Nat) = i) (z : Nat) (hz : lv[z]? = some (i, .long w)) (k : T Y Γ cc nL own ret R0 As q (pc + 1) lv (.long w :: rest) X F) : T Y Γ cc nL own ret R0 As q pc lv rest X F :=
  T.lf k (fun p e s m below meth cd ls A H locs Q hf hw hl k => lv_lload_n hf.1 hf.2.1 hdg hi (lv_at hl z hz) (k ls hl))
theorem T.lload {i : Nat} {w : Int64} (hdg : decode cc pc = .ok (.lload i, 2)) (z : Nat) (hz : lv[z]? = some (i, .long w)) (k : T Y Γ cc nL own ret R0 As q (pc + 2) lv (.long w :: rest) X F) : T Y Γ cc nL own ret R0 As q pc lv rest X F :=
  T.lf k (fun p e s m below meth cd ls A H locs Q hf hw hl k => lv_lload hf.1 hf.2.1 hdg (lv_at hl z hz) (k ls hl))
theorem T.lstore_n {j : Fin 4} {i : Nat} {w : Int64} (hdg : decode cc pc = .ok (.lstore_n j, 1)) (hi : (j : Nat) = i) (hn : i + 1 < nL) (hl1 : (i, Value.long w) :: lv.filter (fun q => !(q.1 == i) && (!(q.1 == i + 1) && !(q.1 + 1 == i && q.2.category == 2))) = lv1) (k : T Y Γ cc nL own ret R0 As q (pc + 1) lv1 rest X F) : T Y Γ cc nL own ret R0 As q pc lv (.long w :: rest) X F :=
  T.lf k (fun p e s m below meth cd ls A H locs Q hf hw hl k => lv_lstore_n hf.1 hf.2.1 hdg hi hl hn hl1 (fun ls1 hl1 => k ls1 hl1))
theorem T.lstore {i : Nat} {w : Int64} (hdg : decode cc pc = .ok (.lstore i, 2)) (hn : i + 1 < nL) (hl1 : (i, Value.long w) :: lv.filter (fun q => !(q.1 == i) && (!(q.1 == i + 1) && !(q.1 + 1 == i && q.2.category == 2))) = lv1) (k : T Y Γ cc nL own ret R0 As q (pc + 2) lv1 rest X F) : T Y Γ cc nL own ret R0 As q pc lv (.long w :: rest) X F :=
  T.lf k (fun p e s m below meth cd ls A H locs Q hf hw hl k => lv_lstore hf.1 hf.2.1 hdg hl hn hl1 (fun ls1 hl1 => k ls1 hl1))
theorem T.iadd {a b : Int32} (hdg : decode cc pc = .ok (.iadd, 1)) {Kf : Int32 → Option (ρ × St)} (k : ∀ w : Int32, T Y Γ cc nL own ret R0 As q (pc + 1) lv (.int w :: rest) X (Kf w)) : T Y Γ cc nL own ret R0 As q pc lv (.int b :: .int a :: rest) X (letV (a + b) Kf) :=
  T.lf (F := letV (a + b) Kf) (k (a + b)) (fun p e s m below meth cd ls A H locs Q hf hw hl k => lv_iadd hf.1 hf.2.1 hdg (k ls hl))
theorem T.isub {a b : Int32} (hdg : decode cc pc = .ok (.isub, 1)) {Kf : Int32 → Option (ρ × St)} (k : ∀ w : Int32, T Y Γ cc nL own ret R0 As q (pc + 1) lv (.int w :: rest) X (Kf w)) : T Y Γ cc nL own ret R0 As q pc lv (.int b :: .int a :: rest) X (letV (a - b) Kf) :=
  T.lf (F := letV (a - b) Kf) (k (a - b)) (fun p e s m below meth cd ls A H locs Q hf hw hl k => lv_isub hf.1 hf.2.1 hdg (k ls hl))
theorem T.imul {a b : Int32} (hdg : decode cc pc = .ok (.imul, 1)) {Kf : Int32 → Option (ρ × St)} (k : ∀ w : Int32, T Y Γ cc nL own ret R0 As q (pc + 1) lv (.int w :: rest) X (Kf w)) : T Y Γ cc nL own ret R0 As q pc lv (.int b :: .int a :: rest) X (letV (a * b) Kf) :=
  T.lf (F := letV (a * b) Kf) (k (a * b)) (fun p e s m below meth cd ls A H locs Q hf hw hl k => lv_imul hf.1 hf.2.1 hdg (k ls hl))
theorem T.iand {a b : Int32} (hdg : decode cc pc = .ok (.iand, 1)) {Kf : Int32 → Option (ρ × St)} (k : ∀ w : Int32, T Y Γ cc nL own ret R0 As q (pc + 1) lv (.int w :: rest) X (Kf w)) : T Y Γ cc nL own ret R0 As q pc lv (.int b :: .int a :: rest) X (letV (a &&& b) Kf) :=
  T.lf (F := letV (a &&& b) Kf) (k (a &&& b)) (fun p e s m below meth cd ls A H locs Q hf hw hl k => lv_iand hf.1 hf.2.1 hdg (k ls hl))
theorem T.ior {a b : Int32} (hdg : decode cc pc = .ok (.ior, 1)) {Kf : Int32 → Option (ρ × St)} (k : ∀ w : Int32, T Y Γ cc nL own ret R0 As q (pc + 1) lv (.int w :: rest) X (Kf w)) : T Y Γ cc nL own ret R0 As q pc lv (.int b :: .int a :: rest) X (letV (a ||| b) Kf) :=
  T.lf (F := letV (a ||| b) Kf) (k (a ||| b)) (fun p e s m below meth cd ls A H locs Q hf hw hl k => lv_ior hf.1 hf.2.1 hdg (k ls hl))
theorem T.ixor {a b : Int32} (hdg : decode cc pc = .ok (.ixor, 1)) {Kf : Int32 → Option (ρ × St)} (k : ∀ w : Int32, T Y Γ cc nL own ret R0 As q (pc + 1) lv (.int w :: rest) X (Kf w)) : T Y Γ cc nL own ret R0 As q pc lv (.int b :: .int a :: rest) X (letV (a ^^^ b) Kf) :=
  T.lf (F := letV (a ^^^ b) Kf) (k (a ^^^ b)) (fun p e s m below meth cd ls A H locs Q hf hw hl k => lv_ixor hf.1 hf.2.1 hdg (k ls hl))
theorem T.ishl {a b : Int32} (hdg : decode cc pc = .ok (.ishl, 1)) {Kf : Int32 → Option (ρ × St)} (k : ∀ w : Int32, T Y Γ cc nL own ret R0 As q (pc + 1) lv (.int w :: rest) X (Kf w)) : T Y Γ cc nL own ret R0 As q pc lv (.int b :: .int a :: rest) X (letV (a <<< (b &&& 31)) Kf) :=
  T.lf (F := letV (a <<< (b &&& 31)) Kf) (k (a <<< (b &&& 31))) (fun p e s m below meth cd ls A H locs Q hf hw hl k => lv_ishl hf.1 hf.2.1 hdg (k ls hl))
theorem T.ishr {a b : Int32} (hdg : decode cc pc = .ok (.ishr, 1)) {Kf : Int32 → Option (ρ × St)} (k : ∀ w : Int32, T Y Γ cc nL own ret R0 As q (pc + 1) lv (.int w :: rest) X (Kf w)) : T Y Γ cc nL own ret R0 As q pc lv (.int b :: .int a :: rest) X (letV (a >>> (b &&& 31)) Kf) :=
  T.lf (F := letV (a >>> (b &&& 31)) Kf) (k (a >>> (b &&& 31))) (fun p e s m below meth cd ls A H locs Q hf hw hl k => lv_ishr hf.1 hf.2.1 hdg (k ls hl))
theorem T.ladd {a b : Int64} (hdg : decode cc pc = .ok (.ladd, 1)) {Kf : Int64 → Option (ρ × St)} (k : ∀ w : Int64, T Y Γ cc nL own ret R0 As q (pc + 1) lv (.long w :: rest) X (Kf w)) : T Y Γ cc nL own ret R0 As q pc lv (.long b :: .long a :: rest) X (letV (a + b) Kf) :=
  T.lf (F := letV (a + b) Kf) (k (a + b)) (fun p e s m below meth cd ls A H locs Q hf hw hl k => lv_ladd hf.1 hf.2.1 hdg (k ls hl))
theorem T.lsub {a b : Int64} (hdg : decode cc pc = .ok (.lsub, 1)) {Kf : Int64 → Option (ρ × St)} (k : ∀ w : Int64, T Y Γ cc nL own ret R0 As q (pc + 1) lv (.long w :: rest) X (Kf w)) : T Y Γ cc nL own ret R0 As q pc lv (.long b :: .long a :: rest) X (letV (a - b) Kf) :=
  T.lf (F := letV (a - b) Kf) (k (a - b)) (fun p e s m below meth cd ls A H locs Q hf hw hl k => lv_lsub hf.1 hf.2.1 hdg (k ls hl))
theorem T.lmul {a b : Int64} (hdg : decode cc pc = .ok (.lmul, 1)) {Kf : Int64 → Option (ρ × St)} (k : ∀ w : Int64, T Y Γ cc nL own ret R0 As q (pc + 1) lv (.long w :: rest) X (Kf w)) : T Y Γ cc nL own ret R0 As q pc lv (.long b :: .long a :: rest) X (letV (a * b) Kf) :=
  T.lf (F := letV (a * b) Kf) (k (a * b)) (fun p e s m below meth cd ls A H locs Q hf hw hl k => lv_lmul hf.1 hf.2.1 hdg (k ls hl))
theorem T.land {a b : Int64} (hdg : decode cc pc = .ok (.land, 1)) {Kf : Int64 → Option (ρ × St)} (k : ∀ w : Int64, T Y Γ cc nL own ret R0 As q (pc + 1) lv (.long w :: rest) X (Kf w)) : T Y Γ cc nL own ret R0 As q pc lv (.long b :: .long a :: rest) X (letV (a &&& b) Kf) :=
  T.lf (F := letV (a &&& b) Kf) (k (a &&& b)) (fun p e s m below meth cd ls A H locs Q hf hw hl k => lv_land hf.1 hf.2.1 hdg (k ls hl))
theorem T.lor {a b : Int64} (hdg : decode cc pc = .ok (.lor, 1)) {Kf : Int64 → Option (ρ × St)} (k : ∀ w : Int64, T Y Γ cc nL own ret R0 As q (pc + 1) lv (.long w :: rest) X (Kf w)) : T Y Γ cc nL own ret R0 As q pc lv (.long b :: .long a :: rest) X (letV (a ||| b) Kf) :=
  T.lf (F := letV (a ||| b) Kf) (k (a ||| b)) (fun p e s m below meth cd ls A H locs Q hf hw hl k => lv_lor hf.1 hf.2.1 hdg (k ls hl))
theorem T.idiv {a b : Int32} (hdg : decode cc pc = .ok (.idiv, 1)) (hne : ¬ b.toInt = 0) {Kf : Int32 → Option (ρ × St)} (k : ∀ w : Int32, T Y Γ cc nL own ret R0 As q (pc + 1) lv (.int w :: rest) X (Kf w)) : T Y Γ cc nL own ret R0 As q pc lv (.int b :: .int a :: rest) X (letV (a / b) Kf) :=
  T.lf (F := letV (a / b) Kf) (k (a / b)) (fun p e s m below meth cd ls A H locs Q hf hw hl k => lv_idiv hf.1 hf.2.1 hdg (fun e => hne (ti_eq e)) (k ls hl))
theorem T.irem {a b : Int32} (hdg : decode cc pc = .ok (.irem, 1)) (hne : ¬ b.toInt = 0) {Kf : Int32 → Option (ρ × St)} (k : ∀ w : Int32, T Y Γ cc nL own ret R0 As q (pc + 1) lv (.int w :: rest) X (Kf w)) : T Y Γ cc nL own ret R0 As q pc lv (.int b :: .int a :: rest) X (letV (a - a / b * b) Kf) :=
  T.lf (F := letV (a - a / b * b) Kf) (k (a - a / b * b)) (fun p e s m below meth cd ls A H locs Q hf hw hl k => lv_irem hf.1 hf.2.1 hdg (fun e => hne (ti_eq e)) (k ls hl))
theorem T.ineg {a : Int32} (hdg : decode cc pc = .ok (.ineg, 1)) {Kf : Int32 → Option (ρ × St)} (k : ∀ w : Int32, T Y Γ cc nL own ret R0 As q (pc + 1) lv (.int w :: rest) X (Kf w)) : T Y Γ cc nL own ret R0 As q pc lv (.int a :: rest) X (letV (-a) Kf) :=
  T.lf (F := letV (-a) Kf) (k (-a)) (fun p e s m below meth cd ls A H locs Q hf hw hl k => lv_ineg hf.1 hf.2.1 hdg (k ls hl))
theorem T.i2b {a : Int32} (hdg : decode cc pc = .ok (.i2b, 1)) {Kf : Int32 → Option (ρ × St)} (k : ∀ w : Int32, T Y Γ cc nL own ret R0 As q (pc + 1) lv (.int w :: rest) X (Kf w)) : T Y Γ cc nL own ret R0 As q pc lv (.int a :: rest) X (letV (a.toInt8.toInt32) Kf) :=
  T.lf (F := letV (a.toInt8.toInt32) Kf) (k (a.toInt8.toInt32)) (fun p e s m below meth cd ls A H locs Q hf hw hl k => lv_i2b hf.1 hf.2.1 hdg rfl (k ls hl))
theorem T.i2l {a : Int32} (hdg : decode cc pc = .ok (.i2l, 1)) {Kf : Int64 → Option (ρ × St)} (k : ∀ w : Int64, T Y Γ cc nL own ret R0 As q (pc + 1) lv (.long w :: rest) X (Kf w)) : T Y Γ cc nL own ret R0 As q pc lv (.int a :: rest) X (letV (a.toInt64) Kf) :=
  T.lf (F := letV (a.toInt64) Kf) (k (a.toInt64)) (fun p e s m below meth cd ls A H locs Q hf hw hl k => lv_i2l hf.1 hf.2.1 hdg rfl (k ls hl))
theorem T.l2i {a : Int64} (hdg : decode cc pc = .ok (.l2i, 1)) {Kf : Int32 → Option (ρ × St)} (k : ∀ w : Int32, T Y Γ cc nL own ret R0 As q (pc + 1) lv (.int w :: rest) X (Kf w)) : T Y Γ cc nL own ret R0 As q pc lv (.long a :: rest) X (letV (a.toInt32) Kf) :=
  T.lf (F := letV (a.toInt32) Kf) (k (a.toInt32)) (fun p e s m below meth cd ls A H locs Q hf hw hl k => lv_l2i hf.1 hf.2.1 hdg rfl (k ls hl))
theorem T.lcmp {a b : Int64} (hdg : decode cc pc = .ok (.lcmp, 1)) {Kf : Int32 → Option (ρ × St)} (k : ∀ w : Int32, T Y Γ cc nL own ret R0 As q (pc + 1) lv (.int w :: rest) X (Kf w)) : T Y Γ cc nL own ret R0 As q pc lv (.long b :: .long a :: rest) X (letV (lg_cmp a b) Kf) :=
  T.lf (F := letV (lg_cmp a b) Kf) (k (lg_cmp a b)) (fun p e s m below meth cd ls A H locs Q hf hw hl k => W.lcmp hf.1 hf.2.1 hdg (k ls hl))
theorem T.iinc {i : Nat} {z : Int} {x : Int32} (hdg : decode cc pc = .ok (.iinc i z, 3)) (w : Nat) (hq : lv[w]? = some (i, .int x)) (hn : i < nL) {lvf : Int32 → List (Nat × Value)} (hl1 : ∀ w : Int32, (i, Value.int w) :: lv.filter (fun q => !(q.1 == i) && !(q.1 + 1 == i && q.2.category == 2)) = lvf w) {Kf : Int32 → Option (ρ × St)} (k : ∀ w : Int32, T Y Γ cc nL own ret R0 As q (pc + 3) (lvf w) rest X (Kf w)) : T Y Γ cc nL own ret R0 As q pc lv rest X (letV (x + Int32.ofInt z) Kf) :=
  T.lf (F := letV (x + Int32.ofInt z) Kf) (k (x + Int32.ofInt z)) (fun p e s m below meth c ls A H locs Q hf hw' hl k => lv_iinc hf.1 hf.2.1 hdg hl hq rfl hn (hl1 _) (fun ls1 hl1 => k ls1 hl1))
theorem T.dup {a : Int32} (hdg : decode cc pc = .ok (.dup, 1)) (k : T Y Γ cc nL own ret R0 As q (pc + 1) lv (.int a :: .int a :: rest) X F) : T Y Γ cc nL own ret R0 As q pc lv (.int a :: rest) X F :=
  T.lf k (fun p e s m below meth cd ls A H locs Q hf hw hl k => lv_dup hf.1 hf.2.1 hdg rfl (k ls hl))
theorem T.dupr {a : Nat} (hdg : decode cc pc = .ok (.dup, 1)) (k : T Y Γ cc nL own ret R0 As q (pc + 1) lv (.ref a :: .ref a :: rest) X F) : T Y Γ cc nL own ret R0 As q pc lv (.ref a :: rest) X F :=
  T.lf k (fun p e s m below meth cd ls A H locs Q hf hw hl k => lv_dup hf.1 hf.2.1 hdg rfl (k ls hl))
theorem T.pop {a : Int32} (hdg : decode cc pc = .ok (.pop, 1)) (k : T Y Γ cc nL own ret R0 As q (pc + 1) lv rest X F) : T Y Γ cc nL own ret R0 As q pc lv (.int a :: rest) X F :=
  T.lf k (fun p e s m below meth cd ls A H locs Q hf hw hl k => lv_pop hf.1 hf.2.1 hdg rfl (k ls hl))
theorem T.dup2 {a : Int32} {b : Nat} (hdg : decode cc pc = .ok (.dup2, 1)) (k : T Y Γ cc nL own ret R0 As q (pc + 1) lv (.int a :: .ref b :: .int a :: .ref b :: rest) X F) : T Y Γ cc nL own ret R0 As q pc lv (.int a :: .ref b :: rest) X F :=
  T.lf k (fun p e s m below meth cd ls A H locs Q hf hw hl k => lv_dup2_11 hf.1 hf.2.1 hdg rfl rfl (k ls hl))
theorem T.dup_x1 {a : Int32} {b : Nat} (hdg : decode cc pc = .ok (.dup_x1, 1)) (k : T Y Γ cc nL own ret R0 As q (pc + 1) lv (.int a :: .ref b :: .int a :: rest) X F) : T Y Γ cc nL own ret R0 As q pc lv (.int a :: .ref b :: rest) X F :=
  T.lf k (fun p e s m below meth cd ls A H locs Q hf hw hl k => lv_dup_x1 hf.1 hf.2.1 hdg rfl rfl (k ls hl))
theorem T.goto {off : Int} (hdg : decode cc pc = .ok (.goto off, 3)) (ht : (pc : Int) + off = (pc1 : Int)) (k : T Y Γ cc nL own ret R0 As q pc1 lv rest X F) : T Y Γ cc nL own ret R0 As q pc lv rest X F :=
  T.lf k (fun p e s m below meth cd ls A H locs Q hf hw hl k => lv_goto hf.1 hf.2.1 hdg ht (k ls hl))
theorem T.lookup {d : Int} {ps : Array (Int × Int)} {len : Nat} {x : Int32} {off : Int} (hdg : decode cc pc = .ok (.lookupswitch d ps, len)) (hp : (ps.toList.zip (ps.toList.drop 1)).all (fun (a, next) => a.1 < next.1) = true) (ho : Op.lookupswitch.offset ps.toList d x.toInt = off) (ht : (pc : Int) + off = (pc1 : Int)) (k : T Y Γ cc nL own ret R0 As q pc1 lv rest X F) : T Y Γ cc nL own ret R0 As q pc lv (.int x :: rest) X F :=
  T.lf k (fun p e s m below meth cd ls A H locs Q hf hw hl k => lv_lookup hf.1 hf.2.1 hdg hp ho ht (k ls hl))
def tblOff (d lo hi : Int) (offs : Array Int) (v : Int) : Int := if v < lo ∨ hi < v then d else (offs[(v - lo).toNat]?).getD d
theorem tbl_d {d lo hi : Int} {offs : Array Int} {v : Int} (ks : List Int) (hk : v ∉ ks) (h : (List.range offs.size).all (fun j => ks.contains (lo + (j : Int)) || offs[j]? == some d) = true) : tblOff d lo hi offs v = d := by
  unfold tblOff
  by_cases c : v < lo ∨ hi < v
  · rw [if_pos c]
  · rw [if_neg c]
    rcases Nat.lt_or_ge (v - lo).toNat offs.size with q | q
    · have h1 := List.all_eq_true.mp h _ (List.mem_range.mpr q)
      rw [Bool.or_eq_true] at h1
      rcases h1 with h1 | h1
      · exfalso
        apply hk
        have e : lo + ((v - lo).toNat : Int) = v := by omega
        rw [e] at h1
        exact List.contains_iff_mem.mp h1
      · rw [eq_of_beq h1]; rfl
    · rw [Array.getElem?_eq_none q]; rfl
theorem osw2 {a o d v : Int} {r : List (Int × Int)} (h : ¬ v = a) : Op.lookupswitch.offset ((a, o) :: r) d v = Op.lookupswitch.offset r d v := by
  rw [Op.lookupswitch.offset_cons, if_neg (fun q => h q.symm)]
theorem T.tbl {d lo hi : Int} {offs : Array Int} {len : Nat} {x : Int32} {off : Int} (hdg : decode cc pc = .ok (.tableswitch d lo hi offs, len)) (hl : (hi - lo).toNat + 1 = offs.size) (ho : tblOff d lo hi offs x.toInt = off) (ht : (pc : Int) + off = (pc1 : Int)) (k : T Y Γ cc nL own ret R0 As q pc1 lv rest X F) : T Y Γ cc nL own ret R0 As q pc lv (.int x :: rest) X F := by
  by_cases h : x.toInt < lo ∨ hi < x.toInt
  · unfold tblOff at ho
    rw [if_pos h] at ho
    exact T.lf k (fun p e s m below meth cd ls A H locs Q hf hw hlv k => lv_tableOut hf.1 hf.2.1 hdg h (by rw [ho]; exact ht) (k ls hlv))
  · unfold tblOff at ho
    rw [if_neg h] at ho
    have hb : (x.toInt - lo).toNat < offs.size := by omega
    rw [Array.getElem?_eq_getElem hb] at ho
    have ho2 : offs[(x.toInt - lo).toNat] = off := ho
    exact T.lf k (fun p e s m below meth cd ls A H locs Q hf hw hlv k => lv_tableIn hf.1 hf.2.1 hdg (fun g => h (Or.inl g)) (fun g => h (Or.inr g)) (by rw [Array.getElem?_eq_getElem hb, ho2]) ht (k ls hlv))
theorem T.if_eq {x : Int32} {off : Int} (hdg : decode cc pc = .ok (.ifCond .eq off, 3)) (ht : (pc : Int) + off = (pc1 : Int)) (k1 : T Y Γ cc nL own ret R0 As q pc1 lv rest X F1) (k2 : T Y Γ cc nL own ret R0 As q (pc + 3) lv rest X F2) : T Y Γ cc nL own ret R0 As q pc lv (.int x :: rest) X (if x.toInt = 0 then F1 else F2) := by
  by_cases h : x = (0 : Int32)
  · rw [if_pos (show x.toInt = 0 from ti_eq h)]
    exact T.lf k1 (fun p e s m below meth cd ls A H locs Q hf hw hl k => lv_if_eq hf.1 hf.2.1 hdg ht (fun _ => k ls hl) (fun g => absurd h g))
  · rw [if_neg (show ¬ (x.toInt = 0) from ti_ne h)]
    exact T.lf k2 (fun p e s m below meth cd ls A H locs Q hf hw hl k => lv_if_eq hf.1 hf.2.1 hdg ht (fun g => absurd g h) (fun _ => k ls hl))
theorem T.icmp_eq {x y : Int32} {off : Int} (hdg : decode cc pc = .ok (.if_icmp .eq off, 3)) (ht : (pc : Int) + off = (pc1 : Int)) {b : Int} (hb : y.toInt = b) (k1 : T Y Γ cc nL own ret R0 As q pc1 lv rest X F1) (k2 : T Y Γ cc nL own ret R0 As q (pc + 3) lv rest X F2) : T Y Γ cc nL own ret R0 As q pc lv (.int y :: .int x :: rest) X (if x.toInt = b then F1 else F2) := by
  subst hb
  by_cases h : x = y
  · rw [if_pos (show x.toInt = y.toInt from ti_eq h)]
    exact T.lf k1 (fun p e s m below meth cd ls A H locs Q hf hw hl k => lv_icmp_eq hf.1 hf.2.1 hdg ht (fun _ => k ls hl) (fun g => absurd h g))
  · rw [if_neg (show ¬ (x.toInt = y.toInt) from ti_ne h)]
    exact T.lf k2 (fun p e s m below meth cd ls A H locs Q hf hw hl k => lv_icmp_eq hf.1 hf.2.1 hdg ht (fun g => absurd g h) (fun _ => k ls hl))
theorem T.if_ne {x : Int32} {off : Int} (hdg : decode cc pc = .ok (.ifCond .ne off, 3)) (ht : (pc : Int) + off = (pc1 : Int)) (k1 : T Y Γ cc nL own ret R0 As q pc1 lv rest X F1) (k2 : T Y Γ cc nL own ret R0 As q (pc + 3) lv rest X F2) : T Y Γ cc nL own ret R0 As q pc lv (.int x :: rest) X (if x.toInt = 0 then F2 else F1) := by
  by_cases h : x = (0 : Int32)
  · rw [if_pos (show x.toInt = 0 from ti_eq h)]
    exact T.lf k2 (fun p e s m below meth cd ls A H locs Q hf hw hl k => lv_if_ne hf.1 hf.2.1 hdg ht (fun g => absurd h g) (fun _ => k ls hl))
  · rw [if_neg (show ¬ (x.toInt = 0) from ti_ne h)]
    exact T.lf k1 (fun p e s m below meth cd ls A H locs Q hf hw hl k => lv_if_ne hf.1 hf.2.1 hdg ht (fun _ => k ls hl) (fun g => absurd g h))
theorem T.icmp_ne {x y : Int32} {off : Int} (hdg : decode cc pc = .ok (.if_icmp .ne off, 3)) (ht : (pc : Int) + off = (pc1 : Int)) {b : Int} (hb : y.toInt = b) (k1 : T Y Γ cc nL own ret R0 As q pc1 lv rest X F1) (k2 : T Y Γ cc nL own ret R0 As q (pc + 3) lv rest X F2) : T Y Γ cc nL own ret R0 As q pc lv (.int y :: .int x :: rest) X (if x.toInt = b then F2 else F1) := by
  subst hb
  by_cases h : x = y
  · rw [if_pos (show x.toInt = y.toInt from ti_eq h)]
    exact T.lf k2 (fun p e s m below meth cd ls A H locs Q hf hw hl k => lv_icmp_ne hf.1 hf.2.1 hdg ht (fun g => absurd h g) (fun _ => k ls hl))
  · rw [if_neg (show ¬ (x.toInt = y.toInt) from ti_ne h)]
    exact T.lf k1 (fun p e s m below meth cd ls A H locs Q hf hw hl k => lv_icmp_ne hf.1 hf.2.1 hdg ht (fun _ => k ls hl) (fun g => absurd g h))
theorem T.if_lt {x : Int32} {off : Int} (hdg : decode cc pc = .ok (.ifCond .lt off, 3)) (ht : (pc : Int) + off = (pc1 : Int)) (k1 : T Y Γ cc nL own ret R0 As q pc1 lv rest X F1) (k2 : T Y Γ cc nL own ret R0 As q (pc + 3) lv rest X F2) : T Y Γ cc nL own ret R0 As q pc lv (.int x :: rest) X (if x.toInt < 0 then F1 else F2) := by
  by_cases h : x < (0 : Int32)
  · rw [if_pos (show x.toInt < 0 from ti_lt h)]
    exact T.lf k1 (fun p e s m below meth cd ls A H locs Q hf hw hl k => lv_if_lt hf.1 hf.2.1 hdg ht (fun _ => k ls hl) (fun g => absurd h g))
  · rw [if_neg (show ¬ (x.toInt < 0) from by have g : 0 ≤ x.toInt := ti_nlt h; omega)]
    exact T.lf k2 (fun p e s m below meth cd ls A H locs Q hf hw hl k => lv_if_lt hf.1 hf.2.1 hdg ht (fun g => absurd g h) (fun _ => k ls hl))
theorem T.icmp_lt {x y : Int32} {off : Int} (hdg : decode cc pc = .ok (.if_icmp .lt off, 3)) (ht : (pc : Int) + off = (pc1 : Int)) {b : Int} (hb : y.toInt = b) (k1 : T Y Γ cc nL own ret R0 As q pc1 lv rest X F1) (k2 : T Y Γ cc nL own ret R0 As q (pc + 3) lv rest X F2) : T Y Γ cc nL own ret R0 As q pc lv (.int y :: .int x :: rest) X (if x.toInt < b then F1 else F2) := by
  subst hb
  by_cases h : x < y
  · rw [if_pos (show x.toInt < y.toInt from ti_lt h)]
    exact T.lf k1 (fun p e s m below meth cd ls A H locs Q hf hw hl k => lv_icmp_lt hf.1 hf.2.1 hdg ht (fun _ => k ls hl) (fun g => absurd h g))
  · rw [if_neg (show ¬ (x.toInt < y.toInt) from by have g : y.toInt ≤ x.toInt := ti_nlt h; omega)]
    exact T.lf k2 (fun p e s m below meth cd ls A H locs Q hf hw hl k => lv_icmp_lt hf.1 hf.2.1 hdg ht (fun g => absurd g h) (fun _ => k ls hl))
theorem T.if_ge {x : Int32} {off : Int} (hdg : decode cc pc = .ok (.ifCond .ge off, 3)) (ht : (pc : Int) + off = (pc1 : Int)) (k1 : T Y Γ cc nL own ret R0 As q pc1 lv rest X F1) (k2 : T Y Γ cc nL own ret R0 As q (pc + 3) lv rest X F2) : T Y Γ cc nL own ret R0 As q pc lv (.int x :: rest) X (if 0 ≤ x.toInt then F1 else F2) := by
  by_cases h : (0 : Int32) ≤ x
  · rw [if_pos (show 0 ≤ x.toInt from ti_le h)]
    exact T.lf k1 (fun p e s m below meth cd ls A H locs Q hf hw hl k => lv_if_ge hf.1 hf.2.1 hdg ht (fun _ => k ls hl) (fun g => absurd h g))
  · rw [if_neg (show ¬ (0 ≤ x.toInt) from by have g : x.toInt < 0 := ti_nle h; omega)]
    exact T.lf k2 (fun p e s m below meth cd ls A H locs Q hf hw hl k => lv_if_ge hf.1 hf.2.1 hdg ht (fun g => absurd g h) (fun _ => k ls hl))
theorem T.icmp_ge {x y : Int32} {off : Int} (hdg : decode cc pc = .ok (.if_icmp .ge off, 3)) (ht : (pc : Int) + off = (pc1 : Int)) {b : Int} (hb : y.toInt = b) (k1 : T Y Γ cc nL own ret R0 As q pc1 lv rest X F1) (k2 : T Y Γ cc nL own ret R0 As q (pc + 3) lv rest X F2) : T Y Γ cc nL own ret R0 As q pc lv (.int y :: .int x :: rest) X (if b ≤ x.toInt then F1 else F2) := by
  subst hb
  by_cases h : y ≤ x
  · rw [if_pos (show y.toInt ≤ x.toInt from ti_le h)]
    exact T.lf k1 (fun p e s m below meth cd ls A H locs Q hf hw hl k => lv_icmp_ge hf.1 hf.2.1 hdg ht (fun _ => k ls hl) (fun g => absurd h g))
  · rw [if_neg (show ¬ (y.toInt ≤ x.toInt) from by have g : x.toInt < y.toInt := ti_nle h; omega)]
    exact T.lf k2 (fun p e s m below meth cd ls A H locs Q hf hw hl k => lv_icmp_ge hf.1 hf.2.1 hdg ht (fun g => absurd g h) (fun _ => k ls hl))
theorem T.if_gt {x : Int32} {off : Int} (hdg : decode cc pc = .ok (.ifCond .gt off, 3)) (ht : (pc : Int) + off = (pc1 : Int)) (k1 : T Y Γ cc nL own ret R0 As q pc1 lv rest X F1) (k2 : T Y Γ cc nL own ret R0 As q (pc + 3) lv rest X F2) : T Y Γ cc nL own ret R0 As q pc lv (.int x :: rest) X (if 0 < x.toInt then F1 else F2) := by
  by_cases h : (0 : Int32) < x
  · rw [if_pos (show 0 < x.toInt from ti_lt h)]
    exact T.lf k1 (fun p e s m below meth cd ls A H locs Q hf hw hl k => lv_if_gt hf.1 hf.2.1 hdg ht (fun _ => k ls hl) (fun g => absurd h g))
  · rw [if_neg (show ¬ (0 < x.toInt) from by have g : x.toInt ≤ 0 := ti_nlt h; omega)]
    exact T.lf k2 (fun p e s m below meth cd ls A H locs Q hf hw hl k => lv_if_gt hf.1 hf.2.1 hdg ht (fun g => absurd g h) (fun _ => k ls hl))
theorem T.icmp_gt {x y : Int32} {off : Int} (hdg : decode cc pc = .ok (.if_icmp .gt off, 3)) (ht : (pc : Int) + off = (pc1 : Int)) {b : Int} (hb : y.toInt = b) (k1 : T Y Γ cc nL own ret R0 As q pc1 lv rest X F1) (k2 : T Y Γ cc nL own ret R0 As q (pc + 3) lv rest X F2) : T Y Γ cc nL own ret R0 As q pc lv (.int y :: .int x :: rest) X (if b < x.toInt then F1 else F2) := by
  subst hb
  by_cases h : y < x
  · rw [if_pos (show y.toInt < x.toInt from ti_lt h)]
    exact T.lf k1 (fun p e s m below meth cd ls A H locs Q hf hw hl k => lv_icmp_gt hf.1 hf.2.1 hdg ht (fun _ => k ls hl) (fun g => absurd h g))
  · rw [if_neg (show ¬ (y.toInt < x.toInt) from by have g : x.toInt ≤ y.toInt := ti_nlt h; omega)]
    exact T.lf k2 (fun p e s m below meth cd ls A H locs Q hf hw hl k => lv_icmp_gt hf.1 hf.2.1 hdg ht (fun g => absurd g h) (fun _ => k ls hl))
theorem T.if_le {x : Int32} {off : Int} (hdg : decode cc pc = .ok (.ifCond .le off, 3)) (ht : (pc : Int) + off = (pc1 : Int)) (k1 : T Y Γ cc nL own ret R0 As q pc1 lv rest X F1) (k2 : T Y Γ cc nL own ret R0 As q (pc + 3) lv rest X F2) : T Y Γ cc nL own ret R0 As q pc lv (.int x :: rest) X (if x.toInt ≤ 0 then F1 else F2) := by
  by_cases h : x ≤ (0 : Int32)
  · rw [if_pos (show x.toInt ≤ 0 from ti_le h)]
    exact T.lf k1 (fun p e s m below meth cd ls A H locs Q hf hw hl k => lv_if_le hf.1 hf.2.1 hdg ht (fun _ => k ls hl) (fun g => absurd h g))
  · rw [if_neg (show ¬ (x.toInt ≤ 0) from by have g : 0 < x.toInt := ti_nle h; omega)]
    exact T.lf k2 (fun p e s m below meth cd ls A H locs Q hf hw hl k => lv_if_le hf.1 hf.2.1 hdg ht (fun g => absurd g h) (fun _ => k ls hl))
theorem T.icmp_le {x y : Int32} {off : Int} (hdg : decode cc pc = .ok (.if_icmp .le off, 3)) (ht : (pc : Int) + off = (pc1 : Int)) {b : Int} (hb : y.toInt = b) (k1 : T Y Γ cc nL own ret R0 As q pc1 lv rest X F1) (k2 : T Y Γ cc nL own ret R0 As q (pc + 3) lv rest X F2) : T Y Γ cc nL own ret R0 As q pc lv (.int y :: .int x :: rest) X (if x.toInt ≤ b then F1 else F2) := by
  subst hb
  by_cases h : x ≤ y
  · rw [if_pos (show x.toInt ≤ y.toInt from ti_le h)]
    exact T.lf k1 (fun p e s m below meth cd ls A H locs Q hf hw hl k => lv_icmp_le hf.1 hf.2.1 hdg ht (fun _ => k ls hl) (fun g => absurd h g))
  · rw [if_neg (show ¬ (x.toInt ≤ y.toInt) from by have g : y.toInt < x.toInt := ti_nle h; omega)]
    exact T.lf k2 (fun p e s m below meth cd ls A H locs Q hf hw hl k => lv_icmp_le hf.1 hf.2.1 hdg ht (fun g => absurd g h) (fun _ => k ls hl))
theorem T.getI {C : String} {TT : u_T} {N ci : Nat} (e : Nat) (hE : isO Y e ci N) (hcl : classes[ci]? = some (C, TT, N)) (hin : ∀ w ∈ u_ws C TT N, w ∈ gtb) (k : Nat) (hk : k < N) (hkd : kY Y e k = 0) (hlink : (Cond.fieldLink own index (TT k).1 (TT k).2.1 (TT k).2.2.1) ∈ gtb) (hdg : decode cc pc = .ok (.getfield index, 3)) {Kf : Int32 → Option (ρ × St)} (kk : ∀ w : Int32, T Y Γ cc nL own ret R0 As q (pc + 3) lv (.int w :: rest) X (Kf w)) : T Y Γ cc nL own ret R0 As q pc lv (.ref (Γ.2.2.2.1 e) :: rest) X (letV (X.1 e k) Kf) :=
  T.lf (F := letV (X.1 e k) Kf) (kk (X.1 e k)) (fun p e0 s m below meth cd ls A H locs Q hf hw hl kk => mget hf hw hin e (GW_o hE) hcl k hk hlink (fs_get hk) hdg (by rw [show fvE _ X e k (kY Y e k) = .int (X.1 e k) from by rw [hkd]; rfl]; exact kk ls hl))
theorem T.getL {C : String} {TT : u_T} {N ci : Nat} (e : Nat) (hE : isO Y e ci N) (hcl : classes[ci]? = some (C, TT, N)) (hin : ∀ w ∈ u_ws C TT N, w ∈ gtb) (k : Nat) (hk : k < N) (hkd : kY Y e k = 1) (hlink : (Cond.fieldLink own index (TT k).1 (TT k).2.1 (TT k).2.2.1) ∈ gtb) (hdg : decode cc pc = .ok (.getfield index, 3)) {Kf : Int64 → Option (ρ × St)} (kk : ∀ w : Int64, T Y Γ cc nL own ret R0 As q (pc + 3) lv (.long w :: rest) X (Kf w)) : T Y Γ cc nL own ret R0 As q pc lv (.ref (Γ.2.2.2.1 e) :: rest) X (letV (X.2.1 e k) Kf) :=
  T.lf (F := letV (X.2.1 e k) Kf) (kk (X.2.1 e k)) (fun p e0 s m below meth cd ls A H locs Q hf hw hl kk => mget hf hw hin e (GW_o hE) hcl k hk hlink (fs_get hk) hdg (by rw [show fvE _ X e k (kY Y e k) = .long (X.2.1 e k) from by rw [hkd]; rfl]; exact kk ls hl))
theorem T.getC {C : String} {TT : u_T} {N ci : Nat} (e : Nat) (hE : isO Y e ci N) (hcl : classes[ci]? = some (C, TT, N)) (hin : ∀ w ∈ u_ws C TT N, w ∈ gtb) (k : Nat) (hk : k < N) {c : Nat} (hkd : kY Y e k = c + 3) (hlink : (Cond.fieldLink own index (TT k).1 (TT k).2.1 (TT k).2.2.1) ∈ gtb) (hdg : decode cc pc = .ok (.getfield index, 3)) (kk : T Y Γ cc nL own ret R0 As q (pc + 3) lv (.ref (Γ.2.2.2.1 c) :: rest) X F) : T Y Γ cc nL own ret R0 As q pc lv (.ref (Γ.2.2.2.1 e) :: rest) X F :=
  T.lf kk (fun p e0 s m below meth cd ls A H locs Q hf hw hl kk => mget hf hw hin e (GW_o hE) hcl k hk hlink (fs_get hk) hdg (by rw [show fvE _ X e k (kY Y e k) = .ref (Γ.2.2.2.1 c) from by rw [hkd]; rfl]; exact kk ls hl))
theorem T.getCv {C : String} {TT : u_T} {N ci : Nat} (e : Nat) (hE : isO Y e ci N) (hcl : classes[ci]? = some (C, TT, N)) (hin : ∀ w ∈ u_ws C TT N, w ∈ gtb) (k : Nat) (hk : k < N) (hkd : 3 ≤ kY Y e k) (hlink : (Cond.fieldLink own index (TT k).1 (TT k).2.1 (TT k).2.2.1) ∈ gtb) (hdg : decode cc pc = .ok (.getfield index, 3)) {Kf : Nat → Option (ρ × St)} (kk : ∀ c : Nat, c = kY Y e k - 3 → T Y Γ cc nL own ret R0 As q (pc + 3) lv (.ref (Γ.2.2.2.1 c) :: rest) X (Kf c)) : T Y Γ cc nL own ret R0 As q pc lv (.ref (Γ.2.2.2.1 e) :: rest) X (letV (kY Y e k - 3) Kf) :=
  T.getC (F := letV (kY Y e k - 3) Kf) e hE hcl hin k hk (c := kY Y e k - 3) (by omega) hlink hdg (kk _ rfl)
theorem T.getR {C : String} {TT : u_T} {N ci : Nat} (e : Nat) (hE : isO Y e ci N) (hcl : classes[ci]? = some (C, TT, N)) (hin : ∀ w ∈ u_ws C TT N, w ∈ gtb) (k : Nat) (hk : k < N) (hkd : kY Y e k = 2) (hlink : (Cond.fieldLink own index (TT k).1 (TT k).2.1 (TT k).2.2.1) ∈ gtb) (hdg : decode cc pc = .ok (.getfield index, 3)) {Kf : Nat → Option (ρ × St)} (kk : ∀ r : Nat, T Y Γ cc nL own ret R0 As q (pc + 3) lv (.ref (Γ.2.2.2.1 r) :: rest) X (Kf r)) : T Y Γ cc nL own ret R0 As q pc lv (.ref (Γ.2.2.2.1 e) :: rest) X (chk (¬ X.2.2 e k = 0) (letV (X.2.2 e k - 1) Kf)) :=
  T.ck (fun hn => T.lf (F := letV (X.2.2 e k - 1) Kf) (kk (X.2.2 e k - 1)) (fun p e0 s m below meth cd ls A H locs Q hf hw hl kk => mget hf hw hin e (GW_o hE) hcl k hk hlink (fs_get hk) hdg (by rw [show fvE _ X e k (kY Y e k) = .ref (Γ.2.2.2.1 (X.2.2 e k - 1)) from by rw [hkd]; exact if_neg hn]; exact kk ls hl)))
theorem T.putI {w : Int32} {C : String} {TT : u_T} {N ci : Nat} (e : Nat) (hE : isO Y e ci N) (hcl : classes[ci]? = some (C, TT, N)) (hin : ∀ w ∈ u_ws C TT N, w ∈ gtb) (k : Nat) (hk : k < N) (hkd : kY Y e k = 0) (hlink : (Cond.fieldLink own index (TT k).1 (TT k).2.1 (TT k).2.2.1) ∈ gtb) (ty0 : Nat → FieldType) (hty : ∀ k, k < N → parseFieldDescriptor (TT k).2.2.1 = some (ty0 k)) (hnm : ∀ a, a < N → ∀ b, b < N → a ≠ b → (TT a).2.1 ≠ (TT b).2.1) (hfin : (TT k).2.2.2 = false) (hn : narrow (ty0 k) (.int w) = .int w) (hfit : fits (ty0 k) (.int w) = true) (hdg : decode cc pc = .ok (.putfield index, 3)) {Kf : St → Option (ρ × St)} (kk : ∀ X1 : St, T Y Γ cc nL own ret R0 As q (pc + 3) lv rest X1 (Kf X1)) : T Y Γ cc nL own ret R0 As q pc lv (.int w :: .ref (Γ.2.2.2.1 e) :: rest) X (letV (wI X e k w) Kf) :=
  T.lift (X1 := wI X e k w) (F := letV (wI X e k w) Kf) (kk (wI X e k w)) (fun p e0 s m below meth cd ls A H locs Q hf hw hl kk => mput hf hw hin ty0 hty hnm e (GW_o hE) hcl k hk hlink hfin hn hfit (by simpa using hk) (GW_so hE (show fvE _ (wI X e k w) e k (kY Y e k) = .int w from by rw [hkd]; exact congrArg Value.int ((congrFun (uA_at X.1 e (upd (X.1 e) k w)) k).trans (if_pos rfl))) (fun j hj => uA_ne _ _ _ hj) (fun _ _ => rfl) (fun _ _ => rfl) (fun j hj => by show uA X.1 e _ e j = _; rw [uA_at]; exact if_neg hj) (fun _ _ => rfl) (fun _ _ => rfl)) hdg (fun H1 locs1 hw1 => kk ls H1 locs1 hw1 hl))
theorem T.putL {w : Int64} {C : String} {TT : u_T} {N ci : Nat} (e : Nat) (hE : isO Y e ci N) (hcl : classes[ci]? = some (C, TT, N)) (hin : ∀ w ∈ u_ws C TT N, w ∈ gtb) (k : Nat) (hk : k < N) (hkd : kY Y e k = 1) (hlink : (Cond.fieldLink own index (TT k).1 (TT k).2.1 (TT k).2.2.1) ∈ gtb) (ty0 : Nat → FieldType) (hty : ∀ k, k < N → parseFieldDescriptor (TT k).2.2.1 = some (ty0 k)) (hnm : ∀ a, a < N → ∀ b, b < N → a ≠ b → (TT a).2.1 ≠ (TT b).2.1) (hfin : (TT k).2.2.2 = false) (hn : narrow (ty0 k) (.long w) = .long w) (hfit : fits (ty0 k) (.long w) = true) (hdg : decode cc pc = .ok (.putfield index, 3)) {Kf : St → Option (ρ × St)} (kk : ∀ X1 : St, T Y Γ cc nL own ret R0 As q (pc + 3) lv rest X1 (Kf X1)) : T Y Γ cc nL own ret R0 As q pc lv (.long w :: .ref (Γ.2.2.2.1 e) :: rest) X (letV (wL X e k w) Kf) :=
  T.lift (X1 := wL X e k w) (F := letV (wL X e k w) Kf) (kk (wL X e k w)) (fun p e0 s m below meth cd ls A H locs Q hf hw hl kk => mput hf hw hin ty0 hty hnm e (GW_o hE) hcl k hk hlink hfin hn hfit (by simpa using hk) (GW_so hE (show fvE _ (wL X e k w) e k (kY Y e k) = .long w from by rw [hkd]; exact congrArg Value.long ((congrFun (uA_at X.2.1 e (vp_updL (X.2.1 e) k w)) k).trans (if_pos rfl))) (fun _ _ => rfl) (fun j hj => uA_ne _ _ _ hj) (fun _ _ => rfl) (fun _ _ => rfl) (fun j hj => by show uA X.2.1 e _ e j = _; rw [uA_at]; exact if_neg hj) (fun _ _ => rfl)) hdg (fun H1 locs1 hw1 => kk ls H1 locs1 hw1 hl))
theorem T.putR {w : Nat} {C : String} {TT : u_T} {N ci : Nat} (e : Nat) (hE : isO Y e ci N) (hcl : classes[ci]? = some (C, TT, N)) (hin : ∀ w ∈ u_ws C TT N, w ∈ gtb) (k : Nat) (hk : k < N) (hkd : kY Y e k = 2) (hlink : (Cond.fieldLink own index (TT k).1 (TT k).2.1 (TT k).2.2.1) ∈ gtb) (ty0 : Nat → FieldType) (hty : ∀ k, k < N → parseFieldDescriptor (TT k).2.2.1 = some (ty0 k)) (hnm : ∀ a, a < N → ∀ b, b < N → a ≠ b → (TT a).2.1 ≠ (TT b).2.1) (hfin : (TT k).2.2.2 = false) (hn : narrow (ty0 k) (.ref (Γ.2.2.2.1 w)) = .ref (Γ.2.2.2.1 w)) (hfit : fits (ty0 k) (.ref (Γ.2.2.2.1 w)) = true) (hdg : decode cc pc = .ok (.putfield index, 3)) {Kf : St → Option (ρ × St)} (kk : ∀ X1 : St, T Y Γ cc nL own ret R0 As q (pc + 3) lv rest X1 (Kf X1)) : T Y Γ cc nL own ret R0 As q pc lv (.ref (Γ.2.2.2.1 w) :: .ref (Γ.2.2.2.1 e) :: rest) X (letV (wR X e k (w + 1)) Kf) :=
  T.lift (X1 := wR X e k (w + 1)) (F := letV (wR X e k (w + 1)) Kf) (kk (wR X e k (w + 1))) (fun p e0 s m below meth cd ls A H locs Q hf hw hl kk => mput hf hw hin ty0 hty hnm e (GW_o hE) hcl k hk hlink hfin hn hfit (by simpa using hk) (GW_so hE (show fvE Γ.2.2.2.1 (wR X e k (w + 1)) e k (kY Y e k) = .ref (Γ.2.2.2.1 w) from by rw [hkd]; have h0 : (wR X e k (w + 1)).2.2 e k = w + 1 := (congrFun (uA_at X.2.2 e (fun j => if j = k then w + 1 else X.2.2 e j)) k).trans (if_pos rfl); show (if (wR X e k (w + 1)).2.2 e k = 0 then Value.null else .ref (Γ.2.2.2.1 ((wR X e k (w + 1)).2.2 e k - 1))) = _; rw [h0]; rfl) (fun _ _ => rfl) (fun _ _ => rfl) (fun j hj => uA_ne _ _ _ hj) (fun _ _ => rfl) (fun _ _ => rfl) (fun j hj => by show uA X.2.2 e _ e j = _; rw [uA_at]; exact if_neg hj)) hdg (fun H1 locs1 hw1 => kk ls H1 locs1 hw1 hl))
theorem T.iald {z : Nat} (e : Nat) (hA : isA Y e 1 z .int) {x : Int32} (hdg : decode cc pc = .ok (.iaload, 1)) {Kf : Int32 → Option (ρ × St)} (kk : ∀ w : Int32, T Y Γ cc nL own ret R0 As q (pc + 1) lv (.int w :: rest) X (Kf w)) : T Y Γ cc nL own ret R0 As q pc lv (.int x :: .ref (Γ.2.2.2.1 e) :: rest) X (chk (inR x z) (letV (X.1 e (ix x)) Kf)) := by
  obtain ⟨t0, ht0⟩ := GT_a (t := 0) (cA := Γ.2.2.2.2) hA (by decide)
  exact T.ck (fun hx => T.lf (F := letV (X.1 e (ix x)) Kf) (kk (X.1 e (ix x))) (fun p e0 s m below meth cd ls A H locs Q hf hw hl kk => miald hf hw e t0 (GW_a hA) ht0 (ti_in hx.1 hx.2) hdg (kk ls hl)))
theorem T.bald {z : Nat} (e : Nat) (hA : isA Y e 1 z .byte) {x : Int32} (hdg : decode cc pc = .ok (.baload, 1)) {Kf : Int32 → Option (ρ × St)} (kk : ∀ w : Int32, T Y Γ cc nL own ret R0 As q (pc + 1) lv (.int w :: rest) X (Kf w)) : T Y Γ cc nL own ret R0 As q pc lv (.int x :: .ref (Γ.2.2.2.1 e) :: rest) X (chk (inR x z) (letV (X.1 e (ix x)) Kf)) := by
  obtain ⟨t0, ht0⟩ := GT_a (t := 0) (cA := Γ.2.2.2.2) hA (by decide)
  exact T.ck (fun hx => T.lf (F := letV (X.1 e (ix x)) Kf) (kk (X.1 e (ix x))) (fun p e0 s m below meth cd ls A H locs Q hf hw hl kk => mbald hf hw e t0 (GW_a hA) ht0 (ti_in hx.1 hx.2) hdg (kk ls hl)))
theorem T.zald {z : Nat} (e : Nat) (hA : isA Y e 1 z .boolean) {x : Int32} (hdg : decode cc pc = .ok (.baload, 1)) {Kf : Int32 → Option (ρ × St)} (kk : ∀ w : Int32, T Y Γ cc nL own ret R0 As q (pc + 1) lv (.int w :: rest) X (Kf w)) : T Y Γ cc nL own ret R0 As q pc lv (.int x :: .ref (Γ.2.2.2.1 e) :: rest) X (chk (inR x z) (letV (X.1 e (ix x)) Kf)) := by
  obtain ⟨t0, ht0⟩ := GT_a (t := 0) (cA := Γ.2.2.2.2) hA (by decide)
  exact T.ck (fun hx => T.lf (F := letV (X.1 e (ix x)) Kf) (kk (X.1 e (ix x))) (fun p e0 s m below meth cd ls A H locs Q hf hw hl kk => mzald hf hw e t0 (GW_a hA) ht0 (ti_in hx.1 hx.2) hdg (kk ls hl)))
theorem T.lald {z : Nat} (e : Nat) (hA : isA Y e 2 z .long) {x : Int32} (hdg : decode cc pc = .ok (.laload, 1)) {Kf : Int64 → Option (ρ × St)} (kk : ∀ w : Int64, T Y Γ cc nL own ret R0 As q (pc + 1) lv (.long w :: rest) X (Kf w)) : T Y Γ cc nL own ret R0 As q pc lv (.int x :: .ref (Γ.2.2.2.1 e) :: rest) X (chk (inR x z) (letV (X.2.1 e (ix x)) Kf)) := by
  obtain ⟨t0, ht0⟩ := GT_a (t := 1) (cA := Γ.2.2.2.2) hA (by decide)
  exact T.ck (fun hx => T.lf (F := letV (X.2.1 e (ix x)) Kf) (kk (X.2.1 e (ix x))) (fun p e0 s m below meth cd ls A H locs Q hf hw hl kk => mlald hf hw e t0 (GW_b hA) ht0 (ti_in hx.1 hx.2) hdg (kk ls hl)))
theorem T.iast {z : Nat} (e : Nat) (hA : isA Y e 1 z .int) {x : Int32} {w : Int32} (hdg : decode cc pc = .ok (.iastore, 1)) {Kf : St → Option (ρ × St)} (kk : ∀ X1 : St, T Y Γ cc nL own ret R0 As q (pc + 1) lv rest X1 (Kf X1)) : T Y Γ cc nL own ret R0 As q pc lv (.int w :: .int x :: .ref (Γ.2.2.2.1 e) :: rest) X (chk (inR x z) (letV (wI X e (ix x) w) Kf)) := by
  obtain ⟨t0, ht0⟩ := GT_a (t := 0) (cA := Γ.2.2.2.2) hA (by decide)
  exact T.ck (fun hx => T.lift (X1 := wI X e (ix x) w) (F := letV (wI X e (ix x) w) Kf) (kk (wI X e (ix x) w)) (fun p e0 s m below meth cd ls A H locs Q hf hw hl kk => miast hf hw e t0 (GW_a hA) ht0 (ti_in hx.1 hx.2) hdg (fun f1 e1 H1 locs1 hw1 => kk ls H1 locs1 (by have h := hw1; rw [e1] at h; rw [show (GW Y Γ.2.2.2.1 Γ.2.2.2.2 X).set e _ = GW Y Γ.2.2.2.1 Γ.2.2.2.2 (wI X e (ix x) w) from GW_set (by obtain ⟨q1, q2, q3⟩ := hA; unfold entE; rw [if_neg (by rw [q1]; decide), if_pos q1, q2]; show Sum.inl (_, _, Sum.inl (uA X.1 e _ e)) = _; rw [uA_at]; rfl) (fun j hj => uA_ne _ _ _ hj) (fun _ _ => rfl) (fun _ _ => rfl)] at h; exact h) hl)))
theorem T.bast {z : Nat} (e : Nat) (hA : isA Y e 1 z .byte) {x : Int32} {w : Int32} (hdg : decode cc pc = .ok (.bastore, 1)) {Kf : St → Option (ρ × St)} (kk : ∀ X1 : St, T Y Γ cc nL own ret R0 As q (pc + 1) lv rest X1 (Kf X1)) : T Y Γ cc nL own ret R0 As q pc lv (.int w :: .int x :: .ref (Γ.2.2.2.1 e) :: rest) X (chk (inR x z) (letV (wI X e (ix x) (vp_nar .byte w)) Kf)) := by
  obtain ⟨t0, ht0⟩ := GT_a (t := 0) (cA := Γ.2.2.2.2) hA (by decide)
  exact T.ck (fun hx => T.lift (X1 := wI X e (ix x) (vp_nar .byte w)) (F := letV (wI X e (ix x) (vp_nar .byte w)) Kf) (kk (wI X e (ix x) (vp_nar .byte w))) (fun p e0 s m below meth cd ls A H locs Q hf hw hl kk => mbast hf hw e t0 (GW_a hA) ht0 (ti_in hx.1 hx.2) hdg (fun f1 e1 H1 locs1 hw1 => kk ls H1 locs1 (by have h := hw1; rw [e1] at h; rw [show (GW Y Γ.2.2.2.1 Γ.2.2.2.2 X).set e _ = GW Y Γ.2.2.2.1 Γ.2.2.2.2 (wI X e (ix x) (vp_nar .byte w)) from GW_set (by obtain ⟨q1, q2, q3⟩ := hA; unfold entE; rw [if_neg (by rw [q1]; decide), if_pos q1, q2]; show Sum.inl (_, _, Sum.inl (uA X.1 e _ e)) = _; rw [uA_at]; rfl) (fun j hj => uA_ne _ _ _ hj) (fun _ _ => rfl) (fun _ _ => rfl)] at h; exact h) hl)))
theorem T.zast {z : Nat} (e : Nat) (hA : isA Y e 1 z .boolean) {x : Int32} {w : Int32} (hdg : decode cc pc = .ok (.bastore, 1)) {Kf : St → Option (ρ × St)} (kk : ∀ X1 : St, T Y Γ cc nL own ret R0 As q (pc + 1) lv rest X1 (Kf X1)) : T Y Γ cc nL own ret R0 As q pc lv (.int w :: .int x :: .ref (Γ.2.2.2.1 e) :: rest) X (chk (inR x z) (letV (wI X e (ix x) (vp_nar .boolean w)) Kf)) := by
  obtain ⟨t0, ht0⟩ := GT_a (t := 0) (cA := Γ.2.2.2.2) hA (by decide)
  exact T.ck (fun hx => T.lift (X1 := wI X e (ix x) (vp_nar .boolean w)) (F := letV (wI X e (ix x) (vp_nar .boolean w)) Kf) (kk (wI X e (ix x) (vp_nar .boolean w))) (fun p e0 s m below meth cd ls A H locs Q hf hw hl kk => mzast hf hw e t0 (GW_a hA) ht0 (ti_in hx.1 hx.2) hdg (fun f1 e1 H1 locs1 hw1 => kk ls H1 locs1 (by have h := hw1; rw [e1] at h; rw [show (GW Y Γ.2.2.2.1 Γ.2.2.2.2 X).set e _ = GW Y Γ.2.2.2.1 Γ.2.2.2.2 (wI X e (ix x) (vp_nar .boolean w)) from GW_set (by obtain ⟨q1, q2, q3⟩ := hA; unfold entE; rw [if_neg (by rw [q1]; decide), if_pos q1, q2]; show Sum.inl (_, _, Sum.inl (uA X.1 e _ e)) = _; rw [uA_at]; rfl) (fun j hj => uA_ne _ _ _ hj) (fun _ _ => rfl) (fun _ _ => rfl)] at h; exact h) hl)))
theorem T.last {z : Nat} (e : Nat) (hA : isA Y e 2 z .long) {x : Int32} {w : Int64} (hdg : decode cc pc = .ok (.lastore, 1)) {Kf : St → Option (ρ × St)} (kk : ∀ X1 : St, T Y Γ cc nL own ret R0 As q (pc + 1) lv rest X1 (Kf X1)) : T Y Γ cc nL own ret R0 As q pc lv (.long w :: .int x :: .ref (Γ.2.2.2.1 e) :: rest) X (chk (inR x z) (letV (wL X e (ix x) w) Kf)) := by
  obtain ⟨t0, ht0⟩ := GT_a (t := 1) (cA := Γ.2.2.2.2) hA (by decide)
  exact T.ck (fun hx => T.lift (X1 := wL X e (ix x) w) (F := letV (wL X e (ix x) w) Kf) (kk (wL X e (ix x) w)) (fun p e0 s m below meth cd ls A H locs Q hf hw hl kk => mlast hf hw e t0 (GW_b hA) ht0 (ti_in hx.1 hx.2) hdg (fun f1 e1 H1 locs1 hw1 => kk ls H1 locs1 (by have h := hw1; rw [e1] at h; rw [show (GW Y Γ.2.2.2.1 Γ.2.2.2.2 X).set e _ = GW Y Γ.2.2.2.1 Γ.2.2.2.2 (wL X e (ix x) w) from GW_set (by obtain ⟨q1, q2, q3⟩ := hA; unfold entE; rw [if_neg (by rw [q1]; decide), if_neg (by rw [q1]; decide), q2]; show Sum.inl (_, _, Sum.inr (Sum.inl (uA X.2.1 e _ e))) = _; rw [uA_at]; rfl) (fun _ _ => rfl) (fun j hj => uA_ne _ _ _ hj) (fun _ _ => rfl)] at h; exact h) hl)))
theorem T.alen {t z : Nat} {ft : FieldType} (e : Nat) (hA : isA Y e t z ft) (ht : t = 1 ∨ t = 2) {v : Int32} (hv : Int32.ofNat z = v) (hdg : decode cc pc = .ok (.arraylength, 1)) (kk : T Y Γ cc nL own ret R0 As q (pc + 1) lv (.int v :: rest) X F) : T Y Γ cc nL own ret R0 As q pc lv (.ref (Γ.2.2.2.1 e) :: rest) X F := by
  rcases ht with rfl | rfl
  · obtain ⟨t0, ht0⟩ := GT_a (t := 0) (cA := Γ.2.2.2.2) hA (by decide)
    exact T.lf kk (fun p e0 s m below meth cd ls A H locs Q hf hw hl kk => malen hf hw e t0 (GW_a hA) ht0 hv hdg (kk ls hl))
  · obtain ⟨t0, ht0⟩ := GT_a (t := 1) (cA := Γ.2.2.2.2) hA (by decide)
    exact T.lf kk (fun p e0 s m below meth cd ls A H locs Q hf hw hl kk => malen hf hw e t0 (GW_b hA) ht0 hv hdg (kk ls hl))
theorem T.callV_i (eo : Nat) {G : Option (Int32 × St)} (hM : TMI Y Γ y cc1 nL1 own1 ret1 R1 (.ref (Γ.2.2.2.1 eo) :: As1) X G) (hk : KA y cc1 nL1 ret1 n) (hv : KV y) {TT : u_T} {N ci : Nat} (hE : isO Y eo ci N) (hcl : classes[ci]? = some (y.cls, TT, N)) (hlink : Cond.methodLink own index y ∈ gtb) (hst : st0 = As1.reverse ++ .ref (Γ.2.2.2.1 eo) :: rest) (hn : As1.length = n) (hrc : R1.cells = 0) (hrs : R1.slots = 0) (hR : R1.frames + 1 ≤ R0.frames ∧ 8 + (nL1 + 11) + R1.locals ≤ R0.locals) (hcat : (rest.map fun v => v.category).sum ≤ 8) (hdg : decode cc pc = .ok (.invokevirtual index, 3)) {Kf : Int32 → St → Option (ρ × St)} (kk : ∀ (r : Int32) (X1 : St), T Y Γ cc nL own ret R0 As q (pc + 3) lv (.int r :: rest) X1 (Kf r X1)) : T Y Γ cc nL own ret R0 As q pc lv st0 X (bnd G Kf) := by
  intro r X' hF p e s m below meth c ls A H locs hf hret hlk hw hl
  match G, hM, hF with
  | none, _, hF => exact nomatch hF
  | some (r1, X1), hM, hF =>
    refine mV_i (wr := []) (tr := []) hf hw (hM r1 X1 rfl H.size) hk hv eo (GW_o hE) hcl hlink (List.range (GW Y Γ.2.2.2.1 Γ.2.2.2.2 X).length) (List.range (GT Y Γ.2.2.2.2).length) [] [] (MW_all rfl) (va_nd_range _) (MT_all rfl) rfl rfl (fun _ h => absurd h List.not_mem_nil) rfl hst hn hl.1 hrc hrs hR hcat rfl rfl ⟨Nat.zero_le _, Nat.zero_le _⟩ hdg (fun r' x hx H1 locs1 hw1 => ?_)
    obtain ⟨hr1, hx⟩ := hx
    subst hr1
    subst hx
    exact kk _ _ r X' hF p e s m below meth c ls A H1 locs1 hf hret hlk hw1 hl
theorem T.callVN_i {host : String} (eo : Nat) {G : Option (Int32 × St)} (hM : TMI Y Γ y cc1 nL1 own1 ret1 R1 (.ref (Γ.2.2.2.1 eo) :: As1) X G) (hk : KA y cc1 nL1 ret1 n) (hv : KV y) {TT : u_T} {N ci : Nat} (hE : isO Y eo ci N) (hcl : classes[ci]? = some (y.cls, TT, N)) (hlink : Cond.methodLinkNest own index y host ∈ lw_tbl) (hst : st0 = As1.reverse ++ .ref (Γ.2.2.2.1 eo) :: rest) (hn : As1.length = n) (hrc : R1.cells = 0) (hrs : R1.slots = 0) (hR : R1.frames + 1 ≤ R0.frames ∧ 8 + (nL1 + 11) + R1.locals ≤ R0.locals) (hcat : (rest.map fun v => v.category).sum ≤ 8) (hdg : decode cc pc = .ok (.invokevirtual index, 3)) {Kf : Int32 → St → Option (ρ × St)} (kk : ∀ (r : Int32) (X1 : St), T Y Γ cc nL own ret R0 As q (pc + 3) lv (.int r :: rest) X1 (Kf r X1)) : T Y Γ cc nL own ret R0 As q pc lv st0 X (bnd G Kf) := by
  intro r X' hF p e s m below meth c ls A H locs hf hret hlk hw hl
  match G, hM, hF with
  | none, _, hF => exact nomatch hF
  | some (r1, X1), hM, hF =>
    refine mVN_i (wr := []) (tr := []) hf hw (hM r1 X1 rfl H.size) hk hv eo (GW_o hE) hcl hlink (List.range (GW Y Γ.2.2.2.1 Γ.2.2.2.2 X).length) (List.range (GT Y Γ.2.2.2.2).length) [] [] (MW_all rfl) (va_nd_range _) (MT_all rfl) rfl rfl (fun _ h => absurd h List.not_mem_nil) rfl hst hn hl.1 hrc hrs hR hcat rfl rfl ⟨Nat.zero_le _, Nat.zero_le _⟩ hdg (fun r' x hx H1 locs1 hw1 => ?_)
    obtain ⟨hr1, hx⟩ := hx
    subst hr1
    subst hx
    exact kk _ _ r X' hF p e s m below meth c ls A H1 locs1 hf hret hlk hw1 hl
theorem T.callS_i {G : Option (Int32 × St)} (hM : TMI Y Γ y cc1 nL1 own1 ret1 R1 As1 X G) (hk : KA y cc1 nL1 ret1 n) (hv : Cond.static y ∈ gtb) (hlink : Cond.methodLink own index y ∈ gtb) (hst : st0 = As1.reverse ++ rest) (hn : As1.length = n) (hrc : R1.cells = 0) (hrs : R1.slots = 0) (hR : R1.frames + 1 ≤ R0.frames ∧ 8 + (nL1 + 11) + R1.locals ≤ R0.locals) (hcat : (rest.map fun v => v.category).sum ≤ 8) (hdg : decode cc pc = .ok (.invokestatic index, 3)) {Kf : Int32 → St → Option (ρ × St)} (kk : ∀ (r : Int32) (X1 : St), T Y Γ cc nL own ret R0 As q (pc + 3) lv (.int r :: rest) X1 (Kf r X1)) : T Y Γ cc nL own ret R0 As q pc lv st0 X (bnd G Kf) := by
  intro r X' hF p e s m below meth c ls A H locs hf hret hlk hw hl
  match G, hM, hF with
  | none, _, hF => exact nomatch hF
  | some (r1, X1), hM, hF =>
    refine mS_i (wr := []) (tr := []) hf hw (hM r1 X1 rfl H.size) hk hv hlink (List.range (GW Y Γ.2.2.2.1 Γ.2.2.2.2 X).length) (List.range (GT Y Γ.2.2.2.2).length) [] [] (MW_all rfl) (va_nd_range _) (MT_all rfl) rfl rfl (fun _ h => absurd h List.not_mem_nil) rfl hst hn hl.1 hrc hrs hR hcat rfl rfl ⟨Nat.zero_le _, Nat.zero_le _⟩ hdg (fun r' x hx H1 locs1 hw1 => ?_)
    obtain ⟨hr1, hx⟩ := hx
    subst hr1
    subst hx
    exact kk _ _ r X' hF p e s m below meth c ls A H1 locs1 hf hret hlk hw1 hl
theorem T.callSN_i {host : String} {G : Option (Int32 × St)} (hM : TMI Y Γ y cc1 nL1 own1 ret1 R1 As1 X G) (hk : KA y cc1 nL1 ret1 n) (hv : Cond.static y ∈ gtb) (hlink : Cond.methodLinkNest own index y host ∈ lw_tbl) (hst : st0 = As1.reverse ++ rest) (hn : As1.length = n) (hrc : R1.cells = 0) (hrs : R1.slots = 0) (hR : R1.frames + 1 ≤ R0.frames ∧ 8 + (nL1 + 11) + R1.locals ≤ R0.locals) (hcat : (rest.map fun v => v.category).sum ≤ 8) (hdg : decode cc pc = .ok (.invokestatic index, 3)) {Kf : Int32 → St → Option (ρ × St)} (kk : ∀ (r : Int32) (X1 : St), T Y Γ cc nL own ret R0 As q (pc + 3) lv (.int r :: rest) X1 (Kf r X1)) : T Y Γ cc nL own ret R0 As q pc lv st0 X (bnd G Kf) := by
  intro r X' hF p e s m below meth c ls A H locs hf hret hlk hw hl
  match G, hM, hF with
  | none, _, hF => exact nomatch hF
  | some (r1, X1), hM, hF =>
    refine mSN_i (wr := []) (tr := []) hf hw (hM r1 X1 rfl H.size) hk hv hlink (List.range (GW Y Γ.2.2.2.1 Γ.2.2.2.2 X).length) (List.range (GT Y Γ.2.2.2.2).length) [] [] (MW_all rfl) (va_nd_range _) (MT_all rfl) rfl rfl (fun _ h => absurd h List.not_mem_nil) rfl hst hn hl.1 hrc hrs hR hcat rfl rfl ⟨Nat.zero_le _, Nat.zero_le _⟩ hdg (fun r' x hx H1 locs1 hw1 => ?_)
    obtain ⟨hr1, hx⟩ := hx
    subst hr1
    subst hx
    exact kk _ _ r X' hF p e s m below meth c ls A H1 locs1 hf hret hlk hw1 hl
theorem T.callV_v (eo : Nat) {G : Option (Int32 × St)} (hM : TMV Y Γ y cc1 nL1 own1 ret1 R1 (.ref (Γ.2.2.2.1 eo) :: As1) X G) (hk : KA y cc1 nL1 ret1 n) (hv : KV y) {TT : u_T} {N ci : Nat} (hE : isO Y eo ci N) (hcl : classes[ci]? = some (y.cls, TT, N)) (hlink : Cond.methodLink own index y ∈ gtb) (hst : st0 = As1.reverse ++ .ref (Γ.2.2.2.1 eo) :: rest) (hn : As1.length = n) (hrc : R1.cells = 0) (hrs : R1.slots = 0) (hR : R1.frames + 1 ≤ R0.frames ∧ 8 + (nL1 + 11) + R1.locals ≤ R0.locals) (hcat : (rest.map fun v => v.category).sum ≤ 8) (hdg : decode cc pc = .ok (.invokevirtual index, 3)) {Kf : Int32 → St → Option (ρ × St)} (kk : ∀ (r : Int32) (X1 : St), T Y Γ cc nL own ret R0 As q (pc + 3) lv (rest) X1 (Kf r X1)) : T Y Γ cc nL own ret R0 As q pc lv st0 X (bnd G Kf) := by
  intro r X' hF p e s m below meth c ls A H locs hf hret hlk hw hl
  match G, hM, hF with
  | none, _, hF => exact nomatch hF
  | some (r1, X1), hM, hF =>
    refine mV_v (wr := []) (tr := []) hf hw (hM r1 X1 rfl H.size) hk hv eo (GW_o hE) hcl hlink (List.range (GW Y Γ.2.2.2.1 Γ.2.2.2.2 X).length) (List.range (GT Y Γ.2.2.2.2).length) [] [] (MW_all rfl) (va_nd_range _) (MT_all rfl) rfl rfl (fun _ h => absurd h List.not_mem_nil) rfl hst hn hl.1 hrc hrs hR hcat rfl rfl ⟨Nat.zero_le _, Nat.zero_le _⟩ hdg (fun x hx H1 locs1 hw1 => ?_)
    subst hx
    exact kk r1 _ r X' hF p e s m below meth c ls A H1 locs1 hf hret hlk hw1 hl
theorem T.callVN_v {host : String} (eo : Nat) {G : Option (Int32 × St)} (hM : TMV Y Γ y cc1 nL1 own1 ret1 R1 (.ref (Γ.2.2.2.1 eo) :: As1) X G) (hk : KA y cc1 nL1 ret1 n) (hv : KV y) {TT : u_T} {N ci : Nat} (hE : isO Y eo ci N) (hcl : classes[ci]? = some (y.cls, TT, N)) (hlink : Cond.methodLinkNest own index y host ∈ lw_tbl) (hst : st0 = As1.reverse ++ .ref (Γ.2.2.2.1 eo) :: rest) (hn : As1.length = n) (hrc : R1.cells = 0) (hrs : R1.slots = 0) (hR : R1.frames + 1 ≤ R0.frames ∧ 8 + (nL1 + 11) + R1.locals ≤ R0.locals) (hcat : (rest.map fun v => v.category).sum ≤ 8) (hdg : decode cc pc = .ok (.invokevirtual index, 3)) {Kf : Int32 → St → Option (ρ × St)} (kk : ∀ (r : Int32) (X1 : St), T Y Γ cc nL own ret R0 As q (pc + 3) lv (rest) X1 (Kf r X1)) : T Y Γ cc nL own ret R0 As q pc lv st0 X (bnd G Kf) := by
  intro r X' hF p e s m below meth c ls A H locs hf hret hlk hw hl
  match G, hM, hF with
  | none, _, hF => exact nomatch hF
  | some (r1, X1), hM, hF =>
    refine mVN_v (wr := []) (tr := []) hf hw (hM r1 X1 rfl H.size) hk hv eo (GW_o hE) hcl hlink (List.range (GW Y Γ.2.2.2.1 Γ.2.2.2.2 X).length) (List.range (GT Y Γ.2.2.2.2).length) [] [] (MW_all rfl) (va_nd_range _) (MT_all rfl) rfl rfl (fun _ h => absurd h List.not_mem_nil) rfl hst hn hl.1 hrc hrs hR hcat rfl rfl ⟨Nat.zero_le _, Nat.zero_le _⟩ hdg (fun x hx H1 locs1 hw1 => ?_)
    subst hx
    exact kk r1 _ r X' hF p e s m below meth c ls A H1 locs1 hf hret hlk hw1 hl
theorem T.callS_v {G : Option (Int32 × St)} (hM : TMV Y Γ y cc1 nL1 own1 ret1 R1 As1 X G) (hk : KA y cc1 nL1 ret1 n) (hv : Cond.static y ∈ gtb) (hlink : Cond.methodLink own index y ∈ gtb) (hst : st0 = As1.reverse ++ rest) (hn : As1.length = n) (hrc : R1.cells = 0) (hrs : R1.slots = 0) (hR : R1.frames + 1 ≤ R0.frames ∧ 8 + (nL1 + 11) + R1.locals ≤ R0.locals) (hcat : (rest.map fun v => v.category).sum ≤ 8) (hdg : decode cc pc = .ok (.invokestatic index, 3)) {Kf : Int32 → St → Option (ρ × St)} (kk : ∀ (r : Int32) (X1 : St), T Y Γ cc nL own ret R0 As q (pc + 3) lv (rest) X1 (Kf r X1)) : T Y Γ cc nL own ret R0 As q pc lv st0 X (bnd G Kf) := by
  intro r X' hF p e s m below meth c ls A H locs hf hret hlk hw hl
  match G, hM, hF with
  | none, _, hF => exact nomatch hF
  | some (r1, X1), hM, hF =>
    refine mS_v (wr := []) (tr := []) hf hw (hM r1 X1 rfl H.size) hk hv hlink (List.range (GW Y Γ.2.2.2.1 Γ.2.2.2.2 X).length) (List.range (GT Y Γ.2.2.2.2).length) [] [] (MW_all rfl) (va_nd_range _) (MT_all rfl) rfl rfl (fun _ h => absurd h List.not_mem_nil) rfl hst hn hl.1 hrc hrs hR hcat rfl rfl ⟨Nat.zero_le _, Nat.zero_le _⟩ hdg (fun x hx H1 locs1 hw1 => ?_)
    subst hx
    exact kk r1 _ r X' hF p e s m below meth c ls A H1 locs1 hf hret hlk hw1 hl
theorem T.callSN_v {host : String} {G : Option (Int32 × St)} (hM : TMV Y Γ y cc1 nL1 own1 ret1 R1 As1 X G) (hk : KA y cc1 nL1 ret1 n) (hv : Cond.static y ∈ gtb) (hlink : Cond.methodLinkNest own index y host ∈ lw_tbl) (hst : st0 = As1.reverse ++ rest) (hn : As1.length = n) (hrc : R1.cells = 0) (hrs : R1.slots = 0) (hR : R1.frames + 1 ≤ R0.frames ∧ 8 + (nL1 + 11) + R1.locals ≤ R0.locals) (hcat : (rest.map fun v => v.category).sum ≤ 8) (hdg : decode cc pc = .ok (.invokestatic index, 3)) {Kf : Int32 → St → Option (ρ × St)} (kk : ∀ (r : Int32) (X1 : St), T Y Γ cc nL own ret R0 As q (pc + 3) lv (rest) X1 (Kf r X1)) : T Y Γ cc nL own ret R0 As q pc lv st0 X (bnd G Kf) := by
  intro r X' hF p e s m below meth c ls A H locs hf hret hlk hw hl
  match G, hM, hF with
  | none, _, hF => exact nomatch hF
  | some (r1, X1), hM, hF =>
    refine mSN_v (wr := []) (tr := []) hf hw (hM r1 X1 rfl H.size) hk hv hlink (List.range (GW Y Γ.2.2.2.1 Γ.2.2.2.2 X).length) (List.range (GT Y Γ.2.2.2.2).length) [] [] (MW_all rfl) (va_nd_range _) (MT_all rfl) rfl rfl (fun _ h => absurd h List.not_mem_nil) rfl hst hn hl.1 hrc hrs hR hcat rfl rfl ⟨Nat.zero_le _, Nat.zero_le _⟩ hdg (fun x hx H1 locs1 hw1 => ?_)
    subst hx
    exact kk r1 _ r X' hF p e s m below meth c ls A H1 locs1 hf hret hlk hw1 hl
theorem T.callV_l (eo : Nat) {G : Option (Int64 × St)} (hM : TML Y Γ y cc1 nL1 own1 ret1 R1 (.ref (Γ.2.2.2.1 eo) :: As1) X G) (hk : KA y cc1 nL1 ret1 n) (hv : KV y) {TT : u_T} {N ci : Nat} (hE : isO Y eo ci N) (hcl : classes[ci]? = some (y.cls, TT, N)) (hlink : Cond.methodLink own index y ∈ gtb) (hst : st0 = As1.reverse ++ .ref (Γ.2.2.2.1 eo) :: rest) (hn : As1.length = n) (hrc : R1.cells = 0) (hrs : R1.slots = 0) (hR : R1.frames + 1 ≤ R0.frames ∧ 8 + (nL1 + 11) + R1.locals ≤ R0.locals) (hcat : (rest.map fun v => v.category).sum ≤ 8) (hdg : decode cc pc = .ok (.invokevirtual index, 3)) {Kf : Int64 → St → Option (ρ × St)} (kk : ∀ (r : Int64) (X1 : St), T Y Γ cc nL own ret R0 As q (pc + 3) lv (.long r :: rest) X1 (Kf r X1)) : T Y Γ cc nL own ret R0 As q pc lv st0 X (bnd G Kf) := by
  intro r X' hF p e s m below meth c ls A H locs hf hret hlk hw hl
  match G, hM, hF with
  | none, _, hF => exact nomatch hF
  | some (r1, X1), hM, hF =>
    refine mV_l (wr := []) (tr := []) hf hw (hM r1 X1 rfl H.size) hk hv eo (GW_o hE) hcl hlink (List.range (GW Y Γ.2.2.2.1 Γ.2.2.2.2 X).length) (List.range (GT Y Γ.2.2.2.2).length) [] [] (MW_all rfl) (va_nd_range _) (MT_all rfl) rfl rfl (fun _ h => absurd h List.not_mem_nil) rfl hst hn hl.1 hrc hrs hR hcat rfl rfl ⟨Nat.zero_le _, Nat.zero_le _⟩ hdg (fun r' x hx H1 locs1 hw1 => ?_)
    obtain ⟨hr1, hx⟩ := hx
    subst hr1
    subst hx
    exact kk _ _ r X' hF p e s m below meth c ls A H1 locs1 hf hret hlk hw1 hl
theorem T.callVN_l {host : String} (eo : Nat) {G : Option (Int64 × St)} (hM : TML Y Γ y cc1 nL1 own1 ret1 R1 (.ref (Γ.2.2.2.1 eo) :: As1) X G) (hk : KA y cc1 nL1 ret1 n) (hv : KV y) {TT : u_T} {N ci : Nat} (hE : isO Y eo ci N) (hcl : classes[ci]? = some (y.cls, TT, N)) (hlink : Cond.methodLinkNest own index y host ∈ lw_tbl) (hst : st0 = As1.reverse ++ .ref (Γ.2.2.2.1 eo) :: rest) (hn : As1.length = n) (hrc : R1.cells = 0) (hrs : R1.slots = 0) (hR : R1.frames + 1 ≤ R0.frames ∧ 8 + (nL1 + 11) + R1.locals ≤ R0.locals) (hcat : (rest.map fun v => v.category).sum ≤ 8) (hdg : decode cc pc = .ok (.invokevirtual index, 3)) {Kf : Int64 → St → Option (ρ × St)} (kk : ∀ (r : Int64) (X1 : St), T Y Γ cc nL own ret R0 As q (pc + 3) lv (.long r :: rest) X1 (Kf r X1)) : T Y Γ cc nL own ret R0 As q pc lv st0 X (bnd G Kf) := by
  intro r X' hF p e s m below meth c ls A H locs hf hret hlk hw hl
  match G, hM, hF with
  | none, _, hF => exact nomatch hF
  | some (r1, X1), hM, hF =>
    refine mVN_l (wr := []) (tr := []) hf hw (hM r1 X1 rfl H.size) hk hv eo (GW_o hE) hcl hlink (List.range (GW Y Γ.2.2.2.1 Γ.2.2.2.2 X).length) (List.range (GT Y Γ.2.2.2.2).length) [] [] (MW_all rfl) (va_nd_range _) (MT_all rfl) rfl rfl (fun _ h => absurd h List.not_mem_nil) rfl hst hn hl.1 hrc hrs hR hcat rfl rfl ⟨Nat.zero_le _, Nat.zero_le _⟩ hdg (fun r' x hx H1 locs1 hw1 => ?_)
    obtain ⟨hr1, hx⟩ := hx
    subst hr1
    subst hx
    exact kk _ _ r X' hF p e s m below meth c ls A H1 locs1 hf hret hlk hw1 hl
theorem T.callS_l {G : Option (Int64 × St)} (hM : TML Y Γ y cc1 nL1 own1 ret1 R1 As1 X G) (hk : KA y cc1 nL1 ret1 n) (hv : Cond.static y ∈ gtb) (hlink : Cond.methodLink own index y ∈ gtb) (hst : st0 = As1.reverse ++ rest) (hn : As1.length = n) (hrc : R1.cells = 0) (hrs : R1.slots = 0) (hR : R1.frames + 1 ≤ R0.frames ∧ 8 + (nL1 + 11) + R1.locals ≤ R0.locals) (hcat : (rest.map fun v => v.category).sum ≤ 8) (hdg : decode cc pc = .ok (.invokestatic index, 3)) {Kf : Int64 → St → Option (ρ × St)} (kk : ∀ (r : Int64) (X1 : St), T Y Γ cc nL own ret R0 As q (pc + 3) lv (.long r :: rest) X1 (Kf r X1)) : T Y Γ cc nL own ret R0 As q pc lv st0 X (bnd G Kf) := by
  intro r X' hF p e s m below meth c ls A H locs hf hret hlk hw hl
  match G, hM, hF with
  | none, _, hF => exact nomatch hF
  | some (r1, X1), hM, hF =>
    refine mS_l (wr := []) (tr := []) hf hw (hM r1 X1 rfl H.size) hk hv hlink (List.range (GW Y Γ.2.2.2.1 Γ.2.2.2.2 X).length) (List.range (GT Y Γ.2.2.2.2).length) [] [] (MW_all rfl) (va_nd_range _) (MT_all rfl) rfl rfl (fun _ h => absurd h List.not_mem_nil) rfl hst hn hl.1 hrc hrs hR hcat rfl rfl ⟨Nat.zero_le _, Nat.zero_le _⟩ hdg (fun r' x hx H1 locs1 hw1 => ?_)
    obtain ⟨hr1, hx⟩ := hx
    subst hr1
    subst hx
    exact kk _ _ r X' hF p e s m below meth c ls A H1 locs1 hf hret hlk hw1 hl
theorem T.callSN_l {host : String} {G : Option (Int64 × St)} (hM : TML Y Γ y cc1 nL1 own1 ret1 R1 As1 X G) (hk : KA y cc1 nL1 ret1 n) (hv : Cond.static y ∈ gtb) (hlink : Cond.methodLinkNest own index y host ∈ lw_tbl) (hst : st0 = As1.reverse ++ rest) (hn : As1.length = n) (hrc : R1.cells = 0) (hrs : R1.slots = 0) (hR : R1.frames + 1 ≤ R0.frames ∧ 8 + (nL1 + 11) + R1.locals ≤ R0.locals) (hcat : (rest.map fun v => v.category).sum ≤ 8) (hdg : decode cc pc = .ok (.invokestatic index, 3)) {Kf : Int64 → St → Option (ρ × St)} (kk : ∀ (r : Int64) (X1 : St), T Y Γ cc nL own ret R0 As q (pc + 3) lv (.long r :: rest) X1 (Kf r X1)) : T Y Γ cc nL own ret R0 As q pc lv st0 X (bnd G Kf) := by
  intro r X' hF p e s m below meth c ls A H locs hf hret hlk hw hl
  match G, hM, hF with
  | none, _, hF => exact nomatch hF
  | some (r1, X1), hM, hF =>
    refine mSN_l (wr := []) (tr := []) hf hw (hM r1 X1 rfl H.size) hk hv hlink (List.range (GW Y Γ.2.2.2.1 Γ.2.2.2.2 X).length) (List.range (GT Y Γ.2.2.2.2).length) [] [] (MW_all rfl) (va_nd_range _) (MT_all rfl) rfl rfl (fun _ h => absurd h List.not_mem_nil) rfl hst hn hl.1 hrc hrs hR hcat rfl rfl ⟨Nat.zero_le _, Nat.zero_le _⟩ hdg (fun r' x hx H1 locs1 hw1 => ?_)
    obtain ⟨hr1, hx⟩ := hx
    subst hr1
    subst hx
    exact kk _ _ r X' hF p e s m below meth c ls A H1 locs1 hf hret hlk hw1 hl
end TL
