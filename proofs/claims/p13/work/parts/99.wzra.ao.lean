/-! orders and code, instruction by instruction -/
/-- of what stands on the stack: where it was asked last, what was called by name; 1: asked to be a row, 2 + n: to be a function of n -/
abbrev SE : Type := Option Nat × Option Nat × Nat
/-- how many orders stand for an instruction -/
def wgt (b : Bool) (a : Ins) : Nat := if a.1 = 0 then a.2.1.toNat else if a.1 = 5 ∧ b = false then 2 else 1
def w34 : Bool → List Ins → Bool
  | b, [] => b
  | _, a :: d => w34 (decide (a.1 = 34)) d
def owt : Bool → List Ins → Nat
  | _, [] => 0
  | b, a :: d => wgt b a + owt (decide (a.1 = 34)) d
/-- the order that stands for the instruction at j -/
def opl (c : List Ins) (j : Nat) : Nat := owt false (c.take j)
def npop (a : Ins) : Nat := if a.1 = 5 ∨ a.1 = 6 ∨ a.1 = 9 ∨ a.1 = 12 ∨ a.1 = 13 ∨ a.1 = 17 ∨ a.1 = 18 ∨ a.1 = 19 then 1 else if a.1 = 8 ∨ a.1 = 11 ∨ a.1 = 14 ∨ (20 ≤ a.1 ∧ a.1 ≤ 26) then 2 else if a.1 = 15 then 3 else if a.1 = 10 then a.2.1.toNat else if a.1 = 16 then a.2.1.toNat + 1 else 0
def npsh (a : Ins) : Bool := decide ((1 ≤ a.1 ∧ a.1 ≤ 4) ∨ a.1 = 8 ∨ (10 ≤ a.1 ∧ a.1 ≤ 16) ∨ (18 ≤ a.1 ∧ a.1 ≤ 26))
def stk (t : Option Nat) (m : Nat) : List SE → List SE
  | [] => []
  | w :: S => (w.1, t, m) :: S
def sfm (m : Nat) : List SE → List SE
  | [] => []
  | w :: S => (w.1, w.2.1, m) :: S
/-- what stands at i was asked to be so -/
def FM (S : List SE) (i m : Nat) : Prop := ∃ w, S[i]? = some w ∧ w.2.2 = m
def sas (q : Option Nat) : List SE → List SE
  | [] => []
  | w :: S => (q, w.2) :: S
/-- what an instruction makes of the stack -/
def sh1 (j : Nat) (a : Ins) (S : List SE) : List SE := if a.1 = 29 then sfm 1 S else if a.1 = 30 then stk none (2 + a.2.1.toNat) S else if a.1 = 31 then stk (some (j - 1)) (2 + a.2.1.toNat) S else if a.1 = 36 then sas (some j) S else if npsh a then (none, none, 0) :: S.drop (npop a) else S.drop (npop a)
def shl : Nat → List SE → List Ins → List SE
  | _, S, [] => S
  | j, S, a :: d => shl (j + 1) (sh1 j a S) d
/-- how many an instruction asks for on the stack -/
def nneed (a : Ins) : Nat := if 27 ≤ a.1 then (if a.1 = 33 then 3 else if a.1 = 32 then a.2.1.toNat + 2 else 1) else npop a
/-- that is there; what is asked has been made just now -/
def NQ (a : Ins) (S : List SE) : Prop := nneed a ≤ S.length ∧ (27 ≤ a.1 → FM S 0 0)
theorem stk_len {t : Option Nat} {m : Nat} {S : List SE} : (stk t m S).length = S.length := by cases S <;> rfl
theorem sfm_len {m : Nat} {S : List SE} : (sfm m S).length = S.length := by cases S <;> rfl
theorem sas_len {q : Option Nat} {S : List SE} : (sas q S).length = S.length := by cases S <;> rfl
/-- the node u is asked at j -/
def GAT (X : St) (c : List Ins) (u j : Nat) : Prop := iv X 45 u = (opl c j : Int) ∧ plc c j = iv X 21 u
def ECH (X : St) (c : List Ins) : Int → List (Nat × Nat) → Prop
  | v, [] => v < 0
  | v, w :: us => v = (w.1 : Int) ∧ GAT X c w.1 w.2 ∧ ECH X c (iv X 28 w.1) us

def AO (X : St) (nr : Int → Int) (c : List Ins) (j : Nat) (b : Bool) (s : Nat) (S : List SE) (a : Ins) : Prop := ∃ n : Nat, (a.1 = 0 ∧ (1 ≤ a.2.1 ∧ ∀ m, m < a.2.1.toNat → ∃ n, OA X (s + m) 0 n ∧ iv X 21 n = a.2.2.1)) ∨
  (a.1 = 1 ∧ (OA X s 1 n ∧ iv X 26 n = a.2.1 ∧ iv X 21 n = a.2.2.1)) ∨
  (a.1 = 2 ∧ (OA X s 2 n ∧ iv X 26 n = a.2.1 ∧ iv X 21 n = a.2.2.1 ∧ (a.2.1 = 0 ∨ a.2.1 = 1))) ∨
  (a.1 = 3 ∧ (OA X s 3 n ∧ iv X 26 n = a.2.1 ∧ iv X 21 n = a.2.2.1)) ∨
  (a.1 = 4 ∧ (OA X s 4 n ∧ iv X 26 n = nr a.2.2.1 ∧ iv X 21 n = a.2.2.1)) ∨
  (a.1 = 5 ∧ ((b = true ∧ OA X s 13 n ∧ iv X 26 n = a.2.1) ∨ (b = false ∧ OA X s 12 n ∧ iv X 25 n = -1 ∧ OA X (s + 1) 13 n ∧ iv X 26 n = a.2.1))) ∨
  (a.1 = 6 ∧ (OA X s 15 n ∧ iv X 46 n = opl c a.2.1.toNat ∧ ∃ (m : Nat) (a1 : Ins), a.2.1 = (m : Int) ∧ c[m]? = some a1)) ∨
  (a.1 = 7 ∧ (OA X s 16 n ∧ iv X 47 n = opl c a.2.1.toNat + 1 ∧ ∃ (m : Nat) (a1 : Ins), a.2.1 = (m : Int) ∧ c[m]? = some a1 ∧ a1.1 = 8)) ∨
  (a.1 = 8 ∧ (OA X s 17 n ∧ iv X 21 n = a.2.2.1 ∧ ∃ (S1 : List SE) (j1 j2 : Nat), S = (some j2, none, 0) :: (some j1, none, 0) :: S1 ∧ GAT X c (ix (X.1 24 n)) j1 ∧ GAT X c (ix (X.1 25 n)) j2)) ∨
  (a.1 = 9 ∧ (OA X s 29 n)) ∨
  (a.1 = 10 ∧ (OA X s 18 n ∧ iv X 21 n = a.2.2.1 ∧ iv X 27 n = a.2.1 ∧ ∃ (S1 : List SE) (us : List (Nat × Nat)), a.2.1 = (us.length : Int) ∧ S = us.reverse.map (fun w => ((some w.2, none, 0) : SE)) ++ S1 ∧ ECH X c (iv X 24 n) us)) ∨
  (a.1 = 11 ∧ (OA X s 19 n ∧ iv X 21 n = a.2.2.1)) ∨
  (a.1 = 12 ∧ (OA X s 20 n ∧ iv X 21 n = a.2.2.1)) ∨
  (a.1 = 13 ∧ (OA X s 21 n ∧ iv X 21 n = a.2.2.1)) ∨
  (a.1 = 14 ∧ (OA X s 26 n ∧ iv X 22 n = a.2.2.1 ∧ FM S 1 1)) ∨
  (a.1 = 15 ∧ (OA X s 27 n ∧ iv X 22 n = a.2.2.1 ∧ FM S 2 1)) ∨
  (a.1 = 16 ∧ (OA X s 28 n ∧ iv X 22 n = a.2.2.1 ∧ iv X 27 n = a.2.1 ∧ 0 ≤ a.2.1 ∧ FM S a.2.1.toNat (2 + a.2.1.toNat))) ∨
  (a.1 = 17 ∧ (OA X s 31 n)) ∨
  (a.1 = 18 ∧ (OA X s 22 n ∧ iv X 21 n = a.2.2.1)) ∨
  (a.1 = 19 ∧ (OA X s 23 n ∧ iv X 21 n = a.2.2.1)) ∨
  ((20 ≤ a.1 ∧ a.1 ≤ 26) ∧ (OA X s (if a.1 ≤ 21 then 25 else 24) n ∧ iv X 22 n = a.2.2.1 ∧ opc (iv X 26 n) = a.1)) ∨
  (a.1 = 27 ∧ (OA X s 5 n ∧ iv X 21 n = a.2.2.1)) ∨
  (a.1 = 28 ∧ (OA X s 6 n ∧ iv X 21 n = a.2.2.1)) ∨
  (a.1 = 29 ∧ ((OA X s 8 n ∧ iv X 22 n = a.2.2.1) ∨ (OA X s 9 n ∧ iv X 21 n = a.2.2.1))) ∨
  (a.1 = 30 ∧ (OA X s 7 n ∧ iv X 22 n = a.2.2.1 ∧ iv X 27 n = a.2.1 ∧ ¬ iv X 20 (ix (X.1 23 n)) = 3)) ∨
  (a.1 = 31 ∧ (OA X s 7 n ∧ iv X 22 n = a.2.2.1 ∧ iv X 27 n = a.2.1 ∧ iv X 20 (ix (X.1 23 n)) = 3 ∧ iv X 26 (ix (X.1 23 n)) = nr (plc c (j - 1)) ∧ 1 ≤ j ∧ ∃ a1, c[j - 1]? = some a1 ∧ a1.1 = 4)) ∨
  (a.1 = 32 ∧ (OA X s 10 n ∧ iv X 21 n = a.2.2.1 ∧ iv X 42 s = 8 * a.2.1 ∧ 0 ≤ a.2.1 ∧ ∃ (m : Nat) (q : Option Nat) (t : Option Nat) (h : Nat), iv X 51 n = (m : Int) ∧ S[a.2.1.toNat + 1]? = some (q, t, 2 + h) ∧ a.2.1.toNat < h ∧ ((iv X 20 (ix (X.1 23 m)) = 3 ∧ ∃ t1 a1, t = some t1 ∧ iv X 26 (ix (X.1 23 m)) = nr (plc c t1) ∧ c[t1]? = some a1 ∧ a1.1 = 4) ∨ (¬ iv X 20 (ix (X.1 23 m)) = 3 ∧ t = none)))) ∨
  (a.1 = 33 ∧ (OA X s 11 n ∧ iv X 21 (ix (X.1 25 n)) = a.2.2.1 ∧ FM S 2 1)) ∨
  (a.1 = 34 ∧ (OA X s 12 n ∧ iv X 21 (ix (X.1 23 n)) = a.2.2.1 ∧ ∃ k : Nat, iv X 25 n = (k : Int) ∧ KD X k a.2.2.2)) ∨
  (a.1 = 35 ∧ (OA X s 30 n ∧ a.2.1 = (n : Int) ∧ iv X 21 (ix (X.1 18 n)) = a.2.2.1)) ∨
  (a.1 = 36 ∧ (OA X s 14 n ∧ iv X 21 n = a.2.2.1 ∧ GAT X c n j))
section AOS
variable {X : St} {nr : Int → Int} {c : List Ins} {j : Nat} {b : Bool} {s : Nat} {S : List SE} {a : Ins}
theorem AO.i0 {x p : Int} {kd : List Int} (h : 1 ≤ x ∧ ∀ m, m < x.toNat → ∃ n, OA X (s + m) 0 n ∧ iv X 21 n = p) : AO X nr c j b s S (0, x, p, kd) := ⟨0, Or.inl ⟨rfl, h⟩⟩
theorem AO.i1 {n : Nat} {x p : Int} {kd : List Int} (h : OA X s 1 n ∧ iv X 26 n = x ∧ iv X 21 n = p) : AO X nr c j b s S (1, x, p, kd) := ⟨n, Or.inr (Or.inl ⟨rfl, h⟩)⟩
theorem AO.i2 {n : Nat} {x p : Int} {kd : List Int} (h : OA X s 2 n ∧ iv X 26 n = x ∧ iv X 21 n = p ∧ (x = 0 ∨ x = 1)) : AO X nr c j b s S (2, x, p, kd) := ⟨n, Or.inr (Or.inr (Or.inl ⟨rfl, h⟩))⟩
theorem AO.i3 {n : Nat} {x p : Int} {kd : List Int} (h : OA X s 3 n ∧ iv X 26 n = x ∧ iv X 21 n = p) : AO X nr c j b s S (3, x, p, kd) := ⟨n, Or.inr (Or.inr (Or.inr (Or.inl ⟨rfl, h⟩)))⟩
theorem AO.i4 {n : Nat} {x p : Int} {kd : List Int} (h : OA X s 4 n ∧ iv X 26 n = nr p ∧ iv X 21 n = p) : AO X nr c j b s S (4, x, p, kd) := ⟨n, Or.inr (Or.inr (Or.inr (Or.inr (Or.inl ⟨rfl, h⟩))))⟩
theorem AO.i5 {n : Nat} {x p : Int} {kd : List Int} (h : (b = true ∧ OA X s 13 n ∧ iv X 26 n = x) ∨ (b = false ∧ OA X s 12 n ∧ iv X 25 n = -1 ∧ OA X (s + 1) 13 n ∧ iv X 26 n = x)) : AO X nr c j b s S (5, x, p, kd) := ⟨n, Or.inr (Or.inr (Or.inr (Or.inr (Or.inr (Or.inl ⟨rfl, h⟩)))))⟩
theorem AO.i6 {n : Nat} {x p : Int} {kd : List Int} (h : OA X s 15 n ∧ iv X 46 n = opl c x.toNat ∧ ∃ (m : Nat) (a1 : Ins), x = (m : Int) ∧ c[m]? = some a1) : AO X nr c j b s S (6, x, p, kd) := ⟨n, Or.inr (Or.inr (Or.inr (Or.inr (Or.inr (Or.inr (Or.inl ⟨rfl, h⟩))))))⟩
theorem AO.i7 {n : Nat} {x p : Int} {kd : List Int} (h : OA X s 16 n ∧ iv X 47 n = opl c x.toNat + 1 ∧ ∃ (m : Nat) (a1 : Ins), x = (m : Int) ∧ c[m]? = some a1 ∧ a1.1 = 8) : AO X nr c j b s S (7, x, p, kd) := ⟨n, Or.inr (Or.inr (Or.inr (Or.inr (Or.inr (Or.inr (Or.inr (Or.inl ⟨rfl, h⟩)))))))⟩
theorem AO.i8 {n : Nat} {x p : Int} {kd : List Int} (h : OA X s 17 n ∧ iv X 21 n = p ∧ ∃ (S1 : List SE) (j1 j2 : Nat), S = (some j2, none, 0) :: (some j1, none, 0) :: S1 ∧ GAT X c (ix (X.1 24 n)) j1 ∧ GAT X c (ix (X.1 25 n)) j2) : AO X nr c j b s S (8, x, p, kd) := ⟨n, Or.inr (Or.inr (Or.inr (Or.inr (Or.inr (Or.inr (Or.inr (Or.inr (Or.inl ⟨rfl, h⟩))))))))⟩
theorem AO.i9 {n : Nat} {x p : Int} {kd : List Int} (h : OA X s 29 n) : AO X nr c j b s S (9, x, p, kd) := ⟨n, Or.inr (Or.inr (Or.inr (Or.inr (Or.inr (Or.inr (Or.inr (Or.inr (Or.inr (Or.inl ⟨rfl, h⟩)))))))))⟩
theorem AO.i10 {n : Nat} {x p : Int} {kd : List Int} (h : OA X s 18 n ∧ iv X 21 n = p ∧ iv X 27 n = x ∧ ∃ (S1 : List SE) (us : List (Nat × Nat)), x = (us.length : Int) ∧ S = us.reverse.map (fun w => ((some w.2, none, 0) : SE)) ++ S1 ∧ ECH X c (iv X 24 n) us) : AO X nr c j b s S (10, x, p, kd) := ⟨n, Or.inr (Or.inr (Or.inr (Or.inr (Or.inr (Or.inr (Or.inr (Or.inr (Or.inr (Or.inr (Or.inl ⟨rfl, h⟩))))))))))⟩
theorem AO.i11 {n : Nat} {x p : Int} {kd : List Int} (h : OA X s 19 n ∧ iv X 21 n = p) : AO X nr c j b s S (11, x, p, kd) := ⟨n, Or.inr (Or.inr (Or.inr (Or.inr (Or.inr (Or.inr (Or.inr (Or.inr (Or.inr (Or.inr (Or.inr (Or.inl ⟨rfl, h⟩)))))))))))⟩
theorem AO.i12 {n : Nat} {x p : Int} {kd : List Int} (h : OA X s 20 n ∧ iv X 21 n = p) : AO X nr c j b s S (12, x, p, kd) := ⟨n, Or.inr (Or.inr (Or.inr (Or.inr (Or.inr (Or.inr (Or.inr (Or.inr (Or.inr (Or.inr (Or.inr (Or.inr (Or.inl ⟨rfl, h⟩))))))))))))⟩
theorem AO.i13 {n : Nat} {x p : Int} {kd : List Int} (h : OA X s 21 n ∧ iv X 21 n = p) : AO X nr c j b s S (13, x, p, kd) := ⟨n, Or.inr (Or.inr (Or.inr (Or.inr (Or.inr (Or.inr (Or.inr (Or.inr (Or.inr (Or.inr (Or.inr (Or.inr (Or.inr (Or.inl ⟨rfl, h⟩)))))))))))))⟩
theorem AO.i14 {n : Nat} {x p : Int} {kd : List Int} (h : OA X s 26 n ∧ iv X 22 n = p ∧ FM S 1 1) : AO X nr c j b s S (14, x, p, kd) := ⟨n, Or.inr (Or.inr (Or.inr (Or.inr (Or.inr (Or.inr (Or.inr (Or.inr (Or.inr (Or.inr (Or.inr (Or.inr (Or.inr (Or.inr (Or.inl ⟨rfl, h⟩))))))))))))))⟩
theorem AO.i15 {n : Nat} {x p : Int} {kd : List Int} (h : OA X s 27 n ∧ iv X 22 n = p ∧ FM S 2 1) : AO X nr c j b s S (15, x, p, kd) := ⟨n, Or.inr (Or.inr (Or.inr (Or.inr (Or.inr (Or.inr (Or.inr (Or.inr (Or.inr (Or.inr (Or.inr (Or.inr (Or.inr (Or.inr (Or.inr (Or.inl ⟨rfl, h⟩)))))))))))))))⟩
theorem AO.i16 {n : Nat} {x p : Int} {kd : List Int} (h : OA X s 28 n ∧ iv X 22 n = p ∧ iv X 27 n = x ∧ 0 ≤ x ∧ FM S x.toNat (2 + x.toNat)) : AO X nr c j b s S (16, x, p, kd) := ⟨n, Or.inr (Or.inr (Or.inr (Or.inr (Or.inr (Or.inr (Or.inr (Or.inr (Or.inr (Or.inr (Or.inr (Or.inr (Or.inr (Or.inr (Or.inr (Or.inr (Or.inl ⟨rfl, h⟩))))))))))))))))⟩
theorem AO.i17 {n : Nat} {x p : Int} {kd : List Int} (h : OA X s 31 n) : AO X nr c j b s S (17, x, p, kd) := ⟨n, Or.inr (Or.inr (Or.inr (Or.inr (Or.inr (Or.inr (Or.inr (Or.inr (Or.inr (Or.inr (Or.inr (Or.inr (Or.inr (Or.inr (Or.inr (Or.inr (Or.inr (Or.inl ⟨rfl, h⟩)))))))))))))))))⟩
theorem AO.i18 {n : Nat} {x p : Int} {kd : List Int} (h : OA X s 22 n ∧ iv X 21 n = p) : AO X nr c j b s S (18, x, p, kd) := ⟨n, Or.inr (Or.inr (Or.inr (Or.inr (Or.inr (Or.inr (Or.inr (Or.inr (Or.inr (Or.inr (Or.inr (Or.inr (Or.inr (Or.inr (Or.inr (Or.inr (Or.inr (Or.inr (Or.inl ⟨rfl, h⟩))))))))))))))))))⟩
theorem AO.i19 {n : Nat} {x p : Int} {kd : List Int} (h : OA X s 23 n ∧ iv X 21 n = p) : AO X nr c j b s S (19, x, p, kd) := ⟨n, Or.inr (Or.inr (Or.inr (Or.inr (Or.inr (Or.inr (Or.inr (Or.inr (Or.inr (Or.inr (Or.inr (Or.inr (Or.inr (Or.inr (Or.inr (Or.inr (Or.inr (Or.inr (Or.inr (Or.inl ⟨rfl, h⟩)))))))))))))))))))⟩
theorem AO.i20 {n : Nat} {o x p : Int} {kd : List Int} (ho : 20 ≤ o ∧ o ≤ 26) (h : OA X s (if o ≤ 21 then 25 else 24) n ∧ iv X 22 n = p ∧ opc (iv X 26 n) = o) : AO X nr c j b s S (o, x, p, kd) := ⟨n, Or.inr (Or.inr (Or.inr (Or.inr (Or.inr (Or.inr (Or.inr (Or.inr (Or.inr (Or.inr (Or.inr (Or.inr (Or.inr (Or.inr (Or.inr (Or.inr (Or.inr (Or.inr (Or.inr (Or.inr (Or.inl ⟨ho, h⟩))))))))))))))))))))⟩
theorem AO.i27 {n : Nat} {x p : Int} {kd : List Int} (h : OA X s 5 n ∧ iv X 21 n = p) : AO X nr c j b s S (27, x, p, kd) := ⟨n, Or.inr (Or.inr (Or.inr (Or.inr (Or.inr (Or.inr (Or.inr (Or.inr (Or.inr (Or.inr (Or.inr (Or.inr (Or.inr (Or.inr (Or.inr (Or.inr (Or.inr (Or.inr (Or.inr (Or.inr (Or.inr (Or.inl ⟨rfl, h⟩)))))))))))))))))))))⟩
theorem AO.i28 {n : Nat} {x p : Int} {kd : List Int} (h : OA X s 6 n ∧ iv X 21 n = p) : AO X nr c j b s S (28, x, p, kd) := ⟨n, Or.inr (Or.inr (Or.inr (Or.inr (Or.inr (Or.inr (Or.inr (Or.inr (Or.inr (Or.inr (Or.inr (Or.inr (Or.inr (Or.inr (Or.inr (Or.inr (Or.inr (Or.inr (Or.inr (Or.inr (Or.inr (Or.inr (Or.inl ⟨rfl, h⟩))))))))))))))))))))))⟩
theorem AO.i29 {n : Nat} {x p : Int} {kd : List Int} (h : (OA X s 8 n ∧ iv X 22 n = p) ∨ (OA X s 9 n ∧ iv X 21 n = p)) : AO X nr c j b s S (29, x, p, kd) := ⟨n, Or.inr (Or.inr (Or.inr (Or.inr (Or.inr (Or.inr (Or.inr (Or.inr (Or.inr (Or.inr (Or.inr (Or.inr (Or.inr (Or.inr (Or.inr (Or.inr (Or.inr (Or.inr (Or.inr (Or.inr (Or.inr (Or.inr (Or.inr (Or.inl ⟨rfl, h⟩)))))))))))))))))))))))⟩
theorem AO.i30 {n : Nat} {x p : Int} {kd : List Int} (h : OA X s 7 n ∧ iv X 22 n = p ∧ iv X 27 n = x ∧ ¬ iv X 20 (ix (X.1 23 n)) = 3) : AO X nr c j b s S (30, x, p, kd) := ⟨n, Or.inr (Or.inr (Or.inr (Or.inr (Or.inr (Or.inr (Or.inr (Or.inr (Or.inr (Or.inr (Or.inr (Or.inr (Or.inr (Or.inr (Or.inr (Or.inr (Or.inr (Or.inr (Or.inr (Or.inr (Or.inr (Or.inr (Or.inr (Or.inr (Or.inl ⟨rfl, h⟩))))))))))))))))))))))))⟩
theorem AO.i31 {n : Nat} {x p : Int} {kd : List Int} (h : OA X s 7 n ∧ iv X 22 n = p ∧ iv X 27 n = x ∧ iv X 20 (ix (X.1 23 n)) = 3 ∧ iv X 26 (ix (X.1 23 n)) = nr (plc c (j - 1)) ∧ 1 ≤ j ∧ ∃ a1, c[j - 1]? = some a1 ∧ a1.1 = 4) : AO X nr c j b s S (31, x, p, kd) := ⟨n, Or.inr (Or.inr (Or.inr (Or.inr (Or.inr (Or.inr (Or.inr (Or.inr (Or.inr (Or.inr (Or.inr (Or.inr (Or.inr (Or.inr (Or.inr (Or.inr (Or.inr (Or.inr (Or.inr (Or.inr (Or.inr (Or.inr (Or.inr (Or.inr (Or.inr (Or.inl ⟨rfl, h⟩)))))))))))))))))))))))))⟩
theorem AO.i32 {n : Nat} {x p : Int} {kd : List Int} (h : OA X s 10 n ∧ iv X 21 n = p ∧ iv X 42 s = 8 * x ∧ 0 ≤ x ∧ ∃ (m : Nat) (q : Option Nat) (t : Option Nat) (h : Nat), iv X 51 n = (m : Int) ∧ S[x.toNat + 1]? = some (q, t, 2 + h) ∧ x.toNat < h ∧ ((iv X 20 (ix (X.1 23 m)) = 3 ∧ ∃ t1 a1, t = some t1 ∧ iv X 26 (ix (X.1 23 m)) = nr (plc c t1) ∧ c[t1]? = some a1 ∧ a1.1 = 4) ∨ (¬ iv X 20 (ix (X.1 23 m)) = 3 ∧ t = none))) : AO X nr c j b s S (32, x, p, kd) := ⟨n, Or.inr (Or.inr (Or.inr (Or.inr (Or.inr (Or.inr (Or.inr (Or.inr (Or.inr (Or.inr (Or.inr (Or.inr (Or.inr (Or.inr (Or.inr (Or.inr (Or.inr (Or.inr (Or.inr (Or.inr (Or.inr (Or.inr (Or.inr (Or.inr (Or.inr (Or.inr (Or.inl ⟨rfl, h⟩))))))))))))))))))))))))))⟩
theorem AO.i33 {n : Nat} {x p : Int} {kd : List Int} (h : OA X s 11 n ∧ iv X 21 (ix (X.1 25 n)) = p ∧ FM S 2 1) : AO X nr c j b s S (33, x, p, kd) := ⟨n, Or.inr (Or.inr (Or.inr (Or.inr (Or.inr (Or.inr (Or.inr (Or.inr (Or.inr (Or.inr (Or.inr (Or.inr (Or.inr (Or.inr (Or.inr (Or.inr (Or.inr (Or.inr (Or.inr (Or.inr (Or.inr (Or.inr (Or.inr (Or.inr (Or.inr (Or.inr (Or.inr (Or.inl ⟨rfl, h⟩)))))))))))))))))))))))))))⟩
theorem AO.i34 {n : Nat} {x p : Int} {kd : List Int} (h : OA X s 12 n ∧ iv X 21 (ix (X.1 23 n)) = p ∧ ∃ k : Nat, iv X 25 n = (k : Int) ∧ KD X k kd) : AO X nr c j b s S (34, x, p, kd) := ⟨n, Or.inr (Or.inr (Or.inr (Or.inr (Or.inr (Or.inr (Or.inr (Or.inr (Or.inr (Or.inr (Or.inr (Or.inr (Or.inr (Or.inr (Or.inr (Or.inr (Or.inr (Or.inr (Or.inr (Or.inr (Or.inr (Or.inr (Or.inr (Or.inr (Or.inr (Or.inr (Or.inr (Or.inr (Or.inl ⟨rfl, h⟩))))))))))))))))))))))))))))⟩
theorem AO.i35 {n : Nat} {x p : Int} {kd : List Int} (h : OA X s 30 n ∧ x = (n : Int) ∧ iv X 21 (ix (X.1 18 n)) = p) : AO X nr c j b s S (35, x, p, kd) := ⟨n, Or.inr (Or.inr (Or.inr (Or.inr (Or.inr (Or.inr (Or.inr (Or.inr (Or.inr (Or.inr (Or.inr (Or.inr (Or.inr (Or.inr (Or.inr (Or.inr (Or.inr (Or.inr (Or.inr (Or.inr (Or.inr (Or.inr (Or.inr (Or.inr (Or.inr (Or.inr (Or.inr (Or.inr (Or.inr (Or.inl ⟨rfl, h⟩)))))))))))))))))))))))))))))⟩
theorem AO.i36 {n : Nat} {x p : Int} {kd : List Int} (h : OA X s 14 n ∧ iv X 21 n = p ∧ GAT X c n j) : AO X nr c j b s S (36, x, p, kd) := ⟨n, Or.inr (Or.inr (Or.inr (Or.inr (Or.inr (Or.inr (Or.inr (Or.inr (Or.inr (Or.inr (Or.inr (Or.inr (Or.inr (Or.inr (Or.inr (Or.inr (Or.inr (Or.inr (Or.inr (Or.inr (Or.inr (Or.inr (Or.inr (Or.inr (Or.inr (Or.inr (Or.inr (Or.inr (Or.inr (Or.inr (⟨rfl, h⟩))))))))))))))))))))))))))))))⟩
theorem AO.e0 (h : AO X nr c j b s S a) (e : a.1 = 0) : 1 ≤ a.2.1 ∧ ∀ m, m < a.2.1.toNat → ∃ n, OA X (s + m) 0 n ∧ iv X 21 n = a.2.2.1 := by
  obtain ⟨n, h⟩ := h
  rcases h with ⟨g, h⟩ | ⟨g, h⟩ | ⟨g, h⟩ | ⟨g, h⟩ | ⟨g, h⟩ | ⟨g, h⟩ | ⟨g, h⟩ | ⟨g, h⟩ | ⟨g, h⟩ | ⟨g, h⟩ | ⟨g, h⟩ | ⟨g, h⟩ | ⟨g, h⟩ | ⟨g, h⟩ | ⟨g, h⟩ | ⟨g, h⟩ | ⟨g, h⟩ | ⟨g, h⟩ | ⟨g, h⟩ | ⟨g, h⟩ | ⟨g, h⟩ | ⟨g, h⟩ | ⟨g, h⟩ | ⟨g, h⟩ | ⟨g, h⟩ | ⟨g, h⟩ | ⟨g, h⟩ | ⟨g, h⟩ | ⟨g, h⟩ | ⟨g, h⟩ | ⟨g, h⟩
  · exact h
  · exfalso; omega
  · exfalso; omega
  · exfalso; omega
  · exfalso; omega
  · exfalso; omega
  · exfalso; omega
  · exfalso; omega
  · exfalso; omega
  · exfalso; omega
  · exfalso; omega
  · exfalso; omega
  · exfalso; omega
  · exfalso; omega
  · exfalso; omega
  · exfalso; omega
  · exfalso; omega
  · exfalso; omega
  · exfalso; omega
  · exfalso; omega
  · exfalso; omega
  · exfalso; omega
  · exfalso; omega
  · exfalso; omega
  · exfalso; omega
  · exfalso; omega
  · exfalso; omega
  · exfalso; omega
  · exfalso; omega
  · exfalso; omega
  · exfalso; omega
theorem AO.e1 (h : AO X nr c j b s S a) (e : a.1 = 1) : ∃ n : Nat, OA X s 1 n ∧ iv X 26 n = a.2.1 ∧ iv X 21 n = a.2.2.1 := by
  obtain ⟨n, h⟩ := h
  rcases h with ⟨g, h⟩ | ⟨g, h⟩ | ⟨g, h⟩ | ⟨g, h⟩ | ⟨g, h⟩ | ⟨g, h⟩ | ⟨g, h⟩ | ⟨g, h⟩ | ⟨g, h⟩ | ⟨g, h⟩ | ⟨g, h⟩ | ⟨g, h⟩ | ⟨g, h⟩ | ⟨g, h⟩ | ⟨g, h⟩ | ⟨g, h⟩ | ⟨g, h⟩ | ⟨g, h⟩ | ⟨g, h⟩ | ⟨g, h⟩ | ⟨g, h⟩ | ⟨g, h⟩ | ⟨g, h⟩ | ⟨g, h⟩ | ⟨g, h⟩ | ⟨g, h⟩ | ⟨g, h⟩ | ⟨g, h⟩ | ⟨g, h⟩ | ⟨g, h⟩ | ⟨g, h⟩
  · exfalso; omega
  · exact ⟨n, h⟩
  · exfalso; omega
  · exfalso; omega
  · exfalso; omega
  · exfalso; omega
  · exfalso; omega
  · exfalso; omega
  · exfalso; omega
  · exfalso; omega
  · exfalso; omega
  · exfalso; omega
  · exfalso; omega
  · exfalso; omega
  · exfalso; omega
  · exfalso; omega
  · exfalso; omega
  · exfalso; omega
  · exfalso; omega
  · exfalso; omega
  · exfalso; omega
  · exfalso; omega
  · exfalso; omega
  · exfalso; omega
  · exfalso; omega
  · exfalso; omega
  · exfalso; omega
  · exfalso; omega
  · exfalso; omega
  · exfalso; omega
  · exfalso; omega
theorem AO.e2 (h : AO X nr c j b s S a) (e : a.1 = 2) : ∃ n : Nat, OA X s 2 n ∧ iv X 26 n = a.2.1 ∧ iv X 21 n = a.2.2.1 ∧ (a.2.1 = 0 ∨ a.2.1 = 1) := by
  obtain ⟨n, h⟩ := h
  rcases h with ⟨g, h⟩ | ⟨g, h⟩ | ⟨g, h⟩ | ⟨g, h⟩ | ⟨g, h⟩ | ⟨g, h⟩ | ⟨g, h⟩ | ⟨g, h⟩ | ⟨g, h⟩ | ⟨g, h⟩ | ⟨g, h⟩ | ⟨g, h⟩ | ⟨g, h⟩ | ⟨g, h⟩ | ⟨g, h⟩ | ⟨g, h⟩ | ⟨g, h⟩ | ⟨g, h⟩ | ⟨g, h⟩ | ⟨g, h⟩ | ⟨g, h⟩ | ⟨g, h⟩ | ⟨g, h⟩ | ⟨g, h⟩ | ⟨g, h⟩ | ⟨g, h⟩ | ⟨g, h⟩ | ⟨g, h⟩ | ⟨g, h⟩ | ⟨g, h⟩ | ⟨g, h⟩
  · exfalso; omega
  · exfalso; omega
  · exact ⟨n, h⟩
  · exfalso; omega
  · exfalso; omega
  · exfalso; omega
  · exfalso; omega
  · exfalso; omega
  · exfalso; omega
  · exfalso; omega
  · exfalso; omega
  · exfalso; omega
  · exfalso; omega
  · exfalso; omega
  · exfalso; omega
  · exfalso; omega
  · exfalso; omega
  · exfalso; omega
  · exfalso; omega
  · exfalso; omega
  · exfalso; omega
  · exfalso; omega
  · exfalso; omega
  · exfalso; omega
  · exfalso; omega
  · exfalso; omega
  · exfalso; omega
  · exfalso; omega
  · exfalso; omega
  · exfalso; omega
  · exfalso; omega
theorem AO.e3 (h : AO X nr c j b s S a) (e : a.1 = 3) : ∃ n : Nat, OA X s 3 n ∧ iv X 26 n = a.2.1 ∧ iv X 21 n = a.2.2.1 := by
  obtain ⟨n, h⟩ := h
  rcases h with ⟨g, h⟩ | ⟨g, h⟩ | ⟨g, h⟩ | ⟨g, h⟩ | ⟨g, h⟩ | ⟨g, h⟩ | ⟨g, h⟩ | ⟨g, h⟩ | ⟨g, h⟩ | ⟨g, h⟩ | ⟨g, h⟩ | ⟨g, h⟩ | ⟨g, h⟩ | ⟨g, h⟩ | ⟨g, h⟩ | ⟨g, h⟩ | ⟨g, h⟩ | ⟨g, h⟩ | ⟨g, h⟩ | ⟨g, h⟩ | ⟨g, h⟩ | ⟨g, h⟩ | ⟨g, h⟩ | ⟨g, h⟩ | ⟨g, h⟩ | ⟨g, h⟩ | ⟨g, h⟩ | ⟨g, h⟩ | ⟨g, h⟩ | ⟨g, h⟩ | ⟨g, h⟩
  · exfalso; omega
  · exfalso; omega
  · exfalso; omega
  · exact ⟨n, h⟩
  · exfalso; omega
  · exfalso; omega
  · exfalso; omega
  · exfalso; omega
  · exfalso; omega
  · exfalso; omega
  · exfalso; omega
  · exfalso; omega
  · exfalso; omega
  · exfalso; omega
  · exfalso; omega
  · exfalso; omega
  · exfalso; omega
  · exfalso; omega
  · exfalso; omega
  · exfalso; omega
  · exfalso; omega
  · exfalso; omega
  · exfalso; omega
  · exfalso; omega
  · exfalso; omega
  · exfalso; omega
  · exfalso; omega
  · exfalso; omega
  · exfalso; omega
  · exfalso; omega
  · exfalso; omega
theorem AO.e4 (h : AO X nr c j b s S a) (e : a.1 = 4) : ∃ n : Nat, OA X s 4 n ∧ iv X 26 n = nr a.2.2.1 ∧ iv X 21 n = a.2.2.1 := by
  obtain ⟨n, h⟩ := h
  rcases h with ⟨g, h⟩ | ⟨g, h⟩ | ⟨g, h⟩ | ⟨g, h⟩ | ⟨g, h⟩ | ⟨g, h⟩ | ⟨g, h⟩ | ⟨g, h⟩ | ⟨g, h⟩ | ⟨g, h⟩ | ⟨g, h⟩ | ⟨g, h⟩ | ⟨g, h⟩ | ⟨g, h⟩ | ⟨g, h⟩ | ⟨g, h⟩ | ⟨g, h⟩ | ⟨g, h⟩ | ⟨g, h⟩ | ⟨g, h⟩ | ⟨g, h⟩ | ⟨g, h⟩ | ⟨g, h⟩ | ⟨g, h⟩ | ⟨g, h⟩ | ⟨g, h⟩ | ⟨g, h⟩ | ⟨g, h⟩ | ⟨g, h⟩ | ⟨g, h⟩ | ⟨g, h⟩
  · exfalso; omega
  · exfalso; omega
  · exfalso; omega
  · exfalso; omega
  · exact ⟨n, h⟩
  · exfalso; omega
  · exfalso; omega
  · exfalso; omega
  · exfalso; omega
  · exfalso; omega
  · exfalso; omega
  · exfalso; omega
  · exfalso; omega
  · exfalso; omega
  · exfalso; omega
  · exfalso; omega
  · exfalso; omega
  · exfalso; omega
  · exfalso; omega
  · exfalso; omega
  · exfalso; omega
  · exfalso; omega
  · exfalso; omega
  · exfalso; omega
  · exfalso; omega
  · exfalso; omega
  · exfalso; omega
  · exfalso; omega
  · exfalso; omega
  · exfalso; omega
  · exfalso; omega
theorem AO.e5 (h : AO X nr c j b s S a) (e : a.1 = 5) : ∃ n : Nat, (b = true ∧ OA X s 13 n ∧ iv X 26 n = a.2.1) ∨ (b = false ∧ OA X s 12 n ∧ iv X 25 n = -1 ∧ OA X (s + 1) 13 n ∧ iv X 26 n = a.2.1) := by
  obtain ⟨n, h⟩ := h
  rcases h with ⟨g, h⟩ | ⟨g, h⟩ | ⟨g, h⟩ | ⟨g, h⟩ | ⟨g, h⟩ | ⟨g, h⟩ | ⟨g, h⟩ | ⟨g, h⟩ | ⟨g, h⟩ | ⟨g, h⟩ | ⟨g, h⟩ | ⟨g, h⟩ | ⟨g, h⟩ | ⟨g, h⟩ | ⟨g, h⟩ | ⟨g, h⟩ | ⟨g, h⟩ | ⟨g, h⟩ | ⟨g, h⟩ | ⟨g, h⟩ | ⟨g, h⟩ | ⟨g, h⟩ | ⟨g, h⟩ | ⟨g, h⟩ | ⟨g, h⟩ | ⟨g, h⟩ | ⟨g, h⟩ | ⟨g, h⟩ | ⟨g, h⟩ | ⟨g, h⟩ | ⟨g, h⟩
  · exfalso; omega
  · exfalso; omega
  · exfalso; omega
  · exfalso; omega
  · exfalso; omega
  · exact ⟨n, h⟩
  · exfalso; omega
  · exfalso; omega
  · exfalso; omega
  · exfalso; omega
  · exfalso; omega
  · exfalso; omega
  · exfalso; omega
  · exfalso; omega
  · exfalso; omega
  · exfalso; omega
  · exfalso; omega
  · exfalso; omega
  · exfalso; omega
  · exfalso; omega
  · exfalso; omega
  · exfalso; omega
  · exfalso; omega
  · exfalso; omega
  · exfalso; omega
  · exfalso; omega
  · exfalso; omega
  · exfalso; omega
  · exfalso; omega
  · exfalso; omega
  · exfalso; omega
theorem AO.e6 (h : AO X nr c j b s S a) (e : a.1 = 6) : ∃ n : Nat, OA X s 15 n ∧ iv X 46 n = opl c a.2.1.toNat ∧ ∃ (m : Nat) (a1 : Ins), a.2.1 = (m : Int) ∧ c[m]? = some a1 := by
  obtain ⟨n, h⟩ := h
  rcases h with ⟨g, h⟩ | ⟨g, h⟩ | ⟨g, h⟩ | ⟨g, h⟩ | ⟨g, h⟩ | ⟨g, h⟩ | ⟨g, h⟩ | ⟨g, h⟩ | ⟨g, h⟩ | ⟨g, h⟩ | ⟨g, h⟩ | ⟨g, h⟩ | ⟨g, h⟩ | ⟨g, h⟩ | ⟨g, h⟩ | ⟨g, h⟩ | ⟨g, h⟩ | ⟨g, h⟩ | ⟨g, h⟩ | ⟨g, h⟩ | ⟨g, h⟩ | ⟨g, h⟩ | ⟨g, h⟩ | ⟨g, h⟩ | ⟨g, h⟩ | ⟨g, h⟩ | ⟨g, h⟩ | ⟨g, h⟩ | ⟨g, h⟩ | ⟨g, h⟩ | ⟨g, h⟩
  · exfalso; omega
  · exfalso; omega
  · exfalso; omega
  · exfalso; omega
  · exfalso; omega
  · exfalso; omega
  · exact ⟨n, h⟩
  · exfalso; omega
  · exfalso; omega
  · exfalso; omega
  · exfalso; omega
  · exfalso; omega
  · exfalso; omega
  · exfalso; omega
  · exfalso; omega
  · exfalso; omega
  · exfalso; omega
  · exfalso; omega
  · exfalso; omega
  · exfalso; omega
  · exfalso; omega
  · exfalso; omega
  · exfalso; omega
  · exfalso; omega
  · exfalso; omega
  · exfalso; omega
  · exfalso; omega
  · exfalso; omega
  · exfalso; omega
  · exfalso; omega
  · exfalso; omega
theorem AO.e7 (h : AO X nr c j b s S a) (e : a.1 = 7) : ∃ n : Nat, OA X s 16 n ∧ iv X 47 n = opl c a.2.1.toNat + 1 ∧ ∃ (m : Nat) (a1 : Ins), a.2.1 = (m : Int) ∧ c[m]? = some a1 ∧ a1.1 = 8 := by
  obtain ⟨n, h⟩ := h
  rcases h with ⟨g, h⟩ | ⟨g, h⟩ | ⟨g, h⟩ | ⟨g, h⟩ | ⟨g, h⟩ | ⟨g, h⟩ | ⟨g, h⟩ | ⟨g, h⟩ | ⟨g, h⟩ | ⟨g, h⟩ | ⟨g, h⟩ | ⟨g, h⟩ | ⟨g, h⟩ | ⟨g, h⟩ | ⟨g, h⟩ | ⟨g, h⟩ | ⟨g, h⟩ | ⟨g, h⟩ | ⟨g, h⟩ | ⟨g, h⟩ | ⟨g, h⟩ | ⟨g, h⟩ | ⟨g, h⟩ | ⟨g, h⟩ | ⟨g, h⟩ | ⟨g, h⟩ | ⟨g, h⟩ | ⟨g, h⟩ | ⟨g, h⟩ | ⟨g, h⟩ | ⟨g, h⟩
  · exfalso; omega
  · exfalso; omega
  · exfalso; omega
  · exfalso; omega
  · exfalso; omega
  · exfalso; omega
  · exfalso; omega
  · exact ⟨n, h⟩
  · exfalso; omega
  · exfalso; omega
  · exfalso; omega
  · exfalso; omega
  · exfalso; omega
  · exfalso; omega
  · exfalso; omega
  · exfalso; omega
  · exfalso; omega
  · exfalso; omega
  · exfalso; omega
  · exfalso; omega
  · exfalso; omega
  · exfalso; omega
  · exfalso; omega
  · exfalso; omega
  · exfalso; omega
  · exfalso; omega
  · exfalso; omega
  · exfalso; omega
  · exfalso; omega
  · exfalso; omega
  · exfalso; omega
theorem AO.e8 (h : AO X nr c j b s S a) (e : a.1 = 8) : ∃ n : Nat, OA X s 17 n ∧ iv X 21 n = a.2.2.1 ∧ ∃ (S1 : List SE) (j1 j2 : Nat), S = (some j2, none, 0) :: (some j1, none, 0) :: S1 ∧ GAT X c (ix (X.1 24 n)) j1 ∧ GAT X c (ix (X.1 25 n)) j2 := by
  obtain ⟨n, h⟩ := h
  rcases h with ⟨g, h⟩ | ⟨g, h⟩ | ⟨g, h⟩ | ⟨g, h⟩ | ⟨g, h⟩ | ⟨g, h⟩ | ⟨g, h⟩ | ⟨g, h⟩ | ⟨g, h⟩ | ⟨g, h⟩ | ⟨g, h⟩ | ⟨g, h⟩ | ⟨g, h⟩ | ⟨g, h⟩ | ⟨g, h⟩ | ⟨g, h⟩ | ⟨g, h⟩ | ⟨g, h⟩ | ⟨g, h⟩ | ⟨g, h⟩ | ⟨g, h⟩ | ⟨g, h⟩ | ⟨g, h⟩ | ⟨g, h⟩ | ⟨g, h⟩ | ⟨g, h⟩ | ⟨g, h⟩ | ⟨g, h⟩ | ⟨g, h⟩ | ⟨g, h⟩ | ⟨g, h⟩
  · exfalso; omega
  · exfalso; omega
  · exfalso; omega
  · exfalso; omega
  · exfalso; omega
  · exfalso; omega
  · exfalso; omega
  · exfalso; omega
  · exact ⟨n, h⟩
  · exfalso; omega
  · exfalso; omega
  · exfalso; omega
  · exfalso; omega
  · exfalso; omega
  · exfalso; omega
  · exfalso; omega
  · exfalso; omega
  · exfalso; omega
  · exfalso; omega
  · exfalso; omega
  · exfalso; omega
  · exfalso; omega
  · exfalso; omega
  · exfalso; omega
  · exfalso; omega
  · exfalso; omega
  · exfalso; omega
  · exfalso; omega
  · exfalso; omega
  · exfalso; omega
  · exfalso; omega
theorem AO.e9 (h : AO X nr c j b s S a) (e : a.1 = 9) : ∃ n : Nat, OA X s 29 n := by
  obtain ⟨n, h⟩ := h
  rcases h with ⟨g, h⟩ | ⟨g, h⟩ | ⟨g, h⟩ | ⟨g, h⟩ | ⟨g, h⟩ | ⟨g, h⟩ | ⟨g, h⟩ | ⟨g, h⟩ | ⟨g, h⟩ | ⟨g, h⟩ | ⟨g, h⟩ | ⟨g, h⟩ | ⟨g, h⟩ | ⟨g, h⟩ | ⟨g, h⟩ | ⟨g, h⟩ | ⟨g, h⟩ | ⟨g, h⟩ | ⟨g, h⟩ | ⟨g, h⟩ | ⟨g, h⟩ | ⟨g, h⟩ | ⟨g, h⟩ | ⟨g, h⟩ | ⟨g, h⟩ | ⟨g, h⟩ | ⟨g, h⟩ | ⟨g, h⟩ | ⟨g, h⟩ | ⟨g, h⟩ | ⟨g, h⟩
  · exfalso; omega
  · exfalso; omega
  · exfalso; omega
  · exfalso; omega
  · exfalso; omega
  · exfalso; omega
  · exfalso; omega
  · exfalso; omega
  · exfalso; omega
  · exact ⟨n, h⟩
  · exfalso; omega
  · exfalso; omega
  · exfalso; omega
  · exfalso; omega
  · exfalso; omega
  · exfalso; omega
  · exfalso; omega
  · exfalso; omega
  · exfalso; omega
  · exfalso; omega
  · exfalso; omega
  · exfalso; omega
  · exfalso; omega
  · exfalso; omega
  · exfalso; omega
  · exfalso; omega
  · exfalso; omega
  · exfalso; omega
  · exfalso; omega
  · exfalso; omega
  · exfalso; omega
theorem AO.e10 (h : AO X nr c j b s S a) (e : a.1 = 10) : ∃ n : Nat, OA X s 18 n ∧ iv X 21 n = a.2.2.1 ∧ iv X 27 n = a.2.1 ∧ ∃ (S1 : List SE) (us : List (Nat × Nat)), a.2.1 = (us.length : Int) ∧ S = us.reverse.map (fun w => ((some w.2, none, 0) : SE)) ++ S1 ∧ ECH X c (iv X 24 n) us := by
  obtain ⟨n, h⟩ := h
  rcases h with ⟨g, h⟩ | ⟨g, h⟩ | ⟨g, h⟩ | ⟨g, h⟩ | ⟨g, h⟩ | ⟨g, h⟩ | ⟨g, h⟩ | ⟨g, h⟩ | ⟨g, h⟩ | ⟨g, h⟩ | ⟨g, h⟩ | ⟨g, h⟩ | ⟨g, h⟩ | ⟨g, h⟩ | ⟨g, h⟩ | ⟨g, h⟩ | ⟨g, h⟩ | ⟨g, h⟩ | ⟨g, h⟩ | ⟨g, h⟩ | ⟨g, h⟩ | ⟨g, h⟩ | ⟨g, h⟩ | ⟨g, h⟩ | ⟨g, h⟩ | ⟨g, h⟩ | ⟨g, h⟩ | ⟨g, h⟩ | ⟨g, h⟩ | ⟨g, h⟩ | ⟨g, h⟩
  · exfalso; omega
  · exfalso; omega
  · exfalso; omega
  · exfalso; omega
  · exfalso; omega
  · exfalso; omega
  · exfalso; omega
  · exfalso; omega
  · exfalso; omega
  · exfalso; omega
  · exact ⟨n, h⟩
  · exfalso; omega
  · exfalso; omega
  · exfalso; omega
  · exfalso; omega
  · exfalso; omega
  · exfalso; omega
  · exfalso; omega
  · exfalso; omega
  · exfalso; omega
  · exfalso; omega
  · exfalso; omega
  · exfalso; omega
  · exfalso; omega
  · exfalso; omega
  · exfalso; omega
  · exfalso; omega
  · exfalso; omega
  · exfalso; omega
  · exfalso; omega
  · exfalso; omega
theorem AO.e11 (h : AO X nr c j b s S a) (e : a.1 = 11) : ∃ n : Nat, OA X s 19 n ∧ iv X 21 n = a.2.2.1 := by
  obtain ⟨n, h⟩ := h
  rcases h with ⟨g, h⟩ | ⟨g, h⟩ | ⟨g, h⟩ | ⟨g, h⟩ | ⟨g, h⟩ | ⟨g, h⟩ | ⟨g, h⟩ | ⟨g, h⟩ | ⟨g, h⟩ | ⟨g, h⟩ | ⟨g, h⟩ | ⟨g, h⟩ | ⟨g, h⟩ | ⟨g, h⟩ | ⟨g, h⟩ | ⟨g, h⟩ | ⟨g, h⟩ | ⟨g, h⟩ | ⟨g, h⟩ | ⟨g, h⟩ | ⟨g, h⟩ | ⟨g, h⟩ | ⟨g, h⟩ | ⟨g, h⟩ | ⟨g, h⟩ | ⟨g, h⟩ | ⟨g, h⟩ | ⟨g, h⟩ | ⟨g, h⟩ | ⟨g, h⟩ | ⟨g, h⟩
  · exfalso; omega
  · exfalso; omega
  · exfalso; omega
  · exfalso; omega
  · exfalso; omega
  · exfalso; omega
  · exfalso; omega
  · exfalso; omega
  · exfalso; omega
  · exfalso; omega
  · exfalso; omega
  · exact ⟨n, h⟩
  · exfalso; omega
  · exfalso; omega
  · exfalso; omega
  · exfalso; omega
  · exfalso; omega
  · exfalso; omega
  · exfalso; omega
  · exfalso; omega
  · exfalso; omega
  · exfalso; omega
  · exfalso; omega
  · exfalso; omega
  · exfalso; omega
  · exfalso; omega
  · exfalso; omega
  · exfalso; omega
  · exfalso; omega
  · exfalso; omega
  · exfalso; omega
theorem AO.e12 (h : AO X nr c j b s S a) (e : a.1 = 12) : ∃ n : Nat, OA X s 20 n ∧ iv X 21 n = a.2.2.1 := by
  obtain ⟨n, h⟩ := h
  rcases h with ⟨g, h⟩ | ⟨g, h⟩ | ⟨g, h⟩ | ⟨g, h⟩ | ⟨g, h⟩ | ⟨g, h⟩ | ⟨g, h⟩ | ⟨g, h⟩ | ⟨g, h⟩ | ⟨g, h⟩ | ⟨g, h⟩ | ⟨g, h⟩ | ⟨g, h⟩ | ⟨g, h⟩ | ⟨g, h⟩ | ⟨g, h⟩ | ⟨g, h⟩ | ⟨g, h⟩ | ⟨g, h⟩ | ⟨g, h⟩ | ⟨g, h⟩ | ⟨g, h⟩ | ⟨g, h⟩ | ⟨g, h⟩ | ⟨g, h⟩ | ⟨g, h⟩ | ⟨g, h⟩ | ⟨g, h⟩ | ⟨g, h⟩ | ⟨g, h⟩ | ⟨g, h⟩
  · exfalso; omega
  · exfalso; omega
  · exfalso; omega
  · exfalso; omega
  · exfalso; omega
  · exfalso; omega
  · exfalso; omega
  · exfalso; omega
  · exfalso; omega
  · exfalso; omega
  · exfalso; omega
  · exfalso; omega
  · exact ⟨n, h⟩
  · exfalso; omega
  · exfalso; omega
  · exfalso; omega
  · exfalso; omega
  · exfalso; omega
  · exfalso; omega
  · exfalso; omega
  · exfalso; omega
  · exfalso; omega
  · exfalso; omega
  · exfalso; omega
  · exfalso; omega
  · exfalso; omega
  · exfalso; omega
  · exfalso; omega
  · exfalso; omega
  · exfalso; omega
  · exfalso; omega
theorem AO.e13 (h : AO X nr c j b s S a) (e : a.1 = 13) : ∃ n : Nat, OA X s 21 n ∧ iv X 21 n = a.2.2.1 := by
  obtain ⟨n, h⟩ := h
  rcases h with ⟨g, h⟩ | ⟨g, h⟩ | ⟨g, h⟩ | ⟨g, h⟩ | ⟨g, h⟩ | ⟨g, h⟩ | ⟨g, h⟩ | ⟨g, h⟩ | ⟨g, h⟩ | ⟨g, h⟩ | ⟨g, h⟩ | ⟨g, h⟩ | ⟨g, h⟩ | ⟨g, h⟩ | ⟨g, h⟩ | ⟨g, h⟩ | ⟨g, h⟩ | ⟨g, h⟩ | ⟨g, h⟩ | ⟨g, h⟩ | ⟨g, h⟩ | ⟨g, h⟩ | ⟨g, h⟩ | ⟨g, h⟩ | ⟨g, h⟩ | ⟨g, h⟩ | ⟨g, h⟩ | ⟨g, h⟩ | ⟨g, h⟩ | ⟨g, h⟩ | ⟨g, h⟩
  · exfalso; omega
  · exfalso; omega
  · exfalso; omega
  · exfalso; omega
  · exfalso; omega
  · exfalso; omega
  · exfalso; omega
  · exfalso; omega
  · exfalso; omega
  · exfalso; omega
  · exfalso; omega
  · exfalso; omega
  · exfalso; omega
  · exact ⟨n, h⟩
  · exfalso; omega
  · exfalso; omega
  · exfalso; omega
  · exfalso; omega
  · exfalso; omega
  · exfalso; omega
  · exfalso; omega
  · exfalso; omega
  · exfalso; omega
  · exfalso; omega
  · exfalso; omega
  · exfalso; omega
  · exfalso; omega
  · exfalso; omega
  · exfalso; omega
  · exfalso; omega
  · exfalso; omega
theorem AO.e14 (h : AO X nr c j b s S a) (e : a.1 = 14) : ∃ n : Nat, OA X s 26 n ∧ iv X 22 n = a.2.2.1 ∧ FM S 1 1 := by
  obtain ⟨n, h⟩ := h
  rcases h with ⟨g, h⟩ | ⟨g, h⟩ | ⟨g, h⟩ | ⟨g, h⟩ | ⟨g, h⟩ | ⟨g, h⟩ | ⟨g, h⟩ | ⟨g, h⟩ | ⟨g, h⟩ | ⟨g, h⟩ | ⟨g, h⟩ | ⟨g, h⟩ | ⟨g, h⟩ | ⟨g, h⟩ | ⟨g, h⟩ | ⟨g, h⟩ | ⟨g, h⟩ | ⟨g, h⟩ | ⟨g, h⟩ | ⟨g, h⟩ | ⟨g, h⟩ | ⟨g, h⟩ | ⟨g, h⟩ | ⟨g, h⟩ | ⟨g, h⟩ | ⟨g, h⟩ | ⟨g, h⟩ | ⟨g, h⟩ | ⟨g, h⟩ | ⟨g, h⟩ | ⟨g, h⟩
  · exfalso; omega
  · exfalso; omega
  · exfalso; omega
  · exfalso; omega
  · exfalso; omega
  · exfalso; omega
  · exfalso; omega
  · exfalso; omega
  · exfalso; omega
  · exfalso; omega
  · exfalso; omega
  · exfalso; omega
  · exfalso; omega
  · exfalso; omega
  · exact ⟨n, h⟩
  · exfalso; omega
  · exfalso; omega
  · exfalso; omega
  · exfalso; omega
  · exfalso; omega
  · exfalso; omega
  · exfalso; omega
  · exfalso; omega
  · exfalso; omega
  · exfalso; omega
  · exfalso; omega
  · exfalso; omega
  · exfalso; omega
  · exfalso; omega
  · exfalso; omega
  · exfalso; omega
theorem AO.e15 (h : AO X nr c j b s S a) (e : a.1 = 15) : ∃ n : Nat, OA X s 27 n ∧ iv X 22 n = a.2.2.1 ∧ FM S 2 1 := by
  obtain ⟨n, h⟩ := h
  rcases h with ⟨g, h⟩ | ⟨g, h⟩ | ⟨g, h⟩ | ⟨g, h⟩ | ⟨g, h⟩ | ⟨g, h⟩ | ⟨g, h⟩ | ⟨g, h⟩ | ⟨g, h⟩ | ⟨g, h⟩ | ⟨g, h⟩ | ⟨g, h⟩ | ⟨g, h⟩ | ⟨g, h⟩ | ⟨g, h⟩ | ⟨g, h⟩ | ⟨g, h⟩ | ⟨g, h⟩ | ⟨g, h⟩ | ⟨g, h⟩ | ⟨g, h⟩ | ⟨g, h⟩ | ⟨g, h⟩ | ⟨g, h⟩ | ⟨g, h⟩ | ⟨g, h⟩ | ⟨g, h⟩ | ⟨g, h⟩ | ⟨g, h⟩ | ⟨g, h⟩ | ⟨g, h⟩
  · exfalso; omega
  · exfalso; omega
  · exfalso; omega
  · exfalso; omega
  · exfalso; omega
  · exfalso; omega
  · exfalso; omega
  · exfalso; omega
  · exfalso; omega
  · exfalso; omega
  · exfalso; omega
  · exfalso; omega
  · exfalso; omega
  · exfalso; omega
  · exfalso; omega
  · exact ⟨n, h⟩
  · exfalso; omega
  · exfalso; omega
  · exfalso; omega
  · exfalso; omega
  · exfalso; omega
  · exfalso; omega
  · exfalso; omega
  · exfalso; omega
  · exfalso; omega
  · exfalso; omega
  · exfalso; omega
  · exfalso; omega
  · exfalso; omega
  · exfalso; omega
  · exfalso; omega
theorem AO.e16 (h : AO X nr c j b s S a) (e : a.1 = 16) : ∃ n : Nat, OA X s 28 n ∧ iv X 22 n = a.2.2.1 ∧ iv X 27 n = a.2.1 ∧ 0 ≤ a.2.1 ∧ FM S a.2.1.toNat (2 + a.2.1.toNat) := by
  obtain ⟨n, h⟩ := h
  rcases h with ⟨g, h⟩ | ⟨g, h⟩ | ⟨g, h⟩ | ⟨g, h⟩ | ⟨g, h⟩ | ⟨g, h⟩ | ⟨g, h⟩ | ⟨g, h⟩ | ⟨g, h⟩ | ⟨g, h⟩ | ⟨g, h⟩ | ⟨g, h⟩ | ⟨g, h⟩ | ⟨g, h⟩ | ⟨g, h⟩ | ⟨g, h⟩ | ⟨g, h⟩ | ⟨g, h⟩ | ⟨g, h⟩ | ⟨g, h⟩ | ⟨g, h⟩ | ⟨g, h⟩ | ⟨g, h⟩ | ⟨g, h⟩ | ⟨g, h⟩ | ⟨g, h⟩ | ⟨g, h⟩ | ⟨g, h⟩ | ⟨g, h⟩ | ⟨g, h⟩ | ⟨g, h⟩
  · exfalso; omega
  · exfalso; omega
  · exfalso; omega
  · exfalso; omega
  · exfalso; omega
  · exfalso; omega
  · exfalso; omega
  · exfalso; omega
  · exfalso; omega
  · exfalso; omega
  · exfalso; omega
  · exfalso; omega
  · exfalso; omega
  · exfalso; omega
  · exfalso; omega
  · exfalso; omega
  · exact ⟨n, h⟩
  · exfalso; omega
  · exfalso; omega
  · exfalso; omega
  · exfalso; omega
  · exfalso; omega
  · exfalso; omega
  · exfalso; omega
  · exfalso; omega
  · exfalso; omega
  · exfalso; omega
  · exfalso; omega
  · exfalso; omega
  · exfalso; omega
  · exfalso; omega
theorem AO.e17 (h : AO X nr c j b s S a) (e : a.1 = 17) : ∃ n : Nat, OA X s 31 n := by
  obtain ⟨n, h⟩ := h
  rcases h with ⟨g, h⟩ | ⟨g, h⟩ | ⟨g, h⟩ | ⟨g, h⟩ | ⟨g, h⟩ | ⟨g, h⟩ | ⟨g, h⟩ | ⟨g, h⟩ | ⟨g, h⟩ | ⟨g, h⟩ | ⟨g, h⟩ | ⟨g, h⟩ | ⟨g, h⟩ | ⟨g, h⟩ | ⟨g, h⟩ | ⟨g, h⟩ | ⟨g, h⟩ | ⟨g, h⟩ | ⟨g, h⟩ | ⟨g, h⟩ | ⟨g, h⟩ | ⟨g, h⟩ | ⟨g, h⟩ | ⟨g, h⟩ | ⟨g, h⟩ | ⟨g, h⟩ | ⟨g, h⟩ | ⟨g, h⟩ | ⟨g, h⟩ | ⟨g, h⟩ | ⟨g, h⟩
  · exfalso; omega
  · exfalso; omega
  · exfalso; omega
  · exfalso; omega
  · exfalso; omega
  · exfalso; omega
  · exfalso; omega
  · exfalso; omega
  · exfalso; omega
  · exfalso; omega
  · exfalso; omega
  · exfalso; omega
  · exfalso; omega
  · exfalso; omega
  · exfalso; omega
  · exfalso; omega
  · exfalso; omega
  · exact ⟨n, h⟩
  · exfalso; omega
  · exfalso; omega
  · exfalso; omega
  · exfalso; omega
  · exfalso; omega
  · exfalso; omega
  · exfalso; omega
  · exfalso; omega
  · exfalso; omega
  · exfalso; omega
  · exfalso; omega
  · exfalso; omega
  · exfalso; omega
theorem AO.e18 (h : AO X nr c j b s S a) (e : a.1 = 18) : ∃ n : Nat, OA X s 22 n ∧ iv X 21 n = a.2.2.1 := by
  obtain ⟨n, h⟩ := h
  rcases h with ⟨g, h⟩ | ⟨g, h⟩ | ⟨g, h⟩ | ⟨g, h⟩ | ⟨g, h⟩ | ⟨g, h⟩ | ⟨g, h⟩ | ⟨g, h⟩ | ⟨g, h⟩ | ⟨g, h⟩ | ⟨g, h⟩ | ⟨g, h⟩ | ⟨g, h⟩ | ⟨g, h⟩ | ⟨g, h⟩ | ⟨g, h⟩ | ⟨g, h⟩ | ⟨g, h⟩ | ⟨g, h⟩ | ⟨g, h⟩ | ⟨g, h⟩ | ⟨g, h⟩ | ⟨g, h⟩ | ⟨g, h⟩ | ⟨g, h⟩ | ⟨g, h⟩ | ⟨g, h⟩ | ⟨g, h⟩ | ⟨g, h⟩ | ⟨g, h⟩ | ⟨g, h⟩
  · exfalso; omega
  · exfalso; omega
  · exfalso; omega
  · exfalso; omega
  · exfalso; omega
  · exfalso; omega
  · exfalso; omega
  · exfalso; omega
  · exfalso; omega
  · exfalso; omega
  · exfalso; omega
  · exfalso; omega
  · exfalso; omega
  · exfalso; omega
  · exfalso; omega
  · exfalso; omega
  · exfalso; omega
  · exfalso; omega
  · exact ⟨n, h⟩
  · exfalso; omega
  · exfalso; omega
  · exfalso; omega
  · exfalso; omega
  · exfalso; omega
  · exfalso; omega
  · exfalso; omega
  · exfalso; omega
  · exfalso; omega
  · exfalso; omega
  · exfalso; omega
  · exfalso; omega
theorem AO.e19 (h : AO X nr c j b s S a) (e : a.1 = 19) : ∃ n : Nat, OA X s 23 n ∧ iv X 21 n = a.2.2.1 := by
  obtain ⟨n, h⟩ := h
  rcases h with ⟨g, h⟩ | ⟨g, h⟩ | ⟨g, h⟩ | ⟨g, h⟩ | ⟨g, h⟩ | ⟨g, h⟩ | ⟨g, h⟩ | ⟨g, h⟩ | ⟨g, h⟩ | ⟨g, h⟩ | ⟨g, h⟩ | ⟨g, h⟩ | ⟨g, h⟩ | ⟨g, h⟩ | ⟨g, h⟩ | ⟨g, h⟩ | ⟨g, h⟩ | ⟨g, h⟩ | ⟨g, h⟩ | ⟨g, h⟩ | ⟨g, h⟩ | ⟨g, h⟩ | ⟨g, h⟩ | ⟨g, h⟩ | ⟨g, h⟩ | ⟨g, h⟩ | ⟨g, h⟩ | ⟨g, h⟩ | ⟨g, h⟩ | ⟨g, h⟩ | ⟨g, h⟩
  · exfalso; omega
  · exfalso; omega
  · exfalso; omega
  · exfalso; omega
  · exfalso; omega
  · exfalso; omega
  · exfalso; omega
  · exfalso; omega
  · exfalso; omega
  · exfalso; omega
  · exfalso; omega
  · exfalso; omega
  · exfalso; omega
  · exfalso; omega
  · exfalso; omega
  · exfalso; omega
  · exfalso; omega
  · exfalso; omega
  · exfalso; omega
  · exact ⟨n, h⟩
  · exfalso; omega
  · exfalso; omega
  · exfalso; omega
  · exfalso; omega
  · exfalso; omega
  · exfalso; omega
  · exfalso; omega
  · exfalso; omega
  · exfalso; omega
  · exfalso; omega
  · exfalso; omega
theorem AO.e20 (h : AO X nr c j b s S a) (e : (20 ≤ a.1 ∧ a.1 ≤ 26)) : ∃ n : Nat, OA X s (if a.1 ≤ 21 then 25 else 24) n ∧ iv X 22 n = a.2.2.1 ∧ opc (iv X 26 n) = a.1 := by
  obtain ⟨n, h⟩ := h
  rcases h with ⟨g, h⟩ | ⟨g, h⟩ | ⟨g, h⟩ | ⟨g, h⟩ | ⟨g, h⟩ | ⟨g, h⟩ | ⟨g, h⟩ | ⟨g, h⟩ | ⟨g, h⟩ | ⟨g, h⟩ | ⟨g, h⟩ | ⟨g, h⟩ | ⟨g, h⟩ | ⟨g, h⟩ | ⟨g, h⟩ | ⟨g, h⟩ | ⟨g, h⟩ | ⟨g, h⟩ | ⟨g, h⟩ | ⟨g, h⟩ | ⟨g, h⟩ | ⟨g, h⟩ | ⟨g, h⟩ | ⟨g, h⟩ | ⟨g, h⟩ | ⟨g, h⟩ | ⟨g, h⟩ | ⟨g, h⟩ | ⟨g, h⟩ | ⟨g, h⟩ | ⟨g, h⟩
  · exfalso; omega
  · exfalso; omega
  · exfalso; omega
  · exfalso; omega
  · exfalso; omega
  · exfalso; omega
  · exfalso; omega
  · exfalso; omega
  · exfalso; omega
  · exfalso; omega
  · exfalso; omega
  · exfalso; omega
  · exfalso; omega
  · exfalso; omega
  · exfalso; omega
  · exfalso; omega
  · exfalso; omega
  · exfalso; omega
  · exfalso; omega
  · exfalso; omega
  · exact ⟨n, h⟩
  · exfalso; omega
  · exfalso; omega
  · exfalso; omega
  · exfalso; omega
  · exfalso; omega
  · exfalso; omega
  · exfalso; omega
  · exfalso; omega
  · exfalso; omega
  · exfalso; omega
theorem AO.e27 (h : AO X nr c j b s S a) (e : a.1 = 27) : ∃ n : Nat, OA X s 5 n ∧ iv X 21 n = a.2.2.1 := by
  obtain ⟨n, h⟩ := h
  rcases h with ⟨g, h⟩ | ⟨g, h⟩ | ⟨g, h⟩ | ⟨g, h⟩ | ⟨g, h⟩ | ⟨g, h⟩ | ⟨g, h⟩ | ⟨g, h⟩ | ⟨g, h⟩ | ⟨g, h⟩ | ⟨g, h⟩ | ⟨g, h⟩ | ⟨g, h⟩ | ⟨g, h⟩ | ⟨g, h⟩ | ⟨g, h⟩ | ⟨g, h⟩ | ⟨g, h⟩ | ⟨g, h⟩ | ⟨g, h⟩ | ⟨g, h⟩ | ⟨g, h⟩ | ⟨g, h⟩ | ⟨g, h⟩ | ⟨g, h⟩ | ⟨g, h⟩ | ⟨g, h⟩ | ⟨g, h⟩ | ⟨g, h⟩ | ⟨g, h⟩ | ⟨g, h⟩
  · exfalso; omega
  · exfalso; omega
  · exfalso; omega
  · exfalso; omega
  · exfalso; omega
  · exfalso; omega
  · exfalso; omega
  · exfalso; omega
  · exfalso; omega
  · exfalso; omega
  · exfalso; omega
  · exfalso; omega
  · exfalso; omega
  · exfalso; omega
  · exfalso; omega
  · exfalso; omega
  · exfalso; omega
  · exfalso; omega
  · exfalso; omega
  · exfalso; omega
  · exfalso; omega
  · exact ⟨n, h⟩
  · exfalso; omega
  · exfalso; omega
  · exfalso; omega
  · exfalso; omega
  · exfalso; omega
  · exfalso; omega
  · exfalso; omega
  · exfalso; omega
  · exfalso; omega
theorem AO.e28 (h : AO X nr c j b s S a) (e : a.1 = 28) : ∃ n : Nat, OA X s 6 n ∧ iv X 21 n = a.2.2.1 := by
  obtain ⟨n, h⟩ := h
  rcases h with ⟨g, h⟩ | ⟨g, h⟩ | ⟨g, h⟩ | ⟨g, h⟩ | ⟨g, h⟩ | ⟨g, h⟩ | ⟨g, h⟩ | ⟨g, h⟩ | ⟨g, h⟩ | ⟨g, h⟩ | ⟨g, h⟩ | ⟨g, h⟩ | ⟨g, h⟩ | ⟨g, h⟩ | ⟨g, h⟩ | ⟨g, h⟩ | ⟨g, h⟩ | ⟨g, h⟩ | ⟨g, h⟩ | ⟨g, h⟩ | ⟨g, h⟩ | ⟨g, h⟩ | ⟨g, h⟩ | ⟨g, h⟩ | ⟨g, h⟩ | ⟨g, h⟩ | ⟨g, h⟩ | ⟨g, h⟩ | ⟨g, h⟩ | ⟨g, h⟩ | ⟨g, h⟩
  · exfalso; omega
  · exfalso; omega
  · exfalso; omega
  · exfalso; omega
  · exfalso; omega
  · exfalso; omega
  · exfalso; omega
  · exfalso; omega
  · exfalso; omega
  · exfalso; omega
  · exfalso; omega
  · exfalso; omega
  · exfalso; omega
  · exfalso; omega
  · exfalso; omega
  · exfalso; omega
  · exfalso; omega
  · exfalso; omega
  · exfalso; omega
  · exfalso; omega
  · exfalso; omega
  · exfalso; omega
  · exact ⟨n, h⟩
  · exfalso; omega
  · exfalso; omega
  · exfalso; omega
  · exfalso; omega
  · exfalso; omega
  · exfalso; omega
  · exfalso; omega
  · exfalso; omega
theorem AO.e29 (h : AO X nr c j b s S a) (e : a.1 = 29) : ∃ n : Nat, (OA X s 8 n ∧ iv X 22 n = a.2.2.1) ∨ (OA X s 9 n ∧ iv X 21 n = a.2.2.1) := by
  obtain ⟨n, h⟩ := h
  rcases h with ⟨g, h⟩ | ⟨g, h⟩ | ⟨g, h⟩ | ⟨g, h⟩ | ⟨g, h⟩ | ⟨g, h⟩ | ⟨g, h⟩ | ⟨g, h⟩ | ⟨g, h⟩ | ⟨g, h⟩ | ⟨g, h⟩ | ⟨g, h⟩ | ⟨g, h⟩ | ⟨g, h⟩ | ⟨g, h⟩ | ⟨g, h⟩ | ⟨g, h⟩ | ⟨g, h⟩ | ⟨g, h⟩ | ⟨g, h⟩ | ⟨g, h⟩ | ⟨g, h⟩ | ⟨g, h⟩ | ⟨g, h⟩ | ⟨g, h⟩ | ⟨g, h⟩ | ⟨g, h⟩ | ⟨g, h⟩ | ⟨g, h⟩ | ⟨g, h⟩ | ⟨g, h⟩
  · exfalso; omega
  · exfalso; omega
  · exfalso; omega
  · exfalso; omega
  · exfalso; omega
  · exfalso; omega
  · exfalso; omega
  · exfalso; omega
  · exfalso; omega
  · exfalso; omega
  · exfalso; omega
  · exfalso; omega
  · exfalso; omega
  · exfalso; omega
  · exfalso; omega
  · exfalso; omega
  · exfalso; omega
  · exfalso; omega
  · exfalso; omega
  · exfalso; omega
  · exfalso; omega
  · exfalso; omega
  · exfalso; omega
  · exact ⟨n, h⟩
  · exfalso; omega
  · exfalso; omega
  · exfalso; omega
  · exfalso; omega
  · exfalso; omega
  · exfalso; omega
  · exfalso; omega
theorem AO.e30 (h : AO X nr c j b s S a) (e : a.1 = 30) : ∃ n : Nat, OA X s 7 n ∧ iv X 22 n = a.2.2.1 ∧ iv X 27 n = a.2.1 ∧ ¬ iv X 20 (ix (X.1 23 n)) = 3 := by
  obtain ⟨n, h⟩ := h
  rcases h with ⟨g, h⟩ | ⟨g, h⟩ | ⟨g, h⟩ | ⟨g, h⟩ | ⟨g, h⟩ | ⟨g, h⟩ | ⟨g, h⟩ | ⟨g, h⟩ | ⟨g, h⟩ | ⟨g, h⟩ | ⟨g, h⟩ | ⟨g, h⟩ | ⟨g, h⟩ | ⟨g, h⟩ | ⟨g, h⟩ | ⟨g, h⟩ | ⟨g, h⟩ | ⟨g, h⟩ | ⟨g, h⟩ | ⟨g, h⟩ | ⟨g, h⟩ | ⟨g, h⟩ | ⟨g, h⟩ | ⟨g, h⟩ | ⟨g, h⟩ | ⟨g, h⟩ | ⟨g, h⟩ | ⟨g, h⟩ | ⟨g, h⟩ | ⟨g, h⟩ | ⟨g, h⟩
  · exfalso; omega
  · exfalso; omega
  · exfalso; omega
  · exfalso; omega
  · exfalso; omega
  · exfalso; omega
  · exfalso; omega
  · exfalso; omega
  · exfalso; omega
  · exfalso; omega
  · exfalso; omega
  · exfalso; omega
  · exfalso; omega
  · exfalso; omega
  · exfalso; omega
  · exfalso; omega
  · exfalso; omega
  · exfalso; omega
  · exfalso; omega
  · exfalso; omega
  · exfalso; omega
  · exfalso; omega
  · exfalso; omega
  · exfalso; omega
  · exact ⟨n, h⟩
  · exfalso; omega
  · exfalso; omega
  · exfalso; omega
  · exfalso; omega
  · exfalso; omega
  · exfalso; omega
theorem AO.e31 (h : AO X nr c j b s S a) (e : a.1 = 31) : ∃ n : Nat, OA X s 7 n ∧ iv X 22 n = a.2.2.1 ∧ iv X 27 n = a.2.1 ∧ iv X 20 (ix (X.1 23 n)) = 3 ∧ iv X 26 (ix (X.1 23 n)) = nr (plc c (j - 1)) ∧ 1 ≤ j ∧ ∃ a1, c[j - 1]? = some a1 ∧ a1.1 = 4 := by
  obtain ⟨n, h⟩ := h
  rcases h with ⟨g, h⟩ | ⟨g, h⟩ | ⟨g, h⟩ | ⟨g, h⟩ | ⟨g, h⟩ | ⟨g, h⟩ | ⟨g, h⟩ | ⟨g, h⟩ | ⟨g, h⟩ | ⟨g, h⟩ | ⟨g, h⟩ | ⟨g, h⟩ | ⟨g, h⟩ | ⟨g, h⟩ | ⟨g, h⟩ | ⟨g, h⟩ | ⟨g, h⟩ | ⟨g, h⟩ | ⟨g, h⟩ | ⟨g, h⟩ | ⟨g, h⟩ | ⟨g, h⟩ | ⟨g, h⟩ | ⟨g, h⟩ | ⟨g, h⟩ | ⟨g, h⟩ | ⟨g, h⟩ | ⟨g, h⟩ | ⟨g, h⟩ | ⟨g, h⟩ | ⟨g, h⟩
  · exfalso; omega
  · exfalso; omega
  · exfalso; omega
  · exfalso; omega
  · exfalso; omega
  · exfalso; omega
  · exfalso; omega
  · exfalso; omega
  · exfalso; omega
  · exfalso; omega
  · exfalso; omega
  · exfalso; omega
  · exfalso; omega
  · exfalso; omega
  · exfalso; omega
  · exfalso; omega
  · exfalso; omega
  · exfalso; omega
  · exfalso; omega
  · exfalso; omega
  · exfalso; omega
  · exfalso; omega
  · exfalso; omega
  · exfalso; omega
  · exfalso; omega
  · exact ⟨n, h⟩
  · exfalso; omega
  · exfalso; omega
  · exfalso; omega
  · exfalso; omega
  · exfalso; omega
theorem AO.e32 (h : AO X nr c j b s S a) (e : a.1 = 32) : ∃ n : Nat, OA X s 10 n ∧ iv X 21 n = a.2.2.1 ∧ iv X 42 s = 8 * a.2.1 ∧ 0 ≤ a.2.1 ∧ ∃ (m : Nat) (q : Option Nat) (t : Option Nat) (h : Nat), iv X 51 n = (m : Int) ∧ S[a.2.1.toNat + 1]? = some (q, t, 2 + h) ∧ a.2.1.toNat < h ∧ ((iv X 20 (ix (X.1 23 m)) = 3 ∧ ∃ t1 a1, t = some t1 ∧ iv X 26 (ix (X.1 23 m)) = nr (plc c t1) ∧ c[t1]? = some a1 ∧ a1.1 = 4) ∨ (¬ iv X 20 (ix (X.1 23 m)) = 3 ∧ t = none)) := by
  obtain ⟨n, h⟩ := h
  rcases h with ⟨g, h⟩ | ⟨g, h⟩ | ⟨g, h⟩ | ⟨g, h⟩ | ⟨g, h⟩ | ⟨g, h⟩ | ⟨g, h⟩ | ⟨g, h⟩ | ⟨g, h⟩ | ⟨g, h⟩ | ⟨g, h⟩ | ⟨g, h⟩ | ⟨g, h⟩ | ⟨g, h⟩ | ⟨g, h⟩ | ⟨g, h⟩ | ⟨g, h⟩ | ⟨g, h⟩ | ⟨g, h⟩ | ⟨g, h⟩ | ⟨g, h⟩ | ⟨g, h⟩ | ⟨g, h⟩ | ⟨g, h⟩ | ⟨g, h⟩ | ⟨g, h⟩ | ⟨g, h⟩ | ⟨g, h⟩ | ⟨g, h⟩ | ⟨g, h⟩ | ⟨g, h⟩
  · exfalso; omega
  · exfalso; omega
  · exfalso; omega
  · exfalso; omega
  · exfalso; omega
  · exfalso; omega
  · exfalso; omega
  · exfalso; omega
  · exfalso; omega
  · exfalso; omega
  · exfalso; omega
  · exfalso; omega
  · exfalso; omega
  · exfalso; omega
  · exfalso; omega
  · exfalso; omega
  · exfalso; omega
  · exfalso; omega
  · exfalso; omega
  · exfalso; omega
  · exfalso; omega
  · exfalso; omega
  · exfalso; omega
  · exfalso; omega
  · exfalso; omega
  · exfalso; omega
  · exact ⟨n, h⟩
  · exfalso; omega
  · exfalso; omega
  · exfalso; omega
  · exfalso; omega
theorem AO.e33 (h : AO X nr c j b s S a) (e : a.1 = 33) : ∃ n : Nat, OA X s 11 n ∧ iv X 21 (ix (X.1 25 n)) = a.2.2.1 ∧ FM S 2 1 := by
  obtain ⟨n, h⟩ := h
  rcases h with ⟨g, h⟩ | ⟨g, h⟩ | ⟨g, h⟩ | ⟨g, h⟩ | ⟨g, h⟩ | ⟨g, h⟩ | ⟨g, h⟩ | ⟨g, h⟩ | ⟨g, h⟩ | ⟨g, h⟩ | ⟨g, h⟩ | ⟨g, h⟩ | ⟨g, h⟩ | ⟨g, h⟩ | ⟨g, h⟩ | ⟨g, h⟩ | ⟨g, h⟩ | ⟨g, h⟩ | ⟨g, h⟩ | ⟨g, h⟩ | ⟨g, h⟩ | ⟨g, h⟩ | ⟨g, h⟩ | ⟨g, h⟩ | ⟨g, h⟩ | ⟨g, h⟩ | ⟨g, h⟩ | ⟨g, h⟩ | ⟨g, h⟩ | ⟨g, h⟩ | ⟨g, h⟩
  · exfalso; omega
  · exfalso; omega
  · exfalso; omega
  · exfalso; omega
  · exfalso; omega
  · exfalso; omega
  · exfalso; omega
  · exfalso; omega
  · exfalso; omega
  · exfalso; omega
  · exfalso; omega
  · exfalso; omega
  · exfalso; omega
  · exfalso; omega
  · exfalso; omega
  · exfalso; omega
  · exfalso; omega
  · exfalso; omega
  · exfalso; omega
  · exfalso; omega
  · exfalso; omega
  · exfalso; omega
  · exfalso; omega
  · exfalso; omega
  · exfalso; omega
  · exfalso; omega
  · exfalso; omega
  · exact ⟨n, h⟩
  · exfalso; omega
  · exfalso; omega
  · exfalso; omega
theorem AO.e34 (h : AO X nr c j b s S a) (e : a.1 = 34) : ∃ n : Nat, OA X s 12 n ∧ iv X 21 (ix (X.1 23 n)) = a.2.2.1 ∧ ∃ k : Nat, iv X 25 n = (k : Int) ∧ KD X k a.2.2.2 := by
  obtain ⟨n, h⟩ := h
  rcases h with ⟨g, h⟩ | ⟨g, h⟩ | ⟨g, h⟩ | ⟨g, h⟩ | ⟨g, h⟩ | ⟨g, h⟩ | ⟨g, h⟩ | ⟨g, h⟩ | ⟨g, h⟩ | ⟨g, h⟩ | ⟨g, h⟩ | ⟨g, h⟩ | ⟨g, h⟩ | ⟨g, h⟩ | ⟨g, h⟩ | ⟨g, h⟩ | ⟨g, h⟩ | ⟨g, h⟩ | ⟨g, h⟩ | ⟨g, h⟩ | ⟨g, h⟩ | ⟨g, h⟩ | ⟨g, h⟩ | ⟨g, h⟩ | ⟨g, h⟩ | ⟨g, h⟩ | ⟨g, h⟩ | ⟨g, h⟩ | ⟨g, h⟩ | ⟨g, h⟩ | ⟨g, h⟩
  · exfalso; omega
  · exfalso; omega
  · exfalso; omega
  · exfalso; omega
  · exfalso; omega
  · exfalso; omega
  · exfalso; omega
  · exfalso; omega
  · exfalso; omega
  · exfalso; omega
  · exfalso; omega
  · exfalso; omega
  · exfalso; omega
  · exfalso; omega
  · exfalso; omega
  · exfalso; omega
  · exfalso; omega
  · exfalso; omega
  · exfalso; omega
  · exfalso; omega
  · exfalso; omega
  · exfalso; omega
  · exfalso; omega
  · exfalso; omega
  · exfalso; omega
  · exfalso; omega
  · exfalso; omega
  · exfalso; omega
  · exact ⟨n, h⟩
  · exfalso; omega
  · exfalso; omega
theorem AO.e35 (h : AO X nr c j b s S a) (e : a.1 = 35) : ∃ n : Nat, OA X s 30 n ∧ a.2.1 = (n : Int) ∧ iv X 21 (ix (X.1 18 n)) = a.2.2.1 := by
  obtain ⟨n, h⟩ := h
  rcases h with ⟨g, h⟩ | ⟨g, h⟩ | ⟨g, h⟩ | ⟨g, h⟩ | ⟨g, h⟩ | ⟨g, h⟩ | ⟨g, h⟩ | ⟨g, h⟩ | ⟨g, h⟩ | ⟨g, h⟩ | ⟨g, h⟩ | ⟨g, h⟩ | ⟨g, h⟩ | ⟨g, h⟩ | ⟨g, h⟩ | ⟨g, h⟩ | ⟨g, h⟩ | ⟨g, h⟩ | ⟨g, h⟩ | ⟨g, h⟩ | ⟨g, h⟩ | ⟨g, h⟩ | ⟨g, h⟩ | ⟨g, h⟩ | ⟨g, h⟩ | ⟨g, h⟩ | ⟨g, h⟩ | ⟨g, h⟩ | ⟨g, h⟩ | ⟨g, h⟩ | ⟨g, h⟩
  · exfalso; omega
  · exfalso; omega
  · exfalso; omega
  · exfalso; omega
  · exfalso; omega
  · exfalso; omega
  · exfalso; omega
  · exfalso; omega
  · exfalso; omega
  · exfalso; omega
  · exfalso; omega
  · exfalso; omega
  · exfalso; omega
  · exfalso; omega
  · exfalso; omega
  · exfalso; omega
  · exfalso; omega
  · exfalso; omega
  · exfalso; omega
  · exfalso; omega
  · exfalso; omega
  · exfalso; omega
  · exfalso; omega
  · exfalso; omega
  · exfalso; omega
  · exfalso; omega
  · exfalso; omega
  · exfalso; omega
  · exfalso; omega
  · exact ⟨n, h⟩
  · exfalso; omega
theorem AO.e36 (h : AO X nr c j b s S a) (e : a.1 = 36) : ∃ n : Nat, OA X s 14 n ∧ iv X 21 n = a.2.2.1 ∧ GAT X c n j := by
  obtain ⟨n, h⟩ := h
  rcases h with ⟨g, h⟩ | ⟨g, h⟩ | ⟨g, h⟩ | ⟨g, h⟩ | ⟨g, h⟩ | ⟨g, h⟩ | ⟨g, h⟩ | ⟨g, h⟩ | ⟨g, h⟩ | ⟨g, h⟩ | ⟨g, h⟩ | ⟨g, h⟩ | ⟨g, h⟩ | ⟨g, h⟩ | ⟨g, h⟩ | ⟨g, h⟩ | ⟨g, h⟩ | ⟨g, h⟩ | ⟨g, h⟩ | ⟨g, h⟩ | ⟨g, h⟩ | ⟨g, h⟩ | ⟨g, h⟩ | ⟨g, h⟩ | ⟨g, h⟩ | ⟨g, h⟩ | ⟨g, h⟩ | ⟨g, h⟩ | ⟨g, h⟩ | ⟨g, h⟩ | ⟨g, h⟩
  · exfalso; omega
  · exfalso; omega
  · exfalso; omega
  · exfalso; omega
  · exfalso; omega
  · exfalso; omega
  · exfalso; omega
  · exfalso; omega
  · exfalso; omega
  · exfalso; omega
  · exfalso; omega
  · exfalso; omega
  · exfalso; omega
  · exfalso; omega
  · exfalso; omega
  · exfalso; omega
  · exfalso; omega
  · exfalso; omega
  · exfalso; omega
  · exfalso; omega
  · exfalso; omega
  · exfalso; omega
  · exfalso; omega
  · exfalso; omega
  · exfalso; omega
  · exfalso; omega
  · exfalso; omega
  · exfalso; omega
  · exfalso; omega
  · exfalso; omega
  · exact ⟨n, h⟩
theorem AO.any (h : AO X nr c j b s S a) : (0 ≤ a.1 ∧ a.1 ≤ 36) := by
  obtain ⟨n, h⟩ := h
  rcases h with ⟨g, h⟩ | ⟨g, h⟩ | ⟨g, h⟩ | ⟨g, h⟩ | ⟨g, h⟩ | ⟨g, h⟩ | ⟨g, h⟩ | ⟨g, h⟩ | ⟨g, h⟩ | ⟨g, h⟩ | ⟨g, h⟩ | ⟨g, h⟩ | ⟨g, h⟩ | ⟨g, h⟩ | ⟨g, h⟩ | ⟨g, h⟩ | ⟨g, h⟩ | ⟨g, h⟩ | ⟨g, h⟩ | ⟨g, h⟩ | ⟨g, h⟩ | ⟨g, h⟩ | ⟨g, h⟩ | ⟨g, h⟩ | ⟨g, h⟩ | ⟨g, h⟩ | ⟨g, h⟩ | ⟨g, h⟩ | ⟨g, h⟩ | ⟨g, h⟩ | ⟨g, h⟩
  all_goals omega
end AOS
