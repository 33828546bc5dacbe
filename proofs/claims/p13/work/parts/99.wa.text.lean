/-! what a text says, told of its bytes alone: tokens -/
abbrev Tx : Type := Nat → Int
abbrev Nm : Type := List Int
def isLt (x : Int) : Bool := (decide (97 ≤ x) && decide (x ≤ 122)) || (decide (65 ≤ x) && decide (x ≤ 90))
def isDg (x : Int) : Bool := decide (48 ≤ x) && decide (x ≤ 57)
def isBl (x : Int) : Bool := decide (x = 32) || decide (x = 10)
theorem isLt_iff (x : Int) : isLt x = true ↔ (97 ≤ x ∧ x ≤ 122) ∨ (65 ≤ x ∧ x ≤ 90) := by
  unfold isLt
  rw [Bool.or_eq_true, Bool.and_eq_true, Bool.and_eq_true, decide_eq_true_iff, decide_eq_true_iff, decide_eq_true_iff, decide_eq_true_iff]
theorem isDg_iff (x : Int) : isDg x = true ↔ 48 ≤ x ∧ x ≤ 57 := by
  unfold isDg
  rw [Bool.and_eq_true, decide_eq_true_iff, decide_eq_true_iff]
theorem isBl_iff (x : Int) : isBl x = true ↔ x = 32 ∨ x = 10 := by
  unfold isBl
  rw [Bool.or_eq_true, decide_eq_true_iff, decide_eq_true_iff]
theorem nb {b : Bool} : b = false ↔ ¬ b = true := by cases b <;> simp
/-- where a run of such bytes ends -/
def rn (P : Int → Bool) (ch : Tx) : Nat → Nat → Nat
  | 0, q => q
  | k + 1, q => if P (ch q) = true then rn P ch k (q + 1) else q
def RN (P : Int → Bool) (ch : Tx) (q : Nat) : Nat := rn P ch 3001 q
/-- the text: its bytes, and -1 behind its end -/
def TXT (ch : Tx) (n : Nat) : Prop := n ≤ 3000 ∧ (∀ i, n ≤ i → ch i = -1) ∧ ∀ i, i < n → 0 ≤ ch i ∧ ch i ≤ 255
section RUNS
variable {P : Int → Bool} {ch : Tx} {n q e : Nat}
theorem rn_sp (hP : ∀ i, n ≤ i → P (ch i) = false) : ∀ k q, n ≤ q + k → q ≤ rn P ch k q ∧ (∀ i, q ≤ i → i < rn P ch k q → P (ch i) = true) ∧ P (ch (rn P ch k q)) = false := by
  intro k
  induction k with
  | zero => exact fun q h => ⟨Nat.le_refl q, fun i h1 h2 => absurd h2 (Nat.not_lt.mpr h1), hP q h⟩
  | succ k ih =>
    intro q h
    show q ≤ (if P (ch q) = true then rn P ch k (q + 1) else q) ∧ (∀ i, q ≤ i → i < (if P (ch q) = true then rn P ch k (q + 1) else q) → P (ch i) = true) ∧ P (ch (if P (ch q) = true then rn P ch k (q + 1) else q)) = false
    by_cases hq : P (ch q) = true
    · rw [if_pos hq]
      obtain ⟨a, b, c⟩ := ih (q + 1) (by omega)
      refine ⟨by omega, fun i h1 h2 => ?_, c⟩
      by_cases e : i = q
      · rw [e]; exact hq
      · exact b i (by omega) h2
    · rw [if_neg hq]
      exact ⟨Nat.le_refl q, fun i h1 h2 => absurd h2 (Nat.not_lt.mpr h1), nb.mpr hq⟩
theorem run_one {a b : Nat} (ha : q ≤ a) (ha1 : ∀ i, q ≤ i → i < a → P (ch i) = true) (ha2 : P (ch a) = false) (hb : q ≤ b) (hb1 : ∀ i, q ≤ i → i < b → P (ch i) = true) (hb2 : P (ch b) = false) : a = b := by
  rcases Nat.lt_trichotomy a b with h | h | h
  · exact absurd (hb1 a ha h) (nb.mp ha2)
  · exact h
  · exact absurd (ha1 b hb h) (nb.mp hb2)
def noP (P : Int → Bool) : Prop := P (-1) = false
theorem RN_sp (hT : TXT ch n) (h1 : P (-1) = false) (q : Nat) : q ≤ RN P ch q ∧ (∀ i, q ≤ i → i < RN P ch q → P (ch i) = true) ∧ P (ch (RN P ch q)) = false :=
  rn_sp (n := n) (fun i hi => by rw [hT.2.1 i hi]; exact h1) 3001 q (by have := hT.1; omega)
theorem RN_is (hT : TXT ch n) (h1 : P (-1) = false) (h : q ≤ e) (h2 : ∀ i, q ≤ i → i < e → P (ch i) = true) (h3 : P (ch e) = false) : e = RN P ch q := by
  obtain ⟨a, b, c⟩ := RN_sp hT h1 q
  exact run_one h h2 h3 a b c
theorem RN_le (hT : TXT ch n) (h1 : P (-1) = false) (h : q ≤ n) : RN P ch q ≤ n := by
  obtain ⟨a, b, c⟩ := RN_sp hT h1 q
  rcases Nat.lt_or_ge n (RN P ch q) with g | g
  · have := b n h g
    rw [hT.2.1 n (Nat.le_refl n), h1] at this
    exact absurd this (by decide)
  · exact g
theorem RN_self (h : P (ch q) = false) : RN P ch q = q := by
  show (if P (ch q) = true then rn P ch 3000 (q + 1) else q) = q
  rw [if_neg (nb.mp h)]
theorem RN_more (hT : TXT ch n) (h1 : P (-1) = false) (h : P (ch q) = true) : q + 1 ≤ RN P ch q := by
  obtain ⟨a, b, c⟩ := RN_sp hT h1 q
  rcases Nat.lt_or_ge q (RN P ch q) with g | g
  · exact g
  · have e : RN P ch q = q := by omega
    rw [e, h] at c
    exact absurd c (by decide)
end RUNS
/-- letters, the last one first -/
def nmr (ch : Tx) (a : Nat) : Nat → Nm
  | 0 => []
  | k + 1 => ch (a + k) :: nmr ch a k
theorem nmr_len (ch : Tx) (a : Nat) : ∀ k, (nmr ch a k).length = k := by
  intro k
  induction k with
  | zero => rfl
  | succ k ih => show (nmr ch a k).length + 1 = k + 1; rw [ih]
theorem nmr_all {ch : Tx} {a : Nat} {P : Int → Prop} : ∀ k, (∀ i, a ≤ i → i < a + k → P (ch i)) → ∀ x ∈ nmr ch a k, P x := by
  intro k
  induction k with
  | zero => exact fun _ x hx => absurd hx List.not_mem_nil
  | succ k ih =>
    intro h x hx
    rcases List.mem_cons.mp hx with e | e
    · rw [e]; exact h (a + k) (by omega) (by omega)
    · exact ih (fun i h1 h2 => h i h1 (by omega)) x e
/-- a number, capped -/
def nvr (ch : Tx) (a : Nat) : Nat → Int
  | 0 => 0
  | k + 1 => if 2147483648 < 10 * nvr ch a k + (ch (a + k) - 48) then 2147483648 else 10 * nvr ch a k + (ch (a + k) - 48)
def wt : List Nm → Int → Nm → Int
  | [], _, _ => 258
  | w :: ws, k, l => if l = w then k else wt ws (k + 1) l
/-- the keywords, from their last letters on -/
def WL : List Nm := [[116, 114, 97, 112], [116, 101, 108], [110, 105], [102, 105], [110, 101, 104, 116], [101, 115, 108, 101], [101, 117, 114, 116], [101, 115, 108, 97, 102], [119, 101, 110], [101, 122, 105, 115], [116, 110, 105, 114, 112], [116, 110, 105], [103, 97, 108, 102], [121, 110, 97], [110, 102]]
def MAINr : Nm := [110, 105, 97, 109]
theorem wt_is : ∀ (ws : List Nm) (k : Int) (l : Nm), wt ws k l = 258 ∨ (k ≤ wt ws k l ∧ wt ws k l < k + ws.length) := by
  intro ws
  induction ws with
  | nil => exact fun k l => Or.inl rfl
  | cons w ws ih =>
    intro k l
    show (if l = w then k else wt ws (k + 1) l) = 258 ∨ (k ≤ (if l = w then k else wt ws (k + 1) l) ∧ (if l = w then k else wt ws (k + 1) l) < k + ((ws.length + 1 : Nat) : Int))
    by_cases h : l = w
    · rw [if_pos h]; exact Or.inr ⟨by omega, by omega⟩
    · rw [if_neg h]
      rcases ih (k + 1) l with e | ⟨a, b⟩
      · exact Or.inl e
      · exact Or.inr ⟨by omega, by omega⟩
theorem wt_rg (l : Nm) : wt WL 261 l = 258 ∨ (261 ≤ wt WL 261 l ∧ wt WL 261 l ≤ 275) := by
  rcases wt_is WL 261 l with h | ⟨a, b⟩
  · exact Or.inl h
  · exact Or.inr ⟨a, by have : ((WL.length : Nat) : Int) = 15 := rfl; omega⟩
def isSg (x : Int) : Bool := decide (x = 33 ∨ x = 37 ∨ x = 40 ∨ x = 41 ∨ x = 42 ∨ x = 43 ∨ x = 44 ∨ x = 45 ∨ x = 47 ∨ x = 58 ∨ x = 59 ∨ x = 60 ∨ x = 61 ∨ x = 91 ∨ x = 93 ∨ x = 123 ∨ x = 125)
theorem isSg_iff (x : Int) : isSg x = true ↔ (x = 33 ∨ x = 37 ∨ x = 40 ∨ x = 41 ∨ x = 42 ∨ x = 43 ∨ x = 44 ∨ x = 45 ∨ x = 47 ∨ x = 58 ∨ x = 59 ∨ x = 60 ∨ x = 61 ∨ x = 91 ∨ x = 93 ∨ x = 123 ∨ x = 125) := decide_eq_true_iff
/-- the token that is come to from q: its place, where it ends -/
def pl (ch : Tx) (q : Nat) : Nat := RN isBl ch q
def le (ch : Tx) (q : Nat) : Nat := RN isLt ch (pl ch q)
def de (ch : Tx) (q : Nat) : Nat := RN isDg ch (pl ch q)
def nm (ch : Tx) (q : Nat) : Nm := nmr ch (pl ch q) (le ch q - pl ch q)
def num (ch : Tx) (q : Nat) : Int := nvr ch (pl ch q) (de ch q - pl ch q)
/-- .. what it is -/
def ty (ch : Tx) (q : Nat) : Int :=
  if ch (pl ch q) < 0 then 257
  else if isLt (ch (pl ch q)) = true then (if 8 < le ch q - pl ch q then 260 else wt WL 261 (nm ch q))
  else if isDg (ch (pl ch q)) = true then 259
  else if ch (pl ch q) = 58 ∧ ch (pl ch q + 1) = 61 then 256
  else if isSg (ch (pl ch q)) = true then ch (pl ch q) else 260
def nx (ch : Tx) (q : Nat) : Nat :=
  if ch (pl ch q) < 0 then pl ch q
  else if isLt (ch (pl ch q)) = true then le ch q
  else if isDg (ch (pl ch q)) = true then de ch q
  else if ch (pl ch q) = 58 ∧ ch (pl ch q + 1) = 61 then pl ch q + 2 else pl ch q + 1
section TOK
variable {ch : Tx} {n q : Nat}
theorem pl_ge (hT : TXT ch n) (q : Nat) : q ≤ pl ch q := (RN_sp hT (by decide) q).1
theorem pl_le (hT : TXT ch n) (h : q ≤ n) : pl ch q ≤ n := RN_le hT (by decide) h
theorem pl_pl (hT : TXT ch n) (q : Nat) : pl ch (pl ch q) = pl ch q := RN_self (RN_sp hT (by decide) q).2.2
theorem le_pl (hT : TXT ch n) (q : Nat) : le ch (pl ch q) = le ch q := by unfold le; rw [pl_pl hT]
theorem nm_pl (hT : TXT ch n) (q : Nat) : nm ch (pl ch q) = nm ch q := by unfold nm; rw [le_pl hT, pl_pl hT]
theorem ty_pl (hT : TXT ch n) (q : Nat) : ty ch (pl ch q) = ty ch q := by unfold ty; rw [nm_pl hT, le_pl hT, pl_pl hT]
theorem nx_pl (hT : TXT ch n) (q : Nat) : nx ch (pl ch q) = nx ch q := by
  unfold nx de
  rw [le_pl hT, pl_pl hT]
theorem ch_in (hT : TXT ch n) {i : Nat} (h : ¬ ch i < 0) : i < n := by
  rcases Nat.lt_or_ge i n with g | g
  · exact g
  · have := hT.2.1 i g
    omega
theorem nx_le (hT : TXT ch n) (h : q ≤ n) : nx ch q ≤ n := by
  have hp := pl_le hT h
  unfold nx
  by_cases h0 : ch (pl ch q) < 0
  · rw [if_pos h0]; exact hp
  · have hi := ch_in hT h0
    rw [if_neg h0]
    by_cases h1 : isLt (ch (pl ch q)) = true
    · rw [if_pos h1]; exact RN_le hT (by decide) hp
    · rw [if_neg h1]
      by_cases h2 : isDg (ch (pl ch q)) = true
      · rw [if_pos h2]; exact RN_le hT (by decide) hp
      · rw [if_neg h2]
        by_cases h3 : ch (pl ch q) = 58 ∧ ch (pl ch q + 1) = 61
        · rw [if_pos h3]
          have := ch_in hT (i := pl ch q + 1) (by omega)
          omega
        · rw [if_neg h3]; omega
theorem ty_end (hT : TXT ch n) : ty ch q = 257 ↔ ch (pl ch q) < 0 := by
  unfold ty
  by_cases h0 : ch (pl ch q) < 0
  · rw [if_pos h0]; exact ⟨fun _ => h0, fun _ => rfl⟩
  · rw [if_neg h0]
    refine ⟨fun h => ?_, fun h => absurd h h0⟩
    exfalso
    by_cases h1 : isLt (ch (pl ch q)) = true
    · rw [if_pos h1] at h
      by_cases h8 : 8 < le ch q - pl ch q
      · rw [if_pos h8] at h; exact absurd h (by decide)
      · rw [if_neg h8] at h
        rcases wt_rg (nm ch q) with e | e <;> omega
    · rw [if_neg h1] at h
      by_cases h2 : isDg (ch (pl ch q)) = true
      · rw [if_pos h2] at h; exact absurd h (by decide)
      · rw [if_neg h2] at h
        by_cases h3 : ch (pl ch q) = 58 ∧ ch (pl ch q + 1) = 61
        · rw [if_pos h3] at h; exact absurd h (by decide)
        · rw [if_neg h3] at h
          by_cases h4 : isSg (ch (pl ch q)) = true
          · rw [if_pos h4] at h
            have := (isSg_iff _).mp h4
            omega
          · rw [if_neg h4] at h; exact absurd h (by decide)
theorem nx_gt (hT : TXT ch n) (h : ¬ ty ch q = 257) : pl ch q + 1 ≤ nx ch q := by
  have h0 : ¬ ch (pl ch q) < 0 := fun g => h ((ty_end hT).mpr g)
  unfold nx
  rw [if_neg h0]
  by_cases h1 : isLt (ch (pl ch q)) = true
  · rw [if_pos h1]; exact RN_more hT (by decide) h1
  · rw [if_neg h1]
    by_cases h2 : isDg (ch (pl ch q)) = true
    · rw [if_pos h2]; exact RN_more hT (by decide) h2
    · rw [if_neg h2]
      by_cases h3 : ch (pl ch q) = 58 ∧ ch (pl ch q + 1) = 61
      · rw [if_pos h3]; omega
      · rw [if_neg h3]; omega
theorem pl_nx (hT : TXT ch n) (h : ¬ ty ch q = 257) : pl ch q + 1 ≤ pl ch (nx ch q) := Nat.le_trans (nx_gt hT h) (pl_ge hT _)
theorem pl_lt (hT : TXT ch n) (h : ¬ ty ch q = 257) : pl ch q < n := ch_in hT (fun g => h ((ty_end hT).mpr g))
/-- a word's letters -/
theorem nm_lt (hT : TXT ch n) (q : Nat) : ∀ x ∈ nm ch q, isLt x = true := by
  have h := RN_sp (P := isLt) hT (by decide) (pl ch q)
  exact nmr_all _ (fun i h1 h2 => h.2.1 i h1 (by unfold le at h2; omega))
theorem ty_word (hT : TXT ch n) (h : 258 ≤ ty ch q ∧ ty ch q ≠ 259 ∧ ty ch q ≠ 260) : isLt (ch (pl ch q)) = true ∧ ty ch q = wt WL 261 (nm ch q) ∧ (nm ch q).length ≤ 8 ∧ 1 ≤ (nm ch q).length := by
  obtain ⟨a, b, c⟩ := h
  unfold ty at a b c ⊢
  by_cases h0 : ch (pl ch q) < 0
  · rw [if_pos h0] at a; omega
  · rw [if_neg h0] at a b c ⊢
    by_cases h1 : isLt (ch (pl ch q)) = true
    · rw [if_pos h1] at a b c ⊢
      by_cases h8 : 8 < le ch q - pl ch q
      · rw [if_pos h8] at c; exact absurd rfl c
      · rw [if_neg h8] at a b c ⊢
        have hl : (nm ch q).length = le ch q - pl ch q := nmr_len _ _ _
        have hm : pl ch q + 1 ≤ le ch q := RN_more hT (by decide) h1
        exact ⟨h1, rfl, by omega, by omega⟩
    · rw [if_neg h1] at a b c
      by_cases h2 : isDg (ch (pl ch q)) = true
      · rw [if_pos h2] at b; exact absurd rfl b
      · rw [if_neg h2] at a b c
        by_cases h3 : ch (pl ch q) = 58 ∧ ch (pl ch q + 1) = 61
        · rw [if_pos h3] at a; omega
        · rw [if_neg h3] at a b c
          by_cases h4 : isSg (ch (pl ch q)) = true
          · rw [if_pos h4] at a
            have := (isSg_iff _).mp h4
            omega
          · rw [if_neg h4] at c; exact absurd rfl c
end TOK
/-- letters as one number -/
def pkr (B : Nat) (f : Int → Nat) : Nm → Nat
  | [] => 0
  | x :: xs => f x + B * pkr B f xs
theorem pkr_inj {B : Nat} {f : Int → Nat} {G : Int → Prop} (hf : ∀ x, G x → 1 ≤ f x ∧ f x < B) (hi : ∀ x y, G x → G y → f x = f y → x = y) : ∀ a b : Nm, (∀ x ∈ a, G x) → (∀ x ∈ b, G x) → pkr B f a = pkr B f b → a = b := by
  intro a
  induction a with
  | nil =>
    intro b ha hb h
    cases b with
    | nil => rfl
    | cons y ys =>
      have h1 := hf y (hb y List.mem_cons_self)
      have h2 : 0 = f y + B * pkr B f ys := h
      omega
  | cons x xs ih =>
    intro b ha hb h
    have hx := ha x List.mem_cons_self
    have h1 := hf x hx
    cases b with
    | nil =>
      have h2 : f x + B * pkr B f xs = 0 := h
      omega
    | cons y ys =>
      have hy := hb y List.mem_cons_self
      have h3 := hf y hy
      have h2 : f x + B * pkr B f xs = f y + B * pkr B f ys := h
      have hB : 0 < B := by omega
      have e1 : (f x + B * pkr B f xs) % B = f x := by rw [Nat.add_mul_mod_self_left, Nat.mod_eq_of_lt h1.2]
      have e2 : (f y + B * pkr B f ys) % B = f y := by rw [Nat.add_mul_mod_self_left, Nat.mod_eq_of_lt h3.2]
      have e3 : (f x + B * pkr B f xs) / B = pkr B f xs := by rw [Nat.add_mul_div_left _ _ hB, Nat.div_eq_of_lt h1.2, Nat.zero_add]
      have e4 : (f y + B * pkr B f ys) / B = pkr B f ys := by rw [Nat.add_mul_div_left _ _ hB, Nat.div_eq_of_lt h3.2, Nat.zero_add]
      rw [h2, e2] at e1
      rw [h2, e4] at e3
      have e5 : x = y := hi x y hx hy e1.symm
      have e6 : xs = ys := ih ys (fun z hz => ha z (List.mem_cons_of_mem _ hz)) (fun z hz => hb z (List.mem_cons_of_mem _ hz)) e3.symm
      rw [e5, e6]
theorem pkr_lt {B : Nat} {f : Int → Nat} {G : Int → Prop} (hf : ∀ x, G x → f x < B) : ∀ a : Nm, (∀ x ∈ a, G x) → pkr B f a < B ^ a.length := by
  intro a
  induction a with
  | nil => intro _; show 0 < B ^ 0; rw [Nat.pow_zero]; exact Nat.zero_lt_one
  | cons x xs ih =>
    intro h
    have h1 := hf x (h x List.mem_cons_self)
    have h2 := ih (fun z hz => h z (List.mem_cons_of_mem _ hz))
    show f x + B * pkr B f xs < B ^ (xs.length + 1)
    have h3 : B * (pkr B f xs + 1) ≤ B * B ^ xs.length := Nat.mul_le_mul_left B h2
    rw [Nat.pow_succ, Nat.mul_comm (B ^ xs.length) B]
    rw [Nat.mul_add] at h3
    omega
/-- the class's way: eight bits a letter; the reference's: six -/
def p8 (l : Nm) : Nat := pkr 256 Int.toNat l
def f6 (x : Int) : Nat := if 97 ≤ x then (x - 96).toNat else (x - 38).toNat
def p6 (l : Nm) : Nat := pkr 64 f6 l
def LT (l : Nm) : Prop := ∀ x ∈ l, isLt x = true
theorem p8_inj {a b : Nm} (ha : LT a) (hb : LT b) (h : p8 a = p8 b) : a = b :=
  pkr_inj (G := fun x => isLt x = true) (fun x hx => by have := (isLt_iff x).mp hx; omega) (fun x y hx hy e => by have := (isLt_iff x).mp hx; have := (isLt_iff y).mp hy; omega) a b ha hb h
theorem f6_in {x : Int} (h : isLt x = true) : 1 ≤ f6 x ∧ f6 x < 64 := by
  have := (isLt_iff x).mp h
  unfold f6
  by_cases g : 97 ≤ x
  · rw [if_pos g]; omega
  · rw [if_neg g]; omega
theorem f6_inj {x y : Int} (hx : isLt x = true) (hy : isLt y = true) (h : f6 x = f6 y) : x = y := by
  have := (isLt_iff x).mp hx
  have := (isLt_iff y).mp hy
  unfold f6 at h
  by_cases g : 97 ≤ x
  · rw [if_pos g] at h
    by_cases k : 97 ≤ y
    · rw [if_pos k] at h; omega
    · rw [if_neg k] at h; omega
  · rw [if_neg g] at h
    by_cases k : 97 ≤ y
    · rw [if_pos k] at h; omega
    · rw [if_neg k] at h; omega
theorem p6_inj {a b : Nm} (ha : LT a) (hb : LT b) (h : p6 a = p6 b) : a = b := pkr_inj (G := fun x => isLt x = true) (fun _ hx => f6_in hx) (fun _ _ hx hy e => f6_inj hx hy e) a b ha hb h
theorem p8_b : ∀ a : Nm, LT a → 2 * pkr 256 Int.toNat a + 1 ≤ 256 ^ a.length := by
  intro a
  induction a with
  | nil => intro _; exact Nat.le_refl 1
  | cons x xs ih =>
    intro h
    have hx := (isLt_iff x).mp (h x List.mem_cons_self)
    have h2 := ih (fun z hz => h z (List.mem_cons_of_mem _ hz))
    show 2 * (x.toNat + 256 * pkr 256 Int.toNat xs) + 1 ≤ 256 ^ (xs.length + 1)
    rw [Nat.pow_succ]
    omega
theorem p8_lt {a : Nm} (ha : LT a) (hl : a.length ≤ 8) : p8 a < 2 ^ 63 := by
  have h := p8_b a ha
  have h2 : 256 ^ a.length ≤ 256 ^ 8 := Nat.pow_le_pow_right (by decide) hl
  have h3 : (256 : Nat) ^ 8 = 2 * 2 ^ 63 := by decide
  show pkr 256 Int.toNat a < 2 ^ 63
  omega
theorem p6_lt {a : Nm} (ha : LT a) (hl : a.length ≤ 8) : p6 a < 2 ^ 48 := by
  have h := pkr_lt (B := 64) (f := f6) (G := fun x => isLt x = true) (fun _ hx => (f6_in hx).2) a ha
  have h2 : 64 ^ a.length ≤ 64 ^ 8 := Nat.pow_le_pow_right (by decide) hl
  have h3 : (64 : Nat) ^ 8 = 2 ^ 48 := by decide
  show pkr 64 f6 a < 2 ^ 48
  omega
