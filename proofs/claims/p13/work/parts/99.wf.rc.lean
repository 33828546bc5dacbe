/-! the class's reader as it stands, told of what it has read -/
def LOCr (Y : St) : List Nm → Prop
  | [] => True
  | l :: ls => (Y.2.1 50 ls.length = lN (p8 l) ∧ LT l ∧ l.length ≤ 8) ∧ LOCr Y ls
def WTr (Y : St) : List Wt → Prop
  | [] => True
  | w :: ws => ((Y.1 51 ws.length).toInt = w.1 ∧ (Y.1 52 ws.length).toInt = w.2.1 ∧ (Y.1 53 ws.length).toInt = (w.2.2 : Int)) ∧ WTr Y ws
def CDE (ch : Tx) (n e : Nat) (Y : St) (i : Nat) (a : Ins) : Prop := (Y.1 (e + 18) i).toInt = a.1 ∧ (¬ a.1 = 34 → Y.1 (e + 19) i = Int32.ofInt a.2.1) ∧ (Y.1 (e + 21) i).toInt = a.2.2.1 ∧ (a.1 = 4 → 0 ≤ a.2.2.1 ∧ a.2.2.1 ≤ n ∧ ty ch a.2.2.1.toNat = 258)
def CD (ch : Tx) (n e : Nat) (Y : St) (c : List Ins) : Prop := (Y.1 e 6).toInt = (c.length : Int) ∧ ∀ i a, c[i]? = some a → CDE ch n e Y i a
/-- how many kinds, but plain ones, a kind is made of -/
def kcn (d : List Int) : Nat := (d.filter (fun a => decide (4 ≤ a))).length
def kci (a : Ins) : Nat := if a.1 = 34 then kcn a.2.2.2 else 0
def kcs (c : List Ins) : Nat := (c.map kci).sum
abbrev KB : Type := Nat × List (List Int) × List Nat × Nat
/-- the class's table of kinds, where so many kinds were told ahead of the code: it holds those of K.2.1, and those of the code; no let's kind stands at K.2.2.1; at least K.2.2.2 of its kinds are the code's -/
def KQ (e : Nat) (Y : St) (K : KB) (c : List Ins) : Prop := ((∀ i ∈ K.2.2.1, ∃ a, c[i]? = some a ∧ ¬ a.1 = 34) ∧ K.2.2.2 ≤ kcs c) ∧ (K.1 + kcs c ≤ 1549 → ∃ ks, TKS (e + 1) Y ks ∧ (K9 <+: ks ∧ ∀ d ∈ ks, WKd 40 d) ∧ K.2.1 <+: ks ∧ ks.length ≤ K.1 + kcs c ∧ ∀ i a, c[i]? = some a → a.1 = 34 → ∃ z : Nat, Y.1 (e + 19) i = Int32.ofInt (a.2.1 + (z : Int)) ∧ ks[z]? = some a.2.2.2)
theorem kcs_ap (c c1 : List Ins) : kcs (c ++ c1) = kcs c + kcs c1 := by
  unfold kcs
  rw [List.map_append, List.sum_append]
theorem kcs_1 (a : Ins) : kcs [a] = kci a := by
  unfold kcs
  rw [List.map_cons, List.map_nil, List.sum_cons, List.sum_nil]
  omega
theorem kcs_mod (f : Int → Int) : ∀ (c : List Ins) (i : Nat), kcs (c.modify i (fun a => (a.1, f a.2.1, a.2.2))) = kcs c := by
  intro c
  induction c with
  | nil => intro i; cases i <;> rfl
  | cons a c ih =>
    intro i
    cases i with
    | zero => rfl
    | succ i =>
      show kcs (a :: c.modify i _) = kcs (a :: c)
      unfold kcs at ih ⊢
      rw [List.map_cons, List.map_cons, List.sum_cons, List.sum_cons, ih i]
section KQS
variable {e i : Nat} {Y Z : St} {K : KB} {c : List Ins}
def KB.p (K : KB) (i : Nat) : KB := (K.1, K.2.1, i :: K.2.2.1, K.2.2.2)
theorem KQ.cg (h : KQ e Y K c) (hk : ∀ j k, e + 1 ≤ j → j ≤ e + 8 → Z.1 j k = Y.1 j k) (h19 : ∀ k, Z.1 (e + 19) k = Y.1 (e + 19) k) : KQ e Z K c := ⟨h.1, fun b => by
  obtain ⟨ks, a1, a2, a3, a4, a5⟩ := h.2 b
  exact ⟨ks, a1.cg (fun j k q1 q2 _ => hk j k (by omega) (by omega)), a2, a3, a4, fun i a ha h34 => by rw [h19]; exact a5 i a ha h34⟩⟩
theorem KQ.p (h : KQ e Y K c) {a : Ins} (ha : c[i]? = some a) (h34 : ¬ a.1 = 34) : KQ e Y (K.p i) c := ⟨⟨fun j hj => by
  rcases List.mem_cons.mp hj with e | e
  · rw [e]; exact ⟨a, ha, h34⟩
  · exact h.1.1 j e, h.1.2⟩, h.2⟩
theorem KQ.u (h : KQ e Y (K.p i) c) : KQ e Y K c := ⟨⟨fun j hj => h.1.1 j (List.mem_cons_of_mem _ hj), h.1.2⟩, h.2⟩
end KQS
/-- what reading an expression leaves as it was -/
def RF (e : Nat) (X0 Y : St) : Prop := Y.2.2 = X0.2.2 ∧ (∀ j k, ¬ j = 46 → ¬ j = 47 → ¬ (50 ≤ j ∧ j ≤ 54) → ¬ (e + 1 ≤ j ∧ j ≤ e + 9) → ¬ (e + 18 ≤ j ∧ j ≤ e + 21) → ¬ (j = e ∧ k = 6) → Y.1 j k = X0.1 j k) ∧ (∀ j k, ¬ j = 47 → ¬ j = 50 → Y.2.1 j k = X0.2.1 j k)
def RC (e : Nat) (ch : Tx) (n : Nat) (X0 : St) (lk : Int × KB) (Y : St) (q : Nat) (o : Int) (sc : List Nm) (ws : List Wt) (c : List Ins) : Prop :=
  ((e = 2 ∨ e = 24) ∧ Y.2.2 46 1 = e + 1 ∧ TXC ch n Y ∧ q ≤ n ∧ KQ e Y lk.2 c) ∧ ((Y.1 46 3).toInt = 0 ∧ TKq ch Y q ∧ (Y.1 46 2).toInt = o ∧ (Y.1 46 6).toInt = lk.1) ∧ ((Y.1 46 9).toInt = (sc.length : Int) ∧ LOCr Y sc) ∧ ((Y.1 46 5).toInt = (ws.length : Int) ∧ WTr Y ws) ∧ CD ch n e Y c ∧ RF e X0 Y
/-- what holds of an answer: it is that of the text, and where the text has none there is a fault -/
def PO {α : Type} (Z : St) (so : Option α) (K : α → Prop) : Prop := match so with
  | some a => K a
  | none => fd Z
section PWO
variable {ρ ρ1 α β : Type} {Z : St}
theorem PO.s {a : α} {K : α → Prop} (h : K a) : PO Z (some a) K := h
theorem PO.n {K : α → Prop} (h : fd Z) : PO Z none K := h
theorem pw_bo {G : Option (ρ1 × St)} {K : ρ1 → St → Option (ρ × St)} {so : Option α} {g : α → Option β} {R : ρ1 → St → α → Prop} {Q : ρ → St → β → Prop} (hG : pw G (fun r Y => PO Y so (R r Y))) (h1 : ∀ r Y a, R r Y a → pw (K r Y) (fun r Y => PO Y (g a) (Q r Y))) (h2 : ∀ r Y, fd Y → pw (K r Y) (fun _ Y => fd Y)) : pw (bnd G K) (fun r Y => PO Y (so.bind g) (Q r Y)) := by
  cases so with
  | none => exact pw_bd hG (fun r Y h => h2 r Y h)
  | some a => exact pw_bd hG (fun r Y h => h1 r Y a h)
theorem pw_ifo {c d : Prop} [Decidable c] [Decidable d] {A B : Option (ρ × St)} {a b : Option β} {Q : ρ → St → β → Prop} (hcd : c ↔ d) (h1 : d → pw A (fun r Y => PO Y a (Q r Y))) (h2 : ¬ d → pw B (fun r Y => PO Y b (Q r Y))) : pw (if c then A else B) (fun r Y => PO Y (if d then a else b) (Q r Y)) := by
  by_cases h : d
  · rw [if_pos (hcd.mpr h), if_pos h]; exact h1 h
  · rw [if_neg (fun q => h (hcd.mp q)), if_neg h]; exact h2 h
theorem pw_po {A : Option (ρ × St)} {a : Option β} {Q Q1 : ρ → St → β → Prop} (h : pw A (fun r Y => PO Y a (Q r Y))) (g : ∀ r Y b, Q r Y b → Q1 r Y b) : pw A (fun r Y => PO Y a (Q1 r Y)) := by
  cases a with
  | none => exact h
  | some b => exact pw_mono h (fun r Y q => g r Y b q)
end PWO
section RCS
variable {e n q : Nat} {ch : Tx} {X0 Y Z : St} {o : Int} {lk : Int × KB} {sc : List Nm} {ws : List Wt} {c c1 : List Ins}
theorem LOCr.cg (h : ∀ k, Z.2.1 50 k = Y.2.1 50 k) : ∀ sc, LOCr Y sc → LOCr Z sc := by
  intro sc
  induction sc with
  | nil => exact fun _ => trivial
  | cons l ls ih => exact fun g => ⟨⟨(h _).trans g.1.1, g.1.2⟩, ih g.2⟩
theorem LOCr.up {m : Nat} (h : ∀ k, k < m → Z.2.1 50 k = Y.2.1 50 k) : ∀ sc, sc.length ≤ m → LOCr Y sc → LOCr Z sc := by
  intro sc
  induction sc with
  | nil => exact fun _ _ => trivial
  | cons l ls ih =>
    intro hl g
    have hl : ls.length + 1 ≤ m := hl
    exact ⟨⟨(h _ (by omega)).trans g.1.1, g.1.2⟩, ih (by omega) g.2⟩
theorem WTr.cg (h : ∀ j k, 51 ≤ j → j ≤ 53 → Z.1 j k = Y.1 j k) : ∀ ws, WTr Y ws → WTr Z ws := by
  intro ws
  induction ws with
  | nil => exact fun _ => trivial
  | cons l ls ih => exact fun g => ⟨⟨(congrArg Int32.toInt (h 51 _ (by decide) (by decide))).trans g.1.1, (congrArg Int32.toInt (h 52 _ (by decide) (by decide))).trans g.1.2.1, (congrArg Int32.toInt (h 53 _ (by decide) (by decide))).trans g.1.2.2⟩, ih g.2⟩
theorem WTr.up {m : Nat} (h : ∀ j k, 51 ≤ j → j ≤ 53 → k < m → Z.1 j k = Y.1 j k) : ∀ ws, ws.length ≤ m → WTr Y ws → WTr Z ws := by
  intro ws
  induction ws with
  | nil => exact fun _ _ => trivial
  | cons l ls ih =>
    intro hl g
    have hl : ls.length + 1 ≤ m := hl
    exact ⟨⟨(congrArg Int32.toInt (h 51 _ (by decide) (by decide) (by omega))).trans g.1.1, (congrArg Int32.toInt (h 52 _ (by decide) (by decide) (by omega))).trans g.1.2.1, (congrArg Int32.toInt (h 53 _ (by decide) (by decide) (by omega))).trans g.1.2.2⟩, ih (by omega) g.2⟩
theorem CD.cg (h : CD ch n e Y c) (h6 : Z.1 e 6 = Y.1 e 6) (hk : ∀ j k, e + 18 ≤ j → j ≤ e + 21 → Z.1 j k = Y.1 j k) : CD ch n e Z c := by
  refine ⟨by rw [h6]; exact h.1, fun i a ha => ?_⟩
  obtain ⟨h1, h2, h3, h4⟩ := h.2 i a ha
  exact ⟨by rw [hk _ _ (by omega) (by omega)]; exact h1, by rw [hk _ _ (by omega) (by omega)]; exact h2, by rw [hk _ _ (by omega) (by omega)]; exact h3, h4⟩
theorem RF.rf : RF e Y Y := ⟨rfl, fun _ _ _ _ _ _ _ _ => rfl, fun _ _ _ _ => rfl⟩
theorem RF.tr (h : RF e X0 Y) (h2 : Z.2.2 = Y.2.2) (h1 : ∀ j k, ¬ j = 46 → ¬ j = 47 → ¬ (50 ≤ j ∧ j ≤ 54) → ¬ (e + 1 ≤ j ∧ j ≤ e + 9) → ¬ (e + 18 ≤ j ∧ j ≤ e + 21) → ¬ (j = e ∧ k = 6) → Z.1 j k = Y.1 j k) (h3 : ∀ j k, ¬ j = 47 → ¬ j = 50 → Z.2.1 j k = Y.2.1 j k) : RF e X0 Z :=
  ⟨h2.trans h.1, fun j k a b c d f g => (h1 j k a b c d f g).trans (h.2.1 j k a b c d f g), fun j k a b => (h3 j k a b).trans (h.2.2 j k a b)⟩
theorem RC.pe (h : RC e ch n X0 lk Y q o sc ws c) : Y.2.2 46 1 - 1 = e := by rw [h.1.2.1]; rfl
theorem RC.he (h : RC e ch n X0 lk Y q o sc ws c) : e = 2 ∨ e = 24 := h.1.1
theorem RC.tx (h : RC e ch n X0 lk Y q o sc ws c) : TXT ch n := h.1.2.2.1.1
theorem RC.ok (h : RC e ch n X0 lk Y q o sc ws c) : (Y.1 46 3).toInt = 0 := h.2.1.1
theorem RC.ty (h : RC e ch n X0 lk Y q o sc ws c) : (Y.1 47 3).toInt = ty ch q := h.2.1.2.1.1
theorem RC.pl (h : RC e ch n X0 lk Y q o sc ws c) : (Y.1 47 4).toInt = (pl ch q : Int) := h.2.1.2.1.2.1
theorem RC.op (h : RC e ch n X0 lk Y q o sc ws c) : (Y.1 46 2).toInt = o := h.2.1.2.2.1
theorem RC.len (h : RC e ch n X0 lk Y q o sc ws c) : (Y.1 e 6).toInt = (c.length : Int) := h.2.2.2.2.1.1
theorem RC.pln (h : RC e ch n X0 lk Y q o sc ws c) : _root_.Jvm.Pilot.CBlameCourtLaw_law_r8381_f30dd1.pl ch q ≤ n ∧ n ≤ 3000 := ⟨pl_le h.tx h.1.2.2.2.1, h.tx.1⟩
theorem RC.tk {q1 : Nat} (h : RC e ch n X0 lk Y q o sc ws c) (g : TKF Y Z) (t : TKq ch Z q1) (hq : q1 ≤ n) : RC e ch n X0 lk Z q1 o sc ws c := by
  obtain ⟨⟨h1, h2, h3, h4⟩, ⟨h5, h6, h7, h8⟩, ⟨h9, h10⟩, ⟨h11, h12⟩, h13, h14⟩ := h
  have k46 : ∀ k, Z.1 46 k = Y.1 46 k := fun k => g.1 46 k (by decide)
  refine ⟨⟨h1, by rw [g.2.2.1]; exact h2, h3.fr g, hq, h4.2.cg (fun j k a b => g.1 j k (by omega)) (fun k => g.1 _ k (by omega))⟩, ⟨by rw [k46]; exact h5, t, by rw [k46]; exact h7, by rw [k46]; exact h8⟩, ⟨by rw [k46]; exact h9, LOCr.cg (fun k => g.2.1 50 k (by decide)) _ h10⟩, ⟨by rw [k46]; exact h11, WTr.cg (fun j k a b => g.1 j k (by omega)) _ h12⟩, h13.cg (g.1 e 6 (by omega)) (fun j k a b => g.1 j k (by omega)), h14.tr g.2.2.1 (fun j k a b _ _ _ _ => g.1 j k b) (fun j k a b => g.2.1 j k a)⟩
theorem TKq.cg (h : TKq ch Y q) (h1 : ∀ k, Z.1 47 k = Y.1 47 k) (h2 : ∀ k, Z.2.1 47 k = Y.2.1 47 k) : TKq ch Z q := by
  obtain ⟨a, b, c, d, f⟩ := h
  exact ⟨by rw [h1]; exact a, by rw [h1]; exact b, by rw [h1]; exact c, by rw [h1, h2]; exact d, by rw [h2]; exact f⟩
theorem TXC.cg (h : TXC ch n Y) (h1 : ∀ k, Z.1 47 k = Y.1 47 k) (h2 : ∀ k, Z.1 1 k = Y.1 1 k) (h3 : Z.2.2 = Y.2.2) : TXC ch n Z := ⟨h.1, by rw [h3]; exact h.2.1, by rw [h1]; exact h.2.2.1, fun i hi => by rw [h2]; exact h.2.2.2 i hi⟩
/-- rows of the code, or of the kinds, change -/
theorem RC.rows (h : RC e ch n X0 lk Y q o sc ws c) {lk1 : Int × KB} (hlk : lk1.1 = lk.1) (hq : KQ e Z lk1.2 c1) (h2 : Z.2 = Y.2) (hk : ∀ j k, ¬ j = 54 → ¬ (e + 1 ≤ j ∧ j ≤ e + 9) → ¬ (e + 18 ≤ j ∧ j ≤ e + 21) → ¬ (j = e ∧ k = 6) → Z.1 j k = Y.1 j k) (hc : CD ch n e Z c1) : RC e ch n X0 lk1 Z q o sc ws c1 := by
  obtain ⟨⟨h1, hp, h3, h4⟩, ⟨h5, h6, h7, h8⟩, ⟨h9, h10⟩, ⟨h11, h12⟩, h13, h14⟩ := h
  have kk : ∀ j k, (j = 46 ∨ j = 47 ∨ j = 1 ∨ (50 ≤ j ∧ j ≤ 53)) → Z.1 j k = Y.1 j k := fun j k hj => hk j k (by omega) (by omega) (by omega) (by omega)
  have k46 : ∀ k, Z.1 46 k = Y.1 46 k := fun k => kk 46 k (by decide)
  refine ⟨⟨h1, by rw [h2]; exact hp, h3.cg (fun k => kk 47 k (by decide)) (fun k => kk 1 k (by decide)) (by rw [h2]), h4.1, hq⟩, ⟨by rw [k46]; exact h5, h6.cg (fun k => kk 47 k (by decide)) (fun k => by rw [h2]), by rw [k46]; exact h7, by rw [k46, hlk]; exact h8⟩, ⟨by rw [k46]; exact h9, LOCr.cg (fun k => by rw [h2]) _ h10⟩, ⟨by rw [k46]; exact h11, WTr.cg (fun j k a b => kk j k (by omega)) _ h12⟩, hc, h14.tr (by rw [h2]) (fun j k _ _ d f g s => hk j k (fun z => d (by omega)) f g s) (fun j k a b => by rw [h2])⟩
/-- a cell of the reader's own changes -/
theorem RC.cell (h : RC e ch n X0 lk Y q o sc ws c) (h2 : Z.2 = Y.2) (hk : ∀ j k, ¬ j = 46 → Z.1 j k = Y.1 j k) (k3 : Z.1 46 3 = Y.1 46 3) (k9 : Z.1 46 9 = Y.1 46 9) (k5 : Z.1 46 5 = Y.1 46 5) {o1 lk1 : Int} (k2 : (Z.1 46 2).toInt = o1) (k6 : (Z.1 46 6).toInt = lk1) : RC e ch n X0 (lk1, lk.2) Z q o1 sc ws c := by
  obtain ⟨⟨h1, hp, h3, h4⟩, ⟨h5, h6, h7, h8⟩, ⟨h9, h10⟩, ⟨h11, h12⟩, h13, h14⟩ := h
  refine ⟨⟨h1, by rw [h2]; exact hp, h3.cg (fun k => hk 47 k (by decide)) (fun k => hk 1 k (by decide)) (by rw [h2]), h4.1, h4.2.cg (fun j k a b => hk j k (by omega)) (fun k => hk _ k (by omega))⟩, ⟨by rw [k3]; exact h5, h6.cg (fun k => hk 47 k (by decide)) (fun k => by rw [h2]), k2, k6⟩, ⟨by rw [k9]; exact h9, LOCr.cg (fun k => by rw [h2]) _ h10⟩, ⟨by rw [k5]; exact h11, WTr.cg (fun j k a b => hk j k (by omega)) _ h12⟩, h13.cg (hk e 6 (by omega)) (fun j k a b => hk j k (by omega)), h14.tr (by rw [h2]) (fun j k a _ _ _ _ _ => hk j k a) (fun j k a b => by rw [h2])⟩
/-- one is shut -/
theorem RC.shut (h : RC e ch n X0 lk Y q o sc ws c) (ho : 0 ≤ o ∧ o ≤ 100) : RC e ch n X0 lk (wI Y 46 2 (Y.1 46 2 - (1 : Int32))) q (o - 1) sc ws c := by
  have l1 : (1 : Int32).toInt = 1 := by decide
  have hop := h.op
  refine h.cell (by rfl) (fun j k hj => wI_ne _ _ _ _ _ _ (fun g => hj g.1)) (wI_ne _ _ _ _ _ _ (by decide)) (wI_ne _ _ _ _ _ _ (by decide)) (wI_ne _ _ _ _ _ _ (by decide)) ?_ ?_
  · rw [wI_at, ti_sub (by rw [hop, l1]; omega) (by rw [hop, l1]; omega), hop, l1]
  · rw [wI_ne _ _ _ _ _ _ (by decide)]; exact h.2.1.2.2.2
/-- the kinds change -/
theorem RC.kf (h : RC e ch n X0 lk Y q o sc ws c) (g : KFo (e + 1) Y Z) {lk1 : Int × KB} (hlk : lk1.1 = lk.1) (hq : KQ e Z lk1.2 c) : RC e ch n X0 lk1 Z q o sc ws c :=
  h.rows hlk hq g.2 (fun j k _ a _ _ => g.1 j k (by omega)) (h.2.2.2.2.1.cg (g.1 e 6 (by omega)) (fun j k a b => g.1 j k (by omega)))
theorem RC.kq (h : RC e ch n X0 lk Y q o sc ws c) : KQ e Y lk.2 c := h.1.2.2.2.2
/-- an instruction that is no let's kind -/
theorem RC.p {l : Int} {K : KB} (h : RC e ch n X0 (l, K) Y q o sc ws c) {i : Nat} {a : Ins} (ha : c[i]? = some a) (h34 : ¬ a.1 = 34) : RC e ch n X0 (l, K.p i) Y q o sc ws c := h.rows rfl (h.kq.p ha h34) rfl (fun _ _ _ _ _ _ => rfl) h.2.2.2.2.1
/-- how many of the kinds are the code's by now -/
theorem RC.lb {l : Int} {K : KB} (h : RC e ch n X0 (l, K) Y q o sc ws c) : RC e ch n X0 (l, K.1, K.2.1, K.2.2.1, kcs c) Y q o sc ws c := h.rows rfl ⟨⟨h.kq.1.1, Nat.le_refl _⟩, h.kq.2⟩ rfl (fun _ _ _ _ _ _ => rfl) h.2.2.2.2.1
theorem RC.lu {l : Int} {K : KB} {b : Nat} (h : RC e ch n X0 (l, K.1, K.2.1, K.2.2.1, b) Y q o sc ws c) (hb : K.2.2.2 ≤ b) : RC e ch n X0 (l, K) Y q o sc ws c := h.rows rfl ⟨⟨h.kq.1.1, Nat.le_trans hb h.kq.1.2⟩, h.kq.2⟩ rfl (fun _ _ _ _ _ _ => rfl) h.2.2.2.2.1
theorem RC.u {i : Nat} {l : Int} {K : KB} (h : RC e ch n X0 (l, K.p i) Y q o sc ws c) : RC e ch n X0 (l, K) Y q o sc ws c := h.rows rfl (show KQ e Y K c from KQ.u (i := i) h.kq) rfl (fun _ _ _ _ _ _ => rfl) h.2.2.2.2.1
theorem l_advance54 (h : RC e ch n X0 lk Y q o sc ws c) (ht : ¬ ty ch q = 260) : pw (g_Tokens_advance Y) (fun _ Z => RC e ch n X0 lk Z (nx ch q) o sc ws c ∧ ∀ k, Z.1 54 k = Y.1 54 k) := by
  refine pw_mono (c_advance h.1.2.2.1 h.2.1.2.1.2.2.1 (nx_le h.tx h.1.2.2.2.1) (by rw [h.ty]; exact ht)) ?_
  rintro r Z ⟨g, t⟩
  exact ⟨h.tk g t (nx_le h.tx h.1.2.2.2.1), fun k => g.1 54 k (by decide)⟩
theorem l_want54 (h : RC e ch n X0 lk Y q o sc ws c) {p : Int32} {t : Int} (hp : p.toInt = t) (ht : ¬ t = 257 ∧ ¬ t = 260) : pw (g_Reader_want p Y) (fun _ Z => PO Z (sWant ch t q) (fun q1 => (RC e ch n X0 lk Z q1 o sc ws c ∧ q1 = nx ch q ∧ pl ch q + 1 ≤ pl ch q1 ∧ pl ch q1 ≤ 3000) ∧ ∀ k, Z.1 54 k = Y.1 54 k)) := by
  unfold g_Reader_want sWant
  refine pw_let ?_
  refine pw_ifo (by rw [h.ty, hp]) (fun c1 => ?_) (fun c1 => ?_)
  · refine pw_bd (l_advance54 h (by rw [c1]; exact ht.2)) (fun _ Z hZ => ?_)
    refine pw_ret (PO.s ⟨⟨hZ.1, rfl, pl_nx h.tx (by rw [c1]; exact ht.1), ?_⟩, hZ.2⟩)
    have := hZ.1.pln
    omega
  · refine pw_bd (f_Reader_refuse Y (by decide)) (fun _ Z hZ => ?_)
    exact pw_ret (PO.n hZ)
theorem l_enter54 (h : RC e ch n X0 lk Y q o sc ws c) {p : Int32} {t : Int} (hp : p.toInt = t) (ht : ¬ t = 257 ∧ ¬ t = 260) (ho : 0 ≤ o) : pw (g_Reader_enter p Y) (fun _ Z => PO Z (sEnter ch t o q) (fun q1 => (RC e ch n X0 lk Z q1 (o + 1) sc ws c ∧ q1 = nx ch q ∧ pl ch q + 1 ≤ pl ch q1 ∧ pl ch q1 ≤ 3000 ∧ o < 40) ∧ ∀ k, Z.1 54 k = Y.1 54 k)) := by
  have dead : ∀ Z, fd Z → pw (g_Reader_enter_43 Z) (fun _ Z => fd Z) := fun Z hZ => z_Reader_enter_43 hZ
  unfold g_Reader_enter sEnter
  refine pw_let ?_
  refine pw_ifo (by rw [h.ty, hp]) (fun c1 => ?_) (fun c1 => ?_)
  · refine pw_let ?_
    refine pw_ifo (by rw [h.op]) (fun c2 => ?_) (fun c2 => ?_)
    · refine pw_bd (l_advance54 h (by rw [c1]; exact ht.2)) (fun _ Z hZ0 => ?_)
      obtain ⟨hZ, k54⟩ := hZ0
      unfold g_Reader_enter_43
      refine pw_let ?_
      refine pw_let ?_
      refine pw_eq (fun X6 e6 => ?_)
      have l1 : (1 : Int32).toInt = 1 := by decide
      have hop := hZ.op
      have hZ6 : RC e ch n X0 lk X6 (nx ch q) (o + 1) sc ws c := by
        rw [e6]
        refine hZ.cell (by rfl) (fun j k hj => wI_ne _ _ _ _ _ _ (fun g => hj g.1)) (wI_ne _ _ _ _ _ _ (by decide)) (wI_ne _ _ _ _ _ _ (by decide)) (wI_ne _ _ _ _ _ _ (by decide)) ?_ ?_
        · rw [wI_at, ti_add (by rw [hop, l1]; omega) (by rw [hop, l1]; omega), hop, l1]
        · rw [wI_ne _ _ _ _ _ _ (by decide)]; exact hZ.2.1.2.2.2
      refine pw_ret (PO.s ⟨⟨hZ6, rfl, pl_nx h.tx (by rw [c1]; exact ht.1), ?_, c2⟩, fun k => by rw [e6, wI_ne _ _ _ _ _ _ (by omega)]; exact k54 k⟩)
      have := hZ.pln
      omega
    · refine pw_bd (f_Reader_refuse Y (by decide)) (fun _ Z hZ => ?_)
      exact dead Z hZ
  · refine pw_bd (f_Reader_refuse Y (by decide)) (fun _ Z hZ => ?_)
    exact dead Z hZ
theorem l_advance (h : RC e ch n X0 lk Y q o sc ws c) (ht : ¬ ty ch q = 260) : pw (g_Tokens_advance Y) (fun _ Z => RC e ch n X0 lk Z (nx ch q) o sc ws c) := pw_mono (l_advance54 h ht) (fun _ _ g => g.1)
theorem l_want (h : RC e ch n X0 lk Y q o sc ws c) {p : Int32} {t : Int} (hp : p.toInt = t) (ht : ¬ t = 257 ∧ ¬ t = 260) : pw (g_Reader_want p Y) (fun _ Z => PO Z (sWant ch t q) (fun q1 => RC e ch n X0 lk Z q1 o sc ws c ∧ q1 = nx ch q ∧ pl ch q + 1 ≤ pl ch q1 ∧ pl ch q1 ≤ 3000)) := pw_po (l_want54 h hp ht) (fun _ _ _ g => g.1)
theorem l_enter (h : RC e ch n X0 lk Y q o sc ws c) {p : Int32} {t : Int} (hp : p.toInt = t) (ht : ¬ t = 257 ∧ ¬ t = 260) (ho : 0 ≤ o) : pw (g_Reader_enter p Y) (fun _ Z => PO Z (sEnter ch t o q) (fun q1 => RC e ch n X0 lk Z q1 (o + 1) sc ws c ∧ q1 = nx ch q ∧ pl ch q + 1 ≤ pl ch q1 ∧ pl ch q1 ≤ 3000 ∧ o < 40)) := pw_po (l_enter54 h hp ht ho) (fun _ _ _ g => g.1)
theorem kYp (he : e = 2 ∨ e = 24) : kY YC e 0 - 3 = e + 1 ∧ kY YC e 13 - 3 = e + 18 ∧ kY YC e 14 - 3 = e + 19 ∧ kY YC e 15 - 3 = e + 20 ∧ kY YC e 16 - 3 = e + 21 := by
  rcases he with h | h <;> rw [h] <;> decide +kernel
theorem kYq (he : e = 2 ∨ e = 24) : kY YC e 3 - 3 = e + 16 ∧ kY YC e 4 - 3 = e + 17 ∧ kY YC e 7 - 3 = e + 10 ∧ kY YC e 8 - 3 = e + 11 ∧ kY YC e 9 - 3 = e + 12 ∧ kY YC e 10 - 3 = e + 13 ∧ kY YC e 11 - 3 = e + 14 ∧ kY YC e 12 - 3 = e + 15 := by
  rcases he with h | h <;> rw [h] <;> decide +kernel
theorem ofI {x : Int32} {v : Int} (h : x.toInt = v) : x = Int32.ofInt v := by rw [← h, Int32.ofInt_toInt]
theorem l_emit0 (h : RC e ch n X0 lk Y q o sc ws c) {p1 p2 p3 : Int32} {a1 a2 a3 : Int} {kd : List Int} (hl : c.length < 9080) (h1 : p1.toInt = a1) (h2 : ¬ a1 = 34 → p2 = Int32.ofInt a2) (h3 : p3.toInt = a3) (h4 : a1 = 4 → 0 ≤ a3 ∧ a3 ≤ n ∧ ty ch a3.toNat = 258) {K1 : KB} (hK : ∀ Z : St, (∀ j k, e + 1 ≤ j → j ≤ e + 8 → Z.1 j k = Y.1 j k) → (∀ k, ¬ k = c.length → Z.1 (e + 19) k = Y.1 (e + 19) k) → Z.1 (e + 19) c.length = p2 → KQ e Z K1 (c ++ [(a1, a2, a3, kd)])) : pw (g_Program_emit e p1 p2 p3 Y) (fun r Z => (r.toInt = (c.length : Int) ∧ (c ++ [((a1, a2, a3, kd) : Ins)]).length = c.length + 1) ∧ RC e ch n X0 (lk.1, K1) Z q o sc ws (c ++ [(a1, a2, a3, kd)])) := by
  have hlen := h.len
  have he := h.he
  have hL : ix (Y.1 e 6) = c.length := ixn hlen
  obtain ⟨-, k13, k14, k15, k16⟩ := kYp he
  unfold g_Program_emit
  refine pw_let ?_
  refine pw_ite (fun c1 => ?_) (fun c1 => by exfalso; omega)
  refine pw_to k13 ?_
  refine pw_let ?_
  refine pw_ck (fun _ => ?_)
  rw [hL]
  refine pw_eq (fun X4 e4 => ?_)
  refine pw_to k14 ?_
  have c4 : X4.1 e 6 = Y.1 e 6 := by rw [e4]; exact wI_ne _ _ _ _ _ _ (by omega)
  refine pw_let ?_
  refine pw_ck (fun _ => ?_)
  rw [c4, hL]
  refine pw_eq (fun X7 e7 => ?_)
  have c7 : X7.1 e 6 = Y.1 e 6 := by rw [e7, wI_ne _ _ _ _ _ _ (by omega), c4]
  refine pw_to k15 ?_
  refine pw_let ?_
  refine pw_ck (fun _ => ?_)
  rw [c7, hL]
  refine pw_eq (fun X10 e10 => ?_)
  have c10 : X10.1 e 6 = Y.1 e 6 := by rw [e10, wI_ne _ _ _ _ _ _ (by omega), c7]
  refine pw_to k16 ?_
  refine pw_let ?_
  refine pw_ck (fun _ => ?_)
  rw [c10, hL]
  refine pw_eq (fun X13 e13 => ?_)
  have c13 : X13.1 e 6 = Y.1 e 6 := by rw [e13, wI_ne _ _ _ _ _ _ (by omega), c10]
  refine pw_let ?_
  refine pw_eq (fun x15 e15 => ?_)
  refine pw_eq (fun X16 e16 => ?_)
  refine pw_let ?_
  refine pw_eq (fun x18 e18 => ?_)
  have l1 : (1 : Int32).toInt = 1 := by decide
  have v15 : x15.toInt = (c.length : Int) + 1 := by rw [e15, c13, ti_add (by rw [hlen, l1]; omega) (by rw [hlen, l1]; omega), hlen, l1]
  have v18 : x18.toInt = (c.length : Int) := by
    rw [e18, e16, wI_at, ti_sub (by rw [v15, l1]; omega) (by rw [v15, l1]; omega), v15, l1]
    omega
  have hll : (c ++ [((a1, a2, a3, kd) : Ins)]).length = c.length + 1 := by rw [List.length_append]; rfl
  refine pw_ret ⟨⟨v18, hll⟩, ?_⟩
  have out : ∀ j k, ¬ (e + 18 ≤ j ∧ j ≤ e + 21) → ¬ (j = e ∧ k = 6) → X16.1 j k = Y.1 j k := by
    intro j k a b
    rw [e16, wI_ne _ _ _ _ _ _ b, e13, wI_ne _ _ _ _ _ _ (by omega), e10, wI_ne _ _ _ _ _ _ (by omega), e7, wI_ne _ _ _ _ _ _ (by omega), e4, wI_ne _ _ _ _ _ _ (by omega)]
  have old : ∀ j k, ¬ k = c.length → ¬ j = e → X16.1 j k = Y.1 j k := by
    intro j k a b
    rw [e16, wI_ne _ _ _ _ _ _ (by omega), e13, wI_ne _ _ _ _ _ _ (by omega), e10, wI_ne _ _ _ _ _ _ (by omega), e7, wI_ne _ _ _ _ _ _ (by omega), e4, wI_ne _ _ _ _ _ _ (by omega)]
  have n18 : X16.1 (e + 18) c.length = p1 := by
    rw [e16, wI_ne _ _ _ _ _ _ (by omega), e13, wI_ne _ _ _ _ _ _ (by omega), e10, wI_ne _ _ _ _ _ _ (by omega), e7, wI_ne _ _ _ _ _ _ (by omega), e4, wI_at]
  have n19 : X16.1 (e + 19) c.length = p2 := by
    rw [e16, wI_ne _ _ _ _ _ _ (by omega), e13, wI_ne _ _ _ _ _ _ (by omega), e10, wI_ne _ _ _ _ _ _ (by omega), e7, wI_at]
  have n21 : X16.1 (e + 21) c.length = p3 := by
    rw [e16, wI_ne _ _ _ _ _ _ (by omega), e13, wI_at]
  have z2 : X16.2 = Y.2 := by rw [e16, e13, e10, e7, e4]; rfl
  refine h.rows rfl (hK X16 (fun j k a b => out j k (by omega) (by omega)) (fun k a => old _ k a (by omega)) n19) z2 (fun j k _ _ a b => out j k a b) ⟨?_, fun i a ha => ?_⟩
  · rw [e16, wI_at, v15, hll]
    omega
  · have hcd := h.2.2.2.2.1
    rcases Nat.lt_or_ge i c.length with g | g
    · rw [List.getElem?_append_left g] at ha
      obtain ⟨d1, d2, d3, d4⟩ := hcd.2 i a ha
      refine ⟨?_, fun hh => ?_, ?_, d4⟩
      · rw [old _ _ (by omega) (by omega)]; exact d1
      · rw [old _ _ (by omega) (by omega)]; exact d2 hh
      · rw [old _ _ (by omega) (by omega)]; exact d3
    · have hi : i = c.length := by
        have := (List.getElem?_eq_some_iff.mp ha).1
        omega
      rw [hi, List.getElem?_concat_length] at ha
      have ha := Option.some.inj ha
      rw [hi, ← ha]
      exact ⟨by rw [n18]; exact h1, fun hh => by rw [n19]; exact h2 hh, by rw [n21]; exact h3, h4⟩
theorem KQ.em {K : KB} (h : KQ e Y K c) {a1 a2 a3 : Int} {kd : List Int} (n34 : ¬ a1 = 34) (hk : ∀ j k, e + 1 ≤ j → j ≤ e + 8 → Z.1 j k = Y.1 j k) (h19 : ∀ k, ¬ k = c.length → Z.1 (e + 19) k = Y.1 (e + 19) k) : KQ e Z K (c ++ [(a1, a2, a3, kd)]) := by
  have hc : kcs (c ++ [((a1, a2, a3, kd) : Ins)]) = kcs c := by
    rw [kcs_ap, kcs_1]
    unfold kci
    rw [if_neg n34]
    omega
  refine ⟨⟨fun i hi => ?_, by rw [hc]; exact h.1.2⟩, fun b => ?_⟩
  · obtain ⟨a, h1, h2⟩ := h.1.1 i hi
    exact ⟨a, by rw [List.getElem?_append_left (List.getElem?_eq_some_iff.mp h1).1]; exact h1, h2⟩
  · rw [hc] at b ⊢
    obtain ⟨ks, a1_, a2_, a3_, a4_, a5_⟩ := h.2 b
    refine ⟨ks, a1_.cg (fun j k q1 q2 _ => hk j k (by omega) (by omega)), a2_, a3_, a4_, fun i a ha h34 => ?_⟩
    rcases Nat.lt_or_ge i c.length with g | g
    · rw [List.getElem?_append_left g] at ha
      rw [h19 i (by omega)]
      exact a5_ i a ha h34
    · have hi : i = c.length := by
        have := (List.getElem?_eq_some_iff.mp ha).1
        rw [List.length_append] at this
        have h1 : [((a1, a2, a3, kd) : Ins)].length = 1 := rfl
        omega
      rw [hi, List.getElem?_concat_length] at ha
      rw [← Option.some.inj ha] at h34
      exact absurd h34 n34
theorem l_emit (h : RC e ch n X0 lk Y q o sc ws c) {p1 p2 p3 : Int32} {a1 a2 a3 : Int} {kd : List Int} (hl : c.length < 9080) (h1 : p1.toInt = a1) (h2 : ¬ a1 = 34 → p2 = Int32.ofInt a2) (h3 : p3.toInt = a3) (h4 : a1 = 4 → 0 ≤ a3 ∧ a3 ≤ n ∧ ty ch a3.toNat = 258) (n34 : ¬ a1 = 34 := by decide) : pw (g_Program_emit e p1 p2 p3 Y) (fun r Z => (r.toInt = (c.length : Int) ∧ (c ++ [((a1, a2, a3, kd) : Ins)]).length = c.length + 1) ∧ RC e ch n X0 lk Z q o sc ws (c ++ [(a1, a2, a3, kd)])) :=
  l_emit0 h hl h1 h2 h3 h4 (K1 := lk.2) (fun _ hk h19 _ => h.kq.em n34 hk h19)
/-- a let's kind -/
theorem l_emit34 {l : Int} {P : Nat} {ks0 : List (List Int)} {I : List Nat × Nat} {kd : List Int} (h : RC e ch n X0 (l, P + kcn kd, ks0, I) Y q o sc ws c) {p1 p2 p3 : Int32} {a3 : Int} (hl : c.length < 9080) (h1 : p1.toInt = 34) (h2 : P + kcn kd + kcs c ≤ 1549 → ∃ z : Nat, p2.toInt = (z : Int) ∧ ks0[z]? = some kd) (h3 : p3.toInt = a3) : pw (g_Program_emit e p1 p2 p3 Y) (fun r Z => (r.toInt = (c.length : Int) ∧ (c ++ [((34, 0, a3, kd) : Ins)]).length = c.length + 1) ∧ RC e ch n X0 (l, P, ks0, I) Z q o sc ws (c ++ [(34, 0, a3, kd)])) := by
  refine l_emit0 h hl h1 (fun g => absurd rfl g) h3 (fun g => absurd g (by decide)) (K1 := (P, ks0, I)) (fun W hk h19 hn => ?_)
  have hc : kcs (c ++ [((34, 0, a3, kd) : Ins)]) = kcs c + kcn kd := by
    rw [kcs_ap, kcs_1]
    rfl
  obtain ⟨hI, hK⟩ := h.kq
  refine ⟨⟨fun i hi => ?_, by rw [hc]; exact Nat.le_trans hI.2 (Nat.le_add_right _ _)⟩, fun b => ?_⟩
  · obtain ⟨a, h1, h2⟩ := hI.1 i hi
    exact ⟨a, by rw [List.getElem?_append_left (List.getElem?_eq_some_iff.mp h1).1]; exact h1, h2⟩
  · rw [hc] at b ⊢
    have b : P + (kcs c + kcn kd) ≤ 1549 := b
    have b2 : P + kcn kd + kcs c ≤ 1549 := by omega
    obtain ⟨ks, a1_, a2_, a3_, a4_, a5_⟩ := hK b2
    have a4_ : ks.length ≤ P + kcn kd + kcs c := a4_
    obtain ⟨z, z1, z2⟩ := h2 b2
    refine ⟨ks, a1_.cg (fun j k q1 q2 _ => hk j k (by omega) (by omega)), a2_, a3_, by show ks.length ≤ P + (kcs c + kcn kd); omega, fun i a ha h34 => ?_⟩
    rcases Nat.lt_or_ge i c.length with g | g
    · rw [List.getElem?_append_left g] at ha
      rw [h19 i (by omega)]
      exact a5_ i a ha h34
    · have hi : i = c.length := by
        have := (List.getElem?_eq_some_iff.mp ha).1
        rw [List.length_append] at this
        have h1 : [((34, 0, a3, kd) : Ins)].length = 1 := rfl
        omega
      rw [hi, List.getElem?_concat_length] at ha
      rw [hi, ← Option.some.inj ha]
      obtain ⟨l1, l2⟩ := a3_
      refine ⟨z, ?_, ?_⟩
      · rw [hn, ofI z1]
        show Int32.ofInt (z : Int) = Int32.ofInt (0 + (z : Int))
        rw [Int.zero_add]
      · show ks[z]? = some kd
        rw [← l2, List.getElem?_append_left (List.getElem?_eq_some_iff.mp z2).1]
        exact z2
theorem plc_at {i : Nat} {a : Ins} (h : c[i]? = some a) : plc c i = a.2.2.1 := by
  unfold plc
  rw [List.getD_eq_getElem?_getD, h]
  rfl
theorem l_placeOf (h : RC e ch n X0 lk Y q o sc ws c) {p : Int32} {i : Nat} (hp : p.toInt = (i : Int)) (hi : i < c.length) : pw (g_Reader_placeOf p Y) (fun r Z => Z = Y ∧ r.toInt = plc c i) := by
  unfold g_Reader_placeOf
  refine pw_ck (fun _ => ?_)
  refine pw_to h.pe ?_
  refine pw_to (kYp h.he).2.2.2.2 ?_
  refine pw_ck (fun _ => ?_)
  refine pw_let ?_
  refine pw_ret ⟨rfl, ?_⟩
  rw [ixn hp]
  have ha := List.getElem?_eq_getElem hi
  rw [plc_at ha]
  exact (h.2.2.2.2.1.2 i _ ha).2.2.1
/-- the second of an instruction changes -/
theorem RC.mod (h : RC e ch n X0 lk Y q o sc ws c) {i : Nat} (hi : i < c.length) {v : Int32} {f : Int → Int} (hv : ∀ a, c[i]? = some a → ¬ a.1 = 34 → v = Int32.ofInt (f a.2.1)) (hv4 : ∀ a, c[i]? = some a → a.1 = 34 → ∀ z : Nat, Y.1 (e + 19) i = Int32.ofInt (a.2.1 + (z : Int)) → v = Int32.ofInt (f a.2.1 + (z : Int))) : RC e ch n X0 lk (wI Y (e + 19) i v) q o sc ws (c.modify i (fun a => (a.1, f a.2.1, a.2.2))) := by
  have he := h.he
  have hq : KQ e (wI Y (e + 19) i v) lk.2 (c.modify i (fun a => (a.1, f a.2.1, a.2.2))) := by
    refine ⟨⟨fun j hj => ?_, by rw [kcs_mod]; exact h.kq.1.2⟩, fun b => ?_⟩
    · obtain ⟨a, h1, h2⟩ := h.kq.1.1 j hj
      by_cases g : i = j
      · rw [← g] at h1 ⊢
        exact ⟨(a.1, f a.2.1, a.2.2), by rw [List.getElem?_modify_eq, h1]; rfl, h2⟩
      · exact ⟨a, by rw [List.getElem?_modify_ne _ _ g]; exact h1, h2⟩
    · rw [kcs_mod] at b ⊢
      obtain ⟨ks, a1, a2, a3, a4, a5⟩ := h.kq.2 b
      refine ⟨ks, a1.cg (fun j k q1 q2 _ => wI_ne _ _ _ _ _ _ (by omega)), a2, a3, a4, fun k a ha h34 => ?_⟩
      by_cases g : i = k
      · rw [← g] at ha ⊢
        rw [List.getElem?_modify_eq, List.getElem?_eq_getElem hi] at ha
        have ha : some (c[i].1, f c[i].2.1, c[i].2.2) = some a := ha
        have ha := Option.some.inj ha
        have hc := List.getElem?_eq_getElem hi
        have h34b : c[i].1 = 34 := by rw [← ha] at h34; exact h34
        obtain ⟨z, z1, z2⟩ := a5 i _ hc h34b
        refine ⟨z, ?_, by rw [← ha]; exact z2⟩
        rw [wI_at, ← ha]
        exact hv4 _ hc h34b z z1
      · rw [List.getElem?_modify_ne _ _ g] at ha
        rw [wI_ne _ _ _ _ _ _ (by omega)]
        exact a5 k a ha h34
  refine h.rows rfl hq (by rfl) (fun j k _ _ a _ => wI_ne _ _ _ _ _ _ (by omega)) ⟨?_, fun k a ha => ?_⟩
  · rw [wI_ne _ _ _ _ _ _ (by omega), List.length_modify]
    exact h.len
  · by_cases hk : i = k
    · rw [← hk] at ha ⊢
      rw [List.getElem?_modify_eq, List.getElem?_eq_getElem hi] at ha
      have ha : some (c[i].1, f c[i].2.1, c[i].2.2) = some a := ha
      have ha := Option.some.inj ha
      have hc := List.getElem?_eq_getElem hi
      obtain ⟨d1, d2, d3, d4⟩ := h.2.2.2.2.1.2 i _ hc
      rw [← ha]
      refine ⟨?_, fun hh => ?_, ?_, d4⟩
      · rw [wI_ne _ _ _ _ _ _ (by omega)]; exact d1
      · rw [wI_at]; exact hv _ hc hh
      · rw [wI_ne _ _ _ _ _ _ (by omega)]; exact d3
    · rw [List.getElem?_modify_ne _ _ hk] at ha
      obtain ⟨d1, d2, d3, d4⟩ := h.2.2.2.2.1.2 k _ ha
      refine ⟨?_, fun hh => ?_, ?_, d4⟩
      · rw [wI_ne _ _ _ _ _ _ (by omega)]; exact d1
      · rw [wI_ne _ _ _ _ _ _ (by omega)]; exact d2 hh
      · rw [wI_ne _ _ _ _ _ _ (by omega)]; exact d3
theorem RC.setx (h : RC e ch n X0 lk Y q o sc ws c) {i : Nat} (hi : i < c.length) (hI : i ∈ lk.2.2.2.1) {v : Int32} {w : Int} (hv : v.toInt = w) : RC e ch n X0 lk (wI Y (e + 19) i v) q o sc ws (_root_.Jvm.Pilot.CBlameCourtLaw_law_r8381_f30dd1.setx c i w) :=
  h.mod (f := fun _ => w) hi (fun _ _ _ => ofI hv) (fun a ha h34 => by
    obtain ⟨b, h1, h2⟩ := h.kq.1.1 i hI
    rw [ha] at h1
    rw [← Option.some.inj h1] at h2
    exact absurd h34 h2)
theorem setx_len (c : List Ins) (i : Nat) (w : Int) : (setx c i w).length = c.length := List.length_modify _ _ _
theorem addx_len (c : List Ins) (i : Nat) (w : Int) : (addx c i w).length = c.length := List.length_modify _ _ _
theorem l_addStep (h : RC e ch n X0 lk Y q o sc ws c) {p : Int32} {i : Nat} (hp : p.toInt = (i : Int)) (hi : i < c.length) : pw (g_Reader_addStep p Y) (fun _ Z => RC e ch n X0 lk Z q o sc ws (addx c i 1)) := by
  unfold g_Reader_addStep
  refine pw_ck (fun _ => ?_)
  refine pw_to h.pe ?_
  refine pw_to (kYp h.he).2.2.1 ?_
  refine pw_ck (fun _ => ?_)
  refine pw_eq (fun x3 e3 => ?_)
  refine pw_eq (fun x4 e4 => ?_)
  refine pw_ck (fun _ => ?_)
  refine pw_eq (fun X5 e5 => ?_)
  refine pw_ret ?_
  rw [e5, ixn hp]
  refine h.mod (f := fun v => v + 1) hi (fun a ha hh => show x4 = Int32.ofInt (a.2.1 + 1) from ?_) (fun a ha hh z hz => show x4 = Int32.ofInt (a.2.1 + 1 + (z : Int)) from ?_)
  · rw [e4, e3, ixn hp, (h.2.2.2.2.1.2 i a ha).2.1 hh, Int32.ofInt_add]
    rfl
  · rw [e4, e3, ixn hp, hz, show a.2.1 + 1 + (z : Int) = a.2.1 + (z : Int) + 1 by omega]
    exact (Int32.ofInt_add (a.2.1 + (z : Int)) 1).symm
end RCS
