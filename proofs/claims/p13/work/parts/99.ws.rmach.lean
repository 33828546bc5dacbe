/-! the reference reads expressions: its machine -/
def pr (X : St) (Q : Int32 → St → Prop) : Prop := ∀ M, pw (f_expression_21 M X) Q
def prE (X : St) (Q : Int32 → St → Prop) : Prop := pw (f_endsOne X) (fun _ Z => pr Z Q)
def prS (X : St) (Q : Int32 → St → Prop) : Prop := ∀ M, pw (f_signs_0 M X) (fun _ Z => pr Z Q)
/-- places of names that are no local's -/
def NPl (c : List Ins) (p : Int) : Prop := ∃ a ∈ c, a.1 = 4 ∧ a.2.2.1 = p
/-- a place in the text -/
def PLk (ch : Tx) (v : Int32) : Prop := 0 ≤ v.toInt ∧ ¬ ch (ix v) < 0
/-- the nodes of names are those of the code -/
def NMr (ch : Tx) (X : St) (N : Nat) (c : List Ins) : Prop := (∀ i, i < N → (X.1 20 i).toInt = 3 → (∃ p, NPl c p ∧ X.2.1 29 i = lN (p6 (nm ch p.toNat)) ∧ (nm ch p.toNat).length ≤ 8) ∧ PLk ch (X.1 21 i)) ∧ (∀ p, NPl c p → ∃ i, i < N ∧ (X.1 20 i).toInt = 3 ∧ X.2.1 29 i = lN (p6 (nm ch p.toNat)) ∧ (nm ch p.toNat).length ≤ 8)
/-- where an expression has ended -/
def ER (ch : Tx) (n : Nat) (X0 : St) (o : Int) (sc : List Nm) (j N0 : Nat) (c : List Ins) (a : Out) (Y : St) : Prop := ∃ N1 t : Nat, XS ch n Y a.1 o sc j N1 ∧ NMr ch Y N1 a.2 ∧ KP X0 Y j N0 sc.length ∧ (Y.1 0 24).toInt = (t : Int) ∧ N0 ≤ t ∧ t < N1 ∧ ∃ d, a.2 = c ++ d ∧ OM ch Y N0 N1 t c.length d
/-- the frame an expression is read for: no sign's, not full -/
def PRN (X : St) (k : Nat) : Prop := (¬ (X.1 35 k).toInt = 15 ∧ ¬ (X.1 35 k).toInt = 16) ∧ ((X.1 35 k).toInt = 12 → ¬ (X.1 27 (ix (X.1 36 k))).toInt = 4) ∧ ((X.1 35 k).toInt = 8 → ¬ (X.1 27 (ix (X.1 36 k))).toInt = 20)
def SEq (ch : Tx) (n : Nat) (o : Int) (E : EF) : Prop := ∀ (sc : List Nm) (q : Nat) (c : List Ins) (j N : Nat) (X : St) (Q : Int32 → St → Prop), XS ch n X q o sc (j + 1) N → (X.1 0 23).toInt = 0 → PRN X j → NMr ch X N c → 0 ≤ o → o ≤ 40 → HH (DQ Q) (fun a => ∀ Y, ER ch n X o sc (j + 1) N c a Y → prE Y Q) (E o sc q c) → pr X Q
def SUq (ch : Tx) (n : Nat) (o : Int) (U : Int → List Nm → Nat → List Ins → Option Out) : Prop := ∀ (sc : List Nm) (q : Nat) (c : List Ins) (j N : Nat) (X : St) (Q : Int32 → St → Prop), XS ch n X q o sc (j + 1) N → (X.1 0 23).toInt = 1 → NMr ch X N c → 0 ≤ o → o ≤ 40 → HH (DQ Q) (fun a => ∀ Y, ER ch n X o sc (j + 1) N c a Y → ¬ (Y.1 20 (ix (Y.1 0 24))).toInt = 14 → prS Y Q) (U o sc q c) → pr X Q
section RMACH
variable {ch : Tx} {n q : Nat} {X Y Z X0 : St} {o : Int} {sc : List Nm} {j N s N0 : Nat} {Q : Int32 → St → Prop} {c c1 : List Ins}
theorem pr_st (h : ∀ M, pw (f_expression_21_s (f_expression_21 M) X) Q) : pr X Q := by
  intro M
  cases M with
  | zero => exact pw_none
  | succ M => exact h M
theorem pr_dd (hd : wrX X) (hQ : DQ Q) : pr X Q := fun M => pw_mono (uw_expression_21 M X hd) hQ
theorem prE_dd (hd : wrX X) (hQ : DQ Q) : prE X Q := pw_mono (uw_endsOne hd) (fun _ _ d => pr_dd d hQ)
theorem prS_dd (hd : wrX X) (hQ : DQ Q) : prS X Q := fun M => pw_mono (uw_signs_0 M X hd) (fun _ _ d => pr_dd d hQ)
theorem pr_go {m : Int} (h : XS ch n X q o sc (j + 1) N) (hm : (X.1 0 23).toInt = m) (g : m = 0 ∧ pw (f_begins X) (fun _ Z => pr Z Q) ∨ m = 1 ∧ pw (f_operand X) (fun _ Z => pr Z Q) ∨ m = 2 ∧ pw (f_behind X) (fun _ Z => pr Z Q) ∨ m = 3 ∧ pw (f_signs X) (fun _ Z => pr Z Q) ∨ m = 4 ∧ pw (f_endsOne X) (fun _ Z => pr Z Q)) : pr X Q := by
  refine pr_st (fun M => ?_)
  unfold f_expression_21_s
  refine pw_bd (q_well h.w0) ?_
  rintro x5 X6 ⟨rfl, h5⟩
  refine pw_neg h5 (pw_let (pw_neg (by have := (h.fe (by omega)); omega) (pw_let ?_)))
  rcases g with ⟨e, g⟩ | ⟨e, g⟩ | ⟨e, g⟩ | ⟨e, g⟩ | ⟨e, g⟩
  · exact pw_pos (by omega) (pw_bd g (fun _ Z h => h M))
  · exact pw_neg (by omega) (pw_pos (by omega) (pw_bd g (fun _ Z h => h M)))
  · exact pw_neg (by omega) (pw_neg (by omega) (pw_pos (by omega) (pw_bd g (fun _ Z h => h M))))
  · exact pw_neg (by omega) (pw_neg (by omega) (pw_neg (by omega) (pw_pos (by omega) (pw_bd g (fun _ Z h => h M)))))
  · exact pw_neg (by omega) (pw_neg (by omega) (pw_neg (by omega) (pw_neg (by omega) (pw_bd g (fun _ Z h => h M)))))
theorem pr_0 (h : XS ch n X q o sc (j + 1) N) (hm : (X.1 0 23).toInt = 0) (g : pw (f_begins X) (fun _ Z => pr Z Q)) : pr X Q := pr_go h hm (Or.inl ⟨rfl, g⟩)
theorem pr_1 (h : XS ch n X q o sc (j + 1) N) (hm : (X.1 0 23).toInt = 1) (g : pw (f_operand X) (fun _ Z => pr Z Q)) : pr X Q := pr_go h hm (Or.inr (Or.inl ⟨rfl, g⟩))
theorem pr_2 (h : XS ch n X q o sc (j + 1) N) (hm : (X.1 0 23).toInt = 2) (g : pw (f_behind X) (fun _ Z => pr Z Q)) : pr X Q := pr_go h hm (Or.inr (Or.inr (Or.inl ⟨rfl, g⟩)))
theorem pr_3 (h : XS ch n X q o sc (j + 1) N) (hm : (X.1 0 23).toInt = 3) (g : prS X Q) : pr X Q := pr_go h hm (Or.inr (Or.inr (Or.inr (Or.inl ⟨rfl, g BIG⟩))))
theorem pr_4 (h : XS ch n X q o sc (j + 1) N) (hm : (X.1 0 23).toInt = 4) (g : prE X Q) : pr X Q := pr_go h hm (Or.inr (Or.inr (Or.inr (Or.inr ⟨rfl, g⟩))))
theorem KP.mk {p : Int32} (h : KP X0 X j N0 s) (g : MKq X Y N p) (hN : N0 ≤ N) : KP X0 Y j N0 s := ⟨fun e k q => (g.1 e k (by unfold KPs at q; omega) (by unfold KPs at q; omega)).trans (h.1 e k q), fun k q => (g.2.1 29 k (by omega)).trans (h.2.1 k q), fun k q => (g.2.1 30 k (by omega)).trans (h.2.2.1 k q), h.2.2.2.tr (KGq.of (fun e k q => g.1 e k (by omega) (by omega)))⟩
theorem KP.en {p1 p2 : Int32} {j1 : Nat} (h : KP X0 X j N0 s) (g : ENq X Y j1 p1 p2) (hj : j ≤ j1) : KP X0 Y j N0 s := ⟨fun e k q => (g.1 e k (by unfold KPs at q; omega) (by unfold KPs at q; omega)).trans (h.1 e k q), fun k q => (congrFun (congrFun (congrArg Prod.fst g.2.1) 29) k).trans (h.2.1 k q), fun k q => (congrFun (congrFun (congrArg Prod.fst g.2.1) 30) k).trans (h.2.2.1 k q), h.2.2.2.tr (KGq.of (fun e k q => g.1 e k (by omega) (by omega)))⟩
/-- a tree below the base stays -/
theorem OM.kp {X Y : St} {lo hi t i N0 s0 j0 : Nat} {d : List Ins} (h : OM ch X lo hi t i d) (g : KP X Y j0 N0 s0) (hX : KJq X) (hN : hi ≤ N0) : OM ch Y lo hi t i d := h.cg ⟨fun e k he _ hk _ => g.1 e k (by unfold KPs; omega), fun k _ hk => g.2.1 k (by omega), KDk.oj hX g.2.2.2.1⟩
/-- .. where only other rows are written -/
theorem OM.rows {X Y : St} {lo hi t i : Nat} {d : List Ins} (h : OM ch X lo hi t i d) (g : ∀ e k, (4 ≤ e ∧ e ≤ 28) ∨ (e = 0 ∧ (k = 13 ∨ k = 15)) → ¬ e = 10 → Y.1 e k = X.1 e k) (g2 : ∀ k, Y.2.1 29 k = X.2.1 29 k) (hX : KJq X) : OM ch Y lo hi t i d := h.cg ⟨fun e k he _ _ _ => g e k (by omega) (by omega), fun k _ _ => g2 k, KDk.oj hX (KXq.of (fun e k q => g e k (by omega) (by omega)))⟩
theorem OM.wI {X : St} {lo hi t i : Nat} {d : List Ins} (h : OM ch X lo hi t i d) (hX : KJq X) {e k : Nat} {v : Int32} (g : ¬ ((20 ≤ e ∧ e ≤ 28) ∧ lo ≤ k ∧ k < hi) ∧ ¬ (4 ≤ e ∧ e ≤ 9) ∧ ¬ (e = 0 ∧ (k = 13 ∨ k = 15))) : OM ch (_root_.Jvm.Pilot.CBlameCourtLaw_law_r8381_f30dd1.wI X e k v) lo hi t i d := h.cg ⟨fun e1 k1 he h1 h2 _ => wI_ne _ _ _ _ _ _ (by omega), fun _ _ _ => rfl, KDk.oj hX (KXq.of (fun e1 k1 q => wI_ne _ _ _ _ _ _ (by omega)))⟩
theorem OM.wL {X : St} {lo hi t i : Nat} {d : List Ins} (h : OM ch X lo hi t i d) (hX : KJq X) {e k : Nat} {v : Int64} (g : ¬ (e = 29 ∧ lo ≤ k ∧ k < hi)) : OM ch (_root_.Jvm.Pilot.CBlameCourtLaw_law_r8381_f30dd1.wL X e k v) lo hi t i d := h.cg ⟨fun _ _ _ _ _ _ => rfl, fun k1 h1 h2 => wL_ne _ _ _ _ _ _ (by omega), KDk.oj hX (KXq.of (fun _ _ _ => rfl))⟩
theorem OM.tn {X Y : St} {lo hi t i : Nat} {d : List Ins} (h : OM ch X lo hi t i d) (hX : KJq X) (g : TNq X Y) : OM ch Y lo hi t i d := h.rows (fun e k q _ => g.1 e k (by omega)) (fun k => g.2.1 29 k (by omega)) hX
theorem OM.mk {X Y : St} {lo hi t i N : Nat} {p : Int32} {d : List Ins} (h : OM ch X lo hi t i d) (hX : KJq X) (g : MKq X Y N p) (hN : hi ≤ N) : OM ch Y lo hi t i d := h.cg ⟨fun e1 k1 he h1 h2 _ => g.1 e1 k1 (by omega) (by omega), fun k1 h1 h2 => g.2.1 29 k1 (by omega), KDk.oj hX (KXq.of (fun e k q => g.1 e k (by omega) (by omega)))⟩
theorem OM.en {X Y : St} {lo hi t i j1 : Nat} {p1 p2 : Int32} {d : List Ins} (h : OM ch X lo hi t i d) (hX : KJq X) (g : ENq X Y j1 p1 p2) : OM ch Y lo hi t i d := h.rows (fun e k q _ => g.1 e k (by omega) (by omega)) (fun k => congrFun (congrFun (congrArg Prod.fst g.2.1) 29) k) hX
/-- the piece of code that an operand adds, and its tree -/
def OMx (ch : Tx) (Y : St) (N N1 t : Nat) (c0 c1 : List Ins) : Prop := ∃ d, c1 = c0 ++ d ∧ OM ch Y N N1 t c0.length d
theorem NMr.cg (h : NMr ch X N c) (h1 : ∀ i, i < N → Y.1 20 i = X.1 20 i) (h2 : ∀ i, i < N → Y.2.1 29 i = X.2.1 29 i) (h3 : ∀ i, i < N → Y.1 21 i = X.1 21 i) : NMr ch Y N c := by
  refine ⟨fun i hi hk => ?_, fun p hp => ?_⟩
  · rw [h1 i hi] at hk
    rw [h2 i hi, h3 i hi]
    exact h.1 i hi hk
  · obtain ⟨i, hi, hk, hl⟩ := h.2 p hp
    exact ⟨i, hi, by rw [h1 i hi]; exact hk, by rw [h2 i hi]; exact hl⟩
theorem NMr.tn (h : NMr ch X N c) (t : TNq X Y) : NMr ch Y N c := h.cg (fun i _ => t.r 20 i (by decide)) (fun i _ => t.2.1 29 i (by omega)) (fun i _ => t.r 21 i (by decide))
theorem NMr.en {p1 p2 : Int32} {j1 : Nat} (h : NMr ch X N c) (g : ENq X Y j1 p1 p2) : NMr ch Y N c := h.cg (fun i _ => g.1 20 i (by omega) (by omega)) (fun i _ => congrFun (congrFun (congrArg Prod.fst g.2.1) 29) i) (fun i _ => g.1 21 i (by omega) (by omega))
theorem NMr.wI (h : NMr ch X N c) {e k : Nat} {v : Int32} (g : ¬ (e = 20 ∨ e = 21)) : NMr ch (_root_.Jvm.Pilot.CBlameCourtLaw_law_r8381_f30dd1.wI X e k v) N c := h.cg (fun i _ => wI_ne _ _ _ _ _ _ (fun z => g (Or.inl z.1.symm))) (fun _ _ => rfl) (fun i _ => wI_ne _ _ _ _ _ _ (fun z => g (Or.inr z.1.symm)))
theorem NMr.wL (h : NMr ch X N c) {e k : Nat} {v : Int64} (g : ¬ (e = 29 ∧ k < N)) : NMr ch (_root_.Jvm.Pilot.CBlameCourtLaw_law_r8381_f30dd1.wL X e k v) N c := h.cg (fun _ _ => rfl) (fun i hi => wL_ne _ _ _ _ _ _ (by omega)) (fun _ _ => rfl)
theorem NMr.mk {p : Int32} (h : NMr ch X N c) (g : MKq X Y N p) (hp : ¬ p.toInt = 3) : NMr ch Y (N + 1) c := by
  refine ⟨fun i hi hk => ?_, fun p hp => ?_⟩
  · by_cases e : i = N
    · rw [e, g.2.2.1] at hk
      exact absurd hk hp
    · rw [g.1 20 i (by omega) (by omega)] at hk
      rw [g.2.1 29 i (by omega), g.1 21 i (by omega) (by omega)]
      exact h.1 i (by omega) hk
  · obtain ⟨i, hi, hk, hl⟩ := h.2 p hp
    exact ⟨i, by omega, by rw [g.1 20 i (by omega) (by omega)]; exact hk, by rw [g.2.1 29 i (by omega)]; exact hl⟩
theorem NMr.cd (h : NMr ch X N c) (g : ∀ p, NPl c1 p ↔ NPl c p) : NMr ch X N c1 := by
  refine ⟨fun i hi hk => ?_, fun p hp => h.2 p ((g p).mp hp)⟩
  obtain ⟨⟨p, hp, hl⟩, hk⟩ := h.1 i hi hk
  exact ⟨⟨p, (g p).mpr hp, hl⟩, hk⟩
theorem NPl.app {c d : List Ins} {p : Int} : NPl (c ++ d) p ↔ NPl c p ∨ NPl d p := by
  refine ⟨?_, ?_⟩
  · rintro ⟨a, ha, h⟩
    rcases List.mem_append.mp ha with ha | ha
    · exact Or.inl ⟨a, ha, h⟩
    · exact Or.inr ⟨a, ha, h⟩
  · rintro (⟨a, ha, h⟩ | ⟨a, ha, h⟩)
    · exact ⟨a, List.mem_append.mpr (Or.inl ha), h⟩
    · exact ⟨a, List.mem_append.mpr (Or.inr ha), h⟩
theorem NPl.one {a : Ins} {p : Int} (h : ¬ a.1 = 4) : ¬ NPl [a] p := by
  rintro ⟨b, hb, h1, _⟩
  rw [List.mem_singleton.mp hb] at h1
  exact h h1
theorem NPl.snoc {c : List Ins} {a : Ins} {p : Int} (h : ¬ a.1 = 4) : NPl (c ++ [a]) p ↔ NPl c p := by
  rw [NPl.app]
  exact ⟨fun g => g.resolve_right (NPl.one h), Or.inl⟩
theorem NPl.mod {c : List Ins} {i : Nat} {f : Ins → Ins} {p : Int} (hf : ∀ a, (f a).1 = a.1 ∧ (f a).2.2.1 = a.2.2.1) : NPl (c.modify i f) p ↔ NPl c p := by
  have e : ∀ b, b ∈ c.modify i f → ∃ a ∈ c, a.1 = b.1 ∧ a.2.2.1 = b.2.2.1 := by
    intro b hb
    obtain ⟨k, hk⟩ := List.getElem?_of_mem hb
    rw [List.getElem?_modify] at hk
    cases hc : c[k]? with
    | none => rw [hc] at hk; exact absurd hk.symm (Option.some_ne_none _)
    | some a =>
      rw [hc] at hk
      have hk := Option.some.inj hk
      refine ⟨a, List.mem_of_getElem? hc, ?_⟩
      rw [← hk]
      split
      · exact ⟨(hf a).1.symm, (hf a).2.symm⟩
      · exact ⟨rfl, rfl⟩
  have e2 : ∀ a, a ∈ c → ∃ b ∈ c.modify i f, a.1 = b.1 ∧ a.2.2.1 = b.2.2.1 := by
    intro a ha
    obtain ⟨k, hk⟩ := List.getElem?_of_mem ha
    have h1 : (c.modify i f)[k]? = some (if i = k then f a else a) := by
      rw [List.getElem?_modify, hk]
      rfl
    refine ⟨_, List.mem_of_getElem? h1, ?_⟩
    split
    · exact ⟨(hf a).1.symm, (hf a).2.symm⟩
    · exact ⟨rfl, rfl⟩
  refine ⟨?_, ?_⟩
  · rintro ⟨b, hb, h4, hp⟩
    obtain ⟨a, ha, h1, h2⟩ := e b hb
    exact ⟨a, ha, h1.trans h4, h2.trans hp⟩
  · rintro ⟨b, hb, h4, hp⟩
    obtain ⟨a, ha, h1, h2⟩ := e2 b hb
    exact ⟨a, ha, h1.symm.trans h4, h2.symm.trans hp⟩
theorem NPl.addx {c : List Ins} {i : Nat} {d p : Int} : NPl (_root_.Jvm.Pilot.CBlameCourtLaw_law_r8381_f30dd1.addx c i d) p ↔ NPl c p := NPl.mod (fun _ => ⟨rfl, rfl⟩)
theorem NPl.setx {c : List Ins} {i : Nat} {v p : Int} : NPl (_root_.Jvm.Pilot.CBlameCourtLaw_law_r8381_f30dd1.setx c i v) p ↔ NPl c p := NPl.mod (fun _ => ⟨rfl, rfl⟩)
theorem x_isBeg (h : RX ch n X q) : pw (f_isBeginning X) (fun r Y => Y = X ∧ (r.toInt = 0 ↔ bgE (ty ch q) = false)) := by
  obtain ⟨_, ⟨_, _, t⟩, _, _⟩ := h
  have hb : bgE (ty ch q) = true ↔ (ty ch q = 33 ∨ ty ch q = 40 ∨ ty ch q = 45 ∨ ty ch q = 91 ∨ ty ch q = 123 ∨ ty ch q = 258 ∨ ty ch q = 259 ∨ ty ch q = 262 ∨ ty ch q = 264 ∨ ty ch q = 267 ∨ ty ch q = 268 ∨ ty ch q = 269 ∨ ty ch q = 270 ∨ ty ch q = 271) := by unfold bgE; exact decide_eq_true_iff
  have yes : bgE (ty ch q) = true → pw (some ((1 : Int32), X)) (fun r Y => Y = X ∧ (r.toInt = 0 ↔ bgE (ty ch q) = false)) := fun g => pw_ret ⟨rfl, fun z => absurd z (by decide), fun z => absurd g (nb.mp z)⟩
  have no : ¬ bgE (ty ch q) = true → pw (some ((0 : Int32), X)) (fun r Y => Y = X ∧ (r.toInt = 0 ↔ bgE (ty ch q) = false)) := fun g => pw_ret ⟨rfl, fun _ => nb.mpr g, fun _ => rfl⟩
  have L : ∀ v : Int64, (lg_cmp (X.2.1 0 47) v).toInt = 0 ↔ (X.2.1 0 47).toInt = v.toInt := fun v => by rw [cmp0, ← Int64.toInt_inj]
  have k1 : (1 : Int64).toInt = 1 := by decide
  have k3 : (3 : Int64).toInt = 3 := by decide
  have k6 : (6 : Int64).toInt = 6 := by decide
  have k7 : (7 : Int64).toInt = 7 := by decide
  have k8 : (8 : Int64).toInt = 8 := by decide
  have k9 : (9 : Int64).toInt = 9 := by decide
  have k10 : (10 : Int64).toInt = 10 := by decide
  have k45 : (45 : Int64).toInt = 45 := by decide
  have k33 : (33 : Int64).toInt = 33 := by decide
  have k91 : (91 : Int64).toInt = 91 := by decide
  have k40 : (40 : Int64).toInt = 40 := by decide
  have k123 : (123 : Int64).toInt = 123 := by decide
  unfold f_isBeginning
  refine pw_let (pw_ite (fun c1 => yes (by rw [show ty ch q = 259 by omega]; decide)) (fun c1 => ?_))
  refine pw_let (pw_ite (fun c2 => yes (by rw [show ty ch q = 258 by omega]; decide)) (fun c2 => ?_))
  refine pw_let (pw_ite (fun c3 => ?_) (fun c3 => ?_))
  · have w : 261 ≤ ty ch q ∧ ty ch q ≤ 275 ∧ (X.2.1 0 47).toInt = ty ch q - 261 := by omega
    refine pw_let (pw_let (pw_ite (fun d => yes (by rw [show ty ch q = 262 by have := (L _).mp d; omega]; decide)) (fun d1 => ?_)))
    refine pw_let (pw_let (pw_ite (fun d => yes (by rw [show ty ch q = 264 by have := (L _).mp d; omega]; decide)) (fun d3 => ?_)))
    refine pw_let (pw_let (pw_ite (fun d => yes (by rw [show ty ch q = 267 by have := (L _).mp d; omega]; decide)) (fun d6 => ?_)))
    refine pw_let (pw_let (pw_ite (fun d => yes (by rw [show ty ch q = 268 by have := (L _).mp d; omega]; decide)) (fun d7 => ?_)))
    refine pw_let (pw_let (pw_ite (fun d => yes (by rw [show ty ch q = 269 by have := (L _).mp d; omega]; decide)) (fun d8 => ?_)))
    refine pw_let (pw_let (pw_ite (fun d => yes (by rw [show ty ch q = 270 by have := (L _).mp d; omega]; decide)) (fun d9 => ?_)))
    refine pw_let (pw_let (pw_ite (fun d => yes (by rw [show ty ch q = 271 by have := (L _).mp d; omega]; decide)) (fun d10 => no (fun g => ?_))))
    rw [L] at d1 d3 d6 d7 d8 d9 d10
    clear yes no L t
    rcases hb.mp g with e | e | e | e | e | e | e | e | e | e | e | e | e | e <;> omega
  · refine pw_let (pw_ite (fun c4 => ?_) (fun c4 => no (fun g => ?_)))
    · have w : (ty ch q = 256 ∧ (X.2.1 0 47).toInt = 1000) ∨ (33 ≤ ty ch q ∧ ty ch q ≤ 125 ∧ (X.2.1 0 47).toInt = ty ch q) := by omega
      refine pw_let (pw_let (pw_ite (fun d => yes (by rw [show ty ch q = 45 by have := (L _).mp d; omega]; decide)) (fun d45 => ?_)))
      refine pw_let (pw_let (pw_ite (fun d => yes (by rw [show ty ch q = 33 by have := (L _).mp d; omega]; decide)) (fun d33 => ?_)))
      refine pw_let (pw_let (pw_ite (fun d => yes (by rw [show ty ch q = 91 by have := (L _).mp d; omega]; decide)) (fun d91 => ?_)))
      refine pw_let (pw_let (pw_ite (fun d => yes (by rw [show ty ch q = 40 by have := (L _).mp d; omega]; decide)) (fun d40 => ?_)))
      refine pw_let (pw_let (pw_ite (fun d => yes (by rw [show ty ch q = 123 by have := (L _).mp d; omega]; decide)) (fun d123 => no (fun g => ?_))))
      rw [L] at d45 d33 d91 d40 d123
      clear yes no L t
      rcases hb.mp g with e | e | e | e | e | e | e | e | e | e | e | e | e | e <;> omega
    · have w : ty ch q = 257 ∨ ty ch q = 260 := by omega
      clear yes no L t
      rcases hb.mp g with e | e | e | e | e | e | e | e | e | e | e | e | e | e <;> omega
/-- where no expression begins there is none -/
theorem sE1_nb {P : PFn} {E : EF} (h : bgE (ty ch q) = false) : sE1 ch P E o sc q c = none := by
  have hb : ¬ (ty ch q = 33 ∨ ty ch q = 40 ∨ ty ch q = 45 ∨ ty ch q = 91 ∨ ty ch q = 123 ∨ ty ch q = 258 ∨ ty ch q = 259 ∨ ty ch q = 262 ∨ ty ch q = 264 ∨ ty ch q = 267 ∨ ty ch q = 268 ∨ ty ch q = 269 ∨ ty ch q = 270 ∨ ty ch q = 271) := fun g => nb.mp h (by unfold bgE; exact decide_eq_true_iff.mpr g)
  unfold sE1 sC sU sB
  rw [if_neg (by omega), if_neg (by omega), if_neg (by omega), if_neg (by omega), if_neg (by omega), if_neg (by omega), if_neg (by omega), if_neg (by omega), if_neg (by omega), if_neg (by omega), if_neg (by omega), if_neg (by omega), if_neg (by omega), if_neg (by omega)]
  rfl
end RMACH
