/-! the reference's reader as it stands, and its first steps -/
def RX (ch : Tx) (n : Nat) (X : St) (q : Nat) : Prop := TXR ch n X ∧ TKR ch X q ∧ q ≤ n ∧ (X.1 0 9).toInt = 0
/-- the names known, the last one first -/
def SCR (X : St) : List Nm → Prop
  | [] => True
  | l :: ls => (X.2.1 30 ls.length = lN (p6 l) ∧ LT l ∧ l.length ≤ 8) ∧ SCR X ls
/-- so many frames; told nothing where there are none -/
def FRj (v : Int32) (j : Nat) : Prop := v.toInt = (j : Int) ∨ (j = 0 ∧ v.toInt < 0)
def XS (ch : Tx) (n : Nat) (X : St) (q : Nat) (o : Int) (sc : List Nm) (j N : Nat) : Prop :=
  RX ch n X q ∧ (X.1 0 21).toInt = o ∧ ((X.1 0 20).toInt = (sc.length : Int) ∧ SCR X sc) ∧ (FRj (X.1 0 22) j ∧ KJq X) ∧ (X.1 0 19).toInt = (N : Int)
/-- what an expression leaves: the text, the frames, nodes and names below -/
def KPs (j N e k : Nat) : Prop := (e = 0 ∧ k = 1) ∨ e = 2 ∨ (35 ≤ e ∧ e ≤ 38 ∧ k < j) ∨ (((20 ≤ e ∧ e ≤ 28) ∨ e = 39) ∧ k < N)
def KP (X0 X : St) (j N s : Nat) : Prop := (∀ e k, KPs j N e k → X.1 e k = X0.1 e k) ∧ (∀ k, k < N → X.2.1 29 k = X0.2.1 29 k) ∧ (∀ k, k < s → X.2.1 30 k = X0.2.1 30 k) ∧ KGq X0 X
/-- only the token and how deep it nests change -/
def TNq (X Y : St) : Prop := (∀ e k, ¬ (e = 0 ∧ (k = 5 ∨ k = 6 ∨ k = 7 ∨ k = 8 ∨ k = 21)) → Y.1 e k = X.1 e k) ∧ (∀ e k, ¬ (e = 0 ∧ k = 47) → Y.2.1 e k = X.2.1 e k) ∧ Y.2.2 = X.2.2
section RPRIM
variable {ch : Tx} {n q : Nat} {X Y Z X0 : St} {o : Int} {sc : List Nm} {j N s : Nat}
theorem TRF.tn (h : TRF X Y) : TNq X Y := ⟨fun e k g => h.1 e k (by omega), h.2.1, h.2.2⟩
theorem TNq.rf : TNq X X := ⟨fun _ _ _ => rfl, fun _ _ _ => rfl, rfl⟩
theorem TNq.tr (h : TNq X Y) (g : TNq Y Z) : TNq X Z := ⟨fun e k q => (g.1 e k q).trans (h.1 e k q), fun e k q => (g.2.1 e k q).trans (h.2.1 e k q), g.2.2.trans h.2.2⟩
theorem KGq.tn (t : TNq X Y) : KGq X Y := KGq.of (fun e k q => t.1 e k (by omega))
theorem KP.rf : KP X X j N s := ⟨fun _ _ _ => rfl, fun _ _ => rfl, fun _ _ => rfl, KGq.rf⟩
theorem KP.tr (h : KP X Y j N s) (g : KP Y Z j N s) : KP X Z j N s := ⟨fun e k q => (g.1 e k q).trans (h.1 e k q), fun k q => (g.2.1 k q).trans (h.2.1 k q), fun k q => (g.2.2.1 k q).trans (h.2.2.1 k q), h.2.2.2.tr g.2.2.2⟩
theorem KP.mono {j1 N1 s1 : Nat} (h : KP X Y j1 N1 s1) (hj : j ≤ j1) (hN : N ≤ N1) (hs : s ≤ s1) : KP X Y j N s := ⟨fun e k q => h.1 e k (by unfold KPs at q ⊢; omega), fun k q => h.2.1 k (by omega), fun k q => h.2.2.1 k (by omega), h.2.2.2⟩
theorem KP.tn (h : KP X Y j N s) (g : TNq Y Z) : KP X Z j N s := ⟨fun e k q => (g.1 e k (by unfold KPs at q; omega)).trans (h.1 e k q), fun k q => (g.2.1 29 k (by omega)).trans (h.2.1 k q), fun k q => (g.2.1 30 k (by omega)).trans (h.2.2.1 k q), h.2.2.2.tr (KGq.of (fun e k q => g.1 e k (by omega)))⟩
theorem KP.wI (h : KP X Y j N s) {e k : Nat} {v : Int32} (g : ¬ KPs j N e k ∧ ¬ (4 ≤ e ∧ e ≤ 9) ∧ ¬ (e = 0 ∧ (k = 13 ∨ k = 15))) : KP X (_root_.Jvm.Pilot.CBlameCourtLaw_law_r8381_f30dd1.wI Y e k v) j N s := ⟨fun e1 k1 q => (wI_ne _ _ _ _ _ _ (fun g1 => g.1 (by rw [← g1.1, ← g1.2]; exact q))).trans (h.1 e1 k1 q), h.2.1, h.2.2.1, h.2.2.2.tr (KGq.of (fun e1 k1 q => wI_ne _ _ _ _ _ _ (by omega)))⟩
theorem KP.wL (h : KP X Y j N s) {e k : Nat} {v : Int64} (g : ¬ (e = 29 ∧ k < N) ∧ ¬ (e = 30 ∧ k < s)) : KP X (_root_.Jvm.Pilot.CBlameCourtLaw_law_r8381_f30dd1.wL Y e k v) j N s := ⟨h.1, fun k1 q => (wL_ne _ _ _ _ _ _ (fun g1 => g.1 ⟨g1.1.symm, by omega⟩)).trans (h.2.1 k1 q), fun k1 q => (wL_ne _ _ _ _ _ _ (fun g1 => g.2 ⟨g1.1.symm, by omega⟩)).trans (h.2.2.1 k1 q), h.2.2.2⟩
theorem SCR.up {m : Nat} (h : ∀ k, k < m → Z.2.1 30 k = Y.2.1 30 k) : ∀ sc : List Nm, sc.length ≤ m → SCR Y sc → SCR Z sc := by
  intro sc
  induction sc with
  | nil => exact fun _ _ => trivial
  | cons l ls ih =>
    intro hl g
    have hl : ls.length + 1 ≤ m := hl
    exact ⟨⟨(h _ (by omega)).trans g.1.1, g.1.2⟩, ih (by omega) g.2⟩
theorem SCR.w {e k : Nat} {v : Int32} (h : SCR X sc) : SCR (_root_.Jvm.Pilot.CBlameCourtLaw_law_r8381_f30dd1.wI X e k v) sc := SCR.up (Y := X) (Z := _root_.Jvm.Pilot.CBlameCourtLaw_law_r8381_f30dd1.wI X e k v) (m := sc.length) (fun _ _ => rfl) sc (Nat.le_refl _) h
theorem RX.wI (h : RX ch n X q) {e k : Nat} {v : Int32} (g : ¬ e = 2 ∧ ¬ (e = 0 ∧ (k = 1 ∨ (5 ≤ k ∧ k ≤ 9)))) : RX ch n (_root_.Jvm.Pilot.CBlameCourtLaw_law_r8381_f30dd1.wI X e k v) q := by
  obtain ⟨⟨a, b, d⟩, ⟨t5, t6, t⟩, f, w⟩ := h
  have z : ∀ i, (i = 1 ∨ (5 ≤ i ∧ i ≤ 9)) → (_root_.Jvm.Pilot.CBlameCourtLaw_law_r8381_f30dd1.wI X e k v).1 0 i = X.1 0 i := fun i hi => wI_ne _ _ _ _ _ _ (fun g1 => g.2 ⟨g1.1.symm, by omega⟩)
  refine ⟨⟨a, by rw [z 1 (by omega)]; exact b, fun i hi => by rw [wI_ne _ _ _ _ _ _ (fun g1 => g.1 g1.1.symm)]; exact d i hi⟩, ⟨by rw [z 5 (by omega)]; exact t5, by rw [z 6 (by omega)]; exact t6, ?_⟩, f, by rw [z 9 (by omega)]; exact w⟩
  rw [z 7 (by omega), z 8 (by omega)]
  exact t
theorem RX.wL (h : RX ch n X q) {e k : Nat} {v : Int64} (g : ¬ (e = 0 ∧ k = 47)) : RX ch n (_root_.Jvm.Pilot.CBlameCourtLaw_law_r8381_f30dd1.wL X e k v) q := by
  obtain ⟨a, ⟨t5, t6, t⟩, f, w⟩ := h
  refine ⟨a, ⟨t5, t6, ?_⟩, f, w⟩
  rw [show (_root_.Jvm.Pilot.CBlameCourtLaw_law_r8381_f30dd1.wL X e k v).2.1 0 47 = X.2.1 0 47 from wL_ne _ _ _ _ _ _ (fun g1 => g ⟨g1.1.symm, g1.2.symm⟩)]
  exact t
theorem XS.rx (h : XS ch n X q o sc j N) : RX ch n X q := h.1
theorem XS.w0 (h : XS ch n X q o sc j N) : (X.1 0 9).toInt = 0 := h.1.2.2.2
theorem FRj.nn {v : Int32} (h : FRj v j) (g : 0 ≤ v.toInt) : v.toInt = (j : Int) := h.elim (fun e => e) (fun e => absurd e.2 (by omega))
theorem XS.fe (h : XS ch n X q o sc j N) (g : 0 < j) : (X.1 0 22).toInt = (j : Int) := h.2.2.2.1.1.elim (fun e => e) (fun e => absurd e.1 (by omega))
theorem XS.qn (h : XS ch n X q o sc j N) : q ≤ n := h.1.2.2.1
theorem XS.tx (h : XS ch n X q o sc j N) : TXT ch n := h.1.1.1
theorem XS.tk (h : XS ch n X q o sc j N) : TKR ch X q := h.1.2.1
/-- rows of frames, nodes; the mode, what is in hand -/
theorem XS.wI (h : XS ch n X q o sc j N) {e k : Nat} {v : Int32} (g : 10 ≤ e ∨ (e = 0 ∧ 23 ≤ k)) : XS ch n (_root_.Jvm.Pilot.CBlameCourtLaw_law_r8381_f30dd1.wI X e k v) q o sc j N := by
  obtain ⟨a, b, d, f, i⟩ := h
  have z : ∀ i, 19 ≤ i → i ≤ 22 → (_root_.Jvm.Pilot.CBlameCourtLaw_law_r8381_f30dd1.wI X e k v).1 0 i = X.1 0 i := fun i h1 h2 => wI_ne _ _ _ _ _ _ (by omega)
  exact ⟨a.wI (by omega), by rw [z 21 (by omega) (by omega)]; exact b, ⟨by rw [z 20 (by omega) (by omega)]; exact d.1, SCR.w d.2⟩, ⟨by rw [z 22 (by omega) (by omega)]; exact f.1, f.2.cg (fun e1 k1 q => wI_ne _ _ _ _ _ _ (by omega))⟩, by rw [z 19 (by omega) (by omega)]; exact i⟩
theorem XS.wL (h : XS ch n X q o sc j N) {e k : Nat} {v : Int64} (g : ¬ (e = 0 ∧ k = 47) ∧ ¬ (e = 30 ∧ k < sc.length)) : XS ch n (_root_.Jvm.Pilot.CBlameCourtLaw_law_r8381_f30dd1.wL X e k v) q o sc j N := by
  obtain ⟨a, b, d, f, i⟩ := h
  exact ⟨a.wL g.1, b, ⟨d.1, SCR.up (m := sc.length) (fun k1 hk => wL_ne _ _ _ _ _ _ (by omega)) sc (Nat.le_refl _) d.2⟩, f, i⟩
theorem XS.w21 (h : XS ch n X q o sc j N) {v : Int32} {o1 : Int} (g : v.toInt = o1) : XS ch n (_root_.Jvm.Pilot.CBlameCourtLaw_law_r8381_f30dd1.wI X 0 21 v) q o1 sc j N := by
  obtain ⟨a, b, d, f, i⟩ := h
  have z : ∀ i, ¬ i = 21 → (_root_.Jvm.Pilot.CBlameCourtLaw_law_r8381_f30dd1.wI X 0 21 v).1 0 i = X.1 0 i := fun i h1 => wI_ne _ _ _ _ _ _ (by omega)
  exact ⟨a.wI (by omega), by rw [wI_at]; exact g, ⟨by rw [z 20 (by omega)]; exact d.1, SCR.w d.2⟩, ⟨by rw [z 22 (by omega)]; exact f.1, f.2.cg (fun e1 k1 q => wI_ne _ _ _ _ _ _ (by omega))⟩, by rw [z 19 (by omega)]; exact i⟩
theorem XS.w22 (h : XS ch n X q o sc j N) {v : Int32} {j1 : Nat} (g : v.toInt = (j1 : Int)) : XS ch n (_root_.Jvm.Pilot.CBlameCourtLaw_law_r8381_f30dd1.wI X 0 22 v) q o sc j1 N := by
  obtain ⟨a, b, d, f, i⟩ := h
  have z : ∀ i, ¬ i = 22 → (_root_.Jvm.Pilot.CBlameCourtLaw_law_r8381_f30dd1.wI X 0 22 v).1 0 i = X.1 0 i := fun i h1 => wI_ne _ _ _ _ _ _ (by omega)
  exact ⟨a.wI (by omega), by rw [z 21 (by omega)]; exact b, ⟨by rw [z 20 (by omega)]; exact d.1, SCR.w d.2⟩, ⟨by rw [wI_at]; exact Or.inl g, f.2.cg (fun e1 k1 q => wI_ne _ _ _ _ _ _ (by omega))⟩, by rw [z 19 (by omega)]; exact i⟩
theorem XS.w19 (h : XS ch n X q o sc j N) {v : Int32} {N1 : Nat} (g : v.toInt = (N1 : Int)) : XS ch n (_root_.Jvm.Pilot.CBlameCourtLaw_law_r8381_f30dd1.wI X 0 19 v) q o sc j N1 := by
  obtain ⟨a, b, d, f, i⟩ := h
  have z : ∀ i, ¬ i = 19 → (_root_.Jvm.Pilot.CBlameCourtLaw_law_r8381_f30dd1.wI X 0 19 v).1 0 i = X.1 0 i := fun i h1 => wI_ne _ _ _ _ _ _ (by omega)
  exact ⟨a.wI (by omega), by rw [z 21 (by omega)]; exact b, ⟨by rw [z 20 (by omega)]; exact d.1, SCR.w d.2⟩, ⟨by rw [z 22 (by omega)]; exact f.1, f.2.cg (fun e1 k1 q => wI_ne _ _ _ _ _ _ (by omega))⟩, by rw [wI_at]; exact g⟩
theorem XS.w20 (h : XS ch n X q o sc j N) {v : Int32} {sc1 : List Nm} (g : v.toInt = (sc1.length : Int)) (hs : SCR X sc1) : XS ch n (_root_.Jvm.Pilot.CBlameCourtLaw_law_r8381_f30dd1.wI X 0 20 v) q o sc1 j N := by
  obtain ⟨a, b, d, f, i⟩ := h
  have z : ∀ i, ¬ i = 20 → (_root_.Jvm.Pilot.CBlameCourtLaw_law_r8381_f30dd1.wI X 0 20 v).1 0 i = X.1 0 i := fun i h1 => wI_ne _ _ _ _ _ _ (by omega)
  exact ⟨a.wI (by omega), by rw [z 21 (by omega)]; exact b, ⟨by rw [wI_at]; exact g, SCR.w hs⟩, ⟨by rw [z 22 (by omega)]; exact f.1, f.2.cg (fun e1 k1 q => wI_ne _ _ _ _ _ _ (by omega))⟩, by rw [z 19 (by omega)]; exact i⟩
/-- another token -/
theorem XS.tk2 (h : XS ch n X q o sc j N) (g : TRF X Y) {q1 : Nat} (r : RX ch n Y q1) : XS ch n Y q1 o sc j N := by
  obtain ⟨a, b, d, f, i⟩ := h
  exact ⟨r, by rw [g.1 0 21 (by omega)]; exact b, ⟨by rw [g.1 0 20 (by omega)]; exact d.1, SCR.up (m := sc.length) (fun k hk => g.2.1 30 k (by omega)) sc (Nat.le_refl _) d.2⟩, ⟨by rw [g.1 0 22 (by omega)]; exact f.1, f.2.cg (fun e1 k1 q => g.1 e1 k1 (by omega))⟩, by rw [g.1 0 19 (by omega)]; exact i⟩
theorem q_isWell (X : St) : pw (f_isWell X) (fun r Y => Y = X ∧ (r.toInt = 0 ↔ wrX X)) := by
  unfold f_isWell
  refine pw_let ?_
  refine pw_ite (fun c => pw_ret ⟨rfl, ?_⟩) (fun c => pw_ret ⟨rfl, ?_⟩)
  · exact ⟨fun h => absurd h (by decide), fun h => absurd c h⟩
  · exact ⟨fun _ => c, fun _ => rfl⟩
theorem q_well (h : (X.1 0 9).toInt = 0) : pw (f_isWell X) (fun r Y => Y = X ∧ ¬ r.toInt = 0) := pw_mono (q_isWell X) (fun _ _ g => ⟨g.1, fun z => g.2.mp z h⟩)
theorem q_fails {p1 p2 : Int32} (X : St) (h : ¬ p1.toInt = 0) : pw (f_fails p1 p2 X) (fun _ Y => wrX Y) := by
  unfold f_fails
  refine pw_let ?_
  refine pw_ite (fun c => ?_) (fun c => pw_ret c)
  refine pw_eq (fun X2 e2 => ?_)
  refine pw_eq (fun X3 e3 => ?_)
  refine pw_ret ?_
  rw [e3]
  unfold wrX
  rw [wI_ne _ _ _ _ _ _ (by decide), e2, wI_at]
  exact h
theorem q_stray (X : St) : pw (f_stray X) (fun _ Y => wrX Y) := by
  unfold f_stray
  refine pw_let ?_
  exact pw_bd (q_fails X (by decide)) (fun _ Y h => pw_ret h)
theorem cmpI (a : Int64) (v : Int32) : (lg_cmp a v.toInt64).toInt = 0 ↔ a.toInt = v.toInt := by
  rw [cmp0, ← Int64.toInt_inj, Int32.toInt_toInt64]
theorem q_isSign (h : RX ch n X q) {v : Int32} (hv : 33 ≤ v.toInt ∧ v.toInt ≤ 125) : pw (f_isSign v X) (fun r Y => Y = X ∧ (r.toInt = 0 ↔ ¬ ty ch q = v.toInt)) := by
  obtain ⟨_, ⟨_, _, t⟩, _, w⟩ := h
  unfold f_isSign
  refine pw_bd (q_well w) ?_
  rintro x1 X2 ⟨rfl, h1⟩
  refine pw_neg h1 ?_
  refine pw_let ?_
  have z0 : (0 : Int32).toInt = 0 := rfl
  have z1 : (1 : Int32).toInt = 1 := by decide
  refine pw_ite (fun c => ?_) (fun c => pw_ret ⟨rfl, fun _ => by omega, fun _ => rfl⟩)
  refine pw_let ?_
  refine pw_let ?_
  refine pw_let ?_
  refine pw_ite (fun c1 => pw_ret ⟨rfl, ?_⟩) (fun c1 => pw_ret ⟨rfl, ?_⟩)
  · have := (cmpI _ _).mp c1
    omega
  · have : ¬ (X2.2.1 0 47).toInt = v.toInt := fun g => c1 ((cmpI _ _).mpr g)
    omega
theorem q_isWord (h : RX ch n X q) {v : Int32} (hv : 0 ≤ v.toInt ∧ v.toInt ≤ 14) : pw (f_isWord v X) (fun r Y => Y = X ∧ (r.toInt = 0 ↔ ¬ ty ch q = 261 + v.toInt)) := by
  obtain ⟨_, ⟨_, _, t⟩, _, w⟩ := h
  unfold f_isWord
  refine pw_bd (q_well w) ?_
  rintro x1 X2 ⟨rfl, h1⟩
  refine pw_neg h1 ?_
  refine pw_let ?_
  have z0 : (0 : Int32).toInt = 0 := rfl
  have z1 : (1 : Int32).toInt = 1 := by decide
  refine pw_ite (fun c => ?_) (fun c => pw_ret ⟨rfl, fun _ => by omega, fun _ => rfl⟩)
  refine pw_let ?_
  refine pw_let ?_
  refine pw_let ?_
  refine pw_ite (fun c1 => pw_ret ⟨rfl, ?_⟩) (fun c1 => pw_ret ⟨rfl, ?_⟩)
  · have := (cmpI _ _).mp c1
    omega
  · have : ¬ (X2.2.1 0 47).toInt = v.toInt := fun g => c1 ((cmpI _ _).mpr g)
    omega
theorem q_next (h : RX ch n X q) : pw (f_next X) (fun _ Y => RX ch n Y (nx ch q) ∧ TRF X Y) := by
  obtain ⟨a, ⟨t5, _, _⟩, f, w⟩ := h
  have hn := nx_le a.1 f
  refine pw_mono (r_next a t5 hn) ?_
  rintro _ Y ⟨g, k⟩
  exact ⟨⟨a.fr g, k, hn, by rw [g.1 0 9 (by omega)]; exact w⟩, g⟩
/-- one more token -/
theorem x_next (h : XS ch n X q o sc j N) : pw (f_next X) (fun _ Y => XS ch n Y (nx ch q) o sc j N ∧ TNq X Y) := pw_mono (q_next h.1) (fun _ _ g => ⟨h.tk2 g.2 g.1, g.2.tn⟩)
theorem x_takes (h : XS ch n X q o sc j N) {v : Int32} (hv : 33 ≤ v.toInt ∧ v.toInt ≤ 125) : pw (f_takes v X) (fun _ Y => (ty ch q = v.toInt ∧ XS ch n Y (nx ch q) o sc j N ∧ TNq X Y) ∨ (¬ ty ch q = v.toInt ∧ wrX Y)) := by
  unfold f_takes
  refine pw_bd (q_isSign h.1 hv) ?_
  rintro x1 X2 ⟨rfl, h1⟩
  refine pw_ite (fun c => ?_) (fun c => ?_)
  · exact pw_bd (q_stray _) (fun _ Y d => pw_ret (Or.inr ⟨h1.mp c, d⟩))
  · exact pw_bd (x_next h) (fun _ Y g => pw_ret (Or.inl ⟨Classical.byContradiction (fun z => c (h1.mpr z)), g⟩))
theorem x_word (h : XS ch n X q o sc j N) {v : Int32} (hv : 0 ≤ v.toInt ∧ v.toInt ≤ 14) : pw (f_word v X) (fun _ Y => (ty ch q = 261 + v.toInt ∧ XS ch n Y (nx ch q) o sc j N ∧ TNq X Y) ∨ (¬ ty ch q = 261 + v.toInt ∧ wrX Y)) := by
  unfold f_word
  refine pw_bd (q_isWord h.1 hv) ?_
  rintro x1 X2 ⟨rfl, h1⟩
  refine pw_ite (fun c => ?_) (fun c => ?_)
  · exact pw_bd (q_stray _) (fun _ Y d => pw_ret (Or.inr ⟨h1.mp c, d⟩))
  · exact pw_bd (x_next h) (fun _ Y g => pw_ret (Or.inl ⟨Classical.byContradiction (fun z => c (h1.mpr z)), g⟩))
theorem x_closes (h : XS ch n X q o sc j N) (ho : 0 ≤ o ∧ o ≤ 100) {v : Int32} (hv : 33 ≤ v.toInt ∧ v.toInt ≤ 125) : pw (f_closes v X) (fun _ Y => (ty ch q = v.toInt ∧ XS ch n Y (nx ch q) (o - 1) sc j N ∧ TNq X Y) ∨ (¬ ty ch q = v.toInt ∧ wrX Y)) := by
  unfold f_closes
  refine pw_bd (x_takes h hv) ?_
  rintro _ X1 (⟨ht, g, t⟩ | ⟨ht, hd⟩)
  · refine pw_let ?_
    refine pw_eq (fun x3 e3 => ?_)
    refine pw_eq (fun X4 e4 => ?_)
    have h21 := g.2.1
    have l1 : (1 : Int32).toInt = 1 := by decide
    have v3 : x3.toInt = o - 1 := by rw [e3, ti_sub (by rw [h21, l1]; omega) (by rw [h21, l1]; omega), h21, l1]
    refine pw_ret (Or.inl ⟨ht, by rw [e4]; exact g.w21 v3, ?_⟩)
    refine t.tr ?_
    rw [e4]
    exact ⟨fun e k z => wI_ne _ _ _ _ _ _ (by omega), fun _ _ _ => rfl, rfl⟩
  · have h2 : pw (letV (X1.1 0 21) fun x2 => letV (x2 - (1 : Int32)) fun x3 => letV (wI X1 0 21 x3) fun X4 => some ((0 : Int32), X4)) (fun _ Y => wrX Y) := by
      refine pw_eq (fun x2 _ => ?_)
      refine pw_eq (fun x3 _ => ?_)
      refine pw_eq (fun X4 eX4 => ?_)
      have dX4 : wrX X4 := by rw [eX4]; exact wrX_w hd (fun g_ => absurd g_.2 (by decide))
      exact pw_ret dX4
    exact pw_mono h2 (fun _ _ z => Or.inr ⟨ht, z⟩)
theorem x_nests (h : XS ch n X q o sc j N) (ho : 0 ≤ o ∧ o ≤ 40) : pw (f_nests X) (fun _ Y => (o < 40 ∧ XS ch n Y q (o + 1) sc j N ∧ TNq X Y) ∨ (¬ o < 40 ∧ wrX Y)) := by
  unfold f_nests
  have h21 := h.2.1
  have l1 : (1 : Int32).toInt = 1 := by decide
  have l40 : (40 : Int32).toInt = 40 := by decide
  refine pw_let ?_
  refine pw_ite (fun c => ?_) (fun c => ?_)
  · refine pw_let ?_
    refine pw_bd (q_fails X (by decide)) (fun _ X6 d => ?_)
    exact pw_mono (uw_nests_18 d) (fun _ _ z => Or.inr ⟨by omega, z⟩)
  · unfold f_nests_18
    refine pw_let ?_
    refine pw_eq (fun x3 e3 => ?_)
    refine pw_eq (fun X4 e4 => ?_)
    have v3 : x3.toInt = o + 1 := by rw [e3, ti_add (by rw [h21, l1]; omega) (by rw [h21, l1]; omega), h21, l1]
    refine pw_ret (Or.inl ⟨by omega, by rw [e4]; exact h.w21 v3, ?_⟩)
    rw [e4]
    exact ⟨fun e k z => wI_ne _ _ _ _ _ _ (by omega), fun _ _ _ => rfl, rfl⟩
theorem x_opens (h : XS ch n X q o sc j N) (ho : 0 ≤ o ∧ o ≤ 40) {v : Int32} (hv : 33 ≤ v.toInt ∧ v.toInt ≤ 125) : pw (f_opens v X) (fun _ Y => ((ty ch q = v.toInt ∧ o < 40) ∧ XS ch n Y (nx ch q) (o + 1) sc j N ∧ TNq X Y) ∨ (¬ (ty ch q = v.toInt ∧ o < 40) ∧ wrX Y)) := by
  unfold f_opens
  refine pw_bd (q_isSign h.1 hv) ?_
  rintro x1 X2 ⟨rfl, h1⟩
  refine pw_ite (fun c => ?_) (fun c => ?_)
  · exact pw_bd (q_stray _) (fun _ Y d => pw_ret (Or.inr ⟨fun z => h1.mp c z.1, d⟩))
  · have ht : ty ch q = v.toInt := Classical.byContradiction (fun z => c (h1.mpr z))
    refine pw_bd (x_nests h ho) ?_
    rintro _ X3 (⟨h40, g, t⟩ | ⟨h40, hd⟩)
    · refine pw_bd (q_well g.w0) ?_
      rintro x4 X5 ⟨rfl, h4⟩
      refine pw_neg h4 ?_
      refine pw_bd (x_next g) ?_
      rintro _ X6 ⟨g6, t6⟩
      exact pw_ret (Or.inl ⟨⟨ht, h40⟩, g6, t.tr t6⟩)
    · refine pw_bd (q_isWell X3) ?_
      rintro x4 X5 ⟨rfl, h4⟩
      refine pw_pos (h4.mpr hd) ?_
      exact pw_ret (Or.inr ⟨fun z => h40 z.2, hd⟩)
/-- a new node -/
def MKq (X Y : St) (N : Nat) (p : Int32) : Prop := (∀ e k, ¬ (e = 0 ∧ k = 19) → ¬ (((20 ≤ e ∧ e ≤ 28) ∨ e = 39) ∧ k = N) → Y.1 e k = X.1 e k) ∧ (∀ e k, ¬ (e = 29 ∧ k = N) → Y.2.1 e k = X.2.1 e k) ∧ Y.1 20 N = p ∧ (Y.1 27 N).toInt = 0 ∧ (Y.1 39 N).toInt = 0 ∧ N < 3100
theorem x_make (h : XS ch n X q o sc j N) (p1 p2 : Int32) : pw (f_make p1 p2 X) (fun r Y => (r.toInt = (N : Int) ∧ ix r = N) ∧ XS ch n Y q o sc j (N + 1) ∧ MKq X Y N p1) := by
  have h19 := h.2.2.2.2
  have hN : ix (X.1 0 19) = N := ixn h19
  have l1 : (1 : Int32).toInt = 1 := by decide
  unfold f_make
  refine pw_let ?_
  refine pw_let ?_
  refine pw_eq (fun x3 e3 => ?_)
  refine pw_eq (fun X4 e4 => ?_)
  rw [hN]
  refine pw_ck (fun hc => ?_)
  have hb : N < 3100 := by have := hc.2; omega
  have v3 : x3.toInt = ((N + 1 : Nat) : Int) := by
    rw [e3, ti_add (by rw [h19, l1]; omega) (by rw [h19, l1]; omega), h19, l1]
    omega
  have g4 : XS ch n X4 q o sc j (N + 1) := by rw [e4]; exact h.w19 v3
  refine pw_eq (fun X5 e5 => ?_)
  refine pw_ck (fun _ => ?_)
  refine pw_eq (fun X6 e6 => ?_)
  refine pw_ck (fun _ => ?_)
  refine pw_eq (fun X7 e7 => ?_)
  refine pw_ck (fun _ => ?_)
  refine pw_eq (fun X8 e8 => ?_)
  refine pw_ck (fun _ => ?_)
  refine pw_eq (fun X9 e9 => ?_)
  refine pw_ck (fun _ => ?_)
  refine pw_eq (fun X10 e10 => ?_)
  refine pw_ck (fun _ => ?_)
  refine pw_eq (fun X11 e11 => ?_)
  refine pw_ck (fun _ => ?_)
  refine pw_eq (fun X12 e12 => ?_)
  refine pw_ck (fun _ => ?_)
  refine pw_eq (fun X13 e13 => ?_)
  refine pw_ck (fun _ => ?_)
  refine pw_eq (fun X14 e14 => ?_)
  refine pw_ck (fun _ => ?_)
  refine pw_eq (fun X15 e15 => ?_)
  have g10 : XS ch n X10 q o sc j (N + 1) := by rw [e10, e9, e8, e7, e6, e5]; exact (((((g4.wI (by omega)).wI (by omega)).wI (by omega)).wI (by omega)).wI (by omega)).wI (by omega)
  have g13 : XS ch n X13 q o sc j (N + 1) := by rw [e13, e12, e11]; exact ((g10.wI (by omega)).wI (by omega)).wI (by omega)
  have g15 : XS ch n X15 q o sc j (N + 1) := by rw [e15, e14]; exact (g13.wL (by omega)).wI (by omega)
  have s : ∀ e k, ¬ (e = 0 ∧ k = 19) → ¬ (((20 ≤ e ∧ e ≤ 28) ∨ e = 39) ∧ k = N) → X15.1 e k = X.1 e k := by
    intro e k a b
    rw [e15, wI_ne _ _ _ _ _ _ (by omega), e14]
    show X13.1 e k = _
    rw [e13, wI_ne _ _ _ _ _ _ (by omega), e12, wI_ne _ _ _ _ _ _ (by omega), e11, wI_ne _ _ _ _ _ _ (by omega), e10, wI_ne _ _ _ _ _ _ (by omega), e9, wI_ne _ _ _ _ _ _ (by omega), e8, wI_ne _ _ _ _ _ _ (by omega), e7, wI_ne _ _ _ _ _ _ (by omega), e6, wI_ne _ _ _ _ _ _ (by omega), e5, wI_ne _ _ _ _ _ _ (by omega), e4, wI_ne _ _ _ _ _ _ (by omega)]
  have sl : ∀ e k, ¬ (e = 29 ∧ k = N) → X15.2.1 e k = X.2.1 e k := by
    intro e k a
    rw [e15]
    show X14.2.1 e k = _
    rw [e14, wL_ne _ _ _ _ _ _ a, e13, e12, e11, e10, e9, e8, e7, e6, e5, e4]
    rfl
  have k20 : X15.1 20 N = p1 := by
    rw [e15, wI_ne _ _ _ _ _ _ (by omega), e14]
    show X13.1 20 N = _
    rw [e13, wI_ne _ _ _ _ _ _ (by omega), e12, wI_ne _ _ _ _ _ _ (by omega), e11, wI_ne _ _ _ _ _ _ (by omega), e10, wI_ne _ _ _ _ _ _ (by omega), e9, wI_ne _ _ _ _ _ _ (by omega), e8, wI_ne _ _ _ _ _ _ (by omega), e7, wI_ne _ _ _ _ _ _ (by omega), e6, wI_ne _ _ _ _ _ _ (by omega), e5, wI_at]
  have k27 : (X15.1 27 N).toInt = 0 := by
    rw [e15, wI_ne _ _ _ _ _ _ (by omega), e14]
    show (X13.1 27 N).toInt = _
    rw [e13, wI_ne _ _ _ _ _ _ (by omega), e12, wI_at]
    rfl
  have k39 : (X15.1 39 N).toInt = 0 := by
    rw [e15, wI_at]
    rfl
  exact pw_ret ⟨⟨h19, hN⟩, g15, s, sl, k20, k27, k39, hb⟩
/-- a new frame -/
def ENq (X Y : St) (j : Nat) (p1 p2 : Int32) : Prop := (∀ e k, ¬ (e = 0 ∧ k = 22) → ¬ ((35 ≤ e ∧ e ≤ 38) ∧ k = j) → Y.1 e k = X.1 e k) ∧ Y.2 = X.2 ∧ Y.1 35 j = p1 ∧ Y.1 36 j = p2 ∧ (Y.1 37 j).toInt = -1 ∧ j < 400
theorem x_enter (h : XS ch n X q o sc j N) (p1 p2 : Int32) : pw (f_enter p1 p2 X) (fun _ Y => XS ch n Y q o sc (j + 1) N ∧ ENq X Y j p1 p2) := by
  have l1 : (1 : Int32).toInt = 1 := by decide
  unfold f_enter
  refine pw_let (pw_ck (fun hc => ?_))
  have h22 := h.2.2.2.1.1.nn hc.1
  have hj : ix (X.1 0 22) = j := ixn h22
  rw [hj]
  have hb : j < 400 := by have := hc.2; omega
  refine pw_eq (fun X2 e2 => ?_)
  have g2 : XS ch n X2 q o sc j N := by rw [e2]; exact h.wI (by omega)
  have k2 : (X2.1 0 22).toInt = (j : Int) := by rw [e2, wI_ne _ _ _ _ _ _ (by omega)]; exact h22
  have j2 : ix (X2.1 0 22) = j := ixn k2
  refine pw_let ?_
  rw [j2]
  refine pw_ck (fun _ => ?_)
  refine pw_eq (fun X4 e4 => ?_)
  have g4 : XS ch n X4 q o sc j N := by rw [e4]; exact g2.wI (by omega)
  have k4 : (X4.1 0 22).toInt = (j : Int) := by rw [e4, wI_ne _ _ _ _ _ _ (by omega)]; exact k2
  have j4 : ix (X4.1 0 22) = j := ixn k4
  refine pw_let ?_
  rw [j4]
  refine pw_ck (fun _ => ?_)
  refine pw_eq (fun X6 e6 => ?_)
  have g6 : XS ch n X6 q o sc j N := by rw [e6]; exact g4.wI (by omega)
  have k6 : (X6.1 0 22).toInt = (j : Int) := by rw [e6, wI_ne _ _ _ _ _ _ (by omega)]; exact k4
  have j6 : ix (X6.1 0 22) = j := ixn k6
  refine pw_let ?_
  refine pw_let ?_
  rw [j6]
  refine pw_ck (fun _ => ?_)
  refine pw_eq (fun X9 e9 => ?_)
  have g9 : XS ch n X9 q o sc j N := by rw [e9]; exact g6.wI (by omega)
  have h9 : (X9.1 0 22).toInt = (j : Int) := by rw [e9, wI_ne _ _ _ _ _ _ (by omega)]; exact k6
  refine pw_let ?_
  refine pw_eq (fun x11 e11 => ?_)
  refine pw_eq (fun X12 e12 => ?_)
  have v11 : x11.toInt = ((j + 1 : Nat) : Int) := by
    rw [e11, ti_add (by rw [h9, l1]; omega) (by rw [h9, l1]; omega), h9, l1]
    omega
  have g12 : XS ch n X12 q o sc (j + 1) N := by rw [e12]; exact g9.w22 v11
  refine pw_ret ⟨g12, ?_, ?_, ?_, ?_, ?_, hb⟩
  · intro e k a b
    rw [e12, wI_ne _ _ _ _ _ _ (by omega), e9, wI_ne _ _ _ _ _ _ (by omega), e6, wI_ne _ _ _ _ _ _ (by omega), e4, wI_ne _ _ _ _ _ _ (by omega), e2, wI_ne _ _ _ _ _ _ (by omega)]
  · rw [e12, e9, e6, e4, e2]
    rfl
  · rw [e12, wI_ne _ _ _ _ _ _ (by omega), e9, wI_ne _ _ _ _ _ _ (by omega), e6, wI_ne _ _ _ _ _ _ (by omega), e4, wI_ne _ _ _ _ _ _ (by omega), e2, wI_at]
  · rw [e12, wI_ne _ _ _ _ _ _ (by omega), e9, wI_ne _ _ _ _ _ _ (by omega), e6, wI_ne _ _ _ _ _ _ (by omega), e4, wI_at]
  · rw [e12, wI_ne _ _ _ _ _ _ (by omega), e9, wI_ne _ _ _ _ _ _ (by omega), e6, wI_at]
    decide
end RPRIM
