/-! the parts: their kinds, their bodies and the code of these -/
/-- a part's params have these kinds -/
def KPn (X : St) (k : Nat) (pp : List (Nm × List Int)) : Prop := pp.length ≤ 4 ∧ ∀ i : Nat, i < pp.length → ∃ z : Nat, (X.1 16 (4 * k + i)).toInt = (z : Int) ∧ KD X z (pp.reverse.getD i ([], [])).2
/-- what it gives -/
def KOw (X : St) (k : Nat) (kd : List Int) : Prop := ∃ z : Nat, (X.1 17 k).toInt = (z : Int) ∧ KD X z kd
/-- its body, and where its code stands -/
def BOd (ch : Tx) (X : St) (N k : Nat) (c : List Ins) (i e : Nat) : Prop := ∃ (lo hi t : Nat) (d l1 l2 : List Ins), (X.1 18 k).toInt = (t : Int) ∧ OM ch X lo hi t i d ∧ hi ≤ N ∧ l1.length = i ∧ c = l1 ++ (d ++ (35, (k : Int), plh d, []) :: (17, 0, plh d, []) :: l2) ∧ i + d.length + 2 = e
/-- where the code of part k ends -/
def pend (ps : List Pt) (c : List Ins) (k : Nat) : Nat := match ps[k + 1]? with | some p => p.2.2.2.2.2 | none => c.length
/-- where it stands, where its name stands, how many letters that has -/
def MDa (X : St) (k : Nat) (w : Nat × Nat × Nat) : Prop := (X.1 14 k).toInt = (w.1 : Int) ∧ (X.1 12 k).toInt = (w.2.1 : Int) ∧ (X.1 13 k).toInt = (w.2.2 : Int)
def PBq (ch : Tx) (X : St) (ps : List Pt) (c : List Ins) (N : Nat) : Prop := (ps = [] → c = []) ∧ ∀ k p, ps[k]? = some p → KPn X k p.2.2.2.1 ∧ KOw X k p.2.2.2.2.1 ∧ BOd ch X N k c p.2.2.2.2.2 (pend ps c k) ∧ MDa X k (p.1, p.2.1, p.2.2.1.length) ∧ (k = 0 → p.2.2.2.2.2 = 0)
/-- parts below k0 and nodes below N stay -/
def SPb (X Y : St) (k0 N : Nat) : Prop := (∀ k, k < k0 → Y.1 17 k = X.1 17 k ∧ Y.1 18 k = X.1 18 k ∧ Y.1 12 k = X.1 12 k ∧ Y.1 13 k = X.1 13 k ∧ Y.1 14 k = X.1 14 k) ∧ (∀ k, k < 4 * k0 → Y.1 16 k = X.1 16 k) ∧ (∀ e k, 20 ≤ e ∧ e ≤ 28 → k < N → Y.1 e k = X.1 e k) ∧ (∀ k, k < N → Y.2.1 29 k = X.2.1 29 k) ∧ KGq X Y
section PARTB
variable {ch : Tx} {X Y Z : St} {N N1 k0 s : Nat} {c l : List Ins} {ps : List Pt}
theorem SPb.rf : SPb X X k0 N := ⟨fun _ _ => ⟨rfl, rfl, rfl, rfl, rfl⟩, fun _ _ => rfl, fun _ _ _ _ => rfl, fun _ _ => rfl, KGq.rf⟩
theorem SPb.tr (h : SPb X Y k0 N) (g : SPb Y Z k0 N) : SPb X Z k0 N := ⟨fun k hk => ⟨(g.1 k hk).1.trans (h.1 k hk).1, (g.1 k hk).2.1.trans (h.1 k hk).2.1, (g.1 k hk).2.2.1.trans (h.1 k hk).2.2.1, (g.1 k hk).2.2.2.1.trans (h.1 k hk).2.2.2.1, (g.1 k hk).2.2.2.2.trans (h.1 k hk).2.2.2.2⟩, fun k hk => (g.2.1 k hk).trans (h.2.1 k hk), fun e k he hk => (g.2.2.1 e k he hk).trans (h.2.2.1 e k he hk), fun k hk => (g.2.2.2.1 k hk).trans (h.2.2.2.1 k hk), h.2.2.2.2.tr g.2.2.2.2⟩
theorem SPb.of (g : ∀ e k, (e = 0 ∧ (k = 13 ∨ k = 15)) ∨ (4 ≤ e ∧ e ≤ 9) ∨ (((12 ≤ e ∧ e ≤ 14) ∨ e = 17 ∨ e = 18) ∧ k < k0) ∨ (e = 16 ∧ k < 4 * k0) ∨ (20 ≤ e ∧ e ≤ 28 ∧ k < N) → Y.1 e k = X.1 e k) (g2 : ∀ k, k < N → Y.2.1 29 k = X.2.1 29 k) : SPb X Y k0 N := ⟨fun k hk => ⟨g 17 k (by omega), g 18 k (by omega), g 12 k (by omega), g 13 k (by omega), g 14 k (by omega)⟩, fun k hk => g 16 k (by omega), fun e k he hk => g e k (by omega), g2, KGq.of (fun e k q => g e k (by omega))⟩
theorem SPb.tn (g : TNq X Y) : SPb X Y k0 N := SPb.of (fun e k q => g.1 e k (by omega)) (fun k _ => g.2.1 29 k (by omega))
theorem SPb.wI {e k : Nat} {v : Int32} (g : ¬ ((e = 0 ∧ (k = 13 ∨ k = 15)) ∨ (4 ≤ e ∧ e ≤ 9) ∨ (((12 ≤ e ∧ e ≤ 14) ∨ e = 17 ∨ e = 18) ∧ k < k0) ∨ (e = 16 ∧ k < 4 * k0) ∨ (20 ≤ e ∧ e ≤ 28 ∧ k < N))) : SPb X (_root_.Jvm.Pilot.CBlameCourtLaw_law_r8381_f30dd1.wI X e k v) k0 N := SPb.of (fun e1 k1 q => wI_ne _ _ _ _ _ _ (by omega)) (fun _ _ => rfl)
theorem SPb.wL {e k : Nat} {v : Int64} (g : ¬ e = 29) : SPb X (_root_.Jvm.Pilot.CBlameCourtLaw_law_r8381_f30dd1.wL X e k v) k0 N := SPb.of (fun _ _ _ => rfl) (fun k1 _ => wL_ne _ _ _ _ _ _ (by omega))
theorem SPb.fk (g : fq Lw16 X Y) (g4 : KGq X Y) : SPb X Y k0 N := ⟨fun k _ => ⟨g.1 17 k (fq16 (by omega)), g.1 18 k (fq16 (by omega)), g.1 12 k (fq16 (by omega)), g.1 13 k (fq16 (by omega)), g.1 14 k (fq16 (by omega))⟩, fun k _ => g.1 16 k (fq16 (by omega)), fun e k he _ => g.1 e k (fq16 (by omega)), fun k _ => g.2.1 29 k (fq16 (by omega)), g4⟩
theorem SPb.kp (g : KP X Y 0 N s) (g1 : ∀ e k, 12 ≤ e ∧ e ≤ 18 → Y.1 e k = X.1 e k) : SPb X Y k0 N := ⟨fun k _ => ⟨g1 17 k (by omega), g1 18 k (by omega), g1 12 k (by omega), g1 13 k (by omega), g1 14 k (by omega)⟩, fun k _ => g1 16 k (by omega), fun e k he hk => g.1 e k (by unfold KPs; omega), g.2.1, g.2.2.2⟩
theorem KPn.sp {k : Nat} {pp : List (Nm × List Int)} (h : KPn X k pp) (hX : KJq X) (hk : k < k0) (g : SPb X Y k0 N) : KPn Y k pp := ⟨h.1, fun i hi => by
  obtain ⟨z, h1, h2⟩ := h.2 i hi
  have := h.1
  exact ⟨z, by rw [g.2.1 _ (by omega)]; exact h1, KDk.oj hX g.2.2.2.2.1 _ _ h2⟩⟩
theorem KOw.sp {k : Nat} {kd : List Int} (h : KOw X k kd) (hX : KJq X) (hk : k < k0) (g : SPb X Y k0 N) : KOw Y k kd := by
  obtain ⟨z, h1, h2⟩ := h
  exact ⟨z, by rw [(g.1 k hk).1]; exact h1, KDk.oj hX g.2.2.2.2.1 _ _ h2⟩
theorem BOd.sp {k i e : Nat} (h : BOd ch X N k c i e) (hX : KJq X) (hk : k < k0) (g : SPb X Y k0 N) : BOd ch Y N k c i e := by
  obtain ⟨lo, hi, t, d, l1, l2, h1, h2, h3, h4, h5⟩ := h
  exact ⟨lo, hi, t, d, l1, l2, by rw [(g.1 k hk).2.1]; exact h1, h2.cg ⟨fun e k he _ hk2 _ => g.2.2.1 e k he (by omega), fun k _ hk2 => g.2.2.2.1 k (by omega), KDk.oj hX g.2.2.2.2.1⟩, h3, h4, h5⟩
theorem MDa.sp {k : Nat} {w : Nat × Nat × Nat} (h : MDa X k w) (hk : k < k0) (g : SPb X Y k0 N) : MDa Y k w := by
  obtain ⟨_, _, a, b, c⟩ := g.1 k hk
  unfold MDa
  rw [a, b, c]
  exact h
theorem PBq.sp (h : PBq ch X ps c N) (hX : KJq X) (g : SPb X Y ps.length N) : PBq ch Y ps c N := ⟨h.1, fun k p hk => by
  have hlt : k < ps.length := (List.getElem?_eq_some_iff.mp hk).1
  obtain ⟨a, b, d, w, w2⟩ := h.2 k p hk
  exact ⟨a.sp hX hlt g, b.sp hX hlt g, d.sp hX hlt g, w.sp hlt g, w2⟩⟩
theorem BOd.up {k i e : Nat} (h : BOd ch X N k c i e) (hN : N ≤ N1) (l : List Ins) : BOd ch X N1 k (c ++ l) i e := by
  obtain ⟨lo, hi, t, d, l1, l2, h1, h2, h3, h4, h5, h6⟩ := h
  refine ⟨lo, hi, t, d, l1, l2 ++ l, h1, h2, by omega, h4, ?_, h6⟩
  rw [h5]
  simp only [List.append_assoc, List.cons_append]
/-- one part more -/
theorem PBq.ad {p : Pt} {l : List Ins} (h : PBq ch X ps c N) (hN : N ≤ N1) (h1 : KPn X ps.length p.2.2.2.1) (h2 : KOw X ps.length p.2.2.2.2.1) (h3 : BOd ch X N1 ps.length (c ++ l) p.2.2.2.2.2 (c ++ l).length) (h4 : MDa X ps.length (p.1, p.2.1, p.2.2.1.length)) (h5 : p.2.2.2.2.2 = c.length) : PBq ch X (ps ++ [p]) (c ++ l) N1 := by
  refine ⟨fun z => ?_, fun k r hk => ?_⟩
  · have := congrArg List.length z
    rw [List.length_append, List.length_singleton, List.length_nil] at this
    omega
  by_cases e : k < ps.length
  · rw [List.getElem?_append_left e] at hk
    obtain ⟨a, b, d, w, w2⟩ := h.2 k r hk
    refine ⟨a, b, ?_, w, w2⟩
    have en : pend (ps ++ [p]) (c ++ l) k = pend ps c k := by
      unfold pend
      by_cases e1 : k + 1 < ps.length
      · rw [List.getElem?_append_left e1, List.getElem?_eq_getElem e1]
      · rw [show k + 1 = ps.length by omega, List.getElem?_append_right (Nat.le_refl _), Nat.sub_self, List.getElem?_eq_none (Nat.le_refl _)]
        exact h5
    rw [en]
    exact d.up hN l
  · have e2 : k = ps.length := by
      have := (List.getElem?_eq_some_iff.mp hk).1
      rw [List.length_append, List.length_singleton] at this
      omega
    rw [e2, List.getElem?_append_right (Nat.le_refl _), Nat.sub_self] at hk
    have hk : p = r := Option.some.inj hk
    rw [← hk, e2]
    refine ⟨h1, h2, ?_, h4, fun z => ?_⟩
    · have en : pend (ps ++ [p]) (c ++ l) ps.length = (c ++ l).length := by
        unfold pend
        rw [List.getElem?_eq_none (by rw [List.length_append, List.length_singleton]; omega)]
      rw [en]
      exact h3
    · rw [h5, h.1 (List.eq_nil_of_length_eq_zero z)]
      rfl
/-- one param more; the params so far stay -/
theorem KPn.st {k : Nat} {pp : List (Nm × List Int)} (h : KPn X k pp) (hX : KJq X) (g : KXq X Y) (g16 : ∀ i, i < pp.length → Y.1 16 (4 * k + i) = X.1 16 (4 * k + i)) : KPn Y k pp := ⟨h.1, fun i hi => by
  obtain ⟨z, h1, h2⟩ := h.2 i hi
  exact ⟨z, by rw [g16 i hi]; exact h1, KDk.oj hX g _ _ h2⟩⟩
theorem KPn.co {k z : Nat} {pp : List (Nm × List Int)} {l : Nm} {kd : List Int} (h : KPn X k pp) (h4 : pp.length < 4) (hz : (X.1 16 (4 * k + pp.length)).toInt = (z : Int)) (hk : KD X z kd) : KPn X k ((l, kd) :: pp) := by
  refine ⟨by rw [List.length_cons]; omega, fun i hi => ?_⟩
  rw [List.length_cons] at hi
  rw [List.reverse_cons, List.getD_eq_getElem?_getD]
  by_cases e : i < pp.length
  · rw [List.getElem?_append_left (by rw [List.length_reverse]; exact e), ← List.getD_eq_getElem?_getD]
    exact h.2 i e
  · have e2 : i = pp.length := by omega
    rw [List.getElem?_append_right (by rw [List.length_reverse]; omega), List.length_reverse, e2, Nat.sub_self]
    exact ⟨z, hz, hk⟩
theorem KOw.of {k : Nat} {kd : List Int} (h : KOw X k kd) (hX : KJq X) (g : KXq X Y) (g17 : Y.1 17 k = X.1 17 k) : KOw Y k kd := by
  obtain ⟨z, h1, h2⟩ := h
  exact ⟨z, by rw [g17]; exact h1, KDk.oj hX g _ _ h2⟩
/-- the parts read so far, the params of the one that is being read, what it gives, where it stands; no kind told twice -/
def PQq (ch : Tx) (X : St) (ps : List Pt) (c : List Ins) (N : Nat) (pp : List (Nm × List Int)) (ow : List Int × Nat × Nat × Nat) : Prop := PBq ch X ps c N ∧ KPn X ps.length pp ∧ KU X ∧ KOw X ps.length ow.1 ∧ MDa X ps.length ow.2
/-- the rows of the part that is being read stay -/
def SPc (X Y : St) (k : Nat) : Prop := Y.1 17 k = X.1 17 k ∧ Y.1 12 k = X.1 12 k ∧ Y.1 13 k = X.1 13 k ∧ Y.1 14 k = X.1 14 k
theorem SPc.of {k : Nat} (g : ∀ e, (12 ≤ e ∧ e ≤ 14) ∨ e = 17 → Y.1 e k = X.1 e k) : SPc X Y k := ⟨g 17 (by omega), g 12 (by omega), g 13 (by omega), g 14 (by omega)⟩
theorem PQq.sp {pp : List (Nm × List Int)} {ow : List Int × Nat × Nat × Nat} (h : PQq ch X ps c N pp ow) (hX : KJq X) (g : SPb X Y ps.length N) (g16 : ∀ i, i < pp.length → Y.1 16 (4 * ps.length + i) = X.1 16 (4 * ps.length + i)) (g17 : SPc X Y ps.length) : PQq ch Y ps c N pp ow := by
  refine ⟨h.1.sp hX g, h.2.1.st hX g.2.2.2.2.1 g16, g.2.2.2.2.2 h.2.2.1, h.2.2.2.1.of hX g.2.2.2.2.1 g17.1, ?_⟩
  unfold MDa
  rw [g17.2.1, g17.2.2.1, g17.2.2.2]
  exact h.2.2.2.2
theorem PQq.tn {pp : List (Nm × List Int)} {ow : List Int × Nat × Nat × Nat} (h : PQq ch X ps c N pp ow) (hX : KJq X) (g : TNq X Y) : PQq ch Y ps c N pp ow := h.sp hX (SPb.tn g) (fun i _ => g.1 16 _ (by omega)) (SPc.of (fun e he => g.1 e _ (by omega)))
theorem PQq.co {pp : List (Nm × List Int)} {ow : List Int × Nat × Nat × Nat} {l : Nm} {kd : List Int} {z : Nat} (h : PQq ch X ps c N pp ow) (h4 : pp.length < 4) (hz : (X.1 16 (4 * ps.length + pp.length)).toInt = (z : Int)) (hk : KD X z kd) : PQq ch X ps c N ((l, kd) :: pp) ow := ⟨h.1, h.2.1.co h4 hz hk, h.2.2⟩
theorem plc_ap (c0 d : List Ins) : plc (c0 ++ d) c0.length = plh d := by
  unfold plh plc
  rw [List.getD_eq_getElem?_getD, List.getD_eq_getElem?_getD, List.getElem?_append_right (Nat.le_refl _), Nat.sub_self]
theorem plh_ap {d e : List Ins} (h : ¬ d = []) : plh (d ++ e) = plh d := by
  cases d with
  | nil => exact absurd rfl h
  | cons a d => rfl
end PARTB
