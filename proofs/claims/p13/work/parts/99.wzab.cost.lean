/-! how many kinds a text can make: each takes two bytes -/
section COST
variable {ch : Tx} {n : Nat}
def krn (a : Ins) : Nat := if a.1 = 10 ∨ a.1 = 11 then 1 else 0
def kr (a : Ins) : Nat := kci a + krn a
def krs (c : List Ins) : Nat := (c.map kr).sum
def krx (t : Int) : Prop := ¬ t = 10 ∧ ¬ t = 11 ∧ ¬ t = 34
theorem krs_ap (c c1 : List Ins) : krs (c ++ c1) = krs c + krs c1 := by
  unfold krs
  rw [List.map_append, List.sum_append]
theorem krs_1 (a : Ins) : krs [a] = kr a := by
  unfold krs
  rw [List.map_cons, List.map_nil, List.sum_cons, List.sum_nil]
  omega
theorem kr_0 {t x p : Int} {d : List Int} (h : krx t) : kr (t, x, p, d) = 0 := by
  unfold kr kci krn
  rw [if_neg h.2.2, if_neg (fun g => g.elim h.1 h.2.1)]
theorem krs_e (c : List Ins) {t x p : Int} {d : List Int} (h : krx t) : krs (c ++ [(t, x, p, d)]) = krs c := by rw [krs_ap, krs_1, kr_0 h]; rfl
theorem krs_mod (f : Int → Int) : ∀ (c : List Ins) (i : Nat), krs (c.modify i (fun a => (a.1, f a.2.1, a.2.2))) = krs c := by
  intro c
  induction c with
  | nil => intro i; cases i <;> rfl
  | cons a c ih =>
    intro i
    cases i with
    | zero => rfl
    | succ i =>
      show krs (a :: c.modify i _) = krs (a :: c)
      unfold krs at ih ⊢
      rw [List.map_cons, List.map_cons, List.sum_cons, List.sum_cons, ih i]
theorem krs_addx (c : List Ins) (i : Nat) (d : Int) : krs (addx c i d) = krs c := krs_mod (fun v => v + d) c i
theorem krs_setx (c : List Ins) (i : Nat) (v : Int) : krs (setx c i v) = krs c := krs_mod (fun _ => v) c i
theorem krx_opc (s : Int) : krx (opc s) := by
  unfold krx opc
  repeat' split
  all_goals decide
theorem krs_pop (lv : Int) : ∀ (ws : List Wt) (f : Nat) (c : List Ins), krs (sPop lv ws f c).2.2 = krs c := by
  intro ws
  induction ws with
  | nil => exact fun f c => rfl
  | cons w ws ih =>
    intro f c
    unfold sPop
    by_cases h : lvl w.1 < lv
    · rw [if_pos h]
    · rw [if_neg h, ih, krs_addx, krs_e _ (krx_opc _), krs_e _ (by unfold krx; decide)]
theorem kc_kl (hT : TXT ch n) {sk : Nat → Option (Nat × List Int)} (h : ∀ q, HH True (fun a => 2 * kcn a.2 + pl ch q + 1 ≤ pl ch a.1) (sk q)) : ∀ j q, HH True (fun a => 2 * kcl a.2 + pl ch q + 1 ≤ pl ch a.1) (sKL ch sk j q) := by
  intro j
  induction j with
  | zero => intro q; rw [sKL]; exact HH.z
  | succ j ih =>
    intro q
    rw [sKL]
    refine HH.j ((h q).m (fun r hr => HH.f (fun g => HH.j ((ih (nx ch r.1)).m (fun s hs => HH.t ?_))) (fun _ => HH.t ?_)))
    · have := pl_nx hT (q := r.1) (by omega)
      have e : kcl (r.2 :: s.2) = kcn r.2 + kcl s.2 := by unfold kcl; rw [List.map_cons, List.sum_cons]
      show 2 * kcl (r.2 :: s.2) + pl ch q + 1 ≤ pl ch s.1
      omega
    · have e : kcl [r.2] = kcn r.2 := by unfold kcl; rw [List.map_cons, List.map_nil, List.sum_cons, List.sum_nil]; omega
      show 2 * kcl [r.2] + pl ch q + 1 ≤ pl ch r.1
      omega
theorem kc_k (hT : TXT ch n) : ∀ m o q, HH True (fun a => 2 * kcn a.2 + pl ch q + 1 ≤ pl ch a.1) (sK ch m o q) := by
  intro m
  induction m with
  | zero => intro o q; rw [sK]; exact HH.z
  | succ m ih =>
    intro o q
    rw [sK]
    refine HH.f (fun g => ?_) (fun _ => HH.f (fun g => ?_) (fun _ => HH.f (fun g => HH.t ?_) (fun _ => HH.z)))
    · refine HH.j ((mv_en hT (by decide)).m (fun q1 h1 => HH.j ((mv_en hT (by decide)).m (fun q2 h2 => ?_))))
      refine HH.j (HH.m (C := fun s : Nat × List (List Int) => 2 * kcl s.2 + pl ch q2 ≤ pl ch s.1) (HH.f (fun _ => HH.t (by show 2 * 0 + pl ch q2 ≤ pl ch q2; omega)) (fun _ => (kc_kl hT (ih (o + 2)) 4 q2).m (fun s hs => by omega))) (fun s hs => ?_))
      refine HH.j ((mv_wa hT (by decide)).m (fun q3 h3 => HH.j ((ih _ _).m (fun g hg => HH.t ?_))))
      show 2 * kcn ((5 + (s.2.length : Int)) :: (s.2.flatten ++ g.2)) + pl ch q + 1 ≤ pl ch g.1
      rw [kcn_c _ (by omega), kcn_ap, kcn_fl]
      omega
    · refine HH.j ((mv_en hT (by decide)).m (fun q1 h1 => HH.j ((ih _ _).m (fun r hr => HH.j ((mv_wa hT (by decide)).m (fun q2 h2 => HH.t ?_))))))
      show 2 * kcn (4 :: r.2) + pl ch q + 1 ≤ pl ch q2
      rw [kcn_c _ (by omega)]
      omega
    · have := pl_nx hT (q := q) (by omega)
      show 2 * kcn [ty ch q - 271] + pl ch q + 1 ≤ pl ch (nx ch q)
      rw [kcn_0 (by omega)]
      omega
def kco_ (d : Option (List Int)) : Nat := match d with | none => 0 | some d => kcn d
theorem kc_co (hT : TXT ch n) (o : Int) (q : Nat) : HH True (fun a => 2 * kco_ a.2 + pl ch q ≤ pl ch a.1) (sColon ch o q) := by
  unfold sColon
  refine HH.f (fun g => HH.j ((kc_k hT _ _ _).m (fun r hr => HH.t ?_))) (fun _ => HH.t (by show 2 * 0 + pl ch q ≤ pl ch q; omega))
  have := pl_nx hT (q := q) (by omega)
  show 2 * kcn r.2 + pl ch q ≤ pl ch r.1
  omega
/-- what is read takes a byte at least, and two for each kind -/
def KCP (ch : Tx) (q : Nat) (c : List Ins) (k l : Nat) (a : Out) : Prop := pl ch q + k ≤ pl ch a.1 ∧ 2 * krs a.2 + pl ch q + l ≤ 2 * krs c + pl ch a.1
def KCE (ch : Tx) (E : EF) : Prop := ∀ o sc q c, HH True (KCP ch q c 1 0) (E o sc q c)
def KCF (ch : Tx) (P : PFn) : Prop := ∀ a b o sc q c, krx a → krx b → HH True (KCP ch q c 1 0) (P a b o sc q c)
theorem kc_c1 (hT : TXT ch n) {U : Nat → List Ins → Option Out} (h : ∀ q c, HH True (KCP ch q c 1 0) (U q c)) : ∀ k sums prods cmp f ws q c, HH True (KCP ch q c 0 0) (sC1 ch U k sums prods cmp f ws q c) := by
  intro k
  induction k with
  | zero =>
    intro sums prods cmp f ws q c
    rw [sC1]
    exact HH.t ⟨Nat.le_refl _, by show 2 * krs (sPop 1 ws f c).2.2 + pl ch q + 0 ≤ _; rw [krs_pop]; exact Nat.le_refl _⟩
  | succ k ih =>
    intro sums prods cmp f ws q c
    rw [sC1]
    refine HH.f (fun _ => HH.t ⟨Nat.le_refl _, by show 2 * krs (sPop 1 ws f c).2.2 + pl ch q + 0 ≤ _; rw [krs_pop]; exact Nat.le_refl _⟩) (fun g => HH.f (fun _ => HH.z) (fun _ => HH.j ((h _ _).m (fun r hr => (ih _ _ _ _ _ _ _).m (fun a ha => ?_)))))
    have h257 : ¬ ty ch q = 257 := fun e => g (Or.inl (by rw [e]; decide))
    have := pl_nx hT h257
    obtain ⟨h1, h2⟩ := hr
    obtain ⟨h3, h4⟩ := ha
    rw [krs_e _ (by unfold krx; decide), krs_pop] at h2
    exact ⟨by omega, by omega⟩
section RECK
variable {P : PFn} {E : EF}
theorem kc_l1 (hT : TXT ch n) (hE : KCE ch E) {o : Int} {sc : List Nm} {cl ask : Int} (hc : ¬ cl = 257) (ha : krx ask) : ∀ k i q c, HH True (fun b => KCP ch q c 1 1 b.2) (sList1 ch E o sc cl ask k i q c) := by
  intro k
  induction k with
  | zero => intro i q c; rw [sList1]; exact HH.j ((mv_wa hT hc).m (fun q1 h1 => HH.t ⟨h1, by show 2 * krs c + pl ch q + 1 ≤ 2 * krs c + pl ch q1; omega⟩))
  | succ k ih =>
    intro i q c
    rw [sList1]
    refine HH.f (fun _ => HH.j ((mv_wa hT hc).m (fun q1 h1 => HH.t ⟨h1, by show 2 * krs c + pl ch q + 1 ≤ 2 * krs c + pl ch q1; omega⟩))) (fun _ => HH.f (fun _ => HH.z) (fun _ => HH.j ((hE _ _ _ _).m (fun r hr => HH.f (fun g => ?_) (fun _ => HH.j ((mv_wa hT hc).m (fun q1 h1 => HH.t ?_)))))))
    · have := pl_nx hT (q := r.1) (by omega)
      refine (ih _ _ _).m (fun b hb => ?_)
      obtain ⟨h1, h2⟩ := hr
      obtain ⟨h3, h4⟩ := hb
      rw [krs_e _ ha] at h4
      exact ⟨by omega, by omega⟩
    · obtain ⟨h2, h3⟩ := hr
      refine ⟨by show pl ch q + 1 ≤ pl ch q1; omega, ?_⟩
      show 2 * krs (r.2 ++ [(ask, (i : Int), plc r.2 c.length, [])]) + pl ch q + 1 ≤ 2 * krs c + pl ch q1
      rw [krs_e _ ha]
      omega
theorem kc_li (hT : TXT ch n) (hE : KCE ch E) {o : Int} {sc : List Nm} {cl ask : Int} {most q : Nat} {c : List Ins} (hc : ¬ cl = 257) (ha : krx ask) (hq : ¬ ty ch q = 257) : HH True (fun b => KCP ch q c 2 2 b.2) (sList ch E o sc cl most ask q c) := by
  unfold sList
  exact HH.j ((mv_en hT hq).m (fun q1 h1 => (kc_l1 hT hE hc ha _ _ _ _).m (fun b hb => ⟨by have := hb.1; omega, by have := hb.2; omega⟩)))
theorem kc_b1 (hT : TXT ch n) (hE : KCE ch E) {o : Int} {sc : List Nm} : ∀ k q c, HH True (KCP ch q c 1 0) (sBlock1 ch E o sc k q c) := by
  intro k
  induction k with
  | zero => intro q c; rw [sBlock1]; exact HH.j ((mv_wa hT (by decide)).m (fun q1 h1 => HH.t ⟨h1, by show 2 * krs c + pl ch q + 0 ≤ 2 * krs c + pl ch q1; omega⟩))
  | succ k ih =>
    intro q c
    rw [sBlock1]
    refine HH.f (fun g => HH.j ((hE _ _ _ _).m (fun r hr => ?_))) (fun _ => HH.j ((mv_wa hT (by decide)).m (fun q1 h1 => HH.t ⟨h1, by show 2 * krs c + pl ch q + 0 ≤ 2 * krs c + pl ch q1; omega⟩)))
    have := pl_nx hT (q := q) (by omega)
    obtain ⟨h1, h2⟩ := hr
    rw [krs_e _ (by unfold krx; decide)] at h2
    exact (ih _ _).m (fun b hb => ⟨by have := hb.1; omega, by have := hb.2; omega⟩)
theorem kc_call (hT : TXT ch n) (hE : KCE ch E) {o : Int} {sc : List Nm} {ask : Int} {q : Nat} {c : List Ins} (ha : krx ask) (hq : ¬ ty ch q = 257) : HH True (KCP ch q c 1 0) (sCall ch E o sc ask q c) := by
  unfold sCall
  refine HH.j ((kc_li hT hE (by decide) (by unfold krx; decide) hq).m (fun r hr => HH.t ?_))
  obtain ⟨h1, h2⟩ := hr
  rw [krs_e _ ha] at h2
  refine ⟨by show pl ch q + 1 ≤ pl ch r.2.1; omega, ?_⟩
  show 2 * krs (setx r.2.2 c.length r.1 ++ [(16, (r.1 : Int), (pl ch q : Int), [])]) + pl ch q + 0 ≤ 2 * krs c + pl ch r.2.1
  rw [krs_e _ (by unfold krx; decide), krs_setx]
  omega
theorem kc_place (hT : TXT ch n) (hE : KCE ch E) {o : Int} {sc : List Nm} {q : Nat} {c : List Ins} : HH True (fun b => KCP ch q c 1 0 b.2) (sPlace ch E o sc q c) := by
  unfold sPlace
  refine HH.j ((mv_en hT (by decide)).m (fun q1 h1 => HH.j ((hE _ _ _ _).m (fun r hr => HH.j ((mv_wa hT (by decide)).m (fun q2 h2 => HH.f (fun _ => ?_) (fun _ => HH.t ?_)))))))
  · refine HH.j ((mv_en hT (by decide)).m (fun q3 h3 => HH.j ((hE _ _ _ _).m (fun s hs => HH.t ?_))))
    obtain ⟨a1, a2⟩ := hr
    obtain ⟨b1, b2⟩ := hs
    rw [krs_e _ (by unfold krx; decide)] at a2 b2
    refine ⟨by show pl ch q + 1 ≤ pl ch s.1; omega, ?_⟩
    show 2 * krs ((s.2 ++ [(33, 0, plc s.2 (r.2.length + 1), [])]) ++ [(15, 0, (pl ch q : Int), [])]) + pl ch q + 0 ≤ 2 * krs c + pl ch s.1
    rw [krs_e _ (by unfold krx; decide), krs_e _ (by unfold krx; decide)]
    omega
  · obtain ⟨a1, a2⟩ := hr
    rw [krs_e _ (by unfold krx; decide)] at a2
    refine ⟨by show pl ch q + 1 ≤ pl ch q2; omega, ?_⟩
    show 2 * krs ((r.2 ++ [(27, 0, plc r.2 (c.length + 1), [])]) ++ [(14, 0, (pl ch q : Int), [])]) + pl ch q + 0 ≤ 2 * krs c + pl ch q2
    rw [krs_e _ (by unfold krx; decide), krs_e _ (by unfold krx; decide)]
    omega
theorem kc_u1 (hT : TXT ch n) (hE : KCE ch E) {o : Int} {sc : List Nm} {named : Bool} {f : Nat} : ∀ k st q c, HH True (KCP ch q c 0 0) (sU1 ch E o sc named f k st q c) := by
  intro k
  induction k with
  | zero => intro st q c; rw [sU1]; exact HH.t ⟨Nat.le_refl _, Nat.le_refl _⟩
  | succ k ih =>
    intro st q c
    rw [sU1]
    refine HH.f (fun g => HH.f (fun _ => HH.z) (fun _ => HH.f (fun g1 => ?_) (fun _ => ?_))) (fun _ => HH.t ⟨Nat.le_refl _, Nat.le_refl _⟩)
    · refine HH.j ((kc_call hT hE (by unfold krx; split <;> decide) (by omega)).m (fun r hr => (ih _ _ _).m (fun b hb => ?_)))
      obtain ⟨a1, a2⟩ := hr
      rw [krs_addx] at a2
      exact ⟨by have := hb.1; omega, by have := hb.2; omega⟩
    · refine HH.j ((kc_place hT hE).m (fun r hr => (ih _ _ _).m (fun b hb => ?_)))
      obtain ⟨a1, a2⟩ := hr
      rw [krs_addx] at a2
      exact ⟨by have := hb.1; omega, by have := hb.2; omega⟩
theorem kc_b (hT : TXT ch n) (hE : KCE ch E) {o : Int} {sc : List Nm} {q : Nat} {c : List Ins} : HH True (KCP ch q c 1 0) (sB ch E o sc q c) := by
  have s0 : krs (c ++ [((0, 1, (pl ch q : Int), []) : Ins)]) = krs c := krs_e _ (by unfold krx; decide)
  have w : ∀ (ask work : Int), krx ask → krx work → ¬ ty ch q = 257 → HH True (KCP ch q c 1 0) (sWork ch E o sc ask work q (c ++ [(0, 1, (pl ch q : Int), [])])) := fun ask work ha hw hq => by
    have hx := pl_nx hT (q := q) hq
    refine HH.j ((mv_en hT (by decide)).m (fun q1 h1 => HH.j ((hE _ _ _ _).m (fun r hr => HH.j ((mv_wa hT (by decide)).m (fun q2 h2 => HH.t ?_))))))
    obtain ⟨a1, a2⟩ := hr
    rw [s0] at a2
    refine ⟨by show pl ch q + 1 ≤ pl ch q2; omega, ?_⟩
    show 2 * krs ((r.2 ++ [(ask, 0, plc r.2 _, [])]) ++ [(work, 0, (pl ch q : Int), [])]) + pl ch q + 0 ≤ 2 * krs c + pl ch q2
    rw [krs_e _ hw, krs_e _ ha]
    omega
  unfold sB
  refine HH.f (fun g => ?_) (fun _ => HH.f (fun g => ?_) (fun _ => HH.f (fun g => ?_) (fun _ => HH.f (fun g => ?_) (fun _ => HH.f (fun g => ?_) (fun _ => HH.f (fun g => ?_) (fun _ => HH.f (fun g => ?_) (fun _ => HH.f (fun g => ?_) (fun _ => HH.f (fun g => w 29 12 (by unfold krx; decide) (by unfold krx; decide) (by omega)) (fun _ => HH.f (fun g => w 27 13 (by unfold krx; decide) (by unfold krx; decide) (by omega)) (fun _ => HH.z))))))))))
  · refine HH.j ((mv_en hT (by decide)).m (fun q1 h1 => HH.j ((hE _ _ _ _).m (fun r hr => HH.j ((mv_wa hT (by decide)).m (fun q2 h2 => HH.t ?_))))))
    obtain ⟨a1, a2⟩ := hr
    rw [s0] at a2
    exact ⟨by show pl ch q + 1 ≤ pl ch q2; omega, by show 2 * krs r.2 + pl ch q + 0 ≤ 2 * krs c + pl ch q2; omega⟩
  · refine HH.j ((kc_li hT hE (by decide) (by unfold krx; decide) (by omega)).m (fun r hr => HH.t ?_))
    obtain ⟨a1, a2⟩ := hr
    rw [s0] at a2
    refine ⟨by show pl ch q + 1 ≤ pl ch r.2.1; omega, ?_⟩
    have e : krs (r.2.2 ++ [((10, (r.1 : Int), plc r.2.2 c.length, []) : Ins)]) = krs r.2.2 + 1 := by rw [krs_ap, krs_1]; rfl
    show 2 * krs (r.2.2 ++ [((10, (r.1 : Int), plc r.2.2 c.length, []) : Ins)]) + pl ch q + 0 ≤ 2 * krs c + pl ch r.2.1
    omega
  · unfold sBlock
    refine HH.j ((mv_en hT (by decide)).m (fun q1 h1 => HH.j ((hE _ _ _ _).m (fun r hr => (kc_b1 hT hE _ _ _).m (fun b hb => ?_)))))
    obtain ⟨a1, a2⟩ := hr
    rw [s0] at a2
    exact ⟨by have := hb.1; omega, by have := hb.2; omega⟩
  · have := pl_nx hT (q := q) (by omega)
    refine HH.t ⟨this, ?_⟩
    show 2 * krs ((c ++ [(0, 1, (pl ch q : Int), [])]) ++ [(if slot sc (nm ch q) = -1 then 4 else 3, slot sc (nm ch q), (pl ch q : Int), [])]) + pl ch q + 0 ≤ 2 * krs c + pl ch (nx ch q)
    rw [krs_e _ (by unfold krx; split <;> decide), s0]
    omega
  · unfold sDigits
    refine HH.f (fun _ => ?_) (fun _ => HH.z)
    have := pl_nx hT (q := q) (by omega)
    refine HH.t ⟨this, ?_⟩
    show 2 * krs ((c ++ [(0, 1, (pl ch q : Int), [])]) ++ [(1, num ch q, (pl ch q : Int), [])]) + pl ch q + 0 ≤ 2 * krs c + pl ch (nx ch q)
    rw [krs_e _ (by unfold krx; decide), s0]
    omega
  · have := pl_nx hT (q := q) (by omega)
    refine HH.t ⟨this, ?_⟩
    show 2 * krs ((c ++ [(0, 1, (pl ch q : Int), [])]) ++ [(2, 1, (pl ch q : Int), [])]) + pl ch q + 0 ≤ 2 * krs c + pl ch (nx ch q)
    rw [krs_e _ (by unfold krx; decide), s0]
    omega
  · have := pl_nx hT (q := q) (by omega)
    refine HH.t ⟨this, ?_⟩
    show 2 * krs ((c ++ [(0, 1, (pl ch q : Int), [])]) ++ [(2, 0, (pl ch q : Int), [])]) + pl ch q + 0 ≤ 2 * krs c + pl ch (nx ch q)
    rw [krs_e _ (by unfold krx; decide), s0]
    omega
  · have hx := pl_nx hT (q := q) (by omega)
    refine HH.j ((mv_en hT (by decide)).m (fun q1 h1 => HH.j ((hE _ _ _ _).m (fun r hr => HH.j ((mv_wa hT (by decide)).m (fun q2 h2 => HH.j ((hE _ _ _ _).m (fun s hs => HH.j ((mv_wa hT (by decide)).m (fun q3 h3 => HH.t ?_))))))))))
    obtain ⟨a1, a2⟩ := hr
    obtain ⟨b1, b2⟩ := hs
    rw [s0] at a2
    rw [krs_e _ (by unfold krx; decide)] at b2
    refine ⟨by show pl ch q + 1 ≤ pl ch q3; omega, ?_⟩
    have e : krs (s.2 ++ [((11, 0, (pl ch q : Int), []) : Ins)]) = krs s.2 + 1 := by rw [krs_ap, krs_1]; rfl
    show 2 * krs (s.2 ++ [((11, 0, (pl ch q : Int), []) : Ins)]) + pl ch q + 0 ≤ 2 * krs c + pl ch q3
    omega
theorem kc_u (hT : TXT ch n) (hE : KCE ch E) (hP : KCF ch P) {o : Int} {sc : List Nm} {q : Nat} {c : List Ins} : HH True (KCP ch q c 1 0) (sU ch P E o sc q c) := by
  unfold sU
  exact HH.f (fun _ => hP _ _ _ _ _ _ (by unfold krx; decide) (by unfold krx; decide)) (fun _ => HH.f (fun _ => hP _ _ _ _ _ _ (by unfold krx; decide) (by unfold krx; decide)) (fun _ => HH.j ((kc_b hT hE).m (fun r hr => (kc_u1 hT hE _ _ _ _).m (fun b hb => ⟨by have := hb.1; have := hr.1; omega, by have := hb.2; have := hr.2; omega⟩)))))
theorem krs_kd (c : List Ins) (kd : Option (List Int)) (p p2 : Int) {t x : Int} (h : krx t) : krs ((match kd with | none => c | some kd => c ++ [((34, 0, p, kd) : Ins)]) ++ [(t, x, p2, [])]) = krs c + kco_ kd := by
  rw [krs_e _ h]
  cases kd with
  | none => rfl
  | some kd =>
    show krs (c ++ [((34, 0, p, kd) : Ins)]) = krs c + kcn kd
    rw [krs_ap, krs_1]
    rfl
theorem kc_e1 (hT : TXT ch n) (hE : KCE ch E) (hP : KCF ch P) : KCE ch (sE1 ch P E) := by
  intro o sc q c
  have s0 : krs (c ++ [((0, 1, (pl ch q : Int), []) : Ins)]) = krs c := krs_e _ (by unfold krx; decide)
  unfold sE1
  refine HH.f (fun _ => ?_) (fun _ => HH.f (fun _ => ?_) (fun _ => ?_))
  · unfold sLet
    refine HH.j ((mv_en hT (by decide)).m (fun q1 h1 => HH.j ((mv_wa hT (by decide)).m (fun q2 h2 => HH.j ((kc_co hT _ _).m (fun kq hk => HH.j ((mv_wa hT (by decide)).m (fun q3 h3 => HH.j ((hE _ _ _ _).m (fun r hr => HH.j ((mv_wa hT (by decide)).m (fun q4 h4 => (hE _ _ _ _).m (fun a ha => ?_)))))))))))))
    obtain ⟨a1, a2⟩ := hr
    obtain ⟨b1, b2⟩ := ha
    rw [s0] at a2
    have e : ∀ (kd : Option (List Int)) (p2 : Int), krs ((match kd with | none => r.2 | some kd => r.2 ++ [((34, 0, plc r.2 (c.length + 1), kd) : Ins)]) ++ [((5, (sc.length : Int), p2, []) : Ins)]) = krs r.2 + kco_ kd := fun kd p2 => krs_kd _ _ _ _ (by unfold krx; decide)
    obtain ⟨kq1, kd⟩ := kq
    have b3 := e kd
    cases kd with
    | none =>
      have b2 : 2 * krs a.2 + pl ch q4 + 0 ≤ 2 * krs (r.2 ++ [((5, (sc.length : Int), plc r.2 (c.length + 1), []) : Ins)]) + pl ch a.1 := b2
      have b3 : krs (r.2 ++ [((5, (sc.length : Int), plc r.2 (c.length + 1), []) : Ins)]) = krs r.2 + 0 := b3 _
      have hk : 2 * 0 + pl ch q2 ≤ pl ch kq1 := hk
      have h3 : pl ch kq1 + 1 ≤ pl ch q3 := h3
      exact ⟨by omega, by omega⟩
    | some kd =>
      have b2 : 2 * krs a.2 + pl ch q4 + 0 ≤ 2 * krs ((r.2 ++ [((34, 0, plc r.2 (c.length + 1), kd) : Ins)]) ++ [((5, (sc.length : Int), plc (r.2 ++ [((34, 0, plc r.2 (c.length + 1), kd) : Ins)]) (c.length + 1), []) : Ins)]) + pl ch a.1 := b2
      have b3 : krs ((r.2 ++ [((34, 0, plc r.2 (c.length + 1), kd) : Ins)]) ++ [((5, (sc.length : Int), plc (r.2 ++ [((34, 0, plc r.2 (c.length + 1), kd) : Ins)]) (c.length + 1), []) : Ins)]) = krs r.2 + kcn kd := b3 _
      have hk : 2 * kcn kd + pl ch q2 ≤ pl ch kq1 := hk
      have h3 : pl ch kq1 + 1 ≤ pl ch q3 := h3
      exact ⟨by omega, by omega⟩
  · unfold sIf
    refine HH.j ((mv_en hT (by decide)).m (fun q1 h1 => HH.j ((hE _ _ _ _).m (fun r hr => HH.j ((mv_wa hT (by decide)).m (fun q2 h2 => HH.j ((hE _ _ _ _).m (fun s hs => HH.j ((mv_wa hT (by decide)).m (fun q3 h3 => HH.j ((hE _ _ _ _).m (fun t ht => HH.t ?_))))))))))))
    obtain ⟨a1, a2⟩ := hr
    obtain ⟨b1, b2⟩ := hs
    obtain ⟨d1, d2⟩ := ht
    rw [s0] at a2
    rw [krs_e _ (by unfold krx; decide), krs_e _ (by unfold krx; decide)] at b2
    rw [krs_setx, krs_e _ (by unfold krx; decide), krs_e _ (by unfold krx; decide)] at d2
    refine ⟨by show pl ch q + 1 ≤ pl ch t.1; omega, ?_⟩
    show 2 * krs (setx _ _ _) + pl ch q + 0 ≤ 2 * krs c + pl ch t.1
    rw [krs_setx, krs_e _ (by unfold krx; decide), krs_e _ (by unfold krx; decide)]
    omega
  · unfold sC
    exact HH.j ((kc_u hT hE hP).m (fun r hr => (kc_c1 hT (fun _ _ => kc_u hT hE hP) _ _ _ _ _ _ _ _).m (fun a ha => ⟨by have := hr.1; have := ha.1; omega, by have := hr.2; have := ha.2; omega⟩)))
theorem kc_pre (hT : TXT ch n) (hE : KCE ch E) (hP : KCF ch P) : KCF ch (sPre ch P E) := by
  intro a b o sc q c ha hb
  have s0 : krs (c ++ [((0, 1, (pl ch q : Int), []) : Ins)]) = krs c := krs_e _ (by unfold krx; decide)
  unfold sPre
  have hen : HH True (fun q1 => pl ch q ≤ pl ch q1) (sEnter ch (ty ch q) o q) := by
    by_cases h : ty ch q = 257
    · refine HH.f (fun _ => HH.f (fun _ => HH.t ?_) (fun _ => HH.z)) (fun _ => HH.z)
      unfold nx
      rw [if_pos ((ty_end hT).mp h), pl_pl hT]
      exact Nat.le_refl _
    · exact (mv_en hT h).m (fun q1 h1 => by omega)
  refine HH.j (hen.m (fun q1 h1 => HH.j ((kc_u hT hE hP).m (fun r hr => HH.t ?_))))
  obtain ⟨a1, a2⟩ := hr
  rw [s0] at a2
  refine ⟨by show pl ch q + 1 ≤ pl ch r.1; omega, ?_⟩
  show 2 * krs ((r.2 ++ [(a, 0, _, [])]) ++ [(b, 0, _, [])]) + pl ch q + 0 ≤ 2 * krs c + pl ch r.1
  rw [krs_e _ hb, krs_e _ ha]
  omega
end RECK
theorem kc_ep (hT : TXT ch n) : ∀ m, KCF ch (sEP ch m).1 ∧ KCE ch (sEP ch m).2 := by
  intro m
  induction m with
  | zero => exact ⟨fun _ _ _ _ _ _ _ _ => HH.z, fun _ _ _ _ => HH.z⟩
  | succ m ih => exact ⟨kc_pre hT ih.2 ih.1, kc_e1 hT ih.2 ih.1⟩
theorem kc_gd (kd : Option (List Int)) : kcn (kd.getD [3]) = kco_ kd := by
  cases kd with
  | none => exact kcn_0 (by omega)
  | some d => rfl
theorem kc_par (hT : TXT ch n) : ∀ k ps q, HH True (fun a => 2 * kpp a.2 + pl ch q ≤ 2 * kpp ps + pl ch a.1) (sPar1 ch k ps q) := by
  intro k
  induction k with
  | zero => intro ps q; rw [sPar1]; exact HH.j ((mv_wa hT (by decide)).m (fun q1 h1 => HH.t (show 2 * kpp ps + pl ch q ≤ 2 * kpp ps + pl ch q1 by omega)))
  | succ k ih =>
    intro ps q
    rw [sPar1]
    refine HH.f (fun _ => HH.j ((mv_wa hT (by decide)).m (fun q1 h1 => HH.t (show 2 * kpp ps + pl ch q ≤ 2 * kpp ps + pl ch q1 by omega)))) (fun _ => HH.f (fun _ => HH.z) (fun _ => HH.j ((mv_wa hT (by decide)).m (fun q1 h1 => HH.j ((kc_co hT _ _).m (fun kq hk => ?_))))))
    have e : kpp ((nm ch q, kq.2.getD [3]) :: ps) = kpp ps + kco_ kq.2 := by rw [kpp_c, kc_gd]
    refine HH.f (fun g => (ih _ _).m (fun a ha => ?_)) (fun _ => HH.j ((mv_wa hT (by decide)).m (fun q2 h2 => HH.t ?_)))
    · have := pl_nx hT (q := kq.1) (by omega)
      rw [e] at ha
      omega
    · show 2 * kpp ((nm ch q, kq.2.getD [3]) :: ps) + pl ch q ≤ 2 * kpp ps + pl ch q2
      rw [e]
      omega
theorem kc_part (hT : TXT ch n) (k q : Nat) (c : List Ins) (hq : ¬ ty ch q = 257) : HH True (fun r : Pt × Out => 2 * (kpp r.1.2.2.2.1 + kcn r.1.2.2.2.2.1 + krs r.2.2) + pl ch q ≤ 2 * krs c + pl ch r.2.1) (sPart ch k q c) := by
  have hx := pl_nx hT hq
  unfold sPart sHead sOwn sEnd
  refine HH.j ((mv_wa hT (by decide)).m (fun q2 h2 => HH.j (HH.j ((mv_en hT (by decide)).m (fun q3 h3 => (kc_par hT _ _ _).m (fun pr hpr => HH.j (HH.j ((kc_co hT _ _).m (fun kq hk => HH.j ((mv_wa hT (by decide)).m (fun q5 h5 => HH.t (HH.j (((kc_ep hT 64).2 _ _ _ _).m (fun r hr => HH.j (HH.j ((mv_wa hT (by decide)).m (fun q6 h6 => HH.t (HH.t ?_))))))))))))))))))
  have e0 : kpp [] = 0 := rfl
  obtain ⟨a1, a2⟩ := hr
  have a1 : pl ch q5 + 1 ≤ pl ch r.1 := a1
  have a2 : 2 * krs r.2 + pl ch q5 + 0 ≤ 2 * krs c + pl ch r.1 := a2
  rw [e0] at hpr
  show 2 * (kpp pr.2 + kcn (kq.2.getD [3]) + krs ((r.2 ++ [(35, (k : Int), _, [])]) ++ [(17, 0, _, [])])) + pl ch q ≤ 2 * krs c + pl ch q6
  rw [krs_e _ (by unfold krx; decide), krs_e _ (by unfold krx; decide), kc_gd]
  omega
end COST
