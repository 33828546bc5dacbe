/-! how often a text asks (L = 1), how often it lays something on the stack (L = 0): a byte each -/
section COSK
variable {ch : Tx} {n L : Nat}
def wk (L : Nat) (t : Int) : Nat := if 27 ≤ t then L else if t = 0 ∨ t = 5 ∨ t = 6 ∨ t = 7 ∨ t = 9 ∨ t = 17 then 0 else 1 - L
def wks (L : Nat) (c : List Ins) : Nat := (c.map (fun a => wk L a.1)).sum
/-- lays nothing, asks nothing -/
def wz (t : Int) : Prop := t = 0 ∨ t = 5 ∨ t = 6 ∨ t = 7 ∨ t = 9 ∨ t = 17
/-- lays something -/
def wp (t : Int) : Prop := ¬ 27 ≤ t ∧ ¬ (t = 0 ∨ t = 5 ∨ t = 6 ∨ t = 7 ∨ t = 9 ∨ t = 17)
theorem wks_ap (c c1 : List Ins) : wks L (c ++ c1) = wks L c + wks L c1 := by
  unfold wks
  rw [List.map_append, List.sum_append]
theorem wks_1 (a : Ins) : wks L [a] = wk L a.1 := by
  unfold wks
  rw [List.map_cons, List.map_nil, List.sum_cons, List.sum_nil]
  omega
theorem wks_a (c : List Ins) {t x p : Int} {d : List Int} (h : 27 ≤ t) : wks L (c ++ [(t, x, p, d)]) = wks L c + L := by
  rw [wks_ap, wks_1]
  show _ + wk L t = _
  unfold wk
  rw [if_pos h]
theorem wks_z (c : List Ins) {t x p : Int} {d : List Int} (h : wz t) : wks L (c ++ [(t, x, p, d)]) = wks L c := by
  rw [wks_ap, wks_1]
  show _ + wk L t = _
  unfold wz at h
  unfold wk
  rw [if_neg (by omega), if_pos h]
  omega
theorem wks_p (c : List Ins) {t x p : Int} {d : List Int} (h : wp t) : wks L (c ++ [(t, x, p, d)]) = wks L c + (1 - L) := by
  rw [wks_ap, wks_1]
  show _ + wk L t = _
  unfold wk
  rw [if_neg h.1, if_neg h.2]
theorem wks_mod (f : Int → Int) : ∀ (c : List Ins) (i : Nat), wks L (c.modify i (fun a => (a.1, f a.2.1, a.2.2))) = wks L c := by
  intro c
  induction c with
  | nil => intro i; cases i <;> rfl
  | cons a c ih =>
    intro i
    cases i with
    | zero => rfl
    | succ i =>
      show wks L (a :: c.modify i _) = wks L (a :: c)
      unfold wks at ih ⊢
      rw [List.map_cons, List.map_cons, List.sum_cons, List.sum_cons, ih i]
theorem wks_addx (c : List Ins) (i : Nat) (d : Int) : wks L (addx c i d) = wks L c := wks_mod (fun v => v + d) c i
theorem wks_setx (c : List Ins) (i : Nat) (v : Int) : wks L (setx c i v) = wks L c := wks_mod (fun _ => v) c i
theorem wp_opc (s : Int) : wp (opc s) := by
  unfold wp opc
  repeat' split
  all_goals decide
theorem wks_pop (hL : L ≤ 1) (lv : Int) : ∀ (ws : List Wt) (f : Nat) (c : List Ins), wks L (sPop lv ws f c).2.2 + (sPop lv ws f c).1.length = wks L c + ws.length := by
  intro ws
  induction ws with
  | nil => exact fun f c => rfl
  | cons w ws ih =>
    intro f c
    unfold sPop
    by_cases h : lvl w.1 < lv
    · rw [if_pos h]
    · rw [if_neg h, ih, wks_addx, wks_p _ (wp_opc _), wks_a _ (by decide), List.length_cons]
      omega
/-- what is read takes a byte at least -/
def KDP (L : Nat) (ch : Tx) (q : Nat) (c : List Ins) (k l : Nat) (a : Out) : Prop := pl ch q + k ≤ pl ch a.1 ∧ wks L a.2 + pl ch q + l ≤ wks L c + pl ch a.1
def KDE (L : Nat) (ch : Tx) (E : EF) : Prop := ∀ o sc q c, HH True (KDP L ch q c 1 L) (E o sc q c)
def KDF (L : Nat) (ch : Tx) (P : PFn) : Prop := ∀ a b o sc q c, 27 ≤ a → wp b → ¬ ty ch q = 257 → HH True (KDP L ch q c 1 L) (P a b o sc q c)
theorem kd_c1 (hT : TXT ch n) (hL : L ≤ 1) {U : Nat → List Ins → Option Out} (h : ∀ q c, HH True (KDP L ch q c 1 L) (U q c)) : ∀ k sums prods cmp f ws q c, HH True (fun a => pl ch q ≤ pl ch a.1 ∧ wks L a.2 + pl ch q ≤ wks L c + List.length ws + pl ch a.1) (sC1 ch U k sums prods cmp f ws q c) := by
  intro k
  induction k with
  | zero =>
    intro sums prods cmp f ws q c
    rw [sC1]
    have := wks_pop hL 1 ws f c
    exact HH.t ⟨Nat.le_refl _, by show wks L (sPop 1 ws f c).2.2 + pl ch q ≤ _ + pl ch q; omega⟩
  | succ k ih =>
    intro sums prods cmp f ws q c
    rw [sC1]
    have w1 := wks_pop hL 1 ws f c
    have w2 := wks_pop hL (lvl (ty ch q)) ws f c
    refine HH.f (fun _ => HH.t ⟨Nat.le_refl _, by show wks L (sPop 1 ws f c).2.2 + pl ch q ≤ _ + pl ch q; omega⟩) (fun g => HH.f (fun _ => HH.z) (fun _ => HH.j ((h _ _).m (fun r hr => (ih _ _ _ _ _ _ _).m (fun a ha => ?_)))))
    have h257 : ¬ ty ch q = 257 := fun e => g (Or.inl (by rw [e]; decide))
    have := pl_nx hT h257
    obtain ⟨h1, h2⟩ := hr
    obtain ⟨h3, h4⟩ := ha
    rw [wks_a _ (by decide)] at h2
    rw [List.length_cons] at h4
    exact ⟨by omega, by omega⟩
section RECK
variable {P : PFn} {E : EF}
theorem kd_l1 (hT : TXT ch n) (hE : KDE L ch E) {o : Int} {sc : List Nm} {cl ask : Int} (hc : ¬ cl = 257) (ha : 27 ≤ ask) : ∀ k i q c, HH True (fun b => KDP L ch q c 1 1 b.2) (sList1 ch E o sc cl ask k i q c) := by
  intro k
  induction k with
  | zero => intro i q c; rw [sList1]; exact HH.j ((mv_wa hT hc).m (fun q1 h1 => HH.t ⟨h1, by show wks L c + pl ch q + 1 ≤ wks L c + pl ch q1; omega⟩))
  | succ k ih =>
    intro i q c
    rw [sList1]
    refine HH.f (fun _ => HH.j ((mv_wa hT hc).m (fun q1 h1 => HH.t ⟨h1, by show wks L c + pl ch q + 1 ≤ wks L c + pl ch q1; omega⟩))) (fun _ => HH.f (fun _ => HH.z) (fun _ => HH.j ((hE _ _ _ _).m (fun r hr => HH.f (fun g => ?_) (fun _ => HH.j ((mv_wa hT hc).m (fun q1 h1 => HH.t ?_)))))))
    · have := pl_nx hT (q := r.1) (by omega)
      refine (ih _ _ _).m (fun b hb => ?_)
      obtain ⟨h1, h2⟩ := hr
      obtain ⟨h3, h4⟩ := hb
      rw [wks_a _ ha] at h4
      exact ⟨by omega, by omega⟩
    · obtain ⟨h2, h3⟩ := hr
      refine ⟨by show pl ch q + 1 ≤ pl ch q1; omega, ?_⟩
      show wks L (r.2 ++ [(ask, (i : Int), plc r.2 c.length, [])]) + pl ch q + 1 ≤ wks L c + pl ch q1
      rw [wks_a _ ha]
      omega
theorem kd_li (hT : TXT ch n) (hE : KDE L ch E) {o : Int} {sc : List Nm} {cl ask : Int} {most q : Nat} {c : List Ins} (hc : ¬ cl = 257) (ha : 27 ≤ ask) (hq : ¬ ty ch q = 257) : HH True (fun b => KDP L ch q c 2 2 b.2) (sList ch E o sc cl most ask q c) := by
  unfold sList
  exact HH.j ((mv_en hT hq).m (fun q1 h1 => (kd_l1 hT hE hc ha _ _ _ _).m (fun b hb => ⟨by have := hb.1; omega, by have := hb.2; omega⟩)))
theorem kd_b1 (hT : TXT ch n) (hE : KDE L ch E) {o : Int} {sc : List Nm} : ∀ k q c, HH True (KDP L ch q c 1 1) (sBlock1 ch E o sc k q c) := by
  intro k
  induction k with
  | zero => intro q c; rw [sBlock1]; exact HH.j ((mv_wa hT (by decide)).m (fun q1 h1 => HH.t ⟨h1, by show wks L c + pl ch q + 1 ≤ wks L c + pl ch q1; omega⟩))
  | succ k ih =>
    intro q c
    rw [sBlock1]
    refine HH.f (fun g => HH.j ((hE _ _ _ _).m (fun r hr => ?_))) (fun _ => HH.j ((mv_wa hT (by decide)).m (fun q1 h1 => HH.t ⟨h1, by show wks L c + pl ch q + 1 ≤ wks L c + pl ch q1; omega⟩)))
    have := pl_nx hT (q := q) (by omega)
    obtain ⟨h1, h2⟩ := hr
    rw [wks_z _ (by unfold wz; decide)] at h2
    exact (ih _ _).m (fun b hb => ⟨by have := hb.1; omega, by have := hb.2; omega⟩)
theorem kd_call (hT : TXT ch n) (hL : L ≤ 1) (hE : KDE L ch E) {o : Int} {sc : List Nm} {ask : Int} {q : Nat} {c : List Ins} (ha : 27 ≤ ask) (hq : ¬ ty ch q = 257) : HH True (KDP L ch q c 1 1) (sCall ch E o sc ask q c) := by
  unfold sCall
  refine HH.j ((kd_li hT hE (by decide) (by decide) hq).m (fun r hr => HH.t ?_))
  obtain ⟨h1, h2⟩ := hr
  rw [wks_a _ ha] at h2
  refine ⟨by show pl ch q + 1 ≤ pl ch r.2.1; omega, ?_⟩
  show wks L (setx r.2.2 c.length r.1 ++ [(16, (r.1 : Int), (pl ch q : Int), [])]) + pl ch q + 1 ≤ wks L c + pl ch r.2.1
  rw [wks_p _ (by unfold wp; decide), wks_setx]
  omega
theorem kd_place (hT : TXT ch n) (hL : L ≤ 1) (hE : KDE L ch E) {o : Int} {sc : List Nm} {q : Nat} {c : List Ins} : HH True (fun b => KDP L ch q c 1 0 b.2) (sPlace ch E o sc q c) := by
  unfold sPlace
  refine HH.j ((mv_en hT (by decide)).m (fun q1 h1 => HH.j ((hE _ _ _ _).m (fun r hr => HH.j ((mv_wa hT (by decide)).m (fun q2 h2 => HH.f (fun _ => ?_) (fun _ => HH.t ?_)))))))
  · refine HH.j ((mv_en hT (by decide)).m (fun q3 h3 => HH.j ((hE _ _ _ _).m (fun s hs => HH.t ?_))))
    obtain ⟨a1, a2⟩ := hr
    obtain ⟨b1, b2⟩ := hs
    rw [wks_a _ (by decide)] at a2 b2
    refine ⟨by show pl ch q + 1 ≤ pl ch s.1; omega, ?_⟩
    show wks L ((s.2 ++ [(33, 0, plc s.2 (r.2.length + 1), [])]) ++ [(15, 0, (pl ch q : Int), [])]) + pl ch q + 0 ≤ wks L c + pl ch s.1
    rw [wks_p _ (by unfold wp; decide), wks_a _ (by decide)]
    omega
  · obtain ⟨a1, a2⟩ := hr
    rw [wks_a _ (by decide)] at a2
    refine ⟨by show pl ch q + 1 ≤ pl ch q2; omega, ?_⟩
    show wks L ((r.2 ++ [(27, 0, plc r.2 (c.length + 1), [])]) ++ [(14, 0, (pl ch q : Int), [])]) + pl ch q + 0 ≤ wks L c + pl ch q2
    rw [wks_p _ (by unfold wp; decide), wks_a _ (by decide)]
    omega
theorem kd_u1 (hT : TXT ch n) (hL : L ≤ 1) (hE : KDE L ch E) {o : Int} {sc : List Nm} {named : Bool} {f : Nat} : ∀ k st q c, HH True (KDP L ch q c 0 0) (sU1 ch E o sc named f k st q c) := by
  intro k
  induction k with
  | zero => intro st q c; rw [sU1]; exact HH.t ⟨Nat.le_refl _, Nat.le_refl _⟩
  | succ k ih =>
    intro st q c
    rw [sU1]
    refine HH.f (fun g => HH.f (fun _ => HH.z) (fun _ => HH.f (fun g1 => ?_) (fun _ => ?_))) (fun _ => HH.t ⟨Nat.le_refl _, Nat.le_refl _⟩)
    · refine HH.j ((kd_call hT hL hE (by split <;> decide) (by omega)).m (fun r hr => (ih _ _ _).m (fun b hb => ?_)))
      obtain ⟨a1, a2⟩ := hr
      rw [wks_addx] at a2
      exact ⟨by have := hb.1; omega, by have := hb.2; omega⟩
    · refine HH.j ((kd_place hT hL hE).m (fun r hr => (ih _ _ _).m (fun b hb => ?_)))
      obtain ⟨a1, a2⟩ := hr
      rw [wks_addx] at a2
      exact ⟨by have := hb.1; omega, by have := hb.2; omega⟩
theorem kd_b (hT : TXT ch n) (hL : L ≤ 1) (hE : KDE L ch E) {o : Int} {sc : List Nm} {q : Nat} {c : List Ins} : HH True (KDP L ch q c 1 L) (sB ch E o sc q c) := by
  have s0 : wks L (c ++ [((0, 1, (pl ch q : Int), []) : Ins)]) = wks L c := wks_z _ (by unfold wz; decide)
  have w : ∀ (ask work : Int), 27 ≤ ask → wp work → ¬ ty ch q = 257 → HH True (KDP L ch q c 1 L) (sWork ch E o sc ask work q (c ++ [(0, 1, (pl ch q : Int), [])])) := fun ask work ha hw hq => by
    have hx := pl_nx hT (q := q) hq
    refine HH.j ((mv_en hT (by decide)).m (fun q1 h1 => HH.j ((hE _ _ _ _).m (fun r hr => HH.j ((mv_wa hT (by decide)).m (fun q2 h2 => HH.t ?_))))))
    obtain ⟨a1, a2⟩ := hr
    rw [s0] at a2
    refine ⟨by show pl ch q + 1 ≤ pl ch q2; omega, ?_⟩
    show wks L ((r.2 ++ [(ask, 0, plc r.2 _, [])]) ++ [(work, 0, (pl ch q : Int), [])]) + pl ch q + L ≤ wks L c + pl ch q2
    rw [wks_p _ hw, wks_a _ ha]
    omega
  unfold sB
  refine HH.f (fun g => ?_) (fun _ => HH.f (fun g => ?_) (fun _ => HH.f (fun g => ?_) (fun _ => HH.f (fun g => ?_) (fun _ => HH.f (fun g => ?_) (fun _ => HH.f (fun g => ?_) (fun _ => HH.f (fun g => ?_) (fun _ => HH.f (fun g => ?_) (fun _ => HH.f (fun g => w 29 12 (by decide) (by unfold wp; decide) (by omega)) (fun _ => HH.f (fun g => w 27 13 (by decide) (by unfold wp; decide) (by omega)) (fun _ => HH.z))))))))))
  · refine HH.j ((mv_en hT (by decide)).m (fun q1 h1 => HH.j ((hE _ _ _ _).m (fun r hr => HH.j ((mv_wa hT (by decide)).m (fun q2 h2 => HH.t ?_))))))
    obtain ⟨a1, a2⟩ := hr
    rw [s0] at a2
    exact ⟨by show pl ch q + 1 ≤ pl ch q2; omega, by show wks L r.2 + pl ch q + L ≤ wks L c + pl ch q2; omega⟩
  · refine HH.j ((kd_li hT hE (by decide) (by decide) (by omega)).m (fun r hr => HH.t ?_))
    obtain ⟨a1, a2⟩ := hr
    rw [s0] at a2
    refine ⟨by show pl ch q + 1 ≤ pl ch r.2.1; omega, ?_⟩
    show wks L (r.2.2 ++ [((10, (r.1 : Int), plc r.2.2 c.length, []) : Ins)]) + pl ch q + L ≤ wks L c + pl ch r.2.1
    rw [wks_p _ (by unfold wp; decide)]
    omega
  · unfold sBlock
    refine HH.j ((mv_en hT (by decide)).m (fun q1 h1 => HH.j ((hE _ _ _ _).m (fun r hr => (kd_b1 hT hE _ _ _).m (fun b hb => ?_)))))
    obtain ⟨a1, a2⟩ := hr
    rw [s0] at a2
    exact ⟨by have := hb.1; omega, by have := hb.2; omega⟩
  · have := pl_nx hT (q := q) (by omega)
    refine HH.t ⟨this, ?_⟩
    show wks L ((c ++ [(0, 1, (pl ch q : Int), [])]) ++ [(if slot sc (nm ch q) = -1 then 4 else 3, slot sc (nm ch q), (pl ch q : Int), [])]) + pl ch q + L ≤ wks L c + pl ch (nx ch q)
    rw [wks_p _ (by unfold wp; split <;> decide), s0]
    omega
  · unfold sDigits
    refine HH.f (fun _ => ?_) (fun _ => HH.z)
    have := pl_nx hT (q := q) (by omega)
    refine HH.t ⟨this, ?_⟩
    show wks L ((c ++ [(0, 1, (pl ch q : Int), [])]) ++ [(1, num ch q, (pl ch q : Int), [])]) + pl ch q + L ≤ wks L c + pl ch (nx ch q)
    rw [wks_p _ (by unfold wp; decide), s0]
    omega
  · have := pl_nx hT (q := q) (by omega)
    refine HH.t ⟨this, ?_⟩
    show wks L ((c ++ [(0, 1, (pl ch q : Int), [])]) ++ [(2, 1, (pl ch q : Int), [])]) + pl ch q + L ≤ wks L c + pl ch (nx ch q)
    rw [wks_p _ (by unfold wp; decide), s0]
    omega
  · have := pl_nx hT (q := q) (by omega)
    refine HH.t ⟨this, ?_⟩
    show wks L ((c ++ [(0, 1, (pl ch q : Int), [])]) ++ [(2, 0, (pl ch q : Int), [])]) + pl ch q + L ≤ wks L c + pl ch (nx ch q)
    rw [wks_p _ (by unfold wp; decide), s0]
    omega
  · have hx := pl_nx hT (q := q) (by omega)
    refine HH.j ((mv_en hT (by decide)).m (fun q1 h1 => HH.j ((hE _ _ _ _).m (fun r hr => HH.j ((mv_wa hT (by decide)).m (fun q2 h2 => HH.j ((hE _ _ _ _).m (fun s hs => HH.j ((mv_wa hT (by decide)).m (fun q3 h3 => HH.t ?_))))))))))
    obtain ⟨a1, a2⟩ := hr
    obtain ⟨b1, b2⟩ := hs
    rw [s0] at a2
    rw [wks_a _ (by decide)] at b2
    refine ⟨by show pl ch q + 1 ≤ pl ch q3; omega, ?_⟩
    show wks L (s.2 ++ [((11, 0, (pl ch q : Int), []) : Ins)]) + pl ch q + L ≤ wks L c + pl ch q3
    rw [wks_p _ (by unfold wp; decide)]
    omega
theorem kd_u (hT : TXT ch n) (hL : L ≤ 1) (hE : KDE L ch E) (hP : KDF L ch P) {o : Int} {sc : List Nm} {q : Nat} {c : List Ins} : HH True (KDP L ch q c 1 L) (sU ch P E o sc q c) := by
  unfold sU
  exact HH.f (fun g => hP _ _ _ _ _ _ (by decide) (by unfold wp; decide) (by omega)) (fun _ => HH.f (fun g => hP _ _ _ _ _ _ (by decide) (by unfold wp; decide) (by omega)) (fun _ => HH.j ((kd_b hT hL hE).m (fun r hr => (kd_u1 hT hL hE _ _ _ _).m (fun b hb => ⟨by have := hb.1; have := hr.1; omega, by have := hb.2; have := hr.2; omega⟩)))))
theorem kd_e1 (hT : TXT ch n) (hL : L ≤ 1) (hE : KDE L ch E) (hP : KDF L ch P) : KDE L ch (sE1 ch P E) := by
  intro o sc q c
  have s0 : wks L (c ++ [((0, 1, (pl ch q : Int), []) : Ins)]) = wks L c := wks_z _ (by unfold wz; decide)
  unfold sE1
  refine HH.f (fun _ => ?_) (fun _ => HH.f (fun _ => ?_) (fun _ => ?_))
  · unfold sLet
    refine HH.j ((mv_en hT (by decide)).m (fun q1 h1 => HH.j ((mv_wa hT (by decide)).m (fun q2 h2 => HH.j ((mv_co hT _ _).m (fun kq hk => HH.j ((mv_wa hT (by decide)).m (fun q3 h3 => HH.j ((hE _ _ _ _).m (fun r hr => HH.j ((mv_wa hT (by decide)).m (fun q4 h4 => (hE _ _ _ _).m (fun a ha => ?_)))))))))))))
    obtain ⟨a1, a2⟩ := hr
    obtain ⟨b1, b2⟩ := ha
    rw [s0] at a2
    rw [wks_z _ (by unfold wz; decide)] at b2
    obtain ⟨kq1, kd⟩ := kq
    have hk : pl ch q2 ≤ pl ch kq1 := hk
    have h3 : pl ch kq1 + 1 ≤ pl ch q3 := h3
    cases kd with
    | none =>
      have b2 : wks L a.2 + pl ch q4 + L ≤ wks L r.2 + pl ch a.1 := b2
      exact ⟨by omega, by omega⟩
    | some kd =>
      have b2 : wks L a.2 + pl ch q4 + L ≤ wks L (r.2 ++ [((34, 0, plc r.2 (c.length + 1), kd) : Ins)]) + pl ch a.1 := b2
      rw [wks_a _ (by decide)] at b2
      exact ⟨by omega, by omega⟩
  · unfold sIf
    refine HH.j ((mv_en hT (by decide)).m (fun q1 h1 => HH.j ((hE _ _ _ _).m (fun r hr => HH.j ((mv_wa hT (by decide)).m (fun q2 h2 => HH.j ((hE _ _ _ _).m (fun s hs => HH.j ((mv_wa hT (by decide)).m (fun q3 h3 => HH.j ((hE _ _ _ _).m (fun t ht => HH.t ?_))))))))))))
    obtain ⟨a1, a2⟩ := hr
    obtain ⟨b1, b2⟩ := hs
    obtain ⟨d1, d2⟩ := ht
    rw [s0] at a2
    rw [wks_z _ (by unfold wz; decide), wks_a _ (by decide)] at b2
    rw [wks_setx, wks_z _ (by unfold wz; decide), wks_a _ (by decide)] at d2
    refine ⟨by show pl ch q + 1 ≤ pl ch t.1; omega, ?_⟩
    show wks L (setx _ _ _) + pl ch q + L ≤ wks L c + pl ch t.1
    rw [wks_setx, wks_p _ (by unfold wp; decide), wks_a _ (by decide)]
    omega
  · unfold sC
    exact HH.j ((kd_u hT hL hE hP).m (fun r hr => (kd_c1 hT hL (fun _ _ => kd_u hT hL hE hP) _ _ _ _ _ [] _ _).m (fun a ha => ⟨by have := hr.1; have := ha.1; omega, by have h2 : wks L a.2 + pl ch r.1 ≤ wks L r.2 + 0 + pl ch a.1 := ha.2; have := hr.2; omega⟩)))
theorem kd_pre (hT : TXT ch n) (hL : L ≤ 1) (hE : KDE L ch E) (hP : KDF L ch P) : KDF L ch (sPre ch P E) := by
  intro a b o sc q c ha hb hq
  have s0 : wks L (c ++ [((0, 1, (pl ch q : Int), []) : Ins)]) = wks L c := wks_z _ (by unfold wz; decide)
  unfold sPre
  refine HH.j ((mv_en hT hq).m (fun q1 h1 => HH.j ((kd_u hT hL hE hP).m (fun r hr => HH.t ?_))))
  obtain ⟨a1, a2⟩ := hr
  rw [s0] at a2
  refine ⟨by show pl ch q + 1 ≤ pl ch r.1; omega, ?_⟩
  show wks L ((r.2 ++ [(a, 0, _, [])]) ++ [(b, 0, _, [])]) + pl ch q + L ≤ wks L c + pl ch r.1
  rw [wks_p _ hb, wks_a _ ha]
  omega
end RECK
theorem kd_ep (hT : TXT ch n) (hL : L ≤ 1) : ∀ m, KDF L ch (sEP ch m).1 ∧ KDE L ch (sEP ch m).2 := by
  intro m
  induction m with
  | zero => exact ⟨fun _ _ _ _ _ _ _ _ _ => HH.z, fun _ _ _ _ => HH.z⟩
  | succ m ih => exact ⟨kd_pre hT hL ih.2 ih.1, kd_e1 hT hL ih.2 ih.1⟩
theorem kd_par (hT : TXT ch n) : ∀ k ps q, HH True (fun a => pl ch q ≤ pl ch a.1) (sPar1 ch k ps q) := by
  intro k
  induction k with
  | zero => intro ps q; rw [sPar1]; exact HH.j ((mv_wa hT (by decide)).m (fun q1 h1 => HH.t (show pl ch q ≤ pl ch q1 by omega)))
  | succ k ih =>
    intro ps q
    rw [sPar1]
    refine HH.f (fun _ => HH.j ((mv_wa hT (by decide)).m (fun q1 h1 => HH.t (show pl ch q ≤ pl ch q1 by omega)))) (fun _ => HH.f (fun _ => HH.z) (fun _ => HH.j ((mv_wa hT (by decide)).m (fun q1 h1 => HH.j ((mv_co hT _ _).m (fun kq hk => ?_))))))
    refine HH.f (fun g => (ih _ _).m (fun a ha => ?_)) (fun _ => HH.j ((mv_wa hT (by decide)).m (fun q2 h2 => HH.t ?_)))
    · have := pl_nx hT (q := kq.1) (by omega)
      omega
    · show pl ch q ≤ pl ch q2
      omega
theorem pl_nn (hT : TXT ch n) {q : Nat} (h : ¬ ty ch q = 257) : pl ch (nx ch q) ≤ n := by
  have := pl_lt hT h
  refine pl_le hT ?_
  rw [← nx_pl hT]
  exact nx_le hT (by omega)
theorem mv_wn (hT : TXT ch n) {t : Int} {q : Nat} (ht : ¬ t = 257) : HH True (fun q1 => pl ch q + 1 ≤ pl ch q1 ∧ pl ch q1 ≤ n) (sWant ch t q) := HH.f (fun g => HH.t ⟨pl_nx hT (by omega), pl_nn hT (by omega)⟩) (fun _ => HH.z)
theorem kd_part (hT : TXT ch n) (hL : L ≤ 1) (k q : Nat) (c : List Ins) (hq : ¬ ty ch q = 257) : HH True (fun r : Pt × Out => pl ch q + 1 ≤ pl ch r.2.1 ∧ pl ch r.2.1 ≤ n ∧ wks L r.2.2 + pl ch q ≤ wks L c + pl ch r.2.1) (sPart ch k q c) := by
  have hx := pl_nx hT (q := q) hq
  unfold sPart sHead sOwn sEnd
  refine HH.j ((mv_wa hT (by decide)).m (fun q2 h2 => HH.j (HH.j ((mv_en hT (by decide)).m (fun q3 h3 => (kd_par hT _ _ _).m (fun pr hpr => HH.j (HH.j ((mv_co hT _ _).m (fun kq hk => HH.j ((mv_wa hT (by decide)).m (fun q5 h5 => HH.t (HH.j (((kd_ep hT hL 64).2 _ _ _ _).m (fun r hr => HH.j (HH.j ((mv_wn hT (by decide)).m (fun q6 h6 => HH.t (HH.t ?_))))))))))))))))))
  obtain ⟨a1, a2⟩ := hr
  have a1 : pl ch q5 + 1 ≤ pl ch r.1 := a1
  have a2 : wks L r.2 + pl ch q5 + L ≤ wks L c + pl ch r.1 := a2
  refine ⟨by show pl ch q + 1 ≤ pl ch q6; omega, h6.2, ?_⟩
  show wks L ((r.2 ++ [(35, (k : Int), _, [])]) ++ [(17, 0, _, [])]) + pl ch q ≤ wks L c + pl ch q6
  rw [wks_z _ (by unfold wz; decide), wks_a _ (by decide)]
  omega
/-- a whole text -/
theorem kd_parts (hT : TXT ch n) (hL : L ≤ 1) : ∀ (k : Nat) (ps : List Pt) (q : Nat) (c : List Ins) (ps1 : List Pt) (c1 : List Ins), pl ch q ≤ n → sParts ch k ps q c = some (ps1, c1) → wks L c1 + pl ch q ≤ wks L c + n := by
  intro k
  induction k with
  | zero => intro ps q c ps1 c1 _ h; rw [sParts] at h; exact absurd h.symm (Option.some_ne_none _)
  | succ k ih =>
    intro ps q c ps1 c1 hq h
    rw [sParts] at h
    by_cases g : ty ch q = 261
    · rw [if_pos g] at h
      by_cases g1 : ps.length < 40
      · rw [if_pos g1] at h
        cases e : sPart ch ps.length q c with
        | none => rw [e] at h; exact absurd h.symm (Option.some_ne_none _)
        | some r =>
          rw [e] at h
          obtain ⟨h1, h2, h3⟩ := (kd_part hT hL ps.length q c (by omega)).2 r e
          have := ih _ _ _ _ _ h2 h
          omega
      · rw [if_neg g1] at h; exact absurd h.symm (Option.some_ne_none _)
    · rw [if_neg g] at h
      by_cases g1 : ty ch q = 257
      · rw [if_pos g1] at h
        have e := (Prod.mk.inj (Option.some.inj h)).2
        rw [← e]
        omega
      · rw [if_neg g1] at h; exact absurd h.symm (Option.some_ne_none _)
/-- how often a text asks and lays -/
theorem kd_all (hT : TXT ch n) {ps : List Pt} {c : List Ins} (h : sParts ch 41 [] 0 [] = some (ps, c)) : wks 1 c ≤ n ∧ wks 0 c ≤ n := by
  have a1 := kd_parts (L := 1) hT (Nat.le_refl _) _ _ _ _ _ _ (pl_le hT (Nat.zero_le n)) h
  have a0 := kd_parts (L := 0) hT (Nat.zero_le _) _ _ _ _ _ _ (pl_le hT (Nat.zero_le n)) h
  have z1 : wks 1 [] = 0 := rfl
  have z0 : wks 0 [] = 0 := rfl
  omega
end COSK
