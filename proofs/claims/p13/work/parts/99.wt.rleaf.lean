/-! the reference reads what stands alone: numbers, truths, names -/
/-- behind an operand's beginning -/
def CBq (ch : Tx) (n : Nat) (X : St) (o : Int) (sc : List Nm) (j N : Nat) (c0 : List Ins) (NM : Prop) (Q : Int32 → St → Prop) (a : Out) : Prop := ∀ Y, ER ch n X o sc (j + 1) N c0 a Y → (Y.1 0 23).toInt = 2 → ((¬ (Y.1 20 (ix (Y.1 0 24))).toInt = 10 ∧ ¬ (Y.1 20 (ix (Y.1 0 24))).toInt = 11 ∧ ¬ (Y.1 20 (ix (Y.1 0 24))).toInt = 14) ∧ ((Y.1 20 (ix (Y.1 0 24))).toInt = 3 ↔ NM)) → pr Y Q
theorem NMn {v : Int32} {NM : Prop} (h : ¬ NM) (hk : ¬ v.toInt = 10 ∧ ¬ v.toInt = 11 ∧ ¬ v.toInt = 14) (h3 : ¬ v.toInt = 3) : (¬ v.toInt = 10 ∧ ¬ v.toInt = 11 ∧ ¬ v.toInt = 14) ∧ (v.toInt = 3 ↔ NM) := ⟨hk, fun z => absurd z h3, fun z => absurd z h⟩
section RLEAF
variable {ch : Tx} {n q : Nat} {X Y Z X0 : St} {o : Int} {sc : List Nm} {j N s N0 : Nat} {Q : Int32 → St → Prop} {c c0 c1 : List Ins} {NM : Prop}
theorem b_done {r : Int32} {t N1 q1 : Nat} (hZ : XS ch n Z q1 o sc (j + 1) N1) (hM : NMr ch Z N1 c1) (hK : KP X Z (j + 1) N sc.length) (hr : r.toInt = (t : Int)) (ht : N ≤ t ∧ t < N1) (hk : (¬ (Z.1 20 t).toInt = 10 ∧ ¬ (Z.1 20 t).toInt = 11 ∧ ¬ (Z.1 20 t).toInt = 14) ∧ ((Z.1 20 t).toInt = 3 ↔ NM)) (hO : ∃ d, c1 = c0 ++ d ∧ OM ch Z N N1 t c0.length d) (C : CBq ch n X o sc j N c0 NM Q (q1, c1)) : pw (f_done r Z) (fun _ W => pr W Q) := by
  unfold f_done
  refine pw_eq (fun X1 e1 => ?_)
  refine pw_eq (fun X2 e2 => ?_)
  refine pw_ret ?_
  have g : XS ch n X2 q1 o sc (j + 1) N1 := by rw [e2, e1]; exact (hZ.wI (by omega)).wI (by omega)
  have h24 : X2.1 0 24 = r := by rw [e2, wI_ne _ _ _ _ _ _ (by omega), e1, wI_at]
  have h23 : (X2.1 0 23).toInt = 2 := by rw [e2, wI_at]; decide
  have h20 : X2.1 20 t = Z.1 20 t := by rw [e2, wI_ne _ _ _ _ _ _ (by omega), e1, wI_ne _ _ _ _ _ _ (by omega)]
  obtain ⟨d, ed, od⟩ := hO
  refine C X2 ⟨N1, t, g, ?_, ?_, by rw [h24]; exact hr, ht.1, ht.2, d, ed, od.rows (fun e k he _ => by rw [e2, wI_ne _ _ _ _ _ _ (by omega), e1, wI_ne _ _ _ _ _ _ (by omega)]) (fun k => by rw [e2, e1]; rfl) hZ.kj⟩ h23 (by rw [h24, ixn hr, h20]; exact hk)
  · rw [e2, e1]
    exact (hM.wI (by omega)).wI (by omega)
  · rw [e2, e1]
    exact (hK.wI (by unfold KPs; omega)).wI (by unfold KPs; omega)
theorem x_make21 (h : XS ch n X q o sc j N) (p1 p2 : Int32) : pw (f_make p1 p2 X) (fun _ Y => Y.1 21 N = p2) := by
  have hN : ix (X.1 0 19) = N := ixn h.2.2.2.2
  unfold f_make
  refine pw_let (pw_let (pw_eq (fun x3 e3 => pw_eq (fun X4 e4 => ?_))))
  rw [hN]
  refine pw_ck (fun _ => pw_eq (fun X5 e5 => ?_))
  refine pw_ck (fun _ => pw_eq (fun X6 e6 => ?_))
  refine pw_ck (fun _ => pw_eq (fun X7 e7 => ?_))
  refine pw_ck (fun _ => pw_eq (fun X8 e8 => ?_))
  refine pw_ck (fun _ => pw_eq (fun X9 e9 => ?_))
  refine pw_ck (fun _ => pw_eq (fun X10 e10 => ?_))
  refine pw_ck (fun _ => pw_eq (fun X11 e11 => ?_))
  refine pw_ck (fun _ => pw_eq (fun X12 e12 => ?_))
  refine pw_ck (fun _ => pw_eq (fun X13 e13 => ?_))
  refine pw_ck (fun _ => pw_eq (fun X14 e14 => ?_))
  refine pw_ck (fun _ => pw_eq (fun X15 e15 => ?_))
  refine pw_ret ?_
  rw [e15, wI_ne _ _ _ _ _ _ (by omega), e14]
  show X13.1 21 N = _
  rw [e13, wI_ne _ _ _ _ _ _ (by omega), e12, wI_ne _ _ _ _ _ _ (by omega), e11, wI_ne _ _ _ _ _ _ (by omega), e10, wI_ne _ _ _ _ _ _ (by omega), e9, wI_ne _ _ _ _ _ _ (by omega), e8, wI_ne _ _ _ _ _ _ (by omega), e7, wI_ne _ _ _ _ _ _ (by omega), e6, wI_at]
theorem nvr_nn (ch : Tx) (a : Nat) : ∀ k, (∀ i, i < k → 48 ≤ ch (a + i)) → 0 ≤ nvr ch a k := by
  intro k
  induction k with
  | zero => exact fun _ => Int.le_refl _
  | succ k ih =>
    intro h
    have h1 := ih (fun i hi => h i (by omega))
    have h2 := h k (by omega)
    rw [nvr]
    split <;> omega
theorem num_nn (hT : TXT ch n) (q : Nat) : 0 ≤ num ch q := by
  unfold num
  refine nvr_nn ch _ _ (fun i hi => ?_)
  have hs := RN_sp (P := isDg) hT (by decide) (pl ch q)
  have := hs.2.1 (pl ch q + i) (by omega) (by unfold de at hi; omega)
  exact ((isDg_iff _).mp this).1
theorem b_number (h : XS ch n X q o sc (j + 1) N) (hM : NMr ch X N c) (ht : ty ch q = 259) (hnm : ¬ NM) {p1 : Int32} (hp1 : p1.toInt = (pl ch q : Int)) (hc : c = c0 ++ [(0, 1, (pl ch q : Int), [])]) (H : HH (DQ Q) (CBq ch n X o sc j N c0 NM Q) (sDigits ch q c)) : pw (f_number p1 X) (fun _ Z => pr Z Q) := by
  have tk : (num ch q < 2147483648 ∧ (X.2.1 0 47).toInt = num ch q) ∨ (num ch q = 2147483648 ∧ 2147483648 ≤ (X.2.1 0 47).toInt) := by
    obtain ⟨_, _, t⟩ := h.tk
    omega
  have lmx : (2147483647 : Int64).toInt = 2147483647 := by decide
  unfold sDigits at H
  unfold f_number
  refine pw_let (pw_let ?_)
  have hcl : (lg_cmp (X.2.1 0 47) 2147483647).toInt ≤ 0 ↔ (X.2.1 0 47).toInt ≤ 2147483647 := by rw [cmpL, lmx]
  refine pw_ite (fun c1 => ?_) (fun c1 => ?_)
  · have H := (H.p (show num ch q < 2147483648 by have := hcl.mp c1; omega)).s
    refine pw_bd (pw_and (x_make h 0 p1) (x_make21 h 0 p1)) ?_
    rintro x3 X4 ⟨⟨⟨hr, hi⟩, g4, m4⟩, p4⟩
    refine pw_let (pw_let ?_)
    rw [hi]
    refine pw_ck (fun _ => ?_)
    refine pw_eq (fun X7 e7 => ?_)
    have g7 : XS ch n X7 q o sc (j + 1) (N + 1) := by rw [e7]; exact g4.wI (by omega)
    have k7 : KP X X7 (j + 1) N sc.length := by rw [e7]; exact (KP.rf.mk m4 (Nat.le_refl _)).wI (by unfold KPs; omega)
    have n7 : NMr ch X7 (N + 1) c := by rw [e7]; exact (hM.mk m4 (by decide)).wI (by omega)
    have h20 : X7.1 20 N = 0 := by rw [e7, wI_ne _ _ _ _ _ _ (by omega)]; exact m4.2.2.1
    have h21 : X7.1 21 N = p1 := by rw [e7, wI_ne _ _ _ _ _ _ (by omega)]; exact p4
    have h26 : (X7.1 26 N).toInt = num ch q := by
      rw [e7, wI_at]
      rcases tk with ⟨tk1, tk2⟩ | tk
      · have e47 : (X4.2.1 0 47).toInt = num ch q := by rw [m4.2.1 0 47 (by omega)]; exact tk2
        have hn := num_nn h.tx q
        rw [Int64.toInt_toInt32]
        exact (Int.bmod_eq_of_le (by omega) (by omega)).trans e47
      · exact absurd (hcl.mp c1) (by omega)
    refine pw_bd (x_next g7) ?_
    rintro _ X8 ⟨g8, t8⟩
    have O8 : ∃ d, c ++ [(1, num ch q, (pl ch q : Int), [])] = c0 ++ d ∧ OM ch X8 N (N + 1) N c0.length d := by
      refine ⟨[(0, 1, (pl ch q : Int), []), (1, num ch q, (pl ch q : Int), [])], by rw [hc, List.append_assoc]; rfl, OM.in ⟨Nat.le_refl _, by omega, ?_, Or.inl (Or.inl ⟨?_, ?_⟩)⟩⟩
      · unfold iv
        rw [t8.r 21 N (by decide), h21, hp1]
        rfl
      · unfold iv
        rw [t8.r 20 N (by decide), h20]
        rfl
      · unfold iv
        rw [t8.r 21 N (by decide), h21, hp1, t8.r 26 N (by decide), h26]
    refine pw_bd (b_done (X := X) (N := N) (t := N) (c1 := c ++ [(1, num ch q, (pl ch q : Int), [])]) g8 ((n7.tn t8).cd (fun p => NPl.snoc (show ¬ (1 : Int) = 4 by decide))) (k7.tn t8) hr ⟨Nat.le_refl _, by omega⟩ ?_ O8 H) (fun _ W hW => pw_ret hW)
    rw [t8.r 20 N (by decide), h20]
    exact NMn hnm (by decide) (by decide)
  · have H := (H.q (show ¬ num ch q < 2147483648 from fun g => c1 (hcl.mpr (by omega)))).n
    exact pw_bd (q_fails X (by decide)) (fun _ W d => pw_ret (pr_dd d H))
theorem b_truth (h : XS ch n X q o sc (j + 1) N) (hM : NMr ch X N c) {p1 : Int32} (hnm : ¬ NM) (hty : ty ch q = 267 ∨ ty ch q = 268) (hp1 : p1.toInt = (pl ch q : Int)) (hc : c = c0 ++ [(0, 1, (pl ch q : Int), [])]) (C : CBq ch n X o sc j N c0 NM Q (nx ch q, c ++ [(2, if ty ch q = 267 then 1 else 0, (pl ch q : Int), [])])) : pw (f_operand_113 p1 X) (fun _ Z => pr Z Q) := by
  unfold f_operand_113
  refine pw_bd (pw_and (x_make h 1 p1) (x_make21 h 1 p1)) ?_
  rintro x19 X20 ⟨⟨⟨hr, hi⟩, g20, m20⟩, p20⟩
  have rest : ∀ b : Int32, b.toInt = (if ty ch q = 267 then 1 else 0) → pw (f_operand_141 x19 b x19 X20) (fun _ Z => pr Z Q) := by
    intro b hb
    unfold f_operand_141
    rw [hi]
    refine pw_ck (fun _ => ?_)
    refine pw_eq (fun X7 e7 => ?_)
    have g7 : XS ch n X7 q o sc (j + 1) (N + 1) := by rw [e7]; exact g20.wI (by omega)
    have k7 : KP X X7 (j + 1) N sc.length := by rw [e7]; exact (KP.rf.mk m20 (Nat.le_refl _)).wI (by unfold KPs; omega)
    have n7 : NMr ch X7 (N + 1) c := by rw [e7]; exact (hM.mk m20 (by decide)).wI (by omega)
    have h20 : X7.1 20 N = 1 := by rw [e7, wI_ne _ _ _ _ _ _ (by omega)]; exact m20.2.2.1
    have h21 : X7.1 21 N = p1 := by rw [e7, wI_ne _ _ _ _ _ _ (by omega)]; exact p20
    have h26 : X7.1 26 N = b := by rw [e7, wI_at]
    refine pw_bd (x_next g7) ?_
    rintro _ X8 ⟨g8, t8⟩
    have O8 : ∃ d, c ++ [(2, if ty ch q = 267 then 1 else 0, (pl ch q : Int), [])] = c0 ++ d ∧ OM ch X8 N (N + 1) N c0.length d := by
      refine ⟨[(0, 1, (pl ch q : Int), []), (2, if ty ch q = 267 then 1 else 0, (pl ch q : Int), [])], by rw [hc, List.append_assoc]; rfl, OM.in ⟨Nat.le_refl _, by omega, ?_, Or.inl (Or.inr (Or.inl ⟨?_, ?_⟩))⟩⟩
      · unfold iv
        rw [t8.r 21 N (by decide), h21, hp1]
        rfl
      · unfold iv
        rw [t8.r 20 N (by decide), h20, t8.r 26 N (by decide), h26, hb]
        refine ⟨rfl, ?_⟩
        by_cases z : ty ch q = 267
        · rw [if_pos z]; exact Or.inr rfl
        · rw [if_neg z]; exact Or.inl rfl
      · unfold iv
        rw [t8.r 21 N (by decide), h21, hp1, t8.r 26 N (by decide), h26, hb]
    refine pw_bd (b_done (X := X) (N := N) (t := N) (c1 := c ++ [(2, if ty ch q = 267 then 1 else 0, (pl ch q : Int), [])]) g8 ((n7.tn t8).cd (fun p => NPl.snoc (show ¬ (2 : Int) = 4 by decide))) (k7.tn t8) hr ⟨Nat.le_refl _, by omega⟩ ?_ O8 C) (fun _ W hW => pw_ret hW)
    rw [t8.r 20 N (by decide), h20]
    exact NMn hnm (by decide) (by decide)
  have k6 : (6 : Int64).toInt = 6 := by decide
  have told : (X20.2.1 0 47).toInt = ty ch q - 261 := by
    obtain ⟨_, _, t⟩ := g20.tk
    omega
  have L : (lg_cmp (X20.2.1 0 47) 6).toInt = 0 ↔ (X20.2.1 0 47).toInt = 6 := by rw [cmp0, ← Int64.toInt_inj, k6]
  refine pw_let (pw_let ?_)
  refine pw_ite (fun z => rest 1 ?_) (fun z => rest 0 ?_)
  · have := L.mp z
    rw [if_pos (by omega)]
    decide
  · have : ¬ (X20.2.1 0 47).toInt = 6 := fun w => z (L.mpr w)
    rw [if_neg (by omega)]
    decide
theorem slot_lt : ∀ (sc : List Nm) (l : Nm), (slot sc l = -1 ∧ ¬ l ∈ sc) ∨ (0 ≤ slot sc l ∧ l ∈ sc) := by
  intro sc l
  induction sc with
  | nil => exact Or.inl ⟨rfl, List.not_mem_nil⟩
  | cons x xs ih =>
    by_cases e : x = l
    · refine Or.inr ⟨?_, by rw [e]; exact List.mem_cons_self⟩
      show 0 ≤ (if x = l then (xs.length : Int) else slot xs l)
      rw [if_pos e]
      omega
    · have e1 : slot (x :: xs) l = slot xs l := if_neg e
      rw [e1]
      rcases ih with ⟨a, b⟩ | ⟨a, b⟩
      · refine Or.inl ⟨a, fun g => ?_⟩
        rcases List.mem_cons.mp g with g | g
        · exact e g.symm
        · exact b g
      · exact Or.inr ⟨a, List.mem_cons_of_mem _ b⟩
/-- the name that stands at a place, from the first one on -/
theorem slot_no : ∀ (sc : List Nm) (l : Nm), (∀ k : Nat, k < sc.length → ¬ sc.reverse[k]? = some l) → slot sc l = -1 := by
  intro sc l h
  rcases slot_lt sc l with g | g
  · exact g.1
  · have hm : l ∈ sc.reverse := List.mem_reverse.mpr g.2
    obtain ⟨k, hk⟩ := List.getElem?_of_mem hm
    have := (List.getElem?_eq_some_iff.mp hk).1
    rw [List.length_reverse] at this
    exact absurd hk (h k this)
theorem slot_is : ∀ (sc : List Nm) (l : Nm) (k : Nat), sc.reverse[k]? = some l → (∀ k1 : Nat, k < k1 → k1 < sc.length → ¬ sc.reverse[k1]? = some l) → slot sc l = (k : Int) := by
  intro sc l
  induction sc with
  | nil =>
    intro k h _
    rw [List.reverse_nil, List.getElem?_nil] at h
    exact absurd h.symm (Option.some_ne_none _)
  | cons x xs ih =>
    intro k h hl
    have hk := (List.getElem?_eq_some_iff.mp h).1
    rw [List.length_reverse, List.length_cons] at hk
    rw [slot]
    rw [List.reverse_cons] at h hl
    have last : (xs.reverse ++ [x])[xs.length]? = some x := by
      rw [List.getElem?_append_right (by rw [List.length_reverse]; exact Nat.le_refl _), List.length_reverse, Nat.sub_self]
      rfl
    by_cases e : x = l
    · rw [if_pos e]
      by_cases ek : k = xs.length
      · rw [ek]
      · exact absurd (by rw [last, e]) (hl xs.length (by omega) (by rw [List.length_cons]; omega))
    · rw [if_neg e]
      have ek : k < xs.length := by
        by_cases ek : k = xs.length
        · rw [ek, last] at h
          exact absurd (Option.some.inj h) e
        · omega
      rw [List.getElem?_append_left (by rw [List.length_reverse]; exact ek)] at h
      refine ih k h (fun k1 x1 x2 z => hl k1 x1 (by rw [List.length_cons]; omega) ?_)
      rw [List.getElem?_append_left (by rw [List.length_reverse]; exact x2)]
      exact z
theorem SCR.at : ∀ (sc : List Nm), SCR X sc → ∀ k l, sc.reverse[k]? = some l → X.2.1 30 k = lN (p6 l) ∧ LT l ∧ l.length ≤ 8 := by
  intro sc
  induction sc with
  | nil => intro _ k l h; exact absurd h.symm (by rw [List.reverse_nil, List.getElem?_nil]; exact Option.some_ne_none _)
  | cons x xs ih =>
    rintro ⟨h1, h2⟩ k l h
    rw [List.reverse_cons, List.getElem?_append] at h
    rw [List.length_reverse] at h
    by_cases g : k < xs.length
    · rw [if_pos g] at h
      exact ih h2 k l h
    · rw [if_neg g] at h
      have hk : k = xs.length := by
        have := (List.getElem?_eq_some_iff.mp h).1
        rw [List.length_singleton] at this
        omega
      rw [hk, Nat.sub_self] at h
      have e : x = l := Option.some.inj h
      rw [hk, ← e]
      exact h1
/-- a name -/
theorem b_name (h : XS ch n X q o sc (j + 1) N) (hM : NMr ch X N c) (ht : ty ch q = 258) (hnm : NM ↔ slot sc (nm ch q) = -1) {p1 : Int32} (hp1 : p1.toInt = (pl ch q : Int)) (hc0 : c = c0 ++ [(0, 1, (pl ch q : Int), [])]) (C : CBq ch n X o sc j N c0 NM Q (sName ch sc q c)) : pw (f_named p1 X) (fun _ Z => pr Z Q) := by
  have hw := ty_word h.tx (q := q) ⟨by omega, by omega, by omega⟩
  have hlt : LT (nm ch q) := nm_lt h.tx q
  have tk : X.2.1 0 47 = lN (p6 (nm ch q)) := by
    obtain ⟨_, _, t⟩ := h.tk
    rcases t with t | t | t | t | t | t | t
    · omega
    · exact t.2.2.1
    all_goals omega
  have hpl : nm ch (pl ch q) = nm ch q := nm_pl h.tx q
  have c48 : ∀ (a2 b0 : Int32), (b0 = 3 ∧ slot sc (nm ch q) = -1 ∨ b0 = 2 ∧ 0 ≤ slot sc (nm ch q) ∧ a2.toInt = slot sc (nm ch q)) → pw (f_named_48 p1 a2 b0 X) (fun _ Z => pr Z Q) := by
    intro a2 b0 hb
    unfold f_named_48
    refine pw_bd (pw_and (x_make h b0 p1) (x_make21 h b0 p1)) ?_
    rintro x2 X3 ⟨⟨⟨hr, hi⟩, g3, m3⟩, p3⟩
    rw [hi]
    refine pw_ck (fun _ => ?_)
    refine pw_eq (fun X4 e4 => ?_)
    refine pw_let ?_
    refine pw_ck (fun _ => ?_)
    refine pw_eq (fun X6 e6 => ?_)
    have g6 : XS ch n X6 q o sc (j + 1) (N + 1) := by rw [e6, e4]; exact (g3.wI (by omega)).wL (by omega)
    have k6 : KP X X6 (j + 1) N sc.length := by rw [e6, e4]; exact ((KP.rf.mk m3 (Nat.le_refl _)).wI (by unfold KPs; omega)).wL (by omega)
    have h20 : X6.1 20 N = b0 := by
      rw [e6]
      show X4.1 20 N = b0
      rw [e4, wI_ne _ _ _ _ _ _ (by omega)]
      exact m3.2.2.1
    have o20 : ∀ i, i < N → X6.1 20 i = X.1 20 i := fun i hi => by
      rw [e6]
      show X4.1 20 i = _
      rw [e4, wI_ne _ _ _ _ _ _ (by omega)]
      exact m3.1 20 i (by omega) (by omega)
    have o29 : ∀ i, i < N → X6.2.1 29 i = X.2.1 29 i := fun i hi => by
      rw [e6, wL_ne _ _ _ _ _ _ (by omega), e4]
      exact m3.2.1 29 i (by omega)
    have h29 : X6.2.1 29 N = lN (p6 (nm ch q)) := by
      rw [e6, wL_at, e4]
      show X3.2.1 0 47 = _
      rw [m3.2.1 0 47 (by omega)]
      exact tk
    have o21 : ∀ i, i < N → X6.1 21 i = X.1 21 i := fun i hi => by
      rw [e6]
      show X4.1 21 i = _
      rw [e4, wI_ne _ _ _ _ _ _ (by omega)]
      exact m3.1 21 i (by omega) (by omega)
    have M6 := hM.cg o20 o29 o21
    have h21 : PLk ch (X6.1 21 N) := by
      have e21 : X6.1 21 N = p1 := by
        rw [e6]
        show X4.1 21 N = p1
        rw [e4, wI_ne _ _ _ _ _ _ (by omega)]
        exact p3
      rw [e21]
      refine ⟨by omega, ?_⟩
      rw [ixn hp1]
      exact fun z => absurd ((ty_end h.tx).mpr z) (by omega)
    have n6 : NMr ch X6 (N + 1) (sName ch sc q c).2 := by
      unfold sName
      show NMr ch X6 (N + 1) (c ++ [(if slot sc (nm ch q) = -1 then 4 else 3, slot sc (nm ch q), (pl ch q : Int), [])])
      rcases hb with ⟨hb, hs⟩ | ⟨hb, hs, _⟩
      · rw [if_pos hs]
        refine ⟨fun i hi hk => ?_, fun p hp => ?_⟩
        · by_cases e : i = N
          · rw [e]
            refine ⟨⟨(pl ch q : Int), ⟨_, List.mem_append.mpr (Or.inr (List.mem_singleton.mpr rfl)), rfl, rfl⟩, ?_⟩, h21⟩
            rw [h29, Int.toNat_natCast, hpl]
            exact ⟨rfl, hw.2.2.1⟩
          · obtain ⟨⟨p, hp, hl⟩, hz⟩ := M6.1 i (by omega) hk
            exact ⟨⟨p, NPl.app.mpr (Or.inl hp), hl⟩, hz⟩
        · rcases NPl.app.mp hp with hp | ⟨a, ha, _, hp⟩
          · obtain ⟨i, hi, hk, hl⟩ := M6.2 p hp
            exact ⟨i, by omega, hk, hl⟩
          · rw [List.mem_singleton.mp ha] at hp
            have hp : (pl ch q : Int) = p := hp
            refine ⟨N, by omega, by rw [h20, hb]; decide, ?_⟩
            rw [h29, ← hp, Int.toNat_natCast, hpl]
            exact ⟨rfl, hw.2.2.1⟩
      · rw [if_neg (by omega)]
        refine NMr.cd (c := c) ⟨fun i hi hk => ?_, fun p hp => ?_⟩ (fun p => NPl.snoc (show ¬ (3 : Int) = 4 by decide))
        · by_cases e : i = N
          · rw [e, h20, hb] at hk
            exact absurd hk (by decide)
          · exact M6.1 i (by omega) hk
        · obtain ⟨i, hi, hk, hl⟩ := M6.2 p hp
          exact ⟨i, by omega, hk, hl⟩
    have h21' : X6.1 21 N = p1 := by
      rw [e6]
      show X4.1 21 N = p1
      rw [e4, wI_ne _ _ _ _ _ _ (by omega)]
      exact p3
    have h26 : X6.1 26 N = a2 := by
      rw [e6]
      show X4.1 26 N = a2
      rw [e4, wI_at]
    refine pw_bd (x_next g6) ?_
    rintro _ X7 ⟨g7, t7⟩
    have i20 : iv X7 20 N = b0.toInt := by unfold iv; rw [t7.r 20 N (by decide), h20]
    have i21 : iv X7 21 N = (pl ch q : Int) := by unfold iv; rw [t7.r 21 N (by decide), h21', hp1]
    have i26 : iv X7 26 N = a2.toInt := by unfold iv; rw [t7.r 26 N (by decide), h26]
    have O7 : ∃ d, (sName ch sc q c).2 = c0 ++ d ∧ OM ch X7 N (N + 1) N c0.length d := by
      unfold sName
      refine ⟨[(0, 1, (pl ch q : Int), []), (if slot sc (nm ch q) = -1 then 4 else 3, slot sc (nm ch q), (pl ch q : Int), [])], by rw [hc0, List.append_assoc]; rfl, OM.in ⟨Nat.le_refl _, by omega, by rw [i21]; rfl, Or.inl ?_⟩⟩
      rcases hb with ⟨hb, hs⟩ | ⟨hb, hs, ha⟩
      · refine Or.inr (Or.inr (Or.inr ⟨by rw [i20, hb]; rfl, ?_, ?_⟩))
        · rw [if_pos hs, hs, i21]
        · rw [i21, Int.toNat_natCast, hpl, t7.2.1 29 N (by omega)]
          exact h29
      · refine Or.inr (Or.inr (Or.inl ⟨by rw [i20, hb]; rfl, ?_⟩))
        rw [if_neg (by omega), i21, i26, ha]
    refine pw_bd (b_done (X := X) (N := N) (t := N) g7 (n6.tn t7) (k6.tn t7) hr ⟨Nat.le_refl _, by omega⟩ ?_ O7 C) (fun _ W hW => pw_ret hW)
    rw [t7.r 20 N (by decide), h20]
    rcases hb with ⟨hb, hs⟩ | ⟨hb, hs, _⟩
    · rw [hb]
      exact ⟨by decide, fun _ => hnm.mpr hs, fun _ => by decide⟩
    · rw [hb]
      exact NMn (fun z => by have := hnm.mp z; omega) (by decide) (by decide)
  have h20 := h.2.2.1.1
  have l1 : (Int32.ofInt 1).toInt = 1 := by decide
  have loop : ∀ M, ∀ (a1 a2 a3 : Int32) (i : Nat), a1 = p1 → a3.toInt = (i : Int) → i ≤ sc.length → ((a2.toInt = -1 ∧ ∀ k : Nat, k < i → ¬ sc.reverse[k]? = some (nm ch q)) ∨ ∃ k : Nat, k < i ∧ a2.toInt = (k : Int) ∧ sc.reverse[k]? = some (nm ch q) ∧ ∀ k1 : Nat, k < k1 → k1 < i → ¬ sc.reverse[k1]? = some (nm ch q)) → pw (f_named_4 M a1 a2 a3 X) (fun _ Z => pr Z Q) := by
    intro M
    unfold f_named_4
    refine lp_ind (P := fun (r : Int32 → Int32 → Int32 → St → Option (Int32 × St)) => ∀ (a1 a2 a3 : Int32) (i : Nat), a1 = p1 → a3.toInt = (i : Int) → i ≤ sc.length → ((a2.toInt = -1 ∧ ∀ k : Nat, k < i → ¬ sc.reverse[k]? = some (nm ch q)) ∨ ∃ k : Nat, k < i ∧ a2.toInt = (k : Int) ∧ sc.reverse[k]? = some (nm ch q) ∧ ∀ k1 : Nat, k < k1 → k1 < i → ¬ sc.reverse[k1]? = some (nm ch q)) → pw (r a1 a2 a3 X) (fun _ Z => pr Z Q)) (fun _ _ _ _ _ _ _ _ => pw_none) (fun r ih a1 a2 a3 i h1 h3 hi h2 => ?_) M
    unfold f_named_4_s
    refine pw_let ?_
    refine pw_ite (fun c1 => ?_) (fun c1 => ?_)
    · have ei : i = sc.length := by omega
      rw [h1]
      rcases h2 with ⟨z1, z2⟩ | ⟨k, z0, z1, z2, z3⟩
      · have hs : slot sc (nm ch q) = -1 := slot_no sc _ (fun k hk => z2 k (by rw [ei]; exact hk))
        refine pw_ite (fun c2 => absurd c2 (by omega)) (fun c2 => c48 _ _ (Or.inl ⟨rfl, hs⟩))
      · have hs : slot sc (nm ch q) = (k : Int) := slot_is sc _ k z2 (fun k1 x1 x2 => z3 k1 x1 (by rw [ei]; exact x2))
        refine pw_ite (fun c2 => c48 _ _ (Or.inr ⟨rfl, by omega, by omega⟩)) (fun c2 => absurd (show 0 ≤ a2.toInt by omega) c2)
    · have hlen : i < sc.reverse.length := by rw [List.length_reverse]; omega
      have hi1 : i + 1 ≤ sc.length := by rw [List.length_reverse] at hlen; exact hlen
      have hat : sc.reverse[i]? = some sc.reverse[i] := List.getElem?_eq_getElem hlen
      obtain ⟨hx, hxl, hx8⟩ := SCR.at sc h.2.2.1.2 i _ hat
      refine pw_ck (fun hc => ?_)
      refine pw_let (pw_let (pw_let ?_))
      rw [ixn h3, hx, tk]
      have hcmp : (lg_cmp (lN (p6 sc.reverse[i])) (lN (p6 (nm ch q)))).toInt = 0 ↔ sc.reverse[i] = nm ch q := by
        rw [cmp0, pk_lEQ (by have := p6_lt hxl hx8; omega) (by have := p6_lt hlt hw.2.2.1; omega)]
        exact ⟨fun e => p6_inj hxl hlt e, fun e => by rw [e]⟩
      have hc2 := hc.2
      have stepv : (a3 + Int32.ofInt 1).toInt = ((i + 1 : Nat) : Int) := by rw [ti_add (by rw [h3, l1]; omega) (by rw [h3, l1]; omega), h3, l1]; omega
      unfold f_named_31
      refine pw_ite (fun c2 => ?_) (fun c2 => ?_)
      · exact pw_let (ih a1 a3 _ (i + 1) h1 stepv (by omega) (Or.inr ⟨i, by omega, h3, by rw [hat, hcmp.mp c2], fun k1 x1 x2 => absurd x2 (Nat.not_lt.mpr x1)⟩))
      · have no : ¬ sc.reverse[i]? = some (nm ch q) := by
          rw [hat]
          exact fun z => c2 (hcmp.mpr (Option.some.inj z))
        refine pw_let (ih a1 a2 _ (i + 1) h1 stepv hi1 ?_)
        rcases h2 with ⟨z1, z2⟩ | ⟨k, z0, z1, z2, z3⟩
        · exact Or.inl ⟨z1, fun k hk => (Nat.lt_succ_iff_lt_or_eq.mp hk).elim (fun y => z2 k y) (fun y => y ▸ no)⟩
        · exact Or.inr ⟨k, Nat.lt_succ_of_lt z0, z1, z2, fun k1 x1 x2 => (Nat.lt_succ_iff_lt_or_eq.mp x2).elim (fun y => z3 k1 x1 y) (fun y => y ▸ no)⟩
  unfold f_named
  exact loop BIG p1 (-1) 0 0 rfl rfl (Nat.zero_le _) (Or.inl ⟨rfl, fun k hk => absurd hk (Nat.not_lt_zero _)⟩)
end RLEAF
