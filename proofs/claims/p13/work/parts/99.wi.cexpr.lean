/-! the class reads an expression -/
def GAq (ch : Tx) (q : Nat) (c : List Ins) (k : Nat) (a : Out) : Prop := c.length ≤ a.2.length ∧ a.2.length + k + 3 * pl ch q ≤ c.length + 3 * pl ch a.1 ∧ pl ch q + 1 ≤ pl ch a.1 ∧ pl ch a.1 ≤ 3000
theorem len1 (c : List Ins) (a : Ins) : (c ++ [a]).length = c.length + 1 := by rw [List.length_append]; rfl
section CEX
variable {e n : Nat} {ch : Tx} {X0 : St}
def EH (e n : Nat) (ch : Tx) (X0 : St) (v : St → Option (Int32 × St)) (E : EF) : Prop :=
  ∀ {K : KB} (X : St) (q : Nat) (o : Int) (sc : List Nm) (ws : List Wt) (c : List Ins), RC e ch n X0 (0, K) X q o sc ws c → 0 ≤ o → o ≤ 40 → (sc.length : Int) ≤ 4 + o → (ws.length : Int) ≤ 3 * o → c.length ≤ 3 * pl ch q → pw (v X) (fun r Z => PO Z (E o sc q c) (fun a => RC e ch n X0 (0, K) Z a.1 o sc ws a.2 ∧ r.toInt = (c.length : Int) ∧ c.length + 1 ≤ a.2.length ∧ GAq ch q c 0 a))
def PH (e n : Nat) (ch : Tx) (X0 : St) (v : Int32 → Int32 → St → Option (Int32 × St)) (P : PFn) : Prop :=
  ∀ {K : KB} (p1 p2 : Int32) (a1 a2 : Int) (X : St) (q : Nat) (o : Int) (sc : List Nm) (ws : List Wt) (c : List Ins), p1.toInt = a1 → p2.toInt = a2 → (¬ a1 = 4 ∧ ¬ a1 = 34) → (¬ a2 = 4 ∧ ¬ a2 = 34) → RC e ch n X0 (0, K) X q o sc ws c → 0 ≤ o → o ≤ 40 → (sc.length : Int) ≤ 4 + o → (ws.length : Int) ≤ 3 * o + 3 → c.length ≤ 3 * pl ch q → (ty ch q = 45 ∨ ty ch q = 33) → pw (v p1 p2 X) (fun r Z => PO Z (P a1 a2 o sc q c) (fun a => RC e ch n X0 (0, K) Z a.1 o sc ws a.2 ∧ r.toInt = (c.length : Int) ∧ c.length + 1 ≤ a.2.length ∧ GAq ch q c 0 a))
variable {v_takePrefix : Int32 → Int32 → St → Option (Int32 × St)} {v_takeE : St → Option (Int32 × St)} {P : PFn} {E : EF}
variable {X : St} {q : Nat} {o : Int} {sc : List Nm} {ws : List Wt} {c : List Ins} {K : KB}
theorem l_emitStep (hR : RC e ch n X0 (0, K) X q o sc ws c) (hl : c.length < 9080) : pw (g_Reader_emitStep X) (fun r Z => r.toInt = (c.length : Int) ∧ RC e ch n X0 (0, K) Z q o sc ws (c ++ [(0, 1, (pl ch q : Int), [])])) := by
  unfold g_Reader_emitStep
  refine pw_ck (fun _ => ?_)
  refine pw_to hR.pe ?_
  refine pw_let ?_
  refine pw_bd (l_emit (kd := []) hR hl (a1 := 0) (a2 := 1) (by decide) (fun _ => by decide) hR.pl (fun g => absurd g (by decide))) ?_
  rintro x3 X4 ⟨⟨h3, -⟩, hR4⟩
  exact pw_ret ⟨h3, hR4⟩
theorem l_takeDigits (hR : RC e ch n X0 (0, K) X q o sc ws c) (ht : ty ch q = 259) (hc : c.length < 9080) : pw (g_Reader_takeDigits X) (fun _ Z => PO Z (sDigits ch q c) (fun a => RC e ch n X0 (0, K) Z a.1 o sc ws a.2 ∧ GAq ch q c 1 a)) := by
  have hnum := hR.2.1.2.1.2.2.2.2 ht
  have lmx : (2147483648 : Int64).toInt = 2147483648 := by decide
  unfold g_Reader_takeDigits sDigits
  refine pw_let ?_
  refine pw_let ?_
  refine pw_ifo (by rw [cmpT, hnum, lmx]) (fun c1 => ?_) (fun c1 => ?_)
  · refine pw_ck (fun _ => ?_)
    refine pw_to hR.pe ?_
    refine pw_let ?_
    refine pw_eq (fun x5 e5 => ?_)
    refine pw_let ?_
    have h5 : x5 = Int32.ofInt (num ch q) := by
      rw [e5, ← hnum]
      exact Int32.toInt_inj.mp ((Int64.toInt_toInt32 _).trans Int32.toInt_ofInt.symm)
    refine pw_bd (l_emit (kd := []) hR hc (a1 := 1) (a2 := num ch q) (by decide) (fun _ => h5) hR.pl (fun g => absurd g (by decide))) ?_
    rintro x7 X8 ⟨⟨h7, hl⟩, hR8⟩
    refine pw_bd (l_advance hR8 (by omega)) (fun _ X9 hR9 => ?_)
    have p1 := pl_nx hR.tx (q := q) (by omega)
    have p2 := hR9.pln
    refine pw_ret (PO.s ⟨hR9, ?_, ?_, ?_, ?_⟩)
    · show c.length ≤ (c ++ [((1, num ch q, (pl ch q : Int), []) : Ins)]).length
      omega
    · show (c ++ [((1, num ch q, (pl ch q : Int), []) : Ins)]).length + 1 + 3 * pl ch q ≤ c.length + 3 * pl ch (nx ch q)
      omega
    · exact p1
    · show pl ch (nx ch q) ≤ 3000
      omega
  · refine pw_bd (f_Reader_refuse X (by decide)) (fun _ X10 d => ?_)
    exact pw_ret (PO.n d)
theorem l_takeName (hR : RC e ch n X0 (0, K) X q o sc ws c) (ht : ty ch q = 258) (hc : c.length < 9080) (hs : sc.length ≤ 100) : pw (g_Reader_takeName X) (fun _ Z => RC e ch n X0 (0, K) Z (sName ch sc q c).1 o sc ws (sName ch sc q c).2 ∧ GAq ch q c 1 (sName ch sc q c)) := by
  have hw := ty_word hR.tx (q := q) (by omega)
  have hnm := hR.2.1.2.1.2.2.2.1 ht
  have hin := slot_in (nm ch q) sc
  have go : ∀ (x b : Int32) (t : Int), x.toInt = slot sc (nm ch q) → b.toInt = t → t = (if slot sc (nm ch q) = -1 then (4 : Int) else 3) → pw (g_Reader_takeName_26 x b e X) (fun _ Z => RC e ch n X0 (0, K) Z (sName ch sc q c).1 o sc ws (sName ch sc q c).2 ∧ GAq ch q c 1 (sName ch sc q c)) := by
    intro x b t hx hb hbt
    unfold g_Reader_takeName_26
    refine pw_let ?_
    have hpl := hR.pln
    refine pw_bd (l_emit (kd := []) hR hc (a1 := t) (a2 := slot sc (nm ch q)) hb (fun _ => ofI hx) hR.pl (fun _ => ⟨by omega, by omega, ?_⟩) (by rw [hbt]; split <;> decide)) ?_
    · show ty ch ((pl ch q : Int)).toNat = 258
      rw [Int.toNat_natCast, ty_pl hR.tx, ht]
    rintro x6 X7 ⟨⟨h7, hl⟩, hR7⟩
    refine pw_bd (l_advance hR7 (by omega)) (fun _ X8 hR8 => ?_)
    have p1 := pl_nx hR.tx (q := q) (by omega)
    have p2 := hR8.pln
    rw [hbt] at hR8 hl
    refine pw_ret ⟨hR8, ?_, ?_, ?_, ?_⟩
    · show c.length ≤ (c ++ [(((if slot sc (nm ch q) = -1 then (4 : Int) else 3), slot sc (nm ch q), (pl ch q : Int), []) : Ins)]).length
      omega
    · show (c ++ [(((if slot sc (nm ch q) = -1 then (4 : Int) else 3), slot sc (nm ch q), (pl ch q : Int), []) : Ins)]).length + 1 + 3 * pl ch q ≤ c.length + 3 * pl ch (nx ch q)
      omega
    · exact p1
    · show pl ch (nx ch q) ≤ 3000
      omega
  unfold g_Reader_takeName
  refine pw_let ?_
  refine pw_bd (l_slotOf hR hs (nm_lt hR.tx q) hw.2.2.1 hnm.1) ?_
  rintro x2 X3 ⟨rfl, h2⟩
  refine pw_ck (fun _ => ?_)
  refine pw_to hR.pe ?_
  refine pw_ite (fun c1 => ?_) (fun c1 => ?_)
  · exact go x2 4 4 h2 (by decide) (by rw [if_pos (by omega)])
  · exact go x2 3 3 h2 (by decide) (by rw [if_neg (by omega)])
theorem l_takeWork (zv_takePrefix : ∀ (p1 p2 : Int32) (X : St), fd X → pw (v_takePrefix p1 p2 X) (fun _ Y => fd Y)) (zv_takeE : ∀ (X : St), fd X → pw (v_takeE X) (fun _ Y => fd Y)) (hP : PH e n ch X0 v_takePrefix P) (hE : EH e n ch X0 v_takeE E) {p1 p2 : Int32} {a1 a2 : Int} (h1 : p1.toInt = a1) (h2 : p2.toInt = a2) (n1 : ¬ a1 = 4 ∧ ¬ a1 = 34) (n2 : ¬ a2 = 4 ∧ ¬ a2 = 34) (hR : RC e ch n X0 (0, K) X q o sc ws c) (ho : 0 ≤ o) (hs : (sc.length : Int) ≤ 4 + o) (hw : (ws.length : Int) ≤ 3 * o + 3) (hc : c.length ≤ 3 * pl ch q + 1) (ht : ¬ ty ch q = 257 ∧ ¬ ty ch q = 260) : pw (g_Reader_takeWork v_takePrefix v_takeE p1 p2 X) (fun _ Z => PO Z (sWork ch E o sc a1 a2 q c) (fun a => RC e ch n X0 (0, K) Z a.1 o sc ws a.2 ∧ GAq ch q c 1 a)) := by
  unfold g_Reader_takeWork sWork
  have hx1 := hR.pl
  refine pw_eq (fun x1 e1 => ?_)
  rw [← e1] at hx1
  have p0 := pl_nx hR.tx (q := q) ht.1
  refine pw_bd (l_advance hR ht.2) (fun _ X2 hR2 => ?_)
  refine pw_bo (l_enter hR2 (t := 40) (by decide) (by decide) ho) ?_ ?_
  · rintro _ X3 q1 ⟨hR3, -, p1, p2, p3⟩
    refine pw_bo (hE X3 q1 (o + 1) sc ws c hR3 (by omega) (by omega) (by omega) (by omega) (by omega)) ?_ ?_
    · rintro x4 X5 r ⟨hR5, h4, hl, g1, g2, g3, g4⟩
      refine pw_ck (fun _ => ?_)
      refine pw_to hR5.pe ?_
      refine pw_bd (l_placeOf hR5 h4 (by omega)) ?_
      rintro x7 X8 ⟨rfl, h7⟩
      refine pw_bd (l_emit (kd := []) hR5 (by omega) (a2 := 0) h1 (fun _ => by decide) h7 (fun g => absurd g n1.1) n1.2) ?_
      rintro x9 X10 ⟨⟨h9, hl1⟩, hR10⟩
      refine pw_bo (l_want hR10 (t := 41) (by decide) (by decide)) ?_ ?_
      · rintro _ X11 q2 ⟨hR11, -, p4, p5⟩
        refine pw_let ?_
        refine pw_let ?_
        refine pw_eq (fun X14 e14 => ?_)
        have hR14 := hR11.shut (by omega)
        rw [show o + 1 - 1 = o from by omega] at hR14
        rw [← e14] at hR14
        refine pw_ck (fun _ => ?_)
        refine pw_to hR14.pe ?_
        refine pw_bd (l_emit (kd := []) hR14 (by omega) (a2 := 0) h2 (fun _ => by decide) hx1 (fun g => absurd g n2.1) n2.2) ?_
        rintro x16 X17 ⟨⟨h16, hl2⟩, hR17⟩
        refine pw_ret (PO.s ⟨hR17, ?_, ?_, ?_, ?_⟩)
        · show c.length ≤ ((r.2 ++ [(a1, 0, plc r.2 c.length, [])]) ++ [(a2, 0, (pl ch q : Int), [])]).length
          omega
        · show ((r.2 ++ [(a1, 0, plc r.2 c.length, [])]) ++ [(a2, 0, (pl ch q : Int), [])]).length + 1 + 3 * pl ch q ≤ c.length + 3 * pl ch q2
          omega
        · show pl ch q + 1 ≤ pl ch q2
          omega
        · exact p5
      · intro _ X11 hd
        refine pw_eq (fun x12 _ => ?_)
        refine pw_eq (fun x13 _ => ?_)
        refine pw_eq (fun X14 eX14 => ?_)
        have dX14 : fd X14 := by rw [eX14]; exact fd_w hd (by decide)
        refine pw_ck (fun hck1 => ?_)
        refine pw_eq (fun e15 ee15 => ?_)
        have pke15 : PKo e15 := by rw [ee15]; exact refO_pk hck1
        have ne46_e15 : ¬ 46 = e15 := PKo.ne pke15
        refine pw_bd (z_Program_emit pke15 dX14) (fun x16 X17 dX17 => ?_)
        exact pw_ret dX17
    · intro x4 X5 hd
      refine pw_ck (fun hck1 => ?_)
      refine pw_eq (fun e6 ee6 => ?_)
      have pke6 : PKo e6 := by rw [ee6]; exact refO_pk hck1
      have ne46_e6 : ¬ 46 = e6 := PKo.ne pke6
      refine pw_bd (z_Reader_placeOf hd) (fun x7 X8 dX8 => ?_)
      refine pw_bd (z_Program_emit pke6 dX8) (fun x9 X10 dX10 => ?_)
      refine pw_bd (z_Reader_want dX10) (fun _ X11 dX11 => ?_)
      refine pw_eq (fun x12 _ => ?_)
      refine pw_eq (fun x13 _ => ?_)
      refine pw_eq (fun X14 eX14 => ?_)
      have dX14 : fd X14 := by rw [eX14]; exact fd_w dX11 (by decide)
      refine pw_ck (fun hck2 => ?_)
      refine pw_eq (fun e15 ee15 => ?_)
      have pke15 : PKo e15 := by rw [ee15]; exact refO_pk hck2
      have ne46_e15 : ¬ 46 = e15 := PKo.ne pke15
      refine pw_bd (z_Program_emit pke15 dX14) (fun x16 X17 dX17 => ?_)
      exact pw_ret dX17
  · intro _ X3 hd
    refine pw_bd (zv_takeE _ hd) (fun x4 X5 dX5 => ?_)
    refine pw_ck (fun hck1 => ?_)
    refine pw_eq (fun e6 ee6 => ?_)
    have pke6 : PKo e6 := by rw [ee6]; exact refO_pk hck1
    have ne46_e6 : ¬ 46 = e6 := PKo.ne pke6
    refine pw_bd (z_Reader_placeOf dX5) (fun x7 X8 dX8 => ?_)
    refine pw_bd (z_Program_emit pke6 dX8) (fun x9 X10 dX10 => ?_)
    refine pw_bd (z_Reader_want dX10) (fun _ X11 dX11 => ?_)
    refine pw_eq (fun x12 _ => ?_)
    refine pw_eq (fun x13 _ => ?_)
    refine pw_eq (fun X14 eX14 => ?_)
    have dX14 : fd X14 := by rw [eX14]; exact fd_w dX11 (by decide)
    refine pw_ck (fun hck2 => ?_)
    refine pw_eq (fun e15 ee15 => ?_)
    have pke15 : PKo e15 := by rw [ee15]; exact refO_pk hck2
    have ne46_e15 : ¬ 46 = e15 := PKo.ne pke15
    refine pw_bd (z_Program_emit pke15 dX14) (fun x16 X17 dX17 => ?_)
    exact pw_ret dX17
theorem l_takeNew (zv_takePrefix : ∀ (p1 p2 : Int32) (X : St), fd X → pw (v_takePrefix p1 p2 X) (fun _ Y => fd Y)) (zv_takeE : ∀ (X : St), fd X → pw (v_takeE X) (fun _ Y => fd Y)) (hP : PH e n ch X0 v_takePrefix P) (hE : EH e n ch X0 v_takeE E) (hR : RC e ch n X0 (0, K) X q o sc ws c) (ho : 0 ≤ o) (hs : (sc.length : Int) ≤ 4 + o) (hw : (ws.length : Int) ≤ 3 * o + 3) (hc : c.length ≤ 3 * pl ch q + 1) (ht : ¬ ty ch q = 257 ∧ ¬ ty ch q = 260) : pw (g_Reader_takeNew v_takePrefix v_takeE X) (fun _ Z => PO Z (sNew ch E o sc q c) (fun a => RC e ch n X0 (0, K) Z a.1 o sc ws a.2 ∧ GAq ch q c 1 a)) := by
  unfold g_Reader_takeNew sNew
  have hx1 := hR.pl
  refine pw_eq (fun x1 e1 => ?_)
  rw [← e1] at hx1
  have p0 := pl_nx hR.tx (q := q) ht.1
  refine pw_bd (l_advance hR ht.2) (fun _ X2 hR2 => ?_)
  refine pw_bo (l_enter hR2 (t := 40) (by decide) (by decide) ho) ?_ ?_
  · rintro _ X3 q1 ⟨hR3, -, p1, p2, p3⟩
    refine pw_bo (hE X3 q1 (o + 1) sc ws c hR3 (by omega) (by omega) (by omega) (by omega) (by omega)) ?_ ?_
    · rintro x4 X5 r ⟨hR5, h4, hl, g1, g2, g3, g4⟩
      refine pw_ck (fun _ => ?_)
      refine pw_to hR5.pe ?_
      refine pw_bd (l_placeOf hR5 h4 (by omega)) ?_
      rintro x7 X8 ⟨rfl, h7⟩
      refine pw_bd (l_emit (kd := []) hR5 (by omega) (a1 := 27) (a2 := 0) (by decide) (fun _ => by decide) h7 (fun g => absurd g (by decide))) ?_
      rintro x9 X10 ⟨⟨h9, hl1⟩, hR10⟩
      refine pw_bo (l_want hR10 (t := 44) (by decide) (by decide)) ?_ ?_
      · rintro _ X11 q2 ⟨hR11, -, p4, p5⟩
        refine pw_bo (hE X11 q2 (o + 1) sc ws _ hR11 (by omega) (by omega) (by omega) (by omega) (by omega)) ?_ ?_
        · rintro x12 X13 s ⟨hR13, h12, hl2, g5, g6, g7, g8⟩
          refine pw_bo (l_want hR13 (t := 41) (by decide) (by decide)) ?_ ?_
          · rintro _ X14 q3 ⟨hR14, -, p6, p7⟩
            refine pw_let ?_
            refine pw_let ?_
            refine pw_eq (fun X17 e17 => ?_)
            have hR17 := hR14.shut (by omega)
            rw [show o + 1 - 1 = o from by omega] at hR17
            rw [← e17] at hR17
            refine pw_ck (fun _ => ?_)
            refine pw_to hR17.pe ?_
            refine pw_bd (l_emit (kd := []) hR17 (by omega) (a1 := 11) (a2 := 0) (by decide) (fun _ => by decide) hx1 (fun g => absurd g (by decide))) ?_
            rintro x19 X20 ⟨⟨h19, hl3⟩, hR20⟩
            refine pw_ret (PO.s ⟨hR20, ?_, ?_, ?_, ?_⟩)
            · show c.length ≤ (s.2 ++ [((11, 0, (pl ch q : Int), []) : Ins)]).length
              omega
            · show (s.2 ++ [((11, 0, (pl ch q : Int), []) : Ins)]).length + 1 + 3 * pl ch q ≤ c.length + 3 * pl ch q3
              omega
            · show pl ch q + 1 ≤ pl ch q3
              omega
            · exact p7
          · intro _ X14 hd
            refine pw_eq (fun x15 _ => ?_)
            refine pw_eq (fun x16 _ => ?_)
            refine pw_eq (fun X17 eX17 => ?_)
            have dX17 : fd X17 := by rw [eX17]; exact fd_w hd (by decide)
            refine pw_ck (fun hck1 => ?_)
            refine pw_eq (fun e18 ee18 => ?_)
            have pke18 : PKo e18 := by rw [ee18]; exact refO_pk hck1
            have ne46_e18 : ¬ 46 = e18 := PKo.ne pke18
            refine pw_bd (z_Program_emit pke18 dX17) (fun x19 X20 dX20 => ?_)
            exact pw_ret dX20
        · intro x12 X13 hd
          refine pw_bd (z_Reader_want hd) (fun _ X14 dX14 => ?_)
          refine pw_eq (fun x15 _ => ?_)
          refine pw_eq (fun x16 _ => ?_)
          refine pw_eq (fun X17 eX17 => ?_)
          have dX17 : fd X17 := by rw [eX17]; exact fd_w dX14 (by decide)
          refine pw_ck (fun hck1 => ?_)
          refine pw_eq (fun e18 ee18 => ?_)
          have pke18 : PKo e18 := by rw [ee18]; exact refO_pk hck1
          have ne46_e18 : ¬ 46 = e18 := PKo.ne pke18
          refine pw_bd (z_Program_emit pke18 dX17) (fun x19 X20 dX20 => ?_)
          exact pw_ret dX20
      · intro _ X11 hd
        refine pw_bd (zv_takeE _ hd) (fun x12 X13 dX13 => ?_)
        refine pw_bd (z_Reader_want dX13) (fun _ X14 dX14 => ?_)
        refine pw_eq (fun x15 _ => ?_)
        refine pw_eq (fun x16 _ => ?_)
        refine pw_eq (fun X17 eX17 => ?_)
        have dX17 : fd X17 := by rw [eX17]; exact fd_w dX14 (by decide)
        refine pw_ck (fun hck1 => ?_)
        refine pw_eq (fun e18 ee18 => ?_)
        have pke18 : PKo e18 := by rw [ee18]; exact refO_pk hck1
        have ne46_e18 : ¬ 46 = e18 := PKo.ne pke18
        refine pw_bd (z_Program_emit pke18 dX17) (fun x19 X20 dX20 => ?_)
        exact pw_ret dX20
    · intro x4 X5 hd
      refine pw_ck (fun hck1 => ?_)
      refine pw_eq (fun e6 ee6 => ?_)
      have pke6 : PKo e6 := by rw [ee6]; exact refO_pk hck1
      have ne46_e6 : ¬ 46 = e6 := PKo.ne pke6
      refine pw_bd (z_Reader_placeOf hd) (fun x7 X8 dX8 => ?_)
      refine pw_bd (z_Program_emit pke6 dX8) (fun x9 X10 dX10 => ?_)
      refine pw_bd (z_Reader_want dX10) (fun _ X11 dX11 => ?_)
      refine pw_bd (zv_takeE _ dX11) (fun x12 X13 dX13 => ?_)
      refine pw_bd (z_Reader_want dX13) (fun _ X14 dX14 => ?_)
      refine pw_eq (fun x15 _ => ?_)
      refine pw_eq (fun x16 _ => ?_)
      refine pw_eq (fun X17 eX17 => ?_)
      have dX17 : fd X17 := by rw [eX17]; exact fd_w dX14 (by decide)
      refine pw_ck (fun hck2 => ?_)
      refine pw_eq (fun e18 ee18 => ?_)
      have pke18 : PKo e18 := by rw [ee18]; exact refO_pk hck2
      have ne46_e18 : ¬ 46 = e18 := PKo.ne pke18
      refine pw_bd (z_Program_emit pke18 dX17) (fun x19 X20 dX20 => ?_)
      exact pw_ret dX20
  · intro _ X3 hd
    refine pw_bd (zv_takeE _ hd) (fun x4 X5 dX5 => ?_)
    refine pw_ck (fun hck1 => ?_)
    refine pw_eq (fun e6 ee6 => ?_)
    have pke6 : PKo e6 := by rw [ee6]; exact refO_pk hck1
    have ne46_e6 : ¬ 46 = e6 := PKo.ne pke6
    refine pw_bd (z_Reader_placeOf dX5) (fun x7 X8 dX8 => ?_)
    refine pw_bd (z_Program_emit pke6 dX8) (fun x9 X10 dX10 => ?_)
    refine pw_bd (z_Reader_want dX10) (fun _ X11 dX11 => ?_)
    refine pw_bd (zv_takeE _ dX11) (fun x12 X13 dX13 => ?_)
    refine pw_bd (z_Reader_want dX13) (fun _ X14 dX14 => ?_)
    refine pw_eq (fun x15 _ => ?_)
    refine pw_eq (fun x16 _ => ?_)
    refine pw_eq (fun X17 eX17 => ?_)
    have dX17 : fd X17 := by rw [eX17]; exact fd_w dX14 (by decide)
    refine pw_ck (fun hck2 => ?_)
    refine pw_eq (fun e18 ee18 => ?_)
    have pke18 : PKo e18 := by rw [ee18]; exact refO_pk hck2
    have ne46_e18 : ¬ 46 = e18 := PKo.ne pke18
    refine pw_bd (z_Program_emit pke18 dX17) (fun x19 X20 dX20 => ?_)
    exact pw_ret dX20
theorem l_takeBlock (zv_takePrefix : ∀ (p1 p2 : Int32) (X : St), fd X → pw (v_takePrefix p1 p2 X) (fun _ Y => fd Y)) (zv_takeE : ∀ (X : St), fd X → pw (v_takeE X) (fun _ Y => fd Y)) (hP : PH e n ch X0 v_takePrefix P) (hE : EH e n ch X0 v_takeE E) (hR : RC e ch n X0 (0, K) X q o sc ws c) (ho : 0 ≤ o) (hs : (sc.length : Int) ≤ 4 + o) (hw : (ws.length : Int) ≤ 3 * o + 3) (hc : c.length ≤ 3 * pl ch q + 1) : pw (g_Reader_takeBlock v_takePrefix v_takeE X) (fun _ Z => PO Z (sBlock ch E o sc q c) (fun a => RC e ch n X0 (0, K) Z a.1 o sc ws a.2 ∧ GAq ch q c 1 a)) := by
  unfold g_Reader_takeBlock sBlock
  refine pw_bo (l_enter hR (t := 123) (by decide) (by decide) ho) ?_ ?_
  · rintro _ X1 q1 ⟨hR1, -, p1, p2, p3⟩
    refine pw_bo (hE X1 q1 (o + 1) sc ws c hR1 (by omega) (by omega) (by omega) (by omega) (by omega)) ?_ ?_
    · rintro x2 X3 r ⟨hR3, h4, hl, g1, g2, g3, g4⟩
      have out : ∀ (Y : St) (q2 : Nat) (c2 : List Ins), RC e ch n X0 (0, K) Y q2 (o + 1) sc ws c2 → c.length ≤ c2.length → c2.length + 1 + 3 * pl ch q ≤ c.length + 3 * pl ch q2 → pl ch q + 1 ≤ pl ch q2 → pw (g_Reader_takeBlock_68 v_takePrefix v_takeE Y) (fun _ Z => PO Z ((sWant ch 125 q2).bind fun q1 => some (q1, c2)) (fun a => RC e ch n X0 (0, K) Z a.1 o sc ws a.2 ∧ GAq ch q c 1 a)) := by
        intro Y q2 c2 hR2 k1 k2 k3
        unfold g_Reader_takeBlock_68
        refine pw_bo (l_want hR2 (t := 125) (by decide) (by decide)) ?_ ?_
        · rintro _ X4 q3 ⟨hR4, -, p4, p5⟩
          refine pw_let ?_
          refine pw_let ?_
          refine pw_eq (fun X7 e7 => ?_)
          have hR7 := hR4.shut (by omega)
          rw [show o + 1 - 1 = o from by omega] at hR7
          rw [← e7] at hR7
          refine pw_ret (PO.s ⟨hR7, k1, ?_, ?_, p5⟩)
          · show c2.length + 1 + 3 * pl ch q ≤ c.length + 3 * pl ch q3
            omega
          · show pl ch q + 1 ≤ pl ch q3
            omega
        · intro _ X4 hd
          refine pw_eq (fun x5 _ => ?_)
          refine pw_eq (fun x6 _ => ?_)
          refine pw_eq (fun X7 eX7 => ?_)
          have dX7 : fd X7 := by rw [eX7]; exact fd_w hd (by decide)
          exact pw_ret dX7
      have loop : ∀ N, (∀ (a : Int32) (X : St), fd X → pw (g_Reader_takeBlock_13 v_takePrefix v_takeE N a X) (fun _ Y => fd Y)) ∧ ∀ (a : Int32) (Y : St) (k q2 : Nat) (c2 : List Ins), a.toInt = 3000 - (k : Int) → k ≤ 3000 → RC e ch n X0 (0, K) Y q2 (o + 1) sc ws c2 → c.length ≤ c2.length → c2.length + 1 + 3 * pl ch q ≤ c.length + 3 * pl ch q2 → pl ch q + 1 ≤ pl ch q2 → c2.length ≤ 3 * pl ch q2 → pw (g_Reader_takeBlock_13 v_takePrefix v_takeE N a Y) (fun _ Z => PO Z (sBlock1 ch E o sc k q2 c2) (fun a => RC e ch n X0 (0, K) Z a.1 o sc ws a.2 ∧ GAq ch q c 1 a)) := by
        intro N
        unfold g_Reader_takeBlock_13
        refine lp_ind (P := fun (r : Int32 → St → Option (Int32 × St)) => (∀ (a : Int32) (X : St), fd X → pw (r a X) (fun _ Y => fd Y)) ∧ ∀ (a : Int32) (Y : St) (k q2 : Nat) (c2 : List Ins), a.toInt = 3000 - (k : Int) → k ≤ 3000 → RC e ch n X0 (0, K) Y q2 (o + 1) sc ws c2 → c.length ≤ c2.length → c2.length + 1 + 3 * pl ch q ≤ c.length + 3 * pl ch q2 → pl ch q + 1 ≤ pl ch q2 → c2.length ≤ 3 * pl ch q2 → pw (r a Y) (fun _ Z => PO Z (sBlock1 ch E o sc k q2 c2) (fun a => RC e ch n X0 (0, K) Z a.1 o sc ws a.2 ∧ GAq ch q c 1 a))) ⟨fun _ _ _ => pw_none, fun _ _ _ _ _ _ _ _ _ _ _ _ => pw_none⟩ ?_ N
        rintro r13 ⟨zr13, ih⟩
        refine ⟨fun a X hd => ?_, fun a Y k q2 c2 ha hk hR2 k1 k2 k3 k4 => ?_⟩
        · unfold g_Reader_takeBlock_13_s
          refine pw_ite (fun _ => ?_) (fun _ => ?_)
          · exact z_Reader_takeBlock_68 zv_takePrefix zv_takeE hd
          · refine pw_eq (fun x8 _ => ?_)
            refine pw_ite (fun _ => ?_) (fun _ => ?_)
            · refine pw_ck (fun hck1 => ?_)
              refine pw_eq (fun e9 ee9 => ?_)
              have pke9 : PKo e9 := by rw [ee9]; exact refO_pk hck1
              have ne46_e9 : ¬ 46 = e9 := PKo.ne pke9
              refine pw_eq (fun x10 _ => ?_)
              refine pw_bd (z_Program_emit pke9 hd) (fun x11 X12 dX12 => ?_)
              refine pw_bd (z_Tokens_advance dX12) (fun _ X13 dX13 => ?_)
              refine pw_bd (zv_takeE _ dX13) (fun x14 X15 dX15 => ?_)
              refine pw_eq (fun x16 _ => ?_)
              exact zr13 _ _ dX15
            · exact z_Reader_takeBlock_68 zv_takePrefix zv_takeE hd
        · unfold g_Reader_takeBlock_13_s
          cases k with
          | zero =>
            refine pw_pos (by omega) ?_
            rw [sBlock1]
            exact out Y q2 c2 hR2 k1 k2 k3
          | succ k =>
            refine pw_neg (by omega) ?_
            rw [sBlock1]
            refine pw_let ?_
            refine pw_ifo (by rw [hR2.ty]) (fun c1 => ?_) (fun c1 => out Y q2 c2 hR2 k1 k2 k3)
            refine pw_ck (fun _ => ?_)
            refine pw_to hR2.pe ?_
            refine pw_let ?_
            have hpl := hR2.pln
            refine pw_bd (l_emit (kd := []) hR2 (by omega) (a1 := 9) (a2 := 0) (by decide) (fun _ => by decide) hR2.pl (fun g => absurd g (by decide))) ?_
            rintro x11 X12 ⟨⟨h12, hl2⟩, hR12⟩
            have p4 := pl_nx hR2.tx (q := q2) (by omega)
            refine pw_bd (l_advance hR12 (by omega)) (fun _ X13 hR13 => ?_)
            refine pw_bo (hE X13 _ (o + 1) sc ws _ hR13 (by omega) (by omega) (by omega) (by omega) (by omega)) ?_ ?_
            · rintro x14 X15 s ⟨hR15, h15, hl3, g5, g6, g7, g8⟩
              refine pw_let ?_
              exact ih _ X15 k s.1 s.2 (by rw [i1 (by omega), ha]; omega) (by omega) hR15 (by omega) (by omega) (by omega) (by omega)
            · intro x14 X15 hd
              refine pw_eq (fun x16 _ => ?_)
              exact zr13 _ _ hd
      exact (loop BIG).2 0 X3 3000 r.1 r.2 (by decide) (Nat.le_refl _) hR3 (by omega) (by omega) (by omega) (by omega)
    · intro x2 X3 hd
      exact z_Reader_takeBlock_13 zv_takePrefix zv_takeE _ _ _ hd
  · intro _ X1 hd
    refine pw_bd (zv_takeE _ hd) (fun x2 X3 dX3 => ?_)
    exact z_Reader_takeBlock_13 zv_takePrefix zv_takeE _ _ _ dX3
theorem l_takeList (zv_takePrefix : ∀ (p1 p2 : Int32) (X : St), fd X → pw (v_takePrefix p1 p2 X) (fun _ Y => fd Y)) (zv_takeE : ∀ (X : St), fd X → pw (v_takeE X) (fun _ Y => fd Y)) (hP : PH e n ch X0 v_takePrefix P) (hE : EH e n ch X0 v_takeE E) {p1 p2 p3 : Int32} {cl ask : Int} {most : Nat} (h1 : p1.toInt = cl) (h2 : p2.toInt = (most : Int)) (h3 : p3.toInt = ask) (hcl : ¬ cl = 257 ∧ ¬ cl = 260) (hm : 1 ≤ most ∧ most ≤ 100) (n3 : ¬ ask = 4 ∧ ¬ ask = 34) (hR : RC e ch n X0 (0, K) X q o sc ws c) (ht : ¬ ty ch q = 257 ∧ ¬ ty ch q = 260) (ho : 0 ≤ o) (hs : (sc.length : Int) ≤ 4 + o) (hw : (ws.length : Int) ≤ 3 * o + 3) (hc : c.length ≤ 3 * pl ch q + 2) : pw (g_Reader_takeList v_takePrefix v_takeE p1 p2 p3 X) (fun r Z => PO Z (sList ch E o sc cl most ask q c) (fun a => RC e ch n X0 (0, K) Z a.2.1 o sc ws a.2.2 ∧ r.toInt = (a.1 : Int) ∧ GAq ch q c 5 a.2)) := by
  have out : o < 40 → ∀ (Y : St) (i : Nat) (a4 : Int32) (q2 : Nat) (c2 : List Ins), a4.toInt = (i : Int) → RC e ch n X0 (0, K) Y q2 (o + 1) sc ws c2 → c.length ≤ c2.length → c2.length + 2 + 3 * pl ch q ≤ c.length + 3 * pl ch q2 → pl ch q + 1 ≤ pl ch q2 → pw (g_Reader_takeList_111 v_takePrefix v_takeE p1 a4 Y) (fun r Z => PO Z ((sWant ch cl q2).bind fun q1 => some (i, q1, c2)) (fun a => RC e ch n X0 (0, K) Z a.2.1 o sc ws a.2.2 ∧ r.toInt = (a.1 : Int) ∧ GAq ch q c 5 a.2)) := by
    intro ho4 Y i a4 q2 c2 h4 hR2 k1 k2 k3
    unfold g_Reader_takeList_111
    refine pw_bo (l_want hR2 (t := cl) h1 hcl) ?_ ?_
    · rintro _ X3 q3 ⟨hR3, -, p4, p5⟩
      refine pw_let ?_
      refine pw_let ?_
      refine pw_eq (fun X6 e6 => ?_)
      have hR6 := hR3.shut (by omega)
      rw [show o + 1 - 1 = o from by omega] at hR6
      rw [← e6] at hR6
      refine pw_ret (PO.s ⟨hR6, h4, k1, ?_, ?_, p5⟩)
      · show c2.length + 5 + 3 * pl ch q ≤ c.length + 3 * pl ch q3
        omega
      · show pl ch q + 1 ≤ pl ch q3
        omega
    · intro _ X3 hd
      refine pw_eq (fun x4 _ => ?_)
      refine pw_eq (fun x5 _ => ?_)
      refine pw_eq (fun X6 eX6 => ?_)
      have dX6 : fd X6 := by rw [eX6]; exact fd_w hd (by decide)
      exact pw_ret dX6
  unfold g_Reader_takeList sList
  refine pw_eq (fun x1 e1 => ?_)
  have hx1 : x1.toInt = ty ch q := by rw [e1]; exact hR.ty
  refine pw_bo (l_enter hR hx1 ht ho) ?_ ?_
  · rintro _ X2 q1 ⟨hR2, -, p1_, p2_, p3_⟩
    have out := out p3_
    have loop : ∀ N, (∀ (a1 a2 a3 a4 a5 : Int32) (X : St), fd X → pw (g_Reader_takeList_17 v_takePrefix v_takeE N a1 a2 a3 a4 a5 X) (fun _ Y => fd Y)) ∧ ∀ (a4 a5 : Int32) (Y : St) (k i q2 : Nat) (c2 : List Ins), a4.toInt = (i : Int) → a5.toInt = (i : Int) → i + k = most + 1 → RC e ch n X0 (0, K) Y q2 (o + 1) sc ws c2 → c.length ≤ c2.length → c2.length + 3 + 3 * pl ch q ≤ c.length + 3 * pl ch q2 → pl ch q + 1 ≤ pl ch q2 → c2.length ≤ 3 * pl ch q2 → pw (g_Reader_takeList_17 v_takePrefix v_takeE N p1 p2 p3 a4 a5 Y) (fun r Z => PO Z (sList1 ch E o sc cl ask k i q2 c2) (fun a => RC e ch n X0 (0, K) Z a.2.1 o sc ws a.2.2 ∧ r.toInt = (a.1 : Int) ∧ GAq ch q c 5 a.2)) := by
      intro N
      unfold g_Reader_takeList_17
      refine lp_ind (P := fun (r : Int32 → Int32 → Int32 → Int32 → Int32 → St → Option (Int32 × St)) => (∀ (a1 a2 a3 a4 a5 : Int32) (X : St), fd X → pw (r a1 a2 a3 a4 a5 X) (fun _ Y => fd Y)) ∧ ∀ (a4 a5 : Int32) (Y : St) (k i q2 : Nat) (c2 : List Ins), a4.toInt = (i : Int) → a5.toInt = (i : Int) → i + k = most + 1 → RC e ch n X0 (0, K) Y q2 (o + 1) sc ws c2 → c.length ≤ c2.length → c2.length + 3 + 3 * pl ch q ≤ c.length + 3 * pl ch q2 → pl ch q + 1 ≤ pl ch q2 → c2.length ≤ 3 * pl ch q2 → pw (r p1 p2 p3 a4 a5 Y) (fun r Z => PO Z (sList1 ch E o sc cl ask k i q2 c2) (fun a => RC e ch n X0 (0, K) Z a.2.1 o sc ws a.2.2 ∧ r.toInt = (a.1 : Int) ∧ GAq ch q c 5 a.2))) ⟨fun _ _ _ _ _ _ _ => pw_none, fun _ _ _ _ _ _ _ _ _ _ _ _ _ _ _ => pw_none⟩ ?_ N
      rintro r17 ⟨zr17, ih⟩
      refine ⟨fun a_1 a_2 a_3 a_4 a_5 X hd => ?_, fun a4 a5 Y k i q2 c2 h4 h5 hk hR2 k1 k2 k3 k4 => ?_⟩
      · unfold g_Reader_takeList_17_s
        refine pw_ite (fun _ => ?_) (fun _ => ?_)
        · exact z_Reader_takeList_111 zv_takePrefix zv_takeE hd
        · refine pw_ite (fun _ => ?_) (fun _ => ?_)
          · exact z_Reader_takeList_39 zv_takePrefix zv_takeE zr17 hd
          · refine pw_eq (fun x21 _ => ?_)
            refine pw_ite (fun _ => ?_) (fun _ => ?_)
            · exact z_Reader_takeList_111 zv_takePrefix zv_takeE hd
            · exact z_Reader_takeList_39 zv_takePrefix zv_takeE zr17 hd
      · unfold g_Reader_takeList_17_s
        cases k with
        | zero =>
          refine pw_pos (by omega) ?_
          rw [sList1]
          exact out Y i a4 q2 c2 h4 hR2 k1 (by omega) k3
        | succ k =>
          refine pw_neg (by omega) ?_
          rw [sList1]
          have item : ∀ (Y : St), RC e ch n X0 (0, K) Y q2 (o + 1) sc ws c2 → pw (g_Reader_takeList_57 v_takePrefix v_takeE r17 p1 p2 p3 a4 a5 Y) (fun r Z => PO Z ((E (o + 1) sc q2 c2).bind fun r => if ty ch r.1 = 44 then sList1 ch E o sc cl ask k (i + 1) (nx ch r.1) (r.2 ++ [(ask, (i : Int), plc r.2 c2.length, [])]) else (sWant ch cl r.1).bind fun q1 => some (i + 1, q1, r.2 ++ [(ask, (i : Int), plc r.2 c2.length, [])])) (fun a => RC e ch n X0 (0, K) Z a.2.1 o sc ws a.2.2 ∧ r.toInt = (a.1 : Int) ∧ GAq ch q c 5 a.2)) := by
            intro Y hR2
            unfold g_Reader_takeList_57
            refine pw_bo (hE Y q2 (o + 1) sc ws c2 hR2 (by omega) (by omega) (by omega) (by omega) (by omega)) ?_ ?_
            · rintro x7 X8 s ⟨hR8, h7, hl3, g5, g6, g7, g8⟩
              refine pw_ck (fun _ => ?_)
              refine pw_to hR8.pe ?_
              refine pw_bd (l_placeOf hR8 h7 (by omega)) ?_
              rintro x10 X11 ⟨rfl, h10⟩
              refine pw_bd (l_emit (kd := []) hR8 (by omega) (a2 := (i : Int)) h3 (fun _ => ofI h5) h10 (fun g => absurd g n3.1) n3.2) ?_
              rintro x12 X13 ⟨⟨h12, hl4⟩, hR13⟩
              refine pw_eq (fun x14 e14 => ?_)
              have h14 : x14.toInt = ((i + 1 : Nat) : Int) := by rw [e14, i1 (by omega), h4]; omega
              refine pw_let ?_
              refine pw_ifo (by rw [hR13.ty]) (fun c1 => ?_) (fun c1 => ?_)
              · have p4 := pl_nx hR13.tx (q := s.1) (by omega)
                refine pw_bd (l_advance hR13 (by omega)) (fun _ X16 hR16 => ?_)
                refine pw_let ?_
                exact ih x14 _ X16 k (i + 1) (nx ch s.1) _ h14 (by rw [i1 (by omega), h5]; omega) (by omega) hR16 (by omega) (by omega) (by omega) (by omega)
              · exact out X13 (i + 1) x14 s.1 _ h14 hR13 (by omega) (by omega) (by omega)
            · intro x7 X8 hd
              refine pw_ck (fun hck1 => ?_)
              refine pw_eq (fun e9 ee9 => ?_)
              have pke9 : PKo e9 := by rw [ee9]; exact refO_pk hck1
              have ne46_e9 : ¬ 46 = e9 := PKo.ne pke9
              refine pw_bd (z_Reader_placeOf hd) (fun x10 X11 dX11 => ?_)
              refine pw_bd (z_Program_emit pke9 dX11) (fun x12 X13 dX13 => ?_)
              refine pw_eq (fun x14 _ => ?_)
              refine pw_eq (fun x15 _ => ?_)
              refine pw_ite (fun _ => ?_) (fun _ => ?_)
              · refine pw_bd (z_Tokens_advance dX13) (fun _ X16 dX16 => ?_)
                refine pw_eq (fun x17 _ => ?_)
                exact zr17 _ _ _ _ _ _ dX16
              · exact z_Reader_takeList_111 zv_takePrefix zv_takeE dX13
          have rest : pw (g_Reader_takeList_39 v_takePrefix v_takeE r17 p1 p2 p3 a4 a5 Y) (fun r Z => PO Z (if k = 0 ∧ bgE (ty ch q2) = true then none else (E (o + 1) sc q2 c2).bind fun r => if ty ch r.1 = 44 then sList1 ch E o sc cl ask k (i + 1) (nx ch r.1) (r.2 ++ [(ask, (i : Int), plc r.2 c2.length, [])]) else (sWant ch cl r.1).bind fun q1 => some (i + 1, q1, r.2 ++ [(ask, (i : Int), plc r.2 c2.length, [])])) (fun a => RC e ch n X0 (0, K) Z a.2.1 o sc ws a.2.2 ∧ r.toInt = (a.1 : Int) ∧ GAq ch q c 5 a.2)) := by
            unfold g_Reader_takeList_39
            by_cases hk0 : k = 0
            · refine pw_neg (by omega) ?_
              refine pw_bd (l_beginsE hR2) ?_
              rintro x18 X19 ⟨rfl, hz⟩
              refine pw_ite (fun c1 => ?_) (fun c1 => ?_)
              · rw [if_neg (fun g => nb.mp (hz.f c1) g.2)]
                exact item X19 hR2
              · rw [if_pos ⟨hk0, hz.t c1⟩]
                refine pw_bd (f_Reader_refuse X19 (by decide)) (fun _ X20 hd => ?_)
                show pw _ (fun _ Z => fd Z)
                exact z_Reader_takeList_57 zv_takePrefix zv_takeE zr17 hd
            · refine pw_pos (by omega) ?_
              rw [if_neg (fun g => hk0 g.1)]
              exact item Y hR2
          by_cases hi : 0 < i
          · refine pw_pos (by omega) ?_
            rw [if_neg (fun g => by omega)]
            exact rest
          · refine pw_neg (by omega) ?_
            refine pw_let ?_
            refine pw_ifo (by rw [hR2.ty, h1]; exact ⟨fun g => ⟨by omega, g⟩, fun g => g.2⟩) (fun c1 => ?_) (fun c1 => rest)
            exact out Y i a4 q2 c2 h4 hR2 k1 (by omega) k3
    exact (loop BIG).2 0 0 X2 (most + 1) 0 q1 c (by decide) (by decide) (by omega) hR2 (Nat.le_refl _) (by omega) (by omega) (by omega)
  · intro _ X2 hd
    exact z_Reader_takeList_17 zv_takePrefix zv_takeE _ _ _ _ _ _ _ hd
theorem l_takeCall (zv_takePrefix : ∀ (p1 p2 : Int32) (X : St), fd X → pw (v_takePrefix p1 p2 X) (fun _ Y => fd Y)) (zv_takeE : ∀ (X : St), fd X → pw (v_takeE X) (fun _ Y => fd Y)) (hP : PH e n ch X0 v_takePrefix P) (hE : EH e n ch X0 v_takeE E) {p1 : Int32} {ask : Int} (h1 : p1.toInt = ask) (n1 : ¬ ask = 4 ∧ ¬ ask = 34) (hR : RC e ch n X0 (0, K) X q o sc ws c) (ht : ty ch q = 40) (ho : 0 ≤ o) (hs : (sc.length : Int) ≤ 4 + o) (hw : (ws.length : Int) ≤ 3 * o + 3) (hc : c.length ≤ 3 * pl ch q) : pw (g_Reader_takeCall v_takePrefix v_takeE p1 X) (fun _ Z => PO Z (sCall ch E o sc ask q c) (fun a => RC e ch n X0 (0, K) Z a.1 o sc ws a.2 ∧ GAq ch q c 1 a)) := by
  unfold g_Reader_takeCall sCall
  have hx1 := hR.pl
  have hpl := hR.pln
  refine pw_eq (fun x1 e1 => ?_)
  rw [← e1] at hx1
  refine pw_ck (fun _ => ?_)
  refine pw_to hR.pe ?_
  refine pw_bd (l_emit (kd := []) hR (by omega) (a2 := 0) h1 (fun _ => by decide) hx1 (fun g => absurd g n1.1) n1.2) ?_
  rintro x3 X4 ⟨⟨h3, hl1⟩, hR4⟩
  have hR4 := hR4.p (i := c.length) (a := (ask, 0, (pl ch q : Int), [])) List.getElem?_concat_length n1.2
  refine pw_bo (l_takeList zv_takePrefix zv_takeE hP hE (p1 := 41) (p2 := 4) (p3 := 32) (cl := 41) (ask := 32) (most := 4) (by decide) (by decide) (by decide) (by decide) (by decide) (by decide) hR4 (by omega) ho hs hw (by omega)) ?_ ?_
  · rintro x5 X6 r ⟨hR6, h5, g1, g2, g3, g4⟩
    refine pw_ck (fun _ => ?_)
    refine pw_to hR6.pe ?_
    refine pw_to (kYp hR6.he).2.2.1 ?_
    refine pw_ck (fun _ => ?_)
    rw [ixn h3]
    refine pw_eq (fun X9 e9 => ?_)
    have hR9 := (hR6.setx (i := c.length) (by omega) (List.mem_cons_self ..) h5).u
    rw [← e9] at hR9
    have hsl := setx_len r.2.2 c.length r.1
    refine pw_ck (fun _ => ?_)
    refine pw_to hR9.pe ?_
    refine pw_bd (l_emit (kd := []) hR9 (by omega) (a1 := 16) (a2 := (r.1 : Int)) (by decide) (fun _ => ofI h5) hx1 (fun g => absurd g (by decide))) ?_
    rintro x11 X12 ⟨⟨h11, hl2⟩, hR12⟩
    refine pw_ret (PO.s ⟨hR12, ?_, ?_, ?_, g4⟩)
    · show c.length ≤ (setx r.2.2 c.length r.1 ++ [((16, (r.1 : Int), (pl ch q : Int), []) : Ins)]).length
      omega
    · show (setx r.2.2 c.length r.1 ++ [((16, (r.1 : Int), (pl ch q : Int), []) : Ins)]).length + 1 + 3 * pl ch q ≤ c.length + 3 * pl ch r.2.1
      omega
    · exact g3
  · intro x5 X6 hd
    refine pw_ck (fun hck1 => ?_)
    refine pw_eq (fun e7 ee7 => ?_)
    have pke7 : PKo e7 := by rw [ee7]; exact refO_pk hck1
    have ne46_e7 : ¬ 46 = e7 := PKo.ne pke7
    refine pw_eq (fun e8 ee8 => ?_)
    have ne46_e8 : ¬ 46 = e8 := by rw [ee8]; exact PKo.row pke7 14
    refine pw_ck (fun _ => ?_)
    refine pw_eq (fun X9 eX9 => ?_)
    have dX9 : fd X9 := by rw [eX9]; exact fd_w hd (fun g_ => ne46_e8 g_.1)
    refine pw_ck (fun hck2 => ?_)
    refine pw_eq (fun e10 ee10 => ?_)
    have pke10 : PKo e10 := by rw [ee10]; exact refO_pk hck2
    have ne46_e10 : ¬ 46 = e10 := PKo.ne pke10
    refine pw_bd (z_Program_emit pke10 dX9) (fun x11 X12 dX12 => ?_)
    exact pw_ret dX12
theorem l_takePlace (zv_takePrefix : ∀ (p1 p2 : Int32) (X : St), fd X → pw (v_takePrefix p1 p2 X) (fun _ Y => fd Y)) (zv_takeE : ∀ (X : St), fd X → pw (v_takeE X) (fun _ Y => fd Y)) (hP : PH e n ch X0 v_takePrefix P) (hE : EH e n ch X0 v_takeE E) (hR : RC e ch n X0 (0, K) X q o sc ws c) (ho : 0 ≤ o) (hs : (sc.length : Int) ≤ 4 + o) (hw : (ws.length : Int) ≤ 3 * o + 3) (hc : c.length ≤ 3 * pl ch q) : pw (g_Reader_takePlace v_takePrefix v_takeE X) (fun r Z => PO Z (sPlace ch E o sc q c) (fun a => RC e ch n X0 (0, K) Z a.2.1 o sc ws a.2.2 ∧ zB r a.1 ∧ GAq ch q c 1 a.2)) := by
  unfold g_Reader_takePlace sPlace
  have hx1 := hR.pl
  have hpl := hR.pln
  refine pw_eq (fun x1 e1 => ?_)
  rw [← e1] at hx1
  refine pw_ck (fun _ => ?_)
  refine pw_to hR.pe ?_
  refine pw_bd (l_emit (kd := []) hR (by omega) (a1 := 29) (a2 := 0) (by decide) (fun _ => by decide) hx1 (fun g => absurd g (by decide))) ?_
  rintro x3 X4 ⟨⟨h3, hl1⟩, hR4⟩
  refine pw_bo (l_enter hR4 (t := 91) (by decide) (by decide) ho) ?_ ?_
  · rintro _ X5 q1 ⟨hR5, -, p1, p2, p3⟩
    refine pw_bo (hE X5 q1 (o + 1) sc ws _ hR5 (by omega) (by omega) (by omega) (by omega) (by omega)) ?_ ?_
    · rintro x6 X7 r ⟨hR7, h6, hl, g1, g2, g3, g4⟩
      rw [hl1] at h6
      refine pw_ck (fun _ => ?_)
      refine pw_to hR7.pe ?_
      refine pw_bd (l_placeOf hR7 (i := c.length + 1) h6 (by omega)) ?_
      rintro x9 X10 ⟨rfl, h9⟩
      refine pw_bd (l_emit (kd := []) hR7 (by omega) (a1 := 27) (a2 := 0) (by decide) (fun _ => by decide) h9 (fun g => absurd g (by decide))) ?_
      rintro x11 X12 ⟨⟨h11, hl2⟩, hR12⟩
      refine pw_bo (l_want hR12 (t := 93) (by decide) (by decide)) ?_ ?_
      · rintro _ X13 q2 ⟨hR13, -, p4, p5⟩
        refine pw_let ?_
        refine pw_let ?_
        refine pw_eq (fun X16 e16 => ?_)
        have hR16 := hR13.shut (by omega)
        rw [show o + 1 - 1 = o from by omega] at hR16
        rw [← e16] at hR16
        refine pw_let ?_
        refine pw_ifo (by rw [hR16.ty]) (fun c1 => ?_) (fun c1 => ?_)
        · refine pw_bo (l_enter hR16 (t := 256) (by decide) (by decide) ho) ?_ ?_
          · rintro _ X18 q3 ⟨hR18, -, p6, p7, p8⟩
            refine pw_bo (hE X18 q3 (o + 1) sc ws _ hR18 (by omega) (by omega) (by omega) (by omega) (by omega)) ?_ ?_
            · rintro x19 X20 s ⟨hR20, h19, hl3, g5, g6, g7, g8⟩
              rw [hl2] at h19
              refine pw_ck (fun _ => ?_)
              refine pw_to hR20.pe ?_
              refine pw_bd (l_placeOf hR20 (i := r.2.length + 1) h19 (by omega)) ?_
              rintro x22 X23 ⟨rfl, h22⟩
              refine pw_bd (l_emit (kd := []) hR20 (by omega) (a1 := 33) (a2 := 0) (by decide) (fun _ => by decide) h22 (fun g => absurd g (by decide))) ?_
              rintro x24 X25 ⟨⟨h24, hl4⟩, hR25⟩
              refine pw_ck (fun _ => ?_)
              refine pw_to hR25.pe ?_
              refine pw_bd (l_emit (kd := []) hR25 (by omega) (a1 := 15) (a2 := 0) (by decide) (fun _ => by decide) hx1 (fun g => absurd g (by decide))) ?_
              rintro x27 X28 ⟨⟨h27, hl5⟩, hR28⟩
              refine pw_let ?_
              refine pw_let ?_
              refine pw_eq (fun X31 e31 => ?_)
              have hR31 := hR28.shut (by omega)
              rw [show o + 1 - 1 = o from by omega] at hR31
              rw [← e31] at hR31
              refine pw_ret (PO.s ⟨hR31, Or.inr ⟨by decide, rfl⟩, ?_, ?_, ?_, g8⟩)
              · show c.length ≤ ((s.2 ++ [((33, 0, plc s.2 (r.2.length + 1), []) : Ins)]) ++ [(15, 0, (pl ch q : Int), [])]).length
                omega
              · show ((s.2 ++ [((33, 0, plc s.2 (r.2.length + 1), []) : Ins)]) ++ [(15, 0, (pl ch q : Int), [])]).length + 1 + 3 * pl ch q ≤ c.length + 3 * pl ch s.1
                omega
              · show pl ch q + 1 ≤ pl ch s.1
                omega
            · intro x19 X20 hd
              refine pw_ck (fun hck1 => ?_)
              refine pw_eq (fun e21 ee21 => ?_)
              have pke21 : PKo e21 := by rw [ee21]; exact refO_pk hck1
              have ne46_e21 : ¬ 46 = e21 := PKo.ne pke21
              refine pw_bd (z_Reader_placeOf hd) (fun x22 X23 dX23 => ?_)
              refine pw_bd (z_Program_emit pke21 dX23) (fun x24 X25 dX25 => ?_)
              refine pw_ck (fun hck2 => ?_)
              refine pw_eq (fun e26 ee26 => ?_)
              have pke26 : PKo e26 := by rw [ee26]; exact refO_pk hck2
              have ne46_e26 : ¬ 46 = e26 := PKo.ne pke26
              refine pw_bd (z_Program_emit pke26 dX25) (fun x27 X28 dX28 => ?_)
              refine pw_eq (fun x29 _ => ?_)
              refine pw_eq (fun x30 _ => ?_)
              refine pw_eq (fun X31 eX31 => ?_)
              have dX31 : fd X31 := by rw [eX31]; exact fd_w dX28 (by decide)
              exact pw_ret dX31
          · intro _ X18 hd
            refine pw_bd (zv_takeE _ hd) (fun x19 X20 dX20 => ?_)
            refine pw_ck (fun hck1 => ?_)
            refine pw_eq (fun e21 ee21 => ?_)
            have pke21 : PKo e21 := by rw [ee21]; exact refO_pk hck1
            have ne46_e21 : ¬ 46 = e21 := PKo.ne pke21
            refine pw_bd (z_Reader_placeOf dX20) (fun x22 X23 dX23 => ?_)
            refine pw_bd (z_Program_emit pke21 dX23) (fun x24 X25 dX25 => ?_)
            refine pw_ck (fun hck2 => ?_)
            refine pw_eq (fun e26 ee26 => ?_)
            have pke26 : PKo e26 := by rw [ee26]; exact refO_pk hck2
            have ne46_e26 : ¬ 46 = e26 := PKo.ne pke26
            refine pw_bd (z_Program_emit pke26 dX25) (fun x27 X28 dX28 => ?_)
            refine pw_eq (fun x29 _ => ?_)
            refine pw_eq (fun x30 _ => ?_)
            refine pw_eq (fun X31 eX31 => ?_)
            have dX31 : fd X31 := by rw [eX31]; exact fd_w dX28 (by decide)
            exact pw_ret dX31
        · refine pw_ck (fun _ => ?_)
          refine pw_to hR16.pe ?_
          refine pw_bd (l_emit (kd := []) hR16 (by omega) (a1 := 14) (a2 := 0) (by decide) (fun _ => by decide) hx1 (fun g => absurd g (by decide))) ?_
          rintro x33 X34 ⟨⟨h33, hl3⟩, hR34⟩
          refine pw_ret (PO.s ⟨hR34, Or.inl ⟨by decide, rfl⟩, ?_, ?_, ?_, p5⟩)
          · show c.length ≤ ((r.2 ++ [((27, 0, plc r.2 (c.length + 1), []) : Ins)]) ++ [(14, 0, (pl ch q : Int), [])]).length
            omega
          · show ((r.2 ++ [((27, 0, plc r.2 (c.length + 1), []) : Ins)]) ++ [(14, 0, (pl ch q : Int), [])]).length + 1 + 3 * pl ch q ≤ c.length + 3 * pl ch q2
            omega
          · show pl ch q + 1 ≤ pl ch q2
            omega
      · intro _ X13 hd
        refine pw_eq (fun x14 _ => ?_)
        refine pw_eq (fun x15 _ => ?_)
        refine pw_eq (fun X16 eX16 => ?_)
        have dX16 : fd X16 := by rw [eX16]; exact fd_w hd (by decide)
        refine pw_eq (fun x17 _ => ?_)
        refine pw_ite (fun _ => ?_) (fun _ => ?_)
        · refine pw_bd (z_Reader_enter dX16) (fun _ X18 dX18 => ?_)
          refine pw_bd (zv_takeE _ dX18) (fun x19 X20 dX20 => ?_)
          refine pw_ck (fun hck1 => ?_)
          refine pw_eq (fun e21 ee21 => ?_)
          have pke21 : PKo e21 := by rw [ee21]; exact refO_pk hck1
          have ne46_e21 : ¬ 46 = e21 := PKo.ne pke21
          refine pw_bd (z_Reader_placeOf dX20) (fun x22 X23 dX23 => ?_)
          refine pw_bd (z_Program_emit pke21 dX23) (fun x24 X25 dX25 => ?_)
          refine pw_ck (fun hck2 => ?_)
          refine pw_eq (fun e26 ee26 => ?_)
          have pke26 : PKo e26 := by rw [ee26]; exact refO_pk hck2
          have ne46_e26 : ¬ 46 = e26 := PKo.ne pke26
          refine pw_bd (z_Program_emit pke26 dX25) (fun x27 X28 dX28 => ?_)
          refine pw_eq (fun x29 _ => ?_)
          refine pw_eq (fun x30 _ => ?_)
          refine pw_eq (fun X31 eX31 => ?_)
          have dX31 : fd X31 := by rw [eX31]; exact fd_w dX28 (by decide)
          exact pw_ret dX31
        · refine pw_ck (fun hck3 => ?_)
          refine pw_eq (fun e32 ee32 => ?_)
          have pke32 : PKo e32 := by rw [ee32]; exact refO_pk hck3
          have ne46_e32 : ¬ 46 = e32 := PKo.ne pke32
          refine pw_bd (z_Program_emit pke32 dX16) (fun x33 X34 dX34 => ?_)
          exact pw_ret dX34
    · intro x6 X7 hd
      refine pw_ck (fun hck1 => ?_)
      refine pw_eq (fun e8 ee8 => ?_)
      have pke8 : PKo e8 := by rw [ee8]; exact refO_pk hck1
      have ne46_e8 : ¬ 46 = e8 := PKo.ne pke8
      refine pw_bd (z_Reader_placeOf hd) (fun x9 X10 dX10 => ?_)
      refine pw_bd (z_Program_emit pke8 dX10) (fun x11 X12 dX12 => ?_)
      refine pw_bd (z_Reader_want dX12) (fun _ X13 dX13 => ?_)
      refine pw_eq (fun x14 _ => ?_)
      refine pw_eq (fun x15 _ => ?_)
      refine pw_eq (fun X16 eX16 => ?_)
      have dX16 : fd X16 := by rw [eX16]; exact fd_w dX13 (by decide)
      refine pw_eq (fun x17 _ => ?_)
      refine pw_ite (fun _ => ?_) (fun _ => ?_)
      · refine pw_bd (z_Reader_enter dX16) (fun _ X18 dX18 => ?_)
        refine pw_bd (zv_takeE _ dX18) (fun x19 X20 dX20 => ?_)
        refine pw_ck (fun hck2 => ?_)
        refine pw_eq (fun e21 ee21 => ?_)
        have pke21 : PKo e21 := by rw [ee21]; exact refO_pk hck2
        have ne46_e21 : ¬ 46 = e21 := PKo.ne pke21
        refine pw_bd (z_Reader_placeOf dX20) (fun x22 X23 dX23 => ?_)
        refine pw_bd (z_Program_emit pke21 dX23) (fun x24 X25 dX25 => ?_)
        refine pw_ck (fun hck3 => ?_)
        refine pw_eq (fun e26 ee26 => ?_)
        have pke26 : PKo e26 := by rw [ee26]; exact refO_pk hck3
        have ne46_e26 : ¬ 46 = e26 := PKo.ne pke26
        refine pw_bd (z_Program_emit pke26 dX25) (fun x27 X28 dX28 => ?_)
        refine pw_eq (fun x29 _ => ?_)
        refine pw_eq (fun x30 _ => ?_)
        refine pw_eq (fun X31 eX31 => ?_)
        have dX31 : fd X31 := by rw [eX31]; exact fd_w dX28 (by decide)
        exact pw_ret dX31
      · refine pw_ck (fun hck4 => ?_)
        refine pw_eq (fun e32 ee32 => ?_)
        have pke32 : PKo e32 := by rw [ee32]; exact refO_pk hck4
        have ne46_e32 : ¬ 46 = e32 := PKo.ne pke32
        refine pw_bd (z_Program_emit pke32 dX16) (fun x33 X34 dX34 => ?_)
        exact pw_ret dX34
  · intro _ X5 hd
    refine pw_bd (zv_takeE _ hd) (fun x6 X7 dX7 => ?_)
    refine pw_ck (fun hck1 => ?_)
    refine pw_eq (fun e8 ee8 => ?_)
    have pke8 : PKo e8 := by rw [ee8]; exact refO_pk hck1
    have ne46_e8 : ¬ 46 = e8 := PKo.ne pke8
    refine pw_bd (z_Reader_placeOf dX7) (fun x9 X10 dX10 => ?_)
    refine pw_bd (z_Program_emit pke8 dX10) (fun x11 X12 dX12 => ?_)
    refine pw_bd (z_Reader_want dX12) (fun _ X13 dX13 => ?_)
    refine pw_eq (fun x14 _ => ?_)
    refine pw_eq (fun x15 _ => ?_)
    refine pw_eq (fun X16 eX16 => ?_)
    have dX16 : fd X16 := by rw [eX16]; exact fd_w dX13 (by decide)
    refine pw_eq (fun x17 _ => ?_)
    refine pw_ite (fun _ => ?_) (fun _ => ?_)
    · refine pw_bd (z_Reader_enter dX16) (fun _ X18 dX18 => ?_)
      refine pw_bd (zv_takeE _ dX18) (fun x19 X20 dX20 => ?_)
      refine pw_ck (fun hck2 => ?_)
      refine pw_eq (fun e21 ee21 => ?_)
      have pke21 : PKo e21 := by rw [ee21]; exact refO_pk hck2
      have ne46_e21 : ¬ 46 = e21 := PKo.ne pke21
      refine pw_bd (z_Reader_placeOf dX20) (fun x22 X23 dX23 => ?_)
      refine pw_bd (z_Program_emit pke21 dX23) (fun x24 X25 dX25 => ?_)
      refine pw_ck (fun hck3 => ?_)
      refine pw_eq (fun e26 ee26 => ?_)
      have pke26 : PKo e26 := by rw [ee26]; exact refO_pk hck3
      have ne46_e26 : ¬ 46 = e26 := PKo.ne pke26
      refine pw_bd (z_Program_emit pke26 dX25) (fun x27 X28 dX28 => ?_)
      refine pw_eq (fun x29 _ => ?_)
      refine pw_eq (fun x30 _ => ?_)
      refine pw_eq (fun X31 eX31 => ?_)
      have dX31 : fd X31 := by rw [eX31]; exact fd_w dX28 (by decide)
      exact pw_ret dX31
    · refine pw_ck (fun hck4 => ?_)
      refine pw_eq (fun e32 ee32 => ?_)
      have pke32 : PKo e32 := by rw [ee32]; exact refO_pk hck4
      have ne46_e32 : ¬ 46 = e32 := PKo.ne pke32
      refine pw_bd (z_Program_emit pke32 dX16) (fun x33 X34 dX34 => ?_)
      exact pw_ret dX34
end CEX
