/-! .. operands, signs, lets, ifs: the whole expression -/
section CEX2
variable {e n : Nat} {ch : Tx} {X0 : St}
variable {v_takePrefix : Int32 → Int32 → St → Option (Int32 × St)} {v_takeE : St → Option (Int32 × St)} {P : PFn} {E : EF}
variable {X : St} {q : Nat} {o : Int} {sc : List Nm} {ws : List Wt} {c : List Ins} {K : KB}
theorem l_takeB (zv_takePrefix : ∀ (p1 p2 : Int32) (X : St), fd X → pw (v_takePrefix p1 p2 X) (fun _ Y => fd Y)) (zv_takeE : ∀ (X : St), fd X → pw (v_takeE X) (fun _ Y => fd Y)) (hP : PH e n ch X0 v_takePrefix P) (hE : EH e n ch X0 v_takeE E) (hR : RC e ch n X0 (0, K) X q o sc ws c) (ho : 0 ≤ o ∧ o ≤ 40) (hs : (sc.length : Int) ≤ 4 + o) (hw : (ws.length : Int) ≤ 3 * o + 3) (hc : c.length ≤ 3 * pl ch q) : pw (g_Reader_takeB v_takePrefix v_takeE X) (fun r Z => PO Z (sB ch E o sc q c) (fun a => RC e ch n X0 (0, K) Z a.1 o sc ws a.2 ∧ r.toInt = (c.length : Int) ∧ c.length + 1 ≤ a.2.length ∧ GAq ch q c 0 a)) := by
  unfold g_Reader_takeB sB
  have hpl := hR.pln
  refine pw_bd (l_emitStep hR (by omega)) ?_
  rintro x1 X2 ⟨h1, hR2⟩
  have hl1 := len1 c ((0, 1, (pl ch q : Int), []) : Ins)
  refine pw_let ?_
  refine pw_ifo (by rw [hR2.ty]) (fun c1 => ?_) (fun c1 => ?_)
  · refine pw_bo (l_enter hR2 (t := 40) (by decide) (by decide) ho.1) ?_ ?_
    · rintro _ X5 q1 ⟨hR5, -, p1, p2, p3⟩
      refine pw_bo (hE X5 q1 (o + 1) sc ws _ hR5 (by omega) (by omega) (by omega) (by omega) (by omega)) ?_ ?_
      · rintro x6 X7 r ⟨hR7, h6, hl, g1, g2, g3, g4⟩
        refine pw_bo (l_want hR7 (t := 41) (by decide) (by decide)) ?_ ?_
        · rintro _ X8 q2 ⟨hR8, -, p4, p5⟩
          refine pw_let ?_
          refine pw_let ?_
          refine pw_eq (fun X11 e11 => ?_)
          have hR11 := hR8.shut (by omega)
          rw [show o + 1 - 1 = o from by omega] at hR11
          rw [← e11] at hR11
          refine pw_ret (PO.s ⟨hR11, h1, ?_, ?_, ?_, ?_, p5⟩)
          · show c.length + 1 ≤ r.2.length
            omega
          · show c.length ≤ r.2.length
            omega
          · show r.2.length + 0 + 3 * pl ch q ≤ c.length + 3 * pl ch q2
            omega
          · show pl ch q + 1 ≤ pl ch q2
            omega
        · intro _ X8 hd
          refine pw_eq (fun x9 _ => ?_)
          refine pw_eq (fun x10 _ => ?_)
          refine pw_eq (fun X11 eX11 => ?_)
          have dX11 : fd X11 := by rw [eX11]; exact fd_w hd (by decide)
          exact pw_ret dX11
      · intro x6 X7 hd
        refine pw_bd (z_Reader_want hd) (fun _ X8 dX8 => ?_)
        refine pw_eq (fun x9 _ => ?_)
        refine pw_eq (fun x10 _ => ?_)
        refine pw_eq (fun X11 eX11 => ?_)
        have dX11 : fd X11 := by rw [eX11]; exact fd_w dX8 (by decide)
        exact pw_ret dX11
    · intro _ X5 hd
      refine pw_bd (zv_takeE _ hd) (fun x6 X7 dX7 => ?_)
      refine pw_bd (z_Reader_want dX7) (fun _ X8 dX8 => ?_)
      refine pw_eq (fun x9 _ => ?_)
      refine pw_eq (fun x10 _ => ?_)
      refine pw_eq (fun X11 eX11 => ?_)
      have dX11 : fd X11 := by rw [eX11]; exact fd_w dX8 (by decide)
      exact pw_ret dX11
  refine pw_ifo (by rw [hR2.ty]) (fun c2 => ?_) (fun c2 => ?_)
  · refine pw_ck (fun _ => ?_)
    refine pw_to hR2.pe ?_
    refine pw_bo (l_takeList zv_takePrefix zv_takeE hP hE (p1 := 93) (p2 := 20) (p3 := 36) (cl := 93) (ask := 36) (most := 20) (by decide) (by decide) (by decide) (by decide) (by decide) (by decide) hR2 (by omega) ho.1 hs hw (by omega)) ?_ ?_
    · rintro x14 X15 r ⟨hR15, h14, g1, g2, g3, g4⟩
      refine pw_bd (l_placeOf hR15 h1 (by omega)) ?_
      rintro x16 X17 ⟨rfl, h16⟩
      refine pw_bd (l_emit (kd := []) hR15 (by omega) (a1 := 10) (a2 := (r.1 : Int)) (by decide) (fun _ => ofI h14) h16 (fun g => absurd g (by decide))) ?_
      rintro x18 X19 ⟨⟨h18, hl2⟩, hR19⟩
      refine pw_ret (PO.s ⟨hR19, h1, ?_, ?_, ?_, g3, g4⟩)
      · show c.length + 1 ≤ (r.2.2 ++ [((10, (r.1 : Int), plc r.2.2 c.length, []) : Ins)]).length
        omega
      · show c.length ≤ (r.2.2 ++ [((10, (r.1 : Int), plc r.2.2 c.length, []) : Ins)]).length
        omega
      · show (r.2.2 ++ [((10, (r.1 : Int), plc r.2.2 c.length, []) : Ins)]).length + 0 + 3 * pl ch q ≤ c.length + 3 * pl ch r.2.1
        omega
    · intro x14 X15 hd
      refine pw_bd (z_Reader_placeOf hd) (fun x16 X17 dX17 => ?_)
      refine pw_bd (z_Program_emit (PKo.of hR.he) dX17) (fun x18 X19 dX19 => ?_)
      exact pw_ret dX19
  have wrap : ∀ {G : Option (Int32 × St)} {so : Option Out}, pw G (fun _ Z => PO Z so (fun a => RC e ch n X0 (0, K) Z a.1 o sc ws a.2 ∧ GAq ch q (c ++ [((0, 1, (pl ch q : Int), []) : Ins)]) 1 a)) → pw (bnd G fun _ Y => some (x1, Y)) (fun r Z => PO Z so (fun a => RC e ch n X0 (0, K) Z a.1 o sc ws a.2 ∧ r.toInt = (c.length : Int) ∧ c.length + 1 ≤ a.2.length ∧ GAq ch q c 0 a)) := by
    intro G so h
    refine pw_bd h (fun r Z hZ => pw_ret ?_)
    revert hZ
    cases so with
    | none => exact fun h => h
    | some a =>
      rintro ⟨b1, b2, b3, b4, b5⟩
      exact ⟨b1, h1, by omega, by omega, by omega, b4, b5⟩
  refine pw_ifo (by rw [hR2.ty]) (fun c3 => wrap (l_takeBlock zv_takePrefix zv_takeE hP hE hR2 ho.1 hs hw (by omega))) (fun c3 => ?_)
  refine pw_ifo (by rw [hR2.ty]) (fun c4 => wrap (so := some _) (l_takeName hR2 c4 (by omega) (by omega))) (fun c4 => ?_)
  refine pw_ifo (by rw [hR2.ty]) (fun c5 => wrap (l_takeDigits hR2 c5 (by omega))) (fun c5 => ?_)
  have truth : ∀ (b0 b1 : Int32) (a1 : Int), b0.toInt = a1 → b1.toInt = 2 → ¬ ty ch q = 257 → ¬ ty ch q = 260 → pw (g_Reader_takeB_134 v_takePrefix v_takeE x1 b0 b1 e X2) (fun r Z => PO Z (some (nx ch q, (c ++ [(0, 1, (pl ch q : Int), [])]) ++ [(2, a1, (pl ch q : Int), [])])) (fun a => RC e ch n X0 (0, K) Z a.1 o sc ws a.2 ∧ r.toInt = (c.length : Int) ∧ c.length + 1 ≤ a.2.length ∧ GAq ch q c 0 a)) := by
    intro b0 b1 a1 hb0 hb1 t1 t2
    unfold g_Reader_takeB_134
    refine pw_let ?_
    refine pw_bd (l_emit (kd := []) hR2 (by omega) (a1 := 2) (a2 := a1) hb1 (fun _ => ofI hb0) hR2.pl (fun g => absurd g (by decide))) ?_
    rintro x30 X31 ⟨⟨h31, hl2⟩, hR31⟩
    refine pw_bd (l_advance hR31 t2) (fun _ X32 hR32 => ?_)
    have p1 := pl_nx hR.tx (q := q) t1
    have p2 := hR32.pln
    refine pw_ret (PO.s ⟨hR32, h1, ?_, ?_, ?_, p1, ?_⟩)
    · show c.length + 1 ≤ ((c ++ [((0, 1, (pl ch q : Int), []) : Ins)]) ++ [(2, a1, (pl ch q : Int), [])]).length
      omega
    · show c.length ≤ ((c ++ [((0, 1, (pl ch q : Int), []) : Ins)]) ++ [(2, a1, (pl ch q : Int), [])]).length
      omega
    · show ((c ++ [((0, 1, (pl ch q : Int), []) : Ins)]) ++ [(2, a1, (pl ch q : Int), [])]).length + 0 + 3 * pl ch q ≤ c.length + 3 * pl ch (nx ch q)
      omega
    · show pl ch (nx ch q) ≤ 3000
      omega
  refine pw_ifo (by rw [hR2.ty]) (fun c6 => ?_) (fun c6 => ?_)
  · refine pw_ck (fun _ => ?_)
    refine pw_to hR2.pe ?_
    refine pw_let ?_
    exact pw_pos (by rw [hR2.ty]; exact c6) (truth 1 2 1 (by decide) (by decide) (by omega) (by omega))
  refine pw_ifo (by rw [hR2.ty]) (fun c7 => ?_) (fun c7 => ?_)
  · refine pw_ck (fun _ => ?_)
    refine pw_to hR2.pe ?_
    refine pw_let ?_
    exact pw_neg (by rw [hR2.ty]; omega) (truth 0 2 0 (by decide) (by decide) (by omega) (by omega))
  refine pw_ifo (by rw [hR2.ty]) (fun c8 => wrap (l_takeNew zv_takePrefix zv_takeE hP hE hR2 ho.1 hs hw (by omega) (by omega))) (fun c8 => ?_)
  refine pw_ifo (by rw [hR2.ty]) (fun c9 => wrap (l_takeWork zv_takePrefix zv_takeE hP hE (a1 := 29) (a2 := 12) (by decide) (by decide) (by decide) (by decide) hR2 ho.1 hs hw (by omega) (by omega))) (fun c9 => ?_)
  refine pw_ifo (by rw [hR2.ty]) (fun c10 => wrap (l_takeWork zv_takePrefix zv_takeE hP hE (a1 := 27) (a2 := 13) (by decide) (by decide) (by decide) (by decide) hR2 ho.1 hs hw (by omega) (by omega))) (fun c10 => ?_)
  refine pw_bd (f_Reader_refuse X2 (by decide)) (fun _ X42 hd => ?_)
  exact pw_ret (PO.n hd)
theorem l_takeU1 (zv_takePrefix : ∀ (p1 p2 : Int32) (X : St), fd X → pw (v_takePrefix p1 p2 X) (fun _ Y => fd Y)) (zv_takeE : ∀ (X : St), fd X → pw (v_takeE X) (fun _ Y => fd Y)) (hP : PH e n ch X0 v_takePrefix P) (hE : EH e n ch X0 v_takeE E) {named : Bool} {b0 : Int32} (hb : zB b0 named) {f : Nat} {q0 : Nat} {c0 : List Ins} (ho : 0 ≤ o ∧ o ≤ 40) (hs : (sc.length : Int) ≤ 4 + o) (hw : (ws.length : Int) ≤ 3 * o + 3) : ∀ N, (∀ (a1 a2 a3 a4 : Int32) (X : St), fd X → pw (g_Reader_takeU_86 v_takePrefix v_takeE N a1 a2 a3 a4 X) (fun _ Y => fd Y)) ∧ ∀ (a2 a3 a4 : Int32) (Y : St) (k q2 : Nat) (st : Bool) (c2 : List Ins), zB a2 st → a3.toInt = (f : Int) → a4.toInt = 41 - (k : Int) → k ≤ 41 → f < c2.length → RC e ch n X0 (0, K) Y q2 o sc ws c2 → c0.length ≤ c2.length → c2.length + 0 + 3 * pl ch q0 ≤ c0.length + 3 * pl ch q2 → pl ch q0 + 1 ≤ pl ch q2 → c2.length ≤ 3 * pl ch q2 → pw (g_Reader_takeU_86 v_takePrefix v_takeE N b0 a2 a3 a4 Y) (fun r Z => PO Z (sU1 ch E o sc named f k st q2 c2) (fun a => RC e ch n X0 (0, K) Z a.1 o sc ws a.2 ∧ r.toInt = (f : Int) ∧ c2.length ≤ a.2.length ∧ GAq ch q0 c0 0 a)) := by
  intro N
  unfold g_Reader_takeU_86
  refine lp_ind (P := fun (r : Int32 → Int32 → Int32 → Int32 → St → Option (Int32 × St)) => (∀ (a1 a2 a3 a4 : Int32) (X : St), fd X → pw (r a1 a2 a3 a4 X) (fun _ Y => fd Y)) ∧ ∀ (a2 a3 a4 : Int32) (Y : St) (k q2 : Nat) (st : Bool) (c2 : List Ins), zB a2 st → a3.toInt = (f : Int) → a4.toInt = 41 - (k : Int) → k ≤ 41 → f < c2.length → RC e ch n X0 (0, K) Y q2 o sc ws c2 → c0.length ≤ c2.length → c2.length + 0 + 3 * pl ch q0 ≤ c0.length + 3 * pl ch q2 → pl ch q0 + 1 ≤ pl ch q2 → c2.length ≤ 3 * pl ch q2 → pw (r b0 a2 a3 a4 Y) (fun r Z => PO Z (sU1 ch E o sc named f k st q2 c2) (fun a => RC e ch n X0 (0, K) Z a.1 o sc ws a.2 ∧ r.toInt = (f : Int) ∧ c2.length ≤ a.2.length ∧ GAq ch q0 c0 0 a))) ⟨fun _ _ _ _ _ _ => pw_none, fun _ _ _ _ _ _ _ _ _ _ _ _ _ _ _ _ _ _ => pw_none⟩ ?_ N
  rintro r86 ⟨zr86, ih⟩
  refine ⟨fun a_1 a_2 a_3 a_4 X hd => ?_, fun a2 a3 a4 Y k q2 st c2 hst h3 h4 hk hf hR k1 k2 k3 k4 => ?_⟩
  · unfold g_Reader_takeU_86_s
    refine pw_ite (fun _ => ?_) (fun _ => ?_)
    · exact pw_ret hd
    · refine pw_ite (fun _ => ?_) (fun _ => ?_)
      · refine pw_eq (fun x6 _ => ?_)
        refine pw_ite (fun _ => ?_) (fun _ => ?_)
        · exact z_Reader_takeU_121 zv_takePrefix zv_takeE zr86 hd
        · refine pw_eq (fun x14 _ => ?_)
          refine pw_ite (fun _ => ?_) (fun _ => ?_)
          · exact z_Reader_takeU_121 zv_takePrefix zv_takeE zr86 hd
          · exact pw_ret hd
      · exact pw_ret hd
  · have hpl := hR.pln
    have out : pw (some (a3, Y)) (fun r Z => PO Z (some (q2, c2)) (fun a => RC e ch n X0 (0, K) Z a.1 o sc ws a.2 ∧ r.toInt = (f : Int) ∧ c2.length ≤ a.2.length ∧ GAq ch q0 c0 0 a)) := pw_ret (PO.s ⟨hR, h3, Nat.le_refl _, k1, k2, k3, by show pl ch q2 ≤ 3000; omega⟩)
    unfold g_Reader_takeU_86_s
    cases k with
    | zero =>
      refine pw_pos (by omega) ?_
      rw [sU1]
      exact out
    | succ k =>
      refine pw_neg (by omega) ?_
      rw [sU1]
      have more : zB a2 false → (ty ch q2 = 40 ∨ ty ch q2 = 91) → pw (g_Reader_takeU_121 v_takePrefix v_takeE r86 b0 a2 a3 a4 Y) (fun r Z => PO Z (if k = 0 then none else if ty ch q2 = 40 then (sCall ch E o sc (if named = true ∧ k = 40 then 31 else 30) q2 (addx c2 f 1)).bind fun r => sU1 ch E o sc named f k false r.1 r.2 else (sPlace ch E o sc q2 (addx c2 f 1)).bind fun r => sU1 ch E o sc named f k r.1 r.2.1 r.2.2) (fun a => RC e ch n X0 (0, K) Z a.1 o sc ws a.2 ∧ r.toInt = (f : Int) ∧ c2.length ≤ a.2.length ∧ GAq ch q0 c0 0 a)) := by
        intro hst0 ht
        have hal := addx_len c2 f 1
        unfold g_Reader_takeU_121
        refine pw_bd (l_addStep hR h3 hf) (fun _ X7 hR7 => ?_)
        by_cases hk0 : k = 0
        · rw [if_pos hk0]
          refine pw_neg (by omega) ?_
          refine pw_bd (f_Reader_refuse X7 (by decide)) (fun _ X13 hd => ?_)
          show pw _ (fun _ Z => fd Z)
          exact z_Reader_takeU_181 zv_takePrefix zv_takeE zr86 hd
        · rw [if_neg hk0]
          refine pw_pos (by omega) ?_
          refine pw_let ?_
          have next : ∀ (x9 : Int32) (s : Bool) (X10 : St) (r : Out), zB x9 s → RC e ch n X0 (0, K) X10 r.1 o sc ws r.2 → GAq ch q2 (addx c2 f 1) 1 r → pw (g_Reader_takeU_181 v_takePrefix v_takeE r86 b0 x9 a3 a4 X10) (fun r_1 Z => PO Z (sU1 ch E o sc named f k s r.1 r.2) (fun a => RC e ch n X0 (0, K) Z a.1 o sc ws a.2 ∧ r_1.toInt = (f : Int) ∧ c2.length ≤ a.2.length ∧ GAq ch q0 c0 0 a)) := by
            intro x9 s X10 r hx9 hR10 hG
            obtain ⟨g1, g2, g3, g4⟩ := hG
            unfold g_Reader_takeU_181
            refine pw_let ?_
            refine pw_po (ih x9 a3 _ X10 k r.1 s r.2 hx9 h3 (by rw [i1 (by omega), h4]; omega) (by omega) (by omega) hR10 (by omega) (by omega) (by omega) (by omega)) ?_
            rintro r1 Z b ⟨d1, d2, d3, d4⟩
            exact ⟨d1, d2, by omega, d4⟩
          refine pw_ifo (by rw [hR7.ty]) (fun c1 => ?_) (fun c1 => ?_)
          · have call : ∀ (ask : Int32) (a : Int), ask.toInt = a → (¬ a = 4 ∧ ¬ a = 34) → a = (if named = true ∧ k = 40 then 31 else 30) → pw (g_Reader_takeU_170 v_takePrefix v_takeE r86 b0 a2 a3 a4 ask X7) (fun r Z => PO Z ((sCall ch E o sc (if named = true ∧ k = 40 then 31 else 30) q2 (addx c2 f 1)).bind fun r => sU1 ch E o sc named f k false r.1 r.2) (fun a => RC e ch n X0 (0, K) Z a.1 o sc ws a.2 ∧ r.toInt = (f : Int) ∧ c2.length ≤ a.2.length ∧ GAq ch q0 c0 0 a)) := by
              intro ask a ha hn he
              rw [← he]
              unfold g_Reader_takeU_170
              refine pw_bo (l_takeCall zv_takePrefix zv_takeE hP hE ha hn hR7 c1 ho.1 hs hw (by omega)) ?_ ?_
              · rintro _ X12 r ⟨hR12, hG⟩
                exact next a2 false X12 r hst0 hR12 hG
              · intro _ X12 hd
                exact z_Reader_takeU_181 zv_takePrefix zv_takeE zr86 hd
            have call30 : ¬ (named = true ∧ k = 40) → pw (g_Reader_takeU_168 v_takePrefix v_takeE r86 b0 a2 a3 a4 X7) (fun r Z => PO Z ((sCall ch E o sc (if named = true ∧ k = 40 then 31 else 30) q2 (addx c2 f 1)).bind fun r => sU1 ch E o sc named f k false r.1 r.2) (fun a => RC e ch n X0 (0, K) Z a.1 o sc ws a.2 ∧ r.toInt = (f : Int) ∧ c2.length ≤ a.2.length ∧ GAq ch q0 c0 0 a)) := by
              intro hn
              unfold g_Reader_takeU_168
              exact call 30 30 (by decide) (by decide) (by rw [if_neg hn])
            refine pw_ite (fun c2_ => call30 (fun g => ?_)) (fun c2_ => ?_)
            · have := hb.f c2_
              rw [g.1] at this
              exact absurd this (by decide)
            · have hnm := hb.t c2_
              refine pw_ite (fun c3 => call 31 31 (by decide) (by decide) (by rw [if_pos ⟨hnm, by omega⟩])) (fun c3 => call30 (fun g => ?_))
              omega
          · refine pw_bo (l_takePlace zv_takePrefix zv_takeE hP hE hR7 ho.1 hs hw (by omega)) ?_ ?_
            · rintro x9 X10 r ⟨hR10, hz, hG⟩
              exact next x9 r.1 X10 r.2 hz hR10 hG
            · intro x9 X10 hd
              exact z_Reader_takeU_181 zv_takePrefix zv_takeE zr86 hd
      cases st with
      | true =>
        have h2 : ¬ a2.toInt = 0 := fun g => by
          have := hst.f g
          exact absurd this (by decide)
        refine pw_neg h2 ?_
        rw [if_neg (show ¬ (true = false ∧ (ty ch q2 = 40 ∨ ty ch q2 = 91)) from fun g => absurd g.1 (by decide))]
        exact out
      | false =>
        have h2 : a2.toInt = 0 := by
          rcases hst with g | g
          · exact g.1
          · exact absurd g.2 (by decide)
        refine pw_pos h2 ?_
        refine pw_let ?_
        by_cases t1 : ty ch q2 = 40
        · refine pw_pos (by rw [hR.ty]; exact t1) ?_
          rw [if_pos (show false = false ∧ (ty ch q2 = 40 ∨ ty ch q2 = 91) from ⟨rfl, Or.inl t1⟩)]
          exact more hst (Or.inl t1)
        · refine pw_neg (by rw [hR.ty]; exact t1) ?_
          refine pw_let ?_
          by_cases t2 : ty ch q2 = 91
          · refine pw_pos (by rw [hR.ty]; exact t2) ?_
            rw [if_pos (show false = false ∧ (ty ch q2 = 40 ∨ ty ch q2 = 91) from ⟨rfl, Or.inr t2⟩)]
            exact more hst (Or.inr t2)
          · refine pw_neg (by rw [hR.ty]; exact t2) ?_
            rw [if_neg (show ¬ (false = false ∧ (ty ch q2 = 40 ∨ ty ch q2 = 91)) from fun g => by rcases g.2 with g | g <;> omega)]
            exact out
theorem l_takeU (zv_takePrefix : ∀ (p1 p2 : Int32) (X : St), fd X → pw (v_takePrefix p1 p2 X) (fun _ Y => fd Y)) (zv_takeE : ∀ (X : St), fd X → pw (v_takeE X) (fun _ Y => fd Y)) (hP : PH e n ch X0 v_takePrefix P) (hE : EH e n ch X0 v_takeE E) (hR : RC e ch n X0 (0, K) X q o sc ws c) (ho : 0 ≤ o ∧ o ≤ 40) (hs : (sc.length : Int) ≤ 4 + o) (hw : (ws.length : Int) ≤ 3 * o + 3) (hc : c.length ≤ 3 * pl ch q) : pw (g_Reader_takeU v_takePrefix v_takeE X) (fun r Z => PO Z (sU ch P E o sc q c) (fun a => RC e ch n X0 (0, K) Z a.1 o sc ws a.2 ∧ r.toInt = (c.length : Int) ∧ c.length + 1 ≤ a.2.length ∧ GAq ch q c 0 a)) := by
  unfold g_Reader_takeU sU
  refine pw_let ?_
  refine pw_ifo (by rw [hR.ty]) (fun c1 => ?_) (fun c1 => ?_)
  · exact pw_bd (hP 27 18 27 18 X q o sc ws c (by decide) (by decide) (by decide) (by decide) hR ho.1 ho.2 hs hw hc (Or.inl c1)) (fun r Z h => pw_ret h)
  refine pw_let ?_
  refine pw_ifo (by rw [hR.ty]) (fun c2 => ?_) (fun c2 => ?_)
  · exact pw_bd (hP 28 19 28 19 X q o sc ws c (by decide) (by decide) (by decide) (by decide) hR ho.1 ho.2 hs hw hc (Or.inr c2)) (fun r Z h => pw_ret h)
  have go : ∀ (b0 : Int32), zB b0 (decide (ty ch q = 258 ∧ slot sc (nm ch q) = -1)) → pw (g_Reader_takeU_75 v_takePrefix v_takeE b0 X) (fun r Z => PO Z ((sB ch E o sc q c).bind fun r => sU1 ch E o sc (decide (ty ch q = 258 ∧ slot sc (nm ch q) = -1)) c.length 41 false r.1 r.2) (fun a => RC e ch n X0 (0, K) Z a.1 o sc ws a.2 ∧ r.toInt = (c.length : Int) ∧ c.length + 1 ≤ a.2.length ∧ GAq ch q c 0 a)) := by
    intro b0 hb
    unfold g_Reader_takeU_75
    refine pw_bo (l_takeB zv_takePrefix zv_takeE hP hE hR ho hs hw hc) ?_ ?_
    · rintro x4 X5 r ⟨hR5, h4, hl, g1, g2, g3, g4⟩
      refine pw_po ((l_takeU1 zv_takePrefix zv_takeE hP hE hb (f := c.length) (q0 := q) (c0 := c) ho hs hw BIG).2 0 x4 0 X5 41 r.1 false r.2 (Or.inl ⟨by decide, rfl⟩) h4 (by decide) (Nat.le_refl _) (by omega) hR5 g1 g2 g3 (by omega)) ?_
      rintro r1 Z b ⟨d1, d2, d3, d4⟩
      exact ⟨d1, d2, by omega, d4⟩
    · intro x4 X5 hd
      exact z_Reader_takeU_86 zv_takePrefix zv_takeE _ _ _ _ _ _ hd
  have go74 : ¬ (ty ch q = 258 ∧ slot sc (nm ch q) = -1) → pw (g_Reader_takeU_74 v_takePrefix v_takeE X) (fun r Z => PO Z ((sB ch E o sc q c).bind fun r => sU1 ch E o sc (decide (ty ch q = 258 ∧ slot sc (nm ch q) = -1)) c.length 41 false r.1 r.2) (fun a => RC e ch n X0 (0, K) Z a.1 o sc ws a.2 ∧ r.toInt = (c.length : Int) ∧ c.length + 1 ≤ a.2.length ∧ GAq ch q c 0 a)) := by
    intro h
    unfold g_Reader_takeU_74
    exact go 0 (Or.inl ⟨by decide, decide_eq_false h⟩)
  refine pw_let ?_
  refine pw_ite (fun c3 => ?_) (fun c3 => go74 (fun g => c3 (by rw [hR.ty]; exact g.1)))
  rw [hR.ty] at c3
  have hwd := ty_word hR.tx (q := q) (by omega)
  have hnm := hR.2.1.2.1.2.2.2.1 c3
  refine pw_let ?_
  refine pw_bd (l_slotOf hR (by omega) (nm_lt hR.tx q) hwd.2.2.1 hnm.1) ?_
  rintro x16 X17 ⟨rfl, h16⟩
  refine pw_ite (fun c4 => go 1 (Or.inr ⟨by decide, decide_eq_true ⟨c3, by omega⟩⟩)) (fun c4 => go74 (fun g => c4 (by omega)))
/-- the levels of the signs that wait -/
def SL : List Wt → Int → Prop
  | [], _ => True
  | w :: ws, b => 1 ≤ lvl w.1 ∧ lvl w.1 < b ∧ SL ws (lvl w.1)
theorem SL.len : ∀ (ws : List Wt) (b : Int), SL ws b → 1 ≤ b → (ws.length : Int) ≤ b - 1 := by
  intro ws
  induction ws with
  | nil => intro b _ h; show (0 : Int) ≤ b - 1; omega
  | cons w ws ih =>
    intro b h hb
    have := ih _ h.2.2 h.1
    have := h.2.1
    show ((ws.length + 1 : Nat) : Int) ≤ b - 1
    omega
theorem sPop_SL (lv : Int) : ∀ (ws : List Wt) (b : Int) (f : Nat) (c : List Ins), SL ws b → SL (sPop lv ws f c).1 lv := by
  intro ws
  induction ws with
  | nil => exact fun _ _ _ _ => trivial
  | cons w ws ih =>
    intro b f c h
    unfold sPop
    by_cases hl : lvl w.1 < lv
    · rw [if_pos hl]; exact ⟨h.1, hl, h.2.2⟩
    · rw [if_neg hl]; exact ih _ _ _ h.2.2
theorem SL.nil {ws : List Wt} (h : SL ws 1) : ws = [] := by
  cases ws with
  | nil => rfl
  | cons w ws =>
    have h1 := h.1
    have h2 := h.2.1
    exfalso
    omega
/-- where the leftmost of those that wait stands -/
def lastL : List Wt → Nat → Nat
  | [], f => f
  | w :: ws, _ => lastL ws w.2.2
theorem sPop_last (lv : Int) : ∀ (ws : List Wt) (f : Nat) (c : List Ins), lastL (sPop lv ws f c).1 (sPop lv ws f c).2.1 = lastL ws f := by
  intro ws
  induction ws with
  | nil => exact fun _ _ => rfl
  | cons w ws ih =>
    intro f c
    unfold sPop
    by_cases hl : lvl w.1 < lv
    · rw [if_pos hl]
    · rw [if_neg hl, ih]; rfl
theorem lvl_in (s : Int) : 0 ≤ lvl s ∧ lvl s ≤ 3 := by
  unfold lvl
  repeat' split
  all_goals omega
theorem lvl_t {s : Int} (h : ¬ lvl s = 0) : ¬ s = 257 ∧ ¬ s = 260 := by
  constructor
  · intro g; rw [g] at h; exact h (by decide)
  · intro g; rw [g] at h; exact h (by decide)
theorem sPop_le (lv : Int) : ∀ (ws : List Wt) (f : Nat) (c : List Ins), (sPop lv ws f c).1.length ≤ ws.length := by
  intro ws
  induction ws with
  | nil => exact fun _ _ => Nat.le_refl _
  | cons w ws ih =>
    intro f c
    unfold sPop
    by_cases hl : lvl w.1 < lv
    · rw [if_pos hl]; exact Nat.le_refl _
    · rw [if_neg hl]; exact Nat.le_trans (ih _ _) (Nat.le_succ _)
theorem l_takeC1 (zv_takePrefix : ∀ (p1 p2 : Int32) (X : St), fd X → pw (v_takePrefix p1 p2 X) (fun _ Y => fd Y)) (zv_takeE : ∀ (X : St), fd X → pw (v_takeE X) (fun _ Y => fd Y)) (hP : PH e n ch X0 v_takePrefix P) (hE : EH e n ch X0 v_takeE E) {wo : List Wt} {a1 : Int32} (h1 : a1.toInt = (wo.length : Int)) {q0 : Nat} {c0 : List Ins} {b : Nat} (hb : b < c0.length + 1) (ho : 0 ≤ o ∧ o ≤ 40) (hs : (sc.length : Int) ≤ 4 + o) (hw : (wo.length : Int) ≤ 3 * o) (hc0 : c0.length ≤ 3 * pl ch q0) : ∀ N, (∀ (a1 a2 a3 a4 a5 a6 : Int32) (X : St), fd X → pw (g_Reader_takeC_21 v_takePrefix v_takeE N a1 a2 a3 a4 a5 a6 X) (fun _ Y => fd Y)) ∧ ∀ (a2 a3 a4 a5 a6 : Int32) (Y : St) (k : Nat) (sums prods : Int) (cmp : Bool) (f q2 : Nat) (wl : List Wt) (c2 : List Ins), a2.toInt = sums → a3.toInt = prods → zB a4 cmp → a5.toInt = (f : Int) → a6.toInt = 3000 - (k : Int) → k ≤ 3000 → 0 ≤ sums → sums ≤ 40 → 0 ≤ prods → prods ≤ 40 → RC e ch n X0 (0, K) Y q2 o sc (wl ++ wo) c2 → SL wl 4 → (∀ w ∈ wl, w.2.2 < c2.length) → f < c2.length → lastL wl f = b → c0.length + 1 ≤ c2.length → c2.length + 2 * wl.length + 3 * pl ch q0 ≤ c0.length + 3 * pl ch q2 → pl ch q0 + 1 ≤ pl ch q2 → pw (g_Reader_takeC_21 v_takePrefix v_takeE N a1 a2 a3 a4 a5 a6 Y) (fun r Z => PO Z (sC1 ch (sU ch P E o sc) k sums prods cmp f wl q2 c2) (fun a => RC e ch n X0 (0, K) Z a.1 o sc wo a.2 ∧ r.toInt = (b : Int) ∧ c0.length + 1 ≤ a.2.length ∧ GAq ch q0 c0 0 a)) := by
  intro N
  unfold g_Reader_takeC_21
  refine lp_ind (P := fun (r : Int32 → Int32 → Int32 → Int32 → Int32 → Int32 → St → Option (Int32 × St)) => (∀ (a1 a2 a3 a4 a5 a6 : Int32) (X : St), fd X → pw (r a1 a2 a3 a4 a5 a6 X) (fun _ Y => fd Y)) ∧ ∀ (a2 a3 a4 a5 a6 : Int32) (Y : St) (k : Nat) (sums prods : Int) (cmp : Bool) (f q2 : Nat) (wl : List Wt) (c2 : List Ins), a2.toInt = sums → a3.toInt = prods → zB a4 cmp → a5.toInt = (f : Int) → a6.toInt = 3000 - (k : Int) → k ≤ 3000 → 0 ≤ sums → sums ≤ 40 → 0 ≤ prods → prods ≤ 40 → RC e ch n X0 (0, K) Y q2 o sc (wl ++ wo) c2 → SL wl 4 → (∀ w ∈ wl, w.2.2 < c2.length) → f < c2.length → lastL wl f = b → c0.length + 1 ≤ c2.length → c2.length + 2 * wl.length + 3 * pl ch q0 ≤ c0.length + 3 * pl ch q2 → pl ch q0 + 1 ≤ pl ch q2 → pw (r a1 a2 a3 a4 a5 a6 Y) (fun r Z => PO Z (sC1 ch (sU ch P E o sc) k sums prods cmp f wl q2 c2) (fun a => RC e ch n X0 (0, K) Z a.1 o sc wo a.2 ∧ r.toInt = (b : Int) ∧ c0.length + 1 ≤ a.2.length ∧ GAq ch q0 c0 0 a))) ⟨fun _ _ _ _ _ _ _ _ => pw_none, fun _ _ _ _ _ _ _ _ _ _ _ _ _ _ _ _ _ _ _ _ _ _ _ _ _ _ _ _ _ _ _ _ => pw_none⟩ ?_ N
  rintro r21 ⟨zr21, ih⟩
  refine ⟨fun a_1 a_2 a_3 a_4 a_5 a_6 X hd => ?_, fun a2 a3 a4 a5 a6 Y k sums prods cmp f q2 wl c2 h2 h3 h4 h5 h6 hk hs1 hs2 hp1 hp2 hR hSL hwl hf hlast k1 k2 k3 => ?_⟩
  · unfold g_Reader_takeC_21_s
    refine pw_ite (fun _ => ?_) (fun _ => ?_)
    · exact z_Reader_takeC_169 zv_takePrefix zv_takeE hd
    · refine pw_eq (fun x6 _ => ?_)
      refine pw_bd (z_Reader_levelOf hd) (fun x7 X8 dX8 => ?_)
      refine pw_ite (fun _ => ?_) (fun _ => ?_)
      · exact z_Reader_takeC_169 zv_takePrefix zv_takeE dX8
      · refine pw_ite (fun _ => ?_) (fun _ => ?_)
        · refine pw_ite (fun _ => ?_) (fun _ => ?_)
          · exact z_Reader_takeC_60 zv_takePrefix zv_takeE zr21 dX8
          · exact z_Reader_takeC_169 zv_takePrefix zv_takeE dX8
        · exact z_Reader_takeC_60 zv_takePrefix zv_takeE zr21 dX8
  · have hpl := hR.pln
    have hwlen := SL.len _ _ hSL (by decide)
    have hwo : (wl ++ wo).length = wl.length + wo.length := List.length_append
    have out : pw (g_Reader_takeC_169 v_takePrefix v_takeE a1 a5 Y) (fun r Z => PO Z (some (q2, (sPop 1 wl f c2).2.2)) (fun a => RC e ch n X0 (0, K) Z a.1 o sc wo a.2 ∧ r.toInt = (b : Int) ∧ c0.length + 1 ≤ a.2.length ∧ GAq ch q0 c0 0 a)) := by
      unfold g_Reader_takeC_169
      refine pw_bd (l_apply hR h1 (lv := 1) (by decide) h5 (by omega) hf hwl (by omega)) ?_
      rintro x4 X5 ⟨hR5, h4_⟩
      have hnil := SL.nil (sPop_SL 1 wl 4 f c2 hSL)
      have hl := sPop_len 1 wl f c2
      have hla := sPop_last 1 wl f c2
      rw [hnil] at hR5 hl hla
      have hl : (sPop 1 wl f c2).2.2.length + 0 = c2.length + 2 * wl.length := hl
      have hla : (sPop 1 wl f c2).2.1 = lastL wl f := hla
      refine pw_ret (PO.s ⟨hR5, by rw [h4_, hla, hlast], ?_, ?_, ?_, ?_, ?_⟩)
      · show c0.length + 1 ≤ (sPop 1 wl f c2).2.2.length
        omega
      · show c0.length ≤ (sPop 1 wl f c2).2.2.length
        omega
      · show (sPop 1 wl f c2).2.2.length + 0 + 3 * pl ch q0 ≤ c0.length + 3 * pl ch q2
        omega
      · exact k3
      · show pl ch q2 ≤ 3000
        omega
    unfold g_Reader_takeC_21_s
    cases k with
    | zero =>
      refine pw_pos (by omega) ?_
      rw [sC1]
      exact out
    | succ k =>
      refine pw_neg (by omega) ?_
      rw [sC1]
      refine pw_let ?_
      refine pw_bd (l_levelOf _ _) ?_
      rintro x7 X8 ⟨rfl, h7⟩
      rw [hR.ty] at h7
      have hlv := lvl_in (ty ch q2)
      -- a sign is taken
      have take : ¬ lvl (ty ch q2) = 0 → ¬ (lvl (ty ch q2) = 1 ∧ cmp = true) → pw (g_Reader_takeC_60 v_takePrefix v_takeE r21 a1 a2 a3 a4 a5 a6 x7 X8) (fun r Z => PO Z (if 40 < (if lvl (ty ch q2) = 2 then sums + 1 else if lvl (ty ch q2) = 1 then 0 else sums) ∨ 40 < (if lvl (ty ch q2) = 3 then prods + 1 else 0) then none else
    (sU ch P E o sc (nx ch q2) ((sPop (lvl (ty ch q2)) wl f c2).2.2 ++ [(27, 0, plc (sPop (lvl (ty ch q2)) wl f c2).2.2 (sPop (lvl (ty ch q2)) wl f c2).2.1, [])])).bind fun r =>
    sC1 ch (sU ch P E o sc) k (if lvl (ty ch q2) = 2 then sums + 1 else if lvl (ty ch q2) = 1 then 0 else sums) (if lvl (ty ch q2) = 3 then prods + 1 else 0) (cmp || decide (lvl (ty ch q2) = 1)) ((sPop (lvl (ty ch q2)) wl f c2).2.2.length + 1) ((ty ch q2, (pl ch q2 : Int), (sPop (lvl (ty ch q2)) wl f c2).2.1) :: (sPop (lvl (ty ch q2)) wl f c2).1) r.1 r.2) (fun a => RC e ch n X0 (0, K) Z a.1 o sc wo a.2 ∧ r.toInt = (b : Int) ∧ c0.length + 1 ≤ a.2.length ∧ GAq ch q0 c0 0 a)) := by
        intro hl0 hl1
        have hty := lvl_t hl0
        have hpop := sPop_len (lvl (ty ch q2)) wl f c2
        have hpin := sPop_in (lvl (ty ch q2)) wl f c2 hf hwl
        have hpsl := sPop_SL (lvl (ty ch q2)) wl 4 f c2 hSL
        have hpla := sPop_last (lvl (ty ch q2)) wl f c2
        have hplen := SL.len _ _ hpsl (by omega)
        have hple := sPop_le (lvl (ty ch q2)) wl f c2
        unfold g_Reader_takeC_60
        refine pw_bd (l_apply hR h1 (lv := lvl (ty ch q2)) h7 h5 (by omega) hf hwl (by omega)) ?_
        rintro x9 X10 ⟨hR10, h9⟩
        generalize sPop (lvl (ty ch q2)) wl f c2 = s at *
        obtain ⟨ws1, f1, c1⟩ := s
        have hpop : c1.length + 2 * ws1.length = c2.length + 2 * wl.length := hpop
        have h9 : x9.toInt = (f1 : Int) := h9
        have hf1 : f1 < c1.length := hpin.1
        have hpin : ∀ w ∈ ws1, w ∈ wl ∧ w.2.2 < c1.length := hpin.2
        have hR10 : RC e ch n X0 (0, K) X10 q2 o sc (ws1 ++ wo) c1 := hR10
        have hpsl : SL ws1 (lvl (ty ch q2)) := hpsl
        have hpla : lastL ws1 f1 = lastL wl f := hpla
        have hplen : (ws1.length : Int) ≤ lvl (ty ch q2) - 1 := hplen
        have hple : ws1.length ≤ wl.length := hple
        have hwo1 : (ws1 ++ wo).length = ws1.length + wo.length := List.length_append
        -- behind the counts
        have c144 : ∀ (y2 y3 y4 : Int32) (s1 p1 : Int) (b1 : Bool), y2.toInt = s1 → y3.toInt = p1 → zB y4 b1 → 0 ≤ s1 → s1 ≤ 40 → 0 ≤ p1 → p1 ≤ 40 → pw (g_Reader_takeC_144 v_takePrefix v_takeE r21 a1 y2 y3 y4 x9 a6 X10) (fun r Z => PO Z ((sU ch P E o sc (nx ch q2) (c1 ++ [(27, 0, plc c1 f1, [])])).bind fun r => sC1 ch (sU ch P E o sc) k s1 p1 b1 (c1.length + 1) ((ty ch q2, (pl ch q2 : Int), f1) :: ws1) r.1 r.2) (fun a => RC e ch n X0 (0, K) Z a.1 o sc wo a.2 ∧ r.toInt = (b : Int) ∧ c0.length + 1 ≤ a.2.length ∧ GAq ch q0 c0 0 a)) := by
          intro y2 y3 y4 s1 p1 b1 g2 g3 g4 u1 u2 u3 u4
          unfold g_Reader_takeC_144
          refine pw_bd (l_pushWaiting hR10 h9 hf1 (by omega) (by omega)) ?_
          rintro _ X12 ⟨hR12, hl12⟩
          have p4 := pl_nx hR.tx (q := q2) hty.1
          refine pw_bd (l_advance hR12 hty.2) (fun _ X13 hR13 => ?_)
          refine pw_bo (l_takeU zv_takePrefix zv_takeE hP hE hR13 ho hs (by show (((ws1 ++ wo).length + 1 : Nat) : Int) ≤ 3 * o + 3; omega) (by omega)) ?_ ?_
          · rintro x14 X15 r ⟨hR15, h14, hl15, d1, d2, d3, d4⟩
            rw [hl12] at h14
            refine pw_let ?_
            refine ih y2 y3 y4 x14 _ X15 k s1 p1 b1 (c1.length + 1) r.1 ((ty ch q2, (pl ch q2 : Int), f1) :: ws1) r.2 g2 g3 g4 h14 (by rw [i1 (by omega), h6]; omega) (by omega) u1 u2 u3 u4 hR15 ⟨by show 1 ≤ lvl (ty ch q2); omega, by show lvl (ty ch q2) < 4; omega, hpsl⟩ ?_ (by omega) ?_ (by omega) ?_ (by omega)
            · intro w hw_
              rcases List.mem_cons.mp hw_ with g | g
              · rw [g]
                show f1 < r.2.length
                omega
              · have := (hpin w g).2
                omega
            · show lastL ws1 f1 = b
              rw [hpla, hlast]
            · show r.2.length + 2 * (ws1.length + 1) + 3 * pl ch q0 ≤ c0.length + 3 * pl ch r.1
              omega
          · intro x14 X15 hd
            refine pw_eq (fun x16 _ => ?_)
            exact zr21 _ _ _ _ _ _ _ hd
        have c126 : ∀ (y3 y4 z : Int32) (s1 p1 : Int) (b1 : Bool), z.toInt = s1 → y3.toInt = p1 → zB y4 b1 → 0 ≤ s1 → 0 ≤ p1 → pw (g_Reader_takeC_126 v_takePrefix v_takeE r21 a1 y3 y4 x9 a6 z X10) (fun r Z => PO Z (if 40 < s1 ∨ 40 < p1 then none else (sU ch P E o sc (nx ch q2) (c1 ++ [(27, 0, plc c1 f1, [])])).bind fun r => sC1 ch (sU ch P E o sc) k s1 p1 b1 (c1.length + 1) ((ty ch q2, (pl ch q2 : Int), f1) :: ws1) r.1 r.2) (fun a => RC e ch n X0 (0, K) Z a.1 o sc wo a.2 ∧ r.toInt = (b : Int) ∧ c0.length + 1 ≤ a.2.length ∧ GAq ch q0 c0 0 a)) := by
          intro y3 y4 z s1 p1 b1 g1 g2 g3 u1 u3
          have dead : (40 < s1 ∨ 40 < p1) → pw (g_Reader_takeC_139 v_takePrefix v_takeE r21 a1 z y3 y4 x9 a6 X10) (fun r Z => PO Z (if 40 < s1 ∨ 40 < p1 then none else (sU ch P E o sc (nx ch q2) (c1 ++ [(27, 0, plc c1 f1, [])])).bind fun r => sC1 ch (sU ch P E o sc) k s1 p1 b1 (c1.length + 1) ((ty ch q2, (pl ch q2 : Int), f1) :: ws1) r.1 r.2) (fun a => RC e ch n X0 (0, K) Z a.1 o sc wo a.2 ∧ r.toInt = (b : Int) ∧ c0.length + 1 ≤ a.2.length ∧ GAq ch q0 c0 0 a)) := by
            intro h
            rw [if_pos h]
            unfold g_Reader_takeC_139
            refine pw_bd (f_Reader_refuse X10 (by decide)) (fun _ X11 hd => ?_)
            show pw _ (fun _ Z => fd Z)
            exact z_Reader_takeC_144 zv_takePrefix zv_takeE zr21 hd
          unfold g_Reader_takeC_126
          refine pw_ite (fun c_ => dead (Or.inl (by omega))) (fun c_ => ?_)
          refine pw_ite (fun c__ => ?_) (fun c__ => dead (Or.inr (by omega)))
          rw [if_neg (by omega)]
          exact c144 z y3 y4 s1 p1 b1 g1 g2 g3 u1 (by omega) u3 (by omega)
        have l1 : (1 : Int32).toInt = 1 := by decide
        have c102 : ∀ (y3 y4 : Int32) (p1 : Int) (b1 : Bool), y3.toInt = p1 → zB y4 b1 → 0 ≤ p1 → pw (g_Reader_takeC_102 v_takePrefix v_takeE r21 a1 a2 y4 x9 a6 x7 y3 X10) (fun r Z => PO Z (if 40 < (if lvl (ty ch q2) = 2 then sums + 1 else if lvl (ty ch q2) = 1 then 0 else sums) ∨ 40 < p1 then none else (sU ch P E o sc (nx ch q2) (c1 ++ [(27, 0, plc c1 f1, [])])).bind fun r => sC1 ch (sU ch P E o sc) k (if lvl (ty ch q2) = 2 then sums + 1 else if lvl (ty ch q2) = 1 then 0 else sums) p1 b1 (c1.length + 1) ((ty ch q2, (pl ch q2 : Int), f1) :: ws1) r.1 r.2) (fun a => RC e ch n X0 (0, K) Z a.1 o sc wo a.2 ∧ r.toInt = (b : Int) ∧ c0.length + 1 ≤ a.2.length ∧ GAq ch q0 c0 0 a)) := by
          intro y3 y4 p1 b1 g2 g3 u3
          unfold g_Reader_takeC_102
          refine pw_ite (fun c_ => ?_) (fun c_ => ?_)
          · have e1 : (if lvl (ty ch q2) = 2 then sums + 1 else if lvl (ty ch q2) = 1 then 0 else sums) = sums + 1 := if_pos (by omega)
            rw [e1]
            refine pw_let ?_
            exact c126 y3 y4 _ (sums + 1) p1 b1 (by rw [ti_add (by rw [h2, l1]; omega) (by rw [h2, l1]; omega), h2, l1]) g2 g3 (by omega) u3
          · refine pw_ite (fun c__ => ?_) (fun c__ => ?_)
            · have e1 : (if lvl (ty ch q2) = 2 then sums + 1 else if lvl (ty ch q2) = 1 then 0 else sums) = 0 := by rw [if_neg (by omega), if_pos (by omega)]
              rw [e1]
              exact c126 y3 y4 0 0 p1 b1 (by decide) g2 g3 (by omega) u3
            · have e1 : (if lvl (ty ch q2) = 2 then sums + 1 else if lvl (ty ch q2) = 1 then 0 else sums) = sums := by rw [if_neg (by omega), if_neg (by omega)]
              rw [e1]
              exact c126 y3 y4 a2 sums p1 b1 h2 g2 g3 hs1 u3
        have c87 : ∀ (y4 : Int32), zB y4 (cmp || decide (lvl (ty ch q2) = 1)) → pw (g_Reader_takeC_87 v_takePrefix v_takeE r21 a1 a2 a3 x9 a6 x7 y4 X10) (fun r Z => PO Z (if 40 < (if lvl (ty ch q2) = 2 then sums + 1 else if lvl (ty ch q2) = 1 then 0 else sums) ∨ 40 < (if lvl (ty ch q2) = 3 then prods + 1 else 0) then none else (sU ch P E o sc (nx ch q2) (c1 ++ [(27, 0, plc c1 f1, [])])).bind fun r => sC1 ch (sU ch P E o sc) k (if lvl (ty ch q2) = 2 then sums + 1 else if lvl (ty ch q2) = 1 then 0 else sums) (if lvl (ty ch q2) = 3 then prods + 1 else 0) (cmp || decide (lvl (ty ch q2) = 1)) (c1.length + 1) ((ty ch q2, (pl ch q2 : Int), f1) :: ws1) r.1 r.2) (fun a => RC e ch n X0 (0, K) Z a.1 o sc wo a.2 ∧ r.toInt = (b : Int) ∧ c0.length + 1 ≤ a.2.length ∧ GAq ch q0 c0 0 a)) := by
          intro y4 g3
          unfold g_Reader_takeC_87
          refine pw_ite (fun c_ => ?_) (fun c_ => ?_)
          · have e1 : (if lvl (ty ch q2) = 3 then prods + 1 else 0) = prods + 1 := if_pos (by omega)
            rw [e1]
            refine pw_let ?_
            exact c102 _ y4 (prods + 1) _ (by rw [ti_add (by rw [h3, l1]; omega) (by rw [h3, l1]; omega), h3, l1]) g3 (by omega)
          · have e1 : (if lvl (ty ch q2) = 3 then prods + 1 else 0) = 0 := if_neg (by omega)
            rw [e1]
            exact c102 0 y4 0 _ (by decide) g3 (by omega)
        have c82 : (cmp || decide (lvl (ty ch q2) = 1)) = true → pw (g_Reader_takeC_82 v_takePrefix v_takeE r21 a1 a2 a3 x9 a6 x7 X10) (fun r Z => PO Z (if 40 < (if lvl (ty ch q2) = 2 then sums + 1 else if lvl (ty ch q2) = 1 then 0 else sums) ∨ 40 < (if lvl (ty ch q2) = 3 then prods + 1 else 0) then none else (sU ch P E o sc (nx ch q2) (c1 ++ [(27, 0, plc c1 f1, [])])).bind fun r => sC1 ch (sU ch P E o sc) k (if lvl (ty ch q2) = 2 then sums + 1 else if lvl (ty ch q2) = 1 then 0 else sums) (if lvl (ty ch q2) = 3 then prods + 1 else 0) (cmp || decide (lvl (ty ch q2) = 1)) (c1.length + 1) ((ty ch q2, (pl ch q2 : Int), f1) :: ws1) r.1 r.2) (fun a => RC e ch n X0 (0, K) Z a.1 o sc wo a.2 ∧ r.toInt = (b : Int) ∧ c0.length + 1 ≤ a.2.length ∧ GAq ch q0 c0 0 a)) := by
          intro h
          unfold g_Reader_takeC_82
          exact c87 1 (Or.inr ⟨by decide, h⟩)
        refine pw_ite (fun c_ => ?_) (fun c_ => ?_)
        · refine pw_ite (fun c__ => c82 ?_) (fun c__ => c87 0 (Or.inl ⟨by decide, ?_⟩))
          · rw [decide_eq_true (show lvl (ty ch q2) = 1 by omega)]
            exact Bool.or_true _
          · rw [h4.f c_, decide_eq_false (show ¬ lvl (ty ch q2) = 1 by omega)]
            rfl
        · refine c82 ?_
          rw [h4.t c_]
          rfl
      refine pw_ite (fun c_ => ?_) (fun c_ => ?_)
      · rw [if_pos (Or.inl (by omega))]
        exact out
      · refine pw_ite (fun c__ => ?_) (fun c__ => ?_)
        · refine pw_ite (fun c3 => ?_) (fun c3 => ?_)
          · have hf4 := h4.f c3
            have hn : ¬ (lvl (ty ch q2) = 1 ∧ cmp = true) := fun g => by
              rw [hf4] at g
              exact absurd g.2 (by decide)
            rw [if_neg (fun g => by rcases g with g | g; omega; exact hn g)]
            exact take (by omega) hn
          · rw [if_pos (Or.inr ⟨by omega, h4.t c3⟩)]
            exact out
        · have hn : ¬ (lvl (ty ch q2) = 1 ∧ cmp = true) := fun g => by omega
          rw [if_neg (fun g => by rcases g with g | g; omega; exact hn g)]
          exact take (by omega) hn
theorem l_takeC (zv_takePrefix : ∀ (p1 p2 : Int32) (X : St), fd X → pw (v_takePrefix p1 p2 X) (fun _ Y => fd Y)) (zv_takeE : ∀ (X : St), fd X → pw (v_takeE X) (fun _ Y => fd Y)) (hP : PH e n ch X0 v_takePrefix P) (hE : EH e n ch X0 v_takeE E) (hR : RC e ch n X0 (0, K) X q o sc ws c) (ho : 0 ≤ o ∧ o ≤ 40) (hs : (sc.length : Int) ≤ 4 + o) (hw : (ws.length : Int) ≤ 3 * o) (hc : c.length ≤ 3 * pl ch q) : pw (g_Reader_takeC v_takePrefix v_takeE X) (fun r Z => PO Z (sC ch P E o sc q c) (fun a => RC e ch n X0 (0, K) Z a.1 o sc ws a.2 ∧ r.toInt = (c.length : Int) ∧ c.length + 1 ≤ a.2.length ∧ GAq ch q c 0 a)) := by
  unfold g_Reader_takeC sC
  refine pw_eq (fun x1 e1 => ?_)
  have h1 : x1.toInt = (ws.length : Int) := by rw [e1]; exact hR.2.2.2.1.1
  refine pw_bo (l_takeU zv_takePrefix zv_takeE hP hE hR ho hs (by omega) hc) ?_ ?_
  · rintro x2 X3 r ⟨hR3, h2, hl, g1, g2, g3, g4⟩
    exact (l_takeC1 zv_takePrefix zv_takeE hP hE h1 (q0 := q) (c0 := c) (b := c.length) (by omega) ho hs hw hc BIG).2 0 0 0 x2 0 X3 3000 0 0 false c.length r.1 [] r.2 (by decide) (by decide) (Or.inl ⟨by decide, rfl⟩) h2 (by decide) (Nat.le_refl _) (by decide) (by decide) (by decide) (by decide) hR3 trivial (fun w hw => absurd hw List.not_mem_nil) (by omega) rfl hl (by show r.2.length + 2 * 0 + 3 * pl ch q ≤ c.length + 3 * pl ch r.1; omega) g3
  · intro x2 X3 hd
    exact z_Reader_takeC_21 zv_takePrefix zv_takeE _ _ _ _ _ _ _ _ hd
theorem l_takeIf (zv_takePrefix : ∀ (p1 p2 : Int32) (X : St), fd X → pw (v_takePrefix p1 p2 X) (fun _ Y => fd Y)) (zv_takeE : ∀ (X : St), fd X → pw (v_takeE X) (fun _ Y => fd Y)) (hP : PH e n ch X0 v_takePrefix P) (hE : EH e n ch X0 v_takeE E) (hR : RC e ch n X0 (0, K) X q o sc ws c) (ho : 0 ≤ o ∧ o ≤ 40) (hs : (sc.length : Int) ≤ 4 + o) (hw : (ws.length : Int) ≤ 3 * o) (hc : c.length ≤ 3 * pl ch q) : pw (g_Reader_takeIf v_takePrefix v_takeE X) (fun r Z => PO Z (sIf ch E o sc q c) (fun a => RC e ch n X0 (0, K) Z a.1 o sc ws a.2 ∧ r.toInt = (c.length : Int) ∧ c.length + 1 ≤ a.2.length ∧ GAq ch q c 0 a)) := by
  unfold g_Reader_takeIf sIf
  have hpl := hR.pln
  refine pw_bd (l_emitStep hR (by omega)) ?_
  rintro x1 X2 ⟨h1, hR2⟩
  have hl1 := len1 c ((0, 1, (pl ch q : Int), []) : Ins)
  refine pw_bo (l_enter hR2 (t := 264) (by decide) (by decide) ho.1) ?_ ?_
  · rintro _ X3 q1 ⟨hR3, -, p1, p2, p3⟩
    refine pw_bo (hE X3 q1 (o + 1) sc ws _ hR3 (by omega) (by omega) (by omega) (by omega) (by omega)) ?_ ?_
    · rintro x4 X5 r ⟨hR5, h4, hl2, g1, g2, g3, g4⟩
      rw [hl1] at h4
      refine pw_ck (fun _ => ?_)
      refine pw_to hR5.pe ?_
      refine pw_bd (l_placeOf hR5 (i := c.length + 1) h4 (by omega)) ?_
      rintro x7 X8 ⟨rfl, h7⟩
      refine pw_bd (l_emit (kd := []) hR5 (by omega) (a1 := 28) (a2 := 0) (by decide) (fun _ => by decide) h7 (fun g => absurd g (by decide))) ?_
      rintro x9 X10 ⟨⟨h9, hl3⟩, hR10⟩
      refine pw_ck (fun _ => ?_)
      refine pw_to hR10.pe ?_
      refine pw_bd (l_placeOf hR10 (i := c.length + 1) h4 (by omega)) ?_
      rintro x12 X13 ⟨rfl, h12⟩
      refine pw_bd (l_emit (kd := []) hR10 (by omega) (a1 := 6) (a2 := 0) (by decide) (fun _ => by decide) h12 (fun g => absurd g (by decide))) ?_
      rintro x14 X15 ⟨⟨h14, hl4⟩, hR15⟩
      rw [hl3] at h14
      have hR15 := hR15.p (i := r.2.length + 1) (a := (6, 0, plc (r.2 ++ [(28, 0, plc r.2 (c.length + 1), [])]) (c.length + 1), [])) (by rw [← hl3]; exact List.getElem?_concat_length) (by show ¬ (6 : Int) = 34; decide)
      refine pw_bo (l_want hR15 (t := 265) (by decide) (by decide)) ?_ ?_
      · rintro _ X16 q2 ⟨hR16, -, p4, p5⟩
        refine pw_bo (hE X16 q2 (o + 1) sc ws _ hR16 (by omega) (by omega) (by omega) (by omega) (by omega)) ?_ ?_
        · rintro x17 X18 s ⟨hR18, h17, hl5, g5, g6, g7, g8⟩
          rw [hl4, hl3] at h17
          refine pw_ck (fun _ => ?_)
          refine pw_to hR18.pe ?_
          refine pw_bd (l_placeOf hR18 (i := r.2.length + 2) h17 (by omega)) ?_
          rintro x20 X21 ⟨rfl, h20⟩
          refine pw_bd (l_emit (kd := []) hR18 (by omega) (a1 := 36) (a2 := 0) (by decide) (fun _ => by decide) h20 (fun g => absurd g (by decide))) ?_
          rintro x22 X23 ⟨⟨h22, hl6⟩, hR23⟩
          refine pw_ck (fun _ => ?_)
          refine pw_to hR23.pe ?_
          refine pw_bd (l_placeOf hR23 (i := r.2.length + 2) h17 (by omega)) ?_
          rintro x25 X26 ⟨rfl, h25⟩
          refine pw_bd (l_emit (kd := []) hR23 (by omega) (a1 := 7) (a2 := 0) (by decide) (fun _ => by decide) h25 (fun g => absurd g (by decide))) ?_
          rintro x27 X28 ⟨⟨h27, hl7⟩, hR28⟩
          rw [hl6] at h27
          have hR28 := hR28.p (i := s.2.length + 1) (a := (7, 0, plc (s.2 ++ [(36, 0, plc s.2 (r.2.length + 2), [])]) (r.2.length + 2), [])) (by rw [← hl6]; exact List.getElem?_concat_length) (by show ¬ (7 : Int) = 34; decide)
          refine pw_bo (l_want hR28 (t := 266) (by decide) (by decide)) ?_ ?_
          · rintro _ X29 q3 ⟨hR29, -, p6, p7⟩
            refine pw_ck (fun _ => ?_)
            refine pw_to hR29.pe ?_
            refine pw_to (kYp hR29.he).2.2.1 ?_
            refine pw_ck (fun _ => ?_)
            refine pw_to hR29.pe ?_
            refine pw_eq (fun x33 e33 => ?_)
            have h33 : x33.toInt = (s.2.length : Int) + 2 := by
              rw [e33, hR29.len, hl7, hl6]
              omega
            refine pw_ck (fun _ => ?_)
            rw [ixn (n := r.2.length + 1) h14]
            refine pw_eq (fun X34 e34 => ?_)
            have hR34 := hR29.setx (i := r.2.length + 1) (by omega) (List.mem_cons_of_mem _ (List.mem_cons_self ..)) h33
            rw [← e34] at hR34
            have hl8 := setx_len ((s.2 ++ [((36, 0, plc s.2 (r.2.length + 2), []) : Ins)]) ++ [(7, 0, plc (s.2 ++ [(36, 0, plc s.2 (r.2.length + 2), [])]) (r.2.length + 2), [])]) (r.2.length + 1) ((s.2.length : Int) + 2)
            refine pw_bo (hE X34 q3 (o + 1) sc ws _ hR34 (by omega) (by omega) (by omega) (by omega) (by omega)) ?_ ?_
            · rintro x35 X36 t ⟨hR36, h35, hl9, g9, g10, g11, g12⟩
              rw [hl8, hl7, hl6] at h35
              refine pw_ck (fun _ => ?_)
              refine pw_to hR36.pe ?_
              refine pw_bd (l_placeOf hR36 (i := s.2.length + 2) h35 (by omega)) ?_
              rintro x38 X39 ⟨rfl, h38⟩
              refine pw_bd (l_emit (kd := []) hR36 (by omega) (a1 := 36) (a2 := 0) (by decide) (fun _ => by decide) h38 (fun g => absurd g (by decide))) ?_
              rintro x40 X41 ⟨⟨h40, hl10⟩, hR41⟩
              refine pw_ck (fun _ => ?_)
              refine pw_to hR41.pe ?_
              refine pw_to (kYp hR41.he).2.2.1 ?_
              refine pw_ck (fun _ => ?_)
              refine pw_to hR41.pe ?_
              refine pw_bd (l_placeOf hR41 (i := c.length) h1 (by omega)) ?_
              rintro x45 X46 ⟨rfl, h45⟩
              refine pw_bd (l_emit (kd := []) hR41 (by omega) (a1 := 8) (a2 := 0) (by decide) (fun _ => by decide) h45 (fun g => absurd g (by decide))) ?_
              rintro x47 X48 ⟨⟨h47, hl11⟩, hR48⟩
              rw [hl10] at h47
              refine pw_ck (fun _ => ?_)
              rw [ixn (n := s.2.length + 1) h27]
              refine pw_eq (fun X49 e49 => ?_)
              have hR49 := (hR48.setx (i := s.2.length + 1) (w := (t.2.length : Int) + 1) (by omega) (List.mem_cons_self ..) (by rw [h47]; omega)).u.u
              rw [← e49] at hR49
              have hl12 := setx_len ((t.2 ++ [((36, 0, plc t.2 (s.2.length + 2), []) : Ins)]) ++ [(8, 0, plc (t.2 ++ [(36, 0, plc t.2 (s.2.length + 2), [])]) c.length, [])]) (s.2.length + 1) ((t.2.length : Int) + 1)
              refine pw_let ?_
              refine pw_let ?_
              refine pw_eq (fun X52 e52 => ?_)
              have hR52 := hR49.shut (by omega)
              rw [show o + 1 - 1 = o from by omega] at hR52
              rw [← e52] at hR52
              refine pw_ret (PO.s ⟨hR52, h1, ?_, ?_, ?_, ?_, g12⟩)
              · show c.length + 1 ≤ (setx ((t.2 ++ [((36, 0, plc t.2 (s.2.length + 2), []) : Ins)]) ++ [(8, 0, plc (t.2 ++ [(36, 0, plc t.2 (s.2.length + 2), [])]) c.length, [])]) (s.2.length + 1) ((t.2.length : Int) + 1)).length
                omega
              · show c.length ≤ (setx ((t.2 ++ [((36, 0, plc t.2 (s.2.length + 2), []) : Ins)]) ++ [(8, 0, plc (t.2 ++ [(36, 0, plc t.2 (s.2.length + 2), [])]) c.length, [])]) (s.2.length + 1) ((t.2.length : Int) + 1)).length
                omega
              · show (setx ((t.2 ++ [((36, 0, plc t.2 (s.2.length + 2), []) : Ins)]) ++ [(8, 0, plc (t.2 ++ [(36, 0, plc t.2 (s.2.length + 2), [])]) c.length, [])]) (s.2.length + 1) ((t.2.length : Int) + 1)).length + 0 + 3 * pl ch q ≤ c.length + 3 * pl ch t.1
                omega
              · show pl ch q + 1 ≤ pl ch t.1
                omega
            · intro x35 X36 hd
              refine pw_ck (fun hck1 => ?_)
              refine pw_eq (fun e37 ee37 => ?_)
              have pke37 : PKo e37 := by rw [ee37]; exact refO_pk hck1
              have ne46_e37 : ¬ 46 = e37 := PKo.ne pke37
              refine pw_bd (z_Reader_placeOf hd) (fun x38 X39 dX39 => ?_)
              refine pw_bd (z_Program_emit pke37 dX39) (fun x40 X41 dX41 => ?_)
              refine pw_ck (fun hck2 => ?_)
              refine pw_eq (fun e42 ee42 => ?_)
              have pke42 : PKo e42 := by rw [ee42]; exact refO_pk hck2
              have ne46_e42 : ¬ 46 = e42 := PKo.ne pke42
              refine pw_eq (fun e43 ee43 => ?_)
              have ne46_e43 : ¬ 46 = e43 := by rw [ee43]; exact PKo.row pke42 14
              refine pw_ck (fun hck3 => ?_)
              refine pw_eq (fun e44 ee44 => ?_)
              have pke44 : PKo e44 := by rw [ee44]; exact refO_pk hck3
              have ne46_e44 : ¬ 46 = e44 := PKo.ne pke44
              refine pw_bd (z_Reader_placeOf dX41) (fun x45 X46 dX46 => ?_)
              refine pw_bd (z_Program_emit pke44 dX46) (fun x47 X48 dX48 => ?_)
              refine pw_ck (fun _ => ?_)
              refine pw_eq (fun X49 eX49 => ?_)
              have dX49 : fd X49 := by rw [eX49]; exact fd_w dX48 (fun g_ => ne46_e43 g_.1)
              refine pw_eq (fun x50 _ => ?_)
              refine pw_eq (fun x51 _ => ?_)
              refine pw_eq (fun X52 eX52 => ?_)
              have dX52 : fd X52 := by rw [eX52]; exact fd_w dX49 (by decide)
              exact pw_ret dX52
          · intro _ X29 hd
            refine pw_ck (fun hck1 => ?_)
            refine pw_eq (fun e30 ee30 => ?_)
            have pke30 : PKo e30 := by rw [ee30]; exact refO_pk hck1
            have ne46_e30 : ¬ 46 = e30 := PKo.ne pke30
            refine pw_eq (fun e31 ee31 => ?_)
            have ne46_e31 : ¬ 46 = e31 := by rw [ee31]; exact PKo.row pke30 14
            refine pw_ck (fun hck2 => ?_)
            refine pw_eq (fun e32 ee32 => ?_)
            have pke32 : PKo e32 := by rw [ee32]; exact refO_pk hck2
            have ne46_e32 : ¬ 46 = e32 := PKo.ne pke32
            refine pw_eq (fun x33 _ => ?_)
            refine pw_ck (fun _ => ?_)
            refine pw_eq (fun X34 eX34 => ?_)
            have dX34 : fd X34 := by rw [eX34]; exact fd_w hd (fun g_ => ne46_e31 g_.1)
            refine pw_bd (zv_takeE _ dX34) (fun x35 X36 dX36 => ?_)
            refine pw_ck (fun hck3 => ?_)
            refine pw_eq (fun e37 ee37 => ?_)
            have pke37 : PKo e37 := by rw [ee37]; exact refO_pk hck3
            have ne46_e37 : ¬ 46 = e37 := PKo.ne pke37
            refine pw_bd (z_Reader_placeOf dX36) (fun x38 X39 dX39 => ?_)
            refine pw_bd (z_Program_emit pke37 dX39) (fun x40 X41 dX41 => ?_)
            refine pw_ck (fun hck4 => ?_)
            refine pw_eq (fun e42 ee42 => ?_)
            have pke42 : PKo e42 := by rw [ee42]; exact refO_pk hck4
            have ne46_e42 : ¬ 46 = e42 := PKo.ne pke42
            refine pw_eq (fun e43 ee43 => ?_)
            have ne46_e43 : ¬ 46 = e43 := by rw [ee43]; exact PKo.row pke42 14
            refine pw_ck (fun hck5 => ?_)
            refine pw_eq (fun e44 ee44 => ?_)
            have pke44 : PKo e44 := by rw [ee44]; exact refO_pk hck5
            have ne46_e44 : ¬ 46 = e44 := PKo.ne pke44
            refine pw_bd (z_Reader_placeOf dX41) (fun x45 X46 dX46 => ?_)
            refine pw_bd (z_Program_emit pke44 dX46) (fun x47 X48 dX48 => ?_)
            refine pw_ck (fun _ => ?_)
            refine pw_eq (fun X49 eX49 => ?_)
            have dX49 : fd X49 := by rw [eX49]; exact fd_w dX48 (fun g_ => ne46_e43 g_.1)
            refine pw_eq (fun x50 _ => ?_)
            refine pw_eq (fun x51 _ => ?_)
            refine pw_eq (fun X52 eX52 => ?_)
            have dX52 : fd X52 := by rw [eX52]; exact fd_w dX49 (by decide)
            exact pw_ret dX52
        · intro x17 X18 hd
          refine pw_ck (fun hck1 => ?_)
          refine pw_eq (fun e19 ee19 => ?_)
          have pke19 : PKo e19 := by rw [ee19]; exact refO_pk hck1
          have ne46_e19 : ¬ 46 = e19 := PKo.ne pke19
          refine pw_bd (z_Reader_placeOf hd) (fun x20 X21 dX21 => ?_)
          refine pw_bd (z_Program_emit pke19 dX21) (fun x22 X23 dX23 => ?_)
          refine pw_ck (fun hck2 => ?_)
          refine pw_eq (fun e24 ee24 => ?_)
          have pke24 : PKo e24 := by rw [ee24]; exact refO_pk hck2
          have ne46_e24 : ¬ 46 = e24 := PKo.ne pke24
          refine pw_bd (z_Reader_placeOf dX23) (fun x25 X26 dX26 => ?_)
          refine pw_bd (z_Program_emit pke24 dX26) (fun x27 X28 dX28 => ?_)
          refine pw_bd (z_Reader_want dX28) (fun _ X29 dX29 => ?_)
          refine pw_ck (fun hck3 => ?_)
          refine pw_eq (fun e30 ee30 => ?_)
          have pke30 : PKo e30 := by rw [ee30]; exact refO_pk hck3
          have ne46_e30 : ¬ 46 = e30 := PKo.ne pke30
          refine pw_eq (fun e31 ee31 => ?_)
          have ne46_e31 : ¬ 46 = e31 := by rw [ee31]; exact PKo.row pke30 14
          refine pw_ck (fun hck4 => ?_)
          refine pw_eq (fun e32 ee32 => ?_)
          have pke32 : PKo e32 := by rw [ee32]; exact refO_pk hck4
          have ne46_e32 : ¬ 46 = e32 := PKo.ne pke32
          refine pw_eq (fun x33 _ => ?_)
          refine pw_ck (fun _ => ?_)
          refine pw_eq (fun X34 eX34 => ?_)
          have dX34 : fd X34 := by rw [eX34]; exact fd_w dX29 (fun g_ => ne46_e31 g_.1)
          refine pw_bd (zv_takeE _ dX34) (fun x35 X36 dX36 => ?_)
          refine pw_ck (fun hck5 => ?_)
          refine pw_eq (fun e37 ee37 => ?_)
          have pke37 : PKo e37 := by rw [ee37]; exact refO_pk hck5
          have ne46_e37 : ¬ 46 = e37 := PKo.ne pke37
          refine pw_bd (z_Reader_placeOf dX36) (fun x38 X39 dX39 => ?_)
          refine pw_bd (z_Program_emit pke37 dX39) (fun x40 X41 dX41 => ?_)
          refine pw_ck (fun hck6 => ?_)
          refine pw_eq (fun e42 ee42 => ?_)
          have pke42 : PKo e42 := by rw [ee42]; exact refO_pk hck6
          have ne46_e42 : ¬ 46 = e42 := PKo.ne pke42
          refine pw_eq (fun e43 ee43 => ?_)
          have ne46_e43 : ¬ 46 = e43 := by rw [ee43]; exact PKo.row pke42 14
          refine pw_ck (fun hck7 => ?_)
          refine pw_eq (fun e44 ee44 => ?_)
          have pke44 : PKo e44 := by rw [ee44]; exact refO_pk hck7
          have ne46_e44 : ¬ 46 = e44 := PKo.ne pke44
          refine pw_bd (z_Reader_placeOf dX41) (fun x45 X46 dX46 => ?_)
          refine pw_bd (z_Program_emit pke44 dX46) (fun x47 X48 dX48 => ?_)
          refine pw_ck (fun _ => ?_)
          refine pw_eq (fun X49 eX49 => ?_)
          have dX49 : fd X49 := by rw [eX49]; exact fd_w dX48 (fun g_ => ne46_e43 g_.1)
          refine pw_eq (fun x50 _ => ?_)
          refine pw_eq (fun x51 _ => ?_)
          refine pw_eq (fun X52 eX52 => ?_)
          have dX52 : fd X52 := by rw [eX52]; exact fd_w dX49 (by decide)
          exact pw_ret dX52
      · intro _ X16 hd
        refine pw_bd (zv_takeE _ hd) (fun x17 X18 dX18 => ?_)
        refine pw_ck (fun hck1 => ?_)
        refine pw_eq (fun e19 ee19 => ?_)
        have pke19 : PKo e19 := by rw [ee19]; exact refO_pk hck1
        have ne46_e19 : ¬ 46 = e19 := PKo.ne pke19
        refine pw_bd (z_Reader_placeOf dX18) (fun x20 X21 dX21 => ?_)
        refine pw_bd (z_Program_emit pke19 dX21) (fun x22 X23 dX23 => ?_)
        refine pw_ck (fun hck2 => ?_)
        refine pw_eq (fun e24 ee24 => ?_)
        have pke24 : PKo e24 := by rw [ee24]; exact refO_pk hck2
        have ne46_e24 : ¬ 46 = e24 := PKo.ne pke24
        refine pw_bd (z_Reader_placeOf dX23) (fun x25 X26 dX26 => ?_)
        refine pw_bd (z_Program_emit pke24 dX26) (fun x27 X28 dX28 => ?_)
        refine pw_bd (z_Reader_want dX28) (fun _ X29 dX29 => ?_)
        refine pw_ck (fun hck3 => ?_)
        refine pw_eq (fun e30 ee30 => ?_)
        have pke30 : PKo e30 := by rw [ee30]; exact refO_pk hck3
        have ne46_e30 : ¬ 46 = e30 := PKo.ne pke30
        refine pw_eq (fun e31 ee31 => ?_)
        have ne46_e31 : ¬ 46 = e31 := by rw [ee31]; exact PKo.row pke30 14
        refine pw_ck (fun hck4 => ?_)
        refine pw_eq (fun e32 ee32 => ?_)
        have pke32 : PKo e32 := by rw [ee32]; exact refO_pk hck4
        have ne46_e32 : ¬ 46 = e32 := PKo.ne pke32
        refine pw_eq (fun x33 _ => ?_)
        refine pw_ck (fun _ => ?_)
        refine pw_eq (fun X34 eX34 => ?_)
        have dX34 : fd X34 := by rw [eX34]; exact fd_w dX29 (fun g_ => ne46_e31 g_.1)
        refine pw_bd (zv_takeE _ dX34) (fun x35 X36 dX36 => ?_)
        refine pw_ck (fun hck5 => ?_)
        refine pw_eq (fun e37 ee37 => ?_)
        have pke37 : PKo e37 := by rw [ee37]; exact refO_pk hck5
        have ne46_e37 : ¬ 46 = e37 := PKo.ne pke37
        refine pw_bd (z_Reader_placeOf dX36) (fun x38 X39 dX39 => ?_)
        refine pw_bd (z_Program_emit pke37 dX39) (fun x40 X41 dX41 => ?_)
        refine pw_ck (fun hck6 => ?_)
        refine pw_eq (fun e42 ee42 => ?_)
        have pke42 : PKo e42 := by rw [ee42]; exact refO_pk hck6
        have ne46_e42 : ¬ 46 = e42 := PKo.ne pke42
        refine pw_eq (fun e43 ee43 => ?_)
        have ne46_e43 : ¬ 46 = e43 := by rw [ee43]; exact PKo.row pke42 14
        refine pw_ck (fun hck7 => ?_)
        refine pw_eq (fun e44 ee44 => ?_)
        have pke44 : PKo e44 := by rw [ee44]; exact refO_pk hck7
        have ne46_e44 : ¬ 46 = e44 := PKo.ne pke44
        refine pw_bd (z_Reader_placeOf dX41) (fun x45 X46 dX46 => ?_)
        refine pw_bd (z_Program_emit pke44 dX46) (fun x47 X48 dX48 => ?_)
        refine pw_ck (fun _ => ?_)
        refine pw_eq (fun X49 eX49 => ?_)
        have dX49 : fd X49 := by rw [eX49]; exact fd_w dX48 (fun g_ => ne46_e43 g_.1)
        refine pw_eq (fun x50 _ => ?_)
        refine pw_eq (fun x51 _ => ?_)
        refine pw_eq (fun X52 eX52 => ?_)
        have dX52 : fd X52 := by rw [eX52]; exact fd_w dX49 (by decide)
        exact pw_ret dX52
    · intro x4 X5 hd
      refine pw_ck (fun hck1 => ?_)
      refine pw_eq (fun e6 ee6 => ?_)
      have pke6 : PKo e6 := by rw [ee6]; exact refO_pk hck1
      have ne46_e6 : ¬ 46 = e6 := PKo.ne pke6
      refine pw_bd (z_Reader_placeOf hd) (fun x7 X8 dX8 => ?_)
      refine pw_bd (z_Program_emit pke6 dX8) (fun x9 X10 dX10 => ?_)
      refine pw_ck (fun hck2 => ?_)
      refine pw_eq (fun e11 ee11 => ?_)
      have pke11 : PKo e11 := by rw [ee11]; exact refO_pk hck2
      have ne46_e11 : ¬ 46 = e11 := PKo.ne pke11
      refine pw_bd (z_Reader_placeOf dX10) (fun x12 X13 dX13 => ?_)
      refine pw_bd (z_Program_emit pke11 dX13) (fun x14 X15 dX15 => ?_)
      refine pw_bd (z_Reader_want dX15) (fun _ X16 dX16 => ?_)
      refine pw_bd (zv_takeE _ dX16) (fun x17 X18 dX18 => ?_)
      refine pw_ck (fun hck3 => ?_)
      refine pw_eq (fun e19 ee19 => ?_)
      have pke19 : PKo e19 := by rw [ee19]; exact refO_pk hck3
      have ne46_e19 : ¬ 46 = e19 := PKo.ne pke19
      refine pw_bd (z_Reader_placeOf dX18) (fun x20 X21 dX21 => ?_)
      refine pw_bd (z_Program_emit pke19 dX21) (fun x22 X23 dX23 => ?_)
      refine pw_ck (fun hck4 => ?_)
      refine pw_eq (fun e24 ee24 => ?_)
      have pke24 : PKo e24 := by rw [ee24]; exact refO_pk hck4
      have ne46_e24 : ¬ 46 = e24 := PKo.ne pke24
      refine pw_bd (z_Reader_placeOf dX23) (fun x25 X26 dX26 => ?_)
      refine pw_bd (z_Program_emit pke24 dX26) (fun x27 X28 dX28 => ?_)
      refine pw_bd (z_Reader_want dX28) (fun _ X29 dX29 => ?_)
      refine pw_ck (fun hck5 => ?_)
      refine pw_eq (fun e30 ee30 => ?_)
      have pke30 : PKo e30 := by rw [ee30]; exact refO_pk hck5
      have ne46_e30 : ¬ 46 = e30 := PKo.ne pke30
      refine pw_eq (fun e31 ee31 => ?_)
      have ne46_e31 : ¬ 46 = e31 := by rw [ee31]; exact PKo.row pke30 14
      refine pw_ck (fun hck6 => ?_)
      refine pw_eq (fun e32 ee32 => ?_)
      have pke32 : PKo e32 := by rw [ee32]; exact refO_pk hck6
      have ne46_e32 : ¬ 46 = e32 := PKo.ne pke32
      refine pw_eq (fun x33 _ => ?_)
      refine pw_ck (fun _ => ?_)
      refine pw_eq (fun X34 eX34 => ?_)
      have dX34 : fd X34 := by rw [eX34]; exact fd_w dX29 (fun g_ => ne46_e31 g_.1)
      refine pw_bd (zv_takeE _ dX34) (fun x35 X36 dX36 => ?_)
      refine pw_ck (fun hck7 => ?_)
      refine pw_eq (fun e37 ee37 => ?_)
      have pke37 : PKo e37 := by rw [ee37]; exact refO_pk hck7
      have ne46_e37 : ¬ 46 = e37 := PKo.ne pke37
      refine pw_bd (z_Reader_placeOf dX36) (fun x38 X39 dX39 => ?_)
      refine pw_bd (z_Program_emit pke37 dX39) (fun x40 X41 dX41 => ?_)
      refine pw_ck (fun hck8 => ?_)
      refine pw_eq (fun e42 ee42 => ?_)
      have pke42 : PKo e42 := by rw [ee42]; exact refO_pk hck8
      have ne46_e42 : ¬ 46 = e42 := PKo.ne pke42
      refine pw_eq (fun e43 ee43 => ?_)
      have ne46_e43 : ¬ 46 = e43 := by rw [ee43]; exact PKo.row pke42 14
      refine pw_ck (fun hck9 => ?_)
      refine pw_eq (fun e44 ee44 => ?_)
      have pke44 : PKo e44 := by rw [ee44]; exact refO_pk hck9
      have ne46_e44 : ¬ 46 = e44 := PKo.ne pke44
      refine pw_bd (z_Reader_placeOf dX41) (fun x45 X46 dX46 => ?_)
      refine pw_bd (z_Program_emit pke44 dX46) (fun x47 X48 dX48 => ?_)
      refine pw_ck (fun _ => ?_)
      refine pw_eq (fun X49 eX49 => ?_)
      have dX49 : fd X49 := by rw [eX49]; exact fd_w dX48 (fun g_ => ne46_e43 g_.1)
      refine pw_eq (fun x50 _ => ?_)
      refine pw_eq (fun x51 _ => ?_)
      refine pw_eq (fun X52 eX52 => ?_)
      have dX52 : fd X52 := by rw [eX52]; exact fd_w dX49 (by decide)
      exact pw_ret dX52
  · intro _ X3 hd
    refine pw_bd (zv_takeE _ hd) (fun x4 X5 dX5 => ?_)
    refine pw_ck (fun hck1 => ?_)
    refine pw_eq (fun e6 ee6 => ?_)
    have pke6 : PKo e6 := by rw [ee6]; exact refO_pk hck1
    have ne46_e6 : ¬ 46 = e6 := PKo.ne pke6
    refine pw_bd (z_Reader_placeOf dX5) (fun x7 X8 dX8 => ?_)
    refine pw_bd (z_Program_emit pke6 dX8) (fun x9 X10 dX10 => ?_)
    refine pw_ck (fun hck2 => ?_)
    refine pw_eq (fun e11 ee11 => ?_)
    have pke11 : PKo e11 := by rw [ee11]; exact refO_pk hck2
    have ne46_e11 : ¬ 46 = e11 := PKo.ne pke11
    refine pw_bd (z_Reader_placeOf dX10) (fun x12 X13 dX13 => ?_)
    refine pw_bd (z_Program_emit pke11 dX13) (fun x14 X15 dX15 => ?_)
    refine pw_bd (z_Reader_want dX15) (fun _ X16 dX16 => ?_)
    refine pw_bd (zv_takeE _ dX16) (fun x17 X18 dX18 => ?_)
    refine pw_ck (fun hck3 => ?_)
    refine pw_eq (fun e19 ee19 => ?_)
    have pke19 : PKo e19 := by rw [ee19]; exact refO_pk hck3
    have ne46_e19 : ¬ 46 = e19 := PKo.ne pke19
    refine pw_bd (z_Reader_placeOf dX18) (fun x20 X21 dX21 => ?_)
    refine pw_bd (z_Program_emit pke19 dX21) (fun x22 X23 dX23 => ?_)
    refine pw_ck (fun hck4 => ?_)
    refine pw_eq (fun e24 ee24 => ?_)
    have pke24 : PKo e24 := by rw [ee24]; exact refO_pk hck4
    have ne46_e24 : ¬ 46 = e24 := PKo.ne pke24
    refine pw_bd (z_Reader_placeOf dX23) (fun x25 X26 dX26 => ?_)
    refine pw_bd (z_Program_emit pke24 dX26) (fun x27 X28 dX28 => ?_)
    refine pw_bd (z_Reader_want dX28) (fun _ X29 dX29 => ?_)
    refine pw_ck (fun hck5 => ?_)
    refine pw_eq (fun e30 ee30 => ?_)
    have pke30 : PKo e30 := by rw [ee30]; exact refO_pk hck5
    have ne46_e30 : ¬ 46 = e30 := PKo.ne pke30
    refine pw_eq (fun e31 ee31 => ?_)
    have ne46_e31 : ¬ 46 = e31 := by rw [ee31]; exact PKo.row pke30 14
    refine pw_ck (fun hck6 => ?_)
    refine pw_eq (fun e32 ee32 => ?_)
    have pke32 : PKo e32 := by rw [ee32]; exact refO_pk hck6
    have ne46_e32 : ¬ 46 = e32 := PKo.ne pke32
    refine pw_eq (fun x33 _ => ?_)
    refine pw_ck (fun _ => ?_)
    refine pw_eq (fun X34 eX34 => ?_)
    have dX34 : fd X34 := by rw [eX34]; exact fd_w dX29 (fun g_ => ne46_e31 g_.1)
    refine pw_bd (zv_takeE _ dX34) (fun x35 X36 dX36 => ?_)
    refine pw_ck (fun hck7 => ?_)
    refine pw_eq (fun e37 ee37 => ?_)
    have pke37 : PKo e37 := by rw [ee37]; exact refO_pk hck7
    have ne46_e37 : ¬ 46 = e37 := PKo.ne pke37
    refine pw_bd (z_Reader_placeOf dX36) (fun x38 X39 dX39 => ?_)
    refine pw_bd (z_Program_emit pke37 dX39) (fun x40 X41 dX41 => ?_)
    refine pw_ck (fun hck8 => ?_)
    refine pw_eq (fun e42 ee42 => ?_)
    have pke42 : PKo e42 := by rw [ee42]; exact refO_pk hck8
    have ne46_e42 : ¬ 46 = e42 := PKo.ne pke42
    refine pw_eq (fun e43 ee43 => ?_)
    have ne46_e43 : ¬ 46 = e43 := by rw [ee43]; exact PKo.row pke42 14
    refine pw_ck (fun hck9 => ?_)
    refine pw_eq (fun e44 ee44 => ?_)
    have pke44 : PKo e44 := by rw [ee44]; exact refO_pk hck9
    have ne46_e44 : ¬ 46 = e44 := PKo.ne pke44
    refine pw_bd (z_Reader_placeOf dX41) (fun x45 X46 dX46 => ?_)
    refine pw_bd (z_Program_emit pke44 dX46) (fun x47 X48 dX48 => ?_)
    refine pw_ck (fun _ => ?_)
    refine pw_eq (fun X49 eX49 => ?_)
    have dX49 : fd X49 := by rw [eX49]; exact fd_w dX48 (fun g_ => ne46_e43 g_.1)
    refine pw_eq (fun x50 _ => ?_)
    refine pw_eq (fun x51 _ => ?_)
    refine pw_eq (fun X52 eX52 => ?_)
    have dX52 : fd X52 := by rw [eX52]; exact fd_w dX49 (by decide)
    exact pw_ret dX52
theorem l_takeLet (zv_takePrefix : ∀ (p1 p2 : Int32) (X : St), fd X → pw (v_takePrefix p1 p2 X) (fun _ Y => fd Y)) (zv_takeE : ∀ (X : St), fd X → pw (v_takeE X) (fun _ Y => fd Y)) (hP : PH e n ch X0 v_takePrefix P) (hE : EH e n ch X0 v_takeE E) (hR : RC e ch n X0 (0, K) X q o sc ws c) (ho : 0 ≤ o ∧ o ≤ 40) (hs : (sc.length : Int) ≤ 4 + o) (hw : (ws.length : Int) ≤ 3 * o) (hc : c.length ≤ 3 * pl ch q) : pw (g_Reader_takeLet v_takePrefix v_takeE X) (fun r Z => PO Z (sLet ch E o sc q c) (fun a => RC e ch n X0 (0, K) Z a.1 o sc ws a.2 ∧ r.toInt = (c.length : Int) ∧ c.length + 1 ≤ a.2.length ∧ GAq ch q c 0 a)) := by
  unfold g_Reader_takeLet sLet
  have hpl := hR.pln
  refine pw_bd (l_emitStep hR (by omega)) ?_
  rintro x1 X2 ⟨h1, hR2⟩
  have hl1 := len1 c ((0, 1, (pl ch q : Int), []) : Ins)
  refine pw_bo (l_enter hR2 (t := 262) (by decide) (by decide) ho.1) ?_ ?_
  · rintro _ X3 q1 ⟨hR3, -, p1, p2, p3⟩
    refine pw_eq (fun y4 e4 => ?_)
    have hTK3 := hR3.2.1.2.1
    refine pw_bo (so := sWant ch 258 q1) (R := fun _ Z q2 => (RC e ch n X0 (0, K) Z q2 (o + 1) sc ws (c ++ [(0, 1, (pl ch q : Int), [])]) ∧ q2 = nx ch q1 ∧ pl ch q1 + 1 ≤ pl ch q2 ∧ pl ch q2 ≤ 3000) ∧ ty ch q1 = 258) ?_ ?_ ?_
    · have h := l_want hR3 (p := 258) (t := 258) (by decide) (by decide)
      revert h
      unfold sWant
      by_cases c1 : ty ch q1 = 258
      · rw [if_pos c1]; exact fun h => pw_mono h (fun r Z g => ⟨g, c1⟩)
      · rw [if_neg c1]; exact fun h => h
    · rintro _ X5 q2 ⟨⟨hR5, -, p4, p5⟩, hty⟩
      have hname := hTK3.2.2.2.1 hty
      have hwd := ty_word hR3.tx (q := q1) (by omega)
      have hy4 : y4 = lN (p8 (nm ch q1)) := by rw [e4]; exact hname.1
      -- behind the kind
      have tail : ∀ (x : Int32) (kd : Option (List Int)) (q3 : Nat) (X7 : St) (K1 : KB), (kd = none ↔ x.toInt = -1) → (kd = none → K1 = K) → (∀ d, kd = some d → ∃ ks1, K.2.1 <+: ks1 ∧ K1 = (K.1 + kcn d, ks1, K.2.2.1, kcs (c ++ [((0, 1, (pl ch q : Int), []) : Ins)])) ∧ K.2.2.2 ≤ kcs (c ++ [((0, 1, (pl ch q : Int), []) : Ins)]) ∧ (K.1 + kcn d + kcs (c ++ [((0, 1, (pl ch q : Int), []) : Ins)]) ≤ 1549 → ∃ z : Nat, x.toInt = (z : Int) ∧ ks1[z]? = some d)) → RC e ch n X0 (0, K1) X7 q3 (o + 1) sc ws (c ++ [(0, 1, (pl ch q : Int), [])]) → pl ch q + 2 ≤ pl ch q3 → pl ch q3 ≤ 3000 → pw (g_Reader_takeLet_42 v_takePrefix v_takeE x1 y4 x X7) (fun r Z => PO Z ((sWant ch 61 q3).bind fun q3 =>
  (E (o + 1) sc q3 (c ++ [(0, 1, (pl ch q : Int), [])])).bind fun r =>
  (sWant ch 263 r.1).bind fun q4 =>
  E (o + 1) (nm ch q1 :: sc) q4 ((match kd with | none => r.2 | some kd => r.2 ++ [(34, 0, plc r.2 (c.length + 1), kd)]) ++ [((5, (sc.length : Int), plc (match kd with | none => r.2 | some kd => r.2 ++ [(34, 0, plc r.2 (c.length + 1), kd)]) (c.length + 1), []) : Ins)])) (fun a => RC e ch n X0 (0, K) Z a.1 o sc ws a.2 ∧ r.toInt = (c.length : Int) ∧ c.length + 1 ≤ a.2.length ∧ GAq ch q c 0 a)) := by
        intro x kd q3 X7 K1 hx hKn hKs hR7 p6 p7
        unfold g_Reader_takeLet_42
        refine pw_bo (l_want hR7 (t := 61) (by decide) (by decide)) ?_ ?_
        · rintro _ X8 q4 ⟨hR8, -, p8_, p9⟩
          refine pw_bo (hE X8 q4 (o + 1) sc ws _ hR8 (by omega) (by omega) (by omega) (by omega) (by omega)) ?_ ?_
          · rintro x9 X10 r ⟨hR10, h9, hl2, g1, g2, g3, g4⟩
            rw [hl1] at h9
            have last : ∀ (X11 : St) (c2 : List Ins), RC e ch n X0 (0, K) X11 r.1 (o + 1) sc ws c2 → r.2.length ≤ c2.length → c2.length ≤ r.2.length + 1 → pw (g_Reader_takeLet_80 v_takePrefix v_takeE x1 y4 x9 X11) (fun r_1 Z => PO Z ((sWant ch 263 r.1).bind fun q4 => E (o + 1) (nm ch q1 :: sc) q4 (c2 ++ [((5, (sc.length : Int), plc c2 (c.length + 1), []) : Ins)])) (fun a => RC e ch n X0 (0, K) Z a.1 o sc ws a.2 ∧ r_1.toInt = (c.length : Int) ∧ c.length + 1 ≤ a.2.length ∧ GAq ch q c 0 a)) := by
              intro X11 c2 hR11 k1 k2
              unfold g_Reader_takeLet_80
              refine pw_bo (l_want hR11 (t := 263) (by decide) (by decide)) ?_ ?_
              · rintro _ X12 q5 ⟨hR12, -, p10, p11⟩
                refine pw_eq (fun x12 e12 => ?_)
                have h12 : x12.toInt = (sc.length : Int) := by rw [e12]; exact hR12.2.2.1.1
                refine pw_ck (fun _ => ?_)
                refine pw_to hR12.pe ?_
                refine pw_bd (l_placeOf hR12 (i := c.length + 1) h9 (by omega)) ?_
                rintro x14 X15 ⟨rfl, h14⟩
                refine pw_bd (l_emit (kd := []) hR12 (by omega) (a1 := 5) (a2 := (sc.length : Int)) (by decide) (fun _ => ofI h12) h14 (fun g => absurd g (by decide))) ?_
                rintro x16 X17 ⟨⟨h16, hl3⟩, hR17⟩
                refine pw_bd (l_pushLocal hR17 (by omega) (nm_lt hR3.tx q1) hwd.2.2.1 hy4) (fun _ X18 hR18 => ?_)
                have hls : ((nm ch q1 :: sc).length : Int) ≤ 4 + (o + 1) := by
                  show ((sc.length + 1 : Nat) : Int) ≤ 4 + (o + 1)
                  omega
                have hB := hE X18 q5 (o + 1) (nm ch q1 :: sc) ws _ hR18 (by omega) (by omega) hls (by omega) (by omega)
                have fin : ∀ (x19 : Int32) (X20 : St) (a : Out), RC e ch n X0 (0, K) X20 a.1 (o + 1) (nm ch q1 :: sc) ws a.2 → RC e ch n X0 (0, K) (wI (wI X20 46 9 x12) 46 2 ((wI X20 46 9 x12).1 46 2 - (1 : Int32))) a.1 o sc ws a.2 := by
                  intro x19 X20 a h
                  have h := (RC.back h h12).shut (by omega)
                  rw [show o + 1 - 1 = o from by omega] at h
                  exact h
                refine pw_bd hB (fun x19 X20 hX => ?_)
                refine pw_eq (fun X21 e21 => ?_)
                refine pw_let ?_
                refine pw_let ?_
                refine pw_eq (fun X24 e24 => ?_)
                refine pw_ret ?_
                revert hX
                cases E (o + 1) (nm ch q1 :: sc) q5 (c2 ++ [(5, (sc.length : Int), plc c2 (c.length + 1), [])]) with
                | none =>
                  intro hX
                  have hX : fd X20 := hX
                  show fd X24
                  rw [e24, e21]
                  exact fd_w (fd_w hX (by decide)) (by decide)
                | some a =>
                  rintro ⟨hR20, h19, hl4, g5, g6, g7, g8⟩
                  have hR24 := fin x19 X20 a hR20
                  rw [← e21, ← e24] at hR24
                  exact ⟨hR24, h1, by omega, by omega, by omega, by omega, g8⟩
              · intro _ X12 hd
                refine pw_eq (fun x12 _ => ?_)
                refine pw_ck (fun hck1 => ?_)
                refine pw_eq (fun e13 ee13 => ?_)
                have pke13 : PKo e13 := by rw [ee13]; exact refO_pk hck1
                have ne46_e13 : ¬ 46 = e13 := PKo.ne pke13
                refine pw_bd (z_Reader_placeOf hd) (fun x14 X15 dX15 => ?_)
                refine pw_bd (z_Program_emit pke13 dX15) (fun x16 X17 dX17 => ?_)
                refine pw_bd (z_Reader_pushLocal dX17) (fun _ X18 dX18 => ?_)
                refine pw_bd (zv_takeE _ dX18) (fun x19 X20 dX20 => ?_)
                refine pw_eq (fun X21 eX21 => ?_)
                have dX21 : fd X21 := by rw [eX21]; exact fd_w dX20 (by decide)
                refine pw_eq (fun x22 _ => ?_)
                refine pw_eq (fun x23 _ => ?_)
                refine pw_eq (fun X24 eX24 => ?_)
                have dX24 : fd X24 := by rw [eX24]; exact fd_w dX21 (by decide)
                exact pw_ret dX24
            cases kd with
            | none => exact pw_pos (hx.mp rfl) (last X10 r.2 (by rw [← hKn rfl]; exact hR10) (Nat.le_refl _) (by omega))
            | some kd =>
              refine pw_neg (fun g => by have := hx.mpr g; exact absurd this (Option.some_ne_none _)) ?_
              refine pw_ck (fun _ => ?_)
              refine pw_to hR10.pe ?_
              refine pw_bd (l_placeOf hR10 (i := c.length + 1) h9 (by omega)) ?_
              rintro x26 X27 ⟨rfl, h26⟩
              obtain ⟨ks1, k1_, k2_, k3_, k4_⟩ := hKs kd rfl
              rw [k2_] at hR10
              have hlb : kcs (c ++ [((0, 1, (pl ch q : Int), []) : Ins)]) ≤ kcs r.2 := hR10.kq.1.2
              refine pw_bd (l_emit34 (kd := kd) hR10 (by omega) (by decide) (fun b => k4_ (by omega)) h26) ?_
              rintro x28 X29 ⟨⟨h28, hl3⟩, hR29⟩
              have hR29 := ((hR29.pf k1_).lu (K := K) k3_)
              exact last X29 (r.2 ++ [((34, 0, plc r.2 (c.length + 1), kd) : Ins)]) hR29 (by omega) (by omega)
          · intro x9 X10 hd
            refine pw_ite (fun _ => ?_) (fun _ => ?_)
            · exact z_Reader_takeLet_80 zv_takePrefix zv_takeE hd
            · refine pw_ck (fun hck1 => ?_)
              refine pw_eq (fun e25 ee25 => ?_)
              have pke25 : PKo e25 := by rw [ee25]; exact refO_pk hck1
              have ne46_e25 : ¬ 46 = e25 := PKo.ne pke25
              refine pw_bd (z_Reader_placeOf hd) (fun x26 X27 dX27 => ?_)
              refine pw_bd (z_Program_emit pke25 dX27) (fun x28 X29 dX29 => ?_)
              exact z_Reader_takeLet_80 zv_takePrefix zv_takeE dX29
        · intro _ X8 hd
          refine pw_bd (zv_takeE _ hd) (fun x9 X10 dX10 => ?_)
          refine pw_ite (fun _ => ?_) (fun _ => ?_)
          · exact z_Reader_takeLet_80 zv_takePrefix zv_takeE dX10
          · refine pw_ck (fun hck1 => ?_)
            refine pw_eq (fun e25 ee25 => ?_)
            have pke25 : PKo e25 := by rw [ee25]; exact refO_pk hck1
            have ne46_e25 : ¬ 46 = e25 := PKo.ne pke25
            refine pw_bd (z_Reader_placeOf dX10) (fun x26 X27 dX27 => ?_)
            refine pw_bd (z_Program_emit pke25 dX27) (fun x28 X29 dX29 => ?_)
            exact z_Reader_takeLet_80 zv_takePrefix zv_takeE dX29
      refine pw_bd (l_tookColon hR5) ?_
      unfold sColon
      rintro x6 X7 h
      rcases h with ⟨t1, t2, hR7, t3, t4⟩ | ⟨t1, t2, rfl⟩
      · rw [if_pos t1]
        refine pw_neg t2 ?_
        have hK := l_takeKind X7 (nx ch q2) (o + 1) 0 K.1 K.2.1 (I := (K.2.2.1, kcs (c ++ [((0, 1, (pl ch q : Int), []) : Ins)]))) hR7.lb (by omega) (by omega) (by omega) (by omega)
        revert hK
        cases sK ch 64 (o + 1) (nx ch q2) with
        | none =>
          intro hK
          refine pw_bd hK (fun x30 X31 hd => ?_)
          have hd : fd X31 := hd
          show pw _ (fun _ Z => fd Z)
          exact z_Reader_takeLet_42 zv_takePrefix zv_takeE hd
        | some a =>
          intro hK
          refine pw_bd hK ?_
          rintro x30 X31 ⟨⟨⟨ks1, y1, hR31, y2⟩, _, _⟩, t5, t6, t7⟩
          have hlb : K.2.2.2 ≤ kcs (c ++ [((0, 1, (pl ch q : Int), []) : Ins)]) := hR7.kq.1.2
          exact tail x30 (some a.2) a.1 X31 _ ⟨fun g => absurd g (Option.some_ne_none _), fun g => by exfalso; omega⟩ (fun g => absurd g (Option.some_ne_none _)) (fun d hd => ⟨ks1, y1, by rw [← Option.some.inj hd], hlb, by rw [← Option.some.inj hd]; exact y2⟩) hR31 (by omega) t6
      · rw [if_neg t1]
        refine pw_pos t2 ?_
        exact tail (-1) none q2 X7 K ⟨fun _ => by decide, fun _ => rfl⟩ (fun _ => rfl) (fun d hd => absurd hd.symm (Option.some_ne_none _)) hR5 (by omega) p5
    · intro _ X5 hd
      refine pw_bd (z_Reader_tookColon hd) (fun x6 X7 dX7 => ?_)
      refine pw_ite (fun _ => ?_) (fun _ => ?_)
      · exact z_Reader_takeLet_42 zv_takePrefix zv_takeE dX7
      · refine pw_bd (z_Reader_takeKind dX7) (fun x30 X31 dX31 => ?_)
        exact z_Reader_takeLet_42 zv_takePrefix zv_takeE dX31
  · intro _ X3 hd
    refine pw_eq (fun y4 _ => ?_)
    refine pw_bd (z_Reader_want hd) (fun _ X5 dX5 => ?_)
    refine pw_bd (z_Reader_tookColon dX5) (fun x6 X7 dX7 => ?_)
    refine pw_ite (fun _ => ?_) (fun _ => ?_)
    · exact z_Reader_takeLet_42 zv_takePrefix zv_takeE dX7
    · refine pw_bd (z_Reader_takeKind dX7) (fun x30 X31 dX31 => ?_)
      exact z_Reader_takeLet_42 zv_takePrefix zv_takeE dX31
theorem l_takePrefix (zv_takePrefix : ∀ (p1 p2 : Int32) (X : St), fd X → pw (v_takePrefix p1 p2 X) (fun _ Y => fd Y)) (zv_takeE : ∀ (X : St), fd X → pw (v_takeE X) (fun _ Y => fd Y)) (hP : PH e n ch X0 v_takePrefix P) (hE : EH e n ch X0 v_takeE E) {p1 p2 : Int32} {a1 a2 : Int} (h1 : p1.toInt = a1) (h2 : p2.toInt = a2) (n1 : ¬ a1 = 4 ∧ ¬ a1 = 34) (n2 : ¬ a2 = 4 ∧ ¬ a2 = 34) (hR : RC e ch n X0 (0, K) X q o sc ws c) (ho : 0 ≤ o ∧ o ≤ 40) (hs : (sc.length : Int) ≤ 4 + o) (hw : (ws.length : Int) ≤ 3 * o + 3) (hc : c.length ≤ 3 * pl ch q) (ht : ty ch q = 45 ∨ ty ch q = 33) : pw (g_Reader_takePrefix_b v_takePrefix v_takeE p1 p2 X) (fun r Z => PO Z (sPre ch P E a1 a2 o sc q c) (fun a => RC e ch n X0 (0, K) Z a.1 o sc ws a.2 ∧ r.toInt = (c.length : Int) ∧ c.length + 1 ≤ a.2.length ∧ GAq ch q c 0 a)) := by
  unfold g_Reader_takePrefix_b sPre
  have hpl := hR.pln
  refine pw_bd (l_emitStep hR (by omega)) ?_
  rintro x1 X2 ⟨hx1, hR2⟩
  have hl1 := len1 c ((0, 1, (pl ch q : Int), []) : Ins)
  refine pw_eq (fun x3 e3 => ?_)
  have h3 : x3.toInt = ty ch q := by rw [e3]; exact hR2.ty
  refine pw_bo (l_enter hR2 h3 (by omega) ho.1) ?_ ?_
  · rintro _ X4 q1 ⟨hR4, -, p1_, p2_, p3_⟩
    refine pw_bo (l_takeU zv_takePrefix zv_takeE hP hE hR4 (by omega) (by omega) (by omega) (by omega)) ?_ ?_
    · rintro x5 X6 r ⟨hR6, h5, hl2, g1, g2, g3, g4⟩
      rw [hl1] at h5
      refine pw_ck (fun _ => ?_)
      refine pw_to hR6.pe ?_
      refine pw_bd (l_placeOf hR6 (i := c.length + 1) h5 (by omega)) ?_
      rintro x8 X9 ⟨rfl, h8⟩
      refine pw_bd (l_emit (kd := []) hR6 (by omega) (a1 := a1) (a2 := 0) h1 (fun _ => by decide) h8 (fun g => absurd g n1.1) n1.2) ?_
      rintro x10 X11 ⟨⟨h10, hl3⟩, hR11⟩
      refine pw_ck (fun _ => ?_)
      refine pw_to hR11.pe ?_
      refine pw_bd (l_placeOf hR11 (i := c.length) hx1 (by omega)) ?_
      rintro x13 X14 ⟨rfl, h13⟩
      refine pw_bd (l_emit (kd := []) hR11 (by omega) (a1 := a2) (a2 := 0) h2 (fun _ => by decide) h13 (fun g => absurd g n2.1) n2.2) ?_
      rintro x15 X16 ⟨⟨h15, hl4⟩, hR16⟩
      refine pw_let ?_
      refine pw_let ?_
      refine pw_eq (fun X19 e19 => ?_)
      have hR19 := hR16.shut (by omega)
      rw [show o + 1 - 1 = o from by omega] at hR19
      rw [← e19] at hR19
      refine pw_ret (PO.s ⟨hR19, hx1, ?_, ?_, ?_, ?_, g4⟩)
      · show c.length + 1 ≤ ((r.2 ++ [((a1, 0, plc r.2 (c.length + 1), []) : Ins)]) ++ [(a2, 0, plc (r.2 ++ [(a1, 0, plc r.2 (c.length + 1), [])]) c.length, [])]).length
        omega
      · show c.length ≤ ((r.2 ++ [((a1, 0, plc r.2 (c.length + 1), []) : Ins)]) ++ [(a2, 0, plc (r.2 ++ [(a1, 0, plc r.2 (c.length + 1), [])]) c.length, [])]).length
        omega
      · show ((r.2 ++ [((a1, 0, plc r.2 (c.length + 1), []) : Ins)]) ++ [(a2, 0, plc (r.2 ++ [(a1, 0, plc r.2 (c.length + 1), [])]) c.length, [])]).length + 0 + 3 * pl ch q ≤ c.length + 3 * pl ch r.1
        omega
      · show pl ch q + 1 ≤ pl ch r.1
        omega
    · intro x5 X6 hd
      refine pw_ck (fun hck1 => ?_)
      refine pw_eq (fun e7 ee7 => ?_)
      have pke7 : PKo e7 := by rw [ee7]; exact refO_pk hck1
      have ne46_e7 : ¬ 46 = e7 := PKo.ne pke7
      refine pw_bd (z_Reader_placeOf hd) (fun x8 X9 dX9 => ?_)
      refine pw_bd (z_Program_emit pke7 dX9) (fun x10 X11 dX11 => ?_)
      refine pw_ck (fun hck2 => ?_)
      refine pw_eq (fun e12 ee12 => ?_)
      have pke12 : PKo e12 := by rw [ee12]; exact refO_pk hck2
      have ne46_e12 : ¬ 46 = e12 := PKo.ne pke12
      refine pw_bd (z_Reader_placeOf dX11) (fun x13 X14 dX14 => ?_)
      refine pw_bd (z_Program_emit pke12 dX14) (fun x15 X16 dX16 => ?_)
      refine pw_eq (fun x17 _ => ?_)
      refine pw_eq (fun x18 _ => ?_)
      refine pw_eq (fun X19 eX19 => ?_)
      have dX19 : fd X19 := by rw [eX19]; exact fd_w dX16 (by decide)
      exact pw_ret dX19
  · intro _ X4 hd
    refine pw_bd (z_Reader_takeU zv_takePrefix zv_takeE hd) (fun x5 X6 dX6 => ?_)
    refine pw_ck (fun hck1 => ?_)
    refine pw_eq (fun e7 ee7 => ?_)
    have pke7 : PKo e7 := by rw [ee7]; exact refO_pk hck1
    have ne46_e7 : ¬ 46 = e7 := PKo.ne pke7
    refine pw_bd (z_Reader_placeOf dX6) (fun x8 X9 dX9 => ?_)
    refine pw_bd (z_Program_emit pke7 dX9) (fun x10 X11 dX11 => ?_)
    refine pw_ck (fun hck2 => ?_)
    refine pw_eq (fun e12 ee12 => ?_)
    have pke12 : PKo e12 := by rw [ee12]; exact refO_pk hck2
    have ne46_e12 : ¬ 46 = e12 := PKo.ne pke12
    refine pw_bd (z_Reader_placeOf dX11) (fun x13 X14 dX14 => ?_)
    refine pw_bd (z_Program_emit pke12 dX14) (fun x15 X16 dX16 => ?_)
    refine pw_eq (fun x17 _ => ?_)
    refine pw_eq (fun x18 _ => ?_)
    refine pw_eq (fun X19 eX19 => ?_)
    have dX19 : fd X19 := by rw [eX19]; exact fd_w dX16 (by decide)
    exact pw_ret dX19
theorem l_takeE1 (zv_takePrefix : ∀ (p1 p2 : Int32) (X : St), fd X → pw (v_takePrefix p1 p2 X) (fun _ Y => fd Y)) (zv_takeE : ∀ (X : St), fd X → pw (v_takeE X) (fun _ Y => fd Y)) (hP : PH e n ch X0 v_takePrefix P) (hE : EH e n ch X0 v_takeE E) : EH e n ch X0 (g_Reader_takeE_b v_takePrefix v_takeE) (sE1 ch P E) := by
  intro K X q o sc ws c hR ho1 ho2 hs hw hc
  unfold g_Reader_takeE_b sE1
  refine pw_let ?_
  refine pw_ifo (by rw [hR.ty]) (fun c1 => pw_bd (l_takeLet zv_takePrefix zv_takeE hP hE hR ⟨ho1, ho2⟩ hs hw hc) (fun _ _ h => pw_ret h)) (fun c1 => ?_)
  refine pw_let ?_
  exact pw_ifo (by rw [hR.ty]) (fun c2 => pw_bd (l_takeIf zv_takePrefix zv_takeE hP hE hR ⟨ho1, ho2⟩ hs hw hc) (fun _ _ h => pw_ret h)) (fun c2 => pw_bd (l_takeC zv_takePrefix zv_takeE hP hE hR ⟨ho1, ho2⟩ hs hw hc) (fun _ _ h => pw_ret h))
theorem l_rec : ∀ N, ((∀ (p1 p2 : Int32) (X : St), fd X → pw ((rec_e N).1 p1 p2 X) (fun _ Y => fd Y)) ∧ (∀ (X : St), fd X → pw ((rec_e N).2 X) (fun _ Y => fd Y))) ∧ PH e n ch X0 (rec_e N).1 (sEP ch N).1 ∧ EH e n ch X0 (rec_e N).2 (sEP ch N).2 := by
  intro N
  unfold rec_e
  refine lp_indN (γ := (Int32 → Int32 → St → Option (Int32 × St)) × (St → Option (Int32 × St))) (P := fun (m : Nat) r => ((∀ (p1 p2 : Int32) (X : St), fd X → pw (r.1 p1 p2 X) (fun _ Y => fd Y)) ∧ (∀ (X : St), fd X → pw (r.2 X) (fun _ Y => fd Y))) ∧ PH e n ch X0 r.1 (sEP ch m).1 ∧ EH e n ch X0 r.2 (sEP ch m).2) ⟨⟨fun _ _ _ _ => pw_none, fun _ _ => pw_none⟩, fun _ _ _ _ _ _ _ _ _ _ _ _ _ _ _ _ _ _ _ _ _ => pw_none, fun _ _ _ _ _ _ _ _ _ _ _ _ => pw_none⟩ ?_ N
  rintro m r ⟨⟨z1, z2⟩, h1, h2⟩
  refine ⟨⟨fun p1 p2 X h => z_Reader_takePrefix_b z1 z2 h, fun X h => z_Reader_takeE_b z1 z2 h⟩, ?_, l_takeE1 z1 z2 h1 h2⟩
  intro K p1 p2 a1 a2 X q o sc ws c b1 b2 b3 b4 hR ho1 ho2 hs hw hc ht
  exact l_takePrefix z1 z2 h1 h2 b1 b2 b3 b4 hR ⟨ho1, ho2⟩ hs hw hc ht
theorem l_takeE : EH e n ch X0 g_Reader_takeE (sE ch) := (l_rec 64).2.2
end CEX2
