set_option maxHeartbeats 4000000 in
set_option maxRecDepth 100000 in
theorem c_Guards_init (l : Launch) (dC : Nat → ClassId) (dI : Nat → Nat → Nat) (h0 : Nat) (tl : List Value) (sz : Nat) (htl : tl.length = 6) : Met l yX0_init (wsOf yX0_init cX0_init 1 none) ({ frames := 6, cells := 5, slots := 15000, locals := 90 } : Room) (va_Pc [.ref h0] (PB dC dI sz [(h0, .inr (0, tl))] [])) (va_Qv (S := Unit) (fun _ => True) (fun x t => PW dC dI (va_A [(h0, .inr (0, tl))] sz) ([]) ([]) t) (va_A [(h0, .inr (0, tl))] sz)) 5 15000 (va_A [(h0, .inr (0, tl))] sz) := by
  refine mbody (b := cX0_init) (n := 1) (ret := none) (Qc := fun A => (va_Qv (S := Unit) (fun _ => True) (fun x t => PW dC dI A ([]) ([]) t) A)) (by decide) (Nat.le_of_ble_eq_true rfl) ?_
  intro p e s m below meth c ls A H hf hr hin hlk hw hl
  have hl : lv_has ls 1 [(0, .ref h0)] := hl
  refine lv_aload_n hf.1 hf.2.1 dX0_init_0 rfl (lv_at hl 0 rfl) ?_
  refine mobj hf hl.1 k466 k206 k207 dX0_init_1 (Nat.le_of_ble_eq_true rfl) (Nat.le_of_ble_eq_true rfl) ?_
  refine lv_aload_n hf.1 hf.2.1 dX0_init_4 rfl (lv_at hl 0 rfl) ?_
  refine lv_sipush (v := 3000) hf.1 hf.2.1 dX0_init_5 (by decide) ?_
  refine mnewaD hf hw (ty := .int) (a0 := (3000, .inl (fun _ => 0))) k277 rfl (fun _ => rfl) (by decide) rfl (Nat.le_of_ble_eq_true rfl) (ce := 1) (sl := 3000) rfl rfl (Nat.le_of_ble_eq_true rfl) (Nat.le_of_ble_eq_true rfl) dX0_init_8 (fun q12 H hw => ?_)
  refine mputFT (K := []) (j := 0) (nt := 6) hf hin hw iX0 tyX0 tyX0_ok nmX0 0 rfl rfl 0 (by decide) k467 rfl rfl rfl rfl htl rfl (by decide) (ws' := fun tl13 => [(h0, .inr (0, tl13))]) (fun _ => rfl) dX0_init_10 (fun tl13 htl13 H locs hw => ?_)
  refine lv_aload_n hf.1 hf.2.1 dX0_init_13 rfl (lv_at hl 0 rfl) ?_
  refine lv_sipush (v := 3000) hf.1 hf.2.1 dX0_init_14 (by decide) ?_
  refine mnewaD hf hw (ty := .int) (a0 := (3000, .inl (fun _ => 0))) k277 rfl (fun _ => rfl) (by decide) rfl (Nat.le_of_ble_eq_true rfl) (ce := 2) (sl := 6000) rfl rfl (Nat.le_of_ble_eq_true rfl) (Nat.le_of_ble_eq_true rfl) dX0_init_17 (fun q14 H hw => ?_)
  refine mputFT (K := []) (j := 1) (nt := 6) hf hin hw iX0 tyX0 tyX0_ok nmX0 0 rfl rfl 1 (by decide) k470 rfl rfl rfl rfl htl13 rfl (by decide) (ws' := fun tl15 => [(h0, .inr (0, tl15))]) (fun _ => rfl) dX0_init_19 (fun tl15 htl15 H locs hw => ?_)
  refine lv_aload_n hf.1 hf.2.1 dX0_init_22 rfl (lv_at hl 0 rfl) ?_
  refine lv_sipush (v := 3000) hf.1 hf.2.1 dX0_init_23 (by decide) ?_
  refine mnewaD hf hw (ty := .int) (a0 := (3000, .inl (fun _ => 0))) k277 rfl (fun _ => rfl) (by decide) rfl (Nat.le_of_ble_eq_true rfl) (ce := 3) (sl := 9000) rfl rfl (Nat.le_of_ble_eq_true rfl) (Nat.le_of_ble_eq_true rfl) dX0_init_26 (fun q16 H hw => ?_)
  refine mputFT (K := []) (j := 2) (nt := 6) hf hin hw iX0 tyX0 tyX0_ok nmX0 0 rfl rfl 2 (by decide) k473 rfl rfl rfl rfl htl15 rfl (by decide) (ws' := fun tl17 => [(h0, .inr (0, tl17))]) (fun _ => rfl) dX0_init_28 (fun tl17 htl17 H locs hw => ?_)
  refine lv_aload_n hf.1 hf.2.1 dX0_init_31 rfl (lv_at hl 0 rfl) ?_
  refine lv_sipush (v := 3000) hf.1 hf.2.1 dX0_init_32 (by decide) ?_
  refine mnewaD hf hw (ty := .int) (a0 := (3000, .inl (fun _ => 0))) k277 rfl (fun _ => rfl) (by decide) rfl (Nat.le_of_ble_eq_true rfl) (ce := 4) (sl := 12000) rfl rfl (Nat.le_of_ble_eq_true rfl) (Nat.le_of_ble_eq_true rfl) dX0_init_35 (fun q18 H hw => ?_)
  refine mputFT (K := []) (j := 3) (nt := 6) hf hin hw iX0 tyX0 tyX0_ok nmX0 0 rfl rfl 3 (by decide) k476 rfl rfl rfl rfl htl17 rfl (by decide) (ws' := fun tl19 => [(h0, .inr (0, tl19))]) (fun _ => rfl) dX0_init_37 (fun tl19 htl19 H locs hw => ?_)
  refine lv_aload_n hf.1 hf.2.1 dX0_init_40 rfl (lv_at hl 0 rfl) ?_
  refine lv_sipush (v := 3000) hf.1 hf.2.1 dX0_init_41 (by decide) ?_
  refine mnewaD hf hw (ty := .int) (a0 := (3000, .inl (fun _ => 0))) k277 rfl (fun _ => rfl) (by decide) rfl (Nat.le_of_ble_eq_true rfl) (ce := 5) (sl := 15000) rfl rfl (Nat.le_of_ble_eq_true rfl) (Nat.le_of_ble_eq_true rfl) dX0_init_44 (fun q20 H hw => ?_)
  refine mputFT (K := []) (j := 4) (nt := 6) hf hin hw iX0 tyX0 tyX0_ok nmX0 0 rfl rfl 4 (by decide) k479 rfl rfl rfl rfl htl19 rfl (by decide) (ws' := fun tl21 => [(h0, .inr (0, tl21))]) (fun _ => rfl) dX0_init_46 (fun tl21 htl21 H locs hw => ?_)
  refine lv_aload_n hf.1 hf.2.1 dX0_init_49 rfl (lv_at hl 0 rfl) ?_
  refine lv_iconst (v := 0) hf.1 hf.2.1 dX0_init_50 (by decide) ?_
  refine mputT (K := []) (j := 5) (nt := 6) hf hw iX0 tyX0 tyX0_ok nmX0 0 rfl rfl 5 (by decide) k482 rfl rfl rfl htl21 rfl (by decide) (ws' := fun tl22 => [(h0, .inr (0, tl22))]) (fun _ => rfl) dX0_init_51 (fun tl22 htl22 H locs hw => ?_)
  exact mret_v hf hr hlk hw () trivial [] [] rfl rfl rfl (Nat.le_of_ble_eq_true rfl) (Nat.le_of_ble_eq_true rfl) dX0_init_54

set_option maxHeartbeats 4000000 in
set_option maxRecDepth 100000 in
theorem c_Heap_init (l : Launch) (dC : Nat → ClassId) (dI : Nat → Nat → Nat) (h0 : Nat) (tl : List Value) (sz : Nat) (htl : tl.length = 13) : Met l yX1_init (wsOf yX1_init cX1_init 1 none) ({ frames := 6, cells := 10, slots := 13000, locals := 90 } : Room) (va_Pc [.ref h0] (PB dC dI sz [(h0, .inr (1, tl))] [])) (va_Qv (S := Unit) (fun _ => True) (fun x t => PW dC dI (va_A [(h0, .inr (1, tl))] sz) ([]) ([]) t) (va_A [(h0, .inr (1, tl))] sz)) 10 13000 (va_A [(h0, .inr (1, tl))] sz) := by
  refine mbody (b := cX1_init) (n := 1) (ret := none) (Qc := fun A => (va_Qv (S := Unit) (fun _ => True) (fun x t => PW dC dI A ([]) ([]) t) A)) (by decide) (Nat.le_of_ble_eq_true rfl) ?_
  intro p e s m below meth c ls A H hf hr hin hlk hw hl
  have hl : lv_has ls 1 [(0, .ref h0)] := hl
  refine lv_aload_n hf.1 hf.2.1 dX1_init_0 rfl (lv_at hl 0 rfl) ?_
  refine mobj hf hl.1 k565 k206 k207 dX1_init_1 (Nat.le_of_ble_eq_true rfl) (Nat.le_of_ble_eq_true rfl) ?_
  refine lv_aload_n hf.1 hf.2.1 dX1_init_4 rfl (lv_at hl 0 rfl) ?_
  refine lv_iconst (v := 0) hf.1 hf.2.1 dX1_init_5 (by decide) ?_
  refine mputT (K := []) (j := 0) (nt := 13) hf hw iX1 tyX1 tyX1_ok nmX1 0 rfl rfl 0 (by decide) k566 rfl rfl rfl htl rfl (by decide) (ws' := fun tl46 => [(h0, .inr (1, tl46))]) (fun _ => rfl) dX1_init_6 (fun tl46 htl46 H locs hw => ?_)
  refine lv_aload_n hf.1 hf.2.1 dX1_init_9 rfl (lv_at hl 0 rfl) ?_
  refine lv_iconst (v := 0) hf.1 hf.2.1 dX1_init_10 (by decide) ?_
  refine mputT (K := []) (j := 1) (nt := 13) hf hw iX1 tyX1 tyX1_ok nmX1 0 rfl rfl 1 (by decide) k568 rfl rfl rfl htl46 rfl (by decide) (ws' := fun tl47 => [(h0, .inr (1, tl47))]) (fun _ => rfl) dX1_init_11 (fun tl47 htl47 H locs hw => ?_)
  refine lv_aload_n hf.1 hf.2.1 dX1_init_14 rfl (lv_at hl 0 rfl) ?_
  refine lv_iconst (v := 0) hf.1 hf.2.1 dX1_init_15 (by decide) ?_
  refine mputT (K := []) (j := 2) (nt := 13) hf hw iX1 tyX1 tyX1_ok nmX1 0 rfl rfl 2 (by decide) k569 rfl rfl rfl htl47 rfl (by decide) (ws' := fun tl48 => [(h0, .inr (1, tl48))]) (fun _ => rfl) dX1_init_16 (fun tl48 htl48 H locs hw => ?_)
  refine lv_aload_n hf.1 hf.2.1 dX1_init_19 rfl (lv_at hl 0 rfl) ?_
  refine lv_sipush (v := 1000) hf.1 hf.2.1 dX1_init_20 (by decide) ?_
  refine mnewaD hf hw (ty := .int) (a0 := (1000, .inl (fun _ => 0))) k277 rfl (fun _ => rfl) (by decide) rfl (Nat.le_of_ble_eq_true rfl) (ce := 1) (sl := 1000) rfl rfl (Nat.le_of_ble_eq_true rfl) (Nat.le_of_ble_eq_true rfl) dX1_init_23 (fun q49 H hw => ?_)
  refine mputFT (K := []) (j := 3) (nt := 13) hf hin hw iX1 tyX1 tyX1_ok nmX1 0 rfl rfl 3 (by decide) k571 rfl rfl rfl rfl htl48 rfl (by decide) (ws' := fun tl50 => [(h0, .inr (1, tl50))]) (fun _ => rfl) dX1_init_25 (fun tl50 htl50 H locs hw => ?_)
  refine lv_aload_n hf.1 hf.2.1 dX1_init_28 rfl (lv_at hl 0 rfl) ?_
  refine lv_sipush (v := 1000) hf.1 hf.2.1 dX1_init_29 (by decide) ?_
  refine mnewaD hf hw (ty := .int) (a0 := (1000, .inl (fun _ => 0))) k277 rfl (fun _ => rfl) (by decide) rfl (Nat.le_of_ble_eq_true rfl) (ce := 2) (sl := 2000) rfl rfl (Nat.le_of_ble_eq_true rfl) (Nat.le_of_ble_eq_true rfl) dX1_init_32 (fun q51 H hw => ?_)
  refine mputFT (K := []) (j := 4) (nt := 13) hf hin hw iX1 tyX1 tyX1_ok nmX1 0 rfl rfl 4 (by decide) k572 rfl rfl rfl rfl htl50 rfl (by decide) (ws' := fun tl52 => [(h0, .inr (1, tl52))]) (fun _ => rfl) dX1_init_34 (fun tl52 htl52 H locs hw => ?_)
  refine lv_aload_n hf.1 hf.2.1 dX1_init_37 rfl (lv_at hl 0 rfl) ?_
  refine lv_sipush (v := 4000) hf.1 hf.2.1 dX1_init_38 (by decide) ?_
  refine mnewaD hf hw (ty := .long) (a0 := (4000, .inr (.inl (fun _ => 0)))) k373 rfl (fun _ => rfl) (by decide) rfl (Nat.le_of_ble_eq_true rfl) (ce := 3) (sl := 6000) rfl rfl (Nat.le_of_ble_eq_true rfl) (Nat.le_of_ble_eq_true rfl) dX1_init_41 (fun q53 H hw => ?_)
  refine mputFT (K := []) (j := 5) (nt := 13) hf hin hw iX1 tyX1 tyX1_ok nmX1 0 rfl rfl 5 (by decide) k573 rfl rfl rfl rfl htl52 rfl (by decide) (ws' := fun tl54 => [(h0, .inr (1, tl54))]) (fun _ => rfl) dX1_init_43 (fun tl54 htl54 H locs hw => ?_)
  refine lv_aload_n hf.1 hf.2.1 dX1_init_46 rfl (lv_at hl 0 rfl) ?_
  refine lv_sipush (v := 1000) hf.1 hf.2.1 dX1_init_47 (by decide) ?_
  refine mnewaD hf hw (ty := .long) (a0 := (1000, .inr (.inl (fun _ => 0)))) k373 rfl (fun _ => rfl) (by decide) rfl (Nat.le_of_ble_eq_true rfl) (ce := 4) (sl := 7000) rfl rfl (Nat.le_of_ble_eq_true rfl) (Nat.le_of_ble_eq_true rfl) dX1_init_50 (fun q55 H hw => ?_)
  refine mputFT (K := []) (j := 6) (nt := 13) hf hin hw iX1 tyX1 tyX1_ok nmX1 0 rfl rfl 6 (by decide) k574 rfl rfl rfl rfl htl54 rfl (by decide) (ws' := fun tl56 => [(h0, .inr (1, tl56))]) (fun _ => rfl) dX1_init_52 (fun tl56 htl56 H locs hw => ?_)
  refine lv_aload_n hf.1 hf.2.1 dX1_init_55 rfl (lv_at hl 0 rfl) ?_
  refine lv_sipush (v := 1000) hf.1 hf.2.1 dX1_init_56 (by decide) ?_
  refine mnewaD hf hw (ty := .int) (a0 := (1000, .inl (fun _ => 0))) k277 rfl (fun _ => rfl) (by decide) rfl (Nat.le_of_ble_eq_true rfl) (ce := 5) (sl := 8000) rfl rfl (Nat.le_of_ble_eq_true rfl) (Nat.le_of_ble_eq_true rfl) dX1_init_59 (fun q57 H hw => ?_)
  refine mputFT (K := []) (j := 7) (nt := 13) hf hin hw iX1 tyX1 tyX1_ok nmX1 0 rfl rfl 7 (by decide) k576 rfl rfl rfl rfl htl56 rfl (by decide) (ws' := fun tl58 => [(h0, .inr (1, tl58))]) (fun _ => rfl) dX1_init_61 (fun tl58 htl58 H locs hw => ?_)
  refine lv_aload_n hf.1 hf.2.1 dX1_init_64 rfl (lv_at hl 0 rfl) ?_
  refine lv_sipush (v := 1000) hf.1 hf.2.1 dX1_init_65 (by decide) ?_
  refine mnewaD hf hw (ty := .int) (a0 := (1000, .inl (fun _ => 0))) k277 rfl (fun _ => rfl) (by decide) rfl (Nat.le_of_ble_eq_true rfl) (ce := 6) (sl := 9000) rfl rfl (Nat.le_of_ble_eq_true rfl) (Nat.le_of_ble_eq_true rfl) dX1_init_68 (fun q59 H hw => ?_)
  refine mputFT (K := []) (j := 8) (nt := 13) hf hin hw iX1 tyX1 tyX1_ok nmX1 0 rfl rfl 8 (by decide) k578 rfl rfl rfl rfl htl58 rfl (by decide) (ws' := fun tl60 => [(h0, .inr (1, tl60))]) (fun _ => rfl) dX1_init_70 (fun tl60 htl60 H locs hw => ?_)
  refine lv_aload_n hf.1 hf.2.1 dX1_init_73 rfl (lv_at hl 0 rfl) ?_
  refine lv_sipush (v := 1000) hf.1 hf.2.1 dX1_init_74 (by decide) ?_
  refine mnewaD hf hw (ty := .int) (a0 := (1000, .inl (fun _ => 0))) k277 rfl (fun _ => rfl) (by decide) rfl (Nat.le_of_ble_eq_true rfl) (ce := 7) (sl := 10000) rfl rfl (Nat.le_of_ble_eq_true rfl) (Nat.le_of_ble_eq_true rfl) dX1_init_77 (fun q61 H hw => ?_)
  refine mputFT (K := []) (j := 9) (nt := 13) hf hin hw iX1 tyX1 tyX1_ok nmX1 0 rfl rfl 9 (by decide) k580 rfl rfl rfl rfl htl60 rfl (by decide) (ws' := fun tl62 => [(h0, .inr (1, tl62))]) (fun _ => rfl) dX1_init_79 (fun tl62 htl62 H locs hw => ?_)
  refine lv_aload_n hf.1 hf.2.1 dX1_init_82 rfl (lv_at hl 0 rfl) ?_
  refine lv_sipush (v := 1000) hf.1 hf.2.1 dX1_init_83 (by decide) ?_
  refine mnewaD hf hw (ty := .int) (a0 := (1000, .inl (fun _ => 0))) k277 rfl (fun _ => rfl) (by decide) rfl (Nat.le_of_ble_eq_true rfl) (ce := 8) (sl := 11000) rfl rfl (Nat.le_of_ble_eq_true rfl) (Nat.le_of_ble_eq_true rfl) dX1_init_86 (fun q63 H hw => ?_)
  refine mputFT (K := []) (j := 10) (nt := 13) hf hin hw iX1 tyX1 tyX1_ok nmX1 0 rfl rfl 10 (by decide) k582 rfl rfl rfl rfl htl62 rfl (by decide) (ws' := fun tl64 => [(h0, .inr (1, tl64))]) (fun _ => rfl) dX1_init_88 (fun tl64 htl64 H locs hw => ?_)
  refine lv_aload_n hf.1 hf.2.1 dX1_init_91 rfl (lv_at hl 0 rfl) ?_
  refine lv_sipush (v := 1000) hf.1 hf.2.1 dX1_init_92 (by decide) ?_
  refine mnewaD hf hw (ty := .int) (a0 := (1000, .inl (fun _ => 0))) k277 rfl (fun _ => rfl) (by decide) rfl (Nat.le_of_ble_eq_true rfl) (ce := 9) (sl := 12000) rfl rfl (Nat.le_of_ble_eq_true rfl) (Nat.le_of_ble_eq_true rfl) dX1_init_95 (fun q65 H hw => ?_)
  refine mputFT (K := []) (j := 11) (nt := 13) hf hin hw iX1 tyX1 tyX1_ok nmX1 0 rfl rfl 11 (by decide) k584 rfl rfl rfl rfl htl64 rfl (by decide) (ws' := fun tl66 => [(h0, .inr (1, tl66))]) (fun _ => rfl) dX1_init_97 (fun tl66 htl66 H locs hw => ?_)
  refine lv_aload_n hf.1 hf.2.1 dX1_init_100 rfl (lv_at hl 0 rfl) ?_
  refine lv_sipush (v := 1000) hf.1 hf.2.1 dX1_init_101 (by decide) ?_
  refine mnewaD hf hw (ty := .int) (a0 := (1000, .inl (fun _ => 0))) k277 rfl (fun _ => rfl) (by decide) rfl (Nat.le_of_ble_eq_true rfl) (ce := 10) (sl := 13000) rfl rfl (Nat.le_of_ble_eq_true rfl) (Nat.le_of_ble_eq_true rfl) dX1_init_104 (fun q67 H hw => ?_)
  refine mputFT (K := []) (j := 12) (nt := 13) hf hin hw iX1 tyX1 tyX1_ok nmX1 0 rfl rfl 12 (by decide) k586 rfl rfl rfl rfl htl66 rfl (by decide) (ws' := fun tl68 => [(h0, .inr (1, tl68))]) (fun _ => rfl) dX1_init_106 (fun tl68 htl68 H locs hw => ?_)
  exact mret_v hf hr hlk hw () trivial [] [] rfl rfl rfl (Nat.le_of_ble_eq_true rfl) (Nat.le_of_ble_eq_true rfl) dX1_init_109

set_option maxHeartbeats 4000000 in
set_option maxRecDepth 100000 in
theorem c_Judging_init (l : Launch) (dC : Nat → ClassId) (dI : Nat → Nat → Nat) (h0 : Nat) (tl : List Value) (sz : Nat) (htl : tl.length = 15) : Met l yX2_init (wsOf yX2_init cX2_init 1 none) ({ frames := 6, cells := 8, slots := 9324, locals := 90 } : Room) (va_Pc [.ref h0] (PB dC dI sz [(h0, .inr (2, tl))] [])) (va_Qv (S := Unit) (fun _ => True) (fun x t => PW dC dI (va_A [(h0, .inr (2, tl))] sz) ([]) ([]) t) (va_A [(h0, .inr (2, tl))] sz)) 8 9324 (va_A [(h0, .inr (2, tl))] sz) := by
  refine mbody (b := cX2_init) (n := 1) (ret := none) (Qc := fun A => (va_Qv (S := Unit) (fun _ => True) (fun x t => PW dC dI A ([]) ([]) t) A)) (by decide) (Nat.le_of_ble_eq_true rfl) ?_
  intro p e s m below meth c ls A H hf hr hin hlk hw hl
  have hl : lv_has ls 1 [(0, .ref h0)] := hl
  refine lv_aload_n hf.1 hf.2.1 dX2_init_0 rfl (lv_at hl 0 rfl) ?_
  refine mobj hf hl.1 k504 k206 k207 dX2_init_1 (Nat.le_of_ble_eq_true rfl) (Nat.le_of_ble_eq_true rfl) ?_
  refine lv_aload_n hf.1 hf.2.1 dX2_init_4 rfl (lv_at hl 0 rfl) ?_
  refine lv_null hf.1 hf.2.1 dX2_init_5 ?_
  refine mputT (K := []) (j := 0) (nt := 15) hf hw iX2 tyX2 tyX2_ok nmX2 0 rfl rfl 0 (by decide) k505 rfl rfl rfl htl rfl (by decide) (ws' := fun tl92 => [(h0, .inr (2, tl92))]) (fun _ => rfl) dX2_init_6 (fun tl92 htl92 H locs hw => ?_)
  refine lv_aload_n hf.1 hf.2.1 dX2_init_9 rfl (lv_at hl 0 rfl) ?_
  refine lv_null hf.1 hf.2.1 dX2_init_10 ?_
  refine mputT (K := []) (j := 1) (nt := 15) hf hw iX2 tyX2 tyX2_ok nmX2 0 rfl rfl 1 (by decide) k506 rfl rfl rfl htl92 rfl (by decide) (ws' := fun tl93 => [(h0, .inr (2, tl93))]) (fun _ => rfl) dX2_init_11 (fun tl93 htl93 H locs hw => ?_)
  refine lv_aload_n hf.1 hf.2.1 dX2_init_14 rfl (lv_at hl 0 rfl) ?_
  refine lv_null hf.1 hf.2.1 dX2_init_15 ?_
  refine mputT (K := []) (j := 2) (nt := 15) hf hw iX2 tyX2 tyX2_ok nmX2 0 rfl rfl 2 (by decide) k507 rfl rfl rfl htl93 rfl (by decide) (ws' := fun tl94 => [(h0, .inr (2, tl94))]) (fun _ => rfl) dX2_init_16 (fun tl94 htl94 H locs hw => ?_)
  refine lv_aload_n hf.1 hf.2.1 dX2_init_19 rfl (lv_at hl 0 rfl) ?_
  refine lv_iconst (v := 0) hf.1 hf.2.1 dX2_init_20 (by decide) ?_
  refine mputT (K := []) (j := 3) (nt := 15) hf hw iX2 tyX2 tyX2_ok nmX2 0 rfl rfl 3 (by decide) k508 rfl rfl rfl htl94 rfl (by decide) (ws' := fun tl95 => [(h0, .inr (2, tl95))]) (fun _ => rfl) dX2_init_21 (fun tl95 htl95 H locs hw => ?_)
  refine lv_aload_n hf.1 hf.2.1 dX2_init_24 rfl (lv_at hl 0 rfl) ?_
  refine lv_iconst (v := 0) hf.1 hf.2.1 dX2_init_25 (by decide) ?_
  refine mputT (K := []) (j := 4) (nt := 15) hf hw iX2 tyX2 tyX2_ok nmX2 0 rfl rfl 4 (by decide) k509 rfl rfl rfl htl95 rfl (by decide) (ws' := fun tl96 => [(h0, .inr (2, tl96))]) (fun _ => rfl) dX2_init_26 (fun tl96 htl96 H locs hw => ?_)
  refine lv_aload_n hf.1 hf.2.1 dX2_init_29 rfl (lv_at hl 0 rfl) ?_
  refine lv_iconst (v := (-1)) hf.1 hf.2.1 dX2_init_30 (by decide) ?_
  refine mputT (K := []) (j := 5) (nt := 15) hf hw iX2 tyX2 tyX2_ok nmX2 0 rfl rfl 5 (by decide) k511 rfl rfl rfl htl96 rfl (by decide) (ws' := fun tl97 => [(h0, .inr (2, tl97))]) (fun _ => rfl) dX2_init_31 (fun tl97 htl97 H locs hw => ?_)
  refine lv_aload_n hf.1 hf.2.1 dX2_init_34 rfl (lv_at hl 0 rfl) ?_
  refine lv_bipush (v := 40) hf.1 hf.2.1 dX2_init_35 (by decide) ?_
  refine mnewaD hf hw (ty := .boolean) (a0 := (40, .inl (fun _ => 0))) k278 rfl (fun _ => rfl) (by decide) rfl (Nat.le_of_ble_eq_true rfl) (ce := 1) (sl := 40) rfl rfl (Nat.le_of_ble_eq_true rfl) (Nat.le_of_ble_eq_true rfl) dX2_init_37 (fun q98 H hw => ?_)
  refine mputFT (K := []) (j := 6) (nt := 15) hf hin hw iX2 tyX2 tyX2_ok nmX2 0 rfl rfl 6 (by decide) k513 rfl rfl rfl rfl htl97 rfl (by decide) (ws' := fun tl99 => [(h0, .inr (2, tl99))]) (fun _ => rfl) dX2_init_39 (fun tl99 htl99 H locs hw => ?_)
  refine lv_aload_n hf.1 hf.2.1 dX2_init_42 rfl (lv_at hl 0 rfl) ?_
  refine lv_sipush (v := 160) hf.1 hf.2.1 dX2_init_43 (by decide) ?_
  refine mnewaD hf hw (ty := .int) (a0 := (160, .inl (fun _ => 0))) k277 rfl (fun _ => rfl) (by decide) rfl (Nat.le_of_ble_eq_true rfl) (ce := 2) (sl := 200) rfl rfl (Nat.le_of_ble_eq_true rfl) (Nat.le_of_ble_eq_true rfl) dX2_init_46 (fun q100 H hw => ?_)
  refine mputFT (K := []) (j := 7) (nt := 15) hf hin hw iX2 tyX2 tyX2_ok nmX2 0 rfl rfl 7 (by decide) k515 rfl rfl rfl rfl htl99 rfl (by decide) (ws' := fun tl101 => [(h0, .inr (2, tl101))]) (fun _ => rfl) dX2_init_48 (fun tl101 htl101 H locs hw => ?_)
  refine lv_aload_n hf.1 hf.2.1 dX2_init_51 rfl (lv_at hl 0 rfl) ?_
  refine lv_bipush (v := 40) hf.1 hf.2.1 dX2_init_52 (by decide) ?_
  refine mnewaD hf hw (ty := .int) (a0 := (40, .inl (fun _ => 0))) k277 rfl (fun _ => rfl) (by decide) rfl (Nat.le_of_ble_eq_true rfl) (ce := 3) (sl := 240) rfl rfl (Nat.le_of_ble_eq_true rfl) (Nat.le_of_ble_eq_true rfl) dX2_init_54 (fun q102 H hw => ?_)
  refine mputFT (K := []) (j := 8) (nt := 15) hf hin hw iX2 tyX2 tyX2_ok nmX2 0 rfl rfl 8 (by decide) k516 rfl rfl rfl rfl htl101 rfl (by decide) (ws' := fun tl103 => [(h0, .inr (2, tl103))]) (fun _ => rfl) dX2_init_56 (fun tl103 htl103 H locs hw => ?_)
  refine lv_aload_n hf.1 hf.2.1 dX2_init_59 rfl (lv_at hl 0 rfl) ?_
  refine lv_bipush (v := 40) hf.1 hf.2.1 dX2_init_60 (by decide) ?_
  refine mnewaD hf hw (ty := .int) (a0 := (40, .inl (fun _ => 0))) k277 rfl (fun _ => rfl) (by decide) rfl (Nat.le_of_ble_eq_true rfl) (ce := 4) (sl := 280) rfl rfl (Nat.le_of_ble_eq_true rfl) (Nat.le_of_ble_eq_true rfl) dX2_init_62 (fun q104 H hw => ?_)
  refine mputFT (K := []) (j := 9) (nt := 15) hf hin hw iX2 tyX2 tyX2_ok nmX2 0 rfl rfl 9 (by decide) k517 rfl rfl rfl rfl htl103 rfl (by decide) (ws' := fun tl105 => [(h0, .inr (2, tl105))]) (fun _ => rfl) dX2_init_64 (fun tl105 htl105 H locs hw => ?_)
  refine lv_aload_n hf.1 hf.2.1 dX2_init_67 rfl (lv_at hl 0 rfl) ?_
  refine lv_bipush (v := 44) hf.1 hf.2.1 dX2_init_68 (by decide) ?_
  refine mnewaD hf hw (ty := .int) (a0 := (44, .inl (fun _ => 0))) k277 rfl (fun _ => rfl) (by decide) rfl (Nat.le_of_ble_eq_true rfl) (ce := 5) (sl := 324) rfl rfl (Nat.le_of_ble_eq_true rfl) (Nat.le_of_ble_eq_true rfl) dX2_init_70 (fun q106 H hw => ?_)
  refine mputFT (K := []) (j := 10) (nt := 15) hf hin hw iX2 tyX2 tyX2_ok nmX2 0 rfl rfl 10 (by decide) k518 rfl rfl rfl rfl htl105 rfl (by decide) (ws' := fun tl107 => [(h0, .inr (2, tl107))]) (fun _ => rfl) dX2_init_72 (fun tl107 htl107 H locs hw => ?_)
  refine lv_aload_n hf.1 hf.2.1 dX2_init_75 rfl (lv_at hl 0 rfl) ?_
  refine lv_sipush (v := 3000) hf.1 hf.2.1 dX2_init_76 (by decide) ?_
  refine mnewaD hf hw (ty := .int) (a0 := (3000, .inl (fun _ => 0))) k277 rfl (fun _ => rfl) (by decide) rfl (Nat.le_of_ble_eq_true rfl) (ce := 6) (sl := 3324) rfl rfl (Nat.le_of_ble_eq_true rfl) (Nat.le_of_ble_eq_true rfl) dX2_init_79 (fun q108 H hw => ?_)
  refine mputFT (K := []) (j := 11) (nt := 15) hf hin hw iX2 tyX2 tyX2_ok nmX2 0 rfl rfl 11 (by decide) k519 rfl rfl rfl rfl htl107 rfl (by decide) (ws' := fun tl109 => [(h0, .inr (2, tl109))]) (fun _ => rfl) dX2_init_81 (fun tl109 htl109 H locs hw => ?_)
  refine lv_aload_n hf.1 hf.2.1 dX2_init_84 rfl (lv_at hl 0 rfl) ?_
  refine lv_sipush (v := 3000) hf.1 hf.2.1 dX2_init_85 (by decide) ?_
  refine mnewaD hf hw (ty := .int) (a0 := (3000, .inl (fun _ => 0))) k277 rfl (fun _ => rfl) (by decide) rfl (Nat.le_of_ble_eq_true rfl) (ce := 7) (sl := 6324) rfl rfl (Nat.le_of_ble_eq_true rfl) (Nat.le_of_ble_eq_true rfl) dX2_init_88 (fun q110 H hw => ?_)
  refine mputFT (K := []) (j := 12) (nt := 15) hf hin hw iX2 tyX2 tyX2_ok nmX2 0 rfl rfl 12 (by decide) k520 rfl rfl rfl rfl htl109 rfl (by decide) (ws' := fun tl111 => [(h0, .inr (2, tl111))]) (fun _ => rfl) dX2_init_90 (fun tl111 htl111 H locs hw => ?_)
  refine lv_aload_n hf.1 hf.2.1 dX2_init_93 rfl (lv_at hl 0 rfl) ?_
  refine lv_sipush (v := 3000) hf.1 hf.2.1 dX2_init_94 (by decide) ?_
  refine mnewaD hf hw (ty := .int) (a0 := (3000, .inl (fun _ => 0))) k277 rfl (fun _ => rfl) (by decide) rfl (Nat.le_of_ble_eq_true rfl) (ce := 8) (sl := 9324) rfl rfl (Nat.le_of_ble_eq_true rfl) (Nat.le_of_ble_eq_true rfl) dX2_init_97 (fun q112 H hw => ?_)
  refine mputFT (K := []) (j := 13) (nt := 15) hf hin hw iX2 tyX2 tyX2_ok nmX2 0 rfl rfl 13 (by decide) k521 rfl rfl rfl rfl htl111 rfl (by decide) (ws' := fun tl113 => [(h0, .inr (2, tl113))]) (fun _ => rfl) dX2_init_99 (fun tl113 htl113 H locs hw => ?_)
  refine lv_aload_n hf.1 hf.2.1 dX2_init_102 rfl (lv_at hl 0 rfl) ?_
  refine lv_iconst (v := 0) hf.1 hf.2.1 dX2_init_103 (by decide) ?_
  refine mputT (K := []) (j := 14) (nt := 15) hf hw iX2 tyX2 tyX2_ok nmX2 0 rfl rfl 14 (by decide) k522 rfl rfl rfl htl113 rfl (by decide) (ws' := fun tl114 => [(h0, .inr (2, tl114))]) (fun _ => rfl) dX2_init_104 (fun tl114 htl114 H locs hw => ?_)
  exact mret_v hf hr hlk hw () trivial [] [] rfl rfl rfl (Nat.le_of_ble_eq_true rfl) (Nat.le_of_ble_eq_true rfl) dX2_init_107
