/-! the class's judge, instruction by instruction -/
/-- the class goes on as the judge does -/
def CQ (e : Nat) (ch : Tx) (ps : List Pt) (told : Nat → Bool) (c : List Ins) (X0 Y : St) (g j : Nat) (S : List SE) (a : Ins) (J : JS) (ks : List (List Int)) : Prop := ∃ (r : Sum JS (Int × Int)) (ks1 : List (List Int)), JST ch ps told c g j S a J r ∧ ks <+: ks1 ∧ ks1.length ≤ ks.length + krn a ∧ CJr e ch ps told c X0 Y g (sh1 j a S) ks1 r
section CONES
variable {e g j n m s D : Nat} {ch : Tx} {ps : List Pt} {told : Nat → Bool} {c : List Ins} {X0 X Y Z : St} {S S1 : List SE} {J J1 : JS} {ks ks1 kt : List (List Int)} {d d1 w : List Int} {v v1 p1 p2 : Int32} {G : JG} {p : Int} {a : Ins} {us : List (Nat × Nat)}
theorem CQ.ok {r : Sum JS (Int × Int)} (h : JST ch ps told c g j S a J r) (h1 : CJr e ch ps told c X0 Y g (sh1 j a S) ks r) : CQ e ch ps told c X0 Y g j S a J ks := ⟨r, ks, h, List.prefix_rfl, Nat.le_add_right _ _, h1⟩
theorem CJ.an (h : CJ e ch ps told c X0 X g S J ks) : CJ e ch ps told c X0 X g S (jany w J) ks := h
theorem ofI_to {x : Int} (h : -2147483648 ≤ x ∧ x ≤ 2147483647) : (Int32.ofInt x).toInt = x := Int32.toInt_ofInt_of_le (by omega) (by omega)
theorem l_rowOf (ht : CPR e ch X0 ps told c kt) (h : CJ e ch ps told c X0 X g S J ks) (hl : ks.length < 1549) (hd : KC ks v d) : pw (g_Kinds_rowOf (e + 1) v X) (fun r Y => ∃ ks1, ks <+: ks1 ∧ ks1.length ≤ ks.length + 1 ∧ CJ e ch ps told c X0 Y g S J ks1 ∧ KC ks1 r (4 :: d)) := by
  obtain ⟨z, a, b⟩ := hd
  have hT := h.1.1
  have hw : WKd 40 (4 :: d) := (hT.2.2.2 d (List.mem_of_getElem? b)).row
  refine pw_mono (kk_rowOf (CJ.he ht).2 hT.2.1 hl a b) ?_
  rintro r Y ⟨ks1, t1, hk, ⟨q, q1, q2⟩, y2, yr⟩
  have pre : ks <+: ks1 ∧ ks1.length ≤ ks.length + 1 ∧ ∀ x ∈ ks1, WKd 40 x := by
    rcases hk with rfl | ⟨_, rfl⟩
    · exact ⟨List.prefix_rfl, Nat.le_add_right _ _, hT.2.2.2⟩
    · refine ⟨List.prefix_append _ _, by rw [List.length_append, List.length_singleton]; exact Nat.le_refl _, fun x hx => ?_⟩
      rcases List.mem_append.mp hx with y | y
      · exact hT.2.2.2 x y
      · rw [List.mem_singleton.mp y]; exact hw
  exact ⟨ks1, pre.1, pre.2.1, h.kx ht.1.1 pre.1 t1 pre.2.2 y2 (fun j k q => yr j k (by omega)), q, q1, q2⟩
theorem l_gives (ht : CPR e ch X0 ps told c kt) (h : CJT e X0 X ks) (hd : KC ks v d) : pw (g_Kinds_givesOf (e + 1) v X) (fun r Y => Y = X ∧ KC ks r (gvs d)) := by
  obtain ⟨z, a, b⟩ := hd
  refine pw_mono (kk_givesOf (CJ.he ht).2 h.2.1 h.2.2.1 a b) ?_
  rintro r Y ⟨y, q, q1, q2, _⟩
  exact ⟨y, q, q1, q2⟩
theorem l_prm (ht : CPR e ch X0 ps told c kt) (h : CJT e X0 X ks) {i : Nat} (hd : KC ks v d) (h2 : p2.toInt = (i : Int)) (hi : i < tkn d) : pw (g_Kinds_paramOf (e + 1) v p2 X) (fun r Y => Y = X ∧ KC ks r (prm d i)) := by
  obtain ⟨z, a, b⟩ := hd
  refine pw_mono (kk_paramOf (CJ.he ht).2 h.2.1 a b h2 hi) ?_
  rintro r Y ⟨y, q, q1, q2, _⟩
  exact ⟨y, q, q1, q2⟩
theorem cp_0 (ht : CPR e ch X0 ps told c kt) (h : CJ e ch ps told c X0 X g S J ks) (e1 : a.1 = 0) (h1 : p1.toInt = a.1) : pw (g_Judging_judgePlain p1 p2 X) (fun _ Y => CQ e ch ps told c X0 Y g j S a J ks) := by
  unfold g_Judging_judgePlain
  refine pw_pos (by omega) (pw_ret (CQ.ok (JST.i0 e1 rfl) ?_))
  rw [sh1_0 e1]
  exact h
theorem cp_1 (ht : CPR e ch X0 ps told c kt) (h : CJ e ch ps told c X0 X g S J ks) (e1 : a.1 = 1) (h1 : p1.toInt = a.1) (hl : J.1.length < 3000) : pw (g_Judging_judgePlain p1 p2 X) (fun _ Y => CQ e ch ps told c X0 Y g j S a J ks) := by
  unfold g_Judging_judgePlain
  refine pw_neg (by omega) (pw_pos (by omega) (pw_bd (l_push ht h (KC.pl h.1.1.2.2.1).1 hl) (fun _ X2 h2 => pw_ret (CQ.ok (JST.i1 e1 rfl) ?_))))
  rw [sh1_1 e1]
  exact h2
theorem cp_2 (ht : CPR e ch X0 ps told c kt) (h : CJ e ch ps told c X0 X g S J ks) (e1 : a.1 = 2) (h1 : p1.toInt = a.1) (hl : J.1.length < 3000) : pw (g_Judging_judgePlain p1 p2 X) (fun _ Y => CQ e ch ps told c X0 Y g j S a J ks) := by
  unfold g_Judging_judgePlain
  refine pw_neg (by omega) (pw_neg (by omega) (pw_pos (by omega) (pw_bd (l_push ht h (KC.pl h.1.1.2.2.1).2.1 hl) (fun _ X2 h2 => pw_ret (CQ.ok (JST.i2 e1 rfl) ?_)))))
  rw [sh1_2 e1]
  exact h2
theorem cp_3 (ht : CPR e ch X0 ps told c kt) (h : CJ e ch ps told c X0 X g S J ks) (e1 : a.1 = 3) (h1 : p1.toInt = a.1) (hl : J.1.length < 3000) (h2 : p2.toInt = a.2.1) (hO : JOK D S J) (hD : 0 ≤ a.2.1 ∧ a.2.1 < (D : Int)) (h44 : D ≤ 44) : pw (g_Judging_judgePlain p1 p2 X) (fun _ Y => CQ e ch ps told c X0 Y g j S a J ks) := by
  unfold g_Judging_judgePlain
  refine pw_neg (by omega) (pw_neg (by omega) (pw_neg (by omega) (pw_pos (by omega) (?_))))
  refine pw_neg (by omega) (pw_neg (by omega) (pw_ck (fun _ => pw_eq (fun x8 e8 => ?_))))
  obtain ⟨d, hd⟩ := hO.2.2.2.1 a.2.1.toNat (by omega)
  rw [show ix p2 = a.2.1.toNat from ixn (by omega)] at e8
  unfold g_Judging_judgePlain_96
  refine pw_bd (l_push ht h (v := x8) (d := d) (by rw [e8]; exact h.2.2.2.2.1 _ d hd) hl) (fun _ X2 h2 => pw_ret (CQ.ok (JST.i3 e1 ⟨d, hd, rfl⟩) ?_))
  rw [sh1_3 e1]
  exact h2
theorem cp_4 (ht : CPR e ch X0 ps told c kt) (h : CJ e ch ps told c X0 X g S J ks) (e1 : a.1 = 4) (h1 : p1.toInt = a.1) (hl : J.1.length < 3000) (h2 : p2.toInt = nrp ch ps a.2.2.1) (hp : 0 < ps.length ∧ ps.length ≤ 40) : pw (g_Judging_judgePlain p1 p2 X) (fun _ Y => CQ e ch ps told c X0 Y g j S a J ks) := by
  unfold g_Judging_judgePlain
  refine pw_neg (by omega) (pw_neg (by omega) (pw_neg (by omega) (pw_neg (by omega) (pw_pos (by omega) (?_)))))
  have g0 : 0 ≤ nrp ch ps a.2.2.1 := by unfold nrp; exact Int.natCast_nonneg _
  have hlt := nrp_lt (ch := ch) hp.1 a.2.2.1
  refine pw_neg (by omega) (pw_neg (by omega) (pw_ck (fun _ => pw_eq (fun x8 e8 => ?_))))
  rw [show ix p2 = (nrp ch ps a.2.2.1).toNat from ixn (by omega)] at e8
  unfold g_Judging_judgePlain_123
  refine pw_bd (l_push ht h (v := x8) (d := fks ps told (nrp ch ps a.2.2.1).toNat) (by rw [e8]; exact (h.1.2 _ hlt).2.1) hl) (fun _ X2 h2 => pw_ret (CQ.ok (JST.i4 e1 rfl) ?_))
  rw [sh1_4 e1]
  exact h2
theorem cp_5 (ht : CPR e ch X0 ps told c kt) (h : CJ e ch ps told c X0 X g S J ks) (e1 : a.1 = 5) (h1 : p1.toInt = a.1) (hl : 1 ≤ J.1.length) (h2 : p2.toInt = a.2.1) (hx : 0 ≤ a.2.1 ∧ a.2.1 ≤ 43) : pw (g_Judging_judgePlain p1 p2 X) (fun _ Y => CQ e ch ps told c X0 Y g j S a J ks) := by
  unfold g_Judging_judgePlain
  refine pw_neg (by omega) (pw_neg (by omega) (pw_neg (by omega) (pw_neg (by omega) (pw_neg (by omega) (pw_pos (by omega) (?_))))))
  unfold g_Judging_bind
  refine pw_bd (R := fun _ Y => CQ e ch ps told c X0 Y g j S a J ks) (pw_bd (l_pop ht h hl) ?_) (fun _ X13 h13 => pw_ret h13)
  rintro x1 X2 ⟨k1, hp⟩
  refine pw_neg (by omega) (pw_neg (by omega) (pw_ck (fun _ => pw_eq (fun X3 e3 => pw_ret (CQ.ok (JST.i5 e1 rfl) ?_)))))
  rw [sh1_5 e1, e3, show ix p2 = a.2.1.toNat from ixn (by omega)]
  exact CJ.bind ht.1.1 hp k1
theorem cp_6 (ht : CPR e ch X0 ps told c kt) (h : CJ e ch ps told c X0 X g S J ks) (e1 : a.1 = 6) (h1 : p1.toInt = a.1) (hl : 1 ≤ J.1.length) : pw (g_Judging_judgePlain p1 p2 X) (fun _ Y => CQ e ch ps told c X0 Y g j S a J ks) := by
  unfold g_Judging_judgePlain
  refine pw_neg (by omega) (pw_neg (by omega) (pw_neg (by omega) (pw_neg (by omega) (pw_neg (by omega) (pw_neg (by omega) (pw_pos (by omega) (pw_bd (l_pop ht h hl) (fun _ X2 h2 => pw_ret (CQ.ok (JST.i6 e1 rfl) ?_)))))))))
  rw [sh1_6 e1]
  exact h2.2
theorem cp_9 (ht : CPR e ch X0 ps told c kt) (h : CJ e ch ps told c X0 X g S J ks) (e1 : a.1 = 9) (h1 : p1.toInt = a.1) (hl : 1 ≤ J.1.length) : pw (g_Judging_judgePlain p1 p2 X) (fun _ Y => CQ e ch ps told c X0 Y g j S a J ks) := by
  unfold g_Judging_judgePlain
  refine pw_neg (by omega) (pw_neg (by omega) (pw_neg (by omega) (pw_neg (by omega) (pw_neg (by omega) (pw_neg (by omega) (pw_neg (by omega) (pw_neg (by omega) (pw_neg (by omega) (pw_pos (by omega) (pw_bd (l_pop ht h hl) (fun _ X2 h2 => pw_ret (CQ.ok (JST.i9 e1 rfl) ?_))))))))))))
  rw [sh1_9 e1]
  exact h2.2
theorem cp_7 (ht : CPR e ch X0 ps told c kt) (h : CJ e ch ps told c X0 X g S J ks) (e1 : a.1 = 7) (h1 : p1.toInt = a.1) : pw (g_Judging_judgePlain p1 p2 X) (fun _ Y => CQ e ch ps told c X0 Y g j S a J ks) := by
  unfold g_Judging_judgePlain
  refine pw_neg (by omega) (pw_neg (by omega) (pw_neg (by omega) (pw_neg (by omega) (pw_neg (by omega) (pw_neg (by omega) (pw_neg (by omega) (pw_pos (by omega) (pw_ret (CQ.ok (JST.i7 e1 rfl) ?_)))))))))
  rw [sh1_7 e1]
  exact h
theorem cp_8 (ht : CPR e ch X0 ps told c kt) (h : CJ e ch ps told c X0 X g S J ks) (e1 : a.1 = 8) (h1 : p1.toInt = a.1) (hlen : S.length = J.1.length) (hc : J.2.2.2.length + mk S ≤ 3000) (hl : S.length < 3000) (hS : ∃ (S1 : List SE) (j1 j2 : Nat), S = (some j2, none, 0) :: (some j1, none, 0) :: S1) : pw (g_Judging_judgePlain p1 p2 X) (fun _ Y => CQ e ch ps told c X0 Y g j S a J ks) := by
  unfold g_Judging_judgePlain
  refine pw_neg (by omega) (pw_neg (by omega) (pw_neg (by omega) (pw_neg (by omega) (pw_neg (by omega) (pw_neg (by omega) (pw_neg (by omega) (pw_neg (by omega) (pw_pos (by omega) (?_)))))))))
  obtain ⟨S1, j1, j2, hS⟩ := hS
  have hk : mk S = 2 + mk S1 := by rw [hS, mk_some, mk_some]; omega
  have h2l : 2 ≤ S.length := by rw [hS]; show 2 ≤ S1.length + 1 + 1; omega
  refine pw_bd (l_mix (m := 2) (us := [(0, j1), (0, j2)]) (S1 := S1) ht h (by decide) (by omega) rfl hS (by omega)) ?_
  rintro x19 X20 ⟨k, J1, hm, hk1, hJ1⟩
  have l1 : J1.1.length < 3000 := by
    rcases hm with ⟨_, _, rfl⟩ | ⟨_, _, rfl⟩
    · show (J.1.drop 2).length < 3000; rw [List.length_drop]; omega
    · show (J.1.drop 2).length < 3000; rw [List.length_drop]; omega
  refine pw_bd (l_push ht hJ1 hk1 l1) (fun _ X21 h21 => pw_ret (CQ.ok (JST.i8 e1 ⟨k, J1, hm, rfl⟩) ?_))
  rw [sh1_8 e1]
  exact h21
theorem cp_10 (ht : CPR e ch X0 ps told c kt) (h : CJ e ch ps told c X0 X g S J ks) (e1 : a.1 = 10) (h1 : p1.toInt = a.1) (hlen : S.length = J.1.length) (hc : J.2.2.2.length + mk S ≤ 3000) (hl : S.length < 3000) (hS : ∃ (S1 : List SE) (us : List (Nat × Nat)), a.2.1 = (us.length : Int) ∧ S = us.reverse.map (fun w => ((some w.2, none, 0) : SE)) ++ S1) (h2 : p2.toInt = a.2.1) (hks : ks.length < 1549) : pw (g_Judging_judgePlain p1 p2 X) (fun _ Y => CQ e ch ps told c X0 Y g j S a J ks) := by
  unfold g_Judging_judgePlain
  refine pw_neg (by omega) (pw_neg (by omega) (pw_neg (by omega) (pw_neg (by omega) (pw_neg (by omega) (pw_neg (by omega) (pw_neg (by omega) (pw_neg (by omega) (pw_neg (by omega) (pw_neg (by omega) ((?_)))))))))))
  obtain ⟨S1, us, hu, hS⟩ := hS
  have nu : us.length = a.2.1.toNat := by omega
  have mm := mk_us us.reverse
  rw [List.length_reverse] at mm
  have hk : mk S = us.length + mk S1 := by rw [hS, mk_app, mm]
  have h2l : us.length ≤ S.length := by rw [hS, List.length_append, List.length_map, List.length_reverse]; omega
  refine pw_ck (fun _ => pw_to (h.1.1.rr ht).2.1 (pw_bd (l_mix (m := a.2.1.toNat) (us := us) (S1 := S1) ht h (by omega) (by omega) nu hS (by omega)) ?_))
  rintro x26 X27 ⟨k, J1, hm, hk1, hJ1⟩
  have l1 : J1.1.length < 3000 := by
    rcases hm with ⟨_, _, rfl⟩ | ⟨_, _, rfl⟩
    · show (J.1.drop _).length < 3000; rw [List.length_drop]; omega
    · show (J.1.drop _).length < 3000; rw [List.length_drop]; omega
  refine pw_bd (l_rowOf ht hJ1 hks hk1) ?_
  rintro x28 X29 ⟨ks1, p1, p2, hJ2, k28⟩
  refine pw_bd (l_push ht hJ2 k28 l1) (fun _ X30 h30 => pw_ret ⟨_, ks1, JST.i10 e1 ⟨k, J1, hm, rfl⟩, p1, ?_, ?_⟩)
  · unfold krn
    rw [if_pos (Or.inl e1)]
    exact p2
  · rw [sh1_10 e1]
    exact h30
theorem cw_11 (ht : CPR e ch X0 ps told c kt) (h : CJ e ch ps told c X0 X g S J ks) (e1 : a.1 = 11) (h1 : p1.toInt = a.1) (hlen : S.length = J.1.length) (hl : S.length < 3000) (hn : 2 ≤ S.length) (hks : ks.length < 1549) : pw (g_Judging_judgeWork p1 p2 X) (fun _ Y => CQ e ch ps told c X0 Y g j S a J ks) := by
  unfold g_Judging_judgeWork
  refine pw_pos (by omega) (?_)
  refine pw_ck (fun _ => pw_to (h.1.1.rr ht).2.1 (pw_bd (l_below (i := 0) h (by decide) (by omega)) ?_))
  rintro x3 X4 ⟨e4, k3⟩
  rw [e4]
  have hd0 : J.1.getD 0 [3] = hdK J.1 := by
    unfold hdK
    rw [List.headD_eq_head?_getD, List.head?_eq_getElem?, List.getD_eq_getElem?_getD]
  rw [hd0] at k3
  refine pw_bd (l_rowOf ht h hks k3) ?_
  rintro x5 X6 ⟨ks1, p1, p2, hJ2, k5⟩
  refine pw_bd (l_replace (m := 2) ht hJ2 (by decide) (by omega) k5 (by omega)) (fun _ X7 h7 => pw_ret ⟨_, ks1, JST.i11 e1 rfl, p1, ?_, ?_⟩)
  · unfold krn
    rw [if_pos (Or.inr e1)]
    exact p2
  · rw [sh1_11 e1]
    exact h7
theorem cw_12 (ht : CPR e ch X0 ps told c kt) (h : CJ e ch ps told c X0 X g S J ks) (e1 : a.1 = 12) (h1 : p1.toInt = a.1) (hlen : S.length = J.1.length) (hl : S.length < 3000) (hn : 1 ≤ S.length) : pw (g_Judging_judgeWork p1 p2 X) (fun _ Y => CQ e ch ps told c X0 Y g j S a J ks) := by
  unfold g_Judging_judgeWork
  refine pw_neg (by omega) (pw_pos (by omega) (pw_bd (l_replace (m := 1) ht h (by decide) (by omega) (KC.pl h.1.1.2.2.1).1 (by omega)) (fun _ X7 h7 => pw_ret (CQ.ok (JST.i12 e1 rfl) ?_))))
  rw [sh1_12 e1]
  exact h7
theorem cw_13 (ht : CPR e ch X0 ps told c kt) (h : CJ e ch ps told c X0 X g S J ks) (e1 : a.1 = 13) (h1 : p1.toInt = a.1) (hlen : S.length = J.1.length) (hl : S.length < 3000) (hn : 1 ≤ S.length) : pw (g_Judging_judgeWork p1 p2 X) (fun _ Y => CQ e ch ps told c X0 Y g j S a J ks) := by
  unfold g_Judging_judgeWork
  refine pw_neg (by omega) (pw_neg (by omega) (pw_pos (by omega) (pw_bd (l_replace (m := 1) ht h (by decide) (by omega) (KC.pl h.1.1.2.2.1).1 (by omega)) (fun _ X7 h7 => pw_ret (CQ.ok (JST.i13 e1 rfl) ?_)))))
  rw [sh1_13 e1]
  exact h7
theorem cw_18 (ht : CPR e ch X0 ps told c kt) (h : CJ e ch ps told c X0 X g S J ks) (e1 : a.1 = 18) (h1 : p1.toInt = a.1) (hlen : S.length = J.1.length) (hl : S.length < 3000) (hn : 1 ≤ S.length) : pw (g_Judging_judgeWork p1 p2 X) (fun _ Y => CQ e ch ps told c X0 Y g j S a J ks) := by
  unfold g_Judging_judgeWork
  refine pw_neg (by omega) (pw_neg (by omega) (pw_neg (by omega) (pw_neg (by omega) (pw_neg (by omega) (pw_neg (by omega) (pw_neg (by omega) (pw_pos (by omega) (pw_bd (l_replace (m := 1) ht h (by decide) (by omega) (KC.pl h.1.1.2.2.1).1 (by omega)) (fun _ X7 h7 => pw_ret (CQ.ok (JST.i18 e1 rfl) ?_))))))))))
  rw [sh1_18 e1]
  exact h7
theorem cw_19 (ht : CPR e ch X0 ps told c kt) (h : CJ e ch ps told c X0 X g S J ks) (e1 : a.1 = 19) (h1 : p1.toInt = a.1) (hlen : S.length = J.1.length) (hl : S.length < 3000) (hn : 1 ≤ S.length) : pw (g_Judging_judgeWork p1 p2 X) (fun _ Y => CQ e ch ps told c X0 Y g j S a J ks) := by
  unfold g_Judging_judgeWork
  refine pw_neg (by omega) (pw_neg (by omega) (pw_neg (by omega) (pw_neg (by omega) (pw_neg (by omega) (pw_neg (by omega) (pw_neg (by omega) (pw_neg (by omega) (pw_pos (by omega) (pw_bd (l_replace (m := 1) ht h (by decide) (by omega) (KC.pl h.1.1.2.2.1).2.1 (by omega)) (fun _ X7 h7 => pw_ret (CQ.ok (JST.i19 e1 rfl) ?_)))))))))))
  rw [sh1_19 e1]
  exact h7
theorem cw_20 (ht : CPR e ch X0 ps told c kt) (h : CJ e ch ps told c X0 X g S J ks) (e1 : a.1 = 20) (h1 : p1.toInt = a.1) (hlen : S.length = J.1.length) (hl : S.length < 3000) (hn : 2 ≤ S.length) : pw (g_Judging_judgeWork p1 p2 X) (fun _ Y => CQ e ch ps told c X0 Y g j S a J ks) := by
  unfold g_Judging_judgeWork
  refine pw_neg (by omega) (pw_neg (by omega) (pw_neg (by omega) (pw_neg (by omega) (pw_neg (by omega) (pw_neg (by omega) (pw_neg (by omega) (pw_neg (by omega) (pw_neg (by omega) (pw_pos (by omega) (pw_bd (l_replace (m := 2) ht h (by decide) (by omega) (KC.pl h.1.1.2.2.1).2.1 (by omega)) (fun _ X7 h7 => pw_ret (CQ.ok (JST.i20 (by omega) rfl) ?_))))))))))))
  have w1 : (if a.1 ≤ 21 then ([2] : List Int) else [1]) = [2] := by rw [if_pos (by omega)]
  rw [sh1_20 (by omega), w1]
  exact h7
theorem cw_21 (ht : CPR e ch X0 ps told c kt) (h : CJ e ch ps told c X0 X g S J ks) (e1 : a.1 = 21) (h1 : p1.toInt = a.1) (hlen : S.length = J.1.length) (hl : S.length < 3000) (hn : 2 ≤ S.length) : pw (g_Judging_judgeWork p1 p2 X) (fun _ Y => CQ e ch ps told c X0 Y g j S a J ks) := by
  unfold g_Judging_judgeWork
  refine pw_neg (by omega) (pw_neg (by omega) (pw_neg (by omega) (pw_neg (by omega) (pw_neg (by omega) (pw_neg (by omega) (pw_neg (by omega) (pw_neg (by omega) (pw_neg (by omega) (pw_neg (by omega) (pw_pos (by omega) (pw_bd (l_replace (m := 2) ht h (by decide) (by omega) (KC.pl h.1.1.2.2.1).2.1 (by omega)) (fun _ X7 h7 => pw_ret (CQ.ok (JST.i20 (by omega) rfl) ?_)))))))))))))
  have w1 : (if a.1 ≤ 21 then ([2] : List Int) else [1]) = [2] := by rw [if_pos (by omega)]
  rw [sh1_20 (by omega), w1]
  exact h7
theorem cw_22 (ht : CPR e ch X0 ps told c kt) (h : CJ e ch ps told c X0 X g S J ks) (e1 : 22 ≤ a.1 ∧ a.1 ≤ 26) (h1 : p1.toInt = a.1) (hlen : S.length = J.1.length) (hl : S.length < 3000) (hn : 2 ≤ S.length) : pw (g_Judging_judgeWork p1 p2 X) (fun _ Y => CQ e ch ps told c X0 Y g j S a J ks) := by
  unfold g_Judging_judgeWork
  refine pw_neg (by omega) (pw_neg (by omega) (pw_neg (by omega) (pw_neg (by omega) (pw_neg (by omega) (pw_neg (by omega) (pw_neg (by omega) (pw_neg (by omega) (pw_neg (by omega) (pw_neg (by omega) (pw_neg (by omega) ((pw_bd (l_replace (m := 2) ht h (by decide) (by omega) (KC.pl h.1.1.2.2.1).1 (by omega)) (fun _ X7 h7 => pw_ret (CQ.ok (JST.i20 (by omega) rfl) ?_))))))))))))))
  have w1 : (if a.1 ≤ 21 then ([2] : List Int) else [1]) = [1] := by rw [if_neg (by omega)]
  rw [sh1_20 (by omega), w1]
  exact h7
theorem cw_14 (ht : CPR e ch X0 ps told c kt) (h : CJ e ch ps told c X0 X g S J ks) (e1 : a.1 = 14) (h1 : p1.toInt = a.1) (hlen : S.length = J.1.length) (hl : S.length < 3000) (hn : 2 ≤ S.length) : pw (g_Judging_judgeWork p1 p2 X) (fun _ Y => CQ e ch ps told c X0 Y g j S a J ks) := by
  unfold g_Judging_judgeWork
  refine pw_neg (by omega) (pw_neg (by omega) (pw_neg (by omega) (pw_pos (by omega) (?_))))
  refine pw_ck (fun _ => pw_to (h.1.1.rr ht).2.1 (pw_bd (l_below (i := 1) h (by decide) (by omega)) ?_))
  rintro x3 X4 ⟨e4, k3⟩
  rw [e4]
  refine pw_bd (l_gives ht h.1.1 k3) ?_
  rintro x5 X6 ⟨e6, k5⟩
  rw [e6]
  refine pw_bd (l_replace (m := 2) ht h (by decide) (by omega) k5 (by omega)) (fun _ X7 h7 => pw_ret (CQ.ok (JST.i14 e1 rfl) ?_))
  rw [sh1_14 e1]
  exact h7
theorem cw_15 (ht : CPR e ch X0 ps told c kt) (h : CJ e ch ps told c X0 X g S J ks) (e1 : a.1 = 15) (h1 : p1.toInt = a.1) (hlen : S.length = J.1.length) (hl : S.length < 3000) (hn : 3 ≤ S.length) : pw (g_Judging_judgeWork p1 p2 X) (fun _ Y => CQ e ch ps told c X0 Y g j S a J ks) := by
  unfold g_Judging_judgeWork
  refine pw_neg (by omega) (pw_neg (by omega) (pw_neg (by omega) (pw_neg (by omega) (pw_pos (by omega) (?_)))))
  refine pw_ck (fun _ => pw_to (h.1.1.rr ht).2.1 (pw_bd (l_below (i := 2) h (by decide) (by omega)) ?_))
  rintro x3 X4 ⟨e4, k3⟩
  rw [e4]
  refine pw_bd (l_gives ht h.1.1 k3) ?_
  rintro x5 X6 ⟨e6, k5⟩
  rw [e6]
  refine pw_bd (l_replace (m := 3) ht h (by decide) (by omega) k5 (by omega)) (fun _ X7 h7 => pw_ret (CQ.ok (JST.i15 e1 rfl) ?_))
  rw [sh1_15 e1]
  exact h7
theorem cw_16 (ht : CPR e ch X0 ps told c kt) (h : CJ e ch ps told c X0 X g S J ks) (e1 : a.1 = 16) (h1 : p1.toInt = a.1) (hlen : S.length = J.1.length) (hl : S.length < 3000) (h2 : p2.toInt = a.2.1) (h0 : 0 ≤ a.2.1) (hn : a.2.1.toNat + 1 ≤ S.length) : pw (g_Judging_judgeWork p1 p2 X) (fun _ Y => CQ e ch ps told c X0 Y g j S a J ks) := by
  have l1 : (1 : Int32).toInt = 1 := by decide
  unfold g_Judging_judgeWork
  refine pw_neg (by omega) (pw_neg (by omega) (pw_neg (by omega) (pw_neg (by omega) (pw_neg (by omega) (pw_pos (by omega) (?_))))))
  refine pw_eq (fun x27 e27 => ?_)
  have v27 : x27.toInt = ((a.2.1.toNat + 1 : Nat) : Int) := by rw [e27, ti_add (by rw [h2, l1]; omega) (by rw [h2, l1]; omega), h2, l1]; omega
  refine pw_ck (fun _ => pw_to (h.1.1.rr ht).2.1 (pw_bd (l_below (i := a.2.1.toNat) h (by omega) (by omega)) ?_))
  rintro x3 X4 ⟨e4, k3⟩
  rw [e4]
  refine pw_bd (l_gives ht h.1.1 k3) ?_
  rintro x5 X6 ⟨e6, k5⟩
  rw [e6]
  refine pw_bd (l_replace (m := a.2.1.toNat + 1) ht h v27 (by omega) k5 (by omega)) (fun _ X7 h7 => pw_ret (CQ.ok (JST.i16 e1 rfl) ?_))
  rw [sh1_16 e1]
  exact h7
theorem cw_17 (ht : CPR e ch X0 ps told c kt) (h : CJ e ch ps told c X0 X g S J ks) (e1 : a.1 = 17) (h1 : p1.toInt = a.1) (hlen : S.length = J.1.length) (hn : 1 ≤ S.length) : pw (g_Judging_judgeWork p1 p2 X) (fun _ Y => CQ e ch ps told c X0 Y g j S a J ks) := by
  unfold g_Judging_judgeWork
  refine pw_neg (by omega) (pw_neg (by omega) (pw_neg (by omega) (pw_neg (by omega) (pw_neg (by omega) (pw_neg (by omega) (pw_pos (by omega) (pw_bd (l_pop ht h (by omega)) (fun _ X7 h7 => pw_ret (CQ.ok (JST.i17 e1 rfl) ?_)))))))))
  rw [sh1_17 e1]
  exact h7.2
theorem ca_27 (ht : CPR e ch X0 ps told c kt) (h : CJ e ch ps told c X0 X g S J ks) (e1 : a.1 = 27) (h1 : p1.toInt = (j : Int)) (ha : c[j]? = some a) (hlen : S.length = J.1.length) (hn : 1 ≤ S.length) (hc : J.2.2.2.length < 3000) : pw (g_Judging_judgeAsking p1 X) (fun _ Y => CQ e ch ps told c X0 Y g j S a J ks) := by
  obtain ⟨k0, k13, k14, k15, k16⟩ := kYp ht.1.1
  have rr := h.1.1.rr ht
  obtain ⟨cop, cpl, c4, cx, c34⟩ := ht.2.1 j a ha
  have i1 : ix p1 = j := ixn h1
  have l1 : (1 : Int32).toInt = 1 := by decide
  have l2 : (2 : Int32).toInt = 2 := by decide
  unfold g_Judging_judgeAsking
  refine pw_ck (fun _ => pw_to rr.1 (pw_to k14 (pw_ck (fun _ => pw_eq (fun x3 e3 => pw_ck (fun _ => pw_to rr.1 (pw_to k13 (pw_ck (fun _ => pw_eq (fun x6 e6 => ?_))))))))))
  have v6 : x6.toInt = 27 := by rw [e6, i1, rr.2.2 _ _ (by omega), cop, e1]
  rw [i1, rr.2.2 _ _ (by omega)] at e3
  clear k0 k13 k14 k15 k16
  refine pw_pos (by omega) (pw_eq (fun x8 e8 => pw_bd (l_meet (t := (g : Int)) ht h (by omega) hc h1 cpl (KC.pl h.1.1.2.2.1).1 (by rw [e8]; exact h.2.1.2.1)) ?_))
  rintro _ X9 ⟨r, hm, hr⟩
  refine pw_ret (CQ.ok (JST.i27 e1 hm) ?_)
  rw [sh1_27 e1]
  exact hr
theorem ca_28 (ht : CPR e ch X0 ps told c kt) (h : CJ e ch ps told c X0 X g S J ks) (e1 : a.1 = 28) (h1 : p1.toInt = (j : Int)) (ha : c[j]? = some a) (hlen : S.length = J.1.length) (hn : 1 ≤ S.length) (hc : J.2.2.2.length < 3000) : pw (g_Judging_judgeAsking p1 X) (fun _ Y => CQ e ch ps told c X0 Y g j S a J ks) := by
  obtain ⟨k0, k13, k14, k15, k16⟩ := kYp ht.1.1
  have rr := h.1.1.rr ht
  obtain ⟨cop, cpl, c4, cx, c34⟩ := ht.2.1 j a ha
  have i1 : ix p1 = j := ixn h1
  have l1 : (1 : Int32).toInt = 1 := by decide
  have l2 : (2 : Int32).toInt = 2 := by decide
  unfold g_Judging_judgeAsking
  refine pw_ck (fun _ => pw_to rr.1 (pw_to k14 (pw_ck (fun _ => pw_eq (fun x3 e3 => pw_ck (fun _ => pw_to rr.1 (pw_to k13 (pw_ck (fun _ => pw_eq (fun x6 e6 => ?_))))))))))
  have v6 : x6.toInt = 28 := by rw [e6, i1, rr.2.2 _ _ (by omega), cop, e1]
  rw [i1, rr.2.2 _ _ (by omega)] at e3
  clear k0 k13 k14 k15 k16
  refine pw_neg (by omega) (pw_pos (by omega) (pw_eq (fun x8 e8 => pw_bd (l_meet (t := (g : Int)) ht h (by omega) hc h1 cpl (KC.pl h.1.1.2.2.1).2.1 (by rw [e8]; exact h.2.1.2.1)) ?_)))
  rintro _ X9 ⟨r, hm, hr⟩
  refine pw_ret (CQ.ok (JST.i28 e1 hm) ?_)
  rw [sh1_28 e1]
  exact hr
theorem ca_29 (ht : CPR e ch X0 ps told c kt) (h : CJ e ch ps told c X0 X g S J ks) (e1 : a.1 = 29) (h1 : p1.toInt = (j : Int)) (ha : c[j]? = some a) (hlen : S.length = J.1.length) (hn : 1 ≤ S.length) (hc : J.2.2.2.length < 3000) : pw (g_Judging_judgeAsking p1 X) (fun _ Y => CQ e ch ps told c X0 Y g j S a J ks) := by
  obtain ⟨k0, k13, k14, k15, k16⟩ := kYp ht.1.1
  have rr := h.1.1.rr ht
  obtain ⟨cop, cpl, c4, cx, c34⟩ := ht.2.1 j a ha
  have i1 : ix p1 = j := ixn h1
  have l1 : (1 : Int32).toInt = 1 := by decide
  have l2 : (2 : Int32).toInt = 2 := by decide
  unfold g_Judging_judgeAsking
  refine pw_ck (fun _ => pw_to rr.1 (pw_to k14 (pw_ck (fun _ => pw_eq (fun x3 e3 => pw_ck (fun _ => pw_to rr.1 (pw_to k13 (pw_ck (fun _ => pw_eq (fun x6 e6 => ?_))))))))))
  have v6 : x6.toInt = 29 := by rw [e6, i1, rr.2.2 _ _ (by omega), cop, e1]
  rw [i1, rr.2.2 _ _ (by omega)] at e3
  clear k0 k13 k14 k15 k16
  refine pw_neg (by omega) (pw_neg (by omega) (pw_pos (by omega) (pw_bd (l_form (s := 3) (w := [4, 3]) ht h (by omega) hc h1 cpl (by decide) (KC.pl h.1.1.2.2.1).2.2.2) ?_)))
  rintro _ X9 ⟨⟨r, hm, hr⟩, _, _⟩
  refine pw_ret (CQ.ok (JST.i29 e1 hm) ?_)
  rw [sh1_29 e1]
  cases r with
  | inl J1 => exact CJ.sfm hr
  | inr f => exact hr
theorem ca_30 (ht : CPR e ch X0 ps told c kt) (h : CJ e ch ps told c X0 X g S J ks) (e1 : a.1 = 30) (h1 : p1.toInt = (j : Int)) (ha : c[j]? = some a) (hlen : S.length = J.1.length) (hn : 1 ≤ S.length) (hc : J.2.2.2.length < 3000) (hx : 0 ≤ a.2.1 ∧ a.2.1 ≤ 4) (h31 : a.1 = 31 → 1 ≤ j ∧ ∃ a1, c[j - 1]? = some a1 ∧ a1.1 = 4) : pw (g_Judging_judgeAsking p1 X) (fun _ Y => CQ e ch ps told c X0 Y g j S a J ks) := by
  obtain ⟨k0, k13, k14, k15, k16⟩ := kYp ht.1.1
  have rr := h.1.1.rr ht
  obtain ⟨cop, cpl, c4, cx, c34⟩ := ht.2.1 j a ha
  have i1 : ix p1 = j := ixn h1
  have l1 : (1 : Int32).toInt = 1 := by decide
  have l2 : (2 : Int32).toInt = 2 := by decide
  unfold g_Judging_judgeAsking
  refine pw_ck (fun _ => pw_to rr.1 (pw_to k14 (pw_ck (fun _ => pw_eq (fun x3 e3 => pw_ck (fun _ => pw_to rr.1 (pw_to k13 (pw_ck (fun _ => pw_eq (fun x6 e6 => ?_))))))))))
  have v6 : x6.toInt = 30 := by rw [e6, i1, rr.2.2 _ _ (by omega), cop, e1]
  rw [i1, rr.2.2 _ _ (by omega)] at e3
  clear k0 k13 k14 k15 k16
  refine pw_neg (by omega) (pw_neg (by omega) (pw_neg (by omega) (pw_pos (by omega) (?_))))
  have v3 : x3.toInt = ((a.2.1.toNat : Nat) : Int) := by rw [e3, cx (by omega) (by omega), ofI_to (by omega)]; omega
  refine pw_bd (l_called (n := a.2.1.toNat) ht h hlen (by omega) hc h1 cpl v3 (by omega) ha h31) ?_
  rintro _ X9 ⟨r, hm, hr⟩
  refine pw_ret (CQ.ok (JST.i30 e1 hm) ?_)
  have tk : tko j a = none := by unfold tko; rw [if_neg (by omega)]
  rw [tk] at hr
  rw [sh1_30 e1]
  exact hr
theorem ca_31 (ht : CPR e ch X0 ps told c kt) (h : CJ e ch ps told c X0 X g S J ks) (e1 : a.1 = 31) (h1 : p1.toInt = (j : Int)) (ha : c[j]? = some a) (hlen : S.length = J.1.length) (hn : 1 ≤ S.length) (hc : J.2.2.2.length < 3000) (hx : 0 ≤ a.2.1 ∧ a.2.1 ≤ 4) (h31 : a.1 = 31 → 1 ≤ j ∧ ∃ a1, c[j - 1]? = some a1 ∧ a1.1 = 4) : pw (g_Judging_judgeAsking p1 X) (fun _ Y => CQ e ch ps told c X0 Y g j S a J ks) := by
  obtain ⟨k0, k13, k14, k15, k16⟩ := kYp ht.1.1
  have rr := h.1.1.rr ht
  obtain ⟨cop, cpl, c4, cx, c34⟩ := ht.2.1 j a ha
  have i1 : ix p1 = j := ixn h1
  have l1 : (1 : Int32).toInt = 1 := by decide
  have l2 : (2 : Int32).toInt = 2 := by decide
  unfold g_Judging_judgeAsking
  refine pw_ck (fun _ => pw_to rr.1 (pw_to k14 (pw_ck (fun _ => pw_eq (fun x3 e3 => pw_ck (fun _ => pw_to rr.1 (pw_to k13 (pw_ck (fun _ => pw_eq (fun x6 e6 => ?_))))))))))
  have v6 : x6.toInt = 31 := by rw [e6, i1, rr.2.2 _ _ (by omega), cop, e1]
  rw [i1, rr.2.2 _ _ (by omega)] at e3
  clear k0 k13 k14 k15 k16
  refine pw_neg (by omega) (pw_neg (by omega) (pw_neg (by omega) (pw_neg (by omega) (pw_pos (by omega) (?_)))))
  have v3 : x3.toInt = ((a.2.1.toNat : Nat) : Int) := by rw [e3, cx (by omega) (by omega), ofI_to (by omega)]; omega
  refine pw_bd (l_called (n := a.2.1.toNat) ht h hlen (by omega) hc h1 cpl v3 (by omega) ha h31) ?_
  rintro _ X9 ⟨r, hm, hr⟩
  refine pw_ret (CQ.ok (JST.i31 e1 hm) ?_)
  have tk : tko j a = some (j - 1) := by unfold tko; rw [if_pos e1]
  rw [tk] at hr
  rw [sh1_31 e1]
  exact hr
theorem ca_32 (ht : CPR e ch X0 ps told c kt) (h : CJ e ch ps told c X0 X g S J ks) (e1 : a.1 = 32) (h1 : p1.toInt = (j : Int)) (ha : c[j]? = some a) (hlen : S.length = J.1.length) (hn : 1 ≤ S.length) (hc : J.2.2.2.length < 3000) (hO : JOK D S J) (h0 : 0 ≤ a.2.1) (hxx : a.2.1 ≤ 2147483647) (hn2 : a.2.1.toNat + 2 ≤ S.length) (hX : ∃ (q t : Option Nat) (h : Nat), S[a.2.1.toNat + 1]? = some (q, t, 2 + h) ∧ a.2.1.toNat < h) (hl : S.length ≤ 3000) : pw (g_Judging_judgeAsking p1 X) (fun _ Y => CQ e ch ps told c X0 Y g j S a J ks) := by
  obtain ⟨k0, k13, k14, k15, k16⟩ := kYp ht.1.1
  have rr := h.1.1.rr ht
  obtain ⟨cop, cpl, c4, cx, c34⟩ := ht.2.1 j a ha
  have i1 : ix p1 = j := ixn h1
  have l1 : (1 : Int32).toInt = 1 := by decide
  have l2 : (2 : Int32).toInt = 2 := by decide
  obtain ⟨q, t, f, gS, glt⟩ := hX
  unfold g_Judging_judgeAsking
  refine pw_ck (fun _ => pw_to rr.1 (pw_to k14 (pw_ck (fun _ => pw_eq (fun x3 e3 => pw_ck (fun _ => pw_to rr.1 (pw_to k13 (pw_ck (fun _ => pw_eq (fun x6 e6 => ?_))))))))))
  have v6 : x6.toInt = 32 := by rw [e6, i1, rr.2.2 _ _ (by omega), cop, e1]
  rw [i1, rr.2.2 _ _ (by omega)] at e3
  clear k0 k13 k14 k15 k16
  refine pw_neg (by omega) (pw_neg (by omega) (pw_neg (by omega) (pw_neg (by omega) (pw_neg (by omega) (pw_pos (by omega) (?_))))))
  have v3 : x3.toInt = a.2.1 := by rw [e3, cx (by omega) (by omega), ofI_to (by omega)]
  have at1 := hO.at (i := a.2.1.toNat + 1) (by omega)
  have tk := (at1.2.2 (2 + f) ⟨_, gS, rfl⟩).2 f rfl
  refine pw_ck (fun _ => pw_to rr.2.1 (pw_eq (fun x21 e21 => ?_)))
  have v21 : x21.toInt = ((a.2.1.toNat + 1 : Nat) : Int) := by rw [e21, ti_add (by rw [v3, l1]; omega) (by rw [v3, l1]; omega), v3, l1]; omega
  refine pw_bd (l_below (i := a.2.1.toNat + 1) h v21 (by omega)) ?_
  rintro x22 X23 ⟨e23, k22⟩
  rw [e23]
  refine pw_bd (l_prm (i := a.2.1.toNat) ht h.1.1 k22 (by omega) (by omega)) ?_
  rintro x24 X25 ⟨e25, k24⟩
  rw [e25]
  refine pw_eq (fun x26 e26 => ?_)
  have v26 : x26.toInt = ((a.2.1.toNat + 1 : Nat) : Int) := by rw [e26, ti_add (by rw [v3, l1]; omega) (by rw [v3, l1]; omega), v3, l1]; omega
  refine pw_bd (l_taker (i := a.2.1.toNat + 1) h v26 (by omega) gS (by show 2 ≤ 2 + f; omega)) ?_
  rintro x27 X28 ⟨e28, v27⟩
  rw [e28]
  refine pw_bd (l_meet (t := tkr ch ps c g t) ht h (by omega) hc h1 cpl k24 v27) ?_
  rintro _ X29 ⟨r, hm, hr⟩
  refine pw_ret (CQ.ok (JST.i32 e1 ⟨_, gS, hm⟩) ?_)
  rw [sh1_32 e1]
  exact hr
theorem ca_33 (ht : CPR e ch X0 ps told c kt) (h : CJ e ch ps told c X0 X g S J ks) (e1 : a.1 = 33) (h1 : p1.toInt = (j : Int)) (ha : c[j]? = some a) (hlen : S.length = J.1.length) (hn : 1 ≤ S.length) (hc : J.2.2.2.length < 3000) (hn2 : 3 ≤ S.length) : pw (g_Judging_judgeAsking p1 X) (fun _ Y => CQ e ch ps told c X0 Y g j S a J ks) := by
  obtain ⟨k0, k13, k14, k15, k16⟩ := kYp ht.1.1
  have rr := h.1.1.rr ht
  obtain ⟨cop, cpl, c4, cx, c34⟩ := ht.2.1 j a ha
  have i1 : ix p1 = j := ixn h1
  have l1 : (1 : Int32).toInt = 1 := by decide
  have l2 : (2 : Int32).toInt = 2 := by decide
  unfold g_Judging_judgeAsking
  refine pw_ck (fun _ => pw_to rr.1 (pw_to k14 (pw_ck (fun _ => pw_eq (fun x3 e3 => pw_ck (fun _ => pw_to rr.1 (pw_to k13 (pw_ck (fun _ => pw_eq (fun x6 e6 => ?_))))))))))
  have v6 : x6.toInt = 33 := by rw [e6, i1, rr.2.2 _ _ (by omega), cop, e1]
  rw [i1, rr.2.2 _ _ (by omega)] at e3
  clear k0 k13 k14 k15 k16
  refine pw_neg (by omega) (pw_neg (by omega) (pw_neg (by omega) (pw_neg (by omega) (pw_neg (by omega) (pw_neg (by omega) (pw_pos (by omega) (?_)))))))
  refine pw_ck (fun _ => pw_to rr.2.1 (pw_bd (l_below (i := 2) h (by decide) (by omega)) ?_))
  rintro x22 X23 ⟨e23, k22⟩
  rw [e23]
  refine pw_bd (l_gives ht h.1.1 k22) ?_
  rintro x24 X25 ⟨e25, k24⟩
  rw [e25]
  refine pw_eq (fun x36 e36 => pw_bd (l_meet (t := (g : Int)) ht h (by omega) hc h1 cpl k24 (by rw [e36]; exact h.2.1.2.1)) ?_)
  rintro _ X29 ⟨r, hm, hr⟩
  refine pw_ret (CQ.ok (JST.i33 e1 hm) ?_)
  rw [sh1_33 e1]
  exact hr
theorem ca_34 (ht : CPR e ch X0 ps told c kt) (h : CJ e ch ps told c X0 X g S J ks) (e1 : a.1 = 34) (h1 : p1.toInt = (j : Int)) (ha : c[j]? = some a) (hlen : S.length = J.1.length) (hn : 1 ≤ S.length) (hc : J.2.2.2.length < 3000) (hx : a.2.1 = 0) (hk : kt <+: ks) (hg : g < ps.length) : pw (g_Judging_judgeAsking p1 X) (fun _ Y => CQ e ch ps told c X0 Y g j S a J ks) := by
  obtain ⟨k0, k13, k14, k15, k16⟩ := kYp ht.1.1
  have rr := h.1.1.rr ht
  obtain ⟨cop, cpl, c4, cx, c34⟩ := ht.2.1 j a ha
  have i1 : ix p1 = j := ixn h1
  have l1 : (1 : Int32).toInt = 1 := by decide
  have l2 : (2 : Int32).toInt = 2 := by decide
  unfold g_Judging_judgeAsking
  refine pw_ck (fun _ => pw_to rr.1 (pw_to k14 (pw_ck (fun _ => pw_eq (fun x3 e3 => pw_ck (fun _ => pw_to rr.1 (pw_to k13 (pw_ck (fun _ => pw_eq (fun x6 e6 => ?_))))))))))
  have v6 : x6.toInt = 34 := by rw [e6, i1, rr.2.2 _ _ (by omega), cop, e1]
  rw [i1, rr.2.2 _ _ (by omega)] at e3
  clear k0 k13 k14 k15 k16
  refine pw_neg (by omega) (pw_neg (by omega) (pw_neg (by omega) (pw_neg (by omega) (pw_neg (by omega) (pw_neg (by omega) (pw_neg (by omega) (pw_pos (by omega) (?_))))))))
  obtain ⟨z, z1, z2⟩ := c34 e1
  have zl := (List.getElem?_eq_some_iff.mp z2).1
  have kl := ht.2.2.2
  have k3 : KC ks x3 a.2.2.2 := ⟨z, by rw [e3, z1, ofI_to (by omega)]; omega, pf_at hk z2⟩
  have he := ht.1.1
  have f211 : ∀ (Z : St) (b0 b1 : Int32), Z = X → pw (g_Judging_judgeAsking_211 p1 x3 b0 b1 Z) (fun _ Y => CQ e ch ps told c X0 Y g j S a J ks) := by
    intro Z b0 b1 hZ
    rw [hZ]
    unfold g_Judging_judgeAsking_211
    refine pw_ck (fun _ => pw_eq (fun X42 e42 => ?_))
    have h42 : CJ e ch ps told c X0 X42 g S J ks := by rw [e42]; exact h.id he (Or.inl rfl)
    refine pw_eq (fun x43 e43 => pw_bd (l_asTold ht h42.1.1 (k := g) (by rw [e43]; exact h42.2.1.2.1) hg k3) ?_)
    rintro x44 X45 ⟨e45, k44⟩
    rw [e45]
    refine pw_eq (fun x46 e46 => pw_bd (l_meet (t := (g : Int)) ht (h42.an (w := askd told g a.2.2.2)) (show 1 ≤ J.1.length by omega) hc h1 cpl k44 (by rw [e46]; exact h42.2.1.2.1)) ?_)
    rintro _ X47 ⟨r, hm, hr⟩
    refine pw_ret (CQ.ok (JST.i34 e1 hm) ?_)
    rw [sh1_34 e1]
    exact hr
  have f206 : ∀ (Z : St) (b0 : Int32), Z = X → pw (g_Judging_judgeAsking_206 p1 x3 b0 Z) (fun _ Y => CQ e ch ps told c X0 Y g j S a J ks) := fun Z b0 hZ => by
    unfold g_Judging_judgeAsking_206
    exact f211 Z _ _ hZ
  refine pw_eq (fun x39 e39 => pw_eq (fun x40 e40 => pw_ck (fun _ => pw_eq (fun x41 e41 => pw_ite (fun _ => ?_) (fun _ => f206 X _ rfl)))))
  refine pw_ck (fun _ => pw_to rr.2.1 (pw_eq (fun x49 e49 => pw_bd (l_asTold ht h.1.1 (k := g) (by rw [e49]; exact h.2.1.2.1) hg k3) ?_)))
  rintro x50 X51 ⟨e51, k50⟩
  rw [e51]
  refine pw_bd (l_any ht h.1.1 k50) ?_
  rintro x52 X53 ⟨e53, _⟩
  exact pw_ite (fun _ => f211 X53 _ _ e53) (fun _ => f206 X53 _ e53)
theorem ca_35 (ht : CPR e ch X0 ps told c kt) (h : CJ e ch ps told c X0 X g S J ks) (e1 : a.1 = 35) (h1 : p1.toInt = (j : Int)) (ha : c[j]? = some a) (hlen : S.length = J.1.length) (hn : 1 ≤ S.length) (hc : J.2.2.2.length < 3000) (hg : g < ps.length) : pw (g_Judging_judgeAsking p1 X) (fun _ Y => CQ e ch ps told c X0 Y g j S a J ks) := by
  obtain ⟨k0, k13, k14, k15, k16⟩ := kYp ht.1.1
  have rr := h.1.1.rr ht
  obtain ⟨cop, cpl, c4, cx, c34⟩ := ht.2.1 j a ha
  have i1 : ix p1 = j := ixn h1
  have l1 : (1 : Int32).toInt = 1 := by decide
  have l2 : (2 : Int32).toInt = 2 := by decide
  unfold g_Judging_judgeAsking
  refine pw_ck (fun _ => pw_to rr.1 (pw_to k14 (pw_ck (fun _ => pw_eq (fun x3 e3 => pw_ck (fun _ => pw_to rr.1 (pw_to k13 (pw_ck (fun _ => pw_eq (fun x6 e6 => ?_))))))))))
  have v6 : x6.toInt = 35 := by rw [e6, i1, rr.2.2 _ _ (by omega), cop, e1]
  rw [i1, rr.2.2 _ _ (by omega)] at e3
  clear k0 k13 k14 k15 k16
  refine pw_neg (by omega) (pw_neg (by omega) (pw_neg (by omega) (pw_neg (by omega) (pw_neg (by omega) (pw_neg (by omega) (pw_neg (by omega) (pw_neg (by omega) (pw_pos (by omega) (?_)))))))))
  refine pw_eq (fun x55 e55 => pw_ck (fun _ => pw_eq (fun x56 e56 => pw_eq (fun x57 e57 => ?_))))
  have i55 : ix x55 = g := ixn (by rw [e55]; exact h.2.1.2.1)
  have k56 : KC ks x56 (oks ps told g) := by rw [e56, i55]; exact (h.1.2 g hg).1
  refine pw_bd (l_meet (t := (g : Int)) ht h (by omega) hc h1 cpl k56 (by rw [e57]; exact h.2.1.2.1)) ?_
  rintro _ X29 ⟨r, hm, hr⟩
  refine pw_ret (CQ.ok (JST.i35 e1 hm) ?_)
  rw [sh1_35 e1]
  exact hr
theorem ca_36 (ht : CPR e ch X0 ps told c kt) (h : CJ e ch ps told c X0 X g S J ks) (e1 : a.1 = 36) (h1 : p1.toInt = (j : Int)) (ha : c[j]? = some a) (hlen : S.length = J.1.length) (hn : 1 ≤ S.length) (hc : J.2.2.2.length < 3000) (hl : S.length ≤ 3000) : pw (g_Judging_judgeAsking p1 X) (fun _ Y => CQ e ch ps told c X0 Y g j S a J ks) := by
  obtain ⟨k0, k13, k14, k15, k16⟩ := kYp ht.1.1
  have rr := h.1.1.rr ht
  obtain ⟨cop, cpl, c4, cx, c34⟩ := ht.2.1 j a ha
  have i1 : ix p1 = j := ixn h1
  have l1 : (1 : Int32).toInt = 1 := by decide
  have l2 : (2 : Int32).toInt = 2 := by decide
  unfold g_Judging_judgeAsking
  refine pw_ck (fun _ => pw_to rr.1 (pw_to k14 (pw_ck (fun _ => pw_eq (fun x3 e3 => pw_ck (fun _ => pw_to rr.1 (pw_to k13 (pw_ck (fun _ => pw_eq (fun x6 e6 => ?_))))))))))
  have v6 : x6.toInt = 36 := by rw [e6, i1, rr.2.2 _ _ (by omega), cop, e1]
  rw [i1, rr.2.2 _ _ (by omega)] at e3
  clear k0 k13 k14 k15 k16
  refine pw_neg (by omega) (pw_neg (by omega) (pw_neg (by omega) (pw_neg (by omega) (pw_neg (by omega) (pw_neg (by omega) (pw_neg (by omega) (pw_neg (by omega) (pw_neg (by omega) ((?_))))))))))
  have a3 := h.2.1.2.2.1
  refine pw_eq (fun x59 e59 => pw_eq (fun x60 e60 => pw_eq (fun x61 e61 => pw_ck (fun _ => pw_eq (fun X62 e62 => pw_ret (CQ.ok (JST.i36 e1 rfl) ?_))))))
  have v60 : x60.toInt = (J.1.length : Int) - 1 := by rw [e60, e59, ti_sub (by rw [a3, l1]; omega) (by rw [a3, l1]; omega), a3, l1]
  have i61 : ix x61 = J.1.length - 1 := ixn (by rw [e61, ti_max _ (by omega), v60]; omega)
  rw [sh1_36 e1, e62, i61]
  exact CJ.sas ht.1.1 h hlen (List.getElem?_eq_some_iff.mp ha).1 h1
end CONES
