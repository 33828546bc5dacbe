/-! the class's judge: what is called, takers, what two or more kinds come to -/
section CJQS
variable {e g j n m s : Nat} {ch : Tx} {ps : List Pt} {told : Nat → Bool} {c : List Ins} {X0 X Y Z : St} {S S1 : List SE} {J J1 : JS} {ks ks1 kt : List (List Int)} {d d1 w : List Int} {v v1 : Int32} {G : JG} {p : Int} {a : Ins} {us : List (Nat × Nat)}
theorem CJ.sfm (h : CJ e ch ps told c X0 X g S J ks) : CJ e ch ps told c X0 X g (_root_.Jvm.Pilot.CBlameCourtLaw_law_r8381_f30dd1.sfm 1 S) J ks := by
  obtain ⟨h1, h2, h4, h5, h6, h7⟩ := h
  refine ⟨h1, h2, h4, fun i w hw => ?_, h6, h7⟩
  cases S with
  | nil => exact absurd hw.symm (Option.some_ne_none _)
  | cons w0 S =>
    cases i with
    | zero =>
      have hw : (w0.1, w0.2.1, 1) = w := Option.some.inj hw
      have := h5 0 w0 rfl
      rw [← hw]
      exact ⟨this.1, fun z => absurd z (by show ¬ 2 ≤ 1; omega)⟩
    | succ i => exact h5 (i + 1) w hw
theorem CJ.stk (he : e = 2 ∨ e = 24) (h : CJ e ch ps told c X0 X g S J ks) {t : Option Nat} (hS : S.length = J.1.length) (hv : v.toInt = tkr ch ps c g t) : CJ e ch ps told c X0 (wI X 69 (J.1.length - 1) v) g (_root_.Jvm.Pilot.CBlameCourtLaw_law_r8381_f30dd1.stk t m S) J ks := by
  obtain ⟨⟨h1, h3⟩, ⟨a1, a2, a3, a4⟩, h4, h5, h6, h7⟩ := h
  have r : ∀ i k, ¬ (i = 69 ∧ k = J.1.length - 1) → (wI X 69 (J.1.length - 1) v).1 i k = X.1 i k := fun i k z => wI_ne _ _ _ _ _ _ (by omega)
  refine ⟨⟨h1.wr he (by omega), h3.cg (fun i k q => r i k (by omega))⟩, ⟨by rw [r 61 _ (by omega)]; exact a1, by rw [r 61 _ (by omega)]; exact a2, by rw [r 61 _ (by omega)]; exact a3, by rw [r 55 _ (by omega)]; exact a4⟩, fun i d hd => by rw [r 67 _ (by omega)]; exact h4 i d hd, fun i w hw => ?_, fun x d hd => by rw [r 66 _ (by omega)]; exact h6 x d hd, fun i G hG => (h7 i G hG).cg (fun z q => r z i (by omega))⟩
  cases S with
  | nil => exact absurd hw.symm (Option.some_ne_none _)
  | cons w0 S =>
    cases i with
    | zero =>
      have hw : (w0.1, t, m) = w := Option.some.inj hw
      have := h5 0 w0 rfl
      rw [← hw, Nat.sub_zero, wI_at, r 68 _ (by omega)]
      exact ⟨this.1, fun _ => hv⟩
    | succ i =>
      have hi := (List.getElem?_eq_some_iff.mp hw).1
      have hi : i + 1 < S.length + 1 := hi
      have hS : S.length + 1 = J.1.length := hS
      have hw : S[i]? = some w := hw
      rw [r 68 _ (by omega), r 69 _ (by omega)]
      exact h5 (i + 1) w hw
theorem CJ.sas (he : e = 2 ∨ e = 24) (h : CJ e ch ps told c X0 X g S J ks) {q : Nat} (hS : S.length = J.1.length) (hq : q < c.length) (hv : v.toInt = (q : Int)) : CJ e ch ps told c X0 (wI X 68 (J.1.length - 1) v) g (_root_.Jvm.Pilot.CBlameCourtLaw_law_r8381_f30dd1.sas (some q) S) J ks := by
  obtain ⟨⟨h1, h3⟩, ⟨a1, a2, a3, a4⟩, h4, h5, h6, h7⟩ := h
  have r : ∀ i k, ¬ (i = 68 ∧ k = J.1.length - 1) → (wI X 68 (J.1.length - 1) v).1 i k = X.1 i k := fun i k z => wI_ne _ _ _ _ _ _ (by omega)
  refine ⟨⟨h1.wr he (by omega), h3.cg (fun i k q => r i k (by omega))⟩, ⟨by rw [r 61 _ (by omega)]; exact a1, by rw [r 61 _ (by omega)]; exact a2, by rw [r 61 _ (by omega)]; exact a3, by rw [r 55 _ (by omega)]; exact a4⟩, fun i d hd => by rw [r 67 _ (by omega)]; exact h4 i d hd, fun i w hw => ?_, fun x d hd => by rw [r 66 _ (by omega)]; exact h6 x d hd, fun i G hG => (h7 i G hG).cg (fun z q => r z i (by omega))⟩
  cases S with
  | nil => exact absurd hw.symm (Option.some_ne_none _)
  | cons w0 S =>
    cases i with
    | zero =>
      have hw : (some q, w0.2) = w := Option.some.inj hw
      have := h5 0 w0 rfl
      rw [← hw, Nat.sub_zero, wI_at, r 69 _ (by omega)]
      refine ⟨fun q1 z => ?_, this.2⟩
      rw [← Option.some.inj z]
      exact ⟨hq, hv⟩
    | succ i =>
      have hi := (List.getElem?_eq_some_iff.mp hw).1
      have hi : i + 1 < S.length + 1 := hi
      have hS : S.length + 1 = J.1.length := hS
      have hw : S[i]? = some w := hw
      rw [r 68 _ (by omega), r 69 _ (by omega)]
      exact h5 (i + 1) w hw
theorem l_asTold (ht : CPR e ch X0 ps told c kt) (hT : CJT e X0 X ks) {p1 p2 : Int32} {k : Nat} (h1 : p1.toInt = (k : Int)) (hk : k < ps.length) (h2 : KC ks p2 d) : pw (g_Judging_asTold p1 p2 X) (fun r Y => Y = X ∧ KC ks r (askd told k d)) := by
  have rr := hT.rr ht
  have tl := ht.2.2.1 k hk
  unfold g_Judging_asTold askd
  refine pw_ck (fun _ => pw_to rr.1 (pw_to (kYq ht.1.1).1 (pw_ck (fun _ => pw_eq (fun x3 e3 => ?_)))))
  rw [ixn h1, rr.2.2 _ _ (by omega)] at e3
  refine pw_ite (fun c3 => ?_) (fun c3 => ?_)
  · rw [e3] at c3
    rw [if_neg (tl.mp c3)]
    exact pw_ret ⟨rfl, (KC.pl hT.2.2.1).2.2.1⟩
  · rw [e3] at c3
    rw [if_pos (Classical.byContradiction (fun y => c3 (tl.mpr y)))]
    exact pw_ret ⟨rfl, h2⟩
theorem l_taker (h : CJ e ch ps told c X0 X g S J ks) {p1 : Int32} {i : Nat} {w0 : SE} (h1 : p1.toInt = (i : Int)) (hi : i < J.1.length) (hS : S[i]? = some w0) (hw : 2 ≤ w0.2.2) : pw (g_Judging_takerBelow p1 X) (fun r Y => Y = X ∧ r.toInt = tkr ch ps c g w0.2.1) := by
  have l1 : (1 : Int32).toInt = 1 := by decide
  have a3 := h.2.1.2.2.1
  have b := (X.1 61 14).toInt_lt
  unfold g_Judging_takerBelow
  refine pw_eq (fun x1 e1 => pw_eq (fun x2 e2 => pw_eq (fun x3 e3 => ?_)))
  have v2 : x2.toInt = (J.1.length : Int) - 1 := by rw [e2, e1, ti_sub (by rw [a3, l1]; omega) (by rw [a3, l1]; omega), a3, l1]
  have v3 : x3.toInt = (J.1.length : Int) - 1 - i := by rw [e3, ti_sub (by rw [v2, h1]; omega) (by rw [v2, h1]; omega), v2, h1]
  refine pw_neg (by omega) (pw_ck (fun _ => pw_eq (fun x5 e5 => pw_ret ⟨rfl, ?_⟩)))
  have i3 : ix x3 = J.1.length - 1 - i := ixn (by omega)
  rw [e5, i3]
  exact (h.2.2.2.1 i w0 hS).2 hw
/-- whose taker is called -/
def tko (j : Nat) (a : Ins) : Option Nat := if a.1 = 31 then some (j - 1) else none
theorem l_tk39 (ht : CPR e ch X0 ps told c kt) (hT : CJT e X0 X ks) {p1 : Int32} (h1 : p1.toInt = (j : Int)) (ha : c[j]? = some a) (h31 : a.1 = 31 → 1 ≤ j ∧ ∃ a1, c[j - 1]? = some a1 ∧ a1.1 = 4) (h3 : (X.1 61 3).toInt = (g : Int)) {l : Nat} (h14 : (X.1 61 14).toInt = (l : Int)) (hl : 1 ≤ l) : pw (g_Judging_meetCalled_39 p1 X) (fun _ Y => ∃ v : Int32, Y = wI X 69 (l - 1) v ∧ v.toInt = tkr ch ps c g (tko j a)) := by
  have l1 : (1 : Int32).toInt = 1 := by decide
  have rr := hT.rr ht
  obtain ⟨k0, k13, k14, k15, k16⟩ := kYp ht.1.1
  have b := (X.1 61 14).toInt_lt
  have bp := p1.toInt_lt
  have cd := (ht.2.1 j a ha).1
  have f99 : ∀ b0 b1 : Int32, b1.toInt = (l : Int) - 1 → b0.toInt = tkr ch ps c g (tko j a) → pw (g_Judging_meetCalled_99 b0 b1 X) (fun _ Y => ∃ v : Int32, Y = wI X 69 (l - 1) v ∧ v.toInt = tkr ch ps c g (tko j a)) := fun b0 b1 q1 q2 => by
    unfold g_Judging_meetCalled_99
    refine pw_ck (fun _ => pw_eq (fun X11 e11 => pw_ret ⟨b0, ?_, q2⟩))
    rw [e11, show ix b1 = l - 1 from ixn (by omega)]
  have f62 : ∀ b0 : Int32, (b0.toInt = 0 → ¬ a.1 = 31) → (¬ b0.toInt = 0 → a.1 = 31) → pw (g_Judging_meetCalled_62 p1 b0 X) (fun _ Y => ∃ v : Int32, Y = wI X 69 (l - 1) v ∧ v.toInt = tkr ch ps c g (tko j a)) := fun b0 q1 q2 => by
    unfold g_Judging_meetCalled_62
    refine pw_eq (fun x7 e7 => pw_eq (fun x8 e8 => pw_eq (fun x9 e9 => ?_)))
    have v8 : x8.toInt = (l : Int) - 1 := by rw [e8, e7, ti_sub (by rw [h14, l1]; omega) (by rw [h14, l1]; omega), h14, l1]
    have v9 : x9.toInt = (l : Int) - 1 := by rw [e9, ti_max _ (by omega), v8]
    refine pw_ite (fun c0 => ?_) (fun c0 => ?_)
    · refine pw_eq (fun x10 e10 => f99 _ _ v9 ?_)
      rw [e10, h3]
      unfold tko
      rw [if_neg (q1 c0)]
      rfl
    · have z := q2 c0
      obtain ⟨j1, a1, ha1, h4⟩ := h31 z
      refine pw_ck (fun _ => pw_to rr.1 (pw_to k14 (pw_eq (fun x14 e14 => pw_ck (fun _ => pw_eq (fun x15 e15 => f99 _ _ v9 ?_))))))
      have i14 : ix x14 = j - 1 := ixn (by rw [e14, ti_sub (by rw [h1, l1]; omega) (by rw [h1, l1]; omega), h1, l1]; omega)
      rw [e15, i14, rr.2.2 _ _ (by omega), ((ht.2.1 (j - 1) a1 ha1).2.2.1 h4)]
      unfold tko
      rw [if_pos z]
      show _ = nrp ch ps (plc c (j - 1))
      rw [plc_at ha1]
  have f61 : ¬ a.1 = 31 → pw (g_Judging_meetCalled_61 p1 X) (fun _ Y => ∃ v : Int32, Y = wI X 69 (l - 1) v ∧ v.toInt = tkr ch ps c g (tko j a)) := fun z => by
    unfold g_Judging_meetCalled_61
    exact f62 0 (fun _ => z) (fun y => absurd (by decide) y)
  unfold g_Judging_meetCalled_39
  refine pw_ck (fun _ => pw_to rr.1 (pw_to k13 (pw_ck (fun _ => pw_eq (fun x6 e6 => ?_)))))
  have v6 : x6.toInt = a.1 := by rw [e6, ixn h1, rr.2.2 _ _ (by omega)]; exact cd
  refine pw_ite (fun c6 => ?_) (fun c6 => f61 (by omega))
  have z : a.1 = 31 := by omega
  have j1 := (h31 z).1
  exact pw_neg (by omega) (f62 1 (fun y => absurd y (by decide)) (fun _ => z))
theorem l_called (ht : CPR e ch X0 ps told c kt) (h : CJ e ch ps told c X0 X g S J ks) {p1 p2 : Int32} (hS : S.length = J.1.length) (hl : 1 ≤ J.1.length) (hc : J.2.2.2.length < 3000) (h1 : p1.toInt = (j : Int)) (hp : (X0.1 (e + 21) j).toInt = p) (h2 : p2.toInt = (n : Int)) (hn : n ≤ 4) (ha : c[j]? = some a) (h31 : a.1 = 31 → 1 ≤ j ∧ ∃ a1, c[j - 1]? = some a1 ∧ a1.1 = 4) : pw (g_Judging_meetCalled p1 p2 X) (fun _ Y => ∃ r, jcall g j p n J r ∧ CJr e ch ps told c X0 Y g (_root_.Jvm.Pilot.CBlameCourtLaw_law_r8381_f30dd1.stk (tko j a) (2 + n) S) ks r) := by
  have he := ht.1.1
  have l4 : (4 : Int32).toInt = 4 := by decide
  have l8 : (8 : Int32).toInt = 8 := by decide
  have a3 := h.2.1.2.2.1
  have wa := wk_anf hn
  unfold g_Judging_meetCalled
  refine pw_eq (fun x1 e1 => ?_)
  have v1 : x1.toInt = 4 + (n : Int) := by rw [e1, ti_add (by rw [l4, h2]; omega) (by rw [l4, h2]; omega), l4, h2]
  refine pw_bd (l_form (s := 4) (w := anf n) ht h hl hc h1 hp l4 (KC.an h.1.1.2.2.1 hn v1)) ?_
  rintro _ X2 ⟨⟨r0, hr, hY⟩, t14, t3⟩
  have q14 : (X2.1 61 14).toInt = (J.1.length : Int) := by rw [t14]; exact a3
  have q3 : (X2.1 61 3).toInt = (g : Int) := by rw [t3]; exact h.2.1.2.1
  refine pw_eq (fun x3 e3 => ?_)
  have go : ∀ (J2 : JS), J2.1.length = J.1.length → CJ e ch ps told c X0 X2 g S J2 ks → sot (hdK J2.1) = 4 → (tkn (hdK J2.1) = n → jcall g j p n J (Sum.inl J2)) → (¬ tkn (hdK J2.1) = n → jcall g j p n J (Sum.inr (8, p))) → pw (if x3.toInt = 0 then
    chk (refO YC (X2.2.2 61 2) 3 8 = true) (letV (X2.2.2 61 2 - 1) fun e16 =>
    bnd (g_Judging_below (0 : Int32) X2) fun x17 X18 =>
    bnd (g_Kinds_takenBy e16 x17 X18) fun x19 X20 =>
    if x19.toInt = p2.toInt then
      g_Judging_meetCalled_39 p1 X20
    else
      bnd (g_Judging_refuse (8 : Int32) p1 X20) fun _ X21 =>
      g_Judging_meetCalled_39 p1 X21)
  else
    g_Judging_meetCalled_39 p1 X2) (fun _ Y => ∃ r, jcall g j p n J r ∧ CJr e ch ps told c X0 Y g (_root_.Jvm.Pilot.CBlameCourtLaw_law_r8381_f30dd1.stk (tko j a) (2 + n) S) ks r) := by
    intro J2 hJl hJ2 hs hy hn2
    have hT := hJ2.1.1
    refine pw_pos (by rw [e3]; exact hJ2.2.1.1) (pw_ck (fun _ => pw_to (hT.rr ht).2.1 (pw_bd (l_below (i := 0) hJ2 (by decide) (by omega)) ?_)))
    rintro x17 X18 ⟨e18, k17⟩
    rw [e18]
    have hd0 : J2.1.getD 0 [3] = hdK J2.1 := by
      unfold hdK
      rw [List.headD_eq_head?_getD, List.head?_eq_getElem?, List.getD_eq_getElem?_getD]
    rw [hd0] at k17
    obtain ⟨z, b1, b2⟩ := k17
    refine pw_bd (kk_takenBy (CJ.he ht).2 hT.2.1 b1 b2) ?_
    rintro x19 X20 ⟨e20, v19⟩
    rw [e20]
    refine pw_ite (fun c9 => ?_) (fun c9 => ?_)
    · refine pw_mono (l_tk39 ht hT h1 ha h31 q3 q14 hl) ?_
      rintro _ Y ⟨v, hv, hv2⟩
      refine ⟨_, hy (by omega), ?_⟩
      show CJ e ch ps told c X0 Y g _ J2 ks
      rw [hv, ← hJl]
      exact hJ2.stk he (by rw [hJl]; exact hS) hv2
    · refine pw_bd (l_refuse (p1 := 8) ht hT h1 hp (by decide)) ?_
      rintro _ X21 ⟨f1, f2, f3, f4, f5, f6⟩
      refine pw_mono (l_tk39 ht f1 h1 ha h31 (by rw [f6]; exact q3) (by rw [f5]; exact q14) hl) ?_
      rintro _ Y ⟨v, hv, hv2⟩
      refine ⟨_, hn2 (by omega), ?_⟩
      rw [hv]
      rw [l8] at f2 f4
      exact ⟨f1.wr he (by omega), by rw [wI_ne _ _ _ _ _ _ (by omega)]; exact f2, by rw [wI_ne _ _ _ _ _ _ (by omega)]; exact f3, f4⟩
  rcases hr with ⟨hd, rfl⟩ | ⟨hd, hs, rfl⟩ | ⟨hd, hs, rfl⟩
  · have hh : hdK (jset (anf n) (jgd [(j, p, g, (g : Int), [3], anf n)] J)).1 = anf n := rfl
    refine go _ (by show (_ :: J.1.tail).length = _; rw [List.length_cons, List.length_tail]; omega) hY (by rw [hh]; exact wa.2.1) (fun _ => Or.inl ⟨hd, rfl⟩) (fun z => absurd (by rw [hh]; exact wa.2.2) z)
  · exact go J rfl hY hs (fun z => Or.inr ⟨hd, Or.inl ⟨hs, Or.inl ⟨z, rfl⟩⟩⟩) (fun z => Or.inr ⟨hd, Or.inl ⟨hs, Or.inr ⟨z, rfl⟩⟩⟩)
  · have hY : CJT e X0 X2 ks ∧ (X2.1 61 4).toInt = 9 ∧ (X2.1 61 5).toInt = p ∧ ¬ (9 : Int) = 0 := hY
    refine pw_neg (by rw [e3, hY.2.1]; decide) (pw_mono (l_tk39 ht hY.1 h1 ha h31 q3 q14 hl) ?_)
    rintro _ Y ⟨v, hv, hv2⟩
    refine ⟨_, Or.inr ⟨hd, Or.inr ⟨hs, rfl⟩⟩, ?_⟩
    rw [hv]
    exact ⟨hY.1.wr he (by omega), by rw [wI_ne _ _ _ _ _ _ (by omega)]; exact hY.2.1, by rw [wI_ne _ _ _ _ _ _ (by omega)]; exact hY.2.2.1, hY.2.2.2⟩
theorem jbase_el (hl : m ≤ J.1.length) (hm : 0 < m) : jbase m J.1 = elJ J m 0 := base_n hl hm
/-- what so many kinds come to -/
theorem l_mix (ht : CPR e ch X0 ps told c kt) (h : CJ e ch ps told c X0 X g S J ks) {p1 : Int32} (h1 : p1.toInt = (m : Int)) (hl : m ≤ J.1.length) (hu : us.length = m) (hS : S = us.reverse.map (fun w => ((some w.2, none, 0) : SE)) ++ S1) (hc : J.2.2.2.length + m ≤ 3000) : pw (g_Judging_mix p1 X) (fun r Y => ∃ k J1, jmix c g m S J k J1 ∧ KC ks r k ∧ CJ e ch ps told c X0 Y g (S.drop m) J1 ks) := by
  have he := ht.1.1
  have lo1 : (Int32.ofInt 1).toInt = 1 := by decide
  have l2 : (2 : Int32).toInt = 2 := by decide
  have a3 := h.2.1.2.2.1
  have b := (X.1 61 14).toInt_lt
  have any := (KC.pl h.1.1.2.2.1).2.2.1
  have el : ∀ i, i < m → J.1[m - 1 - i]? = some (elJ J m i) := fun i hi => by
    unfold elJ
    rw [List.getD_eq_getElem?_getD, List.getElem?_eq_getElem (by omega)]
    rfl
  have like : jlike m J.1 ↔ ∀ q, q < m → elJ J m q = elJ J m 0 := by
    by_cases z : m = 0
    · have := (base_0 (J := J) z).1
      exact ⟨fun _ q hq => by omega, fun _ => this⟩
    · exact like_iff hl (by omega)
  have Sat : ∀ i w, i < m → us[i]? = some w → S[m - 1 - i]? = some (some w.2, none, 0) := fun i w hi hw => by
    rw [hS, List.getElem?_append_left (by rw [List.length_map, List.length_reverse]; omega), List.getElem?_map, List.getElem?_reverse (by omega), show us.length - 1 - (m - 1 - i) = i by omega, hw]
    rfl
  -- the guards are laid
  have lay : ∀ (f ff kk : Int32), ff.toInt = (J.1.length : Int) - m → (¬ f.toInt = 0 ↔ jlike m J.1) → KC ks kk (jbase m J.1) → ∀ (M i : Nat) (a5 : Int32) (W : St), a5.toInt = (J.1.length : Int) - m + i → i ≤ m → (¬ f.toInt = 0 → i = 0) → CJ e ch ps told c X0 W g S (jgd (jgF c g (((J.1.take m).zip (S.take m)).reverse.take i)) J) ks → (jgF c g (((J.1.take m).zip (S.take m)).reverse.take i)).length ≤ i → pw (g_Judging_mix_77 M ff kk f a5 W) (fun r Y => ∃ k J1, jmix c g m S J k J1 ∧ KC ks r k ∧ CJ e ch ps told c X0 Y g (S.drop m) J1 ks) := by
    intro f ff kk hff hf hkk M
    induction M with
    | zero => exact fun _ _ _ _ _ _ _ _ => pw_none
    | succ M ih =>
      intro i a5 W h5 hi hz hW hln
      have eu : g_Judging_mix_77 (M + 1) = g_Judging_mix_77_s (g_Judging_mix_77 M) := by
        unfold g_Judging_mix_77
        exact lp_succ _ _ _
      rw [eu]
      unfold g_Judging_mix_77_s
      have w14 : (W.1 61 14).toInt = (J.1.length : Int) := hW.2.1.2.2.1
      refine pw_eq (fun x6 e6 => ?_)
      have f131 : (f.toInt = 0 → i = m) → pw (g_Judging_mix_131 ff kk f W) (fun r Y => ∃ k J1, jmix c g m S J k J1 ∧ KC ks r k ∧ CJ e ch ps told c X0 Y g (S.drop m) J1 ks) := fun him => by
        unfold g_Judging_mix_131
        refine pw_eq (fun X7 e7 => ?_)
        have hp := hW.pop he (m := m) (v := ff) hl hff
        rw [← e7] at hp
        refine pw_ite (fun cf => pw_ret ⟨[3], _, Or.inr ⟨fun z => (hf.mpr z) cf, rfl, rfl⟩, any, ?_⟩) (fun cf => pw_ret ⟨_, _, Or.inl ⟨hf.mp cf, rfl, rfl⟩, hkk, ?_⟩)
        · rw [jmg_rev]
          have tk : ((J.1.take m).zip (S.take m)).reverse.take i = ((J.1.take m).zip (S.take m)).reverse := List.take_of_length_le (by rw [List.length_reverse, List.length_zip, List.length_take, him cf]; omega)
          rw [tk] at hp
          exact hp
        · have tk : jgF c g (((J.1.take m).zip (S.take m)).reverse.take i) = [] := by rw [hz cf]; rfl
          rw [tk, jgd_nil] at hp
          exact hp
      refine pw_ite (fun c6 => f131 (fun _ => by rw [e6, w14] at c6; omega)) (fun c6 => pw_ite (fun cf => ?_) (fun cf => f131 (fun z => absurd z cf)))
      rw [e6, w14] at c6
      have hin : i < m := by omega
      obtain ⟨w, hw, hzp⟩ := zip_at (S1 := S1) hl hu hS hin
      have i5 : ix a5 = J.1.length - 1 - (m - 1 - i) := ixn (by omega)
      have k8 : KC ks (W.1 67 (J.1.length - 1 - (m - 1 - i))) (elJ J m i) := hW.2.2.1 (m - 1 - i) _ (el i hin)
      have m8 := (hW.2.2.2.1 (m - 1 - i) _ (Sat i w hin hw)).1 w.2 rfl
      have m8b : (W.1 68 (J.1.length - 1 - (m - 1 - i))).toInt = (w.2 : Int) := m8.2
      have e2 : ∀ u : List Int, jgF c g (some (u, ((some w.2, none, 0) : SE))).toList = (if u = [3] then [] else [(w.2, plc c w.2, g, (g : Int), u, [3])]) := fun u => by
        show _ ++ [] = _
        rw [List.append_nil]
        rfl
      have nx : (a5 + Int32.ofInt 1).toInt = (J.1.length : Int) - m + ((i + 1 : Nat) : Int) := by rw [ti_add (by rw [h5, lo1]; omega) (by rw [h5, lo1]; omega), h5, lo1]; omega
      have tk1 : jgF c g (((J.1.take m).zip (S.take m)).reverse.take (i + 1)) = jgF c g (((J.1.take m).zip (S.take m)).reverse.take i) ++ (if elJ J m i = [3] then [] else [(w.2, plc c w.2, g, (g : Int), elJ J m i, [3])]) := by
        rw [List.take_add_one, hzp, jgF_app, e2]
      have ln1 : (jgF c g (((J.1.take m).zip (S.take m)).reverse.take (i + 1))).length ≤ i + 1 := by
        rw [tk1, List.length_append]
        split
        · rw [List.length_nil]; omega
        · rw [List.length_singleton]; omega
      have f125 : ∀ V : St, CJ e ch ps told c X0 V g S (jgd (jgF c g (((J.1.take m).zip (S.take m)).reverse.take (i + 1))) J) ks → pw (g_Judging_mix_125 (g_Judging_mix_77 M) ff kk f a5 V) (fun r Y => ∃ k J1, jmix c g m S J k J1 ∧ KC ks r k ∧ CJ e ch ps told c X0 Y g (S.drop m) J1 ks) := fun V hV => by
        unfold g_Judging_mix_125
        exact pw_let (ih (i + 1) _ V nx (by omega) (fun z => absurd cf z) hV ln1)
      have ke := KC.eq hW.1.1 k8 any
      rw [l2] at ke
      refine pw_ck (fun _ => pw_eq (fun x8 e8 => ?_))
      rw [i5] at e8
      refine pw_ite (fun c8 => ?_) (fun c8 => ?_)
      · rw [e8] at c8
        refine f125 W ?_
        rw [tk1, if_pos (ke.mp c8), List.append_nil]
        exact hW
      · rw [e8] at c8
        have nz : ¬ elJ J m i = [3] := fun z => c8 (ke.mpr z)
        refine pw_ck (fun _ => pw_eq (fun x10 e10 => pw_ck (fun _ => pw_eq (fun x11 e11 => pw_eq (fun x12 e12 => ?_)))))
        rw [i5] at e10 e11
        obtain ⟨a1, ha1⟩ : ∃ a1, c[w.2]? = some a1 := ⟨_, List.getElem?_eq_getElem m8.1⟩
        have hpl : (X0.1 (e + 21) w.2).toInt = plc c w.2 := by rw [(ht.2.1 w.2 a1 ha1).2.1, plc_at ha1]
        refine pw_bd (l_lay (j := w.2) (t := (g : Int)) (d := elJ J m i) (d1 := [3]) ht hW ?_ (by rw [e10]; exact m8b) hpl (by rw [e11]; exact k8) any (by rw [e12]; exact hW.2.1.2.1)) (fun _ X13 h13 => f125 X13 ?_)
        · show (J.2.2.2 ++ _).length < 3000
          rw [List.length_append]
          omega
        · rw [tk1, if_neg nz, ← jgd_gd]
          exact h13
  -- are all alike
  have look : ∀ (ff kk : Int32), ff.toInt = (J.1.length : Int) - m → KC ks kk (jbase m J.1) → ∀ (M i : Nat) (f a5 : Int32), a5.toInt = (J.1.length : Int) - m + i → i ≤ m → (¬ f.toInt = 0 ↔ ∀ q, q < i → elJ J m q = elJ J m 0) → pw (g_Judging_mix_36 M ff kk f a5 X) (fun r Y => ∃ k J1, jmix c g m S J k J1 ∧ KC ks r k ∧ CJ e ch ps told c X0 Y g (S.drop m) J1 ks) := by
    intro ff kk hff hkk M
    induction M with
    | zero => exact fun _ _ _ _ _ _ => pw_none
    | succ M ih =>
      intro i f a5 h5 hi hf
      have eu : g_Judging_mix_36 (M + 1) = g_Judging_mix_36_s (g_Judging_mix_36 M) := by
        unfold g_Judging_mix_36
        exact lp_succ _ _ _
      rw [eu]
      unfold g_Judging_mix_36_s
      refine pw_eq (fun x5 e5 => ?_)
      refine pw_ite (fun c5 => ?_) (fun c5 => ?_)
      · rw [e5, a3] at c5
        have him : i = m := by omega
        rw [him] at hf
        refine lay f ff kk hff (hf.trans like.symm) hkk BIG 0 ff X (by omega) (Nat.zero_le _) (fun _ => rfl) ?_ (Nat.le_refl _)
        show CJ e ch ps told c X0 X g S (jgd [] J) ks
        rw [jgd_nil]
        exact h
      · rw [e5, a3] at c5
        have hin : i < m := by omega
        have nx : (a5 + Int32.ofInt 1).toInt = (J.1.length : Int) - m + ((i + 1 : Nat) : Int) := by rw [ti_add (by rw [h5, lo1]; omega) (by rw [h5, lo1]; omega), h5, lo1]; omega
        have f66 : ∀ b0 : Int32, (¬ b0.toInt = 0 ↔ ∀ q, q < i + 1 → elJ J m q = elJ J m 0) → pw (g_Judging_mix_66 (g_Judging_mix_36 M) ff kk a5 b0 X) (fun r Y => ∃ k J1, jmix c g m S J k J1 ∧ KC ks r k ∧ CJ e ch ps told c X0 Y g (S.drop m) J1 ks) := fun b0 hb => by
          unfold g_Judging_mix_66
          exact pw_let (ih (i + 1) b0 _ nx (by omega) hb)
        have f65 : ¬ (∀ q, q < i + 1 → elJ J m q = elJ J m 0) → pw (g_Judging_mix_65 (g_Judging_mix_36 M) ff kk a5 X) (fun r Y => ∃ k J1, jmix c g m S J k J1 ∧ KC ks r k ∧ CJ e ch ps told c X0 Y g (S.drop m) J1 ks) := fun hb => by
          unfold g_Judging_mix_65
          exact f66 0 ⟨fun z => absurd (by decide) z, fun z => absurd z hb⟩
        refine pw_ite (fun cf => f65 (fun z => (hf.mpr (fun q hq => z q (by omega))) cf)) (fun cf => ?_)
        have hall := hf.mp cf
        refine pw_ck (fun _ => pw_eq (fun x15 e15 => ?_))
        have i5 : ix a5 = J.1.length - 1 - (m - 1 - i) := ixn (by omega)
        rw [i5] at e15
        have k15 : KC ks x15 (elJ J m i) := by rw [e15]; exact h.2.2.1 (m - 1 - i) _ (el i hin)
        have bs : jbase m J.1 = elJ J m 0 := base_n hl (by omega)
        have ke := KC.eq h.1.1 k15 hkk
        rw [bs] at ke
        refine pw_ite (fun c15 => f66 1 ⟨fun _ q hq => ?_, fun _ => by decide⟩) (fun c15 => f65 (fun z => c15 (ke.mpr (z i (by omega)))))
        by_cases z : q = i
        · rw [z]; exact ke.mp c15
        · exact hall q (by omega)
  unfold g_Judging_mix
  refine pw_eq (fun x1 e1 => pw_eq (fun x2 e2 => pw_eq (fun x3 e3 => pw_eq (fun x4 e4 => ?_))))
  have v2 : x2.toInt = (J.1.length : Int) - m := by rw [e2, e1, ti_sub (by rw [a3, h1]; omega) (by rw [a3, h1]; omega), a3, h1]
  have v3 : x3.toInt = (J.1.length : Int) - m := by rw [e3, ti_max _ (by omega), v2]
  refine pw_ite (fun c4 => ?_) (fun c4 => ?_)
  · rw [e4, a3] at c4
    have z : m = 0 := by omega
    unfold g_Judging_mix_29
    refine look x3 2 v3 ?_ BIG 0 1 x3 (by omega) (Nat.zero_le _) ⟨fun _ q hq => absurd hq (Nat.not_lt_zero _), fun _ => by decide⟩
    rw [(base_0 (J := J) z).2]
    exact any
  · rw [e4, a3] at c4
    refine pw_ck (fun _ => pw_eq (fun x16 e16 => ?_))
    have i3 : ix x3 = J.1.length - 1 - (m - 1 - 0) := ixn (by omega)
    unfold g_Judging_mix_29
    refine look x3 x16 v3 ?_ BIG 0 1 x3 (by omega) (Nat.zero_le _) ⟨fun _ q hq => absurd hq (Nat.not_lt_zero _), fun _ => by decide⟩
    rw [base_n hl (by omega), e16, i3]
    exact h.2.2.1 (m - 1 - 0) _ (el 0 (by omega))
end CJQS
