/-! the class judges a text -/
/-- kinds of the parts below k -/
def CHD (ps : List Pt) (told : Nat → Bool) (X : St) (ks : List (List Int)) (k : Nat) : Prop := ∀ q, q < k → KC ks (X.1 64 q) (oks ps told q) ∧ KC ks (X.1 65 q) (fks ps told q) ∧ ∀ i d, (pks ps told q)[i]? = some d → KC ks (X.1 63 (4 * q + i)) d
def HSq (e : Nat) (ps : List Pt) (told : Nat → Bool) (X0 X : St) (ks : List (List Int)) (k : Nat) : Prop := CJT e X0 X ks ∧ CHD ps told X ks k ∧ (X.1 61 4).toInt = 0 ∧ (X.1 55 5).toInt = 0
/-- after the parts from k on -/
def CAr (e : Nat) (ch : Tx) (ps : List Pt) (told : Nat → Bool) (c : List Ins) (X0 Y : St) (k : Nat) (G : List JG × List Bool) (ks : List (List Int)) : Prop := ∃ (r : Sum (List JG × List Bool) (Int × Int)) (ks1 : List (List Int)), JALL ch ps told c (ps.length - k) k G r ∧ ks <+: ks1 ∧ CJf e ps told X0 Y ks1 r
section CALLS
variable {e g j n m k : Nat} {ch : Tx} {ps : List Pt} {told : Nat → Bool} {c : List Ins} {X0 X Y Z W : St} {ks ks1 kt : List (List Int)} {d : List Int} {v v1 p1 p2 : Int32} {p : Pt} {po : Nat → Nat} {L : Nat}
theorem l_parts7 (ht : CPR e ch X0 ps told c kt) (hP : CPP e X0 ps c kt) (hC : CPC ch W ps c po) (hb0 : wks 0 c ≤ 3000) : ∀ (M k : Nat) (a3 : Int32) (X : St) (G : List JG × List Bool) (ks : List (List Int)), a3.toInt = (k : Int) → k ≤ ps.length → CG e ps told X0 X ks G.1 → kt <+: ks → G.1.length + wks 1 (c.drop (psx ps c k)) ≤ 3000 → ks.length + rns (c.drop (psx ps c k)) ≤ 1549 → pw (g_Judging_judgeAll_85 M a3 X) (fun _ Y => CAr e ch ps told c X0 Y k G ks) := by
  have lo1 : (Int32.ofInt 1).toInt = 1 := by decide
  have l0 : (0 : Int32).toInt = 0 := by decide
  have he := ht.1.1
  have p40 := hC.2.1
  intro M
  induction M with
  | zero => exact fun _ _ _ _ _ _ _ _ _ _ _ => pw_none
  | succ M ih =>
    intro k a3 X G ks h3 hk h hkt hb1 hb2
    have eu : g_Judging_judgeAll_85 (M + 1) = g_Judging_judgeAll_85_s (g_Judging_judgeAll_85 M) := by
      unfold g_Judging_judgeAll_85
      exact lp_succ _ _ _
    rw [eu]
    unfold g_Judging_judgeAll_85_s
    have hT := h.1.1
    have rr := hT.rr ht
    refine pw_ck (fun _ => pw_to rr.1 (pw_eq (fun x15 e15 => ?_)))
    have v15 : x15.toInt = (ps.length : Int) := by rw [e15, hT.1.2 _ _ (by omega) (by omega) (by omega)]; exact hP.2.2.1
    refine pw_ite (fun c15 => ?_) (fun c15 => ?_)
    · have ek : ps.length - k = 0 := by omega
      refine pw_ret ⟨Sum.inl G, ks, ?_, List.prefix_rfl, h⟩
      rw [ek]
      rfl
    · have hlt : k < ps.length := by omega
      obtain ⟨m, hm⟩ : ∃ m, ps.length - k = m + 1 := ⟨ps.length - k - 1, by omega⟩
      obtain ⟨p, hpt⟩ : ∃ p, ps[k]? = some p := ⟨_, List.getElem?_eq_getElem hlt⟩
      obtain ⟨s1, _, s3⟩ := pcd_sp hpt (hC.2.2 k p hpt).1.1
      have w1 : wks 1 (c.drop (psx ps c k)) = wks 1 (pcd ps c k) + wks 1 (c.drop (psx ps c (k + 1))) := by rw [s1, wks_ap]
      have r1 : rns (c.drop (psx ps c k)) = rns (pcd ps c k) + rns (c.drop (psx ps c (k + 1))) := by rw [s1, rns_ap]
      have w0 : wks 0 (pcd ps c k) ≤ wks 0 c := by
        have e0 : wks 0 (c.drop (psx ps c k)) = wks 0 (pcd ps c k) + wks 0 (c.drop (psx ps c (k + 1))) := by rw [s1, wks_ap]
        have e1 : wks 0 c = wks 0 (c.take (psx ps c k)) + wks 0 (c.drop (psx ps c k)) := by rw [← wks_ap, List.take_append_drop]
        omega
      refine pw_eq (fun x16 e16 => pw_pos (by rw [e16]; exact h.2.1) ?_)
      refine pw_bd (R := fun _ Y => CSr e ch ps told c X0 Y k (pst ps k) [] (pcd ps c k) (js0 ps told k G.1) ks (wks 1 (c.drop (psx ps c (k + 1)))) (rns (c.drop (psx ps c (k + 1))))) ?_ ?_
      · unfold g_Judging_judgePart
        refine pw_eq (fun X1 e1 => pw_eq (fun X2 e2 => ?_))
        have h0 : CJ e ch ps told c X0 X2 k [] ([], (fun x => ((pks ps told k).take 0)[x]?), (js0 ps told k G.1).2.2.1, G.1) ks := by
          rw [e2, e1]
          exact h.cj he h3 l0
        exact l_params ht hP hC hlt h3 hkt (by omega) (by omega) (by omega) BIG 0 0 X2 (by decide) (Nat.zero_le _) h0
      · rintro _ X17 ⟨r, ks1, q1, q2, q3, q4, q5⟩
        have nx : (a3 + Int32.ofInt 1).toInt = ((k + 1 : Nat) : Int) := by rw [ti_add (by rw [h3, lo1]; omega) (by rw [h3, lo1]; omega), h3, lo1]; omega
        refine pw_let ?_
        cases r with
        | inl J =>
          have q5 : CJ e ch ps told c X0 X17 k (shl (pst ps k) [] (pcd ps c k)) J ks1 := q5
          have q4 := q4 J rfl
          refine pw_mono (ih (k + 1) _ X17 (J.2.2.2, G.2 ++ [J.2.2.1]) ks1 nx (by omega) q5.cg (hkt.trans q2) q4 q3) ?_
          rintro _ Y ⟨r1, ks2, y1, y2, y3⟩
          refine ⟨r1, ks2, ?_, q2.trans y2, y3⟩
          rw [hm]
          rw [show ps.length - (k + 1) = m by omega] at y1
          exact Or.inl ⟨J, q1, y1⟩
        | inr f =>
          have q5 : CJT e X0 X17 ks1 ∧ (X17.1 61 4).toInt = f.1 ∧ (X17.1 61 5).toInt = f.2 ∧ ¬ f.1 = 0 := q5
          have fin : CAr e ch ps told c X0 X17 k G ks := ⟨Sum.inr f, ks1, by rw [hm]; exact Or.inr ⟨f, q1, rfl⟩, q2, q5⟩
          cases M with
          | zero => exact pw_none
          | succ M =>
            have eu : g_Judging_judgeAll_85 (M + 1) = g_Judging_judgeAll_85_s (g_Judging_judgeAll_85 M) := by
              unfold g_Judging_judgeAll_85
              exact lp_succ _ _ _
            rw [eu]
            unfold g_Judging_judgeAll_85_s
            refine pw_ck (fun _ => pw_let (pw_eq (fun x15 e15 => pw_ite (fun _ => pw_ret fin) (fun _ => pw_eq (fun x16 e16 => pw_neg ?_ (pw_ret fin))))))
            rw [e16, q5.2.1]
            exact q5.2.2.2
theorem CHD.up (h : CHD ps told X ks k) (hk : ks <+: ks1) (r : ∀ i q, 63 ≤ i ∧ i ≤ 65 → Y.1 i q = X.1 i q) : CHD ps told Y ks1 k := fun q hq => by
  obtain ⟨a, b, f⟩ := h q hq
  rw [r 64 _ (by omega), r 65 _ (by omega)]
  exact ⟨a.up hk, b.up hk, fun i d hd => by rw [r 63 _ (by omega)]; exact (f i d hd).up hk⟩
theorem l_header (ht : CPR e ch X0 ps told c kt) (hP : CPP e X0 ps c kt) (hW : PWd ps) (hp : ps.length ≤ 40) (hk : k < ps.length) {a1 : Int32} (h1 : a1.toInt = (k : Int)) (hkt : kt <+: ks) (hl : ks.length < 1549) (h : HSq e ps told X0 X ks k) : pw (g_Judging_takeHeader a1 X) (fun _ Y => ∃ ks1, ks <+: ks1 ∧ ks1.length ≤ ks.length + 1 ∧ HSq e ps told X0 Y ks1 (k + 1)) := by
  have lo1 : (Int32.ofInt 1).toInt = 1 := by decide
  have l4 : (4 : Int32).toInt = 4 := by decide
  have he := ht.1.1
  have k1 := (kYq he).2.2.2.2.2
  obtain ⟨p, hpt⟩ : ∃ p, ps[k]? = some p := ⟨_, List.getElem?_eq_getElem hk⟩
  obtain ⟨c13, c17⟩ := hP.1 k p hpt
  obtain ⟨kp, ⟨zo, zo1, zo2⟩⟩ := hP.2.2.2 k p hpt
  have ln := pks_ln (told := told) hpt
  have f := wk_fks (told := told) hW hk
  have z63 : zY YC 63 = 160 := by decide +kernel
  unfold g_Judging_takeHeader
  refine pw_eq (fun x1 e1 => ?_)
  have v1 : x1.toInt = ((4 * k : Nat) : Int) := by
    clear k1 z63
    rw [e1, ti_mul (by rw [l4, h1]; omega) (by rw [l4, h1]; omega), l4, h1]
    omega
  have loop : ∀ (M i : Nat) (a3 : Int32) (Z : St), a3.toInt = (i : Int) → i ≤ (pks ps told k).length → HSq e ps told X0 Z ks k → (∀ q d, q < i → (pks ps told k)[q]? = some d → KC ks (Z.1 63 (4 * k + q)) d) → pw (g_Judging_takeHeader_6 M a1 x1 a3 Z) (fun _ Y => ∃ ks1, ks <+: ks1 ∧ ks1.length ≤ ks.length + 1 ∧ HSq e ps told X0 Y ks1 (k + 1)) := by
    intro M
    induction M with
    | zero => exact fun _ _ _ _ _ _ _ => pw_none
    | succ M ih =>
      intro i a3 Z h3 hi hZ h63
      have eu : g_Judging_takeHeader_6 (M + 1) = g_Judging_takeHeader_6_s (g_Judging_takeHeader_6 M) := by
        unfold g_Judging_takeHeader_6
        exact lp_succ _ _ _
      rw [eu]
      unfold g_Judging_takeHeader_6_s
      obtain ⟨hT, hD, h61, h55⟩ := hZ
      have rr := hT.rr ht
      have fr := hT.1.2
      refine pw_ck (fun _ => pw_to rr.1 (pw_to k1.1 (pw_ck (fun _ => pw_eq (fun x4 e4 => ?_)))))
      have v4 : x4.toInt = ((pks ps told k).length : Int) := by
        rw [e4, ixn h1, fr _ _ (by clear k1 z63; omega) (by clear k1 z63; omega) (by clear k1 z63; omega), c13, ln]
      refine pw_ite (fun c4 => ?_) (fun c4 => ?_)
      · have ei : i = (pks ps told k).length := by clear k1 z63; omega
        refine pw_ck (fun _ => pw_to rr.1 (pw_to k1.2.2 (pw_ck (fun _ => pw_eq (fun x7 e7 => ?_)))))
        have k7 : KC ks x7 p.2.2.2.2.1 := by
          refine ⟨zo, ?_, pf_at hkt zo2⟩
          rw [e7, ixn h1, fr _ _ (by clear k1 z63; omega) (by clear k1 z63; omega) (by clear k1 z63; omega)]
          exact zo1
        refine pw_bd (l_asTold ht hT h1 hk k7) ?_
        rintro x8 X9 ⟨e9, k8⟩
        rw [e9]
        have ok : oks ps told k = askd told k p.2.2.2.2.1 := by unfold oks; rw [pt_getD hpt]
        rw [← ok] at k8
        refine pw_ck (fun _ => pw_eq (fun X10 e10 => ?_))
        rw [ixn h1] at e10
        have r10 : ∀ a b, ¬ (a = 64 ∧ b = k) → X10.1 a b = Z.1 a b := fun a b q => by rw [e10, wI_ne _ _ _ _ _ _ (by clear k1 z63; omega)]
        have T10 : CJT e X0 X10 ks := by rw [e10]; exact hT.wr he (Or.inl (by decide))
        have rr10 := T10.rr ht
        refine pw_ck (fun _ => pw_to rr10.2.1 (pw_ck (fun _ => pw_to rr10.1 (pw_to k1.1 (pw_ck (fun _ => pw_eq (fun x14 e14 => pw_ck (fun _ => pw_eq (fun x15 e15 => ?_)))))))))
        have v14 : x14.toInt = ((pks ps told k).length : Int) := by
          rw [e14, ixn h1, T10.1.2 _ _ (by clear k1 z63; omega) (by clear k1 z63; omega) (by clear k1 z63; omega), c13, ln]
        have k15 : KC ks x15 (oks ps told k) := by rw [e15, ixn h1, e10, wI_at]; exact k8
        obtain ⟨zq, zq1, zq2⟩ := k15
        have l4k := f.2.2.1
        refine pw_bd (kk_functionOf (CJ.he ht).2 (f := 4 * k) (ds := pks ps told k) T10.2.1 hl v1 (by clear k1 z63; omega) v14 l4k (by rw [z63]; clear k1 z63; omega) (by clear k1 z63; omega) zq1 zq2 (fun q d hd => ?_)) ?_
        · have hq := (List.getElem?_eq_some_iff.mp hd).1
          rw [r10 63 _ (by clear k1 z63; omega)]
          exact h63 q d (by clear k1 z63; omega) hd
        · rintro x16 X17 ⟨ks1, t1, hks, ⟨zf, zf1, zf2⟩, y2, yr⟩
          have zf2 : ks1[zf]? = some (fks ps told k) := zf2
          have pre : ks <+: ks1 ∧ ks1.length ≤ ks.length + 1 ∧ ∀ x ∈ ks1, WKd 40 x := by
            rcases hks with rfl | ⟨_, rfl⟩
            · exact ⟨List.prefix_rfl, Nat.le_add_right _ _, T10.2.2.2⟩
            · refine ⟨List.prefix_append _ _, by rw [List.length_append, List.length_singleton]; exact Nat.le_refl _, fun x hx => ?_⟩
              rcases List.mem_append.mp hx with y | y
              · exact T10.2.2.2 x y
              · rw [List.mem_singleton.mp y]; exact f.2.2.2.1
          have r17 : ∀ a b, 55 ≤ a ∧ a ≤ 69 → X17.1 a b = X10.1 a b := fun a b q => yr a b (by clear k1 z63; omega)
          have T17 : CJT e X0 X17 ks1 := ⟨⟨y2.trans T10.1.1, fun a b b1 b2 b3 => (yr a b (by clear k1 z63; omega)).trans (T10.1.2 a b b1 b2 b3)⟩, t1, T10.2.2.1.trans pre.1, pre.2.2⟩
          refine pw_ck (fun _ => pw_eq (fun X18 e18 => ?_))
          rw [ixn h1] at e18
          have T18 : CJT e X0 X18 ks1 := by rw [e18]; exact T17.wr he (Or.inl (by decide))
          have rr18 := T18.rr ht
          refine pw_ck (fun _ => pw_to rr18.2.1 (pw_ck (fun _ => pw_eq (fun x20 e20 => ?_))))
          have k20 : KC ks1 x20 (fks ps told k) := ⟨zf, by rw [e20, ixn h1, e18, wI_at]; exact zf1, zf2⟩
          refine pw_bd (l_any ht T18 k20) ?_
          rintro x21 X22 ⟨e22, _⟩
          rw [e22]
          refine pw_ck (fun _ => pw_eq (fun X23 e23 => pw_ret ⟨ks1, pre.1, pre.2.1, ?_⟩))
          have r23 : ∀ a b, ¬ a = 62 → ¬ (a = 65 ∧ b = k) → ¬ (a = 64 ∧ b = k) → 55 ≤ a ∧ a ≤ 69 → X23.1 a b = Z.1 a b := fun a b q1 q2 q3 q4 => by
            rw [e23, wI_ne _ _ _ _ _ _ (by clear k1 z63; omega), e18, wI_ne _ _ _ _ _ _ (by clear k1 z63; omega), r17 a b q4]
            exact r10 a b q3
          clear k1 z63
          refine ⟨by rw [e23]; exact T18.wr he (Or.inl (by decide)), fun q hq => ?_, by rw [r23 61 _ (by omega) (by omega) (by omega) (by omega)]; exact h61, by rw [r23 55 _ (by omega) (by omega) (by omega) (by omega)]; exact h55⟩
          by_cases z : q = k
          · rw [z]
            have v64 : X23.1 64 k = x8 := by rw [e23, wI_ne _ _ _ _ _ _ (by omega), e18, wI_ne _ _ _ _ _ _ (by omega), r17 64 _ (by omega), e10, wI_at]
            have v65 : X23.1 65 k = x16 := by rw [e23, wI_ne _ _ _ _ _ _ (by omega), e18, wI_at]
            rw [v64, v65]
            refine ⟨k8.up pre.1, ⟨zf, zf1, zf2⟩, fun i d hd => ?_⟩
            have hi2 := (List.getElem?_eq_some_iff.mp hd).1
            rw [r23 63 _ (by omega) (by omega) (by omega) (by omega)]
            exact (h63 i d (by omega) hd).up pre.1
          · obtain ⟨b1, b2, b3⟩ := hD q (by omega)
            rw [r23 64 _ (by omega) (by omega) (by omega) (by omega), r23 65 _ (by omega) (by omega) (by omega) (by omega)]
            exact ⟨b1.up pre.1, b2.up pre.1, fun i d hd => by rw [r23 63 _ (by omega) (by omega) (by omega) (by omega)]; exact (b3 i d hd).up pre.1⟩
      · have hlt : i < (pks ps told k).length := by clear k1 z63; omega
        have l4k := f.2.2.1
        refine pw_eq (fun x24 e24 => pw_ck (fun _ => pw_to rr.1 (pw_to k1.2.1 (pw_eq (fun x27 e27 => pw_ck (fun _ => pw_eq (fun x28 e28 => ?_)))))))
        clear k1 z63
        have i24 : ix x24 = 4 * k + i := ixn (by rw [e24, ti_add (by rw [v1, h3]; omega) (by rw [v1, h3]; omega), v1, h3]; omega)
        have i27 : ix x27 = 4 * k + i := ixn (by rw [e27, ti_add (by rw [v1, h3]; omega) (by rw [v1, h3]; omega), v1, h3]; omega)
        obtain ⟨z, zk1, zk2⟩ := kp i (by omega)
        have k28 : KC ks x28 (p.2.2.2.1.reverse.getD i ([], [])).2 := by
          refine ⟨z, ?_, pf_at hkt zk2⟩
          rw [e28, i27, fr _ _ (by omega) (by omega) (by omega)]
          exact zk1
        refine pw_bd (l_asTold ht hT h1 hk k28) ?_
        rintro x29 X30 ⟨e30, k29⟩
        rw [e30]
        have pa := pks_at (told := told) hpt (i := i) (by omega)
        refine pw_ck (fun _ => pw_eq (fun X31 e31 => pw_let (ih (i + 1) _ X31 ?_ (by omega) ?_ (fun q d hq hd => ?_))))
        · rw [ti_add (by rw [h3, lo1]; omega) (by rw [h3, lo1]; omega), h3, lo1]; omega
        · rw [e31, i24]
          have r31 : ∀ a b, ¬ (a = 63 ∧ b = 4 * k + i) → (wI Z 63 (4 * k + i) x29).1 a b = Z.1 a b := fun a b q => wI_ne _ _ _ _ _ _ (by omega)
          refine ⟨hT.wr he (Or.inl (by decide)), fun q hq => ?_, by rw [r31 61 _ (by omega)]; exact h61, by rw [r31 55 _ (by omega)]; exact h55⟩
          obtain ⟨b1, b2, b3⟩ := hD q hq
          rw [r31 64 _ (by omega), r31 65 _ (by omega)]
          refine ⟨b1, b2, fun i2 d hd => ?_⟩
          have hi2 := (List.getElem?_eq_some_iff.mp hd).1
          have l4q := (wk_fks (told := told) hW (p := q) (by omega)).2.2.1
          rw [r31 63 _ (by omega)]
          exact b3 i2 d hd
        · rw [e31, i24]
          by_cases y : q = i
          · rw [y] at hd ⊢
            rw [pa] at hd
            rw [wI_at, ← Option.some.inj hd]
            exact k29
          · rw [wI_ne _ _ _ _ _ _ (by omega)]
            exact h63 q d (by omega) hd
  exact loop BIG 0 0 X (by decide) (Nat.zero_le _) h (fun q d hq _ => absurd hq (Nat.not_lt_zero _))
theorem l_headers (ht : CPR e ch X0 ps told c kt) (hP : CPP e X0 ps c kt) (hC : CPC ch W ps c po) (hb0 : wks 0 c ≤ 3000) (hb1 : wks 1 c ≤ 3000) : ∀ (M k : Nat) (a3 : Int32) (X : St) (ks : List (List Int)), a3.toInt = (k : Int) → k ≤ ps.length → HSq e ps told X0 X ks k → kt <+: ks → ks.length + (ps.length - k) + rns c ≤ 1549 → pw (g_Judging_judgeAll_61 M a3 X) (fun _ Y => CAr e ch ps told c X0 Y 0 ([], []) ks) := by
  have lo1 : (Int32.ofInt 1).toInt = 1 := by decide
  have p40 := hC.2.1
  intro M
  induction M with
  | zero => exact fun _ _ _ _ _ _ _ _ _ => pw_none
  | succ M ih =>
    intro k a3 X ks h3 hk h hkt hb2
    have eu : g_Judging_judgeAll_61 (M + 1) = g_Judging_judgeAll_61_s (g_Judging_judgeAll_61 M) := by
      unfold g_Judging_judgeAll_61
      exact lp_succ _ _ _
    rw [eu]
    unfold g_Judging_judgeAll_61_s
    have he := ht.1.1
    have rr := h.1.rr ht
    refine pw_ck (fun _ => pw_to rr.1 (pw_eq (fun x13 e13 => ?_)))
    have v13 : x13.toInt = (ps.length : Int) := by rw [e13, h.1.1.2 _ _ (by omega) (by omega) (by omega)]; exact hP.2.2.1
    refine pw_ite (fun c13 => ?_) (fun c13 => ?_)
    · have ek : k = ps.length := by omega
      have w1 : wks 1 (c.drop (psx ps c 0)) ≤ wks 1 c := by
        have e1 : wks 1 c = wks 1 (c.take (psx ps c 0)) + wks 1 (c.drop (psx ps c 0)) := by rw [← wks_ap, List.take_append_drop]
        omega
      have r1 : rns (c.drop (psx ps c 0)) ≤ rns c := by
        have e1 : rns c = rns (c.take (psx ps c 0)) + rns (c.drop (psx ps c 0)) := by rw [← rns_ap, List.take_append_drop]
        omega
      refine l_parts7 ht hP hC hb0 BIG 0 0 X ([], []) ks (by decide) (Nat.zero_le _) ⟨⟨h.1, fun q hq => h.2.1 q (by omega)⟩, h.2.2.1, h.2.2.2, fun i G1 hG => absurd hG.symm (Option.some_ne_none _)⟩ hkt (by show 0 + _ ≤ _; omega) (by omega)
    · have hlt : k < ps.length := by omega
      refine pw_bd (l_header ht hP hC.1 hC.2.1 hlt h3 hkt (by omega) h) ?_
      rintro _ X19 ⟨ks1, q1, q2, q3⟩
      refine pw_let (pw_mono (ih (k + 1) _ X19 ks1 (by rw [ti_add (by rw [h3, lo1]; omega) (by rw [h3, lo1]; omega), h3, lo1]; omega) (by omega) q3 (hkt.trans q1) (by omega)) ?_)
      rintro _ Y ⟨r, ks2, y1, y2, y3⟩
      exact ⟨r, ks2, y1, q1.trans y2, y3⟩
end CALLS
