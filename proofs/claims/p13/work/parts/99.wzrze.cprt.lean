/-! the class's judge goes over the parts -/
/-- where part k begins; behind the last one the code's end -/
def psx (ps : List Pt) (c : List Ins) (k : Nat) : Nat := match ps[k]? with
  | some p => p.2.2.2.2.2
  | none => c.length
/-- between parts -/
def CG (e : Nat) (ps : List Pt) (told : Nat → Bool) (X0 X : St) (ks : List (List Int)) (G : List JG) : Prop := (CJT e X0 X ks ∧ CJH ps told X ks) ∧ (X.1 61 4).toInt = 0 ∧ (X.1 55 5).toInt = (G.length : Int) ∧ ∀ (i : Nat) (G1 : JG), G[i]? = some G1 → CGd X ks i G1
/-- the parts of the program -/
def CPP (e : Nat) (X0 : St) (ps : List Pt) (c : List Ins) (kt : List (List Int)) : Prop := (∀ k p, ps[k]? = some p → (X0.1 (e + 13) k).toInt = (p.2.2.2.1.length : Int) ∧ (X0.1 (e + 17) k).toInt = (p.2.2.2.2.2 : Int)) ∧ (X0.1 (e + 17) ps.length).toInt = (c.length : Int) ∧ (X0.1 e 1).toInt = (ps.length : Int) ∧ PKSq e X0 ps kt
/-- the code of the parts -/
def CPC (ch : Tx) (W : St) (ps : List Pt) (c : List Ins) (po : Nat → Nat) : Prop := PWd ps ∧ ps.length ≤ 40 ∧ ∀ k p, ps[k]? = some p → (PRT W (nrp ch ps) c po k p.2.2.2.2.2 (pend ps c k) ∧ (W.1 15 k).toInt = (p.2.2.2.1.length : Int)) ∧ ∀ a ∈ pcd ps c k, PIq k a ∧ (a.1 = 34 → a.2.1 = 0) ∧ (a.1 = 5 → 0 ≤ a.2.1 ∧ a.2.1 ≤ 43)
/-- what the class's judging leaves -/
def CJf (e : Nat) (ps : List Pt) (told : Nat → Bool) (X0 Y : St) (ks : List (List Int)) : Sum (List JG × List Bool) (Int × Int) → Prop
  | Sum.inl G => CG e ps told X0 Y ks G.1
  | Sum.inr f => CJT e X0 Y ks ∧ (Y.1 61 4).toInt = f.1 ∧ (Y.1 61 5).toInt = f.2 ∧ ¬ f.1 = 0
section CPRTS
variable {e g j n m k : Nat} {ch : Tx} {ps : List Pt} {told : Nat → Bool} {c : List Ins} {X0 X Y Z W : St} {S S1 : List SE} {J J1 : JS} {ks ks1 kt : List (List Int)} {d : List Ins} {v v1 p1 p2 : Int32} {G : List JG} {a : Ins} {p : Pt} {l : List (List Int)} {an : Bool} {x : List Int} {po : Nat → Nat} {L : Nat}
theorem CJ.cg (h : CJ e ch ps told c X0 X g S J ks) : CG e ps told X0 X ks J.2.2.2 := ⟨h.1, h.2.1.1, h.2.1.2.2.2, h.2.2.2.2.2⟩
theorem wks_ap2 (c c1 : List Ins) : wks L (c ++ c1) = wks L c + wks L c1 := wks_ap c c1
theorem rns_ap (c c1 : List Ins) : rns (c ++ c1) = rns c + rns c1 := by
  unfold rns
  rw [List.map_append, List.sum_append]
theorem pst_x (hk : ps[k]? = some p) : pst ps k = p.2.2.2.2.2 ∧ psx ps c k = p.2.2.2.2.2 := by
  refine ⟨?_, ?_⟩
  · unfold pst
    rw [pt_getD hk]
  · unfold psx
    rw [hk]
theorem pcd_sp {nr : Int → Int} (hk : ps[k]? = some p) (h : PRT W nr c po k p.2.2.2.2.2 (pend ps c k)) : c.drop (psx ps c k) = pcd ps c k ++ c.drop (psx ps c (k + 1)) ∧ pst ps k + (pcd ps c k).length = pend ps c k ∧ shl (pst ps k) [] (pcd ps c k) = [] := by
  obtain ⟨dd, a1, a2, a3, a4⟩ := h
  have e0 : ps.getD k (0, 0, [], [], [], 0) = p := pt_getD hk
  obtain ⟨q1, q2⟩ := pst_x (c := c) hk
  obtain ⟨l1, l2, h1, h2, _⟩ := a1
  have e : pcd ps c k = dd := by
    unfold pcd
    rw [e0]
    rw [← a2, ← h2, h1, List.take_append, List.take_of_length_le (by omega), show l1.length + dd.length - l1.length = dd.length by omega, List.take_left, List.drop_left]
  have ex : psx ps c (k + 1) = pend ps c k := rfl
  rw [e, ex, q1, q2]
  refine ⟨?_, a2, a3.2.2.2⟩
  rw [← a2, ← h2]
  have d1 : List.drop l1.length c = dd ++ l2 := by rw [h1, List.drop_left]
  rw [← List.drop_drop, d1, List.drop_left]
theorem CG.cj (he : e = 2 ∨ e = 24) (h : CG e ps told X0 X ks G) {v3 v14 : Int32} (h3 : v3.toInt = (g : Int)) (h14 : v14.toInt = 0) : CJ e ch ps told c X0 (wI (wI X 61 3 v3) 61 14 v14) g [] ([], (fun x => (l.take 0)[x]?), an, G) ks := by
  obtain ⟨⟨h1, h2⟩, h4, h55, h7⟩ := h
  have r : ∀ i k, ¬ (i = 61 ∧ (k = 3 ∨ k = 14)) → (wI (wI X 61 3 v3) 61 14 v14).1 i k = X.1 i k := fun i k z => by rw [wI_ne _ _ _ _ _ _ (by omega), wI_ne _ _ _ _ _ _ (by omega)]
  refine ⟨⟨(h1.wr he (by omega)).wr he (by omega), h2.cg (fun i k q => r i k (by omega))⟩, ⟨by rw [r 61 _ (by omega)]; exact h4, by rw [wI_ne _ _ _ _ _ _ (by omega), wI_at]; exact h3, by rw [wI_at]; exact h14, by rw [r 55 _ (by omega)]; exact h55⟩, fun i d hd => absurd hd.symm (Option.some_ne_none _), fun i w hw => absurd hw.symm (Option.some_ne_none _), fun x d hd => absurd hd.symm (Option.some_ne_none _), fun i G hG => (h7 i G hG).cg (fun z q => r z i (by omega))⟩
theorem CJ.par (he : e = 2 ∨ e = 24) {i : Nat} (h : CJ e ch ps told c X0 X g [] ([], (fun x => (l.take i)[x]?), an, G) ks) (hv : KC ks v x) (hd : l[i]? = some x) : CJ e ch ps told c X0 (wI X 66 i v) g [] ([], (fun x => (l.take (i + 1))[x]?), an, G) ks := by
  have h1 : CJ e ch ps told c X0 X g (([] : List SE).drop 1) (jpop 1 ([], (fun x => (l.take i)[x]?), an, G)) ks := h
  have h2 := CJ.bind he (x := i) h1 hv
  have eq : (fun k => if k = i then some x else (l.take i)[k]?) = (fun x => (l.take (i + 1))[x]?) := by
    funext y
    rw [List.take_add_one, hd]
    have hi := (List.getElem?_eq_some_iff.mp hd).1
    have ln : (l.take i).length = i := by rw [List.length_take]; omega
    show _ = (l.take i ++ [x])[y]?
    by_cases z : y = i
    · rw [if_pos z, z, List.getElem?_append_right (by rw [ln]; exact Nat.le_refl _), ln, Nat.sub_self]
      rfl
    · rw [if_neg z]
      by_cases u : y < i
      · rw [List.getElem?_append_left (by rw [ln]; exact u)]
      · rw [List.getElem?_eq_none (by rw [ln]; omega), List.getElem?_eq_none (by rw [List.length_append, ln, List.length_singleton]; omega)]
  have h3 : CJ e ch ps told c X0 (wI X 66 i v) g [] ([], (fun k => if k = i then some x else (l.take i)[k]?), an, G) ks := h2
  rw [eq] at h3
  exact h3
/-- one part -/
theorem l_params (ht : CPR e ch X0 ps told c kt) (hP : CPP e X0 ps c kt) (hC : CPC ch W ps c po) (hk : k < ps.length) {a1 : Int32} (h1 : a1.toInt = (k : Int)) {R1 R2 : Nat} (hkt : kt <+: ks) (hb0 : wks 0 (pcd ps c k) ≤ 3000) (hb1 : G.length + wks 1 (pcd ps c k) + R1 ≤ 3000) (hb2 : ks.length + rns (pcd ps c k) + R2 ≤ 1549) : ∀ (M i : Nat) (a2 : Int32) (X : St), a2.toInt = (i : Int) → i ≤ (pks ps told k).length → CJ e ch ps told c X0 X k [] ([], (fun x => ((pks ps told k).take i)[x]?), (js0 ps told k G).2.2.1, G) ks → pw (g_Judging_judgePart_12 M a1 a2 X) (fun _ Y => CSr e ch ps told c X0 Y k (pst ps k) [] (pcd ps c k) (js0 ps told k G) ks R1 R2) := by
  have lo1 : (Int32.ofInt 1).toInt = 1 := by decide
  have l4 : (4 : Int32).toInt = 4 := by decide
  have he := ht.1.1
  obtain ⟨hW, hp, hpr⟩ := hC
  obtain ⟨p, hpt⟩ : ∃ p, ps[k]? = some p := ⟨_, List.getElem?_eq_getElem hk⟩
  obtain ⟨⟨hr, h15⟩, hin⟩ := hpr k p hpt
  obtain ⟨q1, q2, q3⟩ := pcd_at hpt hr
  obtain ⟨s1, s2, s3⟩ := pcd_sp hpt hr
  obtain ⟨x1, x2⟩ := pst_x (c := c) hpt
  have ln := pks_ln (told := told) hpt
  obtain ⟨c13, c17⟩ := hP.1 k p hpt
  have k13 := (kYq he).2.2.2.2.2.1
  have k17 := (kYq he).2.1
  have f := wk_fks (told := told) hW hk
  have hE : (X0.1 (e + 17) (k + 1)).toInt = (pend ps c k : Int) := by
    unfold pend
    by_cases z : k + 1 < ps.length
    · have := (hP.1 (k + 1) _ (List.getElem?_eq_getElem z)).2
      rw [List.getElem?_eq_getElem z]
      exact this
    · rw [List.getElem?_eq_none (by omega), show k + 1 = ps.length by omega]
      exact hP.2.1
  have hO : JOK p.2.2.2.1.length [] (js0 ps told k G) := by
    refine ⟨rfl, fun d hd => absurd hd List.not_mem_nil, fun i w k1 hw => absurd hw.symm (Option.some_ne_none _), fun x hx => ?_, fun x d hd => ?_⟩
    · exact ⟨_, List.getElem?_eq_getElem (by rw [ln]; exact hx)⟩
    · have hd : (pks ps told k)[x]? = some d := hd
      exact (f.2.1 d (List.mem_of_getElem? hd)).up (by omega)
  have hD : DLk p.2.2.2.1.length (pcd ps c k) := by
    have := q3 p.2.2.2.1.length [] (by omega) (fun _ _ => trivial)
    rw [List.append_nil] at this
    exact this
  have hcd : ∀ i a, (pcd ps c k)[i]? = some a → c[pst ps k + i]? = some a := fun i a hi => by
    have il := (List.getElem?_eq_some_iff.mp hi).1
    have : (c.drop (psx ps c k))[i]? = some a := by rw [s1, List.getElem?_append_left il]; exact hi
    rw [List.getElem?_drop, x2, ← x1] at this
    exact this
  have mk0 : mk [] = 0 := rfl
  intro M
  induction M with
  | zero => exact fun _ _ _ _ _ _ => pw_none
  | succ M ih =>
    intro i a2 X h2 hi h
    have eu : g_Judging_judgePart_12 (M + 1) = g_Judging_judgePart_12_s (g_Judging_judgePart_12 M) := by
      unfold g_Judging_judgePart_12
      exact lp_succ _ _ _
    rw [eu]
    unfold g_Judging_judgePart_12_s
    have rr := h.1.1.rr ht
    have fr := h.1.1.1.2
    refine pw_ck (fun _ => pw_to rr.1 (pw_to k13 (pw_ck (fun _ => pw_eq (fun x5 e5 => ?_)))))
    have v5 : x5.toInt = ((pks ps told k).length : Int) := by rw [e5, ixn h1, fr _ _ (by omega) (by omega) (by omega), c13, ln]
    refine pw_ite (fun c5 => ?_) (fun c5 => ?_)
    · have ei : i = (pks ps told k).length := by
        clear k13 k17
        omega
      refine pw_ck (fun _ => pw_to rr.1 (pw_to k17 (pw_ck (fun _ => pw_eq (fun x8 e8 => ?_)))))
      have h0 : CJ e ch ps told c X0 X k [] (js0 ps told k G) ks := by
        rw [ei, List.take_length] at h
        exact h
      have v8 : x8.toInt = (pst ps k : Int) := by rw [e8, ixn h1, fr _ _ (by omega) (by omega) (by omega), c17, x1]
      clear k13 k17
      exact l_seg (W := W) ht hW hk hp h1 (R1 := R1) (R2 := R2) hE (pcd ps c k) (pst ps k) false (po k) [] p.2.2.2.1.length (js0 ps told k G) X ks h0 hO q1 hD hin (by have := f.2.2.1; omega) hkt hcd s2 (by show 0 + _ ≤ _; omega) (by show G.length + 0 + _ + _ ≤ _; omega) hb2 BIG x8 v8
    · have hlt : i < (pks ps told k).length := by
        clear k13 k17
        omega
      clear k13 k17
      have h4 := f.2.2.1
      refine pw_eq (fun x39 e39 => pw_eq (fun x40 e40 => pw_ck (fun _ => pw_eq (fun x41 e41 => pw_ck (fun _ => pw_eq (fun X42 e42 => pw_let (ih (i + 1) _ X42 ?_ (by omega) ?_)))))))
      · rw [ti_add (by rw [h2, lo1]; omega) (by rw [h2, lo1]; omega), h2, lo1]; omega
      · have v39 : x39.toInt = 4 * (k : Int) := by rw [e39, ti_mul (by rw [l4, h1]; omega) (by rw [l4, h1]; omega), l4, h1]; omega
        have i40 : ix x40 = 4 * k + i := ixn (by rw [e40, ti_add (by rw [v39, h2]; omega) (by rw [v39, h2]; omega), v39, h2]; omega)
        have hx : (pks ps told k)[i]? = some (pks ps told k)[i] := List.getElem?_eq_getElem hlt
        have kv := (h.1.2 k hk).2.2 i _ hx
        rw [e42, ixn h2]
        exact CJ.par he h (by rw [e41, i40]; exact kv) hx
end CPRTS
