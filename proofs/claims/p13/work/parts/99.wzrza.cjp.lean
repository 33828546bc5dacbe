/-! the class's judge: the stack, guards, what must fit -/
section CJPS
variable {e g j n m s : Nat} {ch : Tx} {ps : List Pt} {told : Nat → Bool} {c : List Ins} {X0 X Y Z : St} {S : List SE} {J J1 : JS} {ks ks1 kt : List (List Int)} {d d1 w : List Int} {v v1 : Int32} {G : JG} {p : Int} {a : Ins}
theorem CJH.cg (h : CJH ps told X ks) (r : ∀ i k, 63 ≤ i ∧ i ≤ 65 → Y.1 i k = X.1 i k) : CJH ps told Y ks := fun k hk => by
  obtain ⟨b1, b2, b3⟩ := h k hk
  rw [r 64 _ (by omega), r 65 _ (by omega)]
  exact ⟨b1, b2, fun i d hd => by rw [r 63 _ (by omega)]; exact b3 i d hd⟩
theorem CGd.cg {i : Nat} (h : CGd X ks i G) (r : ∀ j, 56 ≤ j ∧ j ≤ 60 → Y.1 j i = X.1 j i) : CGd Y ks i G := by
  obtain ⟨b1, b2, b3, b4, b5⟩ := h
  exact ⟨by rw [r 56 (by omega)]; exact b1, by rw [r 59 (by omega)]; exact b2, by rw [r 60 (by omega)]; exact b3, by rw [r 57 (by omega)]; exact b4, by rw [r 58 (by omega)]; exact b5⟩
theorem l_any (ht : CPR e ch X0 ps told c kt) (h : CJT e X0 X ks) (hd : KC ks v d) : pw (g_Kinds_hasAny (e + 1) v X) (fun r Y => Y = X ∧ (r.toInt = 0 ↔ ¬ (3 : Int) ∈ d)) := by
  obtain ⟨z, a, b⟩ := hd
  have hz := (List.getElem?_eq_some_iff.mp b).1
  refine pw_mono (kk_hasAny (CJ.he ht).2 (j := z) (by rw [h.2.1.1.1]; omega) a (h.2.1.any b)) (fun r Y q => ⟨q.1, q.2.2⟩)
theorem l_push30 (ht : CPR e ch X0 ps told c kt) (h : CJ e ch ps told c X0 X g S J ks) (hd : KC ks v d) : pw (g_Judging_push_30 v X) (fun _ Y => CJ e ch ps told c X0 Y g S J ks) := by
  have he := ht.1.1
  have w66 : ∀ (Z : St) (b0 b1 : Int32), Z = X → pw (g_Judging_push_66 b0 b1 Z) (fun _ Y => CJ e ch ps told c X0 Y g S J ks) := fun Z b0 b1 z => by
    rw [z]
    unfold g_Judging_push_66
    exact pw_ck (fun _ => pw_eq (fun X5 e5 => pw_ret (by rw [e5]; exact h.id he (Or.inl rfl))))
  have w61 : ∀ (Z : St) (b0 : Int32), Z = X → pw (g_Judging_push_61 b0 Z) (fun _ Y => CJ e ch ps told c X0 Y g S J ks) := fun Z b0 z => by
    unfold g_Judging_push_61
    exact w66 Z _ _ z
  unfold g_Judging_push_30
  refine pw_eq (fun x2 e2 => pw_eq (fun x3 e3 => pw_ck (fun _ => pw_eq (fun x4 e4 => pw_ite (fun _ => pw_ck (fun _ => pw_to (h.1.1.rr ht).2.1 (pw_bd (l_any ht h.1.1 hd) ?_))) (fun _ => w61 X _ rfl)))))
  rintro x7 X8 ⟨e8, _⟩
  exact pw_ite (fun _ => w66 X8 _ _ e8) (fun _ => w61 X8 _ e8)
theorem l_push (ht : CPR e ch X0 ps told c kt) (h : CJ e ch ps told c X0 X g S J ks) (hd : KC ks v d) (hl : J.1.length < 3000) : pw (g_Judging_push v X) (fun _ Y => CJ e ch ps told c X0 Y g ((none, none, 0) :: S) (jpush d J) ks) := by
  have he := ht.1.1
  have l1 : (1 : Int32).toInt = 1 := by decide
  have h0 := h
  obtain ⟨⟨h1, h3⟩, ⟨a1, a2, a3, a4⟩, h4, h5, h6, h7⟩ := h
  unfold g_Judging_push
  refine pw_eq (fun x1 e1 => pw_neg (by rw [e1, a3]; omega) (pw_eq (fun x9 e9 => pw_ck (fun _ => pw_eq (fun X10 e10 => pw_eq (fun x11 e11 => pw_eq (fun x12 e12 => pw_eq (fun X13 e13 => ?_))))))))
  have i9 : ix x9 = J.1.length := ixn (by rw [e9]; exact a3)
  rw [i9] at e10
  have c11 : x11 = X.1 61 14 := by rw [e11, e10, wI_ne _ _ _ _ _ _ (by omega)]
  have v12 : x12.toInt = (J.1.length : Int) + 1 := by rw [e12, c11, ti_add (by rw [a3, l1]; omega) (by rw [a3, l1]; omega), a3, l1]
  have r : ∀ i k, ¬ i = 67 → ¬ (i = 61 ∧ k = 14) → X13.1 i k = X.1 i k := fun i k q1 q2 => by rw [e13, wI_ne _ _ _ _ _ _ (by omega), e10, wI_ne _ _ _ _ _ _ (by omega)]
  have hT : CJT e X0 X13 ks := by
    rw [e13, e10]
    exact (h1.wr he (by omega)).wr he (by omega)
  have J13 : CJ e ch ps told c X0 X13 g ((none, none, 0) :: S) (jpush d J) ks := by
    refine ⟨⟨hT, h3.cg (fun i k q => r i k (by omega) (by omega))⟩, ⟨by rw [r 61 _ (by omega) (by omega)]; exact a1, by rw [r 61 _ (by omega) (by omega)]; exact a2, ?_, by rw [r 55 _ (by omega) (by omega)]; exact a4⟩, fun i d1 hd1 => ?_, fun i w hw => ?_, fun x d hd => by rw [r 66 _ (by omega) (by omega)]; exact h6 x d hd, fun i G hG => (h7 i G hG).cg (fun j q => r j i (by omega) (by omega))⟩
    · rw [e13, wI_at]
      exact v12
    · show KC ks (X13.1 67 (J.1.length + 1 - 1 - i)) d1
      have hi := (List.getElem?_eq_some_iff.mp hd1).1
      have hi : i < J.1.length + 1 := hi
      cases i with
      | zero =>
        have hd1 : d = d1 := Option.some.inj hd1
        rw [show J.1.length + 1 - 1 - 0 = J.1.length by omega, e13, wI_ne _ _ _ _ _ _ (by omega), e10, wI_at, ← hd1]
        exact hd
      | succ i =>
        rw [show J.1.length + 1 - 1 - (i + 1) = J.1.length - 1 - i by omega, e13, wI_ne _ _ _ _ _ _ (by omega), e10, wI_ne _ _ _ _ _ _ (by omega)]
        exact h4 i d1 hd1
    · show (∀ q, w.1 = some q → q < c.length ∧ (X13.1 68 (J.1.length + 1 - 1 - i)).toInt = (q : Int)) ∧ (2 ≤ w.2.2 → (X13.1 69 (J.1.length + 1 - 1 - i)).toInt = tkr ch ps c g w.2.1)
      cases i with
      | zero =>
        have hw : (none, none, 0) = w := Option.some.inj hw
        rw [← hw]
        exact ⟨fun q z => absurd z.symm (Option.some_ne_none _), fun z => absurd z (by show ¬ 2 ≤ 0; omega)⟩
      | succ i =>
        rw [show J.1.length + 1 - 1 - (i + 1) = J.1.length - 1 - i by omega, r 68 _ (by omega) (by omega), r 69 _ (by omega) (by omega)]
        exact h5 i w hw
  exact l_push30 ht J13 hd
/-- what lies on top -/
theorem CJ.top (h : CJ e ch ps told c X0 X g S J ks) (hl : 1 ≤ J.1.length) : KC ks (X.1 67 (J.1.length - 1)) (hdK J.1) := by
  obtain ⟨K, r⟩ := J
  cases K with
  | nil => exact absurd hl (by show ¬ 1 ≤ 0; decide)
  | cons d K => exact h.2.2.1 0 d rfl
theorem l_pop (ht : CPR e ch X0 ps told c kt) (h : CJ e ch ps told c X0 X g S J ks) (hl : 1 ≤ J.1.length) : pw (g_Judging_pop X) (fun r Y => KC ks r (hdK J.1) ∧ CJ e ch ps told c X0 Y g (S.drop 1) (jpop 1 J) ks) := by
  have he := ht.1.1
  have l1 : (1 : Int32).toInt = 1 := by decide
  have a3 := h.2.1.2.2.1
  have b := (X.1 61 14).toInt_lt
  unfold g_Judging_pop
  refine pw_eq (fun x1 e1 => pw_pos (by rw [e1, a3]; omega) (pw_eq (fun x2 e2 => pw_eq (fun x3 e3 => pw_eq (fun X4 e4 => pw_eq (fun x5 e5 => pw_ck (fun _ => pw_eq (fun x6 e6 => pw_ret ?_))))))))
  have v3 : x3.toInt = (J.1.length : Int) - ((1 : Nat) : Int) := by rw [e3, e2, ti_sub (by rw [a3, l1]; omega) (by rw [a3, l1]; omega), a3, l1]; rfl
  have c5 : x5 = x3 := by rw [e5, e4, wI_at]
  have i5 : ix x5 = J.1.length - 1 := ixn (by rw [c5]; omega)
  refine ⟨?_, by rw [e4]; exact h.pop he (by omega) v3⟩
  rw [e6, i5, e4, wI_ne _ _ _ _ _ _ (by omega)]
  exact h.top hl
theorem ti_max (x : Int32) (h : 0 ≤ x.toInt) : (if (0 : Int32) < x then x else (0 : Int32)).toInt = x.toInt := by
  by_cases z : (0 : Int32) < x
  · rw [if_pos z]
  · rw [if_neg z]
    have := ti_nlt z
    have l0 : (0 : Int32).toInt = 0 := by decide
    omega
theorem l_replace (ht : CPR e ch X0 ps told c kt) (h : CJ e ch ps told c X0 X g S J ks) {p1 : Int32} (h1 : p1.toInt = (m : Int)) (hm : m ≤ J.1.length) (hd : KC ks v d) (hl : J.1.length - m < 3000) : pw (g_Judging_replace p1 v X) (fun _ Y => CJ e ch ps told c X0 Y g ((none, none, 0) :: S.drop m) (jpush d (jpop m J)) ks) := by
  have he := ht.1.1
  have a3 := h.2.1.2.2.1
  have b := (X.1 61 14).toInt_lt
  unfold g_Judging_replace
  refine pw_eq (fun x1 e1 => pw_eq (fun x2 e2 => pw_eq (fun x3 e3 => pw_eq (fun X4 e4 => ?_))))
  have v2 : x2.toInt = (J.1.length : Int) - m := by rw [e2, e1, ti_sub (by rw [a3, h1]; omega) (by rw [a3, h1]; omega), a3, h1]
  have v3 : x3.toInt = (J.1.length : Int) - m := by rw [e3, ti_max _ (by omega), v2]
  have hp := h.pop he hm v3
  rw [← e4] at hp
  exact pw_bd (l_push ht hp hd (by show (J.1.drop m).length < 3000; rw [List.length_drop]; exact hl)) (fun _ X5 h5 => pw_ret h5)
/-- a name is bound -/
theorem CJ.bind (he : e = 2 ∨ e = 24) {x : Nat} (h : CJ e ch ps told c X0 X g (S.drop 1) (jpop 1 J) ks) (hv : KC ks v d) : CJ e ch ps told c X0 (wI X 66 x v) g (S.drop 1) (J.1.tail, (fun k => if k = x then some d else J.2.1 k), J.2.2) ks := by
  obtain ⟨⟨h1, h3⟩, ⟨a1, a2, a3, a4⟩, h4, h5, h6, h7⟩ := h
  have r : ∀ i k, ¬ (i = 66 ∧ k = x) → (wI X 66 x v).1 i k = X.1 i k := fun i k z => wI_ne _ _ _ _ _ _ (by omega)
  have dt : J.1.drop 1 = J.1.tail := List.drop_one
  have a3 : (X.1 61 14).toInt = ((J.1.drop 1).length : Int) := a3
  have h4 : ∀ (i : Nat) (d : List Int), (J.1.drop 1)[i]? = some d → KC ks (X.1 67 ((J.1.drop 1).length - 1 - i)) d := h4
  have h5 : ∀ (i : Nat) (w : SE), (S.drop 1)[i]? = some w → (∀ q, w.1 = some q → q < c.length ∧ (X.1 68 ((J.1.drop 1).length - 1 - i)).toInt = (q : Int)) ∧ (2 ≤ w.2.2 → (X.1 69 ((J.1.drop 1).length - 1 - i)).toInt = tkr ch ps c g w.2.1) := h5
  rw [dt] at a3 h4 h5
  refine ⟨⟨h1.wr he (by omega), h3.cg (fun i k q => r i k (by omega))⟩, ⟨by rw [r 61 _ (by omega)]; exact a1, by rw [r 61 _ (by omega)]; exact a2, by rw [r 61 _ (by omega)]; exact a3, by rw [r 55 _ (by omega)]; exact a4⟩, fun i d hd => by rw [r 67 _ (by omega)]; exact h4 i d hd, fun i w hw => by rw [r 68 _ (by omega), r 69 _ (by omega)]; exact h5 i w hw, fun k f hf => ?_, fun i G hG => (h7 i G hG).cg (fun j q => r j i (by omega))⟩
  have hf : (if k = x then some d else J.2.1 k) = some f := hf
  by_cases z : k = x
  · rw [if_pos z] at hf
    rw [z, wI_at, ← Option.some.inj hf]
    exact hv
  · rw [if_neg z] at hf
    rw [r 66 _ (by omega)]
    exact h6 k f hf
theorem l_lay (ht : CPR e ch X0 ps told c kt) (h : CJ e ch ps told c X0 X g S J ks) {p1 p2 p3 p4 : Int32} {t : Int} (hc : J.2.2.2.length < 3000) (h1 : p1.toInt = (j : Int)) (hp : (X0.1 (e + 21) j).toInt = p) (h2 : KC ks p2 d) (h3 : KC ks p3 d1) (h4 : p4.toInt = t) : pw (g_Judging_layGuard p1 p2 p3 p4 X) (fun _ Y => CJ e ch ps told c X0 Y g S (jgd [(j, p, g, t, d, d1)] J) ks) := by
  have he := ht.1.1
  have l1 : (1 : Int32).toInt = 1 := by decide
  obtain ⟨k0, k13, k14, k15, k16⟩ := kYp he
  have rr := h.1.1.rr ht
  unfold g_Judging_layGuard
  refine pw_ck (fun _ => pw_to rr.1 (pw_to k15 (pw_ck (fun _ => pw_ck (fun _ => pw_to rr.1 (pw_to k16 (pw_ck (fun _ => pw_eq (fun x5 e5 => pw_eq (fun x6 e6 => ?_))))))))))
  have i1 : ix p1 = j := ixn h1
  have v5 : x5.toInt = p := by rw [e5, i1, rr.2.2 _ _ (by omega)]; exact hp
  obtain ⟨⟨q1, q3⟩, ⟨a1, a2, a3, a4⟩, q4, q5, q6, q7⟩ := h
  have v6 : x6.toInt = (g : Int) := by rw [e6]; exact a2
  refine pw_bd (R := fun _ Y => CJ e ch ps told c X0 Y g S (jgd [(j, p, g, t, d, d1)] J) ks) ?_ (fun x7 X8 h8 => pw_ck (fun _ => pw_eq (fun X9 e9 => pw_ret (by rw [e9]; exact h8.id he (Or.inr rfl)))))
  unfold g_Guards_lay
  refine pw_eq (fun y1 f1 => pw_pos (by rw [f1, a4]; omega) (pw_eq (fun y2 f2 => pw_ck (fun _ => pw_eq (fun X3 g3 => pw_eq (fun y4 f4 => pw_ck (fun _ => pw_eq (fun X5 g5 => pw_eq (fun y6 f6 => pw_ck (fun _ => pw_eq (fun X7 g7 => ?_)))))))))))
  have i2 : ix y2 = J.2.2.2.length := ixn (by rw [f2]; exact a4)
  rw [i2] at g3
  have r3 : ∀ i k, ¬ i = 56 → X3.1 i k = X.1 i k := fun i k z => by rw [g3, wI_ne _ _ _ _ _ _ (by omega)]
  have i4 : ix y4 = J.2.2.2.length := ixn (by rw [f4, r3 55 5 (by omega)]; exact a4)
  rw [i4] at g5
  have r5 : ∀ i k, ¬ i = 57 → X5.1 i k = X3.1 i k := fun i k z => by rw [g5, wI_ne _ _ _ _ _ _ (by omega)]
  have i6 : ix y6 = J.2.2.2.length := ixn (by rw [f6, r5 55 5 (by omega), r3 55 5 (by omega)]; exact a4)
  rw [i6] at g7
  have r7 : ∀ i k, ¬ i = 58 → X7.1 i k = X5.1 i k := fun i k z => by rw [g7, wI_ne _ _ _ _ _ _ (by omega)]
  refine pw_eq (fun y8 f8 => pw_ck (fun _ => pw_eq (fun X9 g9 => pw_eq (fun y10 f10 => pw_ck (fun _ => pw_eq (fun X11 g11 => pw_eq (fun y12 f12 => pw_eq (fun y13 f13 => pw_eq (fun X14 g14 => pw_eq (fun y15 f15 => pw_eq (fun y16 f16 => pw_ret ?_)))))))))))
  have i8 : ix y8 = J.2.2.2.length := ixn (by rw [f8, r7 55 5 (by omega), r5 55 5 (by omega), r3 55 5 (by omega)]; exact a4)
  rw [i8] at g9
  have r9 : ∀ i k, ¬ i = 59 → X9.1 i k = X7.1 i k := fun i k z => by rw [g9, wI_ne _ _ _ _ _ _ (by omega)]
  have i10 : ix y10 = J.2.2.2.length := ixn (by rw [f10, r9 55 5 (by omega), r7 55 5 (by omega), r5 55 5 (by omega), r3 55 5 (by omega)]; exact a4)
  rw [i10] at g11
  have r11 : ∀ i k, ¬ i = 60 → X11.1 i k = X9.1 i k := fun i k z => by rw [g11, wI_ne _ _ _ _ _ _ (by omega)]
  have rc : ∀ i k, ¬ (56 ≤ i ∧ i ≤ 60) → X11.1 i k = X.1 i k := fun i k z => by rw [r11 i k (by omega), r9 i k (by omega), r7 i k (by omega), r5 i k (by omega), r3 i k (by omega)]
  have v13 : y13.toInt = (J.2.2.2.length : Int) + 1 := by
    have c12 : y12 = X.1 55 5 := by rw [f12, rc 55 5 (by omega)]
    rw [f13, c12, ti_add (by rw [a4, l1]; omega) (by rw [a4, l1]; omega), a4, l1]
  have r : ∀ i k, ¬ (56 ≤ i ∧ i ≤ 60) → ¬ (i = 55 ∧ k = 5) → X14.1 i k = X.1 i k := fun i k z1 z2 => by rw [g14, wI_ne _ _ _ _ _ _ (by omega)]; exact rc i k z1
  have hT : CJT e X0 X14 ks := by
    rw [g14, g11, g9, g7, g5, g3]
    exact (((((q1.wr he (by omega)).wr he (by omega)).wr he (by omega)).wr he (by omega)).wr he (by omega)).wr he (by omega)
  refine ⟨⟨hT, q3.cg (fun i k q => r i k (by omega) (by omega))⟩, ⟨by rw [r 61 _ (by omega) (by omega)]; exact a1, by rw [r 61 _ (by omega) (by omega)]; exact a2, by rw [r 61 _ (by omega) (by omega)]; exact a3, ?_⟩, fun i d hd => by rw [r 67 _ (by omega) (by omega)]; exact q4 i d hd, fun i w hw => by rw [r 68 _ (by omega) (by omega), r 69 _ (by omega) (by omega)]; exact q5 i w hw, fun x d hd => by rw [r 66 _ (by omega) (by omega)]; exact q6 x d hd, fun i G hG => ?_⟩
  · rw [g14, wI_at, v13]
    show _ = ((J.2.2.2 ++ [_]).length : Int)
    rw [List.length_append, List.length_singleton]
    omega
  · have hG : (J.2.2.2 ++ [(j, p, g, t, d, d1)])[i]? = some G := hG
    have q : ∀ z, 56 ≤ z ∧ z ≤ 60 → ∀ k, X14.1 z k = X11.1 z k := fun z hz k => by rw [g14, wI_ne _ _ _ _ _ _ (by omega)]
    by_cases hi : i < J.2.2.2.length
    · rw [List.getElem?_append_left hi] at hG
      refine (q7 i G hG).cg (fun z hz => ?_)
      have b60 : X11.1 z i = X9.1 z i := by rw [g11, wI_ne _ _ _ _ _ _ (by omega)]
      have b59 : X9.1 z i = X7.1 z i := by rw [g9, wI_ne _ _ _ _ _ _ (by omega)]
      have b58 : X7.1 z i = X5.1 z i := by rw [g7, wI_ne _ _ _ _ _ _ (by omega)]
      have b57 : X5.1 z i = X3.1 z i := by rw [g5, wI_ne _ _ _ _ _ _ (by omega)]
      have b56 : X3.1 z i = X.1 z i := by rw [g3, wI_ne _ _ _ _ _ _ (by omega)]
      rw [q z hz, b60, b59, b58, b57, b56]
    · have hi2 : i = J.2.2.2.length := by
        have := (List.getElem?_eq_some_iff.mp hG).1
        rw [List.length_append, List.length_singleton] at this
        omega
      rw [hi2, List.getElem?_append_right (Nat.le_refl _), Nat.sub_self] at hG
      have hG : (j, p, g, t, d, d1) = G := Option.some.inj hG
      rw [hi2, ← hG]
      refine ⟨?_, ?_, ?_, ?_, ?_⟩
      · rw [q 56 (by omega), r11 56 _ (by omega), r9 56 _ (by omega), r7 56 _ (by omega), r5 56 _ (by omega), g3, wI_at]
        exact v5
      · rw [q 59 (by omega), r11 59 _ (by omega), g9, wI_at]
        exact h2
      · rw [q 60 (by omega), g11, wI_at]
        exact h3
      · rw [q 57 (by omega), r11 57 _ (by omega), r9 57 _ (by omega), r7 57 _ (by omega), g5, wI_at]
        exact v6
      · rw [q 58 (by omega), r11 58 _ (by omega), r9 58 _ (by omega), g7, wI_at]
        exact h4
theorem l_setTop (ht : CPR e ch X0 ps told c kt) (h : CJ e ch ps told c X0 X g S J ks) (hl : 1 ≤ J.1.length) (hv : KC ks v w) : pw (g_Judging_setTop v X) (fun _ Y => CJ e ch ps told c X0 Y g S (jset w J) ks) := by
  have l1 : (1 : Int32).toInt = 1 := by decide
  have a3 := h.2.1.2.2.1
  have b := (X.1 61 14).toInt_lt
  unfold g_Judging_setTop
  refine pw_eq (fun x1 e1 => pw_eq (fun x2 e2 => pw_eq (fun x3 e3 => pw_ck (fun _ => pw_eq (fun X4 e4 => pw_ret ?_)))))
  have v2 : x2.toInt = (J.1.length : Int) - 1 := by rw [e2, e1, ti_sub (by rw [a3, l1]; omega) (by rw [a3, l1]; omega), a3, l1]
  have i3 : ix x3 = J.1.length - 1 := ixn (by rw [e3, ti_max _ (by omega), v2]; omega)
  rw [e4, i3]
  exact h.set ht.1.1 hl hv rfl
theorem l_refuse (ht : CPR e ch X0 ps told c kt) (h : CJT e X0 X ks) {p1 p2 : Int32} (h2 : p2.toInt = (j : Int)) (hp : (X0.1 (e + 21) j).toInt = p) (h1 : ¬ p1.toInt = 0) : pw (g_Judging_refuse p1 p2 X) (fun _ Y => CJT e X0 Y ks ∧ (Y.1 61 4).toInt = p1.toInt ∧ (Y.1 61 5).toInt = p ∧ ¬ p1.toInt = 0 ∧ Y.1 61 14 = X.1 61 14 ∧ Y.1 61 3 = X.1 61 3) := by
  have he := ht.1.1
  obtain ⟨k0, k13, k14, k15, k16⟩ := kYp he
  unfold g_Judging_refuse
  refine pw_eq (fun X1 e1 => ?_)
  have hT : CJT e X0 X1 ks := by rw [e1]; exact h.wr he (by omega)
  have rr := hT.rr ht
  refine pw_ck (fun _ => pw_to rr.1 (pw_to k16 (pw_ck (fun _ => pw_eq (fun x4 e4 => pw_eq (fun X5 e5 => pw_ret ?_))))))
  rw [e5]
  refine ⟨hT.wr he (by omega), by rw [wI_ne _ _ _ _ _ _ (by omega), e1, wI_at], ?_, h1, by rw [wI_ne _ _ _ _ _ _ (by omega), e1, wI_ne _ _ _ _ _ _ (by omega)], by rw [wI_ne _ _ _ _ _ _ (by omega), e1, wI_ne _ _ _ _ _ _ (by omega)]⟩
  rw [wI_at, e4, ixn h2, rr.2.2 _ _ (by omega)]
  exact hp
theorem l_meet (ht : CPR e ch X0 ps told c kt) (h : CJ e ch ps told c X0 X g S J ks) {p1 p2 p3 : Int32} {t : Int} (hl : 1 ≤ J.1.length) (hc : J.2.2.2.length < 3000) (h1 : p1.toInt = (j : Int)) (hp : (X0.1 (e + 21) j).toInt = p) (h2 : KC ks p2 w) (h3 : p3.toInt = t) : pw (g_Judging_meet p1 p2 p3 X) (fun _ Y => ∃ r, jmeet g j p t w J r ∧ CJr e ch ps told c X0 Y g S ks r) := by
  have he := ht.1.1
  have l9 : (9 : Int32).toInt = 9 := by decide
  unfold g_Judging_meet
  refine pw_bd (l_below (i := 0) h (by decide) (by omega)) ?_
  rintro x1 X2 ⟨e2, k1⟩
  rw [e2]
  have hd0 : J.1.getD 0 [3] = hdK J.1 := by
    unfold hdK
    rw [List.headD_eq_head?_getD, List.head?_eq_getElem?, List.getD_eq_getElem?_getD]
  rw [hd0] at k1
  obtain ⟨z1, a1, b1⟩ := k1
  obtain ⟨z2, a2, b2⟩ := h2
  have hT := h.1.1
  refine pw_ck (fun _ => pw_to (hT.rr ht).2.1 (pw_bd (kk_fit (CJ.he ht).2 hT.2.1 hT.2.2.1 a1 a2 b1 b2 (hT.2.2.2 _ (List.mem_of_getElem? b1)) (hT.2.2.2 _ (List.mem_of_getElem? b2))) ?_))
  rintro x4 X5 ⟨e5, f4⟩
  rw [e5]
  refine pw_ite (fun c4 => ?_) (fun c4 => ?_)
  · refine pw_bd (l_refuse (p1 := 9) ht hT h1 hp (by decide)) (fun _ X8 h8 => pw_ret ⟨_, Or.inl ⟨f4.mp c4, rfl⟩, ?_⟩)
    rw [l9] at h8
    exact ⟨h8.1, h8.2.1, h8.2.2.1, h8.2.2.2.1⟩
  · have ft : FT (hdK J.1) w := Classical.byContradiction (fun z => c4 (f4.mpr z))
    have ke := KC.eq hT (KC.at b1 a1) (KC.at b2 a2)
    refine pw_ite (fun c5 => pw_ret ⟨Sum.inl J, Or.inr (Or.inl ⟨ft, ke.mp c5, rfl⟩), h⟩) (fun c5 => ?_)
    refine pw_bd (l_lay (t := t) ht h hc h1 hp (KC.at b1 a1) (KC.at b2 a2) h3) (fun _ X6 h6 => ?_)
    exact pw_bd (l_setTop ht h6 hl (KC.at b2 a2)) (fun _ X7 h7 => pw_ret ⟨_, Or.inr (Or.inr ⟨ft, fun z => c5 (ke.mpr z), rfl⟩), h7⟩)
theorem l_form (ht : CPR e ch X0 ps told c kt) (h : CJ e ch ps told c X0 X g S J ks) {p1 p2 p3 : Int32} {s : Int} (hl : 1 ≤ J.1.length) (hc : J.2.2.2.length < 3000) (h1 : p1.toInt = (j : Int)) (hp : (X0.1 (e + 21) j).toInt = p) (h2 : p2.toInt = s) (h3 : KC ks p3 w) : pw (g_Judging_meetForm p1 p2 p3 X) (fun _ Y => (∃ r, jform g j p s w J r ∧ CJr e ch ps told c X0 Y g S ks r) ∧ Y.1 61 14 = X.1 61 14 ∧ Y.1 61 3 = X.1 61 3) := by
  have he := ht.1.1
  have l9 : (9 : Int32).toInt = 9 := by decide
  have l2 : (2 : Int32).toInt = 2 := by decide
  have hT := h.1.1
  unfold g_Judging_meetForm
  refine pw_bd (l_below (i := 0) h (by decide) (by omega)) ?_
  rintro x1 X2 ⟨e2, k1⟩
  rw [e2]
  have hd0 : J.1.getD 0 [3] = hdK J.1 := by
    unfold hdK
    rw [List.headD_eq_head?_getD, List.head?_eq_getElem?, List.getD_eq_getElem?_getD]
  rw [hd0] at k1
  have ke := KC.eq hT k1 (KC.pl hT.2.2.1).2.2.1
  rw [l2] at ke
  refine pw_ite (fun c1 => ?_) (fun c1 => ?_)
  · have hd := ke.mp c1
    rw [hd] at k1
    refine pw_eq (fun x7 e7 => pw_bd (l_lay (t := (g : Int)) ht h hc h1 hp k1 h3 (by rw [e7]; exact h.2.1.2.1)) (fun _ X8 h8 => ?_))
    refine pw_bd (l_setTop ht h8 hl h3) (fun _ X9 h9 => pw_ret ⟨⟨_, Or.inl ⟨hd, rfl⟩, h9⟩, ?_, ?_⟩)
    · have q1 := h9.2.1.2.2.1
      have q2 := h.2.1.2.2.1
      have q3 : (jset w (jgd [(j, p, g, (g : Int), [3], w)] J)).1.length = J.1.length := by
        show (w :: J.1.tail).length = _
        rw [List.length_cons, List.length_tail]
        omega
      rw [q3] at q1
      exact Int32.toInt_inj.mp (q1.trans q2.symm)
    · exact Int32.toInt_inj.mp (h9.2.1.2.1.trans h.2.1.2.1.symm)
  · have hd : ¬ hdK J.1 = [3] := fun z => c1 (ke.mpr z)
    obtain ⟨z1, b1, b2⟩ := k1
    refine pw_ck (fun _ => pw_to (hT.rr ht).2.1 (pw_bd (kk_sortOf (CJ.he ht).2 hT.2.1 b1 b2) ?_))
    rintro x4 X5 ⟨e5, s4⟩
    rw [e5]
    refine pw_ite (fun c4 => pw_ret ⟨⟨_, Or.inr (Or.inl ⟨hd, by omega, rfl⟩), h⟩, rfl, rfl⟩) (fun c4 => ?_)
    refine pw_bd (l_refuse (p1 := 9) ht hT h1 hp (by decide)) (fun _ X8 h8 => pw_ret ⟨⟨_, Or.inr (Or.inr ⟨hd, by omega, rfl⟩), ?_⟩, h8.2.2.2.2.1, h8.2.2.2.2.2⟩)
    rw [l9] at h8
    exact ⟨h8.1, h8.2.1, h8.2.2.1, h8.2.2.2.1⟩
end CJPS
