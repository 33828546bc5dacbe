/-! the reference reads a part -/
section RPART
variable {ch : Tx} {n q : Nat} {X Y Z X0 : St} {o : Int} {sc : List Nm} {j N N1 s N0 m : Nat} {Q : Int32 → St → Prop} {c c1 : List Ins} {ps : List Pt} {l : Nm}
theorem HH.dm {α : Type} {D D1 : Prop} {C : α → Prop} {S : Option α} (h : HH D C S) (g : D → D1) : HH D1 C S := ⟨fun e => g (h.1 e), h.2⟩
theorem PCq.done (h : PCq ch X ps l m) (h18 : (Y.1 0 18).toInt = (ps.length : Int) + 1) (g : (∀ k, Y.2.1 11 k = X.2.1 11 k) ∧ (∀ k, Y.1 12 k = X.1 12 k) ∧ ∀ k, Y.1 15 k = X.1 15 k) {p : Pt} (hp : p.2.2.1 = l) (hm : p.2.2.2.1.length = m) : PAq ch Y (ps ++ [p]) := by
  obtain ⟨⟨A1, A2⟩, B, C, D⟩ := h
  refine ⟨by rw [h18, List.length_append, List.length_singleton]; omega, fun k r hk => ?_⟩
  rw [g.1, g.2.1, g.2.2]
  by_cases e : k < ps.length
  · rw [List.getElem?_append_left e] at hk
    exact A2 k r hk
  · have e2 : k = ps.length := by
      have := (List.getElem?_eq_some_iff.mp hk).1
      rw [List.length_append, List.length_singleton] at this
      omega
    rw [e2, List.getElem?_append_right (Nat.le_refl _), Nat.sub_self] at hk
    have hk : p = r := Option.some.inj hk
    rw [← hk, e2, hp, hm]
    exact ⟨B, C, D⟩
theorem x_exprd (h : XS ch n X q 0 sc j N) (hM : NMr ch X N c) : pw (f_expression X) (fun r Y => (∃ a N1, sE ch 0 sc q c = some a ∧ XS ch n Y a.1 0 sc 0 N1 ∧ NMr ch Y N1 a.2 ∧ KP X Y 0 N sc.length ∧ ∃ (t : Nat) (d : List Ins), r.toInt = (t : Int) ∧ a.2 = c ++ d ∧ OM ch Y N N1 t c.length d) ∨ (sE ch 0 sc q c = none ∧ wrX Y)) := x_expr h hM ⟨fun e r Z hd => Or.inr ⟨e, hd⟩, fun a ea Y N1 r hX hN hK hO => Or.inl ⟨a, N1, ea, hX, hN, hK, hO⟩⟩
/-- where a part has ended -/
def CPd (ch : Tx) (n : Nat) (sc : List Nm) (ps : List Pt) (l : Nm) (pp : List (Nm × List Int)) (kd : List Int) (md : Nat × Nat × Nat) (i : Nat) (Q : Int32 → St → Prop) (s : Out) : Prop := ∀ Y z N1, XS ch n Y s.1 0 sc 0 N1 → NMr ch Y N1 s.2 → (∀ p : Pt, p.2.2.1 = l → p.2.2.2.1 = pp → p.2.2.2.2.1 = kd → p.2.2.2.2.2 = i → (p.1, p.2.1, p.2.2.1.length) = md → PAq ch Y (ps ++ [p]) ∧ PBq ch Y (ps ++ [p]) s.2 N1) → KU Y → Q z Y
theorem fq44 {e k : Nat} (h : 12 ≤ e ∧ e ≤ 18) : cq e k ∉ Lw44 := by
  unfold cq Lw44
  rw [if_neg (by omega)]
  intro m
  simp only [List.mem_cons, List.not_mem_nil, or_false] at m
  omega
theorem x_p166 {a1 : Int32} {pp : List (Nm × List Int)} {kd : List Int} {md : Nat × Nat × Nat} (h : XS ch n X q 0 sc j N) (hM : NMr ch X N c) (ha : a1.toInt = (ps.length : Int)) (hP : PCq ch X ps l pp.length) (hB : PQq ch X ps c N pp (kd, md)) (hk : ps.length < 40) (H : HH (DQ Q) (fun q5 => HH (DQ Q) (fun r : Out => HH (DQ Q) (CPd ch n sc ps l pp kd md c.length Q) (sEnd ch ps.length r.1 r.2 c.length)) (sE ch 0 sc q5 c)) (sWant ch 61 q)) : pw (f_part__V_166 a1 X) Q := by
  have l1 : (1 : Int32).toInt = 1 := by decide
  have l61 : (61 : Int32).toInt = 61 := by decide
  have l59 : (59 : Int32).toInt = 59 := by decide
  have k35 : ¬ (35 : Int) = 4 := by decide
  have k17 : ¬ (17 : Int) = 4 := by decide
  unfold f_part__V_166
  refine pw_bd (x_takes h (by decide)) ?_
  rintro _ X27 (⟨ht, g27, t27⟩ | ⟨ht, hd⟩)
  · rw [l61] at ht
    have H := H.wa ht
    refine pw_bd (q_well g27.w0) ?_
    rintro x28 X29 ⟨e29, h28⟩
    rw [e29]
    refine pw_neg h28 ?_
    refine pw_bd (pw_and (x_exprd g27 (hM.tn t27)) fw_expression) ?_
    rintro x30 X31 ⟨(⟨a, N1, ea, g31, m31, k31, t31, d31, hr31, ed31, od31⟩ | ⟨ea, hd⟩), f31⟩
    · have H := H.2 a ea
      rw [ixn ha]
      refine pw_ck (fun _ => pw_eq (fun X32 e32 => ?_))
      have g32 : XS ch n X32 a.1 0 sc 0 N1 := by rw [e32]; exact g31.wI (by omega)
      have r31 : ∀ e k, 12 ≤ e ∧ e ≤ 18 → X31.1 e k = X27.1 e k := fun e k he => f31.1 e k (fq44 he)
      have b27 : PQq ch X27 ps c N pp (kd, md) := hB.tn h.kj t27
      have b31 : PQq ch X31 ps c N pp (kd, md) := b27.sp g27.kj (SPb.kp k31 r31) (fun i _ => r31 16 _ (by omega)) (SPc.of (fun e he => r31 e _ (by omega)))
      have x32 : KXq X31 X32 := KXq.of (fun e k q => by rw [e32, wI_ne _ _ _ _ _ _ (by omega)])
      have b32 : PQq ch X32 ps c N pp (kd, md) := b31.sp g31.kj (by rw [e32]; exact SPb.wI (by omega)) (fun i hi => by rw [e32, wI_ne _ _ _ _ _ _ (by omega)]) (SPc.of (fun e he => by rw [e32, wI_ne _ _ _ _ _ _ (by omega)]))
      have od32 : OM ch X32 N N1 t31 c.length d31 := by rw [e32]; exact od31.wI g31.kj (by omega)
      have at32 : (X32.1 18 ps.length).toInt = (t31 : Int) := by rw [e32, wI_at]; exact hr31
      have m32 : NMr ch X32 N1 a.2 := by rw [e32]; exact m31.wI (by omega)
      have s32 : SPt X31 X32 := by rw [e32]; exact SPt.wI (by omega)
      unfold sEnd at H
      refine pw_bd (x_takes g32 (by decide)) ?_
      rintro _ X33 (⟨ht2, g33, t33⟩ | ⟨ht2, hd⟩)
      · rw [l59] at ht2
        have H := (H.b.wa ht2).s
        have P := (((hP.sp (SPt.tn t27)).sp (SPt.fq f31 (by decide))).sp s32).sp (SPt.tn t33)
        refine pw_let (pw_eq (fun x35 e35 => pw_eq (fun X36 e36 => pw_ret ?_)))
        have h18 := P.1.1
        have v35 : x35.toInt = (ps.length : Int) + 1 := by rw [e35, ti_add (by rw [h18, l1]; omega) (by rw [h18, l1]; omega), h18, l1]
        have y36 : SPb X33 X36 (ps.length + 1) N1 := by rw [e36]; exact SPb.wI (by omega)
        have y33 : SPb X32 X33 (ps.length + 1) N1 := SPb.tn t33
        have y32 := y33.tr y36
        have q36 : ∀ i, X36.1 16 i = X32.1 16 i := fun i => by rw [e36, wI_ne _ _ _ _ _ _ (by omega)]; exact t33.1 16 _ (by omega)
        have B36 : PBq ch X36 ps c N := b32.1.sp g32.kj ⟨fun k hk => y32.1 k (by omega), fun k hk => y32.2.1 k (by omega), fun e k he hk => y32.2.2.1 e k he (by have := od31.bd; omega), fun k hk => y32.2.2.2.1 k (by have := od31.bd; omega), y32.2.2.2.2⟩
        have K36 : KPn X36 ps.length pp := b32.2.1.st g32.kj y32.2.2.2.2.1 (fun i _ => q36 _)
        have O36 : KOw X36 ps.length kd := b32.2.2.2.1.of g32.kj y32.2.2.2.2.1 (y32.1 ps.length (by omega)).1
        have M36 : MDa X36 ps.length md := MDa.sp (k0 := ps.length + 1) (N := N1) b32.2.2.2.2 (by omega) y32
        have D36 : BOd ch X36 N1 ps.length ((a.2 ++ [((35, (ps.length : Int), plc a.2 c.length, []) : Ins)]) ++ [((17, 0, plc (a.2 ++ [((35, (ps.length : Int), plc a.2 c.length, []) : Ins)]) c.length, []) : Ins)]) c.length (c.length + d31.length + 2) := by
          refine BOd.sp (k0 := ps.length + 1) (N := N1) (X := X32) ⟨N, N1, t31, d31, c, [], at32, od32, Nat.le_refl _, rfl, ?_, rfl⟩ g32.kj (by omega) y32
          have e1 : plc a.2 c.length = plh d31 := by rw [ed31, plc_ap]
          have e2 : plc (a.2 ++ [((35, (ps.length : Int), plh d31, []) : Ins)]) c.length = plh d31 := by rw [ed31, List.append_assoc, plc_ap, plh_ap od31.ne]
          rw [e1, e2, ed31]
          simp only [List.append_assoc, List.cons_append, List.nil_append]
        refine H X36 _ N1 (by rw [e36]; exact g33.wz (by decide)) ?_ (fun p hp1 hp2 hp3 hp4 hp5 => ⟨P.done (by rw [e36, wI_at]; exact v35) ⟨fun k => by rw [e36]; rfl, fun k => by rw [e36, wI_ne _ _ _ _ _ _ (by omega)], fun k => by rw [e36, wI_ne _ _ _ _ _ _ (by omega)]⟩ hp1 (by rw [hp2]), ?_⟩) (y32.2.2.2.2.2 b32.2.2.1)
        rotate_left
        · have ec : (a.2 ++ [((35, (ps.length : Int), plc a.2 c.length, []) : Ins)]) ++ [((17, 0, plc (a.2 ++ [((35, (ps.length : Int), plc a.2 c.length, []) : Ins)]) c.length, []) : Ins)] = c ++ (d31 ++ ([((35, (ps.length : Int), plc a.2 c.length, []) : Ins)] ++ [((17, 0, plc (a.2 ++ [((35, (ps.length : Int), plc a.2 c.length, []) : Ins)]) c.length, []) : Ins)])) := by
            rw [← List.append_assoc, ← List.append_assoc, ← ed31]
          have le : c.length + d31.length + 2 = (c ++ (d31 ++ ([((35, (ps.length : Int), plc a.2 c.length, []) : Ins)] ++ [((17, 0, plc (a.2 ++ [((35, (ps.length : Int), plc a.2 c.length, []) : Ins)]) c.length, []) : Ins)]))).length := by
            rw [List.length_append, List.length_append, List.length_append, List.length_singleton, List.length_singleton]
            omega
          rw [ec, le] at D36
          show PBq ch X36 (ps ++ [p]) ((a.2 ++ [((35, (ps.length : Int), plc a.2 c.length, []) : Ins)]) ++ [((17, 0, plc (a.2 ++ [((35, (ps.length : Int), plc a.2 c.length, []) : Ins)]) c.length, []) : Ins)]) N1
          rw [ec]
          exact PBq.ad B36 (by have := od31.bd; omega) (by rw [hp2]; exact K36) (by rw [hp3]; exact O36) (by rw [hp4]; exact D36) (by rw [hp5]; exact M36) hp4
        rw [e36]
        exact ((m32.tn t33).wI (by omega)).cd (fun p => (NPl.snoc k17).trans (NPl.snoc k35))
      · rw [l59] at ht2
        have hQ := H.b.wa0 ht2
        refine pw_let (pw_let (pw_eq (fun X36 e36 => pw_ret (hQ _ _ ?_))))
        rw [e36]
        exact wrX_w hd (by omega)
    · have hQ := H.1 ea
      refine pw_ck (fun _ => pw_eq (fun X32 e32 => ?_))
      have d32 : wrX X32 := by rw [e32]; exact wrX_w hd (by omega)
      refine pw_bd (uw_takes d32) (fun _ X33 d33 => pw_let (pw_let (pw_eq (fun X36 e36 => pw_ret (hQ _ _ ?_)))))
      rw [e36]
      exact wrX_w d33 (by omega)
  · rw [l61] at ht
    have hQ := H.wa0 ht
    refine pw_bd (q_isWell X27) ?_
    rintro x28 X29 ⟨e29, h28⟩
    rw [e29]
    exact pw_pos (h28.mpr hd) (pw_ret (hQ _ _ hd))
theorem x_p143 {a1 : Int32} {pp : List (Nm × List Int)} {md : Nat × Nat × Nat} (h : XS ch n X q 0 sc j N) (hM : NMr ch X N c) (ha : a1.toInt = (ps.length : Int)) (hP : PCq ch X ps l pp.length) (hB : PQq ch X ps c N pp ([3], md)) (hk : ps.length < 40) (H : HH (DQ Q) (fun ow : Nat × List Int => HH (DQ Q) (fun r : Out => HH (DQ Q) (CPd ch n sc ps l pp ow.2 md c.length Q) (sEnd ch ps.length r.1 r.2 c.length)) (sE ch 0 sc ow.1 c)) (sOwn ch q)) : pw (f_part__V_143 a1 X) Q := by
  have l58 : (58 : Int32).toInt = 58 := by decide
  unfold sOwn at H
  have H := H.b
  unfold f_part__V_143
  refine pw_bd (q_isSign h.1 (by decide)) ?_
  rintro x25 X26 ⟨e26, h25⟩
  rw [e26]
  rw [l58] at h25
  unfold sColon at H
  refine pw_ite (fun c25 => ?_) (fun c25 => ?_)
  · have H := (H.q (h25.mp c25)).s
    exact x_p166 h hM ha hP hB hk (H.b.m (fun q5 H => H.s))
  · have y58 : ty ch q = 58 := Classical.byContradiction (fun z => c25 (h25.mpr z))
    have H := (H.p y58).b
    refine pw_bd (x_next h) ?_
    rintro _ X37 ⟨g37, t37⟩
    refine pw_bd (pw_and (x_kind g37 ⟨by omega, by omega⟩) fw_kind) ?_
    rintro x38 X39 ⟨(⟨a, ea, hz, g39, kg39, kd39⟩ | ⟨ea, hd⟩), f39⟩
    · have H := (H.2 a ea).s
      rw [ixn ha]
      refine pw_ck (fun _ => pw_eq (fun X40 e40 => ?_))
      have s40 : SPt X39 X40 := by rw [e40]; exact SPt.wI (by omega)
      have b39 : PQq ch X39 ps c N pp ([3], md) := (hB.tn h.kj t37).sp g37.kj (SPb.fk f39 kg39) (fun i _ => f39.1 16 _ (fq16 (by omega))) (SPc.of (fun e he => f39.1 e _ (fq16 (by omega))))
      have s40b : SPb X39 X40 ps.length N := by rw [e40]; exact SPb.wI (by omega)
      have b40 : PBq ch X40 ps c N ∧ KPn X40 ps.length pp ∧ KU X40 ∧ MDa X40 ps.length md := ⟨b39.1.sp g39.kj s40b, b39.2.1.st g39.kj s40b.2.2.2.2.1 (fun i hi => by rw [e40, wI_ne _ _ _ _ _ _ (by omega)]), s40b.2.2.2.2.2 b39.2.2.1, by
        have m := b39.2.2.2.2
        unfold MDa at m ⊢
        rw [e40, wI_ne _ _ _ _ _ _ (by omega), wI_ne _ _ _ _ _ _ (by omega), wI_ne _ _ _ _ _ _ (by omega)]
        exact m⟩
      have o40 : KOw X40 ps.length a.2 := ⟨ix x38, by rw [e40, wI_at]; exact (ixc hz).symm, KDk.oj g39.kj (show KXq X39 X40 from KXq.of (fun e k q => by rw [e40, wI_ne _ _ _ _ _ _ (by omega)])) _ _ kd39⟩
      refine x_p166 (j := j) (N := N) (by rw [e40]; exact g39.wI (by omega)) ?_ ha (((hP.sp (SPt.tn t37)).sp (SPt.fq f39 (by decide))).sp s40) ⟨b40.1, b40.2.1, b40.2.2.1, o40, b40.2.2.2⟩ hk (H.b.m (fun q5 H => H.s))
      rw [e40]
      exact ((hM.tn t37).fk f39).wI (by omega)
    · have hQ := H.1 ea
      refine pw_ck (fun _ => pw_eq (fun X40 e40 => ?_))
      exact pw_mono (uw_part__V_166 (by rw [e40]; exact wrX_w hd (by omega))) hQ
/-- params, from one on -/
def sPar2 (ch : Tx) (k : Nat) (ps : List (Nm × List Int)) (q : Nat) : Option (Nat × List (Nm × List Int)) :=
  if ty ch q = 258 ∧ (¬ slot (ps.map Prod.fst) (nm ch q) = -1 ∨ k = 0) then none else
  (sWant ch 258 q).bind fun q1 =>
  (sColon ch 1 q1).bind fun kq =>
  if ty ch kq.1 = 44 then sPar1 ch k ((nm ch q, kq.2.getD [3]) :: ps) (nx ch kq.1) else (sWant ch 41 kq.1).bind fun q2 => some (q2, (nm ch q, kq.2.getD [3]) :: ps)
theorem sPar1_2 {k : Nat} {pp : List (Nm × List Int)} (h : ¬ (k = 4 ∧ ty ch q = 41)) : sPar1 ch (k + 1) pp q = sPar2 ch k pp q := by
  rw [sPar1, if_neg h]
  rfl
def CPm (ch : Tx) (n j N : Nat) (c : List Ins) (ps : List Pt) (l : Nm) (md : Nat × Nat × Nat) (a1 : Int32) (Q : Int32 → St → Prop) (r : Nat × List (Nm × List Int)) : Prop := ∀ Y, XS ch n Y r.1 0 (r.2.map Prod.fst) j N → NMr ch Y N c → PCq ch Y ps l r.2.length → PQq ch Y ps c N r.2 ([3], md) → pw (f_part__V_143 a1 Y) Q
theorem x_par {a1 : Int32} {md : Nat × Nat × Nat} (ha : a1.toInt = (ps.length : Int)) (hk : ps.length < 40) : ∀ (k : Nat) (pp : List (Nm × List Int)) (q : Nat) (X : St) (M : Nat), k + pp.length = 4 → XS ch n X q 1 (pp.map Prod.fst) j N → NMr ch X N c → PCq ch X ps l pp.length → PQq ch X ps c N pp ([3], md) → HH (DQ Q) (CPm ch n j N c ps l md a1 Q) (sPar2 ch k pp q) → pw (bnd (f_param a1 X) fun _ Z => f_part__V_116 M a1 Z) Q := by
  have l44 : (44 : Int32).toInt = 44 := by decide
  have l41 : (41 : Int32).toInt = 41 := by decide
  intro k
  induction k with
  | zero =>
    intro pp q X M hkp h hM hP hB H
    have hQ : DQ Q := by
      refine H.1 ?_
      unfold sPar2
      by_cases e : ty ch q = 258
      · rw [if_pos ⟨e, Or.inr rfl⟩]
      · rw [if_neg (fun z => e z.1)]
        unfold sWant
        rw [if_neg e]
        rfl
    have hl : (pp.map Prod.fst).length = pp.length := List.length_map ..
    refine pw_bd (x_param (Q := fun _ Z => wrX Z) h hM (by rw [hl]; exact hP) hB hl.symm ha (by omega) (by omega) ⟨fun _ _ _ d => d, fun a ea => ?_⟩) (fun _ Z d => pw_mono (uw_part__V_116 M a1 Z d) hQ)
    refine absurd ea ?_
    by_cases e : ty ch q = 258
    · rw [if_pos ⟨e, Or.inr (by omega)⟩]
      exact fun z => Option.some_ne_none _ z.symm
    · rw [if_neg (fun z => e z.1)]
      unfold sWant
      rw [if_neg e]
      exact fun z => Option.some_ne_none _ z.symm
  | succ k ih =>
    intro pp q X M hkp h hM hP hB H
    have hl : (pp.map Prod.fst).length = pp.length := List.length_map ..
    refine pw_bd (x_param (Q := fun _ Z => pw (f_part__V_116 M a1 Z) Q) h hM (by rw [hl]; exact hP) hB hl.symm ha (by omega) (by omega) ?_) (fun _ Z d => d)
    have D1 : DQ Q → DQ (fun _ Z => pw (f_part__V_116 M a1 Z) Q) := fun hQ _ Z d => pw_mono (uw_part__V_116 M a1 Z d) hQ
    unfold sPar2 at H
    refine HH.f (fun cA => ?_) (fun cA => ?_)
    · exact ⟨fun _ => D1 (H.p ⟨cA.1, cA.2.elim Or.inl (fun z => by omega)⟩).n, fun a ea => absurd ea.symm (Option.some_ne_none _)⟩
    · have H := H.q (fun z => cA ⟨z.1, z.2.elim Or.inl (fun y => absurd y (by omega))⟩)
      refine HH.j ((H.b.dm D1).m (fun q1 H => (H.b.dm D1).m (fun kq H => ?_)))
      intro Y z gY mY pY bY
      rw [hl] at pY
      cases M with
      | zero => exact pw_none
      | succ M =>
        have e : f_part__V_116 (M + 1) = f_part__V_116_s (f_part__V_116 M) := by
          unfold f_part__V_116
          exact lp_succ _ _ _
        rw [e]
        unfold f_part__V_116_s
        refine pw_bd (q_isSign gY.1 (by decide)) ?_
        rintro x22 X23 ⟨e23, h22⟩
        rw [e23]
        rw [l44] at h22
        refine pw_ite (fun c22 => ?_) (fun c22 => ?_)
        · have H := H.q (h22.mp c22)
          refine pw_bd (x_closes gY (by omega) (by decide)) ?_
          rintro _ X24 (⟨ht, g24, t24⟩ | ⟨ht, hd⟩)
          · rw [l41] at ht
            exact (H.b.wa ht).s X24 g24 (mY.tn t24) (pY.sp (SPt.tn t24)) (bY.tn gY.kj t24)
          · rw [l41] at ht
            have hQ := H.b.wa0 ht
            exact pw_mono (uw_part__V_143 hd) hQ
        · have y44 : ty ch kq.1 = 44 := Classical.byContradiction (fun z => c22 (h22.mpr z))
          have H := H.p y44
          rw [sPar1_2 (fun z => by omega)] at H
          refine pw_bd (x_next gY) ?_
          rintro _ X41 ⟨g41, t41⟩
          exact ih ((nm ch q, kq.2.getD [3]) :: pp) (nx ch kq.1) X41 M (by rw [List.length_cons]; omega) g41 (mY.tn t41) (pY.sp (SPt.tn t41)) (bY.tn gY.kj t41) H
theorem FRj.ex (v : Int32) : ∃ j, FRj v j := by
  by_cases g : 0 ≤ v.toInt
  · exact ⟨ix v, Or.inl (ixc g).symm⟩
  · exact ⟨0, Or.inr ⟨rfl, by omega⟩⟩
theorem x_part (h : RX ch n X q) (hkj : KJq X) (h19 : (X.1 0 19).toInt = (N : Int)) (hM : NMr ch X N c) (hP : PAq ch X ps) (hBU : PBq ch X ps c N ∧ KU X) (h14 : (X.1 14 ps.length).toInt = (pl ch q : Int)) (hk : ps.length < 40) (H : HH (DQ Q) (fun r : Pt × Out => ∀ Y z sc N1, XS ch n Y r.2.1 0 sc 0 N1 → NMr ch Y N1 r.2.2 → PAq ch Y (ps ++ [r.1]) → PBq ch Y (ps ++ [r.1]) r.2.2 N1 ∧ KU Y → Q z Y) (sPart ch ps.length q c)) : pw (f_part__V X) Q := by
  have l40 : (40 : Int32).toInt = 40 := by decide
  have l41 : (41 : Int32).toInt = 41 := by decide
  unfold sPart at H
  unfold f_part__V
  refine pw_bd (q_next h) ?_
  rintro _ X1 ⟨g1, t0⟩
  have t1 := t0.tn
  refine pw_bd (q_well g1.2.2.2) ?_
  rintro x2 X3 ⟨e3, h2⟩
  rw [e3]
  refine pw_neg h2 (pw_let ?_)
  have sort : (X1.1 0 7).toInt = 1 ↔ ty ch (nx ch q) = 258 := by
    obtain ⟨_, _, t⟩ := g1.2.1
    omega
  refine pw_ite (fun c5 => ?_) (fun c5 => ?_)
  · have hty := sort.mp c5
    have H := H.b.wa hty
    have told : X1.2.1 0 47 = lN (p6 (nm ch (nx ch q))) := by
      obtain ⟨_, _, t⟩ := g1.2.1
      rcases t with t | t | t | t | t | t | t
      · omega
      · exact t.2.2.1
      all_goals omega
    have hw := ty_word g1.1.1 (q := nx ch q) ⟨by omega, by omega, by omega⟩
    have hl : LT (nm ch (nx ch q)) ∧ (nm ch (nx ch q)).length ≤ 8 := ⟨nm_lt g1.1.1 _, hw.2.2.1⟩
    have hplk : PLk ch (X1.1 0 6) := by
      have e6 := g1.2.1.2.1
      refine ⟨by omega, ?_⟩
      rw [ixn e6]
      exact fun z => absurd ((ty_end g1.1.1).mpr z) (by omega)
    have P1 := hP.sp (SPt.tn t1)
    have h18 := P1.1
    refine pw_eq (fun x6 e6 => pw_let ?_)
    have v6 : x6.toInt = (ps.length : Int) := by rw [e6]; exact h18
    rw [ixn v6]
    refine pw_ck (fun _ => pw_eq (fun X8 e8 => pw_let (pw_ck (fun _ => pw_eq (fun X10 e10 => pw_let (pw_ck (fun _ => pw_eq (fun X12 e12 => pw_ck (fun _ => pw_eq (fun X13 e13 => pw_ck (fun _ => pw_eq (fun X14 e14 => pw_eq (fun X15 e15 => pw_eq (fun X16 e16 => ?_))))))))))))))
    have g16r : RX ch n X16 (nx ch q) := by rw [e16, e15, e14, e13, e12, e10, e8]; exact ((((((g1.wL (by omega)).wI (by omega)).wI (by omega)).wI (by omega)).wI (by omega)).wI (by omega)).wI (by omega)
    have c8 : X8.1 = X1.1 := by rw [e8]; rfl
    have r16 : ∀ e k, ¬ (e = 0 ∧ (k = 20 ∨ k = 21)) → ¬ ((e = 12 ∨ e = 13 ∨ e = 15 ∨ e = 17) ∧ k = ps.length) → X16.1 e k = X1.1 e k := fun e k h1 h2 => by rw [e16, wI_ne _ _ _ _ _ _ (by omega), e15, wI_ne _ _ _ _ _ _ (by omega), e14, wI_ne _ _ _ _ _ _ (by omega), e13, wI_ne _ _ _ _ _ _ (by omega), e12, wI_ne _ _ _ _ _ _ (by omega), e10, wI_ne _ _ _ _ _ _ (by omega), c8]
    have s16 : ∀ e k, ¬ (e = 11 ∧ k = ps.length) → X16.2.1 e k = X1.2.1 e k := fun e k h1 => by
      rw [e16, e15, e14, e13, e12, e10]
      show X8.2.1 e k = _
      rw [e8, wL_ne _ _ _ _ _ _ h1]
    obtain ⟨j, hj⟩ := FRj.ex (X1.1 0 22)
    have g16 : XS ch n X16 (nx ch q) 0 [] j N := ⟨g16r, by rw [e16, wI_at]; rfl, ⟨by rw [e16, wI_ne _ _ _ _ _ _ (by omega), e15, wI_at]; rfl, trivial⟩, ⟨by rw [r16 0 22 (by omega) (by omega)]; exact hj, hkj.cg (fun e k q => (r16 e k (by omega) (by omega)).trans (t1.1 e k (by omega)))⟩, by rw [r16 0 19 (by omega) (by omega), t1.c 19 (by decide)]; exact h19⟩
    have m16 : NMr ch X16 N c := (hM.tn t1).cg (fun i _ => r16 20 i (by omega) (by omega)) (fun i _ => s16 29 i (by omega)) (fun i _ => r16 21 i (by omega) (by omega))
    have P16 : PCq ch X16 ps (nm ch (nx ch q)) 0 := by
      refine ⟨⟨by rw [r16 0 18 (by omega) (by omega)]; exact P1.1, fun k p hkp => ?_⟩, ⟨?_, hl⟩, ?_, ?_⟩
      · have hlt : k < ps.length := (List.getElem?_eq_some_iff.mp hkp).1
        rw [s16 11 k (by omega), r16 12 k (by omega) (by omega), r16 15 k (by omega) (by omega)]
        exact P1.2 k p hkp
      · rw [e16, e15, e14, e13, e12, e10]
        show X8.2.1 11 ps.length = _
        rw [e8, wL_at]
        exact told
      · have : X16.1 12 ps.length = X1.1 0 6 := by rw [e16, wI_ne _ _ _ _ _ _ (by omega), e15, wI_ne _ _ _ _ _ _ (by omega), e14, wI_ne _ _ _ _ _ _ (by omega), e13, wI_ne _ _ _ _ _ _ (by omega), e12, wI_ne _ _ _ _ _ _ (by omega), e10, wI_at, c8]
        rw [this]
        exact hplk
      · rw [e16, wI_ne _ _ _ _ _ _ (by omega), e15, wI_ne _ _ _ _ _ _ (by omega), e14, wI_ne _ _ _ _ _ _ (by omega), e13, wI_at]
        rfl
    have o16 : KOw X16 ps.length [3] := ⟨2, by rw [e16, wI_ne _ _ _ _ _ _ (by omega), e15, wI_ne _ _ _ _ _ _ (by omega), e14, wI_at]; rfl, g16.kj.pl (i := 2) (by omega)⟩
    have m16d : MDa X16 ps.length (pl ch q, pl ch (nx ch q), (nm ch (nx ch q)).length) := by
      have hlen : (X1.1 0 8).toInt = ((nm ch (nx ch q)).length : Int) := by
        obtain ⟨_, _, t⟩ := g1.2.1
        rcases t with t | t | t | t | t | t | t
        · omega
        · exact t.2.2.2
        all_goals omega
      refine ⟨?_, ?_, ?_⟩
      · rw [r16 14 _ (by omega) (by omega), t1.1 14 _ (by omega)]
        exact h14
      · rw [e16, wI_ne _ _ _ _ _ _ (by omega), e15, wI_ne _ _ _ _ _ _ (by omega), e14, wI_ne _ _ _ _ _ _ (by omega), e13, wI_ne _ _ _ _ _ _ (by omega), e12, wI_ne _ _ _ _ _ _ (by omega), e10, wI_at, c8]
        exact g1.2.1.2.1
      · rw [e16, wI_ne _ _ _ _ _ _ (by omega), e15, wI_ne _ _ _ _ _ _ (by omega), e14, wI_ne _ _ _ _ _ _ (by omega), e13, wI_ne _ _ _ _ _ _ (by omega), e12, wI_at, e10, wI_ne _ _ _ _ _ _ (by omega), c8]
        exact hlen
    have q16 : PQq ch X16 ps c N [] ([3], pl ch q, pl ch (nx ch q), (nm ch (nx ch q)).length) := by
      have s1 : SPb X X1 ps.length N := SPb.tn t1
      have s16b : SPb X1 X16 ps.length N := SPb.of (fun e k q => r16 e k (by omega) (by omega)) (fun k _ => s16 29 k (by omega))
      have sx := s1.tr s16b
      exact ⟨hBU.1.sp hkj sx, ⟨Nat.zero_le _, fun i hi => absurd hi (Nat.not_lt_zero _)⟩, sx.2.2.2.2.2 hBU.2, o16, m16d⟩
    have H := H.b
    unfold sHead at H
    have fin : ∀ pr : Nat × List (Nm × List Int), HH (DQ Q) (fun r : Pt × Out => ∀ Y z sc N1, XS ch n Y r.2.1 0 sc 0 N1 → NMr ch Y N1 r.2.2 → PAq ch Y (ps ++ [r.1]) → PBq ch Y (ps ++ [r.1]) r.2.2 N1 ∧ KU Y → Q z Y) ((sOwn ch pr.1).bind fun ow => (sE ch 0 (pr.2.map Prod.fst) ow.1 c).bind fun r => (sEnd ch ps.length r.1 r.2 c.length).bind fun s => some ((pl ch q, pl ch (nx ch q), nm ch (nx ch q), pr.2, ow.2, c.length), s)) → CPm ch n j N c ps (nm ch (nx ch q)) (pl ch q, pl ch (nx ch q), (nm ch (nx ch q)).length) x6 Q pr := by
      intro pr H Y gY mY pY bY
      refine x_p143 gY mY v6 pY bY hk (H.b.m (fun ow H => H.b.m (fun r H => H.b.m (fun s H => ?_))))
      intro V z N1 gV mV hV uV
      have hV := hV (pl ch q, pl ch (nx ch q), nm ch (nx ch q), pr.2, ow.2, c.length) rfl rfl rfl rfl rfl
      exact H.s V z _ N1 gV mV hV.1 ⟨hV.2, uV⟩
    refine pw_bd (x_next g16) ?_
    rintro _ X17 ⟨g17, t17⟩
    refine pw_bd (x_opens g17 (by omega) (by decide)) ?_
    rintro _ X18 (⟨ht, g18, t18⟩ | ⟨ht, hd⟩)
    · rw [l40] at ht
      have H := H.b.en ht
      have P18 := (P16.sp (SPt.tn t17)).sp (SPt.tn t18)
      have B18 : PQq ch X18 ps c N [] ([3], pl ch q, pl ch (nx ch q), (nm ch (nx ch q)).length) := (q16.tn g16.kj t17).tn g17.kj t18
      have m18 := (m16.tn t17).tn t18
      refine pw_bd (q_isSign g18.1 (by decide)) ?_
      rintro x19 X20 ⟨e20, h19⟩
      rw [e20]
      rw [l41] at h19
      refine pw_ite (fun c19 => ?_) (fun c19 => ?_)
      · rw [sPar1_2 (fun z => h19.mp c19 z.2)] at H
        exact x_par (ps := ps) v6 hk 4 [] _ X18 BIG rfl g18 m18 P18 B18 (H.m (fun pr H => fin pr H))
      · rw [sPar1] at H
        have H := (H.p ⟨rfl, Classical.byContradiction (fun z => c19 (h19.mpr z))⟩).b
        refine pw_bd (x_closes g18 (by omega) (by decide)) ?_
        rintro _ X43 (⟨ht2, g43, t43⟩ | ⟨ht2, hd⟩)
        · rw [l41] at ht2
          exact fin (_, []) (H.wa ht2).s X43 g43 (m18.tn t43) (P18.sp (SPt.tn t43)) (B18.tn g18.kj t43)
        · rw [l41] at ht2
          have hQ := H.wa0 ht2
          exact pw_mono (uw_part__V_143 hd) hQ
    · rw [l40] at ht
      have hQ := H.b.en0 ht
      refine pw_mono (R := fun _ Z => wrX Z) ?_ hQ
      refine pw_bd (uw_isSign hd) (fun x19 X20 dX20 => ?_)
      refine pw_ite (fun _ => ?_) (fun _ => ?_)
      · refine pw_bd (uw_param dX20) (fun _ X21 dX21 => ?_)
        exact uw_part__V_116 _ _ _ dX21
      · refine pw_bd (uw_closes dX20) (fun _ X43 dX43 => ?_)
        exact uw_part__V_143 dX43
  · have hQ := H.b.wa0 (fun z => c5 (sort.mpr z))
    unfold f_part__V_19
    exact pw_bd (q_stray X1) (fun _ _ d => pw_ret (hQ _ _ d))
end RPART
