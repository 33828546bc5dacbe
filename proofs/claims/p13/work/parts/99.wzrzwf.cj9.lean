/-! the class's judge, and where any stands -/
/-- any stands in part q, or not -/
def AC (X : St) (q : Nat) (b : Bool) : Prop := (X.1 62 q).toInt = 0 ↔ b = false
/-- any in a header -/
def hdA (ps : List Pt) (told : Nat → Bool) (k : Nat) : Bool := decide ((3 : Int) ∈ fks ps told k)
def CJ9 (e : Nat) (ch : Tx) (ps : List Pt) (told : Nat → Bool) (c : List Ins) (X0 X : St) (g : Nat) (S : List SE) (B : List Bool) (J : JS) (ks : List (List Int)) : Prop := CJ e ch ps told c X0 X g S J ks ∧ (B.length = g ∧ ∀ q b, B[q]? = some b → AC X q b) ∧ AC X g J.2.2.1 ∧ ∀ q, g < q → q < ps.length → AC X q (hdA ps told q)
def CJr9 (e : Nat) (ch : Tx) (ps : List Pt) (told : Nat → Bool) (c : List Ins) (X0 Y : St) (g : Nat) (S : List SE) (B : List Bool) (ks : List (List Int)) : Sum JS (Int × Int) → Prop
  | Sum.inl J => CJ9 e ch ps told c X0 Y g S B J ks
  | Sum.inr f => CJr e ch ps told c X0 Y g S ks (Sum.inr f)
def CQ9 (e : Nat) (ch : Tx) (ps : List Pt) (told : Nat → Bool) (c : List Ins) (X0 Y : St) (g j : Nat) (S : List SE) (a : Ins) (B : List Bool) (J : JS) (ks : List (List Int)) : Prop := ∃ (r : Sum JS (Int × Int)) (ks1 : List (List Int)), JST ch ps told c g j S a J r ∧ ks <+: ks1 ∧ ks1.length ≤ ks.length + krn a ∧ CJr9 e ch ps told c X0 Y g (sh1 j a S) B ks1 r
def CSr9 (e : Nat) (ch : Tx) (ps : List Pt) (told : Nat → Bool) (c : List Ins) (X0 Y : St) (g j : Nat) (S : List SE) (d : List Ins) (B : List Bool) (J : JS) (ks : List (List Int)) (R1 R2 : Nat) : Prop := ∃ (r : Sum JS (Int × Int)) (ks1 : List (List Int)), JRN ch ps told c g j S J d r ∧ ks <+: ks1 ∧ ks1.length + R2 ≤ 1549 ∧ (∀ J1, r = Sum.inl J1 → J1.2.2.2.length + R1 ≤ 3000) ∧ CJr9 e ch ps told c X0 Y g (shl j S d) B ks1 r
def CG9 (e : Nat) (ps : List Pt) (told : Nat → Bool) (X0 X : St) (ks : List (List Int)) (G : List JG × List Bool) : Prop := CG e ps told X0 X ks G.1 ∧ (∀ q b, G.2[q]? = some b → AC X q b) ∧ ∀ q, G.2.length ≤ q → q < ps.length → AC X q (hdA ps told q)
def CJf9 (e : Nat) (ps : List Pt) (told : Nat → Bool) (X0 Y : St) (ks : List (List Int)) : Sum (List JG × List Bool) (Int × Int) → Prop
  | Sum.inl G => CG9 e ps told X0 Y ks G
  | Sum.inr f => CJf e ps told X0 Y ks (Sum.inr f)
def HSq9 (e : Nat) (ps : List Pt) (told : Nat → Bool) (X0 X : St) (ks : List (List Int)) (k : Nat) : Prop := HSq e ps told X0 X ks k ∧ ∀ q, q < k → AC X q (hdA ps told q)
def CAr9 (e : Nat) (ch : Tx) (ps : List Pt) (told : Nat → Bool) (c : List Ins) (X0 Y : St) (k : Nat) (G : List JG × List Bool) (ks : List (List Int)) : Prop := ∃ (r : Sum (List JG × List Bool) (Int × Int)) (ks1 : List (List Int)), JALL ch ps told c (ps.length - k) k G r ∧ ks <+: ks1 ∧ CJf9 e ps told X0 Y ks1 r
section CJ9S
variable {e g j n m s D k : Nat} {ch : Tx} {ps : List Pt} {told : Nat → Bool} {c : List Ins} {X0 X Y Z W : St} {S S1 : List SE} {J J1 : JS} {ks ks1 kt ksP : List (List Int)} {v v1 p1 p2 : Int32} {a : Ins} {B : List Bool} {x : List Int} {w : List Int} {l : List (List Int)} {an : Bool} {po : Nat → Nat} {L : Nat}
theorem hAc_k {o : Nat} (hT : TKS o X ks) (h : KC ks v x) : hAc o X v ↔ ¬ (3 : Int) ∈ x := by
  obtain ⟨z, z1, z2⟩ := h
  have hl := (List.getElem?_eq_some_iff.mp z2).1
  have h5 := (hT.2.1 z x z2).1.1.2.2.2
  have h0 := hT.1.1
  unfold hAc
  rw [ixn z1, ← h5]
  constructor
  · rintro (y | y | y)
    · omega
    · omega
    · exact y
  · exact fun y => Or.inr (Or.inr y)
theorem hdA_js0 (G : List JG) : hdA ps told g = (js0 ps told g G).2.2.1 := by
  show decide ((3 : Int) ∈ fks ps told g) = (decide ((3 : Int) ∈ oks ps told g) || (pks ps told g).any (fun d => decide ((3 : Int) ∈ d)))
  refine Bool.eq_iff_iff.mpr ?_
  rw [decide_eq_true_iff, Bool.or_eq_true, decide_eq_true_iff, List.any_eq_true]
  unfold fks
  constructor
  · intro h
    rcases List.mem_cons.mp h with h | h
    · omega
    · rcases List.mem_append.mp h with h | h
      · obtain ⟨d, h1, h2⟩ := List.mem_flatten.mp h
        exact Or.inr ⟨d, h1, decide_eq_true h2⟩
      · exact Or.inl h
  · rintro (h | ⟨d, h1, h2⟩)
    · exact List.mem_cons_of_mem _ (List.mem_append_right _ h)
    · exact List.mem_cons_of_mem _ (List.mem_append_left _ (List.mem_flatten.mpr ⟨d, h1, of_decide_eq_true h2⟩))
theorem CJ9.rq (ht : CPR e ch X0 ps told c kt) (h : CJ9 e ch ps told c X0 X g S B J ks) : RQo e X := by
  have h2 : X.2 = X0.2 := h.1.1.1.1.1
  obtain ⟨⟨he, r1, r2, _⟩, _⟩ := ht
  exact ⟨he, by rw [h2]; exact r1, by rw [h2]; exact r2⟩
/-- a step that leaves row 62 -/
theorem CJ9.st (h : CJ9 e ch ps told c X0 X g S B J ks) (hq : CJ e ch ps told c X0 Y g S1 J1 ks1) (hj : J1.2.2.1 = J.2.2.1) (r : ∀ q, Y.1 62 q = X.1 62 q) : CJ9 e ch ps told c X0 Y g S1 B J1 ks1 := by
  obtain ⟨h1, ⟨h2, h3⟩, h4, h5⟩ := h
  refine ⟨hq, ⟨h2, fun q b hb => ?_⟩, ?_, fun q z1 z2 => ?_⟩
  · have := h3 q b hb
    unfold AC at this ⊢
    rw [r q]
    exact this
  · unfold AC at h4 ⊢
    rw [r g, hj]
    exact h4
  · have := h5 q z1 z2
    unfold AC at this ⊢
    rw [r q]
    exact this
theorem CJ9.cq (h : CJ9 e ch ps told c X0 X g S B J ks) (hq : CQ e ch ps told c X0 Y g j S a J ks) (hp : PUr e X Y g a.1) (hn : ¬ a.1 = 34) (ha : 0 ≤ a.1) : CQ9 e ch ps told c X0 Y g j S a B J ks := by
  obtain ⟨r, ks1, q1, q2, q3, q4⟩ := hq
  refine ⟨r, ks1, q1, q2, q3, ?_⟩
  cases r with
  | inr f => exact q4
  | inl J1 =>
    have q4 : CJ e ch ps told c X0 Y g (sh1 j a S) J1 ks1 := q4
    by_cases c1 : pai a.1
    · have up := hp.1 c1
      obtain ⟨k, J2, e1, e2⟩ := q1.psh9 c1
      have e1 : J1 = jpush k J2 := Sum.inl.inj e1
      have h14 := q4.2.1.2.2.1
      have t1 : 1 ≤ J1.1.length := by rw [e1]; exact Nat.succ_pos _
      have lm : (1 : Int32).toInt = 1 := by decide
      have it : ix (Y.1 61 14 - 1) = J1.1.length - 1 := ixn (by rw [ti_sub (by rw [lm]; have := (Y.1 61 14).toInt_lt; omega) (by rw [lm]; have := (Y.1 61 14).toInt_lt; omega), lm]; omega)
      have tp := q4.top t1
      obtain ⟨h1, ⟨h2, h3⟩, h4, h5⟩ := h
      have rr : ∀ q b, ¬ q = g → AC X q b → AC Y q b := fun q b z y => by
        unfold AC at y ⊢
        rw [up.1 q z]
        exact y
      refine ⟨q4, ⟨h2, fun q b hb => rr q b (by have := (List.getElem?_eq_some_iff.mp hb).1; omega) (h3 q b hb)⟩, ?_, fun q z1 z2 => rr q _ (by omega) (h5 q z1 z2)⟩
      have u2 := up.2
      rw [it] at u2
      have hd1 : hdK J1.1 = k := by rw [e1]; rfl
      rw [hd1] at tp
      rw [e1] at tp u2 ⊢
      show AC Y g (J2.2.2.1 || decide ((3 : Int) ∈ k))
      unfold AC at h4 ⊢
      rw [e2, u2]
      exact bor_iff h4 (hAc_k q4.1.1.2.1 tp)
    · exact h.st q4 (q1.nps (by unfold nai; unfold pai at c1; omega) rfl) (hp.2 c1 hn)
theorem l_plain9 (ht : CPR e ch X0 ps told c kt) (h : CJ9 e ch ps told c X0 X g S B J ks) (hh : CH ps c kt g j D S a J ks) (h1 : p1.toInt = a.1) (h2 : p2 = X0.1 (e + 19) j) (hlt : a.1 < 11) : pw (g_Judging_judgePlain p1 p2 X) (fun _ Y => CQ9 e ch ps told c X0 Y g j S a B J ks) := by
  have hh0 := hh
  obtain ⟨⟨hO, hA, hN, ha⟩, ⟨hI, h34, h5, h3, h44⟩, ⟨hk, hg, hp⟩, b0, b1, b2⟩ := hh
  have hlen := hO.1
  obtain ⟨cop, cpl, c4, cx, c34⟩ := ht.2.1 j a ha
  have h0 := hA.1.1.1
  have h14 := h.1.2.1.2.2.1
  refine pw_mono (pw_and (l_plain ht h.1 hh0 h1 h2 hlt) (pu_plain (g := g) (o := a.1) (h.rq ht) h.1.2.1.2.1 (by omega) (fun z => ?_) h1 ⟨h0, by omega⟩ (fun z => ?_))) (fun _ Y q => h.cq q.1 q.2 (by omega) h0)
  · rw [wk_p (show wp a.1 from by unfold wp; unfold pai at z; omega)] at b0
    omega
  · rw [h2, cx (by omega) (by omega), ofI_to (hA.1.2 (by omega))]
    obtain ⟨S1, us, q1, _⟩ := hA.2.2.1 z
    omega
theorem l_work9 (ht : CPR e ch X0 ps told c kt) (h : CJ9 e ch ps told c X0 X g S B J ks) (hh : CH ps c kt g j D S a J ks) (h1 : p1.toInt = a.1) (h2 : p2 = X0.1 (e + 19) j) (hlt : 11 ≤ a.1 ∧ a.1 < 27) : pw (g_Judging_judgeWork p1 p2 X) (fun _ Y => CQ9 e ch ps told c X0 Y g j S a B J ks) := by
  have hh0 := hh
  obtain ⟨⟨hO, hA, hN, ha⟩, ⟨hI, h34, h5, h3, h44⟩, ⟨hk, hg, hp⟩, b0, b1, b2⟩ := hh
  have hlen := hO.1
  obtain ⟨cop, cpl, c4, cx, c34⟩ := ht.2.1 j a ha
  have h14 := h.1.2.1.2.2.1
  refine pw_mono (pw_and (l_work ht h.1 hh0 h1 h2 hlt) (pu_work (g := g) (o := a.1) (h.rq ht) h.1.2.1.2.1 (by omega) (fun z => ?_) h1 ⟨by omega, by omega⟩ (fun z => ?_))) (fun _ Y q => h.cq q.1 q.2 (by omega) (by omega))
  · rw [wk_p (show wp a.1 from by unfold wp; unfold pai at z; omega)] at b0
    omega
  · rw [h2, cx (by omega) (by omega), ofI_to (hA.1.2 (by omega))]
    have q1 := (hA.2.2.2.2.2.1 z).1
    have q2 := ned_16 z hN
    omega
theorem ca9_34 (ht : CPR e ch X0 ps told c kt) (h9 : CJ9 e ch ps told c X0 X g S B J ks) (e1 : a.1 = 34) (h1 : p1.toInt = (j : Int)) (ha : c[j]? = some a) (hlen : S.length = J.1.length) (hn : 1 ≤ S.length) (hc : J.2.2.2.length < 3000) (hx : a.2.1 = 0) (hk : kt <+: ks) (hg : g < ps.length) : pw (g_Judging_judgeAsking p1 X) (fun _ Y => CQ9 e ch ps told c X0 Y g j S a B J ks) := by
  have h := h9.1
  obtain ⟨k0, k13, k14, k15, k16⟩ := kYp ht.1.1
  have rr := h.1.1.rr ht
  obtain ⟨cop, cpl, c4, cx, c34⟩ := ht.2.1 j a ha
  have i1 : ix p1 = j := ixn h1
  have l1 : (1 : Int32).toInt = 1 := by decide
  have l2 : (2 : Int32).toInt = 2 := by decide
  unfold g_Judging_judgeAsking
  refine pw_ck (fun _ => pw_to rr.1 (pw_to k14 (pw_ck (fun _ => pw_eq (fun x3 e3 => pw_ck (fun _ => pw_to rr.1 (pw_to k13 (pw_ck (fun _ => pw_eq (fun x6 e6 => ?_))))))))))
  have v6 : x6.toInt = 34 := by rw [e6, i1, rr.2.2 _ _ (by omega), cop, e1]
  rw [i1, rr.2.2 _ _ (by omega)] at e3
  clear k0 k13 k14 k15 k16
  refine pw_neg (by omega) (pw_neg (by omega) (pw_neg (by omega) (pw_neg (by omega) (pw_neg (by omega) (pw_neg (by omega) (pw_neg (by omega) (pw_pos (by omega) (?_))))))))
  obtain ⟨z, z1, z2⟩ := c34 e1
  have zl := (List.getElem?_eq_some_iff.mp z2).1
  have kl := ht.2.2.2
  have k3 : KC ks x3 a.2.2.2 := ⟨z, by rw [e3, z1, ofI_to (by omega)]; omega, pf_at hk z2⟩
  have he := ht.1.1
  have g3 : (X.1 61 3).toInt = (g : Int) := h.2.1.2.1
  have ig : ix (X.1 61 3) = g := ixn g3
  obtain ⟨_, ⟨hB, hA⟩, hN, hH⟩ := h9
  have f211 : ∀ b0 : Int32, ((b0 = 0 ∧ (X.1 62 g).toInt = 0 ∧ ¬ (3 : Int) ∈ askd told g a.2.2.2) ∨ (b0 = 1 ∧ ¬ ((X.1 62 g).toInt = 0 ∧ ¬ (3 : Int) ∈ askd told g a.2.2.2))) → pw (g_Judging_judgeAsking_211 p1 x3 b0 (X.1 61 3) X) (fun _ Y => CQ9 e ch ps told c X0 Y g j S a B J ks) := by
    intro b0 hb
    unfold g_Judging_judgeAsking_211
    refine pw_ck (fun _ => pw_eq (fun X42 e42 => ?_))
    have h42 : CJ e ch ps told c X0 X42 g S J ks := by rw [e42]; exact h.id he (Or.inl rfl)
    rw [ig] at e42
    have v42 : (X42.1 62 g).toInt = 0 ↔ (J.2.2.1 || decide ((3 : Int) ∈ askd told g a.2.2.2)) = false := by
      rw [← bor_iff hN (Iff.rfl (a := ¬ (3 : Int) ∈ askd told g a.2.2.2)), e42, wI_at]
      rcases hb with ⟨z, y⟩ | ⟨z, y⟩
      · rw [z]
        exact ⟨fun _ => y, fun _ => nar8_0⟩
      · rw [z]
        exact ⟨fun u => absurd u nar8_1, fun u => absurd u y⟩
    have rq42 : RQo e X42 := by
      have := (show CJ9 e ch ps told c X0 X g S B J ks from ⟨h, ⟨hB, hA⟩, hN, hH⟩).rq ht
      rw [e42]
      exact this
    refine pw_eq (fun x43 e43 => pw_bd (l_asTold ht h42.1.1 (k := g) (by rw [e43]; exact h42.2.1.2.1) hg k3) ?_)
    rintro x44 X45 ⟨e45, k44⟩
    rw [e45]
    refine pw_eq (fun x46 e46 => pw_bd (pw_and (l_meet (t := (g : Int)) ht (h42.an (w := askd told g a.2.2.2)) (show 1 ≤ J.1.length by omega) hc h1 cpl k44 (by rw [e46]; exact h42.2.1.2.1)) (rj_meet rq42)) ?_)
    rintro _ X47 ⟨⟨r, hm, hr⟩, s47⟩
    refine pw_ret ⟨r, ks, JST.i34 e1 hm, List.prefix_rfl, Nat.le_add_right _ _, ?_⟩
    rw [sh1_34 e1]
    cases r with
    | inr f => exact hr
    | inl J1 =>
      have hr : CJ e ch ps told c X0 X47 g S J1 ks := hr
      have e3 : J1.2.2.1 = (J.2.2.1 || decide ((3 : Int) ∈ askd told g a.2.2.2)) := by
        rcases hm with ⟨_, m⟩ | ⟨_, _, m⟩ | ⟨_, _, m⟩
        · exact absurd m (by simp)
        · rw [Sum.inl.inj m]; rfl
        · rw [Sum.inl.inj m]; rfl
      have rr : ∀ q b, ¬ q = g → AC X q b → AC X47 q b := fun q b z y => by
        unfold AC at y ⊢
        rw [s47.1 q, e42, wI_ne _ _ _ _ _ _ (by omega)]
        exact y
      refine ⟨hr, ⟨hB, fun q b hb => rr q b (by have := (List.getElem?_eq_some_iff.mp hb).1; omega) (hA q b hb)⟩, ?_, fun q z1 z2 => rr q _ (by omega) (hH q z1 z2)⟩
      unfold AC
      rw [e3, s47.1 g]
      exact v42
  have f206 : ¬ ((X.1 62 g).toInt = 0 ∧ ¬ (3 : Int) ∈ askd told g a.2.2.2) → pw (g_Judging_judgeAsking_206 p1 x3 (X.1 61 3) X) (fun _ Y => CQ9 e ch ps told c X0 Y g j S a B J ks) := fun z => by
    unfold g_Judging_judgeAsking_206
    exact f211 1 (Or.inr ⟨rfl, z⟩)
  refine pw_let (pw_let (pw_ck (fun _ => ?_)))
  rw [ig]
  refine pw_let (pw_ite (fun c41 => ?_) (fun c41 => f206 (fun z => c41 z.1)))
  refine pw_ck (fun _ => pw_to rr.2.1 (pw_eq (fun x49 e49 => pw_bd (l_asTold ht h.1.1 (k := g) (by rw [e49]; exact h.2.1.2.1) hg k3) ?_)))
  rintro x50 X51 ⟨e51, k50⟩
  rw [e51]
  refine pw_bd (l_any ht h.1.1 k50) ?_
  rintro x52 X53 ⟨e53, n52⟩
  rw [e53]
  exact pw_ite (fun c52 => f211 0 (Or.inl ⟨rfl, c41, n52.mp c52⟩)) (fun c52 => f206 (fun z => c52 (n52.mpr z.2)))
theorem l_ask9 (ht : CPR e ch X0 ps told c kt) (h : CJ9 e ch ps told c X0 X g S B J ks) (hh : CH ps c kt g j D S a J ks) (h1 : p1.toInt = (j : Int)) (hlt : 27 ≤ a.1) : pw (g_Judging_judgeAsking p1 X) (fun _ Y => CQ9 e ch ps told c X0 Y g j S a B J ks) := by
  have hh0 := hh
  obtain ⟨⟨hO, hA, hN, ha⟩, ⟨hI, h34, h5, h3, h44⟩, ⟨hk, hg, hp⟩, b0, b1, b2⟩ := hh
  have hlen := hO.1
  obtain ⟨cop, cpl, c4, cx, c34⟩ := ht.2.1 j a ha
  have hc : J.2.2.2.length < 3000 := by
    rw [wk_a hlt] at b1
    omega
  by_cases z : a.1 = 34
  · exact ca9_34 ht h z h1 ha hlen (ned_34 z hN) hc (h34 z) hk hg
  · have rr := h.1.1.1.rr ht
    exact pw_mono (pw_and (l_ask ht h.1 hh0 h1 hlt) (pu_ask (g := g) (h.rq ht) h1 (by rw [rr.2.2 _ _ (by omega)]; exact cop) z hlt)) (fun _ Y q => h.cq q.1 q.2 z (by omega))
theorem l_seg9 (ht : CPR e ch X0 ps told c kt) (hW : PWd ps) (hg : g < ps.length) (hp : ps.length ≤ 40) {a1 : Int32} (h1 : a1.toInt = (g : Int)) {R1 R2 E : Nat} (hE : (X0.1 (e + 17) (g + 1)).toInt = (E : Int)) : ∀ (d : List Ins) (j : Nat) (b : Bool) (s : Nat) (S : List SE) (D : Nat) (J : JS) (X : St) (ks : List (List Int)), CJ9 e ch ps told c X0 X g S B J ks → JOK D S J → AOL W (nrp ch ps) c j b s S d → DLk D d → (∀ a ∈ d, PIq g a ∧ (a.1 = 34 → a.2.1 = 0) ∧ (a.1 = 5 → 0 ≤ a.2.1 ∧ a.2.1 ≤ 43)) → D ≤ 44 → kt <+: ks → (∀ i a, d[i]? = some a → c[j + i]? = some a) → j + d.length = E → S.length + wks 0 d ≤ 3000 → J.2.2.2.length + mk S + wks 1 d + R1 ≤ 3000 → ks.length + rns d + R2 ≤ 1549 → ∀ (M : Nat) (a2 : Int32), a2.toInt = (j : Int) → pw (g_Judging_judgePart_57 M a1 a2 X) (fun _ Y => CSr9 e ch ps told c X0 Y g j S d B J ks R1 R2) := by
  have lo1 : (Int32.ofInt 1).toInt = 1 := by decide
  have l1 : (1 : Int32).toInt = 1 := by decide
  have he := ht.1.1
  obtain ⟨k0, k13, k14, k15, k16⟩ := kYp he
  have k17 := (kYq he).2.1
  have m1 : (-1 : Int32).toInt = -1 := by decide
  intro d
  induction d with
  | nil =>
    intro j b s S D J X ks h _ _ _ _ _ _ _ hJE _ hb1 hb2 M a2 h2
    cases M with
    | zero => exact pw_none
    | succ M =>
      have eu : g_Judging_judgePart_57 (M + 1) = g_Judging_judgePart_57_s (g_Judging_judgePart_57 M) := by
        unfold g_Judging_judgePart_57
        exact lp_succ _ _ _
      rw [eu]
      unfold g_Judging_judgePart_57_s
      have rr := h.1.1.1.rr ht
      refine pw_ck (fun _ => pw_to rr.1 (pw_to k17 (pw_eq (fun x11 e11 => pw_ck (fun _ => pw_eq (fun x12 e12 => ?_))))))
      clear k0 k13 k14 k15 k16 k17
      have i11 : ix x11 = g + 1 := ixn (by rw [e11, ti_add (by rw [h1, l1]; omega) (by rw [h1, l1]; omega), h1, l1]; omega)
      have v12 : x12.toInt = (E : Int) := by rw [e12, i11, h.1.1.1.1.2 _ _ (by omega) (by omega) (by omega)]; exact hE
      have hJE : j + 0 = E := hJE
      have r0 : rns [] = 0 := rfl
      have w0 : wks 1 [] = 0 := rfl
      refine pw_pos (by omega) (pw_ret ⟨Sum.inl J, ks, rfl, List.prefix_rfl, by omega, fun J1 hJ1 => ?_, h⟩)
      rw [← Sum.inl.inj hJ1]
      omega
  | cons a d ih =>
    intro j b s S D J X ks h hO hA hD hI h44 hk hc hJE hb0 hb1 hb2 M a2 h2
    cases M with
    | zero => exact pw_none
    | succ M =>
      have eu : g_Judging_judgePart_57 (M + 1) = g_Judging_judgePart_57_s (g_Judging_judgePart_57 M) := by
        unfold g_Judging_judgePart_57
        exact lp_succ _ _ _
      rw [eu]
      unfold g_Judging_judgePart_57_s
      obtain ⟨⟨hA1, hN⟩, hA2⟩ := hA
      obtain ⟨hD3, hD5, hD2⟩ := hD
      have hIa := hI a (List.mem_cons_self ..)
      rw [wks_cons] at hb0 hb1
      rw [rns_cons] at hb2
      have hca : c[j]? = some a := hc 0 a rfl
      have rr := h.1.1.1.rr ht
      obtain ⟨cop, cpl, c4, cx, c34⟩ := ht.2.1 j a hca
      have hh : CH ps c kt g j D S a J ks := ⟨⟨hO, hA1.asp, hN, hca⟩, ⟨hIa.1, hIa.2.1, hIa.2.2, hD3, h44⟩, ⟨hk, hg, hp⟩, by omega, by omega, by omega⟩
      have i2 : ix a2 = j := ixn h2
      have hJE : j + (d.length + 1) = E := hJE
      -- what follows an instruction
      have nx : ∀ Y : St, CQ9 e ch ps told c X0 Y g j S a B J ks → pw (g_Judging_judgePart_172 (g_Judging_judgePart_57 M) a1 a2 Y) (fun _ Y => CSr9 e ch ps told c X0 Y g j S (a :: d) B J ks R1 R2) := by
        intro Y hq
        obtain ⟨r, ks1, q1, q2, q3, q4⟩ := hq
        unfold g_Judging_judgePart_172
        refine pw_let ?_
        have n2 : (a2 + Int32.ofInt 1).toInt = ((j + 1 : Nat) : Int) := by
          have := a2.toInt_lt
          have jl := (List.getElem?_eq_some_iff.mp hca).1
          by_cases big : (j : Int) + 1 ≤ 2147483647
          · rw [ti_add (by rw [h2, lo1]; omega) (by rw [h2, lo1]; omega), h2, lo1]; omega
          · exfalso
            have e17 := (X0.1 (e + 17) (g + 1)).toInt_lt
            omega
        cases r with
        | inl J1 =>
          have bd := jst_bd hA1.asp q1
          have q4 : CJ9 e ch ps told c X0 Y g (sh1 j a S) B J1 ks1 := q4
          refine pw_mono (ih (j + 1) _ _ _ (dnx D a) J1 Y ks1 q4 (JOK.step hW hg hIa.1.2.2 (fun z => by have := hIa.1.1 z; omega) hA1 hN hD5 hO q1) hA2 hD2 (fun q hq => hI q (List.mem_cons_of_mem _ hq)) ?_ (hk.trans q2) (fun i q hq => ?_) (by omega) (by omega) (by omega) (by omega) M _ n2) ?_
          · unfold dnx
            split
            · rename_i z5
              have := hIa.2.2 z5
              omega
            · exact h44
          · have := hc (i + 1) q hq
            rw [show j + 1 + i = j + (i + 1) by omega]
            exact this
          · rintro _ Z ⟨r1, ks2, w1, w2, w3, w4, w5⟩
            exact ⟨r1, ks2, Or.inl ⟨J1, q1, w1⟩, q2.trans w2, w3, w4, w5⟩
        | inr f =>
          have q4 : CJT e X0 Y ks1 ∧ (Y.1 61 4).toInt = f.1 ∧ (Y.1 61 5).toInt = f.2 ∧ ¬ f.1 = 0 := q4
          have fin : CSr9 e ch ps told c X0 Y g j S (a :: d) B J ks R1 R2 := ⟨Sum.inr f, ks1, Or.inr ⟨f, q1, rfl⟩, q2, by omega, fun J1 z => absurd z (by simp), q4⟩
          cases M with
          | zero => exact pw_none
          | succ M =>
            have eu : g_Judging_judgePart_57 (M + 1) = g_Judging_judgePart_57_s (g_Judging_judgePart_57 M) := by
              unfold g_Judging_judgePart_57
              exact lp_succ _ _ _
            rw [eu]
            unfold g_Judging_judgePart_57_s
            refine pw_ck (fun _ => pw_let (pw_let (pw_eq (fun x11 e11 => pw_ck (fun _ => pw_eq (fun x12 e12 => pw_ite (fun _ => pw_ret fin) (fun _ => pw_eq (fun x13 e13 => pw_neg ?_ (pw_ret fin)))))))))
            rw [e13, q4.2.1]
            exact q4.2.2.2
      refine pw_ck (fun _ => pw_to rr.1 (pw_to k17 (pw_eq (fun x11 e11 => pw_ck (fun _ => pw_eq (fun x12 e12 => ?_))))))
      have i11 : ix x11 = g + 1 := by
        clear k0 k13 k14 k15 k16 k17
        exact ixn (by rw [e11, ti_add (by rw [h1, l1]; omega) (by rw [h1, l1]; omega), h1, l1]; omega)
      have v12 : ¬ x12.toInt ≤ a2.toInt := by
        clear k0 k13 k14 k15 k16 k17
        have : x12.toInt = (E : Int) := by rw [e12, i11, h.1.1.1.1.2 _ _ (by omega) (by omega) (by omega)]; exact hE
        omega
      refine pw_neg v12 (pw_eq (fun x13 e13 => pw_pos (by rw [e13]; exact h.1.2.1.1) (pw_ck (fun _ => pw_to rr.1 (pw_to k13 (pw_ck (fun _ => pw_eq (fun x16 e16 => ?_))))))))
      have v16 : x16.toInt = a.1 := by rw [e16, i2, rr.2.2 _ _ (Or.inr (Or.inl rfl))]; exact cop
      refine pw_ite (fun c16 => ?_) (fun c16 => ?_)
      · refine pw_ck (fun _ => pw_to rr.1 (pw_to k13 (pw_ck (fun _ => pw_eq (fun x19 e19 => ?_)))))
        have v19 : x19.toInt = a.1 := by rw [e19, i2, rr.2.2 _ _ (Or.inr (Or.inl rfl))]; exact cop
        refine pw_ite (fun c19 => ?_) (fun c19 => ?_)
        · refine pw_ck (fun _ => pw_to rr.1 (pw_to k13 (pw_ck (fun _ => pw_eq (fun x22 e22 => pw_ck (fun _ => pw_to rr.1 (pw_to k14 (pw_ck (fun _ => pw_eq (fun x25 e25 => ?_))))))))))
          have v22 : x22.toInt = a.1 := by rw [e22, i2, rr.2.2 _ _ (Or.inr (Or.inl rfl))]; exact cop
          rw [i2, rr.2.2 _ _ (Or.inr (Or.inr (Or.inl rfl)))] at e25
          clear k0 k13 k14 k15 k16 k17
          exact pw_bd (l_plain9 ht h hh v22 e25 (by omega)) (fun _ X26 h26 => nx X26 h26)
        · refine pw_ck (fun _ => pw_to rr.1 (pw_to k13 (pw_ck (fun _ => pw_eq (fun x22 e22 => pw_ck (fun _ => pw_to rr.1 (pw_to k14 (pw_ck (fun _ => pw_eq (fun x25 e25 => ?_))))))))))
          have v22 : x22.toInt = a.1 := by rw [e22, i2, rr.2.2 _ _ (Or.inr (Or.inl rfl))]; exact cop
          rw [i2, rr.2.2 _ _ (Or.inr (Or.inr (Or.inl rfl)))] at e25
          clear k0 k13 k14 k15 k16 k17
          exact pw_bd (l_work9 ht h hh v22 e25 (by omega)) (fun _ X26 h26 => nx X26 h26)
      · refine pw_ck (fun _ => pw_to rr.1 (pw_to k15 (pw_ck (fun _ => pw_eq (fun X37 e37 => ?_)))))
        clear k0 k13 k14 k15 k16 k17
        have h37 : CJ9 e ch ps told c X0 X37 g S B J ks := h.st (by rw [e37]; exact h.1.id he (Or.inr rfl)) rfl (fun q => by rw [e37, wI_ne _ _ _ _ _ _ (by omega)])
        exact pw_bd (l_ask9 ht h37 hh h2 (by omega)) (fun _ X38 h38 => nx X38 h38)
theorem CJ9.cg (h : CJ9 e ch ps told c X0 X g S B J ks) : CG9 e ps told X0 X ks (J.2.2.2, B ++ [J.2.2.1]) := by
  obtain ⟨h1, ⟨h2, h3⟩, h4, h5⟩ := h
  refine ⟨h1.cg, fun q b hb => ?_, fun q z1 z2 => ?_⟩
  · have hb : (B ++ [J.2.2.1])[q]? = some b := hb
    have hl := (List.getElem?_eq_some_iff.mp hb).1
    rw [List.length_append, List.length_singleton] at hl
    by_cases z : q < B.length
    · rw [List.getElem?_append_left z] at hb
      exact h3 q b hb
    · have ez : q = B.length := by omega
      rw [ez, List.getElem?_concat_length] at hb
      rw [ez, h2, ← Option.some.inj hb]
      exact h4
  · have z1 : (B ++ [J.2.2.1]).length ≤ q := z1
    rw [List.length_append, List.length_singleton] at z1
    exact h5 q (by omega) z2
theorem l_params9 {G : List JG} (ht : CPR e ch X0 ps told c kt) (hP : CPP e X0 ps c kt) (hC : CPC ch W ps c po) (hk : k < ps.length) {a1 : Int32} (h1 : a1.toInt = (k : Int)) {R1 R2 : Nat} (hkt : kt <+: ks) (hb0 : wks 0 (pcd ps c k) ≤ 3000) (hb1 : G.length + wks 1 (pcd ps c k) + R1 ≤ 3000) (hb2 : ks.length + rns (pcd ps c k) + R2 ≤ 1549) : ∀ (M i : Nat) (a2 : Int32) (X : St), a2.toInt = (i : Int) → i ≤ (pks ps told k).length → CJ9 e ch ps told c X0 X k [] B ([], (fun x => ((pks ps told k).take i)[x]?), (js0 ps told k G).2.2.1, G) ks → pw (g_Judging_judgePart_12 M a1 a2 X) (fun _ Y => CSr9 e ch ps told c X0 Y k (pst ps k) [] (pcd ps c k) B (js0 ps told k G) ks R1 R2) := by
  have lo1 : (Int32.ofInt 1).toInt = 1 := by decide
  have l4 : (4 : Int32).toInt = 4 := by decide
  have he := ht.1.1
  obtain ⟨hW, hp, hpr⟩ := hC
  obtain ⟨p, hpt⟩ : ∃ p, ps[k]? = some p := ⟨_, List.getElem?_eq_getElem hk⟩
  obtain ⟨⟨hr, h15⟩, hin⟩ := hpr k p hpt
  obtain ⟨q1, q2, q3⟩ := pcd_at hpt hr
  obtain ⟨s1, s2, s3⟩ := pcd_sp hpt hr
  obtain ⟨x1, x2⟩ := pst_x (c := c) hpt
  have ln := pks_ln (told := told) hpt
  obtain ⟨c13, c17⟩ := hP.1 k p hpt
  have k13 := (kYq he).2.2.2.2.2.1
  have k17 := (kYq he).2.1
  have f := wk_fks (told := told) hW hk
  have hE : (X0.1 (e + 17) (k + 1)).toInt = (pend ps c k : Int) := by
    unfold pend
    by_cases z : k + 1 < ps.length
    · have := (hP.1 (k + 1) _ (List.getElem?_eq_getElem z)).2
      rw [List.getElem?_eq_getElem z]
      exact this
    · rw [List.getElem?_eq_none (by omega), show k + 1 = ps.length by omega]
      exact hP.2.1
  have hO : JOK p.2.2.2.1.length [] (js0 ps told k G) := by
    refine ⟨rfl, fun d hd => absurd hd List.not_mem_nil, fun i w k1 hw => absurd hw.symm (Option.some_ne_none _), fun x hx => ?_, fun x d hd => ?_⟩
    · exact ⟨_, List.getElem?_eq_getElem (by rw [ln]; exact hx)⟩
    · have hd : (pks ps told k)[x]? = some d := hd
      exact (f.2.1 d (List.mem_of_getElem? hd)).up (by omega)
  have hD : DLk p.2.2.2.1.length (pcd ps c k) := by
    have := q3 p.2.2.2.1.length [] (by omega) (fun _ _ => trivial)
    rw [List.append_nil] at this
    exact this
  have hcd : ∀ i a, (pcd ps c k)[i]? = some a → c[pst ps k + i]? = some a := fun i a hi => by
    have il := (List.getElem?_eq_some_iff.mp hi).1
    have : (c.drop (psx ps c k))[i]? = some a := by rw [s1, List.getElem?_append_left il]; exact hi
    rw [List.getElem?_drop, x2, ← x1] at this
    exact this
  have mk0 : mk [] = 0 := rfl
  intro M
  induction M with
  | zero => exact fun _ _ _ _ _ _ => pw_none
  | succ M ih =>
    intro i a2 X h2 hi h
    have eu : g_Judging_judgePart_12 (M + 1) = g_Judging_judgePart_12_s (g_Judging_judgePart_12 M) := by
      unfold g_Judging_judgePart_12
      exact lp_succ _ _ _
    rw [eu]
    unfold g_Judging_judgePart_12_s
    have rr := h.1.1.1.rr ht
    have fr := h.1.1.1.1.2
    refine pw_ck (fun _ => pw_to rr.1 (pw_to k13 (pw_ck (fun _ => pw_eq (fun x5 e5 => ?_)))))
    have v5 : x5.toInt = ((pks ps told k).length : Int) := by rw [e5, ixn h1, fr _ _ (by omega) (by omega) (by omega), c13, ln]
    refine pw_ite (fun c5 => ?_) (fun c5 => ?_)
    · have ei : i = (pks ps told k).length := by
        clear k13 k17
        omega
      refine pw_ck (fun _ => pw_to rr.1 (pw_to k17 (pw_ck (fun _ => pw_eq (fun x8 e8 => ?_)))))
      have h0 : CJ9 e ch ps told c X0 X k [] B (js0 ps told k G) ks := by
        rw [ei, List.take_length] at h
        exact h
      have v8 : x8.toInt = (pst ps k : Int) := by rw [e8, ixn h1, fr _ _ (by omega) (by omega) (by omega), c17, x1]
      clear k13 k17
      exact l_seg9 (W := W) ht hW hk hp h1 (R1 := R1) (R2 := R2) hE (pcd ps c k) (pst ps k) false (po k) [] p.2.2.2.1.length (js0 ps told k G) X ks h0 hO q1 hD hin (by have := f.2.2.1; omega) hkt hcd s2 (by show 0 + _ ≤ _; omega) (by show G.length + 0 + _ + _ ≤ _; omega) hb2 BIG x8 v8
    · have hlt : i < (pks ps told k).length := by
        clear k13 k17
        omega
      clear k13 k17
      have h4 := f.2.2.1
      refine pw_eq (fun x39 e39 => pw_eq (fun x40 e40 => pw_ck (fun _ => pw_eq (fun x41 e41 => pw_ck (fun _ => pw_eq (fun X42 e42 => pw_let (ih (i + 1) _ X42 ?_ (by omega) ?_)))))))
      · rw [ti_add (by rw [h2, lo1]; omega) (by rw [h2, lo1]; omega), h2, lo1]; omega
      · have v39 : x39.toInt = 4 * (k : Int) := by rw [e39, ti_mul (by rw [l4, h1]; omega) (by rw [l4, h1]; omega), l4, h1]; omega
        have i40 : ix x40 = 4 * k + i := ixn (by rw [e40, ti_add (by rw [v39, h2]; omega) (by rw [v39, h2]; omega), v39, h2]; omega)
        have hx : (pks ps told k)[i]? = some (pks ps told k)[i] := List.getElem?_eq_getElem hlt
        have kv := (h.1.1.2 k hk).2.2 i _ hx
        rw [ixn h2] at e42
        exact h.st (by rw [e42]; exact CJ.par he h.1 (by rw [e41, i40]; exact kv) hx) rfl (fun q => by rw [e42, wI_ne _ _ _ _ _ _ (by omega)])
theorem l_parts9 (ht : CPR e ch X0 ps told c kt) (hP : CPP e X0 ps c kt) (hC : CPC ch W ps c po) (hb0 : wks 0 c ≤ 3000) : ∀ (M k : Nat) (a3 : Int32) (X : St) (G : List JG × List Bool) (ks : List (List Int)), a3.toInt = (k : Int) → k ≤ ps.length → G.2.length = k → CG9 e ps told X0 X ks G → kt <+: ks → G.1.length + wks 1 (c.drop (psx ps c k)) ≤ 3000 → ks.length + rns (c.drop (psx ps c k)) ≤ 1549 → pw (g_Judging_judgeAll_85 M a3 X) (fun _ Y => CAr9 e ch ps told c X0 Y k G ks) := by
  have lo1 : (Int32.ofInt 1).toInt = 1 := by decide
  have l0 : (0 : Int32).toInt = 0 := by decide
  have he := ht.1.1
  have p40 := hC.2.1
  intro M
  induction M with
  | zero => exact fun _ _ _ _ _ _ _ _ _ _ _ _ => pw_none
  | succ M ih =>
    intro k a3 X G ks h3 hk hGl h hkt hb1 hb2
    have eu : g_Judging_judgeAll_85 (M + 1) = g_Judging_judgeAll_85_s (g_Judging_judgeAll_85 M) := by
      unfold g_Judging_judgeAll_85
      exact lp_succ _ _ _
    rw [eu]
    unfold g_Judging_judgeAll_85_s
    have hT := h.1.1.1
    have rr := hT.rr ht
    refine pw_ck (fun _ => pw_to rr.1 (pw_eq (fun x15 e15 => ?_)))
    have v15 : x15.toInt = (ps.length : Int) := by rw [e15, hT.1.2 _ _ (by omega) (by omega) (by omega)]; exact hP.2.2.1
    refine pw_ite (fun c15 => ?_) (fun c15 => ?_)
    · have ek : ps.length - k = 0 := by omega
      refine pw_ret ⟨Sum.inl G, ks, ?_, List.prefix_rfl, h⟩
      rw [ek]
      rfl
    · have hlt : k < ps.length := by omega
      obtain ⟨m, hm⟩ : ∃ m, ps.length - k = m + 1 := ⟨ps.length - k - 1, by omega⟩
      obtain ⟨p, hpt⟩ : ∃ p, ps[k]? = some p := ⟨_, List.getElem?_eq_getElem hlt⟩
      obtain ⟨s1, _, s3⟩ := pcd_sp hpt (hC.2.2 k p hpt).1.1
      have w1 : wks 1 (c.drop (psx ps c k)) = wks 1 (pcd ps c k) + wks 1 (c.drop (psx ps c (k + 1))) := by rw [s1, wks_ap]
      have r1 : rns (c.drop (psx ps c k)) = rns (pcd ps c k) + rns (c.drop (psx ps c (k + 1))) := by rw [s1, rns_ap]
      have w0 : wks 0 (pcd ps c k) ≤ wks 0 c := by
        have e0 : wks 0 (c.drop (psx ps c k)) = wks 0 (pcd ps c k) + wks 0 (c.drop (psx ps c (k + 1))) := by rw [s1, wks_ap]
        have e1 : wks 0 c = wks 0 (c.take (psx ps c k)) + wks 0 (c.drop (psx ps c k)) := by rw [← wks_ap, List.take_append_drop]
        omega
      refine pw_eq (fun x16 e16 => pw_pos (by rw [e16]; exact h.1.2.1) ?_)
      refine pw_bd (R := fun _ Y => CSr9 e ch ps told c X0 Y k (pst ps k) [] (pcd ps c k) G.2 (js0 ps told k G.1) ks (wks 1 (c.drop (psx ps c (k + 1)))) (rns (c.drop (psx ps c (k + 1))))) ?_ ?_
      · unfold g_Judging_judgePart
        refine pw_eq (fun X1 e1 => pw_eq (fun X2 e2 => ?_))
        have r2 : ∀ q, X2.1 62 q = X.1 62 q := fun q => by rw [e2, wI_ne _ _ _ _ _ _ (by omega), e1, wI_ne _ _ _ _ _ _ (by omega)]
        have h0 : CJ9 e ch ps told c X0 X2 k [] G.2 ([], (fun x => ((pks ps told k).take 0)[x]?), (js0 ps told k G.1).2.2.1, G.1) ks := by
          refine ⟨by rw [e2, e1]; exact h.1.cj he h3 l0, ⟨hGl, fun q b hb => ?_⟩, ?_, fun q z1 z2 => ?_⟩
          · have := h.2.1 q b hb
            unfold AC at this ⊢
            rw [r2 q]
            exact this
          · have := h.2.2 k (by omega) hlt
            unfold AC at this ⊢
            rw [r2 k]
            rw [hdA_js0 G.1] at this
            exact this
          · have := h.2.2 q (by omega) z2
            unfold AC at this ⊢
            rw [r2 q]
            exact this
        exact l_params9 (B := G.2) ht hP hC hlt h3 hkt (by omega) (by omega) (by omega) BIG 0 0 X2 (by decide) (Nat.zero_le _) h0
      · rintro _ X17 ⟨r, ks1, q1, q2, q3, q4, q5⟩
        have nx : (a3 + Int32.ofInt 1).toInt = ((k + 1 : Nat) : Int) := by rw [ti_add (by rw [h3, lo1]; omega) (by rw [h3, lo1]; omega), h3, lo1]; omega
        refine pw_let ?_
        cases r with
        | inl J =>
          have q5 : CJ9 e ch ps told c X0 X17 k (shl (pst ps k) [] (pcd ps c k)) G.2 J ks1 := q5
          have q4 := q4 J rfl
          refine pw_mono (ih (k + 1) _ X17 (J.2.2.2, G.2 ++ [J.2.2.1]) ks1 nx (by omega) (by show (G.2 ++ [_]).length = k + 1; rw [List.length_append, List.length_singleton, hGl]) q5.cg (hkt.trans q2) q4 q3) ?_
          rintro _ Y ⟨r1, ks2, y1, y2, y3⟩
          refine ⟨r1, ks2, ?_, q2.trans y2, y3⟩
          rw [hm]
          rw [show ps.length - (k + 1) = m by omega] at y1
          exact Or.inl ⟨J, q1, y1⟩
        | inr f =>
          have q5 : CJT e X0 X17 ks1 ∧ (X17.1 61 4).toInt = f.1 ∧ (X17.1 61 5).toInt = f.2 ∧ ¬ f.1 = 0 := q5
          have fin : CAr9 e ch ps told c X0 X17 k G ks := ⟨Sum.inr f, ks1, by rw [hm]; exact Or.inr ⟨f, q1, rfl⟩, q2, q5⟩
          cases M with
          | zero => exact pw_none
          | succ M =>
            have eu : g_Judging_judgeAll_85 (M + 1) = g_Judging_judgeAll_85_s (g_Judging_judgeAll_85 M) := by
              unfold g_Judging_judgeAll_85
              exact lp_succ _ _ _
            rw [eu]
            unfold g_Judging_judgeAll_85_s
            refine pw_ck (fun _ => pw_let (pw_eq (fun x15 e15 => pw_ite (fun _ => pw_ret fin) (fun _ => pw_eq (fun x16 e16 => pw_neg ?_ (pw_ret fin))))))
            rw [e16, q5.2.1]
            exact q5.2.2.2
theorem l_any9 (ht : CPR e ch X0 ps told c kt) (h : CJT e X0 X ks) (hd : KC ks v x) : pw (g_Kinds_hasAny (e + 1) v X) (fun r Y => Y = X ∧ (r = 0 ∨ r = 1) ∧ (r.toInt = 0 ↔ ¬ (3 : Int) ∈ x)) := by
  obtain ⟨z, a, b⟩ := hd
  have hz := (List.getElem?_eq_some_iff.mp b).1
  refine pw_mono (kk_hasAny (CJ.he ht).2 (j := z) (by rw [h.2.1.1.1]; omega) a (h.2.1.any b)) (fun r Y q => ⟨q.1, ?_, q.2.2⟩)
  rcases q.2.1 with y | y
  · exact Or.inl (Int32.toInt_inj.mp (y.trans (by decide)))
  · exact Or.inr (Int32.toInt_inj.mp (y.trans (by decide)))
theorem l_header9 (ht : CPR e ch X0 ps told c kt) (hP : CPP e X0 ps c kt) (hW : PWd ps) (hp : ps.length ≤ 40) (hk : k < ps.length) {a1 : Int32} (h1 : a1.toInt = (k : Int)) (hkt : kt <+: ks) (hl : ks.length < 1549) (h : HSq9 e ps told X0 X ks k) : pw (g_Judging_takeHeader a1 X) (fun _ Y => ∃ ks1, ks <+: ks1 ∧ ks1.length ≤ ks.length + 1 ∧ HSq9 e ps told X0 Y ks1 (k + 1)) := by
  have lo1 : (Int32.ofInt 1).toInt = 1 := by decide
  have l4 : (4 : Int32).toInt = 4 := by decide
  have he := ht.1.1
  have k1 := (kYq he).2.2.2.2.2
  obtain ⟨p, hpt⟩ : ∃ p, ps[k]? = some p := ⟨_, List.getElem?_eq_getElem hk⟩
  obtain ⟨c13, c17⟩ := hP.1 k p hpt
  obtain ⟨kp, ⟨zo, zo1, zo2⟩⟩ := hP.2.2.2 k p hpt
  have ln := pks_ln (told := told) hpt
  have f := wk_fks (told := told) hW hk
  have z63 : zY YC 63 = 160 := by decide +kernel
  unfold g_Judging_takeHeader
  refine pw_eq (fun x1 e1 => ?_)
  have v1 : x1.toInt = ((4 * k : Nat) : Int) := by
    clear k1 z63
    rw [e1, ti_mul (by rw [l4, h1]; omega) (by rw [l4, h1]; omega), l4, h1]
    omega
  have loop : ∀ (M i : Nat) (a3 : Int32) (Z : St), a3.toInt = (i : Int) → i ≤ (pks ps told k).length → HSq9 e ps told X0 Z ks k → (∀ q d, q < i → (pks ps told k)[q]? = some d → KC ks (Z.1 63 (4 * k + q)) d) → pw (g_Judging_takeHeader_6 M a1 x1 a3 Z) (fun _ Y => ∃ ks1, ks <+: ks1 ∧ ks1.length ≤ ks.length + 1 ∧ HSq9 e ps told X0 Y ks1 (k + 1)) := by
    intro M
    induction M with
    | zero => exact fun _ _ _ _ _ _ _ => pw_none
    | succ M ih =>
      intro i a3 Z h3 hi hZ h63
      have eu : g_Judging_takeHeader_6 (M + 1) = g_Judging_takeHeader_6_s (g_Judging_takeHeader_6 M) := by
        unfold g_Judging_takeHeader_6
        exact lp_succ _ _ _
      rw [eu]
      unfold g_Judging_takeHeader_6_s
      obtain ⟨⟨hT, hD, h61, h55⟩, h62⟩ := hZ
      have rr := hT.rr ht
      have fr := hT.1.2
      refine pw_ck (fun _ => pw_to rr.1 (pw_to k1.1 (pw_ck (fun _ => pw_eq (fun x4 e4 => ?_)))))
      have v4 : x4.toInt = ((pks ps told k).length : Int) := by
        rw [e4, ixn h1, fr _ _ (by clear k1 z63; omega) (by clear k1 z63; omega) (by clear k1 z63; omega), c13, ln]
      refine pw_ite (fun c4 => ?_) (fun c4 => ?_)
      · have ei : i = (pks ps told k).length := by clear k1 z63; omega
        refine pw_ck (fun _ => pw_to rr.1 (pw_to k1.2.2 (pw_ck (fun _ => pw_eq (fun x7 e7 => ?_)))))
        have k7 : KC ks x7 p.2.2.2.2.1 := by
          refine ⟨zo, ?_, pf_at hkt zo2⟩
          rw [e7, ixn h1, fr _ _ (by clear k1 z63; omega) (by clear k1 z63; omega) (by clear k1 z63; omega)]
          exact zo1
        refine pw_bd (l_asTold ht hT h1 hk k7) ?_
        rintro x8 X9 ⟨e9, k8⟩
        rw [e9]
        have ok : oks ps told k = askd told k p.2.2.2.2.1 := by unfold oks; rw [pt_getD hpt]
        rw [← ok] at k8
        refine pw_ck (fun _ => pw_eq (fun X10 e10 => ?_))
        rw [ixn h1] at e10
        have r10 : ∀ a b, ¬ (a = 64 ∧ b = k) → X10.1 a b = Z.1 a b := fun a b q => by rw [e10, wI_ne _ _ _ _ _ _ (by clear k1 z63; omega)]
        have T10 : CJT e X0 X10 ks := by rw [e10]; exact hT.wr he (Or.inl (by decide))
        have rr10 := T10.rr ht
        refine pw_ck (fun _ => pw_to rr10.2.1 (pw_ck (fun _ => pw_to rr10.1 (pw_to k1.1 (pw_ck (fun _ => pw_eq (fun x14 e14 => pw_ck (fun _ => pw_eq (fun x15 e15 => ?_)))))))))
        have v14 : x14.toInt = ((pks ps told k).length : Int) := by
          rw [e14, ixn h1, T10.1.2 _ _ (by clear k1 z63; omega) (by clear k1 z63; omega) (by clear k1 z63; omega), c13, ln]
        have k15 : KC ks x15 (oks ps told k) := by rw [e15, ixn h1, e10, wI_at]; exact k8
        obtain ⟨zq, zq1, zq2⟩ := k15
        have l4k := f.2.2.1
        refine pw_bd (kk_functionOf (CJ.he ht).2 (f := 4 * k) (ds := pks ps told k) T10.2.1 hl v1 (by clear k1 z63; omega) v14 l4k (by rw [z63]; clear k1 z63; omega) (by clear k1 z63; omega) zq1 zq2 (fun q d hd => ?_)) ?_
        · have hq := (List.getElem?_eq_some_iff.mp hd).1
          rw [r10 63 _ (by clear k1 z63; omega)]
          exact h63 q d (by clear k1 z63; omega) hd
        · rintro x16 X17 ⟨ks1, t1, hks, ⟨zf, zf1, zf2⟩, y2, yr⟩
          have zf2 : ks1[zf]? = some (fks ps told k) := zf2
          have pre : ks <+: ks1 ∧ ks1.length ≤ ks.length + 1 ∧ ∀ x ∈ ks1, WKd 40 x := by
            rcases hks with rfl | ⟨_, rfl⟩
            · exact ⟨List.prefix_rfl, Nat.le_add_right _ _, T10.2.2.2⟩
            · refine ⟨List.prefix_append _ _, by rw [List.length_append, List.length_singleton]; exact Nat.le_refl _, fun x hx => ?_⟩
              rcases List.mem_append.mp hx with y | y
              · exact T10.2.2.2 x y
              · rw [List.mem_singleton.mp y]; exact f.2.2.2.1
          have r17 : ∀ a b, 55 ≤ a ∧ a ≤ 69 → X17.1 a b = X10.1 a b := fun a b q => yr a b (by clear k1 z63; omega)
          have T17 : CJT e X0 X17 ks1 := ⟨⟨y2.trans T10.1.1, fun a b b1 b2 b3 => (yr a b (by clear k1 z63; omega)).trans (T10.1.2 a b b1 b2 b3)⟩, t1, T10.2.2.1.trans pre.1, pre.2.2⟩
          refine pw_ck (fun _ => pw_eq (fun X18 e18 => ?_))
          rw [ixn h1] at e18
          have T18 : CJT e X0 X18 ks1 := by rw [e18]; exact T17.wr he (Or.inl (by decide))
          have rr18 := T18.rr ht
          refine pw_ck (fun _ => pw_to rr18.2.1 (pw_ck (fun _ => pw_eq (fun x20 e20 => ?_))))
          have k20 : KC ks1 x20 (fks ps told k) := ⟨zf, by rw [e20, ixn h1, e18, wI_at]; exact zf1, zf2⟩
          refine pw_bd (l_any9 ht T18 k20) ?_
          rintro x21 X22 ⟨e22, b21, n21⟩
          rw [e22]
          refine pw_ck (fun _ => pw_eq (fun X23 e23 => pw_ret ⟨ks1, pre.1, pre.2.1, ?_⟩))
          have r23 : ∀ a b, ¬ a = 62 → ¬ (a = 65 ∧ b = k) → ¬ (a = 64 ∧ b = k) → 55 ≤ a ∧ a ≤ 69 → X23.1 a b = Z.1 a b := fun a b q1 q2 q3 q4 => by
            rw [e23, wI_ne _ _ _ _ _ _ (by clear k1 z63; omega), e18, wI_ne _ _ _ _ _ _ (by clear k1 z63; omega), r17 a b q4]
            exact r10 a b q3
          clear k1 z63
          refine ⟨?_, fun q hq => ?_⟩
          rotate_left
          · have e23k := e23
            rw [ixn h1] at e23k
            by_cases z : q = k
            · rw [z]
              unfold AC hdA
              rw [decide_eq_false_iff_not, ← n21, e23k, wI_at]
              rcases b21 with y | y
              · rw [y]; exact ⟨fun _ => by decide, fun _ => nar8_0⟩
              · rw [y]; exact ⟨fun u => absurd u nar8_1, fun u => absurd u (by decide)⟩
            · have := h62 q (by omega)
              unfold AC at this ⊢
              rw [e23k, wI_ne _ _ _ _ _ _ (by omega), e18, wI_ne _ _ _ _ _ _ (by omega), r17 62 q (by omega), r10 62 q (by omega)]
              exact this
          refine ⟨by rw [e23]; exact T18.wr he (Or.inl (by decide)), fun q hq => ?_, by rw [r23 61 _ (by omega) (by omega) (by omega) (by omega)]; exact h61, by rw [r23 55 _ (by omega) (by omega) (by omega) (by omega)]; exact h55⟩
          by_cases z : q = k
          · rw [z]
            have v64 : X23.1 64 k = x8 := by rw [e23, wI_ne _ _ _ _ _ _ (by omega), e18, wI_ne _ _ _ _ _ _ (by omega), r17 64 _ (by omega), e10, wI_at]
            have v65 : X23.1 65 k = x16 := by rw [e23, wI_ne _ _ _ _ _ _ (by omega), e18, wI_at]
            rw [v64, v65]
            refine ⟨k8.up pre.1, ⟨zf, zf1, zf2⟩, fun i d hd => ?_⟩
            have hi2 := (List.getElem?_eq_some_iff.mp hd).1
            rw [r23 63 _ (by omega) (by omega) (by omega) (by omega)]
            exact (h63 i d (by omega) hd).up pre.1
          · obtain ⟨b1, b2, b3⟩ := hD q (by omega)
            rw [r23 64 _ (by omega) (by omega) (by omega) (by omega), r23 65 _ (by omega) (by omega) (by omega) (by omega)]
            exact ⟨b1.up pre.1, b2.up pre.1, fun i d hd => by rw [r23 63 _ (by omega) (by omega) (by omega) (by omega)]; exact (b3 i d hd).up pre.1⟩
      · have hlt : i < (pks ps told k).length := by clear k1 z63; omega
        have l4k := f.2.2.1
        refine pw_eq (fun x24 e24 => pw_ck (fun _ => pw_to rr.1 (pw_to k1.2.1 (pw_eq (fun x27 e27 => pw_ck (fun _ => pw_eq (fun x28 e28 => ?_)))))))
        clear k1 z63
        have i24 : ix x24 = 4 * k + i := ixn (by rw [e24, ti_add (by rw [v1, h3]; omega) (by rw [v1, h3]; omega), v1, h3]; omega)
        have i27 : ix x27 = 4 * k + i := ixn (by rw [e27, ti_add (by rw [v1, h3]; omega) (by rw [v1, h3]; omega), v1, h3]; omega)
        obtain ⟨z, zk1, zk2⟩ := kp i (by omega)
        have k28 : KC ks x28 (p.2.2.2.1.reverse.getD i ([], [])).2 := by
          refine ⟨z, ?_, pf_at hkt zk2⟩
          rw [e28, i27, fr _ _ (by omega) (by omega) (by omega)]
          exact zk1
        refine pw_bd (l_asTold ht hT h1 hk k28) ?_
        rintro x29 X30 ⟨e30, k29⟩
        rw [e30]
        have pa := pks_at (told := told) hpt (i := i) (by omega)
        refine pw_ck (fun _ => pw_eq (fun X31 e31 => pw_let (ih (i + 1) _ X31 ?_ (by omega) ?_ (fun q d hq hd => ?_))))
        · rw [ti_add (by rw [h3, lo1]; omega) (by rw [h3, lo1]; omega), h3, lo1]; omega
        · rw [e31, i24]
          have r31 : ∀ a b, ¬ (a = 63 ∧ b = 4 * k + i) → (wI Z 63 (4 * k + i) x29).1 a b = Z.1 a b := fun a b q => wI_ne _ _ _ _ _ _ (by omega)
          refine ⟨?_, fun q hq => ?_⟩
          rotate_left
          · have := h62 q hq
            unfold AC at this ⊢
            rw [r31 62 q (by omega)]
            exact this
          refine ⟨hT.wr he (Or.inl (by decide)), fun q hq => ?_, by rw [r31 61 _ (by omega)]; exact h61, by rw [r31 55 _ (by omega)]; exact h55⟩
          obtain ⟨b1, b2, b3⟩ := hD q hq
          rw [r31 64 _ (by omega), r31 65 _ (by omega)]
          refine ⟨b1, b2, fun i2 d hd => ?_⟩
          have hi2 := (List.getElem?_eq_some_iff.mp hd).1
          have l4q := (wk_fks (told := told) hW (p := q) (by omega)).2.2.1
          rw [r31 63 _ (by omega)]
          exact b3 i2 d hd
        · rw [e31, i24]
          by_cases y : q = i
          · rw [y] at hd ⊢
            rw [pa] at hd
            rw [wI_at, ← Option.some.inj hd]
            exact k29
          · rw [wI_ne _ _ _ _ _ _ (by omega)]
            exact h63 q d (by omega) hd
  exact loop BIG 0 0 X (by decide) (Nat.zero_le _) h (fun q d hq _ => absurd hq (Nat.not_lt_zero _))
theorem l_headers9 (ht : CPR e ch X0 ps told c kt) (hP : CPP e X0 ps c kt) (hC : CPC ch W ps c po) (hb0 : wks 0 c ≤ 3000) (hb1 : wks 1 c ≤ 3000) : ∀ (M k : Nat) (a3 : Int32) (X : St) (ks : List (List Int)), a3.toInt = (k : Int) → k ≤ ps.length → HSq9 e ps told X0 X ks k → kt <+: ks → ks.length + (ps.length - k) + rns c ≤ 1549 → pw (g_Judging_judgeAll_61 M a3 X) (fun _ Y => CAr9 e ch ps told c X0 Y 0 ([], []) ks) := by
  have lo1 : (Int32.ofInt 1).toInt = 1 := by decide
  have p40 := hC.2.1
  intro M
  induction M with
  | zero => exact fun _ _ _ _ _ _ _ _ _ => pw_none
  | succ M ih =>
    intro k a3 X ks h3 hk h hkt hb2
    have eu : g_Judging_judgeAll_61 (M + 1) = g_Judging_judgeAll_61_s (g_Judging_judgeAll_61 M) := by
      unfold g_Judging_judgeAll_61
      exact lp_succ _ _ _
    rw [eu]
    unfold g_Judging_judgeAll_61_s
    have he := ht.1.1
    have rr := h.1.1.rr ht
    refine pw_ck (fun _ => pw_to rr.1 (pw_eq (fun x13 e13 => ?_)))
    have v13 : x13.toInt = (ps.length : Int) := by rw [e13, h.1.1.1.2 _ _ (by omega) (by omega) (by omega)]; exact hP.2.2.1
    refine pw_ite (fun c13 => ?_) (fun c13 => ?_)
    · have ek : k = ps.length := by omega
      have w1 : wks 1 (c.drop (psx ps c 0)) ≤ wks 1 c := by
        have e1 : wks 1 c = wks 1 (c.take (psx ps c 0)) + wks 1 (c.drop (psx ps c 0)) := by rw [← wks_ap, List.take_append_drop]
        omega
      have r1 : rns (c.drop (psx ps c 0)) ≤ rns c := by
        have e1 : rns c = rns (c.take (psx ps c 0)) + rns (c.drop (psx ps c 0)) := by rw [← rns_ap, List.take_append_drop]
        omega
      refine l_parts9 ht hP hC hb0 BIG 0 0 X ([], []) ks (by decide) (Nat.zero_le _) rfl ⟨⟨⟨h.1.1, fun q hq => h.1.2.1 q (by omega)⟩, h.1.2.2.1, h.1.2.2.2, fun i G1 hG => absurd hG.symm (Option.some_ne_none _)⟩, fun q b hb => absurd hb.symm (Option.some_ne_none _), fun q _ hq => h.2 q (by omega)⟩ hkt (by show 0 + _ ≤ _; omega) (by omega)
    · have hlt : k < ps.length := by omega
      refine pw_bd (l_header9 ht hP hC.1 hC.2.1 hlt h3 hkt (by omega) h) ?_
      rintro _ X19 ⟨ks1, q1, q2, q3⟩
      refine pw_let (pw_mono (ih (k + 1) _ X19 ks1 (by rw [ti_add (by rw [h3, lo1]; omega) (by rw [h3, lo1]; omega), h3, lo1]; omega) (by omega) q3 (hkt.trans q1) (by omega)) ?_)
      rintro _ Y ⟨r, ks2, y1, y2, y3⟩
      exact ⟨r, ks2, y1, q1.trans y2, y3⟩
theorem l_judgeAll9 (he : e = 2 ∨ e = 24) (hR : CPRr e ch X ps told c kt) (hP : CPP e X ps c kt) (hC : CPC ch W ps c po) (hT : TKS (e + 1) X ksP) (hkt : kt = ksP.take m) (h5 : (X.1 e 5).toInt = (m : Int)) (hm : 9 ≤ m) (hml : m ≤ ksP.length) (h9 : K9 <+: kt) (hW : ∀ d ∈ kt, WKd 40 d) (hb0 : wks 0 c ≤ 3000) (hb1 : wks 1 c ≤ 3000) (hb2 : m + ps.length + rns c ≤ 1549) : pw (g_Judging_judgeAll e 55 X) (fun _ Y => ∃ X4 : St, X4.1 = X.1 ∧ X4.2.1 = X.2.1 ∧ (∀ q, ¬ q = 61 → X4.2.2 q = X.2.2 q) ∧ CAr9 e ch ps told c X4 Y 0 ([], []) kt) := by
  have ho : e + 1 = 3 ∨ e + 1 = 25 := by omega
  have ky := (kYp he).1
  unfold g_Judging_judgeAll
  refine pw_eq (fun X1 e1 => pw_to ky (pw_eq (fun X3 e3 => pw_eq (fun X4 e4 => ?_))))
  clear ky
  have r4 : X4.1 = X.1 := by rw [e4, e3, e1]; rfl
  have s4 : X4.2.1 = X.2.1 := by rw [e4, e3, e1]; rfl
  have q1 : X4.2.2 61 1 = e + 1 := by rw [e4, wR_se, if_neg (by decide), e3, wR_se, if_neg (by decide), e1, wR_se, if_pos rfl]
  have q2 : X4.2.2 61 2 = e + 2 := by rw [e4, wR_se, if_neg (by decide), e3, wR_se, if_pos rfl]
  have q0 : X4.2.2 61 0 = 56 := by rw [e4, wR_se, if_pos rfl]
  have qn : ∀ q, ¬ q = 61 → X4.2.2 q = X.2.2 q := fun q z => by rw [e4, wR_sn z, e3, wR_sn z, e1, wR_sn z]
  have ht : CPR e ch X4 ps told c kt := by
    unfold CPR
    rw [r4]
    exact ⟨⟨he, q1, q2, q0⟩, hR⟩
  have hP4 : CPP e X4 ps c kt := by
    unfold CPP PKSq at hP ⊢
    rw [r4]
    exact hP
  have hT4 : TKS (e + 1) X4 ksP := hT.cg (fun a b _ _ _ => by rw [r4])
  refine pw_ck (fun _ => pw_to (show X4.2.2 61 2 - 1 = e + 1 by rw [q2]; rfl) (pw_ck (fun _ => pw_to (show X4.2.2 61 1 - 1 = e by rw [q1]; rfl) (pw_eq (fun x7 e7 => pw_bd (kk_cutTo (m := m) ho hT4 (by rw [e7, r4]; exact h5) hm hml) ?_)))))
  rintro _ X8 ⟨t8, y8, r8⟩
  rw [← hkt] at t8
  refine pw_ck (fun _ => pw_eq (fun X9 f9 => pw_eq (fun X10 f10 => pw_eq (fun X11 f11 => ?_))))
  have C8 : CJT e X4 X8 kt := ⟨⟨y8, fun a b b1 b2 b3 => r8 a b (by omega)⟩, t8, h9, hW⟩
  have C11 : CJT e X4 X11 kt := by
    rw [f11, f10, f9]
    exact ((C8.wr he (Or.inl (by decide))).wr he (Or.inl (by decide))).wr he (Or.inl (by decide))
  have l0 : (0 : Int32).toInt = 0 := by decide
  have hl : kt.length = m := by rw [hkt, List.length_take]; omega
  refine pw_mono (l_headers9 ht hP4 hC hb0 hb1 BIG 0 0 X11 kt (by decide) (Nat.zero_le _) ⟨⟨C11, fun q hq => absurd hq (Nat.not_lt_zero _), ?_, ?_⟩, fun q hq => absurd hq (Nat.not_lt_zero _)⟩ List.prefix_rfl (by omega)) (fun _ Y h => ⟨X4, r4, s4, qn, h⟩)
  · rw [f11, wI_ne _ _ _ _ _ _ (by omega), f10, wI_at]
    exact l0
  · rw [f11, wI_ne _ _ _ _ _ _ (by omega), f10, wI_ne _ _ _ _ _ _ (by omega), f9, wI_at]
    exact l0
end CJ9S
