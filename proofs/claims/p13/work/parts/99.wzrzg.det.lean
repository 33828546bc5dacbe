/-! the class judges: judgeAll; there is one way to judge -/
/-- the rows of a program that has been read -/
def CPRr (e : Nat) (ch : Tx) (X0 : St) (ps : List Pt) (told : Nat → Bool) (c : List Ins) (kt : List (List Int)) : Prop := (∀ (i : Nat) (a : Ins), c[i]? = some a → (X0.1 (e + 18) i).toInt = a.1 ∧ (X0.1 (e + 21) i).toInt = a.2.2.1 ∧ (a.1 = 4 → (X0.1 (e + 19) i).toInt = nrp ch ps a.2.2.1) ∧ (¬ a.1 = 4 → ¬ a.1 = 34 → X0.1 (e + 19) i = Int32.ofInt a.2.1) ∧ (a.1 = 34 → ∃ z : Nat, X0.1 (e + 19) i = Int32.ofInt (a.2.1 + (z : Int)) ∧ kt[z]? = some a.2.2.2)) ∧ (∀ k, k < ps.length → ((X0.1 (e + 16) k).toInt = 0 ↔ ¬ told k = true)) ∧ kt.length ≤ 1549
section DETS
variable {e g j n m k : Nat} {ch : Tx} {ps : List Pt} {told : Nat → Bool} {c : List Ins} {X0 X Y Z W : St} {ks ks1 kt ksP : List (List Int)} {d : List Ins} {p t : Int} {po : Nat → Nat} {S : List SE} {a : Ins} {J J1 J2 : JS} {r r1 : Sum JS (Int × Int)} {w k1 k2 : List Int}
theorem wR_se {v q : Nat} : (_root_.Jvm.Pilot.CBlameCourtLaw_law_r8381_f30dd1.wR X e k v).2.2 e q = if q = k then v else X.2.2 e q := by
  show uA X.2.2 e (fun j => if j = k then v else X.2.2 e j) e q = _
  unfold uA
  rw [if_pos rfl]
theorem wR_sn {v q : Nat} (h : ¬ q = e) : (_root_.Jvm.Pilot.CBlameCourtLaw_law_r8381_f30dd1.wR X e k v).2.2 q = X.2.2 q := by
  show uA X.2.2 e (fun j => if j = k then v else X.2.2 e j) q = _
  unfold uA
  rw [if_neg h]
theorem l_judgeAll (he : e = 2 ∨ e = 24) (hR : CPRr e ch X ps told c kt) (hP : CPP e X ps c kt) (hC : CPC ch W ps c po) (hT : TKS (e + 1) X ksP) (hkt : kt = ksP.take m) (h5 : (X.1 e 5).toInt = (m : Int)) (hm : 9 ≤ m) (hml : m ≤ ksP.length) (h9 : K9 <+: kt) (hW : ∀ d ∈ kt, WKd 40 d) (hb0 : wks 0 c ≤ 3000) (hb1 : wks 1 c ≤ 3000) (hb2 : m + ps.length + rns c ≤ 1549) : pw (g_Judging_judgeAll e 55 X) (fun _ Y => ∃ X4 : St, X4.1 = X.1 ∧ X4.2.1 = X.2.1 ∧ (∀ q, ¬ q = 61 → X4.2.2 q = X.2.2 q) ∧ CAr e ch ps told c X4 Y 0 ([], []) kt) := by
  have ho : e + 1 = 3 ∨ e + 1 = 25 := by omega
  have ky := (kYp he).1
  unfold g_Judging_judgeAll
  refine pw_eq (fun X1 e1 => pw_to ky (pw_eq (fun X3 e3 => pw_eq (fun X4 e4 => ?_))))
  clear ky
  have r4 : X4.1 = X.1 := by rw [e4, e3, e1]; rfl
  have s4 : X4.2.1 = X.2.1 := by rw [e4, e3, e1]; rfl
  have q1 : X4.2.2 61 1 = e + 1 := by rw [e4, wR_se, if_neg (by decide), e3, wR_se, if_neg (by decide), e1, wR_se, if_pos rfl]
  have q2 : X4.2.2 61 2 = e + 2 := by rw [e4, wR_se, if_neg (by decide), e3, wR_se, if_pos rfl]
  have q0 : X4.2.2 61 0 = 56 := by rw [e4, wR_se, if_pos rfl]
  have qn : ∀ q, ¬ q = 61 → X4.2.2 q = X.2.2 q := fun q z => by rw [e4, wR_sn z, e3, wR_sn z, e1, wR_sn z]
  have ht : CPR e ch X4 ps told c kt := by
    unfold CPR
    rw [r4]
    exact ⟨⟨he, q1, q2, q0⟩, hR⟩
  have hP4 : CPP e X4 ps c kt := by
    unfold CPP PKSq at hP ⊢
    rw [r4]
    exact hP
  have hT4 : TKS (e + 1) X4 ksP := hT.cg (fun a b _ _ _ => by rw [r4])
  refine pw_ck (fun _ => pw_to (show X4.2.2 61 2 - 1 = e + 1 by rw [q2]; rfl) (pw_ck (fun _ => pw_to (show X4.2.2 61 1 - 1 = e by rw [q1]; rfl) (pw_eq (fun x7 e7 => pw_bd (kk_cutTo (m := m) ho hT4 (by rw [e7, r4]; exact h5) hm hml) ?_)))))
  rintro _ X8 ⟨t8, y8, r8⟩
  rw [← hkt] at t8
  refine pw_ck (fun _ => pw_eq (fun X9 f9 => pw_eq (fun X10 f10 => pw_eq (fun X11 f11 => ?_))))
  have C8 : CJT e X4 X8 kt := ⟨⟨y8, fun a b b1 b2 b3 => r8 a b (by omega)⟩, t8, h9, hW⟩
  have C11 : CJT e X4 X11 kt := by
    rw [f11, f10, f9]
    exact ((C8.wr he (Or.inl (by decide))).wr he (Or.inl (by decide))).wr he (Or.inl (by decide))
  have l0 : (0 : Int32).toInt = 0 := by decide
  have hl : kt.length = m := by rw [hkt, List.length_take]; omega
  refine pw_mono (l_headers ht hP4 hC hb0 hb1 BIG 0 0 X11 kt (by decide) (Nat.zero_le _) ⟨C11, fun q hq => absurd hq (Nat.not_lt_zero _), ?_, ?_⟩ List.prefix_rfl (by omega)) (fun _ Y h => ⟨X4, r4, s4, qn, h⟩)
  · rw [f11, wI_ne _ _ _ _ _ _ (by omega), f10, wI_at]
    exact l0
  · rw [f11, wI_ne _ _ _ _ _ _ (by omega), f10, wI_ne _ _ _ _ _ _ (by omega), f9, wI_at]
    exact l0
theorem jmeet_det (h : jmeet g j p t w J r) (h1 : jmeet g j p t w J r1) : r = r1 := by
  rcases h with ⟨a, b⟩ | ⟨a, a2, b⟩ | ⟨a, a2, b⟩
  · rcases h1 with ⟨c, d⟩ | ⟨c, c2, d⟩ | ⟨c, c2, d⟩
    · rw [b, d]
    · exact absurd c a
    · exact absurd c a
  · rcases h1 with ⟨c, d⟩ | ⟨c, c2, d⟩ | ⟨c, c2, d⟩
    · exact absurd a c
    · rw [b, d]
    · exact absurd a2 c2
  · rcases h1 with ⟨c, d⟩ | ⟨c, c2, d⟩ | ⟨c, c2, d⟩
    · exact absurd a c
    · exact absurd c2 a2
    · rw [b, d]
theorem jform_det (h : jform g j p t w J r) (h1 : jform g j p t w J r1) : r = r1 := by
  rcases h with ⟨a, b⟩ | ⟨a, a2, b⟩ | ⟨a, a2, b⟩
  · rcases h1 with ⟨c, d⟩ | ⟨c, c2, d⟩ | ⟨c, c2, d⟩
    · rw [b, d]
    · exact absurd a c
    · exact absurd a c
  · rcases h1 with ⟨c, d⟩ | ⟨c, c2, d⟩ | ⟨c, c2, d⟩
    · exact absurd c a
    · rw [b, d]
    · exact absurd a2 c2
  · rcases h1 with ⟨c, d⟩ | ⟨c, c2, d⟩ | ⟨c, c2, d⟩
    · exact absurd c a
    · exact absurd c2 a2
    · rw [b, d]
theorem jcall_det (h : jcall g j p n J r) (h1 : jcall g j p n J r1) : r = r1 := by
  rcases h with ⟨a, b⟩ | ⟨a, h⟩
  · rcases h1 with ⟨c, d⟩ | ⟨c, _⟩
    · rw [b, d]
    · exact absurd a c
  · rcases h1 with ⟨c, _⟩ | ⟨_, h1⟩
    · exact absurd c a
    · rcases h with ⟨a, h⟩ | ⟨a, b⟩
      · rcases h1 with ⟨_, h1⟩ | ⟨c, _⟩
        · rcases h with ⟨a, b⟩ | ⟨a, b⟩
          · rcases h1 with ⟨_, d⟩ | ⟨c, _⟩
            · rw [b, d]
            · exact absurd a c
          · rcases h1 with ⟨c, _⟩ | ⟨_, d⟩
            · exact absurd c a
            · rw [b, d]
        · exact absurd a c
      · rcases h1 with ⟨c, _⟩ | ⟨_, d⟩
        · exact absurd c a
        · rw [b, d]
theorem jmix_det (h : jmix c g m S J k1 J1) (h1 : jmix c g m S J k2 J2) : k1 = k2 ∧ J1 = J2 := by
  rcases h with ⟨a, b, d⟩ | ⟨a, b, d⟩
  · rcases h1 with ⟨_, f, i⟩ | ⟨x, _, _⟩
    · exact ⟨by rw [b, f], by rw [d, i]⟩
    · exact absurd a x
  · rcases h1 with ⟨x, _, _⟩ | ⟨_, f, i⟩
    · exact absurd x a
    · exact ⟨by rw [b, f], by rw [d, i]⟩
theorem JST.det (h : JST ch ps told c g j S a J r) (h1 : JST ch ps told c g j S a J r1) : r = r1 := by
  rcases h with ⟨e, h⟩ | ⟨e, h⟩ | ⟨e, h⟩ | ⟨e, h⟩ | ⟨e, h⟩ | ⟨e, h⟩ | ⟨e, h⟩ | ⟨e, h⟩ | ⟨e, h⟩ | ⟨e, h⟩ | ⟨e, h⟩ | ⟨e, h⟩ | ⟨e, h⟩ | ⟨e, h⟩ | ⟨e, h⟩ | ⟨e, h⟩ | ⟨e, h⟩ | ⟨e, h⟩ | ⟨e, h⟩ | ⟨e, h⟩ | ⟨e, h⟩ | ⟨e, h⟩ | ⟨e, h⟩ | ⟨e, h⟩ | ⟨e, h⟩ | ⟨e, h⟩ | ⟨e, h⟩ | ⟨e, h⟩ | ⟨e, h⟩ | ⟨e, h⟩ | ⟨e, h⟩
  · rw [h, h1.e0 e]
  · rw [h, h1.e1 e]
  · rw [h, h1.e2 e]
  · obtain ⟨d, a1, a2⟩ := h
    obtain ⟨d1, b1, b2⟩ := h1.e3 e
    rw [a1] at b1
    rw [a2, b2, Option.some.inj b1]
  · rw [h, h1.e4 e]
  · rw [h, h1.e5 e]
  · rw [h, h1.e6 e]
  · rw [h, h1.e7 e]
  · obtain ⟨k, J1, a1, a2⟩ := h
    obtain ⟨k2, J2, b1, b2⟩ := h1.e8 e
    obtain ⟨x, y⟩ := jmix_det a1 b1
    rw [a2, b2, x, y]
  · rw [h, h1.e9 e]
  · obtain ⟨k, J1, a1, a2⟩ := h
    obtain ⟨k2, J2, b1, b2⟩ := h1.e10 e
    obtain ⟨x, y⟩ := jmix_det a1 b1
    rw [a2, b2, x, y]
  · rw [h, h1.e11 e]
  · rw [h, h1.e12 e]
  · rw [h, h1.e13 e]
  · rw [h, h1.e14 e]
  · rw [h, h1.e15 e]
  · rw [h, h1.e16 e]
  · rw [h, h1.e17 e]
  · rw [h, h1.e18 e]
  · rw [h, h1.e19 e]
  · rw [h, h1.e20 e]
  · exact jmeet_det h (h1.e27 e)
  · exact jmeet_det h (h1.e28 e)
  · exact jform_det h (h1.e29 e)
  · exact jcall_det h (h1.e30 e)
  · exact jcall_det h (h1.e31 e)
  · obtain ⟨w, a1, a2⟩ := h
    obtain ⟨w2, b1, b2⟩ := h1.e32 e
    rw [a1] at b1
    rw [← Option.some.inj b1] at b2
    exact jmeet_det a2 b2
  · exact jmeet_det h (h1.e33 e)
  · exact jmeet_det h (h1.e34 e)
  · exact jmeet_det h (h1.e35 e)
  · rw [h, h1.e36 e]
theorem JRN.det : ∀ (d : List Ins) (j : Nat) (S : List SE) (J : JS) (r r1 : Sum JS (Int × Int)), JRN ch ps told c g j S J d r → JRN ch ps told c g j S J d r1 → r = r1 := by
  intro d
  induction d with
  | nil => exact fun j S J r r1 h h1 => Eq.trans h (Eq.symm h1)
  | cons a d ih =>
    intro j S J r r1 h h1
    rcases h with ⟨J1, a1, a2⟩ | ⟨f, a1, a2⟩
    · rcases h1 with ⟨J2, b1, b2⟩ | ⟨f2, b1, b2⟩
      · have := Sum.inl.inj (JST.det a1 b1)
        rw [← this] at b2
        exact ih _ _ _ _ _ a2 b2
      · exact absurd (JST.det a1 b1) (by simp)
    · rcases h1 with ⟨J2, b1, b2⟩ | ⟨f2, b1, b2⟩
      · exact absurd (JST.det a1 b1) (by simp)
      · rw [a2, b2, Sum.inr.inj (JST.det a1 b1)]
theorem JALL.det : ∀ (m k : Nat) (G : List JG × List Bool) (r r1 : Sum (List JG × List Bool) (Int × Int)), JALL ch ps told c m k G r → JALL ch ps told c m k G r1 → r = r1 := by
  intro m
  induction m with
  | zero => exact fun k G r r1 h h1 => Eq.trans h (Eq.symm h1)
  | succ m ih =>
    intro k G r r1 h h1
    rcases h with ⟨J1, a1, a2⟩ | ⟨f, a1, a2⟩
    · rcases h1 with ⟨J2, b1, b2⟩ | ⟨f2, b1, b2⟩
      · have := Sum.inl.inj (JRN.det _ _ _ _ _ _ a1 b1)
        rw [← this] at b2
        exact ih _ _ _ _ a2 b2
      · exact absurd (JRN.det _ _ _ _ _ _ a1 b1) (by simp)
    · rcases h1 with ⟨J2, b1, b2⟩ | ⟨f2, b1, b2⟩
      · exact absurd (JRN.det _ _ _ _ _ _ a1 b1) (by simp)
      · rw [a2, b2, Sum.inr.inj (JRN.det _ _ _ _ _ _ a1 b1)]
end DETS
