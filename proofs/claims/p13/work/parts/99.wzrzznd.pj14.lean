/-! between calls, with what the last run left -/
def PJo14 (XC XR : St) : Prop := PJo11 XC XR ∧ LST XC XR
def RK14 (X Y : St) : Prop := RK11 X Y ∧ RLq X Y
section PJ14S
variable {e f n : Nat} {ch : Tx} {ps : List Pt} {c : List Ins} {told : Nat → Bool} {X Y X1 XC XR : St} {r r1 p1 p2 z : Int32} {L : List Nat}
theorem CLl.of (hF : Fr YC L X Y) (hl : ∀ x ∈ L, ¬ x = 5 ∧ x < 14000) : CLl X Y := by
  have cd : ∀ j k, 70 ≤ j → cod YC j k ∉ L := fun j k q z => by
    have g := (hl _ z).2
    have e : cod YC j k = (if (eY YC j).1 = 0 then j * 200 + k else j * 200) := rfl
    rw [e] at g
    split at g <;> omega
  exact ⟨hF.1 0 5 (fun q => (hl 5 q).1 rfl), fun j k a _ => hF.1 j k (cd j k a), fun j k a => hF.2.1 j k (cd j k (by omega))⟩
theorem PJo14.kp (h : PJo14 XC XR) (g : C7 XC X ∧ C8 XC X ∧ CLl XC X) (r : R7k XR X1 ∧ RK14 XR X1) (v : KVa True XR → KVa True X1) : PJo14 X X1 := ⟨h.1.kp ⟨g.1, g.2.1⟩ ⟨r.1, r.2.1⟩ v, h.2.kp g.2.2 r.2.2⟩
theorem LST.run (h : LST XC XR) (hq : RNQ XR XC z X1 X) (hM : JM X1) (h5 : ¬ z.toInt = -1 → ¬ (X.1 0 5).toInt = 0) : LST X X1 := by
  rcases hq with ⟨_, a, b⟩ | ⟨ks, u, hE, hF⟩
  · rw [a, b]
    exact h
  · have hz := hF.2.2.2.1
    have h0 := hE.2.1
    have h41 : ¬ (X1.1 0 41).toInt = 0 := by rw [hE.1]; decide
    have hr := (hM.2.2.2.2 h41).1
    exact ⟨X1, X, RLq.rf, CLl.rf, Or.inr ⟨h41, h5 (by rw [hz]; omega), ks, u, z, hE, hF, hr.1, hr.2⟩⟩
theorem LST.read {ch0 : Tx} (he : (e = 2 ∧ f = 24) ∨ (e = 24 ∧ f = 2)) (h : LST XC XR) (a1 : XC.2.2 0 9 = e + 1) (a : RC10 ch0 f e XC r X) (b : RDx ch0 n XR r1 X1) (a8 : ((X.1 0 5).toInt = 0 ∧ X.2.2 0 9 = f + 1) ∨ (CLl XC X ∧ X.2.2 0 9 = XC.2.2 0 9)) (b8 : RDL XR r1 X1) : LST X X1 := by
  obtain ⟨a3, _⟩ := a
  rcases a3 with ⟨ps2, c2, q1, q2, _, _, ⟨q4, _⟩, _⟩ | ⟨q1, _, _, q4, _⟩
  · have c5 : (X.1 0 5).toInt = 0 := by
      rcases a8 with z | z
      · exact z.1
      · have := z.2
        omega
    rcases b with ⟨ps1, c1, _, _, yl, _⟩ | ⟨y1, _⟩
    · rcases b8 with ⟨_, z⟩ | ⟨z, _⟩
      · exact LST.zero z c5
      · rw [z] at yl
        omega
    · exact absurd q2 (y1 ps2 c2 q1)
  · have c5 : CLl XC X := by
      rcases a8 with z | z
      · have := z.2
        omega
      · exact z.1
    rcases b with ⟨ps1, c1, y1, y2, _⟩ | ⟨_, ym, _⟩
    · exact absurd y2 (q1 ps1 c1 y1)
    · rcases b8 with ⟨z, _⟩ | ⟨_, z⟩
      · exact absurd ym z
      · exact h.kp c5 z
theorem l_isPart : pw (g_Court_isPart p1 X) (fun v Y => Y = X ∧ (v.toInt = 0 ↔ ¬ (¬ (X.1 0 3).toInt = 0 ∧ 0 ≤ p1.toInt ∧ p1.toInt < (X.1 (X.2.2 0 9 - 1) 1).toInt))) := by
  have l1 : (1 : Int32).toInt = 1 := by decide
  have l0 : (0 : Int32).toInt = 0 := by decide
  unfold g_Court_isPart
  exact pw_let (pw_ite (fun c => pw_ret ⟨rfl, by omega⟩) (fun c => pw_ite (fun c1 => pw_ret ⟨rfl, by omega⟩) (fun c1 => pw_ck (fun _ => pw_let (pw_let (pw_ite (fun c2 => pw_ret ⟨rfl, by omega⟩) (fun c2 => pw_ret ⟨rfl, by omega⟩)))))))
/-- as many parts on both sides -/
theorem PJo11.parts (h : PJo11 XC XR) : 0 ≤ (XR.1 0 18).toInt ∧ (XR.1 0 18).toInt ≤ 40 ∧ ∀ k : Int, (¬ (XC.1 0 3).toInt = 0 ∧ 0 ≤ k ∧ k < (XC.1 (XC.2.2 0 9 - 1) 1).toInt) ↔ (0 ≤ k ∧ k < (XR.1 0 18).toInt) := by
  obtain ⟨⟨e, f, he, ⟨⟨a1, _⟩, _, d⟩⟩, _⟩ := h
  rcases d with ⟨d1, _, _, _, d5⟩ | ⟨d1, d2, ch, n, ps, c, told, d3, d4, _, d6, _⟩
  · refine ⟨by omega, by omega, fun k => ⟨fun z => absurd d1 z.1, fun z => by omega⟩⟩
  · have e1 := d3.prt
    have e2 := d4.prt
    have e3 : XC.2.2 0 9 - 1 = e := by rw [a1]; rfl
    rw [e3]
    refine ⟨by omega, by omega, fun k => ⟨fun z => by omega, fun z => ⟨d1, by omega⟩⟩⟩
theorem PJo14.asked (h : PJo14 XC XR) : pw (f_asked p1 p2 XR) (fun a _ => pw (g_Court_asked p1 p2 XC) (fun b _ => b = a)) := by
  obtain ⟨hp0, hp40, hp⟩ := h.1.parts
  have l1 : (1 : Int32).toInt = 1 := by decide
  have l0 : (0 : Int32).toInt = 0 := by decide
  have l41 : (41 : Int32).toInt = 41 := by decide
  have l40 : (40 : Int32).toInt = 40 := by decide
  have v18 : (XR.1 0 18 - 1).toInt = (XR.1 0 18).toInt - 1 := by rw [ti_sub (by rw [l1]; omega) (by rw [l1]; omega), l1]
  -- the class
  have cls : ∀ Q : Int32 → St → Prop, ¬ (XC.1 0 5).toInt = 0 → (¬ (0 ≤ p1.toInt ∧ p1.toInt < (XR.1 0 18).toInt) → Q (-1) XC) → (0 ≤ p1.toInt ∧ p1.toInt < (XR.1 0 18).toInt → ¬ (0 ≤ p2.toInt ∧ p2.toInt < (XR.1 0 18).toInt) → Q (-1) XC) → (0 ≤ p1.toInt ∧ p1.toInt < (XR.1 0 18).toInt → 0 ≤ p2.toInt ∧ p2.toInt < (XR.1 0 18).toInt → Q (XC.1 87 (40 * ix p1 + ix p2)) XC) → pw (g_Court_asked p1 p2 XC) Q := by
    intro Q h5 k1 k2 k3
    unfold g_Court_asked
    refine pw_let (pw_neg h5 (pw_bd l_isPart ?_))
    rintro x2 X3 ⟨e3, g2⟩
    rw [e3]
    rw [hp] at g2
    refine pw_ite (fun c => pw_ret (k1 (g2.mp c))) (fun c => pw_bd l_isPart ?_)
    have c1 : 0 ≤ p1.toInt ∧ p1.toInt < (XR.1 0 18).toInt := Classical.byContradiction (fun q => c (g2.mpr q))
    rintro x4 X5 ⟨e5, g4⟩
    rw [e5]
    rw [hp] at g4
    refine pw_ite (fun c => pw_ret (k2 c1 (g4.mp c))) (fun c => ?_)
    have c2 : 0 ≤ p2.toInt ∧ p2.toInt < (XR.1 0 18).toInt := Classical.byContradiction (fun q => c (g4.mpr q))
    refine pw_eq (fun x6 e6 => pw_eq (fun x7 e7 => pw_ck (fun _ => pw_let (pw_ret ?_))))
    have z1 := ixc c1.1
    have z2 := ixc c2.1
    have v6 : x6.toInt = p1.toInt * 40 := by rw [e6, ti_mul (by rw [l40]; omega) (by rw [l40]; omega), l40]
    have v7 : ix x7 = 40 * ix p1 + ix p2 := ixn (by rw [e7, ti_add (by rw [v6]; omega) (by rw [v6]; omega), v6]; omega)
    rw [v7]
    exact k3 c1 c2
  rcases h.2.cases with ⟨e1, e2⟩ | ⟨e1, e2, _, hS⟩
  · unfold f_asked g_Court_asked
    exact pw_let (pw_pos e1 (pw_ret (pw_let (pw_pos e2 (pw_ret rfl)))))
  · unfold f_asked
    refine pw_let (pw_neg e1 (pw_let (pw_eq (fun x3 e3 => pw_bd (pw_ok (s_f_in _ _ _ _)) ?_))))
    rintro x4 X5 ⟨hF, hin⟩
    obtain rfl : XR = X5 := (Fr.nil hF).symm
    have hin : (x4.toInt = 1 ∧ 0 ≤ p1.toInt ∧ p1.toInt ≤ x3.toInt) ∨ (x4.toInt = 0 ∧ (p1.toInt < 0 ∨ x3.toInt < p1.toInt)) := hin
    have v3 : x3.toInt = (XR.1 0 18).toInt - 1 := by rw [e3]; exact v18
    refine pw_ite (fun z => pw_ret (cls _ e2 (fun _ => rfl) (fun q => by omega) (fun q => by omega))) (fun z => ?_)
    refine pw_let (pw_eq (fun x7 e7 => pw_bd (pw_ok (s_f_in _ _ _ _)) ?_))
    rintro x8 X9 ⟨hF, hin2⟩
    obtain rfl : XR = X9 := (Fr.nil hF).symm
    have hin2 : (x8.toInt = 1 ∧ 0 ≤ p2.toInt ∧ p2.toInt ≤ x7.toInt) ∨ (x8.toInt = 0 ∧ (p2.toInt < 0 ∨ x7.toInt < p2.toInt)) := hin2
    have v7 : x7.toInt = (XR.1 0 18).toInt - 1 := by rw [e7]; exact v18
    refine pw_ite (fun z2 => pw_ret (cls _ e2 (fun _ => rfl) (fun _ _ => rfl) (fun _ q => by omega))) (fun z2 => ?_)
    refine pw_eq (fun x10 e10 => pw_eq (fun x11 e11 => pw_ck (fun _ => pw_let (pw_ret (cls _ e2 (fun q => absurd ⟨by omega, by omega⟩ q) (fun _ q => absurd ⟨by omega, by omega⟩ q) (fun c1 c2 => ?_))))))
    have z1 := ixc c1.1
    have z2 := ixc c2.1
    have v10 : x10.toInt = 41 * p1.toInt := by rw [e10, ti_mul (by rw [l41]; omega) (by rw [l41]; omega), l41]
    have v11 : ix x11 = 41 * ix p1 + ix p2 := ixn (by rw [e11, ti_add (by rw [v10]; omega) (by rw [v10]; omega), v10]; omega)
    rw [v11]
    exact hS.2.2.2 (ix p1) (ix p2) (by omega) (by omega)
/-- judging -/
theorem k_judgeL (h : JM X) : pw (f_judge X) (fun _ Y => RLq X Y) := by
  unfold f_judge
  refine pw_let (pw_ite (fun _ => pw_ret RLq.rf) (fun c => ?_))
  refine pw_bd (pw_ok (m_judges (h.2.1 c).1)) ?_
  rintro r X2 ⟨a, _⟩
  refine pw_let (pw_eq (fun X4 e4 => pw_let (pw_eq (fun X6 e6 => ?_))))
  have r6 : ∀ i k, ¬ (i = 0 ∧ (k = 11 ∨ k = 12)) → X6.1 i k = X2.1 i k := fun i k z => by rw [e6, wI_ne _ _ _ _ _ _ (by omega), e4, wI_ne _ _ _ _ _ _ (by omega)]
  have fin : RLq X X6 := (RLq.of a (by decide)).tr ⟨fun k p q => r6 0 k (by omega), fun e k p q => r6 e k (by omega)⟩
  exact pw_let (pw_ite (fun _ => pw_ret fin) (fun _ => pw_let (pw_ret fin)))
theorem RLq.tell (b : (¬ iR p1 XR ∧ X1 = XR) ∨ (iR p1 XR ∧ X1 = _root_.Jvm.Pilot.CBlameCourtLaw_law_r8381_f30dd1.wI (_root_.Jvm.Pilot.CBlameCourtLaw_law_r8381_f30dd1.wI XR 19 (ix p1) (vp_nar .boolean p2)) 0 4 0)) : RLq XR X1 := by
  rcases b with ⟨_, b⟩ | ⟨_, b⟩
  · rw [b]; exact RLq.rf
  · have r : ∀ e k, ¬ e = 19 → ¬ (e = 0 ∧ k = 4) → X1.1 e k = XR.1 e k := fun e k q1 q2 => by rw [b, wI_ne _ _ _ _ _ _ (by omega), wI_ne _ _ _ _ _ _ (by omega)]
    exact ⟨fun k _ _ => r 0 k (by omega) (by omega), fun e k _ _ => r e k (by omega) (by omega)⟩
theorem l_readL {w : Nat} (hw : w = 2 ∨ w = 24) (r2 : X.2.2 0 2 = w + 1) (hF : pw (g_Reader_readInto w 1 (X.1 0 1) X) (fun _ Y => (Y.2.2 0 2 = X.2.2 0 2 ∧ Y.2.2 0 9 = X.2.2 0 9) ∧ CLl X Y)) : pw (g_Court_read X) (fun _ Y => ((Y.1 0 5).toInt = 0 ∧ Y.2.2 0 9 = w + 1) ∨ (CLl X Y ∧ Y.2.2 0 9 = X.2.2 0 9)) := by
  unfold g_Court_read
  refine pw_ck (fun _ => pw_to (w := w) (by rw [r2]; rfl) (pw_let ?_))
  refine pw_bd hF ?_
  rintro _ X3 ⟨⟨q2, q9⟩, qf⟩
  refine pw_eq (fun X4 e4 => pw_let (pw_eq (fun X6 e6 => pw_let (pw_eq (fun X8 e8 => pw_let ?_)))))
  have s8 : X8.2 = X3.2 := by rw [e8, e6, e4]; rfl
  have r8 : ∀ i k, ¬ (i = 0 ∧ (k = 1 ∨ k = 7 ∨ k = 8)) → X8.1 i k = X3.1 i k := fun i k hi => by rw [e8, wI_ne _ _ _ _ _ _ (by omega), e6, wI_ne _ _ _ _ _ _ (by omega), e4, wI_ne _ _ _ _ _ _ (by omega)]
  refine pw_ite (fun _ => ?_) (fun _ => pw_ret (Or.inr ⟨qf.tr ⟨r8 0 5 (by omega), fun i k q _ => r8 i k (by omega), fun i k q => by rw [s8]⟩, by rw [s8]; exact q9⟩))
  have z2 : X8.2.2 0 2 = w + 1 := by rw [s8, q2, r2]
  refine pw_ck (fun _ => pw_let (pw_ck (fun _ => pw_to (w := w) (by rw [z2]; rfl) ?_)))
  refine pw_eq (fun X12 e12 => pw_eq (fun X13 e13 => pw_eq (fun X14 e14 => pw_eq (fun X15 e15 => pw_eq (fun X16 e16 => ?_)))))
  have z16 : X16.2.2 0 9 = w + 1 := by
    rw [e16, e15, e14]
    show X13.2.2 0 9 = w + 1
    rw [e13, wR_se, if_neg (by omega), e12, wR_se, if_pos rfl]
  refine pw_ck (fun _ => pw_let (pw_let (pw_ret (Or.inl ⟨?_, z16⟩))))
  rw [e16, wI_at]
  decide
end PJ14S
