/-! a call and its end, both sides in step -/
section CBS
variable {X Y Z X0 Y0 X1 Y1 : St} {r r1 G G1 : Nat → Int32} {po W pst pen : Nat → Nat} {PTs : Nat → Nat → Ty} {sq : Nat → Nat → Nat → Prop} {ks : List (List Int)} {o1 n1 z pl x p1 p2 p3 kr kc : Int32} {e i j o p q c b sb T N n m k D : Nat} {nr : Int → Int} {cd : List Ins} {u : Bool} {f : Nat → Int32} {y : Int64}
theorem n_d28 {R : Int32 → St → Prop} (ho : o1.toInt = (o : Int)) (h1 : (X.1 40 o).toInt = 28) (hw : pw (f_call o1 n1 X) R) : pw (f_does o1 n1 X) R := by
  unfold f_does
  refine pw_ck (fun _ => pw_eq (fun x1 e1 => ?_))
  have v1 : x1.toInt = 28 := by rw [e1, ixn ho]; exact h1
  exact pw_neg (by omega) (pw_neg (by omega) (pw_neg (by omega) (pw_neg (by omega) (pw_neg (by omega) (pw_neg (by omega) (pw_neg (by omega) (pw_neg (by omega) (pw_neg (by omega) (pw_neg (by omega) (pw_neg (by omega) (pw_neg (by omega) (pw_neg (by omega) (pw_neg (by omega) (pw_neg (by omega) (pw_neg (by omega) (pw_neg (by omega) (pw_pos v1 (pw_bd hw (fun _ _ q => pw_ret q)))))))))))))))))))
theorem l_op16 {Q : St → Prop} (h : pw (g_Running_callWith x pl Y) (fun _ Y1 => Q Y1)) : pw (g_Running_workRowOrCall 16 x pl Y) (fun _ Y1 => Q Y1) := by
  unfold g_Running_workRowOrCall
  exact pw_neg (by decide) (pw_neg (by decide) (pw_neg (by decide) (pw_neg (by decide) (pw_neg (by decide) (pw_neg (by decide) (pw_pos (by decide) (pw_bd h (fun _ _ q => pw_ret q))))))))
theorem FCH.fv (hH : HP u X G) (hF : FCH X f D) (h0 : FV X (f 0)) : ∀ i, i ≤ D → FV X (f i) := by
  intro i
  induction i with
  | zero => exact fun _ => h0
  | succ i ih =>
    intro hi
    obtain ⟨c1, c2, c3⟩ := hF.1 i (by omega)
    rcases c2 with h | ⟨p1, p2, p3, p4, p5⟩
    · omega
    · have e := ixc (z := f i) (by omega)
      obtain ⟨-, q1, q2, q3, q4, q5, q6, q7⟩ := (hH.2 (ix (f i) - 100) (by omega)).2 p3
      rcases q7 with ⟨r1, r2, _⟩ | ⟨r1, r2, r3, r4, r5, r6, r7, r8⟩
      · omega
      · rw [c3]
        exact r4
theorem RUNC.mono (h : RUNC u X po PTs) : ∀ d p, ((p + d : Nat) : Int) ≤ (X.1 0 18).toInt → po p + d ≤ po (p + d) := by
  intro d
  induction d with
  | zero => intro p _; exact Nat.le_refl _
  | succ d ih =>
    intro p hp
    have := ih p (by omega)
    have h2 := (h.2 (p + d) (by omega)).2.1
    have e1 : p + (d + 1) = p + d + 1 := rfl
    rw [e1]
    omega
theorem RUNC.lt (h : RUNC u X po PTs) (hp : p < q) (hq : (q : Int) < (X.1 0 18).toInt) : po (p + 1) ≤ po q := by
  have := h.mono (q - (p + 1)) (p + 1) (by omega)
  rw [show p + 1 + (q - (p + 1)) = q by omega] at this
  omega
theorem RUNC.one (h : RUNC u X po PTs) (hp : (p : Int) < (X.1 0 18).toInt) (hq : (q : Int) < (X.1 0 18).toInt) (h1 : po p ≤ o ∧ o < po (p + 1)) (h2 : po q ≤ o ∧ o < po (q + 1)) : p = q := by
  rcases Nat.lt_trichotomy p q with g | g | g
  · have := h.lt g hq
    omega
  · exact g
  · have := h.lt g hp
    omega
theorem WCH.nn : ∀ (n b : Nat) (kr kc : Int32), WCH X n b kr kc → ∀ i, i < n → 0 ≤ (X.1 76 (b + i)).toInt := by
  intro n
  induction n with
  | zero => intro _ _ _ _ i hi; exact absurd hi (Nat.not_lt_zero _)
  | succ n ih =>
    intro b kr kc h i hi
    obtain ⟨w, h1, _, _, _, _, h2⟩ := h
    by_cases g : i = n
    · rw [g]
      omega
    · exact ih b _ _ h2 i (by omega)
/-- where a call's rows begin is told by the rows -/
theorem idn {b1 n1 b2 n2 : Nat} (h : b1 + n1 = b2 + n2) (h1 : ∀ i, i < n1 → 0 ≤ (X.1 76 (b1 + i)).toInt) (h2 : ∀ i, i < n2 → 0 ≤ (X.1 76 (b2 + i)).toInt) (g1 : 1 ≤ b1 ∧ (X.1 76 (b1 - 1)).toInt < 0) (g2 : 1 ≤ b2 ∧ (X.1 76 (b2 - 1)).toInt < 0) : b1 = b2 ∧ n1 = n2 := by
  rcases Nat.lt_trichotomy b1 b2 with g | g | g
  · have := h1 (b2 - 1 - b1) (by omega)
    rw [show b1 + (b2 - 1 - b1) = b2 - 1 by omega] at this
    omega
  · exact ⟨g, by omega⟩
  · have := h2 (b1 - 1 - b2) (by omega)
    rw [show b2 + (b1 - 1 - b2) = b1 - 1 by omega] at this
    omega
theorem SR.n31 {PT : Nat → Ty} {s1 e1 : Nat} (h : SR u X PT s1 e1 o) : ¬ (X.1 40 o).toInt = 31 := by
  obtain ⟨_, op, n, hoa, _, h⟩ := h
  have q := hoa.1
  rcases h with ⟨a, b⟩ | ⟨k, a, c⟩ | ⟨a, b, k, c, f⟩ | ⟨a, b, v, c, d, f, g⟩ | ⟨a, b, d, q, f, g⟩ | ⟨a, q, b, c⟩ | ⟨a, b⟩ | ⟨a, m, r, e1, b, c, d, f, g, i⟩ | ⟨a, b, r, d, f⟩ | ⟨a, b, k, c, d, f⟩ | ⟨a, b, k, c, c2, d⟩ | ⟨a, b, e1, d, g⟩ | ⟨a, b, d, f⟩ | ⟨a, m, b, c, d, f, g, i⟩ | ⟨a, b, c⟩
  · omega
  · unfold LF at a
    omega
  · unfold GOP at a
    omega
  · omega
  · omega
  · omega
  · omega
  · omega
  · omega
  · omega
  · omega
  · omega
  · omega
  · omega
  · omega
theorem LWr.bd {sy : Nat → Nat → Nat → Prop} : ∀ (c b sb T : Nat), LWr X Y r po PTs sy W c b sb T → 1 ≤ b ∧ (X.1 76 (b - 1)).toInt < 0 := by
  intro c
  cases c with
  | zero =>
    intro b sb T h
    obtain ⟨⟨h1, _⟩, ⟨h2, _⟩, _⟩ := h
    subst h1
    exact ⟨Nat.le_refl _, h2⟩
  | succ c =>
    intro b sb T h
    obtain ⟨sb', b', n, rp, j, p, T', f, ⟨h1, _⟩, ⟨h2, _⟩, _⟩ := h
    subst h1
    exact ⟨by omega, by rw [show b' + n + 1 - 1 = b' + n by omega]; exact h2⟩
theorem VR.fun (h : VR X r x z y) (hs : x.toInt = 4) : y = fvl r z := by
  unfold fvl
  rcases h with ⟨⟨_, q, _⟩, _⟩ | ⟨q, _⟩ | ⟨_, ⟨q1, q2, q3⟩ | ⟨q1, q2, q3, q4⟩⟩
  · omega
  · omega
  · rw [if_pos q2, q3]
  · rw [if_neg (by omega), q4]
set_option maxHeartbeats 2000000 in
/-- CALL -/
theorem MRL.t16 (hS : STAT u e ks X0 Y0 po W nr cd pst pen) (h : MRL u e ks X0 Y0 po PTs (SY cd pst pen) sq W X Y r G p j o c b sb T i) (ho : o1.toInt = (o : Int)) (ih : IHN u e ks X0 Y0 po PTs (SY cd pst pen) W N) (hjl : (j : Int) < (Y.1 e 6).toInt) (hpl : Y.1 (e + 21) j = pl) (hx : Y.1 (e + 19) j = x) (hsy : o + 1 < po (p + 1) → SY cd pst pen p (j + 1) (o + 1)) (hop : (Y.1 (e + 18) j).toInt = 16) (hK : OA X o 28 n) (h22 : X.1 22 n = pl) (h27 : X.1 27 n = x) : ENDS ks (N + 1) o1 X Y i := by
  obtain ⟨hI, ⟨f1, f2, f3, f4⟩, hf, f5, f6, f7, f8, f9⟩ := h.fct (Y.1 70 10 + 1)
  have hn1 : ix (X.1 41 o) = n := ixn hK.2
  have hK1 := hK.1
  have he := h.2.2.1.1.1
  have i17 : ¬ e + 17 = 70 ∧ e + 17 < 70 := by omega
  have hlt := h.lt (by omega)
  have hw := h.ws hS hlt
  have l1 : (1 : Int32).toInt = 1 := by decide
  have hj := h.2.2.2.2.1.2.1
  have h6 := (Y.1 e 6).toInt_lt
  have jo : (Y.1 70 10 + 1).toInt = ((j + 1 : Nat) : Int) := by rw [ti_add (by rw [hj, l1]; omega) (by rw [hj, l1]; omega), hj, l1]; omega
  have hWo : W (o + 1) + 1 ≤ W o := by
    obtain ⟨op', n', ⟨w1, _⟩, w2⟩ := hw
    rcases w2 with ⟨q, _⟩ | ⟨q, _⟩ | ⟨q, _⟩ | ⟨_, q⟩
    · omega
    · omega
    · omega
    · exact q
  obtain ⟨_, op, n', hoa, hn3, _, m, hm, hm4, hmt, hk, ha, tn⟩ := (h.sr (by omega)).x13 hK1
  have en : n' = n := by
    have := hoa.2
    have := hK.2
    omega
  subst en
  obtain ⟨d, hd⟩ : ∃ d, (PTs p o).1 = d + (m + 1) := ⟨(PTs p o).1 - (m + 1), by omega⟩
  obtain ⟨cell, hcell⟩ : ∃ cell, cell = sb + d := ⟨_, rfl⟩
  have hcd : sb + ((PTs p o).1 - (m + 1)) = cell := by omega
  have tpe : sb + (PTs p o).1 = cell + 1 + m := by omega
  have hv := hf.2.2.1.tp (i := m) (by omega)
  rw [show sb + ((PTs p o).1 - 1 - m) = cell by omega] at hv
  obtain ⟨s4, fv, fa, fc⟩ := vv_fn hk hv
  have hcs : CST u X X G cell m b 0 (ckd u X (tp (PTs p o) m) m) := by
    refine ⟨hf.1.1, HX.rf, ⟨s4, fv, fa, by have := dpt.le hf.1.1 fv; omega⟩, fc m (Nat.le_refl _), fun i hi => ?_, fun _ _ => rfl⟩
    rw [fc i (by omega), ← ha i hi]
    have := hf.2.2.1.tp (i := m - 1 - i) (by omega)
    rw [show sb + ((PTs p o).1 - 1 - (m - 1 - i)) = cell + 1 + i by omega] at this
    exact this
  have hw2 : (X.1 61 cell).toInt < ((1000 : Nat) : Int) + 100 := by
    have := hf.1.1.1.2.1
    rcases fv with q | q <;> omega
  obtain ⟨f, D, hf0, hF, hdd, hD20⟩ := f_chain hf.1.1 1000 _ hw2 fv
  have hST := hI.2.2.2.2.1
  rw [tpe] at hST
  have hLb := LWr.bd _ _ _ _ h.2.2.2.1
  have hb21 := h.1.2.2.2.1
  have h38 := h.1.2.2.1
  have hS2 := hI.2.1
  have xm : x.toInt = (m : Int) := by rw [← h27]; exact hm
  have hcall := n_call (e := e) (X := X) (Y := wI Y 70 10 (Y.1 70 10 + 1)) (r := r) (G := G) (u := u) (kc := ckd u X (tp (PTs p o) m) m) (f := f) (D := D) (an := x) (pl := pl) (o1 := o1) (n1 := X.1 41 o) (cell := cell) (m := m) (q := c + 1) (A := cell + (c + 1)) (b := b) (c := c) hI.1 f7 hI.2.1 hI.2.2.1 hI.2.2.2.1 hf.1.2.1 hf.1.2.2.1 hf.1.2.2.2 hcs hF hD20 hf0 hm4 (by omega) (by omega) (by omega) (by rw [hn1]; exact hm) (by rw [hn1]; exact h22) (by rw [hST.1]) (by rw [hST.2.1]; omega) rfl (fun j j1 j2 => hST.2.2.2 j (by omega) (by omega)) ((hST.2.2.2 cell (by omega) (by omega)).fun s4) h38.1 h38.2 f6 hb21.1 xm
  refine ENDS.both (Q := fun z X1 Y1 => ((X1.1 0 43).toInt < 0 → z = X1.1 44 (ix (X1.1 61 cell))) ∧ CAQ e X (wI Y 70 10 (Y.1 70 10 + 1)) r ks f D c b cell m (cell + (c + 1)) X1 Y1) h.2.2.1.2.2.1 ho he h.2.2.1.1.2.2.2 (by have := h.2.1.2.1; have := h.2.2.2.2.2.2.2.2; omega) hj hjl (pw_and (pw_ok (step_call2 h.1 h.2.1 ho hK1)) (n_d28 ho hK1 (pw_mono hcall (fun z X1 q => ?_)))) ?_
  · rw [wrkR (by omega), (Int32.toInt_inj.mp (hop.trans (by decide)) : Y.1 (e + 18) j = 16), hx, hpl]
    exact l_op16 (pw_mono q.2 (fun _ V w => ⟨q.1, w⟩))
  clear hcall
  rintro z X1 V ⟨hP, hon⟩ ⟨hz, ⟨⟨v1, v2, v3⟩, ⟨q2, q3, q4⟩, q5, q6⟩⟩
  rcases q6 with q6 | ⟨q6, r1, hG, hH, ⟨w1, w2, w3, w4, w5⟩, w6, w7, w8⟩
  · exact ENDS.off q6 q5
  · obtain ⟨g1, m', p2, n', ⟨a1, a2, a3⟩, zr, hR, hx1, y40, ⟨b1, b2, b3⟩, b4, b5, b6, n20, ⟨e1, e2⟩, ⟨t1, t2, t3, t4, t5⟩, hr⟩ := hon q6.1.1
    have em : m' = m := by
      rw [hn1] at a1
      omega
    subst em
    rw [hcd] at hR b6
    have hst := hP.st (by decide)
    have x18 : X1.1 0 18 = X.1 0 18 := hP.1.1 0 18 (by decide)
    have eD : n' = D := by
      have := hR.2.2.2.1.1
      omega
    subst eD
    -- the part
    have hfD : (0 : Int) ≤ (f n').toInt ∧ (f n').toInt < (X.1 0 18).toInt := by
      have := hF.2
      rcases hF.fv hf.1.1 (by rw [hf0]; exact fv) n' (Nat.le_refl _) with q | q
      · omega
      · omega
    have eix := ixc hfD.1
    have hz1 := hz q6.1.1
    rw [w7, hst 44 _ (by omega) (by omega)] at hz1
    have c44 := (h.2.1.1.2 (ix (f n')) (by omega)).2.1
    have c45 := (h.2.1.1.2 p2 e1).2.1
    have epo : po p2 = po (ix (f n')) := by
      rw [hz1] at zr
      omega
    have ep : ix (f n') = p2 := h.2.1.1.one (by omega) e1 (o := po p2) (by omega) (by omega)
    have hp0 : (p2 : Int) < (X0.1 0 18).toInt := by
      rw [← h.2.2.2.2.2.2.2.1.1.2.2]
      exact e1
    obtain ⟨⟨s1, s2, s3, s4', s5⟩, ⟨s6, s7, s8⟩, s9⟩ := hS.2 p2 hp0
    have ety2 : PTs p2 (po p2) = ety u X1 p2 := (g1.1.2 p2 (by rw [x18]; exact e1)).2.2.2.1
    have ty1 : (PTs p2 (po p2)).1 = 0 := by rw [ety2]; rfl
    have ty2 : (PTs p2 (po p2)).2.2.1 = m' := by
      rw [ety2]
      show ix (X1.1 15 p2) = m'
      exact ixn (by rw [hst 15 p2 (by omega) (by omega)]; exact e2)
    have vw : ∀ a q, ¬ (a = 70 ∧ q = 10) → (wI Y 70 10 (Y.1 70 10 + 1)).1 a q = Y.1 a q := fun a q w => wI_ne _ _ _ _ _ _ w
    have vv2 : ∀ a q, a < 70 → V.1 a q = Y.1 a q := fun a q w => (v2 a q (by omega) (by omega) (by omega) (by omega) (by omega) (by omega)).trans (vw a q (by omega))
    obtain ⟨m1, m2, m3, m4, ⟨m5, m6, m7⟩, m8, m9, ⟨⟨t1', t2', t3'⟩, t4'⟩, m11⟩ := h
    have hRB : RBk e X1 V ks := by
      obtain ⟨k1, k2, ⟨k3, k4⟩, k5⟩ := m3.1
      exact ⟨k1, ⟨q2, q3⟩, ⟨k3.cg (fun i k q1 q2 _ => vv2 i k (by omega)), k4⟩, by rw [v1]; exact k5⟩
    refine ih X1 V r1 G p2 (pst p2) (po p2) (c + 1) (b + n' + 1) cell (W (o + 1) + T) (i + 1) z zr ⟨hR, g1, ⟨hRB, q5, q6, hH, ⟨?_, ?_, by omega, fun a a1 a2 => ?_⟩, fun s hs => ?_⟩, ?_, ⟨w1, ?_, ?_⟩, ?_, ⟨Nat.le_refl _, s3, s2⟩, ⟨⟨fun a q q1 q2 => (hst a q q1 q2).trans (t1' a q q1 q2), t2'.tr q4, by rw [x18]; exact t3'⟩, fun a q w => (vv2 a q w).trans (t4' a q w)⟩, by rw [y40, s6]; omega⟩
    · exact hR.1.2.2.2.1.1
    · rw [w3, ty1]
      omega
    · rw [ty1] at a2
      omega
    · rw [ty2] at hs
      exact w6 s hs
    · refine ⟨sb, b, n', o + 1, j + 1, p, T, f, ⟨rfl, hD20, by omega, by omega, rfl⟩, ⟨b1, b2, b3⟩, ⟨hF.hx hx1, w8⟩, ?_, ⟨by rw [w4, wI_at]; exact jo, hsy t5⟩, ⟨by rw [x18]; exact m1.2.1.1, t4, t5, t3⟩, fun a a1 a2 => ?_, fun s hs => ?_, ?_⟩
      · rw [show cell + c + 1 = cell + (c + 1) by omega, v3 84 _ (by omega) (by omega) (by omega)]
        refine ((hST.2.2.2 cell (by omega) (by omega)).fun s4).trans ?_
        rw [← hf0]
        refine (fvl_up (fun z => ?_) hG).symm
        rw [hf0] at z ⊢
        rcases fv with q | q <;> omega
      · rw [(b6 a a2).1, (b6 a a2).2, v3 84 _ (by omega) (by omega) (by omega)]
        exact (hST.2.2.2 a a1 (by omega)).up hG
      · rw [(b5 (45 * c + s) (by omega)).1, (b5 (45 * c + s) (by omega)).2, v3 83 _ (by omega) (by omega) (by omega)]
        exact (hI.2.2.2.2.2 s (by omega)).up hG
      · exact LWr.up (Y := Y) hG hx1 _ _ _ _ (fun a a1 => b4 a a1) (fun a a1 => b6 a (by omega)) (fun a a1 => b5 a (by omega)) (fun a a1 => v3 84 a (by omega) (by omega) (by omega)) (fun a a1 => v3 83 a (by omega) (by omega) (by omega)) (fun a a1 => (v2 82 a (by omega) (by omega) (by omega) (by omega) (by omega) (by omega)).trans (vw 82 a (by omega))) m4
    · rw [w2, ep, vw _ _ (fun w => absurd w.1 i17.1), t4' (e + 17) _ i17.2]
      exact s1
    · rw [v2 70 3 (by omega) (by omega) (by omega) (by omega) (by omega) (by omega), vw 70 3 (by omega)]
      exact m7
    · obtain ⟨⟨p1, p2'⟩, p3, p4⟩ := m8
      refine ⟨by rw [x18]; exact ⟨p1, p2'⟩, by rw [vv2 e 1 (by omega), x18]; exact p3, fun k hk => ?_⟩
      rw [x18] at hk
      rw [vv2 (e + 13) k (by omega), hst 15 k (by omega) (by omega)]
      exact p4 k hk
set_option maxHeartbeats 2000000 in
/-- RETURN -/
theorem MRL.t17 (hS : STAT u e ks X0 Y0 po W nr cd pst pen) (h : MRL u e ks X0 Y0 po PTs (SY cd pst pen) sq W X Y r G p j o c b sb T i) (ho : o1.toInt = (o : Int)) (ih : IHN u e ks X0 Y0 po PTs (SY cd pst pen) W N) (hjl : (j : Int) < (Y.1 e 6).toInt) (hop : (Y.1 (e + 18) j).toInt = 17) (hK1 : (X.1 40 o).toInt = 31) : ENDS ks (N + 1) o1 X Y i := by
  obtain ⟨hI, ⟨f1, f2, f3, f4⟩, hf, f5, f6, f7, f8, f9⟩ := h.fct (Y.1 70 10 + 1)
  have he := h.2.2.1.1.1
  have hj := h.2.2.2.2.1.2.1
  have hrng := h.1.2.1
  obtain ⟨a1, a2, a3, a4, a5, a6, a7, a8, a9⟩ := h.2.1.1.2 p hrng.1
  have hlast : o = po (p + 1) - 1 := by
    by_cases g : o = po (p + 1) - 1
    · exact g
    · exact absurd hK1 (a5 o hrng.2.1 (by omega)).n31
  rw [← hlast] at a7 a8
  have hp0 : (p : Int) < (X0.1 0 18).toInt := by
    rw [← h.2.2.2.2.2.2.2.1.1.2.2]
    exact hrng.1
  have hW1 : 1 ≤ W o := by rw [hlast]; exact (hS.2 p hp0).2.1.2.1
  have hvv := hf.2.2.1.1 0 (by omega)
  rw [a8, Nat.add_zero] at hvv
  have tpe : sb + (PTs p o).1 = sb + 1 := by omega
  rw [tpe] at hI
  have hbi : i < 1000000 := by have := h.2.1.2.1; have := h.2.2.2.2.2.2.2.2; omega
  have vw : ∀ a q, ¬ (a = 70 ∧ q = 10) → (wI Y 70 10 (Y.1 70 10 + 1)).1 a q = Y.1 a q := fun a q w => wI_ne _ _ _ _ _ _ w
  have hopv : Y.1 (e + 18) j = 17 := Int32.toInt_inj.mp (hop.trans (by decide))
  have hR := h.1
  have hL := h.1.2.2.2.2.1
  obtain ⟨m1, m2, m3, m4, ⟨m5, m6, m7⟩, m8, m9, ⟨⟨t1', t2', t3'⟩, t4'⟩, m11⟩ := h
  rcases c with _ | c
  · obtain ⟨⟨rfl, rfl, rfl⟩, ⟨g1, g2⟩, w, g3⟩ := m4
    have hm := op17m (e := e) (X := X) (Y := wI Y 70 10 (Y.1 70 10 + 1)) (r := r) (ks := ks) (nn := (PTs p o).2.2.1) (o1 := o1) (n1 := X.1 41 o) (w := w) (x := Y.1 (e + 19) j) (pl := Y.1 (e + 21) j) ho hK1 hI m1.2.2.2.1.1 g2 g3 f6
    refine ENDS.both (P := fun z X1 => z.toInt = -1 ∧ ∀ e k, ¬ (e = 0 ∧ (k = 32 ∨ k = 37 ∨ k = 38)) → X1.1 e k = X.1 e k) (Q := fun _ X1 Y1 => (Y1.2.2 = (wI Y 70 10 (Y.1 70 10 + 1)).2.2 ∧ (∀ j k, ¬ (j = 70 ∧ (k = 4 ∨ k = 10 ∨ k = 11 ∨ k = 15)) → ¬ j = 85 → Y1.1 j k = (wI Y 70 10 (Y.1 70 10 + 1)).1 j k) ∧ ∀ j k, ¬ (j = 84 ∧ k = 0) → Y1.2.1 j k = (wI Y 70 10 (Y.1 70 10 + 1)).2.1 j k) ∧ (Y1.1 70 4).toInt = 0 ∧ (Y1.1 70 15).toInt = 1 ∧ VR X1 r (X1.1 60 0) (X1.1 61 0) (Y1.2.1 84 0)) m3.2.2.1 ho he m3.1.2.2.2 hbi hj hjl (pw_mono hm (fun z X1 q => ⟨⟨q.1, q.2.1⟩, by rw [hopv, wrkR (by decide)]; exact q.2.2⟩)) ?_
    rintro z X1 Y1 ⟨z1, hx⟩ ⟨⟨y1, y2, y3⟩, y4, y5, y6⟩
    have hX : HXc X X1 := ⟨fun k q => hx 0 k (by omega), fun e k q => hx e k (by omega)⟩
    have hO := m3.2.2.1
    refine pw_mono (n_endM (r := r) (ks := ks) (Y := Y1) (by rw [hx 0 43 (by omega), hx 0 44 (by omega)]; exact hO.1) (by omega) (hI.2.1.cg ⟨fun k q => hx 0 k (by omega), fun k => hx 79 k (by omega), fun k => hx 80 k (by omega)⟩ ⟨fun k q => y2 70 k (by omega) (by omega), fun k q => y2 71 k (by omega) (by omega), fun k => y2 86 k (by omega) (by omega), fun k => y2 87 k (by omega) (by omega)⟩) (m3.1.2.1.1.cg (fun e k q => hx e k (by omega))) y4 (by rw [y2 70 5 (by omega) (by omega), vw 70 5 (by omega)]; exact hO.2.2.1) (by rw [y2 70 6 (by omega) (by omega), vw 70 6 (by omega)]; exact hO.2.2.2) (hI.2.2.2.1.cg m3.1.2.1.1 (KXq.of (fun e k q => hx e k (by omega))) hX ⟨fun e k q => y2 e k (by omega) (by omega), fun e k q => y3 e k (by omega)⟩) y6 y5 N) (fun _ _ q M a5 _ => q M a5)
  · obtain ⟨sb', b', n, rp, jj, p2, T', f, ⟨c1, c2, c3, c4, c5⟩, ⟨c6, c7, c8⟩, ⟨c9, c10⟩, c11, ⟨c12, c13⟩, ⟨c14, c15, c16, c17⟩, c18, c19, c20⟩ := m4
    have hbd := LWr.bd _ _ _ _ c20
    obtain ⟨p4, rp4, d4, n4, b4, sb4, ⟨k1, k2, k3⟩, _, _, _, _, _, k15, k16⟩ := hL
    have kbd := LOW.bd c b4 sb4 _ k16
    have id4 := idn (b1 := b') (n1 := n) (b2 := b4) (n2 := n4) (X := X) (by omega) (fun a ha => by rw [c10 a ha]; have := (c9.1 a ha).1; omega) (WCH.nn _ _ _ _ k15) hbd ⟨kbd.1, kbd.2.2⟩
    obtain ⟨rfl, rfl⟩ := id4
    have hb21 := m1.2.2.2.1
    have hm := op17 (e := e) (X := X) (Y := wI Y 70 10 (Y.1 70 10 + 1)) (r := r) (ks := ks) (nn := (PTs p o).2.2.1) (G := G) (u := u) (kr := okk u X p) (sb := sb) (c := c) (b := b') (n := n) (f := f) (o1 := o1) (n1 := X.1 41 o) (x := Y.1 (e + 19) j) (pl := Y.1 (e + 21) j) ho hK1 hI (by omega) (by omega) (by omega) f7 hf.1.1 hf.1.2.1 hf.1.2.2.1 hf.1.2.2.2 hvv k15 (by have := hb21.1; omega) (by omega) (fun _ => hbd.2) (fun q => by omega) c9 c2 c10 c11 (by rw [f6]; omega)
    refine ENDS.both (P := fun z X1 => z = X.1 77 (b' + n) ∧ NXB u X X1 G po PTs p o c b sb z) (Q := fun _ X1 Y1 => RTQ X (wI Y 70 10 (Y.1 70 10 + 1)) r ks sb c X1 Y1) m3.2.2.1 ho he m3.1.2.2.2 hbi hj hjl (pw_mono (pw_and (pw_ok (step_back2 hR m2 ho hlast)) hm) (fun z X1 q => ⟨⟨q.2.1, q.1⟩, by rw [hopv, wrkR (by decide)]; exact q.2.2⟩)) ?_
    clear hm
    rintro z X1 V ⟨hz, hP, hon⟩ ⟨⟨v1, v2, v3⟩, ⟨q2, q3, q4⟩, q5, q6⟩
    rcases q6 with q6 | ⟨q6, r1, hG, hH, w1, w2, w3, w4⟩
    · exact ENDS.off q6 q5
    · obtain ⟨g1, p3, rp3, n3, b3, sb3, d3, zr, hR2, hx1, y40, ⟨x1, x2, x3⟩, ⟨x4, x5, x6⟩, ⟨x7, x8, x9⟩, x10, x11, ⟨kc, x12⟩, ⟨x13, x14, x15⟩, ⟨x16, x17⟩, ⟨x18', x19⟩, x20, x21, x22⟩ := hon q6.1.1
      have id3 := idn (b1 := b') (n1 := n) (b2 := b3) (n2 := n3) (X := X) (by omega) (fun a ha => by rw [c10 a ha]; have := (c9.1 a ha).1; omega) (WCH.nn _ _ _ _ x12) hbd ⟨x13, x15⟩
      obtain ⟨rfl, rfl⟩ := id3
      have erp : rp3 = rp := by omega
      subst erp
      have ep : p3 = p2 := m2.1.one x7 c14 (o := rp3) ⟨by omega, by omega⟩ ⟨by omega, by omega⟩
      subst ep
      have esb : sb3 = sb' := by omega
      subst esb
      have hst := hP.st (by decide)
      have x18 : X1.1 0 18 = X.1 0 18 := hP.1.1 0 18 (by decide)
      have vv2 : ∀ a q, a < 70 → V.1 a q = Y.1 a q := fun a q w => (v2 a q (by omega) (by omega) (by omega) (by omega) (by omega)).trans (vw a q (by omega))
      have hRB : RBk e X1 V ks := by
        obtain ⟨k1, k2, ⟨k3, k4⟩, k5⟩ := m3.1
        exact ⟨k1, ⟨q2, q3⟩, ⟨k3.cg (fun i k q1 q2 _ => vv2 i k (by omega)), k4⟩, by rw [v1]; exact k5⟩
      refine ih X1 V r1 G p3 jj rp3 c b' sb3 T' (i + 1) z zr ⟨hR2, g1, ⟨hRB, q5, q6, hH, ⟨?_, ?_, by omega, fun a a1 a2 => ?_⟩, fun s hs => ?_⟩, ?_, ⟨w3, ?_, ?_⟩, ?_, c13, ⟨⟨fun a q q1 q2 => (hst a q q1 q2).trans (t1' a q q1 q2), t2'.tr q4, by rw [x18]; exact t3'⟩, fun a q w => (vv2 a q w).trans (t4' a q w)⟩, by rw [y40]; omega⟩
      · exact hR2.1.2.2.2.1.1
      · rw [w2]
        omega
      · by_cases g : a = sb
        · rw [g]
          exact w1
        · rw [x16 a, x17 a g, v3 84 _ (by omega) (by omega)]
          exact (c18 a a1 (by omega)).up hG
      · rw [x18' _, x19 _, v3 83 _ (by omega) (by omega)]
        exact (c19 s hs).up hG
      · exact LWr.up (Y := Y) hG hx1 _ _ _ _ (fun a _ => ⟨x20 a, x21 a, x22 a⟩) (fun a a1 => ⟨x16 a, x17 a (by omega)⟩) (fun a _ => ⟨x18' a, x19 a⟩) (fun a a1 => v3 84 a (by omega) (by omega)) (fun a a1 => v3 83 a (by omega) (by omega)) (fun a a1 => (v2 82 a (by omega) (by omega) (by omega) (by omega) (by omega)).trans (vw 82 a (by omega))) c20
      · rw [w4, vw 82 _ (by omega)]
        exact c12
      · rw [v2 70 3 (by omega) (by omega) (by omega) (by omega) (by omega), vw 70 3 (by omega)]
        exact m7
      · obtain ⟨⟨p1, p2'⟩, p3, p4⟩ := m8
        refine ⟨by rw [x18]; exact ⟨p1, p2'⟩, by rw [vv2 e 1 (by omega), x18]; exact p3, fun k hk => ?_⟩
        rw [x18] at hk
        rw [vv2 (e + 13) k (by omega), hst 15 k (by omega) (by omega)]
        exact p4 k hk
end CBS
