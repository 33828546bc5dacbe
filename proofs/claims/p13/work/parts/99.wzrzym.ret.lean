/-! a part is left: both sides -/
/-- what leaving a part leaves, c calls below -/
def RTQ (X Y : St) (r : Nat → Int32) (ks : List (List Int)) (sb c : Nat) (X1 Y1 : St) : Prop := (Y1.2.2 = Y.2.2 ∧ (∀ j k, ¬ (j = 70 ∧ ((4 ≤ k ∧ k ≤ 7) ∨ k = 10 ∨ k = 11 ∨ k = 15)) → ¬ (j = 71 ∧ k = 2) → ¬ (76 ≤ j ∧ j ≤ 81) → ¬ j = 85 → ¬ j = 87 → Y1.1 j k = Y.1 j k) ∧ ∀ j k, ¬ j = 75 → ¬ (j = 84 ∧ k = sb + c + 1) → Y1.2.1 j k = Y.2.1 j k) ∧ (KJq X1 ∧ KU X1 ∧ KXq X X1) ∧ SCr X1 Y1 ∧ (OFr X1 Y1 ∨ (ONr X1 Y1 ∧ ∃ r1, HG X X1 r r1 ∧ HR X1 Y1 r1 ks ∧ VR X1 r1 (X1.1 60 sb) (X1.1 61 sb) (Y1.2.1 84 (sb + c + 1)) ∧ (Y1.1 70 15).toInt = ((sb + c + 2 : Nat) : Int) ∧ (Y1.1 70 11).toInt = (c : Int) + 1 ∧ Y1.1 70 10 = Y.1 82 (c + 1)))
section RETS
variable {X Y Z X1 Y1 X2 Y2 V V1 : St} {r r1 r2 : Nat → Int32} {s w k a p p1 p2 v pl o1 n1 x kr kc : Int32} {y y1 y2 : Int64} {ks : List (List Int)} {e c m n i j sb tp t0 nn o b B : Nat} {u : Bool} {G : Nat → Int32} {f : Nat → Int32}
/-- the first orders of goesBack() -/
theorem n_gb (h37 : (X.1 0 37).toInt = (B : Int) + 1) (hB : B ≤ 2200) {Q : Int32 → St → Prop} (hk : ∀ X11 : St, (∀ e k, ¬ (e = 0 ∧ (k = 32 ∨ k = 37 ∨ k = 38)) → X11.1 e k = X.1 e k) → (X11.1 0 37).toInt = (B : Int) → Fr YR [32, 37, 38] X X11 → pw (f_goesBack_43 BIG (X.1 77 B) X11) Q) : pw (f_goesBack X) Q := by
  have l1 : (1 : Int32).toInt = 1 := by decide
  unfold f_goesBack
  refine pw_let (pw_eq (fun x2 e2 => pw_eq (fun X3 e3 => pw_eq (fun x4 e4 => pw_ck (fun _ => pw_eq (fun x5 e5 => pw_eq (fun x6 e6 => pw_ck (fun _ => pw_eq (fun x7 e7 => pw_eq (fun X8 e8 => pw_eq (fun x9 e9 => pw_eq (fun x10 e10 => pw_eq (fun X11 e11 => ?_)))))))))))))
  have v2 : x2.toInt = (B : Int) := by rw [e2, ti_sub (by rw [h37, l1]; omega) (by rw [h37, l1]; omega), h37, l1]; omega
  have r3 : ∀ e k, ¬ (e = 0 ∧ k = 37) → X3.1 e k = X.1 e k := fun e k q => by rw [e3, wI_ne _ _ _ _ _ _ q]
  have i4 : ix x4 = B := by rw [e4, e3, wI_at]; exact ixn v2
  rw [i4, r3 77 _ (by omega)] at e5
  rw [e5]
  refine hk X11 (fun e k q => ?_) ?_ ?_
  · rw [e11, wI_ne _ _ _ _ _ _ (by omega), e8, wI_ne _ _ _ _ _ _ (by omega), r3 e k (by omega)]
  · rw [e11, wI_ne _ _ _ _ _ _ (by omega), e8, wI_ne _ _ _ _ _ _ (by omega), e3, wI_at]
    exact v2
  · rw [e11, e8, e3]
    exact ((Fr.rf.wI 0 37 _ (show (37 : Nat) ∈ [32, 37, 38] from by decide)).wI 0 32 _ (show (32 : Nat) ∈ [32, 37, 38] from by decide)).wI 0 38 _ (show (38 : Nat) ∈ [32, 37, 38] from by decide)
/-- the loop's result is where to go on -/
theorem z_gb43 : ∀ (N : Nat) (X : St), pw (f_goesBack_43 N o1 X) (fun z _ => z = o1) := by
  have tr : ∀ {ρ : Type} (F : Option (ρ × St)), pw F (fun _ _ => True) := fun _ _ _ _ => trivial
  intro N
  induction N with
  | zero => exact fun _ => pw_none
  | succ N ih =>
    intro X
    have e1 : f_goesBack_43 (N + 1) = f_goesBack_43_s (f_goesBack_43 N) := by
      unfold f_goesBack_43
      exact lp_succ _ _ _
    rw [e1]
    unfold f_goesBack_43_s
    exact pw_bd (tr _) (fun _ X13 _ => pw_ite (fun _ => pw_ret rfl) (fun _ => pw_let (pw_ite (fun _ => pw_ret rfl) (fun _ => pw_let (pw_let (pw_ck (fun _ => pw_let (pw_ite (fun _ => pw_ret rfl) (fun _ => pw_let (pw_let (pw_let (pw_let (pw_ck (fun _ => pw_let (pw_let (pw_let (pw_ck (fun _ => pw_let (pw_bd (tr _) (fun _ X27 _ => pw_ck (fun _ => pw_let (pw_bd (tr _) (fun _ X30 _ => pw_ck (fun _ => pw_let (pw_ck (fun _ => pw_let (pw_ck (fun _ => pw_let (pw_bd (tr _) (fun _ X34 _ => ih _))))))))))))))))))))))))))))))
theorem n_d31 {R : Int32 → St → Prop} (ho : o1.toInt = (o : Int)) (h1 : (X.1 40 o).toInt = 31) (hw : pw (f_goesBack X) R) : pw (f_does o1 n1 X) R := by
  unfold f_does
  refine pw_ck (fun _ => pw_eq (fun x1 e1 => ?_))
  have v1 : x1.toInt = 31 := by rw [e1, ixn ho]; exact h1
  exact pw_neg (by omega) (pw_neg (by omega) (pw_neg (by omega) (pw_neg (by omega) (pw_neg (by omega) (pw_neg (by omega) (pw_neg (by omega) (pw_neg (by omega) (pw_neg (by omega) (pw_neg (by omega) (pw_neg (by omega) (pw_neg (by omega) (pw_neg (by omega) (pw_neg (by omega) (pw_neg (by omega) (pw_neg (by omega) (pw_neg (by omega) (pw_neg (by omega) (pw_neg (by omega) (pw_neg (by omega) (pw_pos v1 (pw_bd hw (fun _ _ q => pw_ret q))))))))))))))))))))))
set_option maxHeartbeats 4000000 in
/-- RETURN into a call below -/
theorem op17 (ho : o1.toInt = (o : Int)) (h1 : (X.1 40 o).toInt = 31) (h : INS e X Y r ks sb (c + 1) (sb + 1) nn) (hsb : sb < 20000) (hn : sb + c + 1 < 20002) (hc : c ≤ 98) (hM : PRm e X Y) (hP : HP u X G) (hT : KT X) (h3 : K3 X) (hPB : PBD X) (hvv : VV u X G kr (X.1 60 sb) (X.1 61 sb)) (hw : WCH X n b kr kc) (h37 : (X.1 0 37).toInt = ((b + n : Nat) : Int) + 1) (hbn : b + n ≤ 2200) (h76b : 1 ≤ b → (X.1 76 (b - 1)).toInt < 0) (hb0 : b = 0 → n = 0) (hF : FCH X f n) (hn20 : n ≤ 20) (h76 : ∀ i, i < n → (X.1 76 (b + i)).toInt = (f i).toInt - 100) (h84 : Y.2.1 84 (sb + c + 1) = fvl r (f 0)) (h11 : (Y.1 70 11).toInt = (c : Int) + 2) : pw (f_does o1 n1 X) (fun z X1 => z = X.1 77 (b + n) ∧ pw (g_Running_workRowOrCall 17 x pl Y) (fun _ Y1 => RTQ X Y r ks sb c X1 Y1)) := by
  have hK := h.2.2.2.2.1
  have hH := h.2.2.2.1
  have he := h.1.1
  have l1 : (1 : Int32).toInt = 1 := by decide
  have hv := hK.2.2.2 sb (Nat.le_refl _) (by omega)
  obtain ⟨yv, hyv⟩ : ∃ yv : Int64, Y.2.1 84 (sb + c + 1 + 1) = yv := ⟨_, rfl⟩
  rw [show sb + (c + 1) + 1 = sb + c + 1 + 1 by omega, hyv] at hv
  -- the class
  have cls : ∀ (Q : St → Prop), (∀ (Y2 : St) (a7 : Int32), (Y2.1 70 15).toInt = ((sb + c + 1 : Nat) : Int) → (∀ j k, ¬ (j = 70 ∧ k = 15) → ¬ j = 85 → Y2.1 j k = Y.1 j k) → Y2.2 = Y.2 → (∀ i, i < n → Y2.1 85 i = r (ix (f i) - 100)) → a7.toInt = (n : Int) - 1 → pw (g_Running_askOutward_12 BIG yv a7 Y2) (fun y5 X6 => pw (bnd (g_Running_push y5 X6) fun _ X7 => letV (X7.1 70 11) fun x8 => letV (x8 - (1 : Int32)) fun x9 => letV (if (0 : Int32) < x9 then x9 else (0 : Int32)) fun x10 => letV (wI X7 70 11 x10) fun X11 => letV (X11.1 70 11) fun x12 => chk (inR x12 100) (letV (X11.1 82 (ix x12)) fun x13 => letV (wI X11 70 10 x13) fun X14 => letV (X14.1 70 11) fun x15 => if x15.toInt = 0 then letV (wI X14 70 4 ((0 : Int32))) fun X16 => some ((0 : Int32), X16) else some ((0 : Int32), X14))) (fun _ V => Q V))) → pw (g_Running_workRowOrCall 17 x pl Y) (fun _ V => Q V) := by
    intro Q hk
    unfold g_Running_workRowOrCall
    refine pw_neg (by decide) (pw_neg (by decide) (pw_neg (by decide) (pw_neg (by decide) (pw_neg (by decide) (pw_neg (by decide) (pw_neg (by decide) (pw_bd (R := fun _ V => Q V) ?_ (fun _ V q => pw_ret q))))))))
    unfold g_Running_leavePart
    refine pw_bd (l_pop2 (TOPq.rf (n := sb + c + 1 + 1 + 1) (by have := hK.2.1; omega))) ?_
    rintro y1 Y1 ⟨hT1, e1⟩
    rw [hyv] at e1
    refine pw_bd (l_pop2 (n := sb + c + 1) hT1) ?_
    rintro y3 Y4 ⟨hT4, e3⟩
    have hH4 : HR X Y4 r ks := hH.cg h.1.2.1.1 KXq.rf ⟨fun _ _ => rfl, fun _ _ _ => rfl⟩ ⟨fun e k q => hT4.2.1 e k (by omega), fun e k _ => by rw [hT4.2.2]⟩
    obtain ⟨yc, qc, hC, hyc0, hycD, hqc⟩ := hH4.fch hF hn20
    rw [e1, e3, h84, ← hyc0]
    refine pw_bd (l_askOut (R := fun y5 X6 => pw _ (fun _ V => Q V)) hC (fun Y2 a7 z1 z2 z3 z4 => hk Y2 a7 (by rw [z1 70 15 (by omega)]; exact hT4.1) (fun j k w1 w2 => (z1 j k w2).trans (hT4.2.1 j k w1)) (by rw [z2, hT4.2.2]) (fun i hi => by rw [z3 i hi, hqc]) z4)) ?_
    intro y5 X6 h6
    exact h6
  refine n_d31 ho h1 (n_gb h37 hbn (fun X11 r11 f37 hF11 => ?_))
  have hK11 : KX X X11 := KX.fr hF11 (by decide)
  have hX11 : HX X X11 G G := HX.fr hF11 hK11 (by decide)
  have hP11 : PER [32, 37, 38] X X11 := PER.fr hT hF11 (by decide)
  have hXc : HXc X X11 := ⟨fun k q => r11 0 k (by omega), fun e k _ => r11 e k (by omega)⟩
  have hKX : KXq X X11 := KXq.of (fun e k q => r11 e k (by omega))
  refine pw_and (z_gb43 BIG X11) ?_
  have key : ∀ (Y2 : St) (a7 : Int32), (Y2.1 70 15).toInt = ((sb + c + 1 : Nat) : Int) → (∀ j k, ¬ (j = 70 ∧ k = 15) → ¬ j = 85 → Y2.1 j k = Y.1 j k) → Y2.2 = Y.2 → (∀ i, i < n → Y2.1 85 i = r (ix (f i) - 100)) → a7.toInt = (n : Int) - 1 → pw (f_goesBack_43 BIG (X.1 77 (b + n)) X11) (fun _ Z1 => pw (g_Running_askOutward_12 BIG yv a7 Y2) (fun y1 V1 => ASQ X11 Y2 r ks sb y1 Z1 V1)) := by
    intro Y2 a7 w15 wy wl w85 w7
    have hB2 : RBk e X11 Y2 ks := by
      obtain ⟨a1, ⟨a2, a3⟩, ⟨a4, a5⟩, a6⟩ := h.1
      exact ⟨a1, ⟨a2.cg (fun e k q => r11 e k (by omega)), (KGq.of (fun e k q => r11 e k (by omega))).2 a3⟩, ⟨a4.cg (fun i k q1 q2 _ => wy i k (by omega) (by omega)), a5⟩, by rw [wl]; exact a6⟩
    have hM2 : PRm e X11 Y2 := by
      obtain ⟨z1, z2, z3⟩ := hM
      unfold PRm
      rw [r11 0 18 (by omega), wy e 1 (by rcases he with q | q <;> omega) (by rcases he with q | q <;> omega)]
      exact ⟨z1, z2, fun k hk => by rw [wy _ k (by rcases he with q | q <;> omega) (by rcases he with q | q <;> omega), r11 15 k (by omega)]; exact z3 k hk⟩
    have hS2 : SCr X11 Y2 := h.2.1.cg ⟨fun k q => r11 0 k (by omega), fun k => r11 79 k (by omega), fun k => r11 80 k (by omega)⟩ ⟨fun k q => wy 70 k (by omega) (by omega), fun k q => wy 71 k (by omega) (by omega), fun k => wy 86 k (by omega) (by omega), fun k => wy 87 k (by omega) (by omega)⟩
    have hO2 : ONr X11 Y2 := h.2.2.1.cg (r11 0 43 (by omega)) (r11 0 44 (by omega)) (fun k _ => wy 70 k (by omega) (by omega))
    have hH2 : HR X11 Y2 r ks := hH.cg h.1.2.1.1 hKX hXc ⟨fun e k q => wy e k (by omega) (by omega), fun e k _ => by rw [wl]⟩
    have hA : ASQ X11 Y2 r ks sb yv X11 Y2 := ASQ.id hB2 hS2 hO2 hH2 (by rw [r11 60 _ (by omega), r11 61 _ (by omega)]; exact hv.up (HG.of hXc))
    refine pw_mono (n_back (u := u) (G := G) (kc := kc) (f := f) (D := n) (b := b) (cell := sb) hB2 hM2 hsb hb0 (fun i hi => ?_) w85 BIG n X11 Y2 yv kr a7 w7 (Nat.le_refl _) hA ⟨hP11.2.1, h3.kx hK11, hPB.pot hP11.2.2.2⟩ (by rw [r11 0 18 (by omega)]; exact hM.1.2) (by rw [r11 0 31 (by omega)]; have := hK.1; omega) f37 hbn (fun z => by rw [r11 76 _ (by omega)]; exact h76b z) (fun i hi => by rw [r11 76 _ (by omega)]; exact h76 i hi) (fun _ => ⟨hP.same hT hF11 hK11 (by decide) (by decide), by rw [r11 60 _ (by omega), r11 61 _ (by omega)]; exact hvv.hx hT hX11, WCH.hx hT hX11 n kr kc (fun j _ => r11 76 j (by omega)) hw⟩)) (fun _ Z1 g => g BIG)
    obtain ⟨q1, q2, _⟩ := hF.1 i hi
    rw [r11 0 33 (by omega)]
    rcases q2 with q | q
    · omega
    · exact ⟨q.2.1, q1⟩
  refine pw_mono (pw_all (Q := fun (q : St × Int32) _ Z1 => (q.1.1 70 15).toInt = ((sb + c + 1 : Nat) : Int) → (∀ j k, ¬ (j = 70 ∧ k = 15) → ¬ j = 85 → q.1.1 j k = Y.1 j k) → q.1.2 = Y.2 → (∀ i, i < n → q.1.1 85 i = r (ix (f i) - 100)) → q.2.toInt = (n : Int) - 1 → pw (g_Running_askOutward_12 BIG yv q.2 q.1) (fun y1 V1 => ASQ X11 q.1 r ks sb y1 Z1 V1)) (fun q => pw_im (fun w1 => pw_im (fun w2 => pw_im (fun w3 => pw_im (fun w4 => pw_im (fun w5 => key q.1 q.2 w1 w2 w3 w4 w5))))))) (fun _ Z1 hall => ?_)
  refine cls _ (fun Y2 a7 w1 w2 w3 w4 w5 => pw_mono (hall (Y2, a7) w1 w2 w3 w4 w5) (fun y1 V1 hA => ?_))
  obtain ⟨⟨a1, a2⟩, ⟨a3, a4, a5⟩, a6, a7⟩ := hA
  have hTV : TOPq V1 V1 (sb + c + 1) := TOPq.rf (by rw [a2.2.1 70 15 (by omega) (by omega) (by omega) (by omega)]; exact w1)
  refine pw_bd (l_push2 (y := y1) hTV (by omega)) ?_
  rintro _ V2 ⟨b1, b2, b3, b4, b5⟩
  have v11 : V2.1 70 11 = Y.1 70 11 := by rw [b2 70 11 (by omega), a2.2.1 70 11 (by omega) (by omega) (by omega) (by omega), w2 70 11 (by omega) (by omega)]
  have v82 : V2.1 82 (c + 1) = Y.1 82 (c + 1) := by rw [b2 82 _ (by omega), a2.2.1 82 _ (by omega) (by omega) (by omega) (by omega), w2 82 _ (by omega) (by omega)]
  have v9 : (V2.1 70 11 - 1).toInt = (c : Int) + 1 := by rw [v11, ti_sub (by rw [h11, l1]; omega) (by rw [h11, l1]; omega), h11, l1]; omega
  refine pw_let (pw_let (pw_to (max0 (by rw [v9]; omega)) (pw_eq (fun V11 e11 => pw_eq (fun x12 e12 => pw_ck (fun _ => pw_eq (fun x13 e13 => pw_eq (fun V14 e14 => pw_eq (fun x15 e15 => ?_)))))))))
  have f12 : x12.toInt = (c : Int) + 1 := by rw [e12, e11, wI_at]; exact v9
  have f13 : x13 = Y.1 82 (c + 1) := by rw [e13, ixn (n := c + 1) (by rw [f12]; omega), e11, wI_ne _ _ _ _ _ _ (by omega), v82]
  have f15 : x15.toInt = (c : Int) + 1 := by rw [e15, e14, wI_ne _ _ _ _ _ _ (by omega), e11, wI_at]; exact v9
  refine pw_neg (by omega) (pw_ret ?_)
  have ry : ∀ j k, ¬ (j = 70 ∧ (k = 10 ∨ k = 11 ∨ k = 15)) → V14.1 j k = V1.1 j k := fun j k z => by rw [e14, wI_ne _ _ _ _ _ _ (by omega), e11, wI_ne _ _ _ _ _ _ (by omega), b2 j k (by omega)]
  have rl : V14.2 = V2.2 := by rw [e14, e11]; rfl
  refine ⟨⟨by rw [rl, b3, a2.1, w3], fun j k q1 q2 q3 q4 q5 => by rw [ry j k (by omega), a2.2.1 j k (by omega) q2 q3 q5, w2 j k (by omega) q4], fun j k q1 q2 => by rw [rl, b4 j k q2, a2.2.2 j k q1, w3]⟩, ⟨a3, a4, hKX.tr a5⟩, a6.cg ⟨fun _ _ => rfl, fun _ => rfl, fun _ => rfl⟩ ⟨fun k q => ry 70 k (by omega), fun k q => ry 71 k (by omega), fun k => ry 86 k (by omega), fun k => ry 87 k (by omega)⟩, ?_⟩
  rcases a7 with a7 | ⟨c1, r1, c2, c3, c4⟩
  · refine Or.inl ⟨a7.1, ?_, ?_, ?_⟩
    · rw [ry 70 4 (by omega)]; exact a7.2.1
    · rw [ry 70 5 (by omega)]; exact a7.2.2.1
    · rw [ry 70 6 (by omega)]; exact a7.2.2.2
  · refine Or.inr ⟨c1.cg rfl rfl (fun k q => ry 70 k (by omega)), r1, (HG.of hXc).tr c2, c3.cg a3 KXq.rf ⟨fun _ _ => rfl, fun _ _ _ => rfl⟩ ⟨fun e k q => ry e k (by omega), fun e k q => by rw [rl]; exact b4 e k (by omega)⟩, ?_, ?_, ?_, ?_⟩
    · rw [rl, b5]
      exact c4
    · rw [e14, wI_ne _ _ _ _ _ _ (by omega), e11, wI_ne _ _ _ _ _ _ (by omega), b1]
      omega
    · rw [e14, wI_ne _ _ _ _ _ _ (by omega), e11, wI_at]
      exact v9
    · rw [e14, wI_at, f13]
/-- RETURN of main -/
theorem op17m (ho : o1.toInt = (o : Int)) (h1 : (X.1 40 o).toInt = 31) (h : INS e X Y r ks 0 0 1 nn) (h37 : (X.1 0 37).toInt = 1) (h77 : (X.1 77 0).toInt = -1) (h84 : Y.2.1 84 0 = VLs 4 w) (h11 : (Y.1 70 11).toInt = 1) : pw (f_does o1 n1 X) (fun z X1 => z.toInt = -1 ∧ (∀ e k, ¬ (e = 0 ∧ (k = 32 ∨ k = 37 ∨ k = 38)) → X1.1 e k = X.1 e k) ∧ pw (g_Running_workRowOrCall 17 x pl Y) (fun _ Y1 => (Y1.2.2 = Y.2.2 ∧ (∀ j k, ¬ (j = 70 ∧ (k = 4 ∨ k = 10 ∨ k = 11 ∨ k = 15)) → ¬ j = 85 → Y1.1 j k = Y.1 j k) ∧ ∀ j k, ¬ (j = 84 ∧ k = 0) → Y1.2.1 j k = Y.2.1 j k) ∧ (Y1.1 70 4).toInt = 0 ∧ (Y1.1 70 15).toInt = 1 ∧ VR X1 r (X1.1 60 0) (X1.1 61 0) (Y1.2.1 84 0))) := by
  have hK := h.2.2.2.2.1
  have l1 : (1 : Int32).toInt = 1 := by decide
  have hv := hK.2.2.2 0 (Nat.le_refl _) (by omega)
  obtain ⟨yv, hyv⟩ : ∃ yv : Int64, Y.2.1 84 1 = yv := ⟨_, rfl⟩
  rw [show 0 + 0 + 1 = 1 from rfl, hyv] at hv
  refine n_d31 ho h1 (n_gb (B := 0) (by rw [h37]; rfl) (by omega) (fun X11 r11 f37 hF11 => ?_))
  have hXc : HXc X X11 := ⟨fun k q => r11 0 k (by omega), fun e k _ => r11 e k (by omega)⟩
  have hO11 : ONr X11 Y := h.2.2.1.cg (r11 0 43 (by omega)) (r11 0 44 (by omega)) (fun _ _ => rfl)
  obtain ⟨N, hN⟩ : ∃ N, BIG = N + 1 := ⟨BIG - 1, by decide⟩
  have e1 : f_goesBack_43 (N + 1) = f_goesBack_43_s (f_goesBack_43 N) := by
    unfold f_goesBack_43
    exact lp_succ _ _ _
  rw [hN, e1]
  unfold f_goesBack_43_s
  refine pw_bd (n_isOn1 hO11) ?_
  rintro z12 X13 ⟨e13, e12⟩
  rw [e13, e12]
  refine pw_neg (by decide) (pw_let (pw_pos (by rw [f37]; decide) (pw_ret ⟨h77, r11, ?_⟩)))
  unfold g_Running_workRowOrCall
  refine pw_neg (by decide) (pw_neg (by decide) (pw_neg (by decide) (pw_neg (by decide) (pw_neg (by decide) (pw_neg (by decide) (pw_neg (by decide) (pw_bd (R := fun _ Y1 => (Y1.2.2 = Y.2.2 ∧ (∀ j k, ¬ (j = 70 ∧ (k = 4 ∨ k = 10 ∨ k = 11 ∨ k = 15)) → ¬ j = 85 → Y1.1 j k = Y.1 j k) ∧ ∀ j k, ¬ (j = 84 ∧ k = 0) → Y1.2.1 j k = Y.2.1 j k) ∧ (Y1.1 70 4).toInt = 0 ∧ (Y1.1 70 15).toInt = 1 ∧ VR X11 r (X11.1 60 0) (X11.1 61 0) (Y1.2.1 84 0)) ?_ (fun _ V q => pw_ret q))))))))
  unfold g_Running_leavePart
  refine pw_bd (l_pop2 (TOPq.rf (n := 1 + 1) (by have := hK.2.1; omega))) ?_
  rintro y1 Y1 ⟨hT1, e1'⟩
  rw [hyv] at e1'
  refine pw_bd (l_pop2 (n := 0 + 1 - 1) (by rw [show 0 + 1 - 1 + 1 = 1 from rfl]; exact hT1)) ?_
  rintro y3 Y4 ⟨hT4, e3⟩
  rw [show 0 + 1 - 1 = 0 from rfl] at hT4 e3
  rw [h84] at e3
  obtain ⟨yc, hyc⟩ : ∃ yc : Nat → Int64, ∀ i, yc i = VLs 4 w := ⟨fun _ => VLs 4 w, fun _ => rfl⟩
  have hC : CCH Y4 yc (fun _ => 0) 0 := ⟨by omega, fun i hi => absurd hi (Nat.not_lt_zero _), 4, w, hyc 0, by decide⟩
  rw [e1', e3, ← hyc 0]
  refine pw_bd (l_askOut (R := fun y5 X6 => y5 = yv ∧ (∀ j k, ¬ j = 85 → X6.1 j k = Y4.1 j k) ∧ X6.2 = Y4.2) hC (fun Y2 a7 z1 z2 _ z4 => ?_)) ?_
  · obtain ⟨N, hN⟩ : ∃ N, BIG = N + 1 := ⟨BIG - 1, by decide⟩
    have e2 : g_Running_askOutward_12 (N + 1) = g_Running_askOutward_12_s (g_Running_askOutward_12 N) := by
      unfold g_Running_askOutward_12
      exact lp_succ _ _ _
    rw [hN, e2]
    unfold g_Running_askOutward_12_s
    exact pw_pos (by rw [z4]; decide) (pw_ret ⟨rfl, z1, z2⟩)
  · rintro y5 X6 ⟨g1, g2, g3⟩
    rw [g1]
    have hTV : TOPq X6 X6 0 := TOPq.rf (by rw [g2 70 15 (by omega)]; exact hT4.1)
    refine pw_bd (l_push2 (y := yv) hTV (by omega)) ?_
    rintro _ V2 ⟨b1, b2, b3, b4, b5⟩
    have v11 : V2.1 70 11 = Y.1 70 11 := by rw [b2 70 11 (by omega), g2 70 11 (by omega), hT4.2.1 70 11 (by omega)]
    have v9 : (V2.1 70 11 - 1).toInt = 0 := by rw [v11, ti_sub (by rw [h11, l1]; omega) (by rw [h11, l1]; omega), h11, l1]; rfl
    refine pw_let (pw_let (pw_to (max0 (by rw [v9]; omega)) (pw_eq (fun V11 e11 => pw_eq (fun x12 e12 => pw_ck (fun _ => pw_eq (fun x13 e13 => pw_eq (fun V14 e14 => pw_eq (fun x15 e15 => ?_)))))))))
    have f15 : x15.toInt = 0 := by rw [e15, e14, wI_ne _ _ _ _ _ _ (by omega), e11, wI_at]; exact v9
    refine pw_pos f15 (pw_eq (fun V16 e16 => pw_ret ?_))
    have rl : V16.2 = V2.2 := by rw [e16, e14, e11]; rfl
    refine ⟨⟨by rw [rl, b3, g3, hT4.2.2], fun j k q1 q2 => by rw [e16, wI_ne _ _ _ _ _ _ (by omega), e14, wI_ne _ _ _ _ _ _ (by omega), e11, wI_ne _ _ _ _ _ _ (by omega), b2 j k (by omega), g2 j k q2, hT4.2.1 j k (by omega)], fun j k q => by rw [rl, b4 j k q, g3, hT4.2.2]⟩, by rw [e16, wI_at]; decide, ?_, ?_⟩
    · rw [e16, wI_ne _ _ _ _ _ _ (by omega), e14, wI_ne _ _ _ _ _ _ (by omega), e11, wI_ne _ _ _ _ _ _ (by omega), b1]
      rfl
    · rw [rl, b5, r11 60 0 (by omega), r11 61 0 (by omega)]
      exact hv.up (HG.of hXc)
end RETS
