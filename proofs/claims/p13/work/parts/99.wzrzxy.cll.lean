/-! a function is called: its wrappings one after another -/
def CLQ (X Y : St) (r : Nat → Int32) (ks : List (List Int)) (cell m q : Nat) (Z V : St) : Prop := (XFm X Z cell (cell + 1 + m) ∧ CFm Y V (cell + 1 + q) (cell + 1 + m + q)) ∧ (KJq Z ∧ KU Z ∧ KXq X Z) ∧ SCr Z V ∧ (OFr Z V ∨ (ONr Z V ∧ ∃ r1, HG X Z r r1 ∧ HR Z V r1 ks ∧ ∀ j, cell + 1 ≤ j → j < cell + 1 + m → VR Z r1 (Z.1 60 j) (Z.1 61 j) (V.2.1 84 (j + q))))
def PR26 : List Nat := [13, 15, 33, 36, 37, 43, 44, 45, 800, 1000, 1200, 1400, 1600, 1800, 2000, 12200, 12800, 13400, 13600, 13800, 14000, 14200, 14400, 14600, 15200, 16000]
section CLLS
variable {X Y Z X1 Y1 X2 Y2 V V1 Z1 Z2 : St} {r r1 r2 : Nat → Int32} {s w k a v a1 a2 a3 a4 a5 an pl am c3 c5 kc : Int32} {y y1 : Int64} {ks : List (List Int)} {e c m n i j q A b cell D : Nat} {f : Nat → Int32} {G : Nat → Int32} {u : Bool}
theorem CLQ.mlq (h : CLQ X Y r ks cell m q Z V) : ∃ r1, (ONr Z V → HG X Z r r1 ∧ HR Z V r1 ks) ∧ MLQ Z V r1 ks (cell + 1) (cell + 1 + m) q Z V := by
  obtain ⟨-, ⟨b1, b2, -⟩, b3, b4⟩ := h
  rcases b4 with b4 | ⟨c1, r1, c2, c3, c4⟩
  · exact ⟨r, fun z => absurd b4.2.1 z.2.1, ⟨fun _ _ _ _ _ _ _ _ _ => rfl, rfl, fun _ _ _ _ _ _ => rfl, fun _ _ _ _ => rfl⟩, ⟨b1, b2, KXq.rf⟩, b3, Or.inl b4⟩
  · exact ⟨r1, fun _ => ⟨c2, c3⟩, ⟨fun _ _ _ _ _ _ _ _ _ => rfl, rfl, fun _ _ _ _ _ _ => rfl, fun _ _ _ _ => rfl⟩, ⟨b1, b2, KXq.rf⟩, b3, Or.inr ⟨c1, r1, HG.rf, c3, c4⟩⟩
theorem CLQ.on (h : CLQ X Y r ks cell m q Z V) (hz : (Z.1 0 43).toInt < 0) : ONr Z V := by
  rcases h.2.2.2 with q | q
  · have := q.1
    omega
  · exact q.1
theorem CLQ.of (h : CLQ X Y r ks cell m q Z V) (hz : ¬ (Z.1 0 43).toInt < 0) : OFr Z V := by
  rcases h.2.2.2 with q | q
  · exact q
  · exact absurd q.1.1.1 hz
/-- the arguments have been asked for one wrapping, and it is taken off -/
theorem CLQ.step (h : CLQ X Y r ks cell m q Z V) (hG : HG X Z r r1) (g : MLQ Z V r1 ks (cell + 1) (cell + 1 + m) q Z1 V1) (rd : ∀ e k, ¬ e = 76 → ¬ (e = 0 ∧ k = 37) → ¬ (e = 61 ∧ k = cell) → Z2.1 e k = Z1.1 e k) : CLQ X Y r ks cell m q Z2 V1 := by
  obtain ⟨⟨a1, a2⟩, ⟨a3, a4, a5⟩, -, -⟩ := h
  obtain ⟨⟨b1, b2⟩, ⟨b3, b4, b5⟩, b6, b7⟩ := g
  have hJ : KJq Z2 := b3.cg (fun e k q => rd e k (by omega) (by omega) (by omega))
  have hU : KU Z2 := (KGq.of (fun e k q => rd e k (by omega) (by omega) (by omega))).2 b4
  have hX : KXq Z1 Z2 := KXq.of (fun e k q => rd e k (by omega) (by omega) (by omega))
  refine ⟨⟨fun e k q1 q2 q3 q4 q5 q6 q7 => ?_, b2.1.trans a2.1, fun j k p1 p2 p3 p4 => (b2.2.1 j k p1 p2 p3 p4).trans (a2.2.1 j k p1 p2 p3 p4), fun j k p1 p2 => (b2.2.2 j k p1 p2).trans (a2.2.2 j k p1 p2)⟩, ⟨hJ, hU, (a5.tr b5).tr hX⟩, b6.cg ⟨fun k q => rd 0 k (by omega) (by omega) (by omega), fun k => rd 79 k (by omega) (by omega) (by omega), fun k => rd 80 k (by omega) (by omega) (by omega)⟩ ⟨fun _ _ => rfl, fun _ _ => rfl, fun _ => rfl, fun _ => rfl⟩, ?_⟩
  · rw [rd e k (by omega) (by omega) (by omega)]
    exact (b1 e k q1 q2 q3 (by omega) q5 q6 q7).trans (a1 e k q1 q2 q3 q4 q5 q6 q7)
  · rcases b7 with b7 | ⟨c1, r2, c2, c3, c4⟩
    · refine Or.inl ?_
      unfold OFr
      rw [rd 0 43 (by omega) (by omega) (by omega), rd 0 44 (by omega) (by omega) (by omega)]
      exact b7
    · have hx : HXc Z1 Z2 := ⟨fun k _ => rd 0 k (by omega) (by omega) (by omega), fun e k q => rd e k (by omega) (by omega) (by omega)⟩
      refine Or.inr ⟨c1.cg (rd 0 43 (by omega) (by omega) (by omega)) (rd 0 44 (by omega) (by omega) (by omega)) (fun _ _ => rfl), r2, (hG.tr c2).tr (HG.of hx), c3.cg b3 hX hx ⟨fun _ _ _ => rfl, fun _ _ _ => rfl⟩, fun j j1 j2 => ?_⟩
      rw [rd 60 j (by omega) (by omega) (by omega), rd 61 j (by omega) (by omega) (by omega)]
      exact (c4 j j1 j2).up (HG.of hx)
theorem CLQ.offV (h : CLQ X Y r ks cell m q Z V) (g : MLQ Z V r1 ks (cell + 1) (cell + 1 + m) q Z V1) (hO : OFr Z V1) : CLQ X Y r ks cell m q Z V1 := by
  obtain ⟨⟨a1, a2⟩, a3, -, -⟩ := h
  obtain ⟨⟨-, b2⟩, -, b6, -⟩ := g
  exact ⟨⟨a1, b2.1.trans a2.1, fun j k p1 p2 p3 p4 => (b2.2.1 j k p1 p2 p3 p4).trans (a2.2.1 j k p1 p2 p3 p4), fun j k p1 p2 => (b2.2.2 j k p1 p2).trans (a2.2.2 j k p1 p2)⟩, a3, b6, Or.inl hO⟩
/-- behind a failure the class goes through the wrappings and does nothing -/
theorem l_callO (hAq : A = cell + q) (hA : A < 50000) (h3 : c3.toInt = (A : Int)) (hn : an.toInt = (m : Int)) (hm : m ≤ 4) : ∀ (M : Nat) (x : Int32) (V : St), CLQ X Y r ks cell m q Z V → OFr Z V → pw (g_Running_callWith_34 M an pl c3 am x V) (fun _ V1 => CLQ X Y r ks cell m q Z V1 ∧ OFr Z V1) := by
  intro M
  induction M with
  | zero => exact fun _ _ _ _ => pw_none
  | succ M ih =>
    intro x V hQ hO
    have e : g_Running_callWith_34 (M + 1) = g_Running_callWith_34_s (g_Running_callWith_34 M) := by
      unfold g_Running_callWith_34
      exact lp_succ _ _ _
    rw [e]
    unfold g_Running_callWith_34_s
    refine pw_ite (fun _ => pw_let (pw_pos hO.2.1 (pw_ret ⟨hQ, hO⟩))) (fun _ => ?_)
    obtain ⟨r1, _, hM⟩ := hQ.mlq
    exact l_argsO hAq hA h3 hn hm (fun V1 x1 hQ1 hO1 _ => ih x1 V1 (hQ.offV hQ1 hO1) hO1) BIG 0 V 0 rfl (Nat.zero_le _) hM hO
set_option maxHeartbeats 4000000 in
theorem n_callw (hB : RBk e X Y ks) (hM : PRm e X Y) (hT : KT X) (h3 : K3 X) (hPB : PBD X) (h18 : (X.1 0 18).toInt ≤ 40) (hm4 : m ≤ 4) (hcm : cell + m + 1 ≤ 20000) (hb : b ≤ 2100) (h3m : a3.toInt = (m : Int)) (h4 : a4.toInt = (cell : Int)) (hAq : A = cell + q) (hA : A < 50000) (hn : an.toInt = (m : Int)) (h3c : c3.toInt = (A : Int)) (ham : am.toInt = (D : Int)) (hD : D ≤ 20) (hF : FCH X f D) (h85 : ∀ i, i < D → Y.1 85 i = r (ix (f i) - 100)) {P : St → St → Prop} (K : ∀ (Z V : St) (n : Nat), CLQ X Y r ks cell m q Z V → PER PR26 X Z → (Z.1 0 37).toInt = ((b + n : Nat) : Int) → n ≤ 20 → (∀ j, j < b → Z.1 76 j = X.1 76 j) → ((Z.1 0 43).toInt < 0 → CST u X Z G cell m b n kc ∧ (Z.1 61 cell).toInt < 100 ∧ n = D ∧ Z.1 61 cell = f D ∧ ∀ i, i < D → (Z.1 76 (b + i)).toInt = (f i).toInt - 100) → pw (f_call_166 a1 a2 a4 Z) (fun _ Z1 => ∀ (M : Nat) (x : Int32), ((Z.1 0 43).toInt < 0 → x.toInt = (D : Int)) → pw (g_Running_callWith_34 M an pl c3 am x V) (fun _ V1 => P Z1 V1))) : ∀ (N n : Nat) (Z V : St) (c5 : Int32), c5.toInt = (n : Int) → n ≤ D → CLQ X Y r ks cell m q Z V → PER PR26 X Z → (Z.1 0 37).toInt = ((b + n : Nat) : Int) → (∀ j, j < b → Z.1 76 j = X.1 76 j) → ((Z.1 0 43).toInt < 0 → CST u X Z G cell m b n kc ∧ Z.1 61 cell = f n ∧ ∀ i, i < n → (Z.1 76 (b + i)).toInt = (f i).toInt - 100) → pw (f_call_17 N a1 a2 a3 a4 Z) (fun _ Z1 => ∀ M : Nat, pw (g_Running_callWith_34 M an pl c3 am c5 V) (fun _ V1 => P Z1 V1)) := by
  have z1 : (1 : Int32).toInt = 1 := rfl
  have z100 : (100 : Int32).toInt = 100 := rfl
  have i4 : ix a4 = cell := ixn h4
  intro N
  induction N with
  | zero => exact fun _ _ _ _ _ _ _ _ _ _ _ => pw_none
  | succ N ih =>
    intro n Z V c5 h5 hnD hQ hP h37 h76 hon
    have e1 : f_call_17 (N + 1) = f_call_17_s (f_call_17 N) := by
      unfold f_call_17
      exact lp_succ _ _ _
    rw [e1]
    unfold f_call_17_s
    by_cases hz : (Z.1 0 43).toInt < 0
    · have hO := hQ.on hz
      obtain ⟨o1, o2, o3⟩ := hon hz
      refine pw_bd (n_isOn1 hO) ?_
      rintro z5 X6 ⟨e6, e5⟩
      rw [e6, e5]
      refine pw_neg (by decide) (pw_ck (fun _ => pw_to (show Z.1 61 (ix a4) = f n by rw [i4]; exact o2) ?_))
      by_cases g2 : (f n).toInt < 100
      · have hnd : n = D := by
          by_cases q1 : n < D
          · have := (hF.1 n q1).1
            omega
          · omega
        rw [hnd] at o1 o2 o3 h37
        exact pw_pos g2 (pw_mono (K Z V D hQ hP h37 hD h76 (fun _ => ⟨o1, by rw [o2, ← hnd]; exact g2, rfl, o2, o3⟩)) (fun _ Z1 g M => g M c5 (fun _ => by rw [h5, hnd])))
      · have hlt : n < D := by
          by_cases q1 : n = D
          · have := hF.2.2
            rw [← q1] at this
            exact absurd this g2
          · omega
        obtain ⟨c1, c2, ⟨c3', c4, c5', c6⟩, c7, c8, c9⟩ := o1
        have hKZ := hP.2.2.1
        have hTZ := hP.2.1
        have h3Z := h3.kx hKZ
        have hBZ := hPB.pot hP.2.2.2
        have h18Z : (Z.1 0 18).toInt ≤ 40 := by
          rw [hP.1.1 0 18 (by decide)]
          exact h18
        obtain ⟨w, hw⟩ : ∃ w : Int32, f n = w := ⟨_, rfl⟩
        rw [o2, hw] at c4 c5' c6 c7 c8
        obtain ⟨x1, x2, x3⟩ := hF.1 n hlt
        rw [hw] at g2 x1 x2 x3
        obtain ⟨rfl, ⟨f1, f1'⟩, ⟨f2, f3⟩, ⟨f4, f5, f6, f7⟩, f8, f9, ⟨f10, f11, f12, f13⟩, f14⟩ := wrap_fn c1 h3Z c4 (by omega)
        have ew := ixc (z := w) (by omega)
        have h33 := c1.1.2.1
        have hdp := dpt.pos c1 f10
        obtain ⟨t0, ht0⟩ : ∃ t0 : Nat, ix w - 100 = t0 := ⟨_, rfl⟩
        rw [ht0] at f1' f2 f3 f4 f5 f6 f7 f8 f9 f10 f11 f12 f13 f14 hdp x3
        have htX : (t0 : Int) < (X.1 0 33).toInt := by
          rcases x2 with q1 | ⟨q1, q2, _⟩ <;> omega
        have fcw : ∀ i : Nat, i ≤ m → FC false Z w i = cmpK Z (Z.1 69 t0) i := by
          intro i hi
          unfold FC
          rw [if_neg (by decide), if_neg (by omega), ht0]
        refine pw_neg (by rw [hw]; exact g2) (pw_ck (fun _ => pw_to (show Z.1 61 (ix a4) = w by rw [i4, o2, hw]) (pw_eq (fun x22 e22 => ?_))))
        have v22 : x22.toInt = (t0 : Int) := by
          rw [e22, ti_sub (by rw [z100]; omega) (by rw [z100]; omega), z100]
          omega
        have i22 : ix x22 = t0 := ixn v22
        obtain ⟨r1, hr1, hMQ⟩ := hQ.mlq
        obtain ⟨hG, _⟩ := hr1 hO
        refine pw_all (fun M => ?_)
        cases M with
        | zero => exact fun _ _ _ => pw_none
        | succ M =>
          have e2 : g_Running_callWith_34 (M + 1) = g_Running_callWith_34_s (g_Running_callWith_34 M) := by
            unfold g_Running_callWith_34
            exact lp_succ _ _ _
          refine pw_mono (n_args (e := e) (X := Z) (Y := V) (W := Z) (r := r1) (R := g_Running_callWith_34 M) (r17 := f_call_17 N) (G := G) (cell := cell) (m := m) (t0 := t0) (k0 := n) (q := q) (A := A) (c5 := c5) (am := am) (pl := pl) (an := an) (c3 := c3) (a1 := a1) (a2 := a2) (P := P) (hB.cfm ⟨hQ.2.1.1, hQ.2.1.2.1⟩ hQ.1.2) (hM.tom hB.1 hQ.1.1 hQ.1.2) hTZ h3Z hBZ h18Z hcm hm4 ⟨by omega, by omega⟩ (by omega) f1' ⟨f2, f3⟩ ⟨by omega, by omega⟩ ⟨f4, f5⟩ (fun i hi => f8 i (by omega)) f9 h3m h4 v22 hAq hA hn h3c h5 ?_ (fun Z' V' hMQ' hPV hV => ?_) BIG 0 Z V 0 0 rfl rfl (Nat.zero_le _) hMQ (PER.rf hTZ) (fun q => ⟨q, HX.rf, c1, fun j hj => absurd hj (Nat.not_lt_zero _), fun j _ j2 => by rw [← fcw j (by omega)]; exact c8 j j2, fun _ _ => rfl⟩)) (fun _ Z1 g => ?_)
          · rw [hQ.1.2.2.1 85 n (by omega) (by omega) (by omega) (by omega), h85 n hlt, hw, ht0, (hG.2 t0 htX).2]
          · -- the wrapping is kept, and taken off
            have e37 : (Z'.1 0 37).toInt = ((b + n : Nat) : Int) := by
              rw [hPV.1.1 0 37 (by decide)]
              exact h37
            have i37 : ix (Z'.1 0 37) = b + n := ixn e37
            unfold f_call_128
            refine pw_let (pw_ck (fun _ => ?_))
            rw [i37]
            refine pw_let (pw_let (pw_eq (fun x26 e26 => pw_let (pw_ck (fun _ => pw_eq (fun x28 e28 => pw_ck (fun _ => ?_)))))))
            rw [i4]
            rw [i22] at e28
            have x26v : x26.toInt = ((b + (n + 1) : Nat) : Int) := by
              rw [e26, wI_ne _ _ _ _ _ _ (by omega), ti_add (by rw [e37, z1]; omega) (by rw [e37, z1]; omega), e37, z1]
              omega
            have hF' : Fr YR [37, 12200, 15200] Z' (wI (wI (wI Z' 76 (b + n) x22) 0 37 x26) 61 cell x28) := (((Fr.rf.wI 76 (b + n) _ (show (15200 : Nat) ∈ [37, 12200, 15200] from by decide)).wI 0 37 _ (show (37 : Nat) ∈ [37, 12200, 15200] from by decide)).wI 61 cell _ (show (12200 : Nat) ∈ [37, 12200, 15200] from by decide))
            have g37 : (wI (wI (wI Z' 76 (b + n) x22) 0 37 x26) 61 cell x28).1 0 37 = x26 := by rw [wI_ne _ _ _ _ _ _ (by omega), wI_at]
            have g61 : (wI (wI (wI Z' 76 (b + n) x22) 0 37 x26) 61 cell x28).1 61 cell = x28 := by rw [wI_at]
            have n61 : ∀ j, j ≠ cell → (wI (wI (wI Z' 76 (b + n) x22) 0 37 x26) 61 cell x28).1 61 j = Z'.1 61 j := fun j hj => by rw [wI_ne _ _ _ _ _ _ (by omega), wI_ne _ _ _ _ _ _ (by omega), wI_ne _ _ _ _ _ _ (by omega)]
            have g76 : (wI (wI (wI Z' 76 (b + n) x22) 0 37 x26) 61 cell x28).1 76 (b + n) = x22 := by rw [wI_ne _ _ _ _ _ _ (by omega), wI_ne _ _ _ _ _ _ (by omega), wI_at]
            have n76 : ∀ j, j ≠ b + n → (wI (wI (wI Z' 76 (b + n) x22) 0 37 x26) 61 cell x28).1 76 j = Z'.1 76 j := fun j hj => by rw [wI_ne _ _ _ _ _ _ (by omega), wI_ne _ _ _ _ _ _ (by omega), wI_ne _ _ _ _ _ _ (by omega)]
            have rd : ∀ e k, ¬ e = 76 → ¬ (e = 0 ∧ k = 37) → ¬ (e = 61 ∧ k = cell) → (wI (wI (wI Z' 76 (b + n) x22) 0 37 x26) 61 cell x28).1 e k = Z'.1 e k := fun e k q1 q2 q3 => by rw [wI_ne _ _ _ _ _ _ (by omega), wI_ne _ _ _ _ _ _ (by omega), wI_ne _ _ _ _ _ _ (by omega)]
            have e28' : x28 = Z'.1 67 t0 := by rw [e28, wI_ne _ _ _ _ _ _ (by omega), wI_ne _ _ _ _ _ _ (by omega)]
            refine pw_let ?_
            obtain ⟨W, hWW⟩ : ∃ W : St, wI (wI (wI Z' 76 (b + n) x22) 0 37 x26) 61 cell x28 = W := ⟨_, rfl⟩
            rw [hWW] at hF' g37 g61 n61 g76 n76 rd ⊢
            have hKW : KX Z' W := KX.fr hF' (by decide)
            have hPW : PER [37, 12200, 15200] Z' W := PER.fr hPV.2.1 hF' (by decide)
            have hPX : PER PR26 X W := (hP.tr hPV (by decide)).tr hPW (by decide)
            have v76 : ∀ j, Z'.1 76 j = Z.1 76 j := fun j => hPV.1.1 76 j (show (15200 : Nat) ∉ PR24 from by decide)
            refine pw_mono (ih (n + 1) W V' (c5 + Int32.ofInt 1) (inc_i h5 (by omega)) (by omega) (hQ.step hG hMQ' rd) hPX (by rw [g37]; exact x26v) (fun j hj => by rw [n76 j (by omega), v76]; exact h76 j hj) (fun q => ?_)) (fun _ Z1 g x14 e14 => by rw [e14]; exact g M)
            rw [hF'.1 0 43 (by decide)] at q
            obtain ⟨v1, v2, v3, v4, _, v5⟩ := hV q
            have hVW : HX Z' W G G := HX.fr hF' hKW (by decide)
            have hZW : HX Z W G G := v2.tr hVW
            have w67 : Z'.1 67 t0 = Z.1 67 t0 := (v2.2.2.1 t0 (by omega)).2.1.1
            obtain ⟨⟨w64, -⟩, ⟨-, w68, w69, -⟩, -⟩ := hZW.2.2.1 t0 (by omega)
            have w60 : ∀ j, W.1 60 j = Z.1 60 j := fun j => (hF'.1 60 j (show (12000 : Nat) ∉ [37, 12200, 15200] from by decide)).trans (hPV.1.1 60 j (show (12000 : Nat) ∉ PR24 from by decide))
            have w61 : W.1 61 cell = Z.1 67 t0 := g61.trans (e28'.trans w67)
            have fcn : ∀ i : Nat, i ≤ m → FC false W (Z.1 67 t0) i = cmpK Z (Z.1 68 t0) i := fun i hi => by rw [FC.hx f10 hTZ hZW (by omega)]; exact f13 i (by omega)
            have rs : ∀ k : Int32, VK Z k → _root_.Jvm.Pilot.CBlameCourtLaw_law_r8381_f30dd1.so Z k = 5 → km Z k = (m : Int) + 1 → resK W k = cmpK Z k m := by
              intro k hk hs hkm
              rw [resK.kx hTZ hZW.1 hk hs]
              unfold resK
              have e5 : (Z.1 5 (ix k)).toInt = km Z k := rfl
              rw [show ix (Z.1 5 (ix k)) = m + 1 from ixn (by omega)]
              rfl
            have hcs : CST false X W G cell m b (n + 1) kc := by
              refine ⟨v3.same hPV.2.1 hF' hKW (by decide) (by decide), c2.tr hZW, ?_, ?_, fun i hi => ?_, fun j hj => ?_⟩
              · rw [w60, w61]
                refine ⟨c3', f10.hx hZW, by rw [FA.hx f10 hZW]; omega, ?_⟩
                rw [dpt.hx f10 hZW]
                omega
              · rw [w61, fcn m (Nat.le_refl _)]
                refine ⟨t0, by rw [g76]; omega, by have := hZW.2.1; omega, by unfold wrp; rw [w64]; exact f1', ⟨by rw [w68]; exact f2.kx hZW.1, by rw [w69]; exact f3.kx hZW.1, by rw [w69, (f3.so_kx hZW.1).1]; exact f5, by rw [w68, (f2.so_kx hZW.1).1]; exact f4⟩, by rw [w68, rs _ f2 f4 (by omega)], ?_⟩
                rw [w69, rs _ f3 f5 (by omega), ← fcw m (Nat.le_refl _)]
                exact WCH.hx hTZ hZW n _ _ (fun j hj => (n76 j (by omega)).trans (v76 j)) c7
              · rw [w61, fcn i (by omega), w60, n61 _ (by omega)]
                have := v4 i hi
                rw [hPV.1.1 60 _ (show (12000 : Nat) ∉ PR24 from by decide)] at this
                exact this.hx hPV.2.1 hVW
              · rw [n61 j (by omega), v5 j (by omega)]
                exact c9 j hj
            refine ⟨hcs, ?_, fun i hi => ?_⟩
            · rw [w61, x3]
              exact (c2.2.2.1 t0 htX).2.1.1
            · by_cases g3 : i = n
              · rw [g3, g76, hw]
                omega
              · rw [n76 _ (by omega), v76]
                exact o3 i (by omega)
          · rw [e2]
            unfold g_Running_callWith_34_s
            exact pw_neg (by omega) (g BIG)
    · have hO := hQ.of hz
      refine pw_bd (n_isOn0 hO) ?_
      rintro z5 X6 ⟨e6, e5⟩
      rw [e6, e5]
      exact pw_pos (by decide) (pw_mono (K Z V n hQ hP h37 (by omega) h76 (fun q => absurd q hz)) (fun _ Z1 g M => g M c5 (fun q => absurd q hz)))
end CLLS
