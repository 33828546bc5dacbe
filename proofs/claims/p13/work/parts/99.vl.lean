/-! the reference is made; both sides -/
def ZR (X : St) : Prop := (∀ e k, X.2.2 e k = 0) ∧ ∀ n, ¬ n = 0 → zE X n = X
theorem zE_id {X : St} {n : Nat} (h1 : X.1 n = fun _ => 0) (h2 : X.2.1 n = fun _ => 0) (h3 : X.2.2 n = fun _ => 0) : zE X n = X := by
  unfold zE
  refine Prod.ext ?_ (Prod.ext ?_ ?_)
  · funext e
    show uA X.1 n (fun _ => 0) e = _
    unfold uA
    by_cases h : e = n
    · rw [if_pos h, h, h1]
    · rw [if_neg h]
  · funext e
    show uA X.2.1 n (fun _ => 0) e = _
    unfold uA
    by_cases h : e = n
    · rw [if_pos h, h, h2]
    · rw [if_neg h]
  · funext e
    show uA X.2.2 n (fun _ => 0) e = _
    unfold uA
    by_cases h : e = n
    · rw [if_pos h, h, h3]
    · rw [if_neg h]
theorem okN.zr {n : Nat} {X : St} {K : St → Option St} {Q : St → Prop} (h : ZR X) (h0 : ¬ n = 0) (g : okN (K X) Q) : okN (chk (RB X n = true) (letV (zE X n) K)) Q := by
  have hb : RB X n = true := by
    unfold _root_.Jvm.Pilot.CBlameCourtLaw_law_r8381_f30dd1.RB
    rw [List.all_eq_true]
    intro e _
    rw [List.all_eq_true]
    intro k _
    exact decide_eq_true (by rw [h.1 e k]; exact Nat.zero_le _)
  unfold chk
  rw [if_pos hb]
  show okN (K (zE X n)) Q
  rw [h.2 n h0]
  exact g
theorem okN.lw {v : St} {K : St → Option St} {Q : St → Prop} (h : ∀ Y, Y = v → okN (K Y) Q) : okN (letV v K) Q := h v rfl
theorem ZR_Z0 : ZR Z0 := ⟨fun _ _ => rfl, fun _ _ => zE_id rfl rfl rfl⟩
theorem ZR_W0 : ZR (_root_.Jvm.Pilot.CBlameCourtLaw_law_r8381_f30dd1.wI (_root_.Jvm.Pilot.CBlameCourtLaw_law_r8381_f30dd1.wI Z0 0 11 (-1)) 0 12 (-1)) := ⟨fun _ _ => rfl, fun n hn => zE_id (by
  funext k
  rw [wI_ne _ _ _ _ _ _ (fun q => hn q.1), wI_ne _ _ _ _ _ _ (fun q => hn q.1)]
  rfl) rfl rfl⟩
theorem W0_at {k : Nat} (h1 : ¬ k = 11) (h2 : ¬ k = 12) : ((_root_.Jvm.Pilot.CBlameCourtLaw_law_r8381_f30dd1.wI (_root_.Jvm.Pilot.CBlameCourtLaw_law_r8381_f30dd1.wI Z0 0 11 (-1)) 0 12 (-1)).1 0 k).toInt = 0 := by
  rw [wI_ne _ _ _ _ _ _ (fun q => h2 q.2), wI_ne _ _ _ _ _ _ (fun q => h1 q.2)]
  rfl
set_option maxHeartbeats 4000000 in
set_option maxRecDepth 100000 in
/-- the reference as it is made -/
theorem ctor_R_ok : okN (ctor_R Z0) (fun X => JM X ∧ (X.1 0 0).toInt = 0) := by
  unfold ctor_R
  refine okN.zr ZR_Z0 (by decide) ?_
  refine okN.zr ZR_Z0 (by decide) ?_
  refine okN.zr ZR_Z0 (by decide) ?_
  refine okN.lw (fun Y1 hY1 => ?_)
  refine okN.lw (fun W hW => ?_)
  have hz : ZR W := by
    rw [hW, hY1]
    exact ZR_W0
  have hc : ∀ k : Nat, ¬ k = 11 → ¬ k = 12 → (W.1 0 k).toInt = 0 := fun k a b => by
    rw [hW, hY1]
    exact W0_at a b
  clear hW hY1 Y1
  refine okN.zr hz (by decide) ?_
  refine okN.zr hz (by decide) ?_
  refine okN.zr hz (by decide) ?_
  refine okN.zr hz (by decide) ?_
  refine okN.zr hz (by decide) ?_
  refine okN.zr hz (by decide) ?_
  refine okN.zr hz (by decide) ?_
  refine okN.zr hz (by decide) ?_
  refine okN.zr hz (by decide) ?_
  refine okN.zr hz (by decide) ?_
  refine okN.zr hz (by decide) ?_
  refine okN.zr hz (by decide) ?_
  refine okN.zr hz (by decide) ?_
  refine okN.zr hz (by decide) ?_
  refine okN.zr hz (by decide) ?_
  refine okN.zr hz (by decide) ?_
  refine okN.zr hz (by decide) ?_
  refine okN.zr hz (by decide) ?_
  refine okN.zr hz (by decide) ?_
  refine okN.zr hz (by decide) ?_
  refine okN.zr hz (by decide) ?_
  refine okN.zr hz (by decide) ?_
  refine okN.zr hz (by decide) ?_
  refine okN.zr hz (by decide) ?_
  refine okN.zr hz (by decide) ?_
  refine okN.zr hz (by decide) ?_
  refine okN.zr hz (by decide) ?_
  refine okN.zr hz (by decide) ?_
  refine okN.zr hz (by decide) ?_
  refine okN.zr hz (by decide) ?_
  refine okN.zr hz (by decide) ?_
  refine okN.zr hz (by decide) ?_
  refine okN.zr hz (by decide) ?_
  refine okN.zr hz (by decide) ?_
  refine okN.zr hz (by decide) ?_
  refine okN.zr hz (by decide) ?_
  refine okN.zr hz (by decide) ?_
  refine okN.zr hz (by decide) ?_
  refine okN.zr hz (by decide) ?_
  refine okN.zr hz (by decide) ?_
  refine okN.zr hz (by decide) ?_
  refine okN.zr hz (by decide) ?_
  refine okN.zr hz (by decide) ?_
  refine okN.zr hz (by decide) ?_
  refine okN.zr hz (by decide) ?_
  refine okN.zr hz (by decide) ?_
  refine okN.zr hz (by decide) ?_
  refine okN.zr hz (by decide) ?_
  refine okN.zr hz (by decide) ?_
  refine okN.zr hz (by decide) ?_
  refine okN.zr hz (by decide) ?_
  refine okN.zr hz (by decide) ?_
  refine okN.zr hz (by decide) ?_
  refine okN.zr hz (by decide) ?_
  refine okN.zr hz (by decide) ?_
  refine okN.zr hz (by decide) ?_
  refine okN.zr hz (by decide) ?_
  refine okN.zr hz (by decide) ?_
  refine okN.zr hz (by decide) ?_
  refine okN.zr hz (by decide) ?_
  refine okN.zr hz (by decide) ?_
  refine okN.zr hz (by decide) ?_
  refine okN.zr hz (by decide) ?_
  refine okN.zr hz (by decide) ?_
  refine okN.zr hz (by decide) ?_
  refine okN.zr hz (by decide) ?_
  refine okN.zr hz (by decide) ?_
  refine okN.zr hz (by decide) ?_
  refine okN.zr hz (by decide) ?_
  refine okN.zr hz (by decide) ?_
  refine okN.zr hz (by decide) ?_
  refine okN.zr hz (by decide) ?_
  refine okN.zr hz (by decide) ?_
  refine okN.zr hz (by decide) ?_
  refine okN.zr hz (by decide) ?_
  refine okN.zr hz (by decide) ?_
  refine okN.zr hz (by decide) ?_
  refine okN.zr hz (by decide) ?_
  obtain ⟨r, X1, X1t, e, -, hF, -⟩ := t_f_kinds0 W W ⟨fun _ _ _ => rfl, fun _ _ _ => rfl⟩
  have c0 : (X1.1 0 0).toInt = 0 := (congrArg Int32.toInt (hF.1 0 0 (show (0 : Nat) ∉ [13, 15, 800, 1000, 1200, 1400, 1600, 1800] from by decide))).trans (hc 0 (by decide) (by decide))
  have c1 : (X1.1 0 1).toInt = 0 := (congrArg Int32.toInt (hF.1 0 1 (show (1 : Nat) ∉ [13, 15, 800, 1000, 1200, 1400, 1600, 1800] from by decide))).trans (hc 1 (by decide) (by decide))
  have c2 : (X1.1 0 2).toInt = 0 := (congrArg Int32.toInt (hF.1 0 2 (show (2 : Nat) ∉ [13, 15, 800, 1000, 1200, 1400, 1600, 1800] from by decide))).trans (hc 2 (by decide) (by decide))
  have c3 : (X1.1 0 3).toInt = 0 := (congrArg Int32.toInt (hF.1 0 3 (show (3 : Nat) ∉ [13, 15, 800, 1000, 1200, 1400, 1600, 1800] from by decide))).trans (hc 3 (by decide) (by decide))
  have c4 : (X1.1 0 4).toInt = 0 := (congrArg Int32.toInt (hF.1 0 4 (show (4 : Nat) ∉ [13, 15, 800, 1000, 1200, 1400, 1600, 1800] from by decide))).trans (hc 4 (by decide) (by decide))
  have c28 : (X1.1 0 28).toInt = 0 := (congrArg Int32.toInt (hF.1 0 28 (show (28 : Nat) ∉ [13, 15, 800, 1000, 1200, 1400, 1600, 1800] from by decide))).trans (hc 28 (by decide) (by decide))
  have c41 : (X1.1 0 41).toInt = 0 := (congrArg Int32.toInt (hF.1 0 41 (show (41 : Nat) ∉ [13, 15, 800, 1000, 1200, 1400, 1600, 1800] from by decide))).trans (hc 41 (by decide) (by decide))
  have hJ : JM X1 ∧ (X1.1 0 0).toInt = 0 := ⟨⟨⟨⟨by omega, by omega⟩, ⟨by omega, by omega⟩, ⟨by omega, by omega⟩, by omega, by omega⟩, fun q => absurd c3 q, fun _ => ⟨c4, c41⟩, fun q => absurd c4 q, fun q => absurd c41 q⟩, c0⟩
  unfold bnd
  rw [e]
  exact okN.ret hJ
theorem both {A B : Option (Int32 × St)} {Q R : Int32 → St → Prop} {S : Int32 → St → Int32 → St → Prop} (hA : ok A Q) (hB : ok B R) (h : ∀ r X r1 X1, Q r X → R r1 X1 → S r X r1 X1) : ∃ r XC1 r1 XR1, A = some (r, XC1) ∧ B = some (r1, XR1) ∧ S r XC1 r1 XR1 := by
  obtain ⟨r, X, e, q⟩ := hA
  obtain ⟨r1, X1, e1, q1⟩ := hB
  exact ⟨r, X, r1, X1, e, e1, h r X r1 X1 q q1⟩
