/-! what both sides count in a run, and how it ends -/
def SCr (X Y : St) : Prop := (Y.1 70 7 = X.1 0 45 ∧ Y.1 70 9 = X.1 0 40 ∧ Y.1 70 8 = X.1 0 39 ∧ Y.1 70 18 = X.1 0 46) ∧ (Y.1 71 0 = X.1 0 35 ∧ Y.1 71 2 = X.1 0 36) ∧ (∀ i : Nat, (i : Int) < (X.1 0 46).toInt → Y.1 86 i = X.1 79 i) ∧ ∀ g t : Nat, g < 40 → t < 40 → Y.1 87 (40 * g + t) = X.1 80 (41 * g + t)
/-- the run goes on -/
def ONr (X Y : St) : Prop := ((X.1 0 43).toInt < 0 ∧ (X.1 0 44).toInt = -1) ∧ ¬ (Y.1 70 4).toInt = 0 ∧ (Y.1 70 5).toInt = 0 ∧ (Y.1 70 6).toInt = -1
/-- it has failed -/
def OFr (X Y : St) : Prop := 0 < (X.1 0 43).toInt ∧ (Y.1 70 4).toInt = 0 ∧ Y.1 70 5 = X.1 0 43 ∧ Y.1 70 6 = X.1 0 44
/-- kinds on both sides -/
def RBk (e : Nat) (X Y : St) (ks : List (List Int)) : Prop := (e = 2 ∨ e = 24) ∧ (KJq X ∧ KU X) ∧ (TKS (e + 1) Y ks ∧ K9 <+: ks) ∧ Y.2.2 70 2 = e + 1
/-- what an asking leaves -/
def XF (X X1 : St) (c : Nat) : Prop := ∀ e k, (e = 0 → k < 100) → ¬ (e = 0 ∧ (k = 13 ∨ k = 15 ∨ k = 33 ∨ k = 36 ∨ k = 37 ∨ k = 43 ∨ k = 44 ∨ k = 45)) → ¬ (4 ≤ e ∧ e ≤ 10) → ¬ (e = 61 ∧ k = c) → ¬ e = 64 → ¬ (67 ≤ e ∧ e ≤ 73) → ¬ (e = 76 ∨ e = 80) → X1.1 e k = X.1 e k
def CF (Y Y1 : St) : Prop := Y1.2.2 = Y.2.2 ∧ (∀ j k, ¬ (j = 70 ∧ (4 ≤ k ∧ k ≤ 7)) → ¬ (j = 71 ∧ k = 2) → ¬ (76 ≤ j ∧ j ≤ 81) → ¬ j = 87 → Y1.1 j k = Y.1 j k) ∧ ∀ j k, ¬ j = 75 → Y1.2.1 j k = Y.2.1 j k
def ASQ (X Y : St) (r : Nat → Int32) (ks : List (List Int)) (c : Nat) (y1 : Int64) (X1 Y1 : St) : Prop := (XF X X1 c ∧ CF Y Y1) ∧ (KJq X1 ∧ KU X1 ∧ KXq X X1) ∧ SCr X1 Y1 ∧ (OFr X1 Y1 ∨ (ONr X1 Y1 ∧ ∃ r1, HG X X1 r r1 ∧ HR X1 Y1 r1 ks ∧ VR X1 r1 (X1.1 60 c) (X1.1 61 c) y1))
section SCS
variable {X Y Z X1 Y1 X2 Y2 : St} {r r1 r2 : Nat → Int32} {s w k k1 a b p g t p1 p2 : Int32} {y y1 : Int64} {ks : List (List Int)} {e c m n : Nat} {d d1 : List Int}
theorem SCr.cg (h : SCr X Y) (hx : (∀ k, k = 35 ∨ k = 36 ∨ k = 39 ∨ k = 40 ∨ k = 45 ∨ k = 46 → X1.1 0 k = X.1 0 k) ∧ (∀ k, X1.1 79 k = X.1 79 k) ∧ ∀ k, X1.1 80 k = X.1 80 k) (hy : (∀ k, k = 7 ∨ k = 8 ∨ k = 9 ∨ k = 18 → Y1.1 70 k = Y.1 70 k) ∧ (∀ k, k = 0 ∨ k = 2 → Y1.1 71 k = Y.1 71 k) ∧ (∀ k, Y1.1 86 k = Y.1 86 k) ∧ ∀ k, Y1.1 87 k = Y.1 87 k) : SCr X1 Y1 := by
  obtain ⟨⟨a1, a2, a3, a4⟩, ⟨b1, b2⟩, c1, c2⟩ := h
  obtain ⟨x1, x2, x3⟩ := hx
  obtain ⟨y1, y2, y3, y4⟩ := hy
  unfold SCr
  rw [x1 45 (by omega), x1 40 (by omega), x1 39 (by omega), x1 46 (by omega), x1 35 (by omega), x1 36 (by omega), y1 7 (by omega), y1 9 (by omega), y1 8 (by omega), y1 18 (by omega), y2 0 (by omega), y2 2 (by omega)]
  exact ⟨⟨a1, a2, a3, a4⟩, ⟨b1, b2⟩, fun i hi => by rw [y3, x2]; exact c1 i hi, fun g t hg ht => by rw [y4, x3]; exact c2 g t hg ht⟩
theorem ONr.cg (h : ONr X Y) (x1 : X1.1 0 43 = X.1 0 43) (x2 : X1.1 0 44 = X.1 0 44) (hy : ∀ k, 4 ≤ k ∧ k ≤ 6 → Y1.1 70 k = Y.1 70 k) : ONr X1 Y1 := by
  unfold ONr
  rw [x1, x2, hy 4 (by omega), hy 5 (by omega), hy 6 (by omega)]
  exact h
theorem XF.rf : XF X X c := fun _ _ _ _ _ _ _ _ _ => rfl
theorem XF.tr (h : XF X X1 c) (g : XF X1 X2 c) : XF X X2 c := fun e k a b d f i j l => (g e k a b d f i j l).trans (h e k a b d f i j l)
theorem CF.rf : CF Y Y := ⟨rfl, fun _ _ _ _ _ _ => rfl, fun _ _ _ => rfl⟩
theorem CF.tr (h : CF Y Y1) (g : CF Y1 Y2) : CF Y Y2 := ⟨g.1.trans h.1, fun j k a b d f => (g.2.1 j k a b d f).trans (h.2.1 j k a b d f), fun j k a => (g.2.2 j k a).trans (h.2.2 j k a)⟩
theorem RBk.cf (h : RBk e X Y ks) (hx : KJq X1 ∧ KU X1) (g : CF Y Y1) : RBk e X1 Y1 ks := by
  obtain ⟨a1, a2, ⟨a3, a4⟩, a5⟩ := h
  exact ⟨a1, hx, ⟨a3.cg (fun i k q1 q2 _ => g.2.1 i k (by omega) (by omega) (by omega) (by omega)), a4⟩, by rw [g.1]; exact a5⟩
/-- what an asking leaves in two steps -/
theorem ASQ.pre (hF : XF X X1 c) (hC : CF Y Y1) (hK : KXq X X1) (hG : HG X X1 r r1) (h : ASQ X1 Y1 r1 ks c y1 X2 Y2) : ASQ X Y r ks c y1 X2 Y2 := by
  obtain ⟨⟨a1, a2⟩, ⟨a3, a4, a5⟩, a6, a7⟩ := h
  refine ⟨⟨hF.tr a1, hC.tr a2⟩, ⟨a3, a4, hK.tr a5⟩, a6, ?_⟩
  rcases a7 with a7 | ⟨b1, r2, b2, b3, b4⟩
  · exact Or.inl a7
  · exact Or.inr ⟨b1, r2, hG.tr b2, b3, b4⟩
/-- nothing is to be done -/
theorem ASQ.id (hB : RBk e X Y ks) (hS : SCr X Y) (hO : ONr X Y) (hH : HR X Y r ks) (hv : VR X r (X.1 60 c) (X.1 61 c) y) : ASQ X Y r ks c y X Y := ⟨⟨XF.rf, CF.rf⟩, ⟨hB.2.1.1, hB.2.1.2, KXq.rf⟩, hS, Or.inr ⟨hO, r, HG.rf, hH, hv⟩⟩
theorem n_ends (h : ONr X Y) : pw (f_ends p1 p2 X) (fun _ X1 => X1 = wI (wI X 0 43 p1) 0 44 p2) := by
  unfold f_ends
  exact pw_let (pw_neg (by have := h.1.1; omega) (pw_eq (fun X2 e2 => pw_eq (fun X3 e3 => pw_ret (by rw [e3, e2])))))
theorem n_endsO (h : OFr X Y) : pw (f_ends p1 p2 X) (fun _ X1 => X1 = X) := by
  unfold f_ends
  exact pw_let (pw_pos (by have := h.1; omega) (pw_ret rfl))
theorem l_failW (h : ONr X Y) : pw (g_Running_failWith p1 p2 Y) (fun _ Y1 => Y1 = wI (wI (wI Y 70 4 0) 70 5 p1) 70 6 p2) := by
  unfold g_Running_failWith
  exact pw_let (pw_neg h.2.1 (pw_eq (fun X2 e2 => pw_eq (fun X3 e3 => pw_eq (fun X4 e4 => pw_ret (by rw [e4, e3, e2]))))))
theorem l_failO (h : OFr X Y) : pw (g_Running_failWith p1 p2 Y) (fun _ Y1 => Y1 = Y) := by
  unfold g_Running_failWith
  exact pw_let (pw_pos h.2.1 (pw_ret rfl))
theorem n_isOn1 (h : ONr X Y) : pw (f_isOn X) (fun z X1 => X1 = X ∧ z = 1) := by
  unfold f_isOn
  exact pw_let (pw_neg (by have := h.1.1; omega) (pw_ret ⟨rfl, rfl⟩))
theorem n_isOn0 (h : OFr X Y) : pw (f_isOn X) (fun z X1 => X1 = X ∧ z = 0) := by
  unfold f_isOn
  exact pw_let (pw_pos (by have := h.1; omega) (pw_ret ⟨rfl, rfl⟩))
/-- both fail at the same place -/
theorem OFr.of (hS : SCr X Y) (hp : 0 < p1.toInt) : OFr (wI (wI X 0 43 p1) 0 44 p2) (wI (wI (wI Y 70 4 0) 70 5 p1) 70 6 p2) ∧ SCr (wI (wI X 0 43 p1) 0 44 p2) (wI (wI (wI Y 70 4 0) 70 5 p1) 70 6 p2) := by
  refine ⟨⟨?_, ?_, ?_, ?_⟩, hS.cg ⟨fun k hk => ?_, fun k => ?_, fun k => ?_⟩ ⟨fun k hk => ?_, fun k hk => ?_, fun k => ?_, fun k => ?_⟩⟩
  · rw [wI_ne _ _ _ _ _ _ (by omega), wI_at]; exact hp
  · rw [wI_ne _ _ _ _ _ _ (by omega), wI_ne _ _ _ _ _ _ (by omega), wI_at]; decide
  · rw [wI_ne _ _ _ _ _ _ (by omega), wI_at, wI_ne _ _ _ _ _ _ (by omega), wI_at]
  · rw [wI_at, wI_at]
  · rw [wI_ne _ _ _ _ _ _ (by omega), wI_ne _ _ _ _ _ _ (by omega)]
  · rw [wI_ne _ _ _ _ _ _ (by omega), wI_ne _ _ _ _ _ _ (by omega)]
  · rw [wI_ne _ _ _ _ _ _ (by omega), wI_ne _ _ _ _ _ _ (by omega)]
  · rw [wI_ne _ _ _ _ _ _ (by omega), wI_ne _ _ _ _ _ _ (by omega), wI_ne _ _ _ _ _ _ (by omega)]
  · rw [wI_ne _ _ _ _ _ _ (by omega), wI_ne _ _ _ _ _ _ (by omega), wI_ne _ _ _ _ _ _ (by omega)]
  · rw [wI_ne _ _ _ _ _ _ (by omega), wI_ne _ _ _ _ _ _ (by omega), wI_ne _ _ _ _ _ _ (by omega)]
  · rw [wI_ne _ _ _ _ _ _ (by omega), wI_ne _ _ _ _ _ _ (by omega), wI_ne _ _ _ _ _ _ (by omega)]
theorem ASQ.off (hB : RBk e X Y ks) (hS : SCr X Y) (hp : 0 < p1.toInt) : ASQ X Y r ks c y1 (wI (wI X 0 43 p1) 0 44 p2) (wI (wI (wI Y 70 4 0) 70 5 p1) 70 6 p2) := by
  have o := OFr.of (p2 := p2) hS hp
  have rx : ∀ e k, ¬ (e = 0 ∧ (k = 43 ∨ k = 44)) → (wI (wI X 0 43 p1) 0 44 p2).1 e k = X.1 e k := fun e k z => by rw [wI_ne _ _ _ _ _ _ (by omega), wI_ne _ _ _ _ _ _ (by omega)]
  refine ⟨⟨fun e k _ q2 _ _ _ _ _ => rx e k (by omega), rfl, fun j k q1 _ _ _ => ?_, fun _ _ _ => rfl⟩, ⟨hB.2.1.1.cg (fun e k q => rx e k (by omega)), (KGq.of (fun e k q => rx e k (by omega))).2 hB.2.1.2, KXq.of (fun e k q => rx e k (by omega))⟩, o.2, Or.inl o.1⟩
  rw [wI_ne _ _ _ _ _ _ (by omega), wI_ne _ _ _ _ _ _ (by omega), wI_ne _ _ _ _ _ _ (by omega)]
end SCS
