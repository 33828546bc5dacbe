/-! an order that asks, in a run that wraps nothing: both sides -/
/-- what is asked of the value on top -/
def GDU (X : St) (t0 K : Nat) (n1 : Int32) : Prop := (K = 5 → (X.1 60 t0).toInt = 0) ∧ (K = 6 → (X.1 60 t0).toInt = 1) ∧ (K = 8 ∨ K = 9 → (X.1 60 t0).toInt = 3) ∧ (K = 7 → (X.1 60 t0).toInt = 4 ∧ (X.1 15 (ix (X.1 61 t0))).toInt = (X.1 27 (ix n1)).toInt)
/-- which instruction stands for which order -/
def OPK (a K : Int) : Prop := (a = 27 ∧ K = 5) ∨ (a = 28 ∧ K = 6) ∨ (a = 29 ∧ (K = 8 ∨ K = 9)) ∨ ((a = 30 ∨ a = 31) ∧ K = 7) ∨ (32 ≤ a ∧ ((10 ≤ K ∧ K ≤ 12) ∨ K = 14 ∨ K = 30))
section GAUS
variable {X Y Z X1 Y1 X2 Y2 : St} {r r1 r2 : Nat → Int32} {s w k a b p p1 p2 p3 v pl o1 n1 x sv op xx cc : Int32} {y y1 y2 : Int64} {ks : List (List Int)} {e c m n i j sb tp t0 nn nn1 o jx K : Nat} {G : Nat → Int32}
theorem vr_u (hP : HP true X G) (hv : VR X r s w y) (h4 : s.toInt = 4 → FV X w) : ∃ cc, y = VLs s cc ∧ (s.toInt = 4 → cc = w ∧ 0 ≤ w.toInt ∧ w.toInt < (X.1 0 18).toInt) := by
  have nw : ∀ t : Nat, (t : Int) < (X.1 0 33).toInt → ¬ wrp X t := fun t ht q => Bool.noConfusion ((hP.2 t ht).2 q).1
  rcases hv with ⟨v1, v2⟩ | ⟨v1, v2, v3⟩ | v
  · exact ⟨w, v2, fun q => by omega⟩
  · have e3 : s = 3 := Int32.toInt_inj.mp (by rw [v1]; decide)
    have ew := ixc v2.1
    refine ⟨r (ix w), ?_, fun q => by omega⟩
    rw [v3, e3]
    exact if_pos (Classical.byContradiction (fun q => nw (ix w) (by omega) q))
  · have s4 := v.1
    have hv' : VR X r s w y := Or.inr (Or.inr v)
    have hw := hv'.to4 s4
    have e4 : s = 4 := Int32.toInt_inj.mp (by rw [s4]; decide)
    rcases h4 s4 with ⟨a1, a2, a3⟩ | ⟨a1, a2, a3, _⟩
    · refine ⟨w, ?_, fun _ => ⟨rfl, a1, a3⟩⟩
      rw [hw.i4.1, e4]
      exact if_pos a2
    · have ew := ixc (z := w) (by omega)
      exact absurd a3 (nw _ (by omega))
theorem n_guardU (h42 : (X.1 0 42).toInt = 0) (hs : 0 ≤ s.toInt) (h31 : (X.1 0 31).toInt = (t0 : Int) + 1) {Q : St → Prop} (k1 : (X.1 60 t0).toInt = s.toInt → Q X) (k2 : ¬ (X.1 60 t0).toInt = s.toInt → pw (f_ends 4 p3 X) (fun _ V => Q V)) : pw (f_guarded p1 s p3 X) (fun _ V => Q V) := by
  have l1 : (1 : Int32).toInt = 1 := by decide
  unfold f_guarded
  refine pw_let (pw_pos h42 (pw_neg (by omega) (pw_let (pw_eq (fun x3 e3 => pw_ck (fun _ => pw_let ?_))))))
  have i3 : ix x3 = t0 := ixn (by rw [e3]; exact n_dec (q := 1) (by omega) (by rw [l1]; rfl))
  rw [i3]
  exact pw_ite (fun c => pw_ret (k1 c)) (fun c => pw_bd (k2 c) (fun _ V q => pw_ret q))
theorem n_guardU0 (h42 : (X.1 0 42).toInt = 0) (hs : s.toInt < 0) : pw (f_guarded p1 s p3 X) (fun _ V => V = X) := by
  unfold f_guarded
  exact pw_let (pw_pos h42 (pw_pos hs (pw_ret rfl)))
/-- the reference's side -/
theorem n_dgU {R : St → Prop} (ho : o1.toInt = (o : Int)) (h42 : (X.1 0 42).toInt = 0) (h31 : (X.1 0 31).toInt = (t0 : Int) + 1) (hO : ONr X Y) (hK : (X.1 40 o).toInt = (K : Int)) (hk : (5 ≤ K ∧ K ≤ 12) ∨ K = 14 ∨ K = 30) (good : GDU X t0 K n1 → R X) (bad : ∀ pl : Int32, (K = 7 ∨ K = 8 → pl = X.1 22 (ix n1)) → (K = 5 ∨ K = 6 ∨ K = 9 → pl = X.1 21 (ix n1)) → ¬ GDU X t0 K n1 → pw (f_ends 4 pl X) (fun _ X1 => R X1)) : pw (f_does o1 n1 X) (fun z X1 => z = o1 + 1 ∧ R X1) := by
  have l0 : (0 : Int32).toInt = 0 := by decide
  have l1 : (1 : Int32).toInt = 1 := by decide
  have l3 : (3 : Int32).toInt = 3 := by decide
  have l4 : (4 : Int32).toInt = 4 := by decide
  have hgo : ∀ s pl : Int32, pw (f_guarded o1 s pl X) (fun _ X1 => R X1) → pw (bnd (f_guarded o1 s pl X) fun _ X37 => letV (o1 + (1 : Int32)) fun x38 => some (x38, X37)) (fun z X1 => z = o1 + 1 ∧ R X1) := fun s pl hw => pw_bd hw (fun _ X2 e2 => pw_let (pw_ret ⟨rfl, e2⟩))
  have g0 : 10 ≤ K → pw (f_guarded o1 (-1 : Int32) (-1 : Int32) X) (fun _ X1 => R X1) := fun q => pw_mono (n_guardU0 h42 (by decide)) (fun _ V e => by rw [e]; exact good ⟨fun z => by omega, fun z => by omega, fun z => by omega, fun z => by omega⟩)
  unfold f_does
  refine pw_ck (fun _ => pw_eq (fun x1 e1 => ?_))
  have v1 : x1.toInt = (K : Int) := by rw [e1, ixn ho]; exact hK
  refine pw_neg (by omega) (pw_neg (by omega) (pw_neg (by omega) (pw_neg (by omega) (pw_neg (by omega) (pw_ite (fun c5 => pw_ck (fun _ => pw_let (hgo _ _ ?_))) (fun n5 => pw_ite (fun c6 => pw_ck (fun _ => pw_let (hgo _ _ ?_))) (fun n6 => pw_ite (fun c7 => pw_ck (fun _ => pw_let ?_)) (fun n7 => pw_ite (fun c8 => pw_ck (fun _ => pw_let (hgo _ _ ?_))) (fun n8 => pw_ite (fun c9 => pw_ck (fun _ => pw_let (hgo _ _ ?_))) (fun n9 => pw_ite (fun _ => hgo _ _ (g0 (by omega))) (fun n10 => pw_ite (fun _ => hgo _ _ (g0 (by omega))) (fun n11 => pw_ite (fun _ => hgo _ _ (g0 (by omega))) (fun n12 => pw_neg (by omega) (pw_ite (fun _ => hgo _ _ (g0 (by omega))) (fun n14 => pw_neg (by omega) (pw_neg (by omega) (pw_neg (by omega) (pw_neg (by omega) (pw_pos (by omega) (hgo _ _ (g0 (by omega))))))))))))))))))))))
  · refine n_guardU h42 (by decide) h31 (fun z => good ⟨fun _ => z.trans l0, fun z => by omega, fun z => by omega, fun z => by omega⟩) (fun z => bad _ (fun q => by omega) (fun _ => rfl) (fun g => z ((g.1 (by omega)).trans l0.symm)))
  · refine n_guardU h42 (by decide) h31 (fun z => good ⟨fun z => by omega, fun _ => z.trans l1, fun z => by omega, fun z => by omega⟩) (fun z => bad _ (fun q => by omega) (fun _ => rfl) (fun g => z ((g.2.1 (by omega)).trans l1.symm)))
  · refine pw_bd (n_guardU (Q := fun X1 => (X1 = X ∧ (X.1 60 t0).toInt = 4) ∨ ((X1.1 0 43).toInt = 4 ∧ R X1)) h42 (by decide) h31 (fun z => Or.inl ⟨rfl, z.trans l4⟩) (fun z => pw_mono (pw_and (n_ends hO) (bad _ (fun _ => rfl) (fun q => by omega) (fun g => z ((g.2.2.2 (by omega)).1.trans l4.symm)))) (fun _ V q => Or.inr ⟨by rw [q.1, wI_ne _ _ _ _ _ _ (by omega), wI_at]; exact l4, q.2⟩))) ?_
    rintro _ X45 h45
    refine pw_bd (pw_ok r_isOn) ?_
    rintro x46 X47 ⟨e47, h46⟩
    rw [← e47]
    rcases h45 with ⟨e45, s4⟩ | ⟨v43, hR⟩
    · rw [e45] at h46 ⊢
      have on := hO.1.1
      refine pw_neg (by omega) (pw_let (pw_pos h42 (pw_let (pw_eq (fun x52 e52 => pw_ck (fun _ => pw_let (pw_ck (fun _ => pw_let (pw_ck (fun _ => pw_let ?_)))))))))) 
      have i52 : ix x52 = t0 := ixn (by rw [e52]; exact n_dec (q := 1) (by omega) (by rw [l1]; rfl))
      rw [i52]
      refine pw_ite (fun z => pw_let (pw_ret ⟨rfl, good ⟨fun z => by omega, fun z => by omega, fun z => by omega, fun _ => ⟨s4, z⟩⟩⟩)) (fun z => pw_ck (fun _ => pw_let (pw_bd (bad _ (fun _ => rfl) (fun q => by omega) (fun g => z (g.2.2.2 (by omega)).2)) (fun _ V q => pw_let (pw_ret ⟨rfl, q⟩)))))
    · exact pw_pos (by omega) (pw_let (pw_ret ⟨rfl, hR⟩))
  · refine n_guardU h42 (by decide) h31 (fun z => good ⟨fun z => by omega, fun z => by omega, fun _ => z.trans l3, fun z => by omega⟩) (fun z => bad _ (fun _ => rfl) (fun q => by omega) (fun g => z ((g.2.2.1 (by omega)).trans l3.symm)))
  · refine n_guardU h42 (by decide) h31 (fun z => good ⟨fun z => by omega, fun z => by omega, fun _ => z.trans l3, fun z => by omega⟩) (fun z => bad _ (fun q => by omega) (fun _ => rfl) (fun g => z ((g.2.2.1 (by omega)).trans l3.symm)))
theorem l_sortA (h : 27 ≤ op.toInt) : pw (g_Running_sortAskedBy op Y) (fun z Y1 => Y1 = Y ∧ ((op.toInt = 27 ∧ z = 0) ∨ (op.toInt = 28 ∧ z = 1) ∨ (op.toInt = 29 ∧ z = 3) ∨ ((op.toInt = 30 ∨ op.toInt = 31) ∧ z = 4) ∨ (32 ≤ op.toInt ∧ z = -1))) := by
  unfold g_Running_sortAskedBy
  exact pw_ite (fun c => pw_ret ⟨rfl, Or.inl ⟨c, rfl⟩⟩) (fun c1 => pw_ite (fun c => pw_ret ⟨rfl, Or.inr (Or.inl ⟨c, rfl⟩)⟩) (fun c2 => pw_ite (fun c => pw_ret ⟨rfl, Or.inr (Or.inr (Or.inl ⟨c, rfl⟩))⟩) (fun c3 => pw_ite (fun c => pw_ret ⟨rfl, Or.inr (Or.inr (Or.inr (Or.inl ⟨Or.inl c, rfl⟩)))⟩) (fun c4 => pw_ite (fun c => pw_ret ⟨rfl, Or.inr (Or.inr (Or.inr (Or.inl ⟨Or.inr c, rfl⟩)))⟩) (fun c5 => pw_ret ⟨rfl, Or.inr (Or.inr (Or.inr (Or.inr ⟨by omega, rfl⟩)))⟩)))))
/-- is the value such a one? -/
theorem l_isSuchU (he : e = 2 ∨ e = 24) (hpe : Y.2.2 70 2 - 1 = e) (hM : PRm e X Y) (h4 : s.toInt = 4 → 0 ≤ cc.toInt ∧ cc.toInt < (X.1 0 18).toInt) : pw (g_Running_isSuch (VLs s cc) sv xx Y) (fun z Y1 => Y1 = Y ∧ (z.toInt = 0 ↔ ¬ (s.toInt = sv.toInt ∧ (sv.toInt = 4 → (Y.1 (e + 13) (ix cc)).toInt = xx.toInt)))) := by
  unfold g_Running_isSuch
  refine pw_bd l_hsortOf ?_
  rintro x1 X2 ⟨e2, e1⟩
  rw [e2, e1]
  refine pw_ite (fun c1 => pw_ite (fun c2 => pw_ck (fun _ => pw_to hpe (pw_bd l_contentOf ?_))) (fun c2 => pw_ret ⟨rfl, fun z => absurd z (by decide), fun z => absurd ⟨c1, fun q => absurd q c2⟩ z⟩)) (fun c1 => pw_ret ⟨rfl, fun _ z => c1 z.1, fun _ => rfl⟩)
  rintro x4 X5 ⟨e5, e4⟩
  rw [e5, e4]
  obtain ⟨a1, a2⟩ := h4 (by omega)
  refine pw_bd (l_paramsOf he hM a1 a2) ?_
  rintro x6 X7 ⟨e7, e6⟩
  rw [e7, e6]
  exact pw_ite (fun c => pw_ret ⟨rfl, fun z => absurd z (by decide), fun z => absurd ⟨c1, fun _ => c⟩ z⟩) (fun c => pw_ret ⟨rfl, fun _ z => c (z.2 c2), fun _ => rfl⟩)
/-- the class's side -/
theorem l_askU {Q : St → Prop} (he : e = 2 ∨ e = 24) (hpe : Y.2.2 70 2 - 1 = e) (h3 : (Y.1 70 3).toInt = 0) (hj : x.toInt = (jx : Int)) (hM : PRm e X Y) (ht : (Y.1 70 15).toInt = (n : Int) + 1) (hv : Y.2.1 84 n = VLs (X.1 60 t0) cc) (h4 : (X.1 60 t0).toInt = 4 → cc = X.1 61 t0 ∧ 0 ≤ (X.1 61 t0).toInt ∧ (X.1 61 t0).toInt < (X.1 0 18).toInt) (hop : OPK (Y.1 (e + 18) jx).toInt (K : Int)) (h27 : K = 7 → X.1 27 (ix n1) = Y.1 (e + 19) jx) (k1 : GDU X t0 K n1 → Q Y) (k2 : ¬ GDU X t0 K n1 → pw (g_Running_failWith 4 (Y.1 (e + 21) jx) Y) (fun _ V => Q V)) : pw (g_Running_workAsking x Y) (fun _ V => Q V) := by
  have ij : ix x = jx := ixn hj
  have l0 : (0 : Int32).toInt = 0 := by decide
  have l1 : (1 : Int32).toInt = 1 := by decide
  have l3 : (3 : Int32).toInt = 3 := by decide
  have l4 : (4 : Int32).toInt = 4 := by decide
  unfold g_Running_workAsking
  refine pw_let (pw_pos h3 (pw_ck (fun _ => pw_to hpe (pw_to (kYp he).2.1 (pw_ck (fun _ => pw_let (pw_ck (fun _ => pw_to hpe (pw_to (kYp he).2.2.1 (pw_ck (fun _ => pw_let (pw_ck (fun _ => pw_to hpe (pw_to (kYp he).2.2.2.2 (pw_ck (fun _ => pw_let (pw_bd (R := fun _ V => Q V) ?_ (fun _ V q => pw_ret q))))))))))))))))))
  rw [ij]
  unfold OPK at hop
  unfold g_Running_askUntold
  refine pw_bd (l_sortA (by omega)) ?_
  rintro x1 X2 ⟨e2, hx1⟩
  rw [e2]
  by_cases hk : 32 ≤ (Y.1 (e + 18) jx).toInt
  · have e1 : x1 = -1 := by
      rcases hx1 with ⟨q, _⟩ | ⟨q, _⟩ | ⟨q, _⟩ | ⟨q, _⟩ | ⟨_, q⟩
      · omega
      · omega
      · omega
      · omega
      · exact q
    exact pw_pos (by rw [e1]; decide) (pw_ret (k1 ⟨fun z => by omega, fun z => by omega, fun z => by omega, fun z => by omega⟩))
  · have key : ¬ x1.toInt = -1 ∧ (GDU X t0 K n1 ↔ (X.1 60 t0).toInt = x1.toInt ∧ (x1.toInt = 4 → (Y.1 (e + 13) (ix cc)).toInt = (Y.1 (e + 19) jx).toInt)) := by
      rcases hx1 with ⟨q, z⟩ | ⟨q, z⟩ | ⟨q, z⟩ | ⟨q, z⟩ | ⟨q, _⟩
      · rw [z, l0]
        exact ⟨by omega, fun g => ⟨g.1 (by omega), fun y => by omega⟩, fun g => ⟨fun _ => g.1, fun y => by omega, fun y => by omega, fun y => by omega⟩⟩
      · rw [z, l1]
        exact ⟨by omega, fun g => ⟨g.2.1 (by omega), fun y => by omega⟩, fun g => ⟨fun y => by omega, fun _ => g.1, fun y => by omega, fun y => by omega⟩⟩
      · rw [z, l3]
        exact ⟨by omega, fun g => ⟨g.2.2.1 (by omega), fun y => by omega⟩, fun g => ⟨fun y => by omega, fun y => by omega, fun _ => g.1, fun y => by omega⟩⟩
      · rw [z, l4, ← h27 (by omega)]
        have pk : (X.1 60 t0).toInt = 4 → Y.1 (e + 13) (ix cc) = X.1 15 (ix (X.1 61 t0)) := fun q4 => by
          obtain ⟨a1, a2, a3⟩ := h4 q4
          have := ixc a2
          rw [a1]
          exact hM.2.2 _ (by omega)
        exact ⟨by omega, fun g => ⟨(g.2.2.2 (by omega)).1, fun _ => by rw [pk (g.2.2.2 (by omega)).1]; exact (g.2.2.2 (by omega)).2⟩, fun g => ⟨fun y => by omega, fun y => by omega, fun y => by omega, fun _ => ⟨g.1, by rw [← pk g.1]; exact g.2 rfl⟩⟩⟩
      · omega
    refine pw_neg key.1 (pw_let (pw_neg (by omega) (pw_let (pw_eq (fun x5 e5 => pw_ck (fun _ => pw_let ?_))))))
    have i5 : ix x5 = n := ixn (by rw [e5]; exact top_dec ht)
    rw [i5, hv]
    refine pw_bd (l_isSuchU he hpe hM (fun q => by obtain ⟨a1, a2, a3⟩ := h4 q; rw [a1]; exact ⟨a2, a3⟩)) ?_
    rintro x7 X8 ⟨e8, h7⟩
    rw [e8]
    exact pw_ite (fun c7 => pw_bd (k2 (fun g => h7.mp c7 (key.2.mp g))) (fun _ V q => pw_ret q)) (fun c7 => pw_ret (k1 (key.2.mpr (Classical.byContradiction (fun z => c7 (h7.mpr z))))))
/-- both -/
theorem n_askU (h : INS e X Y r ks sb c (t0 + 1) nn) (hm : sb ≤ t0) (hM : PRm e X Y) (hP : HP true X G) (h4 : (X.1 60 t0).toInt = 4 → FV X (X.1 61 t0)) (h42 : (X.1 0 42).toInt = 0) (h3y : (Y.1 70 3).toInt = 0) (ho : o1.toInt = (o : Int)) (hj : x.toInt = (jx : Int)) (hK : (X.1 40 o).toInt = (K : Int)) (hk : (5 ≤ K ∧ K ≤ 12) ∨ K = 14 ∨ K = 30) (hop : OPK (Y.1 (e + 18) jx).toInt (K : Int)) (h27 : K = 7 → X.1 27 (ix n1) = Y.1 (e + 19) jx) (h22 : K = 7 ∨ K = 8 → X.1 22 (ix n1) = Y.1 (e + 21) jx) (h21 : K = 5 ∨ K = 6 ∨ K = 9 → X.1 21 (ix n1) = Y.1 (e + 21) jx) : pw (f_does o1 n1 X) (fun z X1 => z = o1 + 1 ∧ pw (g_Running_workAsking x Y) (fun _ Y1 => OPQ X Y r ks sb c (t0 + 1) nn X1 Y1 ∧ Y1.1 70 10 = Y.1 70 10)) := by
  have hST := h.2.2.2.2.1
  have he := h.1.1
  have h31 : (X.1 0 31).toInt = (t0 : Int) + 1 := by have := hST.1; omega
  have ht : (Y.1 70 15).toInt = ((t0 + c + 1 : Nat) : Int) + 1 := by have := hST.2.1; omega
  obtain ⟨cc, c1, c2⟩ := vr_u hP (hST.2.2.2 t0 hm (by omega)) h4
  have cls : ∀ X1 : St, (GDU X t0 K n1 → OPQ X Y r ks sb c (t0 + 1) nn X1 Y ∧ Y.1 70 10 = Y.1 70 10) → (¬ GDU X t0 K n1 → pw (g_Running_failWith 4 (Y.1 (e + 21) jx) Y) (fun _ Y1 => OPQ X Y r ks sb c (t0 + 1) nn X1 Y1 ∧ Y1.1 70 10 = Y.1 70 10)) → pw (g_Running_workAsking x Y) (fun _ Y1 => OPQ X Y r ks sb c (t0 + 1) nn X1 Y1 ∧ Y1.1 70 10 = Y.1 70 10) := fun X1 k1 k2 => l_askU (Q := fun Y1 => OPQ X Y r ks sb c (t0 + 1) nn X1 Y1 ∧ Y1.1 70 10 = Y.1 70 10) he h.1.pe h3y hj hM ht c1 c2 hop h27 k1 k2
  refine n_dgU (R := fun X1 => pw (g_Running_workAsking x Y) (fun _ Y1 => OPQ X Y r ks sb c (t0 + 1) nn X1 Y1 ∧ Y1.1 70 10 = Y.1 70 10)) (t0 := t0) (Y := Y) ho h42 h31 h.2.2.1 hK hk (fun g => cls X (fun _ => ⟨OPQ.id h, rfl⟩) (fun ng => absurd g ng)) (fun pl p22 p21 ng => ?_)
  by_cases hk2 : K = 5 ∨ K = 6 ∨ K = 7 ∨ K = 8 ∨ K = 9
  · have epl : pl = Y.1 (e + 21) jx := by
      by_cases q : K = 7 ∨ K = 8
      · exact (p22 q).trans (h22 q)
      · exact (p21 (by omega)).trans (h21 (by omega))
    rw [epl]
    exact pw_mono (OPQ.fail h (fun _ _ _ => rfl) (TOPq.rf ht) (by decide)) (fun _ X1 hf => cls X1 (fun g => absurd g ng) (fun _ => hf))
  · exact absurd ⟨fun z => by omega, fun z => by omega, fun z => by omega, fun z => by omega⟩ ng
end GAUS
