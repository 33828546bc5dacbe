/-! a guard asks: both sides -/
/-- the guard at the reference's order o and at the class's place jx -/
def GNo (e : Nat) (ks : List (List Int)) (X Y : St) (o jx : Nat) : Prop := ((X.1 43 o).toInt < 0 ∧ (Y.1 (e + 20) jx).toInt < 0) ∨ ∃ (g : Nat) (d d1 : List Int), (X.1 43 o).toInt = (g : Int) ∧ (Y.1 (e + 20) jx).toInt = (g : Int) ∧ (g : Int) < (Y.1 55 5).toInt ∧ (KR X ks (X.1 53 g) (Y.1 59 g) d ∧ KR X ks (X.1 54 g) (Y.1 60 g) d1) ∧ (Y.1 57 g = X.1 55 g ∧ Y.1 58 g = X.1 56 g ∧ Y.1 56 g = X.1 52 g) ∧ (0 ≤ (X.1 55 g).toInt ∧ (X.1 55 g).toInt ≤ 39) ∧ 0 ≤ (X.1 56 g).toInt ∧ (X.1 56 g).toInt ≤ 39
section GUAS
variable {X Y Z X1 Y1 X2 Y2 : St} {r r1 r2 : Nat → Int32} {s w k a b p p1 p2 p3 v pl o1 n1 x : Int32} {y y1 y2 : Int64} {ks : List (List Int)} {e c m n i j sb tp t0 nn nn1 o jx : Nat} {G : Nat → Int32}
theorem OPQ.id (h : INS e X Y r ks sb c tp nn) : OPQ X Y r ks sb c tp nn X Y := OPQ.pure0 h (fun _ _ _ _ => rfl) (fun _ _ _ => rfl) rfl (fun _ _ _ _ => rfl) h.2.2.2.2.1 h.2.2.2.2.2
set_option maxHeartbeats 4000000 in
theorem n_guard (h : INS e X Y r ks sb c (t0 + 1) nn) (hm : sb ≤ t0) (hn : t0 + c + 1 < 20002) (hM : PRm e X Y) (hP : HP false X G) (hT : KT X) (h42 : ¬ (X.1 0 42).toInt = 0) (h3y : ¬ (Y.1 70 3).toInt = 0) (ho : p1.toInt = (o : Int)) (hj : x.toInt = (jx : Int)) (hgd : GNo e ks X Y o jx) (hvv : ∀ g : Nat, (X.1 43 o).toInt = (g : Int) → VV false X G (X.1 53 g) (X.1 60 t0) (X.1 61 t0) ∧ FIT X (X.1 53 g) (X.1 54 g)) : pw (f_guarded p1 p2 p3 X) (fun _ X1 => pw (g_Running_workAsking x Y) (fun _ Y1 => OPQ X Y r ks sb c (t0 + 1) nn X1 Y1 ∧ Y1.1 70 10 = Y.1 70 10)) := by
  have hK := h.2.2.2.2.1
  have hB := h.1
  have he := hB.1
  have l1 : (1 : Int32).toInt = 1 := by decide
  have io : ix p1 = o := ixn ho
  have ij : ix x = jx := ixn hj
  unfold f_guarded
  refine pw_let (pw_neg h42 (pw_ck (fun _ => pw_let ?_)))
  rw [io]
  have cls : ∀ (Q : St → Prop), ((Y.1 (e + 20) jx).toInt < 0 → Q Y) → (∀ g : Nat, (Y.1 (e + 20) jx).toInt = (g : Int) → (g : Int) < (Y.1 55 5).toInt → ∀ Y7, TOPq Y Y7 (t0 + c + 1) → pw (g_Running_ask (Y.2.1 84 (t0 + c + 1)) (Y.1 59 g) (Y.1 60 g) (Y.1 57 g) (Y.1 58 g) (Y.1 56 g) Y7) (fun y13 X14 => pw (g_Running_push y13 X14) (fun _ V => Q V))) → (0 ≤ (Y.1 (e + 20) jx).toInt → (Y.1 (e + 20) jx).toInt < (Y.1 55 5).toInt) → pw (g_Running_workAsking x Y) (fun _ V => Q V) := by
    intro Q k1 k2 k3
    unfold g_Running_workAsking
    refine pw_let (pw_neg h3y (pw_ck (fun _ => pw_to hB.pe (pw_to (kYp he).2.2.2.1 (pw_ck (fun _ => pw_let ?_))))))
    rw [ij]
    refine pw_ite (fun g => pw_ret (k1 g)) (fun g => pw_ck (fun _ => pw_let (pw_neg (by omega) ?_)))
    obtain ⟨gn, hgn⟩ : ∃ gn : Nat, (Y.1 (e + 20) jx).toInt = (gn : Int) := ⟨(Y.1 (e + 20) jx).toInt.toNat, by omega⟩
    have ig : ix (Y.1 (e + 20) jx) = gn := ixn hgn
    refine pw_bd (l_pop2 (TOPq.rf (n := t0 + c + 1 + 1) (by have := hK.2.1; omega))) ?_
    rintro y6 Y7 ⟨hT7, e6⟩
    rw [e6]
    refine pw_ck (fun _ => pw_ck (fun _ => pw_to (show Y7.1 59 (ix (Y.1 (e + 20) jx)) = Y.1 59 gn by rw [ig]; exact hT7.2.1 59 gn (by omega)) (pw_ck (fun _ => pw_ck (fun _ => pw_to (show Y7.1 60 (ix (Y.1 (e + 20) jx)) = Y.1 60 gn by rw [ig]; exact hT7.2.1 60 gn (by omega)) (pw_ck (fun _ => pw_ck (fun _ => pw_to (show Y7.1 57 (ix (Y.1 (e + 20) jx)) = Y.1 57 gn by rw [ig]; exact hT7.2.1 57 gn (by omega)) (pw_ck (fun _ => pw_ck (fun _ => pw_to (show Y7.1 58 (ix (Y.1 (e + 20) jx)) = Y.1 58 gn by rw [ig]; exact hT7.2.1 58 gn (by omega)) (pw_ck (fun _ => pw_ck (fun _ => pw_to (show Y7.1 56 (ix (Y.1 (e + 20) jx)) = Y.1 56 gn by rw [ig]; exact hT7.2.1 56 gn (by omega)) ?_))))))))))))))
    refine pw_bd (k2 gn hgn (by have := k3 (by omega); omega) Y7 hT7) ?_
    intro y13 X14 h14
    exact pw_bd h14 (fun _ V q => pw_ret q)
  rcases hgd with ⟨g1, g2⟩ | ⟨g, d, d1, g1, g2, g3, ⟨kd, kd1⟩, ⟨g4, g5, g6⟩, g7, g8⟩
  · exact pw_pos g1 (pw_ret (cls _ (fun _ => ⟨OPQ.id h, rfl⟩) (fun g z _ => absurd z (by omega)) (fun z => absurd z (by omega))))
  · have ig : ix (X.1 43 o) = g := ixn g1
    refine pw_neg (by omega) (pw_let (pw_eq (fun x8 e8 => pw_ck (fun _ => pw_let (pw_ck (fun _ => pw_let (pw_ck (fun _ => pw_let (pw_ck (fun _ => pw_let (pw_ck (fun _ => pw_let ?_))))))))))))
    rw [ig]
    have i8 : ix x8 = t0 := ixn (by rw [e8]; exact n_dec (q := 1) (by have := hK.1; omega) (by rw [l1]; rfl))
    obtain ⟨hv, hfit⟩ := hvv g g1
    have hty := vv_ty hv kd.1
    have key : ∀ Y7 : St, TOPq Y Y7 (t0 + c + 1) → pw (f_asks x8 (X.1 53 g) (X.1 54 g) (X.1 55 g) (X.1 56 g) (X.1 52 g) X) (fun _ X1 => pw (g_Running_ask (Y.2.1 84 (t0 + c + 1)) (Y.1 59 g) (Y.1 60 g) (X.1 55 g) (X.1 56 g) (X.1 52 g) Y7) (fun y1 Y1 => ASQ X Y7 r ks t0 y1 X1 Y1)) := by
      intro Y7 hT7
      have hB7 : RBk e X Y7 ks := hB.by (fun _ _ _ _ => rfl) (fun j k z => hT7.2.1 j k (by omega)) hT7.2.2
      have hM7 : PRm e X Y7 := hM.by he (fun _ _ _ _ => rfl) (fun j k z => hT7.2.1 j k (by omega))
      have hS7 : SCr X Y7 := h.2.1.cg ⟨fun _ _ => rfl, fun _ => rfl, fun _ => rfl⟩ ⟨fun k q => hT7.2.1 70 k (by omega), fun k q => hT7.2.1 71 k (by omega), fun k => hT7.2.1 86 k (by omega), fun k => hT7.2.1 87 k (by omega)⟩
      have hO7 : ONr X Y7 := h.2.2.1.cg rfl rfl (fun k _ => hT7.2.1 70 k (by omega))
      have hH7 : HR X Y7 r ks := h.2.2.2.1.cg hB.2.1.1 KXq.rf ⟨fun _ _ => rfl, fun _ _ _ => rfl⟩ ⟨fun e k q => hT7.2.1 e k (by omega), fun e k _ => by rw [hT7.2.2]⟩
      exact n_ask (e := e) (c := t0) ⟨hB7, hS7, hO7, hH7, hK.2.2.2 t0 hm (by omega)⟩ hM7 hP hT hty.2.2.1 hty.2.2.2 i8 kd kd1 ⟨hty.1, hty.2.1⟩ (fit_of hB7 hfit kd kd1) g7 g8
    refine pw_bd (pw_all (Q := fun (Y7 : St) _ X1 => TOPq Y Y7 (t0 + c + 1) → pw (g_Running_ask (Y.2.1 84 (t0 + c + 1)) (Y.1 59 g) (Y.1 60 g) (X.1 55 g) (X.1 56 g) (X.1 52 g) Y7) (fun y1 Y1 => ASQ X Y7 r ks t0 y1 X1 Y1)) (fun Y7 => pw_im (fun hT7 => key Y7 hT7))) (fun _ X1 hall => pw_ret ?_)
    refine cls _ (fun z => absurd z (by omega)) (fun g' z1 _ Y7 hT7 => ?_) (fun _ => by omega)
    have eg : g' = g := by omega
    rw [eg, g4, g5, g6]
    refine pw_mono (hall Y7 hT7) (fun y1 V1 hA => ?_)
    have hTV : TOPq V1 V1 (t0 + c + 1) := TOPq.rf (by rw [hA.1.2.2.1 70 15 (by omega) (by omega) (by omega) (by omega)]; exact hT7.1)
    exact pw_mono (l_push2 hTV hn) (fun _ V2 hp => ASQ.opq (m := 1) h hm (fun _ _ _ _ _ => rfl) (by have := hK.1; omega) (fun j k q _ => hT7.2.1 j k q) hT7.2.2 hA hp)
/-- an order that asks -/
theorem n_dg {R : St → Prop} (ho : o1.toInt = (o : Int)) (hK : (5 ≤ (X.1 40 o).toInt ∧ (X.1 40 o).toInt ≤ 12) ∨ (X.1 40 o).toInt = 14 ∨ (X.1 40 o).toInt = 30) (h42 : ¬ (X.1 0 42).toInt = 0) (hw : ∀ s pl : Int32, pw (f_guarded o1 s pl X) (fun _ X1 => R X1)) (hfl : ∀ pl : Int32, pw (f_guarded o1 4 pl X) (fun _ X1 => X1.1 0 42 = X.1 0 42)) : pw (f_does o1 n1 X) (fun z X1 => z = o1 + 1 ∧ R X1) := by
  have hg : ∀ s pl : Int32, pw (bnd (f_guarded o1 s pl X) fun _ X37 => letV (o1 + (1 : Int32)) fun x38 => some (x38, X37)) (fun z X1 => z = o1 + 1 ∧ R X1) := fun s pl => pw_bd (hw s pl) (fun _ X2 e2 => pw_let (pw_ret ⟨rfl, e2⟩))
  unfold f_does
  refine pw_ck (fun _ => pw_eq (fun x1 e1 => ?_))
  have v1 : x1.toInt = (X.1 40 o).toInt := by rw [e1, ixn ho]
  refine pw_neg (by omega) (pw_neg (by omega) (pw_neg (by omega) (pw_neg (by omega) (pw_neg (by omega) (pw_ite (fun _ => pw_ck (fun _ => pw_let (hg _ _))) (fun n5 => pw_ite (fun _ => pw_ck (fun _ => pw_let (hg _ _))) (fun n6 => pw_ite (fun _ => pw_ck (fun _ => pw_let ?_)) (fun n7 => pw_ite (fun _ => pw_ck (fun _ => pw_let (hg _ _))) (fun n8 => pw_ite (fun _ => pw_ck (fun _ => pw_let (hg _ _))) (fun n9 => pw_ite (fun _ => hg _ _) (fun n10 => pw_ite (fun _ => hg _ _) (fun n11 => pw_ite (fun _ => hg _ _) (fun n12 => pw_neg (by omega) (pw_ite (fun _ => hg _ _) (fun n14 => pw_neg (by omega) (pw_neg (by omega) (pw_neg (by omega) (pw_neg (by omega) (pw_pos (by omega) (hg _ _))))))))))))))))))))
  refine pw_bd (pw_and (hw 4 _) (hfl _)) ?_
  rintro _ X45 ⟨hR, h42'⟩
  refine pw_bd (pw_ok r_isOn) ?_
  rintro x46 X47 ⟨e47, _⟩
  rw [← e47]
  exact pw_ite (fun _ => pw_let (pw_ret ⟨rfl, hR⟩)) (fun _ => pw_let (pw_neg (by rw [h42']; exact h42) (pw_let (pw_ret ⟨rfl, hR⟩))))
end GUAS
