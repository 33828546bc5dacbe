/-! the reference reads expressions -/
section REXPR
variable {ch : Tx} {n q : Nat} {X Y Z X0 : St} {o : Int} {sc : List Nm} {j N N1 s N0 : Nat} {Q : Int32 → St → Prop} {c c1 : List Ins}
theorem se_all {P : PFn} {E : EF} (hE : SEq ch n (o + 1) E) (hU : SUq ch n o (sU ch P E)) (hO : MOE ch E) (hMP : MOP ch P) : SEq ch n o (sE1 ch P E) := by
  intro sc q c j N X Q h hm hP hM ho ho40 H
  have l1 : (1 : Int32).toInt = 1 := by decide
  have l3 : (3 : Int32).toInt = 3 := by decide
  refine pr_0 h hm ?_
  have c64 : pw (f_begins_64 X) (fun _ Z => pr Z Q) := by
    unfold f_begins_64 f_begins_65
    refine pw_bd (x_isBeg h.1) ?_
    rintro x5 X6 ⟨e6, h5⟩
    rw [e6]
    refine pw_ite (fun c5 => ?_) (fun c5 => ?_)
    · rw [sE1_nb (h5.mp c5)] at H
      exact pw_bd (q_stray X) (fun _ _ d => pw_ret (pr_dd d H.n))
    · refine pw_pos (by decide) ?_
      unfold sE1 at H
      refine pw_bd (q_isWord h.1 (by decide)) ?_
      rintro x7 X8 ⟨e8, h7⟩
      rw [e8]
      rw [l1] at h7
      refine pw_ite (fun c7 => ?_) (fun c7 => ?_)
      · have n262 := h7.mp c7
        have H := H.q (by omega)
        refine pw_bd (q_isWord h.1 (by decide)) ?_
        rintro x9 X10 ⟨e10, h9⟩
        rw [e10]
        rw [l3] at h9
        refine pw_ite (fun c9 => ?_) (fun c9 => ?_)
        · have n264 := h9.mp c9
          have H := H.q (by omega)
          unfold sC at H
          refine pw_eq (fun X11 e11 => pw_ret ?_)
          refine hU sc q c j N X11 Q (by rw [e11]; exact h.wI (by omega)) (by rw [e11, wI_at]; rfl) (by rw [e11]; exact hM.wI (by omega)) ho ho40 (H.b.m (fun a H => ?_))
          rintro Y ⟨N1, t, gY, mY, kY, hY, h1, h2, d, ed, od⟩ h14
          rw [ixn hY] at h14
          have k0 : KP X X11 (j + 1) N sc.length := by rw [e11]; exact KP.rf.wI (by unfold KPs; omega)
          have kk := k0.tr kY
          have b35 : ¬ (Y.1 35 j).toInt = 15 ∧ ¬ (Y.1 35 j).toInt = 16 := by rw [kk.1 35 j (by unfold KPs; omega)]; exact hP.1
          exact sg_all hU (fun q c => mv_u h.tx hO hMP) ⟨ho, ho40⟩ 3000 0 0 0 false c.length [] [] [] a.1 a.2 Y N1 t (by omega) ⟨Or.inl ⟨rfl, rfl⟩, Or.inl ⟨rfl, rfl⟩, Or.inl ⟨rfl, rfl⟩⟩ ⟨fun z => absurd z (by decide), fun z => absurd z (by decide)⟩ (by omega) ⟨⟨gY, mY, kk⟩, trivial, ⟨hY, h1, h2⟩, h14, b35, c, N, d, ⟨rfl, rfl⟩, ed, rfl, od⟩ H
        · have y : ty ch q = 261 + 3 := Classical.byContradiction (fun z => c9 (h9.mpr z))
          exact pw_let (b_if hE h.tk.2.1 h hm hM ⟨ho, ho40⟩ (by omega) (H.p (by omega)))
      · have y : ty ch q = 261 + 1 := Classical.byContradiction (fun z => c7 (h7.mpr z))
        exact pw_bd (b_let hE h hm hM ⟨ho, ho40⟩ (by omega) (H.p (by omega))) (fun _ _ d => pw_ret d)
  unfold f_begins
  refine pw_let (pw_eq (fun x2 e2 => ?_))
  have i2 := (h.tp e2).2
  rw [i2]
  refine pw_ck (fun _ => pw_let ?_)
  have c33 : pw (f_begins_33 x2 X) (fun _ Z => pr Z Q) := by
    unfold f_begins_33
    rw [i2]
    refine pw_ck (fun _ => pw_let ?_)
    refine pw_ite (fun c8 => ?_) (fun _ => c64)
    refine pw_ck (fun _ => pw_let (pw_ck (fun _ => pw_let ?_)))
    exact pw_neg (hP.2.2 c8) c64
  refine pw_ite (fun c12 => ?_) (fun _ => c33)
  refine pw_ck (fun _ => pw_let (pw_ck (fun _ => pw_let ?_)))
  exact pw_neg (hP.2.1 c12) c33
theorem sep_all (hT : TXT ch n) : ∀ (m : Nat) (o : Int), (41 ≤ o + m → SEq ch n o (sEP ch m).2) ∧ (40 ≤ o + m → SPq ch n o (sEP ch m).1) := by
  intro m
  induction m with
  | zero =>
    intro o
    refine ⟨fun g => ?_, fun g => ?_⟩
    · intro sc q c j N X Q _ _ _ _ h0 h40
      omega
    · intro sc q c j N X Q p1 ask work h1 h2 h4 h5 h6 h0 h40 H
      have v : SUq ch n (o + 1) (sU ch (sEP ch 0).1 (sEP ch 0).2) := by
        intro sc q c j N X Q _ _ _ h0 h40
        omega
      have e : sPre ch (sEP ch 0).1 (sEP ch 0).2 ask work o sc q c = none := by
        unfold sPre sEnter
        rw [if_pos rfl, if_neg (by omega)]
        rfl
      refine sp_pre v sc q c j N X Q p1 ask work h1 h2 h4 h5 h6 h0 h40 ?_
      rw [e]
      exact ⟨fun _ => H.n, fun a z => absurd z.symm (Option.some_ne_none _)⟩
  | succ m ih =>
    intro o
    have hn : NBq ch (sEP ch m).2 := by
      intro o sc q c g
      cases m with
      | zero => rfl
      | succ m => exact sE1_nb g
    have mv := mv_ep hT m
    have su : ∀ o : Int, 40 ≤ o + m → SUq ch n o (sU ch (sEP ch m).1 (sEP ch m).2) := fun o g => su_all ((ih (o + 1)).1 (by omega)) hn mv.2 ((ih o).2 g)
    refine ⟨fun g => ?_, fun g => ?_⟩
    · exact se_all ((ih (o + 1)).1 (by omega)) (su o (by omega)) mv.2 mv.1
    · exact sp_pre (su (o + 1) (by omega))
theorem se_0 (hT : TXT ch n) : SEq ch n 0 (sE ch) := (sep_all hT 64 0).1 (by omega)
end REXPR
