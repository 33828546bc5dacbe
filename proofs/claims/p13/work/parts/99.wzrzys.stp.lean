/-! places in step: steps, a name bound without a guard, branches, jumps -/
section STPS
variable {u : Bool}
variable {X Y Z X0 Y0 X1 Y1 : St} {r r1 G G1 : Nat → Int32} {po W pst pen : Nat → Nat} {PTs : Nat → Nat → Ty} {sq : Nat → Nat → Nat → Prop} {ks : List (List Int)} {o1 z pl x p1 p2 p3 : Int32} {e i j o p c b sb T N n m k : Nat} {nr : Int → Int} {cd : List Ins}
theorem n_guard0 (h42 : ¬ (X.1 0 42).toInt = 0) (ho : p1.toInt = (o : Int)) (hn : (X.1 43 o).toInt < 0) : pw (f_guarded p1 p2 p3 X) (fun _ X1 => X1 = X) := by
  unfold f_guarded
  refine pw_let (pw_neg h42 (pw_ck (fun _ => pw_let ?_)))
  rw [ixn ho]
  exact pw_pos hn (pw_ret rfl)
theorem zo1 (ho : o1.toInt = (o : Int)) (h : o < 24000) : (o1 + 1).toInt = ((o + 1 : Nat) : Int) := by
  have l1 : (1 : Int32).toInt = 1 := by decide
  rw [ti_add (by rw [ho, l1]; omega) (by rw [ho, l1]; omega), ho, l1]
  omega
theorem n_dg12 (ho : o1.toInt = (o : Int)) (h12 : (X.1 40 o).toInt = 12) (h42 : (X.1 0 42).toInt = 0) {n1 : Int32} : pw (f_does o1 n1 X) (fun z X1 => z = o1 + 1 ∧ X1 = X) := by
  unfold f_does
  refine pw_ck (fun _ => pw_eq (fun x1 e1 => ?_))
  have v1 : x1.toInt = 12 := by rw [e1, ixn ho]; exact h12
  refine pw_neg (by omega) (pw_neg (by omega) (pw_neg (by omega) (pw_neg (by omega) (pw_neg (by omega) (pw_neg (by omega) (pw_neg (by omega) (pw_neg (by omega) (pw_neg (by omega) (pw_neg (by omega) (pw_neg (by omega) (pw_neg (by omega) (pw_pos (by omega) (pw_bd (n_guardU0 h42 (by decide)) (fun _ V e => pw_let (pw_ret ⟨rfl, e⟩)))))))))))))))
/-- a name is bound, no guard stands before it -/
theorem MRL.t5b (hS : STAT u e ks X0 Y0 po W nr cd pst pen) (h : MRL u e ks X0 Y0 po PTs (SY cd pst pen) sq W X Y r G p j o c b sb T i) (ho : o1.toInt = (o : Int)) (ih : ∀ N', N' < N + 1 → IHN u e ks X0 Y0 po PTs (SY cd pst pen) W N') (hjl : (j : Int) < (Y.1 e 6).toInt) (hpl : Y.1 (e + 21) j = pl) (hx : Y.1 (e + 19) j = x) (hsy : o + 2 < po (p + 1) → SY cd pst pen p (j + 1) (o + 2)) (hop : (Y.1 (e + 18) j).toInt = 5) (hK : OA X o 12 n) (h43 : u = false → (X.1 43 o).toInt < 0) (hK2 : OA X (o + 1) 13 n) (h26 : X.1 26 n = x) : ENDS ks (N + 1) o1 X Y i := by
  obtain ⟨hI, ⟨f1, f2, f3, f4⟩, hf, f5, f6, f7, f8, f9⟩ := h.fct (Y.1 70 10 + 1)
  have hK1 := hK.1
  have hlt := h.lt (by omega)
  have h24 := (h.2.1.1.2 p h.1.2.1.1).2.1.2.2
  have hnn := (h.sr (by omega)).nms (by omega) (by omega)
  have hw := h.ws hS hlt
  have hWo : W (o + 1) + 1 ≤ W o := by
    obtain ⟨op', n', ⟨w1, _⟩, w2⟩ := hw
    rcases w2 with ⟨q, _⟩ | ⟨q, _⟩ | ⟨q, _⟩ | ⟨_, q⟩
    · omega
    · omega
    · omega
    · exact q
  have hg : pw (f_does o1 (X.1 41 o) X) (fun z X1 => z = o1 + 1 ∧ X1 = X) := by
    cases u with
    | false =>
      have f8 : ¬ (X.1 0 42).toInt = 0 := fun q => Bool.noConfusion (f8.mpr q)
      exact n_dg (R := fun X1 => X1 = X) ho (by omega) f8 (fun s q => n_guard0 f8 ho (h43 rfl)) (fun q => pw_mono (n_guard0 f8 ho (h43 rfl)) (fun _ X1 e1 => by rw [e1]))
    | true => exact n_dg12 ho hK1 (f8.mp rfl)
  have zz := zo1 ho (by omega : o < 24000)
  refine ENDS.ref h.2.2.1.2.2.1 ho (pw_and (pw_ok (step_in2 h.1 h.2.1 ho hlt (by omega))) hg) ?_
  rintro z X1 ⟨⟨n1, n2⟩, ez, e1⟩
  subst e1
  subst ez
  obtain ⟨m1, m2, m3, m4, m5, m6, m7, m8, m9⟩ := h
  obtain ⟨g1, G1, o2, g2, g3, g4, g5, g6, g7⟩ := n2 m3.2.2.1.1.1
  have eo : o2 = o + 1 := Int.ofNat_inj.mp (g2.symm.trans zz)
  subst eo
  have tpe : sb + (PTs p (o + 1)).1 = sb + (PTs p o).1 := by
    have q1 := g3.1.2.2.2.1.1
    have q2 := m1.1.2.2.2.1.1
    omega
  have h' : MRL u e ks X0 Y0 po PTs (SY cd pst pen) (fun _ _ _ => True) W X1 Y r G1 p j (o + 1) c b sb T i := ⟨g3, g1, ⟨m3.1, m3.2.1, m3.2.2.1, m3.2.2.2.1, by rw [tpe]; exact m3.2.2.2.2.1, fun s hs => m3.2.2.2.2.2 s (by omega)⟩, m4, m5, m6, trivial, m8, by omega⟩
  cases N with
  | zero => exact ENDS.zero
  | succ N => exact h'.t5 hS zz (ih N (by omega)) hjl hpl hx hsy hop hK2 h26
/-- a branch -/
theorem MRL.t6 (hS : STAT u e ks X0 Y0 po W nr cd pst pen) (h : MRL u e ks X0 Y0 po PTs (SY cd pst pen) (SY cd pst pen) W X Y r G p j o c b sb T i) (ho : o1.toInt = (o : Int)) (ih : IHN u e ks X0 Y0 po PTs (SY cd pst pen) W N) (hjl : (j : Int) < (Y.1 e 6).toInt) (hpl : Y.1 (e + 21) j = pl) (hx : Y.1 (e + 19) j = x) (hsy : o + 1 < po (p + 1) → SY cd pst pen p (j + 1) (o + 1)) (hop : (Y.1 (e + 18) j).toInt = 6) (hK : OA X o 15 n) (hxk : x.toInt = (k : Int)) (h46 : (X.1 46 n).toInt = (opl cd k : Int)) : ENDS ks (N + 1) o1 X Y i := by
  obtain ⟨hI, ⟨f1, f2, f3, f4⟩, hf, f5, f6, f7, f8, f9⟩ := h.fct (Y.1 70 10 + 1)
  have hn1 : ix (X.1 41 o) = n := ixn hK.2
  have hK1 := hK.1
  have hlt := h.lt (by omega)
  have hw := h.ws hS hlt
  have h24 := (h.2.1.1.2 p h.1.2.1.1).2.1.2.2
  have l1 : (1 : Int32).toInt = 1 := by decide
  have hj := h.2.2.2.2.1.2.1
  have h6 := (Y.1 e 6).toInt_lt
  have jo : (Y.1 70 10 + 1).toInt = ((j + 1 : Nat) : Int) := by rw [ti_add (by rw [hj, l1]; omega) (by rw [hj, l1]; omega), hj, l1]; omega
  obtain ⟨_, op, n', hoa, _, _, ⟨g1, g2⟩, g3, q, g4, g5⟩ := (h.sr (by omega)).x4 hK1
  have en : n' = n := by
    have := hoa.2
    have := hK.2
    omega
  subst en
  have eq : q = opl cd k := by omega
  subst eq
  have nn1 : (PTs p (o + 1)).2.2.1 ≤ (PTs p o).2.2.1 := g3.1.2.2.2.2.1
  have nn2 : (PTs p (opl cd k)).2.2.1 ≤ (PTs p o).2.2.1 := g5.1.2.2.2.2.1
  have hWo : W (o + 1) + 1 ≤ W o ∧ W (opl cd k) + 1 ≤ W o := by
    obtain ⟨op', n'', ⟨w1, w3⟩, w2⟩ := hw
    have e2 : n'' = n' := by
      have := hK.2
      omega
    subst e2
    rcases w2 with ⟨q, _⟩ | ⟨q, q1, q2, q3, q4, q5⟩ | ⟨q, _⟩ | ⟨q, _⟩
    · omega
    · have e3 : q2 = opl cd k := by omega
      subst e3
      exact ⟨q1, q5⟩
    · omega
    · omega
  obtain ⟨d, hd⟩ : ∃ d, (PTs p o).1 = d + 1 := ⟨(PTs p o).1 - 1, by omega⟩
  have hI1 := hI
  rw [hd] at hI1
  have v0 : VV u X G (tp (PTs p o) 0) (X.1 60 (sb + d)) (X.1 61 (sb + d)) := by
    have q := hf.2.2.1.tp (i := 0) (by omega)
    rw [show (PTs p o).1 - 1 - 0 = d by omega] at q
    exact q
  have w1 := vv_pk (by decide) g2 v0
  refine h.go (tp1 := sb + d) (nn1 := (PTs p o).2.2.1) ho hlt (by omega) (by omega) hjl (Int32.toInt_inj.mp (hop.trans (by decide)) : Y.1 (e + 18) j = 6) hx hpl (pw_mono (op6 (t0 := sb + d) (pl := pl) (x := x) ho hK1 hI1 (by omega) (by omega)) (fun z X1 q => ?_)) ih
  rw [wrkP (by decide)]
  refine pw_mono q ?_
  rintro _ Y1 ⟨w, ⟨ez, ej⟩ | ⟨ez, ej⟩⟩
  · exact ⟨w, o + 1, j + 1, by rw [ez]; exact zo1 ho (by omega), by rw [ej, wI_at]; exact jo, fun _ => hsy, nn1, hWo.1⟩
  · exact ⟨w, opl cd k, k, by rw [ez, hn1]; exact h46, by rw [ej]; exact hxk, fun z1 z2 => h.tgt hS rfl z1 z2, nn2, hWo.2⟩
/-- a jump, and where two ways join -/
theorem MRL.t7 (hS : STAT u e ks X0 Y0 po W nr cd pst pen) (h : MRL u e ks X0 Y0 po PTs (SY cd pst pen) (SY cd pst pen) W X Y r G p j o c b sb T i) (ho : o1.toInt = (o : Int)) (ih : IHN u e ks X0 Y0 po PTs (SY cd pst pen) W N) (hjl : (j : Int) < (Y.1 e 6).toInt) (hx : Y.1 (e + 19) j = x) (hop : (Y.1 (e + 18) j).toInt = 7) (hK : OA X o 16 n) (hxk : x.toInt = (k : Int)) (hkl : (k : Int) < (Y.1 e 6).toInt) (hop2 : (Y.1 (e + 18) k).toInt = 8) (h47 : (X.1 47 n).toInt = ((opl cd k + 1 : Nat) : Int)) (hk1 : opl cd (k + 1) = opl cd k + 1) : ENDS ks (N + 1) o1 X Y i := by
  have hI := h.2.2.1
  have he := hI.1.1
  have hn1 : ix (X.1 41 o) = n := ixn hK.2
  have hK1 := hK.1
  have hlt := h.lt (by omega)
  have hw := h.ws hS hlt
  have l1 : (1 : Int32).toInt = 1 := by decide
  have hj := h.2.2.2.2.1.2.1
  have h6 := (Y.1 e 6).toInt_lt
  obtain ⟨_, op, n', hoa, _, _, q, g4, g5⟩ := (h.sr (by omega)).x5 hK1
  have en : n' = n := by
    have := hoa.2
    have := hK.2
    omega
  subst en
  have eq : q = opl cd k + 1 := by omega
  subst eq
  have nn2 : (PTs p (opl cd k + 1)).2.2.1 ≤ (PTs p o).2.2.1 := g5.1.2.2.2.2.1
  have hWo : W (opl cd k + 1) + 2 ≤ W o := by
    obtain ⟨op', n'', ⟨w1, w3⟩, w2⟩ := hw
    have e2 : n'' = n' := by
      have := hK.2
      omega
    subst e2
    rcases w2 with ⟨q, _⟩ | ⟨q, _⟩ | ⟨q, q2, q3, q4, q5⟩ | ⟨q, _⟩
    · omega
    · omega
    · have e3 : q2 = opl cd k + 1 := by omega
      subst e3
      exact q5
    · omega
  have h40 := h.2.1.2.1
  have hbi := h.2.2.2.2.2.2.2.2
  refine ENDS.ref hI.2.2.1 ho (pw_and (pw_ok (step_in2 h.1 h.2.1 ho hlt (by omega))) (op7 (n1 := X.1 41 o) ho hK1)) ?_
  rintro z X1 ⟨hP, ez, e1⟩
  subst e1
  have hne : ∀ a, e + a = 70 → a = 46 ∨ a = 68 := fun a q => by omega
  refine ENDS.cls (Q := fun Y1 => Y1 = wI (wI Y 70 10 (Y.1 70 10 + 1)) 70 10 x) he hI.1.2.2.2 hI.2.2.1.2.1 (by omega) hj hjl (by rw [wrkP (by omega), (Int32.toInt_inj.mp (hop.trans (by decide)) : Y.1 (e + 18) j = 7), hx]; exact l_jump) ?_
  rintro Y1 rfl
  obtain ⟨Y1, hY1⟩ : ∃ Y1 : St, Y1 = wI (wI Y 70 10 (Y.1 70 10 + 1)) 70 10 x := ⟨_, rfl⟩
  rw [← hY1]
  have r1 : ∀ a q, ¬ (a = 70 ∧ q = 10) → Y1.1 a q = Y.1 a q := fun a q w => by rw [hY1, wI_ne _ _ _ _ _ _ w, wI_ne _ _ _ _ _ _ w]
  have l1' : Y1.2 = Y.2 := by rw [hY1]; rfl
  have j1 : (Y1.1 70 10).toInt = (k : Int) := by rw [hY1, wI_at]; exact hxk
  refine ENDS.cls (Q := fun Y2 => Y2 = wI Y1 70 10 (Y1.1 70 10 + 1)) he (by rw [l1']; exact hI.1.2.2.2) (by rw [r1 70 4 (by omega)]; exact hI.2.2.1.2.1) (by omega) j1 (by rw [r1 e 6 (by omega)]; exact hkl) (by rw [r1 (e + 18) k (by omega), wrkP (by omega), (Int32.toInt_inj.mp (hop2.trans (by decide)) : Y.1 (e + 18) k = 8)]; exact l_join) ?_
  rintro Y2 rfl
  obtain ⟨Y2, hY2⟩ : ∃ Y2 : St, Y2 = wI Y1 70 10 (Y1.1 70 10 + 1) := ⟨_, rfl⟩
  rw [← hY2]
  have r2 : ∀ a q, ¬ (a = 70 ∧ q = 10) → Y2.1 a q = (wI Y 70 10 (Y.1 70 10 + 1)).1 a q := fun a q w => by rw [hY2, wI_ne _ _ _ _ _ _ w, r1 a q w, wI_ne _ _ _ _ _ _ w]
  have l2 : Y2.2 = Y.2 := by rw [hY2]; exact l1'
  have j2 : (Y2.1 70 10).toInt = ((k + 1 : Nat) : Int) := by rw [hY2, wI_at, ti_add (by rw [j1, l1]; omega) (by rw [j1, l1]; omega), j1, l1]; omega
  have I2 : INS e X1 Y2 r ks sb c (sb + (PTs p o).1) (PTs p o).2.2.1 := hI.to (fun _ _ _ => rfl) (fun a q w => by rw [r2 a q (by omega), wI_ne _ _ _ _ _ _ (by omega)]) l2 (by rw [r2 70 9 (by omega), wI_ne _ _ _ _ _ _ (by omega)]; exact hI.2.1.1.2.1)
  refine h.next (tp1 := sb + (PTs p o).1) (nn1 := (PTs p o).2.2.1) (j2 := k + 1) (o2 := opl cd k + 1) hP ?_ (by rw [ez, hn1]; exact h47) j2 (fun z1 z2 => h.tgt hS hk1 z1 z2) nn2 (by omega) (by omega) ih
  exact OPQ.pure0 hI.w10 (fun _ _ _ _ => rfl) (fun a q w => r2 a q (by omega)) (by rw [l2]; rfl) (fun a q _ _ => by rw [l2]; rfl) I2.2.2.2.2.1 I2.2.2.2.2.2
/-- steps: the reference's are made one by one -/
theorem MRL.t0s (hS : STAT u e ks X0 Y0 po W nr cd pst pen) {Xs : St} {Gs : Nat → Int32} {os ms : Nat} (hs : MRL u e ks X0 Y0 po PTs (SY cd pst pen) sq W Xs Y r Gs p j os c b sb T i) (hx : (Y.1 (e + 19) j).toInt = (ms : Int)) (hm1 : 1 ≤ ms) (hjl : (j : Int) < (Y.1 e 6).toInt) (hpl : Y.1 (e + 21) j = pl) (hop : (Y.1 (e + 18) j).toInt = 0) (hsy : os + ms < po (p + 1) → SY cd pst pen p (j + 1) (os + ms)) (hK : ∀ q, q < ms → ∃ n, OA Xs (os + q) 0 n ∧ Xs.1 21 n = pl) : ∀ (d m N : Nat) (X : St) (G : Nat → Int32) (o1 : Int32), m + d = ms → (∀ N', N' + ms ≤ N + m → IHN u e ks X0 Y0 po PTs (SY cd pst pen) W N') → o1.toInt = ((os + m : Nat) : Int) → (∀ e k, ¬ (e = 0 ∧ k = 40) → X.1 e k = Xs.1 e k) → (X.1 0 40).toInt = (Xs.1 0 40).toInt + m → RST u X G po PTs p (os + m) c b sb → GLB u X po PTs → HX Xs X Gs G → (PTs p (os + m)).2.2.1 ≤ (PTs p os).2.2.1 → W (os + m) ≤ W os + 20 * m → ENDS ks N o1 X Y i := by
  obtain ⟨s1, s2, s3, s4, ⟨s5, s6, s7⟩, s8, s9, ⟨⟨t1, t2, t3⟩, t4⟩, s11⟩ := id hs
  have he := s3.1.1
  have hg40 := s2.2.1
  have l1 : (1 : Int32).toInt = 1 := by decide
  have h6 := (Y.1 e 6).toInt_lt
  have y9 : Y.1 70 9 = Xs.1 0 40 := s3.2.1.1.2.1
  have y8 : Y.1 70 8 = Xs.1 0 39 := s3.2.1.1.2.2.1
  have jo : (Y.1 70 10 + 1).toInt = ((j + 1 : Nat) : Int) := by rw [ti_add (by rw [s6, l1]; omega) (by rw [s6, l1]; omega), s6, l1]; omega
  have w1 : ∀ a q, ¬ (a = 70 ∧ q = 10) → (wI Y 70 10 (Y.1 70 10 + 1)).1 a q = Y.1 a q := fun a q w => wI_ne _ _ _ _ _ _ w
  have hwk : ∀ Q : St → Prop, (∀ Y1, (((ms : Int) ≤ (Y.1 70 8).toInt - (Y.1 70 9).toInt ∧ Y1 = wI (wI Y 70 10 (Y.1 70 10 + 1)) 70 9 (Y.1 70 9 + Y.1 (e + 19) j)) ∨ ((Y.1 70 8).toInt - (Y.1 70 9).toInt < (ms : Int) ∧ Y1 = wI (wI (wI (wI (wI Y 70 10 (Y.1 70 10 + 1)) 70 9 (Y.1 70 8)) 70 4 0) 70 5 7) 70 6 pl)) → Q Y1) → pw (WRK (Y.1 (e + 18) j) (Y.1 (e + 19) j) (Y.1 (e + 21) j) (Y.1 70 10) (wI Y 70 10 (Y.1 70 10 + 1))) (fun _ Y1 => Q Y1) := by
    intro Q hq
    rw [wrkP (by omega), (Int32.toInt_inj.mp (hop.trans (by decide)) : Y.1 (e + 18) j = 0), hpl]
    unfold g_Running_workPlain
    refine pw_pos (by decide) ?_
    refine pw_bd (l_steps (Y := wI Y 70 10 (Y.1 70 10 + 1)) (p1 := Y.1 (e + 19) j) (p2 := pl) (by rw [w1 70 9 (by omega), w1 70 8 (by omega), y9, y8]; omega) (by omega) s3.w10.2.2.1) ?_
    rintro _ Y1 h1
    rw [w1 70 9 (by omega), w1 70 8 (by omega), hx] at h1
    exact pw_ret (hq Y1 h1)
  intro d
  induction d with
  | zero =>
    intro m N X G o1 hd ih ho hX h40 hR hG hH hnn hW
    have em : m = ms := by omega
    subst em
    have hg2 := hG.2.1
    have x39 : X.1 0 39 = Xs.1 0 39 := hX 0 39 (by omega)
    refine ENDS.cls (Q := fun Y1 => Y1 = wI (wI Y 70 10 (Y.1 70 10 + 1)) 70 9 (Y.1 70 9 + Y.1 (e + 19) j)) he s3.1.2.2.2 s3.2.2.1.2.1 (by omega) s6 hjl (hwk _ ?_) ?_
    · rintro Y1 (⟨_, q⟩ | ⟨q, _⟩)
      · exact q
      · rw [y8, y9, ← x39] at q
        omega
    · rintro Y1 rfl
      obtain ⟨Y1, hY1⟩ : ∃ Y1 : St, Y1 = wI (wI Y 70 10 (Y.1 70 10 + 1)) 70 9 (Y.1 70 9 + Y.1 (e + 19) j) := ⟨_, rfl⟩
      rw [← hY1]
      have r1 : ∀ a q, ¬ (a = 70 ∧ (q = 9 ∨ q = 10)) → Y1.1 a q = Y.1 a q := fun a q w => by rw [hY1, wI_ne _ _ _ _ _ _ (by omega), wI_ne _ _ _ _ _ _ (by omega)]
      have e9 : Y1.1 70 9 = X.1 0 40 := by
        rw [hY1, wI_at, y9]
        refine Int32.toInt_inj.mp ?_
        rw [ti_add (by rw [hx]; omega) (by rw [hx]; omega), hx, h40]
      have hI : INS e X Y1 r ks sb c (sb + (PTs p os).1) (PTs p os).2.2.1 := s3.to hX r1 (by rw [hY1]; rfl) e9
      have tpe : sb + (PTs p (os + m)).1 = sb + (PTs p os).1 := by
        have q1 := hR.1.2.2.2.1.1
        have q2 := s1.1.2.2.2.1.1
        rw [hX 0 31 (by omega)] at q1
        omega
      refine ih N (by omega) X Y1 r G p (j + 1) (os + m) c b sb T (i + 1) o1 ho ⟨hR, hG, ⟨hI.1, hI.2.1, hI.2.2.1, hI.2.2.2.1, by rw [tpe]; exact hI.2.2.2.2.1, fun s hs => hI.2.2.2.2.2 s (by omega)⟩, ?_, ⟨by rw [r1 70 11 (by omega)]; exact s5, ?_, by rw [r1 70 3 (by omega)]; exact s7⟩, ?_, hsy hR.2.1.2.2, ⟨⟨fun a q w1 w2 => by rw [hX a q (by omega)]; exact t1 a q w1 w2, t2.tr (KXq.of (fun a q w => hX a q (by omega))), by rw [hX 0 18 (by omega)]; exact t3⟩, fun a q w => by rw [r1 a q (by omega)]; exact t4 a q w⟩, by rw [h40]; omega⟩
      · exact s4.up (HG.of ⟨fun k q => hX 0 k (by omega), fun e k q => hX e k (by omega)⟩) hH _ _ _ _ (fun q _ => ⟨hX 76 q (by omega), hX 77 q (by omega), hX 78 q (by omega)⟩) (fun q _ => ⟨hX 60 q (by omega), hX 61 q (by omega)⟩) (fun q _ => ⟨hX 62 q (by omega), hX 63 q (by omega)⟩) (fun q _ => by rw [hY1]; rfl) (fun q _ => by rw [hY1]; rfl) (fun q _ => r1 82 q (by omega))
      · rw [hY1, wI_ne _ _ _ _ _ _ (by omega), wI_at]
        exact jo
      · obtain ⟨⟨p1, p2⟩, p3, p4⟩ := s8
        refine ⟨by rw [hX 0 18 (by omega)]; exact ⟨p1, p2⟩, by rw [r1 e 1 (by omega), hX 0 18 (by omega)]; exact p3, fun k hk => ?_⟩
        rw [hX 0 18 (by omega)] at hk
        rw [r1 (e + 13) k (by omega), hX 15 k (by omega)]
        exact p4 k hk
  | succ d ihd =>
    intro m N X G o1 hd ih ho hX h40 hR hG hH hnn hW
    cases N with
    | zero => exact ENDS.zero
    | succ N =>
      obtain ⟨n, hKs, h21s⟩ := hK m (by omega)
      have hK : OA X (os + m) 0 n := ⟨by rw [hX 40 _ (by omega)]; exact hKs.1, by rw [hX 41 _ (by omega)]; exact hKs.2⟩
      have h21 : X.1 21 n = pl := by rw [hX 21 n (by omega)]; exact h21s
      have hK1 := hK.1
      have hg2 := hG.2.1
      obtain ⟨a1, a2, a3, a4, a5, a6, a7⟩ := hG.1.2 p hR.2.1.1
      have hlt : os + m < po (p + 1) - 1 := by
        have := hR.2.1.2
        by_cases g : os + m = po (p + 1) - 1
        · rw [← g] at a6
          omega
        · omega
      have hsr := a5 (os + m) hR.2.1.2.1 hlt
      have hnm := hsr.nms (by omega) (by omega)
      have hO : ONr X Y := s3.2.2.1.cg (hX 0 43 (by omega)) (hX 0 44 (by omega)) (fun _ _ => rfl)
      have x39 : X.1 0 39 = Xs.1 0 39 := hX 0 39 (by omega)
      have hW1 : W (os + m + 1) ≤ W (os + m) + 20 := by
        have hp : (p : Int) < (X0.1 0 18).toInt := by
          have := s1.2.1.1
          rw [t3] at this
          exact this
        obtain ⟨op', n', w1, w2⟩ := (hS.2 p hp).2.1.2.2 (os + m) hR.2.1.2.1 hlt
        have w1 := w1.1
        rw [← t1 40 (os + m) (by omega) (by omega)] at w1
        have := hKs.1
        rcases w2 with ⟨_, q⟩ | ⟨q, _⟩ | ⟨q, _⟩ | ⟨q, _⟩
        · exact q
        · omega
        · omega
        · omega
      have zz := zo1 ho (by omega : os + m < 24000)
      refine ENDS.ref hO ho (pw_and (pw_ok (step_in2 hR hG ho hlt (by omega))) (n_step (n1 := X.1 41 (os + m)) ho hK1 hO (by omega))) ?_
      rintro z X1 ⟨⟨n1, n2⟩, ez, hz⟩
      rcases hz with ⟨hne, e1⟩ | ⟨heq, e1⟩
      · have v43 : X1.1 0 43 = X.1 0 43 := by rw [e1, wI_ne _ _ _ _ _ _ (by omega)]
        obtain ⟨g1, G1, o2, g2, g3, g4, g5, g6, g7⟩ := n2 (by rw [v43]; exact hO.1.1)
        have eo : o2 = os + (m + 1) := Int.ofNat_inj.mp (g2.symm.trans (by rw [ez]; exact zz))
        subst eo
        have hX1 : ∀ e k, ¬ (e = 0 ∧ k = 40) → X1.1 e k = Xs.1 e k := fun e k q => by rw [e1, wI_ne _ _ _ _ _ _ (by omega)]; exact hX e k q
        have h401 : (X1.1 0 40).toInt = (X.1 0 40).toInt + 1 := by
          rw [e1, wI_at, ti_add (by rw [l1]; omega) (by rw [l1]; omega), l1]
        exact ihd (m + 1) N X1 G1 z (by omega) (fun N' q => ih N' (by omega)) g2 hX1 (by rw [h401, h40]; omega) g3 g1 (hH.tr g4) (Nat.le_trans hnm hnn) (by have e3 : os + (m + 1) = os + m + 1 := rfl; rw [e3]; omega)
      · refine ENDS.cls (Q := fun Y1 => Y1 = wI (wI (wI (wI (wI Y 70 10 (Y.1 70 10 + 1)) 70 9 (Y.1 70 8)) 70 4 0) 70 5 7) 70 6 pl) he s3.1.2.2.2 s3.2.2.1.2.1 (by omega) s6 hjl (hwk _ ?_) ?_
        · rintro Y1 (⟨q, _⟩ | ⟨_, q⟩)
          · rw [y8, y9, ← x39] at q
            omega
          · exact q
        · rintro Y1 rfl
          have hn1 : ix (X.1 41 (os + m)) = n := ixn hK.2
          rw [hn1, h21] at e1
          have x39' : X1.1 0 39 = Y.1 70 8 := by rw [e1, wI_ne _ _ _ _ _ _ (by omega), wI_ne _ _ _ _ _ _ (by omega), x39, y8]
          have x40' : X1.1 0 40 = Y.1 70 8 := by
            rw [e1, wI_ne _ _ _ _ _ _ (by omega), wI_ne _ _ _ _ _ _ (by omega), y8, ← x39]
            exact Int32.toInt_inj.mp heq
          have rx : ∀ a q, ¬ (a = 0 ∧ (q = 40 ∨ q = 43 ∨ q = 44)) → X1.1 a q = Xs.1 a q := fun a q w => by rw [e1, wI_ne _ _ _ _ _ _ (by omega), wI_ne _ _ _ _ _ _ (by omega)]; exact hX a q (by omega)
          obtain ⟨⟨c1, c2, c3, c4⟩, ⟨c5, c6⟩, c7, c8⟩ := s3.2.1
          have ry : ∀ a q, ¬ (a = 70 ∧ (q = 4 ∨ q = 5 ∨ q = 6 ∨ q = 9 ∨ q = 10)) → (wI (wI (wI (wI (wI Y 70 10 (Y.1 70 10 + 1)) 70 9 (Y.1 70 8)) 70 4 0) 70 5 7) 70 6 pl).1 a q = Y.1 a q := fun a q w => by rw [wI_ne _ _ _ _ _ _ (by omega), wI_ne _ _ _ _ _ _ (by omega), wI_ne _ _ _ _ _ _ (by omega), wI_ne _ _ _ _ _ _ (by omega), wI_ne _ _ _ _ _ _ (by omega)]
          have x43 : X1.1 0 43 = 7 := by rw [e1, wI_ne _ _ _ _ _ _ (by omega), wI_at]
          have x44 : X1.1 0 44 = pl := by rw [e1, wI_at]
          refine ENDS.off ⟨by rw [x43]; decide, ?_, ?_, ?_⟩ ⟨⟨?_, ?_, ?_, ?_⟩, ⟨?_, ?_⟩, fun q hq => ?_, fun q1 q2 w1 w2 => ?_⟩
          · rw [wI_ne _ _ _ _ _ _ (by omega), wI_ne _ _ _ _ _ _ (by omega), wI_at]; decide
          · rw [wI_ne _ _ _ _ _ _ (by omega), wI_at, x43]
          · rw [wI_at, x44]
          · rw [ry 70 7 (by omega), rx 0 45 (by omega)]; exact c1
          · rw [wI_ne _ _ _ _ _ _ (by omega), wI_ne _ _ _ _ _ _ (by omega), wI_ne _ _ _ _ _ _ (by omega), wI_at, x40']
          · rw [ry 70 8 (by omega), rx 0 39 (by omega)]; exact c3
          · rw [ry 70 18 (by omega), rx 0 46 (by omega)]; exact c4
          · rw [ry 71 0 (by omega), rx 0 35 (by omega)]; exact c5
          · rw [ry 71 2 (by omega), rx 0 36 (by omega)]; exact c6
          · rw [rx 0 46 (by omega)] at hq
            rw [ry 86 q (by omega), rx 79 q (by omega)]
            exact c7 q hq
          · rw [ry 87 _ (by omega), rx 80 _ (by omega)]
            exact c8 q1 q2 w1 w2
theorem MRL.t0 (hS : STAT u e ks X0 Y0 po W nr cd pst pen) (h : MRL u e ks X0 Y0 po PTs (SY cd pst pen) sq W X Y r G p j o c b sb T i) (ho : o1.toInt = (o : Int)) (ih : ∀ N', N' < N → IHN u e ks X0 Y0 po PTs (SY cd pst pen) W N') {ms : Nat} (hx : (Y.1 (e + 19) j).toInt = (ms : Int)) (hm1 : 1 ≤ ms) (hjl : (j : Int) < (Y.1 e 6).toInt) (hpl : Y.1 (e + 21) j = pl) (hop : (Y.1 (e + 18) j).toInt = 0) (hsy : o + ms < po (p + 1) → SY cd pst pen p (j + 1) (o + ms)) (hK : ∀ q, q < ms → ∃ n, OA X (o + q) 0 n ∧ X.1 21 n = pl) : ENDS ks N o1 X Y i := MRL.t0s hS h hx hm1 hjl hpl hop hsy hK ms 0 N X G o1 (by omega) (fun N' q => ih N' (by omega)) ho (fun _ _ _ => rfl) (by omega) h.1 h.2.1 HX.rf (Nat.le_refl _) (Nat.le_refl _)
end STPS
