/-! the reference reads what stands in brackets -/
def OPq (X Y : St) (j1 : Nat) (p1 p2 : Int32) : Prop := (∀ e k, ¬ (e = 0 ∧ (k = 22 ∨ k = 23)) → ¬ ((35 ≤ e ∧ e ≤ 38) ∧ k = j1) → Y.1 e k = X.1 e k) ∧ Y.2 = X.2 ∧ Y.1 35 j1 = p1 ∧ Y.1 36 j1 = p2 ∧ (Y.1 37 j1).toInt = -1
section RBASE
variable {ch : Tx} {n q : Nat} {X Y Z X0 : St} {o : Int} {sc : List Nm} {j N s N0 : Nat} {Q : Int32 → St → Prop} {c c0 c1 : List Ins} {NM : Prop}
theorem x_opened (h : XS ch n X q o sc j N) (p1 p2 : Int32) : pw (f_opened p1 p2 X) (fun _ Y => XS ch n Y q o sc (j + 1) N ∧ (Y.1 0 23).toInt = 0 ∧ OPq X Y j p1 p2) := by
  unfold f_opened
  refine pw_bd (q_well h.w0) ?_
  rintro x1 X2 ⟨rfl, h1⟩
  refine pw_neg h1 ?_
  refine pw_bd (x_enter h p1 p2) ?_
  rintro _ X3 ⟨g3, a, b, d, e, f, _⟩
  refine pw_eq (fun X4 e4 => ?_)
  refine pw_ret ⟨by rw [e4]; exact g3.wI (by omega), by rw [e4, wI_at]; rfl, fun i k h1 h2 => ?_, ?_, ?_, ?_, ?_⟩
  · rw [e4, wI_ne _ _ _ _ _ _ (by omega)]
    exact a i k (by omega) h2
  · rw [e4]
    exact b
  · rw [e4, wI_ne _ _ _ _ _ _ (by omega)]
    exact d
  · rw [e4, wI_ne _ _ _ _ _ _ (by omega)]
    exact e
  · rw [e4, wI_ne _ _ _ _ _ _ (by omega)]
    exact f
theorem KP.op {p1 p2 : Int32} {j1 : Nat} (h : KP X0 X j N0 s) (g : OPq X Y j1 p1 p2) (hj : j ≤ j1) : KP X0 Y j N0 s := ⟨fun e k q => (g.1 e k (by unfold KPs at q; omega) (by unfold KPs at q; omega)).trans (h.1 e k q), fun k q => (congrFun (congrFun (congrArg Prod.fst g.2.1) 29) k).trans (h.2.1 k q), fun k q => (congrFun (congrFun (congrArg Prod.fst g.2.1) 30) k).trans (h.2.2.1 k q), h.2.2.2.tr (KGq.of (fun e k q => g.1 e k (by omega) (by omega)))⟩
theorem NMr.op {p1 p2 : Int32} {j1 : Nat} (h : NMr ch X N c) (g : OPq X Y j1 p1 p2) : NMr ch Y N c := h.cg (fun i _ => g.1 20 i (by omega) (by omega)) (fun i _ => congrFun (congrFun (congrArg Prod.fst g.2.1) 29) i) (fun i _ => g.1 21 i (by omega) (by omega))
/-- the frame on top takes what has been read -/
theorem prE_w {k : Int} (h : XS ch n Y q o sc (j + 1) N) (hk : (Y.1 35 j).toInt = k) (h6 : 6 ≤ k) (g : ∀ x2 : Int32, x2.toInt = (j : Int) → ix x2 = j → pw (f_endsWithin x2 (Y.1 36 j) Y) (fun _ Z => pr Z Q)) : prE Y Q := by
  have h22 := (h.fe (by omega))
  have l1 : (1 : Int32).toInt = 1 := by decide
  unfold prE f_endsOne
  refine pw_let ?_
  refine pw_eq (fun x2 e2 => ?_)
  refine pw_ck (fun hc => ?_)
  have v2 : x2.toInt = (j : Int) := by
    rw [e2, ti_sub (by rw [h22, l1]; omega) (by rw [h22, l1]; have := Int32.toInt_lt (Y.1 0 22); omega), h22, l1]
    omega
  rw [ixn v2]
  refine pw_let (pw_ck (fun _ => pw_let ?_))
  refine pw_neg (by omega) (pw_neg (by omega) (pw_neg (by omega) (pw_neg (by omega) (pw_neg (by omega) (pw_neg (by omega) ?_)))))
  exact pw_bd (g x2 v2 (ixn v2)) (fun _ Z h => pw_ret h)
theorem b_shuts {v r : Int32} {t N1 q1 : Nat} (hv : 33 ≤ v.toInt ∧ v.toInt ≤ 125) (hZ : XS ch n Z q1 (o + 1) sc (j + 1 + 1) N1) (ho : 0 ≤ o ∧ o ≤ 40) (hM : NMr ch Z N1 c1) (hK : KP X Z (j + 1) N sc.length) (hr : r.toInt = (t : Int)) (ht : N ≤ t ∧ t < N1) (hk : (¬ (Z.1 20 t).toInt = 10 ∧ ¬ (Z.1 20 t).toInt = 11 ∧ ¬ (Z.1 20 t).toInt = 14) ∧ ((Z.1 20 t).toInt = 3 ↔ NM)) (hO : ∃ d, c1 = c0 ++ d ∧ OM ch Z N N1 t c0.length d) (H : HH (DQ Q) (fun q2 => CBq ch n X o sc j N c0 NM Q (q2, c1)) (sWant ch v.toInt q1)) : pw (f_shuts v r Z) (fun _ W => pr W Q) := by
  have l1 : (1 : Int32).toInt = 1 := by decide
  unfold f_shuts
  refine pw_bd (x_closes hZ ⟨by omega, by omega⟩ hv) ?_
  rintro _ X1 (⟨hty, g1, t1⟩ | ⟨hty, hd⟩)
  · rw [show o + 1 - 1 = o by omega] at g1
    have h22 := (g1.fe (by omega))
    refine pw_let ?_
    refine pw_eq (fun x3 e3 => ?_)
    refine pw_eq (fun X4 e4 => ?_)
    have v3 : x3.toInt = ((j + 1 : Nat) : Int) := by
      rw [e3, ti_sub (by rw [h22, l1]; omega) (by rw [h22, l1]; have := Int32.toInt_lt (X1.1 0 22); omega), h22, l1]
      omega
    have g4 : XS ch n X4 (nx ch q1) o sc (j + 1) N1 := by rw [e4]; exact g1.w22 v3
    refine pw_bd (b_done (X := X) (N := N) (t := t) (c1 := c1) g4 (by rw [e4]; exact (hM.tn t1).wI (by omega)) (by rw [e4]; exact (hK.tn t1).wI (by unfold KPs; omega)) hr ht ?_ (by
      obtain ⟨d, ed, od⟩ := hO
      refine ⟨d, ed, ?_⟩
      rw [e4]
      exact (od.tn hZ.kj t1).wI g1.kj (by omega)) (H.wa hty)) (fun _ W h => pw_ret h)
    rw [e4, wI_ne _ _ _ _ _ _ (by omega), t1.r 20 t (by decide)]
    exact hk
  · have hQ := H.wa0 hty
    refine pw_let ?_
    refine pw_eq (fun x3 e3 => ?_)
    refine pw_eq (fun X4 e4 => ?_)
    have d4 : wrX X4 := by rw [e4]; exact wrX_w hd (by omega)
    exact pw_bd (uw_done d4) (fun _ W d => pw_ret (pr_dd d hQ))
/-- one expression in brackets: frame p1 of the node, told to end by its own -/
theorem b_open {E : EF} (hE : SEq ch n (o + 1) E) {p1 r : Int32} {t N1 q1 : Nat} {k : Int} (hp : p1.toInt = k) (hk6 : 6 ≤ k ∧ k ≤ 14 ∧ ¬ k = 8 ∧ ¬ k = 12) (hZ : XS ch n Z q1 (o + 1) sc (j + 1) N1) (ho : 0 ≤ o ∧ o < 40) (hM : NMr ch Z N1 c1) (hK : KP X Z (j + 1) N sc.length) (hr : r.toInt = (t : Int)) (hN : N ≤ N1) (ht : N ≤ t ∧ t < N1) (H : HH (DQ Q) (fun a => ∀ Y (N2 t2 : Nat), XS ch n Y a.1 (o + 1) sc (j + 1 + 1) N2 → NMr ch Y N2 a.2 → KP X Y (j + 1) N sc.length → (Y.1 0 24).toInt = (t2 : Int) → N1 ≤ t2 → t2 < N2 → Y.1 20 t = Z.1 20 t → (Y.1 35 (j + 1)).toInt = k → Y.1 36 (j + 1) = r → (Y.1 37 (j + 1)).toInt = -1 → Y.1 39 t = Z.1 39 t → KP Z Y (j + 1) N1 sc.length → OMx ch Y N1 N2 t2 c1 a.2 → prE Y Q) (E (o + 1) sc q1 c1)) : pw (f_opened p1 r Z) (fun _ W => pr W Q) := by
  refine pw_mono (x_opened hZ p1 r) ?_
  rintro _ W ⟨gW, mW, oW⟩
  refine hE sc q1 c1 (j + 1) N1 W Q gW mW ⟨⟨by rw [oW.2.2.1]; omega, by rw [oW.2.2.1]; omega⟩, fun e => by rw [oW.2.2.1] at e; omega, fun e => by rw [oW.2.2.1] at e; omega⟩ (hM.op oW) (by omega) (by omega) (H.m (fun a H => ?_))
  rintro Y ⟨N2, t2, gY, mY, kY, hY, h1, h2, hO⟩
  have kq := kY.1
  refine H Y N2 t2 gY mY ((hK.op oW (Nat.le_refl _)).tr (kY.mono (by omega) hN (Nat.le_refl _))) hY h1 h2 ?_ ?_ ?_ ?_ ?_ ((KP.rf.op oW (Nat.le_refl _)).tr (kY.mono (by omega) (Nat.le_refl _) (Nat.le_refl _))) hO
  · rw [kq 20 t (by unfold KPs; omega)]
    exact oW.1 20 t (by omega) (by omega)
  · rw [kq 35 (j + 1) (by unfold KPs; omega), oW.2.2.1]
    exact hp
  · rw [kq 36 (j + 1) (by unfold KPs; omega)]
    exact oW.2.2.2.1
  · rw [kq 37 (j + 1) (by unfold KPs; omega)]
    exact oW.2.2.2.2
  · rw [kq 39 t (by unfold KPs; omega)]
    exact oW.1 39 t (by omega) (by omega)
/-- ( e ) -/
theorem b_paren {E : EF} (hE : SEq ch n (o + 1) E) (hnm : ¬ NM) (h : XS ch n X q o sc (j + 1) N) (hM : NMr ch X N c) (ho : 0 ≤ o ∧ o ≤ 40) {p1 : Int32} (hp1 : p1.toInt = (pl ch q : Int)) (hc : c = c0 ++ [(0, 1, (pl ch q : Int), [])]) (H : HH (DQ Q) (CBq ch n X o sc j N c0 NM Q) ((sEnter ch 40 o q).bind fun q1 => (E (o + 1) sc q1 c).bind fun r => (sWant ch 41 r.1).bind fun q2 => some (q2, r.2))) : pw (bnd (f_make (8 : Int32) p1 X) fun x54 X55 => bnd (f_opens (40 : Int32) X55) fun _ X56 => bnd (f_opened (6 : Int32) x54 X56) fun _ X57 => some ((0 : Int32), X57)) (fun _ Z => pr Z Q) := by
  have l41 : (41 : Int32).toInt = 41 := by decide
  refine pw_bd (pw_and (x_make h 8 p1) (x_make21 h 8 p1)) ?_
  rintro x54 X55 ⟨⟨⟨hr, hi⟩, g55, m55⟩, p55⟩
  refine pw_bd (x_opens g55 ho (by decide)) ?_
  rintro _ X56 (⟨ht, g56, t56⟩ | ⟨ht, hd⟩)
  · have H := H.b.en ht
    have hZ20 : X56.1 20 N = 8 := by rw [t56.r 20 N (by decide)]; exact m55.2.2.1
    refine pw_bd (b_open (X := X) (c1 := c) (N := N) (t := N) (k := 6) hE (by decide) (by omega) g56 ⟨ho.1, ht.2⟩ ((hM.mk m55 (by decide)).tn t56) ((KP.rf.mk m55 (Nat.le_refl _)).tn t56) hr (by omega) ⟨Nat.le_refl _, by omega⟩ (H.b.m (fun a H => ?_))) (fun _ W h => pw_ret h)
    intro Y N2 t2 gY mY kY hY h1 h2 h20 h35 h36 h37 _ kZ ⟨e, ee, eo⟩
    refine prE_w gY h35 (by omega) (fun x2 v2 i2 => ?_)
    unfold f_endsWithin
    rw [i2, h36, hi]
    refine pw_ck (fun _ => pw_let ?_)
    refine pw_pos h35 ?_
    refine pw_let (pw_ck (fun _ => ?_))
    refine pw_eq (fun X4 e4 => ?_)
    have h4 : X4.1 20 N = 8 := by rw [e4, wI_ne _ _ _ _ _ _ (by omega), h20, hZ20]
    have h421 : X4.1 21 N = p1 := by rw [e4, wI_ne _ _ _ _ _ _ (by omega), kZ.1 21 N (by unfold KPs; omega), t56.r 21 N (by decide)]; exact p55
    have h423 : (X4.1 23 N).toInt = (t2 : Int) := by rw [e4, wI_at]; exact hY
    have O4 : ∃ d, a.2 = c0 ++ d ∧ OM ch X4 N N2 N c0.length d := by
      refine ⟨(0, 1, (pl ch q : Int), []) :: e, by rw [ee, hc, List.append_assoc]; rfl, OM.in ⟨Nat.le_refl _, by omega, ?_, Or.inr (Or.inl ⟨t2, e, h423, ?_, Or.inl ⟨?_, ?_⟩⟩)⟩⟩
      · unfold iv
        rw [h421, hp1]
        rfl
      · have lc : c.length = c0.length + 1 := by rw [hc, List.length_append, List.length_singleton]
        rw [← lc, e4]
        exact eo.wI gY.kj (by omega)
      · unfold iv
        rw [h4]
        rfl
      · unfold iv
        rw [h421, hp1]
    refine pw_bd (b_shuts (X := X) (N := N) (t := N) (c1 := a.2) (by decide) (by rw [e4]; exact gY.wI (by omega)) ho (by rw [e4]; exact mY.wI (by omega)) (by rw [e4]; exact kY.wI (by unfold KPs; omega)) hr ⟨Nat.le_refl _, by omega⟩ (by rw [h4]; exact NMn hnm (by decide) (by decide)) O4 (by rw [l41]; exact H.b.m (fun q2 H => H.s))) (fun _ W h => pw_ret h)
  · have hQ := H.b.en0 ht
    exact pw_bd (uw_opened hd) (fun _ W d => pw_ret (pr_dd d hQ))
end RBASE
