/-! goesBack -/
theorem back_loop {u : Bool} {G : Nat → Int32} {b cell : Nat} {kc o1 : Int32} (hb : 1 ≤ b) (hcell : cell < 20000) : ∀ (k : Nat) (Z : St) (N : Nat) (kr : Int32), k < N → (KT Z ∧ K3 Z ∧ PBD Z) → (Z.1 0 18).toInt ≤ 40 → (Z.1 0 31).toInt = (cell : Int) + 1 → (Z.1 0 37).toInt = ((b + k : Nat) : Int) → b + k ≤ 2200 → (Z.1 76 (b - 1)).toInt < 0 → ((Z.1 0 43).toInt < 0 → HP u Z G ∧ VV u Z G kr (Z.1 60 cell) (Z.1 61 cell) ∧ WCH Z k b kr kc) → ok (f_goesBack_43 N o1 Z) (fun r Y => r = o1 ∧ PER [13, 15, 33, 36, 37, 43, 44, 45, 800, 1000, 1200, 1400, 1600, 1800, 2000, 12200, 12800, 13400, 13600, 13800, 14000, 14200, 14400, 14600, 16000] Z Y ∧ ((Y.1 0 43).toInt < 0 → (Z.1 0 43).toInt < 0 ∧ HX Z Y G G ∧ HP u Y G ∧ VV u Y G kc (Y.1 60 cell) (Y.1 61 cell) ∧ (Y.1 0 37).toInt = (b : Int) ∧ ∀ j, j ≠ cell → Y.1 61 j = Z.1 61 j)) := by
  have z1 : (1 : Int32).toInt = 1 := rfl
  intro k
  induction k with
  | zero =>
    intro Z N kr hN hP h18 h31 h37 hbk h76 hon
    obtain ⟨N, rfl⟩ : ∃ k, N = k + 1 := ⟨N - 1, by omega⟩
    show ok (f_goesBack_43_s (f_goesBack_43 N) o1 Z) _
    unfold f_goesBack_43_s
    refine ok.bd r_isOn ?_
    rintro r1 Z' ⟨rfl, h1⟩
    refine ok.ite (fun g => ok.ret ⟨rfl, PER.rf hP.1, fun q => by omega⟩) (fun g => ?_)
    obtain ⟨e1, e2, e3⟩ := hon (by omega)
    have e3 : kr = kc := e3
    refine ok.letV (ok.ite (fun g2 => by omega) (fun g2 => ok.letV (ok.sub (by rw [z1]; omega) (fun x16 hx16 => ?_))))
    rw [z1] at hx16
    have e16 : ix x16 = b - 1 := ixn (by omega)
    refine ok.ck (show 0 ≤ x16.toInt ∧ x16.toInt < ((2300 : Nat) : Int) by omega) (ok.letE (v1 := Z.1 76 (b - 1)) (by rw [e16]) (ok.ite (fun _ => ok.ret ⟨rfl, PER.rf hP.1, fun q => ⟨q, HX.rf, e1, by rw [← e3]; exact e2, by rw [h37]; rfl, fun _ _ => rfl⟩⟩) (fun g3 => absurd h76 g3)))
  | succ k ih =>
    intro Z N kr hN hP h18 h31 h37 hbk h76 hon
    obtain ⟨N, rfl⟩ : ∃ k, N = k + 1 := ⟨N - 1, by omega⟩
    show ok (f_goesBack_43_s (f_goesBack_43 N) o1 Z) _
    unfold f_goesBack_43_s
    refine ok.bd r_isOn ?_
    rintro r1 Z' ⟨rfl, h1⟩
    refine ok.ite (fun g => ok.ret ⟨rfl, PER.rf hP.1, fun q => by omega⟩) (fun g => ?_)
    have hz : (Z.1 0 43).toInt < 0 := by omega
    obtain ⟨e1, e2, w, w1, w2, w3, ⟨w4, w5, w6, w7⟩, w8, w9⟩ := hon hz
    have h33 := e1.1.2.1
    refine ok.letV (ok.ite (fun g2 => by omega) (fun g2 => ok.letV (ok.sub (by rw [z1]; omega) (fun x16 hx16 => ?_))))
    rw [z1] at hx16
    have e16 : ix x16 = b + k := ixn (by omega)
    have hb16 : 0 ≤ x16.toInt ∧ x16.toInt < ((2300 : Nat) : Int) := by omega
    refine ok.ck hb16 (ok.letE (v1 := Z.1 76 (b + k)) (by rw [e16]) (ok.ite (fun g3 => by omega) (fun _ => ok.letV (ok.sub (by rw [z1]; omega) (fun x19 hx19 => ok.letV ?_)))))
    rw [z1] at hx19
    obtain rfl : x19 = x16 := Int32.toInt_inj.mp (by omega)
    have hF : Fr YR [37] Z (wI Z 0 37 x19) := Fr.rf.wI 0 37 _ (show (37 : Nat) ∈ [37] from by decide)
    have v37 : (wI Z 0 37 x19).1 0 37 = x19 := wI_at _ _ _ _
    obtain ⟨V, hV⟩ : ∃ V : St, wI Z 0 37 x19 = V := ⟨_, rfl⟩
    rw [hV] at hF v37 ⊢
    have hKV : KX Z V := KX.fr hF (by decide)
    have hPV : PER [37] Z V := PER.fr hP.1 hF (by decide)
    have hXV : HX Z V G G := HX.fr hF hKV (by decide)
    have v76 : ∀ j, V.1 76 j = Z.1 76 j := fun j => hF.1 76 j (show (15200 : Nat) ∉ [37] from by decide)
    have v60 : ∀ j, V.1 60 j = Z.1 60 j := fun j => hF.1 60 j (show (12000 : Nat) ∉ [37] from by decide)
    have v61 : ∀ j, V.1 61 j = Z.1 61 j := fun j => hF.1 61 j (show (12200 : Nat) ∉ [37] from by decide)
    have v68 : ∀ j, V.1 68 j = Z.1 68 j := fun j => hF.1 68 j (show (13600 : Nat) ∉ [37] from by decide)
    have v69 : ∀ j, V.1 69 j = Z.1 69 j := fun j => hF.1 69 j (show (13800 : Nat) ∉ [37] from by decide)
    have v70 : ∀ j, V.1 70 j = Z.1 70 j := fun j => hF.1 70 j (show (14000 : Nat) ∉ [37] from by decide)
    have v71 : ∀ j, V.1 71 j = Z.1 71 j := fun j => hF.1 71 j (show (14200 : Nat) ∉ [37] from by decide)
    have hBV := hP.2.2.pot hPV.2.2.2
    have iw : ix (Z.1 76 (b + k)) = w := ixn w1
    have hbw : 0 ≤ (Z.1 76 (b + k)).toInt ∧ (Z.1 76 (b + k)).toInt < ((1000 : Nat) : Int) := by omega
    obtain ⟨hu, a1, a2, a3, a4, a5, a6, a7⟩ := (e1.2 w w2).2 w3
    have n2 : ∀ k : Int32, so Z k = 5 → ¬ k.toInt = 2 := by
      intro k hk g
      obtain rfl : k = 2 := Int32.toInt_inj.mp g
      have := hP.2.1.two.2
      omega
    obtain ⟨-, -, g3, g4⟩ := a3.deep a6 (n2 _ w7) (n2 _ w6)
    have q8 := w4.cases hP.1
    have q9 := w5.cases hP.1
    have g3 : km Z (Z.1 68 w) = km Z (Z.1 69 w) := g3
    obtain ⟨m, hm⟩ : ∃ m : Nat, km Z (Z.1 68 w) = (m : Int) + 1 := ⟨ix (Z.1 5 (ix (Z.1 68 w))) - 1, by
      have := ixc (z := Z.1 5 (ix (Z.1 68 w))) (by have : km Z (Z.1 68 w) = (Z.1 5 (ix (Z.1 68 w))).toInt := rfl; omega)
      have : km Z (Z.1 68 w) = (Z.1 5 (ix (Z.1 68 w))).toInt := rfl
      omega⟩
    have rs : ∀ kk : Int32, km Z kk = (m : Int) + 1 → resK Z kk = cmpK Z kk m := by
      intro kk hk
      unfold resK
      rw [show ix (Z.1 5 (ix kk)) = m + 1 from ixn hk]
      rfl
    have r8 := rs _ hm
    have r9 := rs (Z.1 69 w) (by omega)
    have fit := g4 m (show (m : Int) < km Z (Z.1 68 w) by omega)
    have vk8 : VK Z (cmpK Z (Z.1 68 w) m) := w4.cmp hP.1 (by omega)
    have vk9 : VK Z (cmpK Z (Z.1 69 w) m) := w5.cmp hP.1 (by omega)
    have c8 : cmpK V (Z.1 68 w) m = cmpK Z (Z.1 68 w) m := cmpK_kx hP.1 hKV w4.1 w4.2 (show (m : Int) < km Z (Z.1 68 w) by omega)
    have c9 : cmpK V (Z.1 69 w) m = cmpK Z (Z.1 69 w) m := cmpK_kx hP.1 hKV w5.1 w5.2 (show (m : Int) < km Z (Z.1 69 w) by omega)
    refine ok.letE (v1 := x19) v37 (ok.ck hb16 (ok.letE (v1 := Z.1 76 (b + k)) (by rw [e16, v76]) ?_))
    refine ok.letE (v1 := Z.1 0 31) (hF.1 0 31 (by decide)) (ok.sub (by rw [z1]; omega) (fun x24 hx24 => ?_))
    rw [z1] at hx24
    have e24 : ix x24 = cell := ixn (by omega)
    refine ok.ck hbw (ok.letE (v1 := Z.1 68 w) (by rw [iw, v68]) (ok.bd (j_resultOf (m := m) hPV.2.1 (by have := hBV.1; omega) (by have := hBV.2; omega) (w4.kx hKV) (show km V (Z.1 68 w) = (m : Int) + 1 by rw [(w4.so_kx hKV).2]; exact hm)) ?_))
    rintro r2 V' ⟨rfl, rfl⟩
    refine ok.ck hbw (ok.letE (v1 := Z.1 69 w) (by rw [iw, v69]) (ok.bd (j_resultOf (m := m) hPV.2.1 (by have := hBV.1; omega) (by have := hBV.2; omega) (w5.kx hKV) (show km V (Z.1 69 w) = (m : Int) + 1 by rw [(w5.so_kx hKV).2]; omega)) ?_))
    rintro r3 V' ⟨rfl, rfl⟩
    refine ok.ck hbw (ok.letE (v1 := Z.1 70 w) (by rw [iw, v70]) (ok.ck hbw (ok.letE (v1 := Z.1 71 w) (by rw [iw, v71]) (ok.ck hbw (ok.letV ?_)))))
    rw [c8, c9]
    subst hu
    refine ok.bd (r_asks (G := G) (cell := x24) ⟨e1.same hP.1 hF hKV (by decide) (by decide), hPV.2.1, hP.2.1.kx hKV, hBV, by rw [hF.1 0 18 (by decide)]; exact h18, by omega, by omega⟩ a4 (vk8.kx hKV) (vk9.kx hKV) (fit.kx hP.1 hKV vk8 vk9) (by rw [e24, v60, v61, ← r8, ← w8]; exact e2.hx hP.1 hXV)) ?_
    rintro r4 Y ⟨hPY, hQ⟩
    have y76 : ∀ j, Y.1 76 j = Z.1 76 j := fun j => (hPY.1.1 76 j (show (15200 : Nat) ∉ [13, 15, 33, 36, 43, 44, 45, 800, 1000, 1200, 1400, 1600, 1800, 2000, 12200, 12800, 13400, 13600, 13800, 14000, 14200, 14400, 14600, 16000] from by decide)).trans (v76 j)
    refine (ih Y N (resK Z (Z.1 69 w)) (by omega) ⟨hPY.2.1, (hP.2.1.kx hKV).kx hPY.2.2.1, hBV.pot hPY.2.2.2⟩ (by rw [hPY.1.1 0 18 (by decide), hF.1 0 18 (by decide)]; exact h18) (by rw [hPY.1.1 0 31 (by decide), hF.1 0 31 (by decide)]; exact h31) (by rw [hPY.1.1 0 37 (by decide), v37]; omega) (by omega) (by rw [y76]; exact h76) (fun q => ?_)).mono ?_
    · obtain ⟨y1, y2, y3, y4⟩ := hQ q
      rw [e24] at y3
      refine ⟨y2, by rw [r9]; exact y3, ?_⟩
      exact WCH.hx hP.1 (hXV.tr y1) k _ _ (fun j hj => y76 j) w9
    · rintro r5 U ⟨rfl, hPU, hU⟩
      refine ⟨rfl, ((hPV.mono (by decide)).tr hPY (by decide)).tr hPU (fun _ q => q), fun q => ?_⟩
      obtain ⟨u1, u2, u3, u4, u5, u6⟩ := hU q
      obtain ⟨y1, y2, y3, y4⟩ := hQ u1
      rw [e24] at y4
      exact ⟨hz, (hXV.tr y1).tr u2, u3, u4, u5, fun j hj => ((u6 j hj).trans (y4 j hj)).trans (v61 j)⟩
/-- the frame is left; what is turned into what -/
theorem r_back {u : Bool} {X : St} {G : Nat → Int32} {t : Ty} {sb lb c b n : Nat} {kr kc : Int32} (h : FIN u X G t sb lb) (ht1 : t.1 = 1) (htk : t.2.1 0 = kr) (h37 : (X.1 0 37).toInt = ((b + n + 1 : Nat) : Int)) (hb : b + n + 1 ≤ 2200) (h38 : (X.1 0 38).toInt = (c : Int) + 1) (hc : c ≤ 99) (hn : n ≤ 20) (h76 : 1 ≤ b → (X.1 76 (b - 1)).toInt < 0) (hw : 1 ≤ b → WCH X n b kr kc) (hb0 : b = 0 → n = 0) : ok (f_goesBack X) (fun r Y => PER [13, 15, 32, 33, 36, 37, 38, 43, 44, 45, 800, 1000, 1200, 1400, 1600, 1800, 2000, 12200, 12800, 13400, 13600, 13800, 14000, 14200, 14400, 14600, 16000] X Y ∧ Y.1 0 46 = X.1 0 46 ∧ r = X.1 77 (b + n) ∧ ((Y.1 0 43).toInt < 0 → HX X Y G G ∧ HP u Y G ∧ VV u Y G (if b = 0 then kr else kc) (Y.1 60 sb) (Y.1 61 sb) ∧ (Y.1 0 37).toInt = (b : Int) ∧ (Y.1 0 38).toInt = (c : Int) ∧ Y.1 0 32 = X.1 78 (b + n) ∧ ∀ j, j ≠ sb → Y.1 61 j = X.1 61 j)) := by
  obtain ⟨⟨a1, a2, a3, a4⟩, ⟨b1, b2, b3⟩, a6, ⟨c1, c2, c3, c4, c5⟩, a8⟩ := h
  have z1 : (1 : Int32).toInt = 1 := rfl
  unfold f_goesBack
  refine ok.letV (ok.sub (by rw [z1]; omega) (fun x2 hx2 => ok.letV ?_))
  rw [z1] at hx2
  have e2 : ix x2 = b + n := ixn (by omega)
  have hb2 : 0 ≤ x2.toInt ∧ x2.toInt < ((2300 : Nat) : Int) := by omega
  refine ok.letE (v1 := x2) (by rw [wI_at]) (ok.ck hb2 (ok.letE (v1 := X.1 77 (b + n)) (by rw [e2]; rfl) (ok.letE (v1 := x2) (by rw [wI_at]) (ok.ck hb2 (ok.letE (v1 := X.1 78 (b + n)) (by rw [e2]; rfl) (ok.letV ?_))))))
  refine ok.letE (v1 := X.1 0 38) (by rw [wI_ne _ 0 _ _ 0 _ (by decide), wI_ne _ 0 _ _ 0 _ (by decide)]) (ok.sub (by rw [z1]; omega) (fun x10 hx10 => ok.letV ?_))
  rw [z1] at hx10
  have hF : Fr YR [32, 37, 38] X (wI (wI (wI X 0 37 x2) 0 32 (X.1 78 (b + n))) 0 38 x10) := ((Fr.rf.wI 0 37 _ (show (37 : Nat) ∈ [32, 37, 38] from by decide)).wI 0 32 _ (show (32 : Nat) ∈ [32, 37, 38] from by decide)).wI 0 38 _ (show (38 : Nat) ∈ [32, 37, 38] from by decide)
  have g38 : (wI (wI (wI X 0 37 x2) 0 32 (X.1 78 (b + n))) 0 38 x10).1 0 38 = x10 := wI_at _ _ _ _
  have g32 : (wI (wI (wI X 0 37 x2) 0 32 (X.1 78 (b + n))) 0 38 x10).1 0 32 = X.1 78 (b + n) := by rw [wI_ne _ 0 _ _ 0 _ (by decide), wI_at]
  have g37 : (wI (wI (wI X 0 37 x2) 0 32 (X.1 78 (b + n))) 0 38 x10).1 0 37 = x2 := by rw [wI_ne _ 0 _ _ 0 _ (by decide), wI_ne _ 0 _ _ 0 _ (by decide), wI_at]
  obtain ⟨V, hV⟩ : ∃ V : St, wI (wI (wI X 0 37 x2) 0 32 (X.1 78 (b + n))) 0 38 x10 = V := ⟨_, rfl⟩
  rw [hV] at hF g38 g32 g37 ⊢
  have hKV : KX X V := KX.fr hF (by decide)
  have hPV : PER [32, 37, 38] X V := PER.fr a2 hF (by decide)
  have hXV : HX X V G G := HX.fr hF hKV (by decide)
  have v60 : ∀ j, V.1 60 j = X.1 60 j := fun j => hF.1 60 j (show (12000 : Nat) ∉ [32, 37, 38] from by decide)
  have v61 : ∀ j, V.1 61 j = X.1 61 j := fun j => hF.1 61 j (show (12200 : Nat) ∉ [32, 37, 38] from by decide)
  have v76 : ∀ j, V.1 76 j = X.1 76 j := fun j => hF.1 76 j (show (15200 : Nat) ∉ [32, 37, 38] from by decide)
  have v46 : V.1 0 46 = X.1 0 46 := hF.1 0 46 (by decide)
  have v31 : V.1 0 31 = X.1 0 31 := hF.1 0 31 (by decide)
  have hv0 : VV u V G kr (V.1 60 sb) (V.1 61 sb) := by
    have := a6.1 0 (by omega)
    rw [htk, Nat.add_zero] at this
    rw [v60, v61]
    exact this.hx a2 hXV
  have hHV := a1.same a2 hF hKV (by decide) (by decide)
  by_cases hbz : b = 0
  · have hn0 := hb0 hbz
    subst hbz
    subst hn0
    obtain ⟨N, hN⟩ : ∃ N, BIG = N + 1 := ⟨BIG - 1, by decide⟩
    rw [hN]
    show ok (f_goesBack_43_s (f_goesBack_43 N) _ V) _
    unfold f_goesBack_43_s
    have fin : PER [13, 15, 32, 33, 36, 37, 38, 43, 44, 45, 800, 1000, 1200, 1400, 1600, 1800, 2000, 12200, 12800, 13400, 13600, 13800, 14000, 14200, 14400, 14600, 16000] X V ∧ V.1 0 46 = X.1 0 46 ∧ X.1 77 (0 + 0) = X.1 77 (0 + 0) ∧ ((V.1 0 43).toInt < 0 → HX X V G G ∧ HP u V G ∧ VV u V G (if 0 = 0 then kr else kc) (V.1 60 sb) (V.1 61 sb) ∧ (V.1 0 37).toInt = ((0 : Nat) : Int) ∧ (V.1 0 38).toInt = (c : Int) ∧ V.1 0 32 = X.1 78 (0 + 0) ∧ ∀ j, j ≠ sb → V.1 61 j = X.1 61 j) := ⟨hPV.mono (by decide), v46, rfl, fun _ => ⟨hXV, hHV, by rw [if_pos rfl]; exact hv0, by rw [g37]; omega, by rw [g38]; omega, g32, fun j _ => v61 j⟩⟩
    refine ok.bd r_isOn ?_
    rintro r1 V' ⟨rfl, h1⟩
    refine ok.ite (fun _ => ok.ret fin) (fun _ => ok.letE (v1 := x2) g37 (ok.ite (fun _ => ok.ret fin) (fun g => absurd (show x2.toInt ≤ 0 by omega) g)))
  · refine (back_loop (u := u) (G := G) (b := b) (cell := sb) (kc := kc) (by omega) (by omega) n V BIG kr (ltBIG (by omega)) ⟨hPV.2.1, a3.kx hKV, a4.pot hPV.2.2.2⟩ (by rw [hF.1 0 18 (by decide)]; exact b1) (by rw [v31]; omega) (by rw [g37]; omega) (by omega) (by rw [v76]; exact h76 (by omega)) (fun _ => ⟨hHV, hv0, WCH.hx a2 hXV n _ _ (fun j _ => v76 j) (hw (by omega))⟩)).mono ?_
    rintro r Y ⟨hr, hPY, hQ⟩
    refine ⟨(hPV.mono (by decide)).tr (hPY.mono (by decide)) (fun _ q => q), by rw [hPY.1.1 0 46 (by decide)]; exact v46, hr, fun q => ?_⟩
    obtain ⟨y1, y2, y3, y4, y5, y6⟩ := hQ q
    exact ⟨hXV.tr y2, y3, by rw [if_neg hbz]; exact y4, y5, by rw [hPY.1.1 0 38 (by decide), g38]; omega, by rw [hPY.1.1 0 32 (by decide), g32], fun j hj => (y6 j hj).trans (v61 j)⟩
