/-! call() -/
def dpt (Z : St) (w : Int32) : Int := if 100 ≤ w.toInt then (Z.1 73 (ix w - 100)).toInt else 0
/-- the value called and its arguments, n wrappings taken off -/
def CST (u : Bool) (X Z : St) (G : Nat → Int32) (cell m b n : Nat) (kc : Int32) : Prop := HP u Z G ∧ HX X Z G G ∧ ((Z.1 60 cell).toInt = 4 ∧ FV Z (Z.1 61 cell) ∧ FA Z (Z.1 61 cell) = (m : Int) ∧ (n : Int) + dpt Z (Z.1 61 cell) ≤ 20) ∧ WCH Z n b (FC u Z (Z.1 61 cell) m) kc ∧ (∀ i, i < m → VV u Z G (FC u Z (Z.1 61 cell) i) (Z.1 60 (cell + 1 + i)) (Z.1 61 (cell + 1 + i))) ∧ ∀ j, j < cell → Z.1 61 j = X.1 61 j
/-- what a wrapped function is -/
theorem wrap_fn {u : Bool} {Z : St} {G : Nat → Int32} {w : Int32} (hH : HP u Z G) (h3 : K3 Z) (hw : FV Z w) (h100 : 100 ≤ w.toInt) : u = false ∧ ((w.toInt - 100 < (Z.1 0 33).toInt) ∧ wrp Z (ix w - 100)) ∧ (VK Z (Z.1 68 (ix w - 100)) ∧ VK Z (Z.1 69 (ix w - 100))) ∧ (so Z (Z.1 68 (ix w - 100)) = 5 ∧ so Z (Z.1 69 (ix w - 100)) = 5 ∧ km Z (Z.1 68 (ix w - 100)) = FA Z w + 1 ∧ km Z (Z.1 69 (ix w - 100)) = FA Z w + 1) ∧ (∀ i : Nat, (i : Int) ≤ FA Z w → FIT Z (cmpK Z (Z.1 68 (ix w - 100)) i) (cmpK Z (Z.1 69 (ix w - 100)) i)) ∧ ((0 ≤ (Z.1 70 (ix w - 100)).toInt ∧ (Z.1 70 (ix w - 100)).toInt ≤ 40) ∧ 0 ≤ (Z.1 71 (ix w - 100)).toInt ∧ (Z.1 71 (ix w - 100)).toInt ≤ 40) ∧ (FV Z (Z.1 67 (ix w - 100)) ∧ (Z.1 67 (ix w - 100)).toInt < w.toInt ∧ FA Z (Z.1 67 (ix w - 100)) = FA Z w ∧ (∀ i : Nat, (i : Int) ≤ FA Z w → FC false Z (Z.1 67 (ix w - 100)) i = cmpK Z (Z.1 68 (ix w - 100)) i)) ∧ dpt Z w = dpt Z (Z.1 67 (ix w - 100)) + 1 := by
  rcases hw with q | ⟨p1, p2, p3, p4, p5⟩
  · omega
  · have e := ixc (z := w) (by omega)
    obtain ⟨hu, a1, a2, a3, a4, a5, a6, a7⟩ := (hH.2 (ix w - 100) (by omega)).2 p3
    rcases a7 with ⟨-, r, -⟩ | ⟨r1, r2, r3, r4, r5, r6, r7, r8⟩
    · omega
    · have hfa : FA Z w = km Z (Z.1 69 (ix w - 100)) - 1 := by
        unfold FA
        rw [if_neg (by omega)]
      have n2 : ∀ k : Int32, so Z k = 5 → ¬ k.toInt = 2 := by
        intro k hk g
        obtain rfl : k = 2 := Int32.toInt_inj.mp g
        have := h3.two.2
        omega
      obtain ⟨-, -, g3, g4⟩ := a3.deep a6 (n2 _ r1) (n2 _ r2)
      refine ⟨hu, ⟨p2, p3⟩, ⟨a1, a2⟩, ⟨r1, r2, by omega, by omega⟩, fun i hi => g4 i (show (i : Int) < km Z (Z.1 68 (ix w - 100)) by omega), a4, ⟨r4, by omega, by omega, fun i hi => r7 i (by omega)⟩, ?_⟩
      unfold dpt
      rw [if_pos h100]
      rcases r8 with ⟨r8, r9⟩ | ⟨r8, r9⟩
      · rw [if_pos r8]
        exact r9
      · rw [if_neg (by omega), r9]
        rfl
theorem dpt.hx {X Y : St} {G G1 : Nat → Int32} {w : Int32} (hw : FV X w) (hX : HX X Y G G1) : dpt Y w = dpt X w := by
  unfold dpt
  by_cases g : 100 ≤ w.toInt
  · rw [if_pos g, if_pos g]
    rcases hw with q | ⟨p1, p2, p3, p4, p5⟩
    · omega
    · have e := ixc (z := w) (by omega)
      obtain ⟨-, ⟨-, -, -, -, -, d73⟩, -⟩ := hX.2.2.1 (ix w - 100) (by omega)
      rw [d73]
  · rw [if_neg g, if_neg g]
theorem dpt.pos {u : Bool} {Z : St} {G : Nat → Int32} {w : Int32} (hH : HP u Z G) (hw : FV Z w) : 0 ≤ dpt Z w := by
  unfold dpt
  by_cases g : 100 ≤ w.toInt
  · rw [if_pos g]
    rcases hw with q | ⟨p1, p2, p3, p4, p5⟩
    · omega
    · have e := ixc (z := w) (by omega)
      obtain ⟨hu, a1, a2, a3, a4, a5, -⟩ := (hH.2 (ix w - 100) (by omega)).2 p3
      omega
  · rw [if_neg g]
    omega
/-- the arguments are asked, one after another -/
theorem arg_loop {Z : St} {G : Nat → Int32} {cell m t0 : Nat} (hT : KT Z) (h3 : K3 Z) (hB : PBD Z) (h18 : (Z.1 0 18).toInt ≤ 40) (hcm : cell + m + 1 ≤ 20000) (ht0 : (t0 : Int) < (Z.1 0 33).toInt ∧ t0 < 1000) (hv : VK Z (Z.1 68 t0) ∧ VK Z (Z.1 69 t0)) (hk : km Z (Z.1 68 t0) = (m : Int) + 1 ∧ km Z (Z.1 69 t0) = (m : Int) + 1) (hf : ∀ i : Nat, i ≤ m → FIT Z (cmpK Z (Z.1 68 t0) i) (cmpK Z (Z.1 69 t0) i)) (hp : (0 ≤ (Z.1 70 t0).toInt ∧ (Z.1 70 t0).toInt ≤ 40) ∧ 0 ≤ (Z.1 71 t0).toInt ∧ (Z.1 71 t0).toInt ≤ 40) {r17 : Int32 → Int32 → Int32 → Int32 → St → Option (Int32 × St)} {a1 a2 a3 a4 a5 : Int32} (h3m : a3.toInt = (m : Int)) (h4 : a4.toInt = (cell : Int)) (h5 : a5.toInt = (t0 : Int)) {Q : Int32 → St → Prop} (K : ∀ V, PER [13, 15, 33, 36, 43, 44, 45, 800, 1000, 1200, 1400, 1600, 1800, 2000, 12200, 12800, 13400, 13600, 13800, 14000, 14200, 14400, 14600, 16000] Z V → ((V.1 0 43).toInt < 0 → (Z.1 0 43).toInt < 0 ∧ HX Z V G G ∧ HP false V G ∧ (∀ j, j < m → VV false V G (cmpK Z (Z.1 68 t0) j) (V.1 60 (cell + 1 + j)) (V.1 61 (cell + 1 + j))) ∧ ∀ j, j ≤ cell → V.1 61 j = Z.1 61 j) → ok (f_call_128 r17 a1 a2 a3 a4 a5 V) Q) : ∀ (e i : Nat) (V : St) (a6 : Int32) (N : Nat), i + e = m → e < N → a6.toInt = (i : Int) → PER [13, 15, 33, 36, 43, 44, 45, 800, 1000, 1200, 1400, 1600, 1800, 2000, 12200, 12800, 13400, 13600, 13800, 14000, 14200, 14400, 14600, 16000] Z V → ((V.1 0 43).toInt < 0 → (Z.1 0 43).toInt < 0 ∧ HX Z V G G ∧ HP false V G ∧ (∀ j, j < i → VV false V G (cmpK Z (Z.1 68 t0) j) (V.1 60 (cell + 1 + j)) (V.1 61 (cell + 1 + j))) ∧ (∀ j, i ≤ j → j < m → VV false V G (cmpK Z (Z.1 69 t0) j) (V.1 60 (cell + 1 + j)) (V.1 61 (cell + 1 + j))) ∧ ∀ j, j ≤ cell → V.1 61 j = Z.1 61 j) → ok (f_call_51 r17 N a1 a2 a3 a4 a5 a6 V) Q := by
  have z1 : (1 : Int32).toInt = 1 := rfl
  have i5 : ix a5 = t0 := ixn h5
  have hb5 : 0 ≤ a5.toInt ∧ a5.toInt < ((1000 : Nat) : Int) := by omega
  intro e
  induction e with
  | zero =>
    intro i V a6 N hi hN ha hP hon
    obtain ⟨N, rfl⟩ : ∃ k, N = k + 1 := ⟨N - 1, by omega⟩
    obtain rfl : i = m := by omega
    show ok (f_call_51_s r17 (f_call_51 r17 N) a1 a2 a3 a4 a5 a6 V) _
    unfold f_call_51_s
    refine ok.ite (fun _ => K V hP (fun q => ?_)) (fun g => absurd (show a3.toInt ≤ a6.toInt by omega) g)
    obtain ⟨o1, o2, o3, o4, o5, o6⟩ := hon q
    exact ⟨o1, o2, o3, o4, o6⟩
  | succ e ih =>
    intro i V a6 N hi hN ha hP hon
    obtain ⟨N, rfl⟩ : ∃ k, N = k + 1 := ⟨N - 1, by omega⟩
    have i6 : ix a6 = i := ixn ha
    show ok (f_call_51_s r17 (f_call_51 r17 N) a1 a2 a3 a4 a5 a6 V) _
    unfold f_call_51_s
    refine ok.ite (fun g => absurd g (by omega)) (fun _ => ok.bd r_isOn ?_)
    rintro r1 V' ⟨rfl, h1⟩
    refine ok.ite (fun g => K V hP (fun q => by omega)) (fun g => ?_)
    have hz : (V.1 0 43).toInt < 0 := by omega
    obtain ⟨o1, o2, o3, o4, o5, o6⟩ := hon hz
    obtain ⟨-, ⟨-, d68, d69, d70, d71, -⟩, -⟩ := o2.2.2.1 t0 ht0.1
    have hKV := hP.2.2.1
    have hTV := hP.2.1
    have v68 := hv.1.kx hKV
    have v69 := hv.2.kx hKV
    have hBV := hB.pot hP.2.2.2
    obtain ⟨s8, k8⟩ := hv.1.so_kx hKV
    obtain ⟨s9, k9⟩ := hv.2.so_kx hKV
    have c8 : cmpK V (Z.1 68 t0) i = cmpK Z (Z.1 68 t0) i := cmpK_kx hT hKV hv.1.1 hv.1.2 (show (i : Int) < km Z (Z.1 68 t0) by omega)
    have c9 : cmpK V (Z.1 69 t0) i = cmpK Z (Z.1 69 t0) i := cmpK_kx hT hKV hv.2.1 hv.2.2 (show (i : Int) < km Z (Z.1 69 t0) by omega)
    refine ok.add (by rw [z1]; omega) (fun x32 hx32 => ok.add (by rw [z1] at hx32; omega) (fun x33 hx33 => ?_))
    rw [z1] at hx32
    have e33 : ix x33 = cell + 1 + i := ixn (by omega)
    refine ok.ck hb5 (ok.letE (v1 := Z.1 69 t0) (by rw [i5]; exact d69) (ok.bd (j_paramOf hTV (by have := hBV.1; omega) (by have := hBV.2; omega) v69 (by show 0 ≤ a6.toInt ∧ a6.toInt < km V (Z.1 69 t0); omega)) ?_))
    rintro r2 V' ⟨rfl, rfl⟩
    refine ok.ck hb5 (ok.letE (v1 := Z.1 68 t0) (by rw [i5]; exact d68) (ok.bd (j_paramOf hTV (by have := hBV.1; omega) (by have := hBV.2; omega) v68 (by show 0 ≤ a6.toInt ∧ a6.toInt < km V (Z.1 68 t0); omega)) ?_))
    rintro r3 V' ⟨rfl, rfl⟩
    refine ok.ck hb5 (ok.letE (v1 := Z.1 71 t0) (by rw [i5]; exact d71) (ok.ck hb5 (ok.letE (v1 := Z.1 70 t0) (by rw [i5]; exact d70) (ok.ck hb5 (ok.letV ?_)))))
    rw [i6, c8, c9]
    have fit := (hf i (by omega)).symm
    have vk9 : VK Z (cmpK Z (Z.1 69 t0) i) := hv.2.cmp hT (by omega)
    have vk8 : VK Z (cmpK Z (Z.1 68 t0) i) := hv.1.cmp hT (by omega)
    refine ok.bd (r_asks (G := G) (cell := x33) ⟨o3, hTV, h3.kx hKV, hBV, by rw [hP.1.1 0 18 (by decide)]; exact h18, by omega, by omega⟩ ⟨hp.2, hp.1⟩ (vk9.kx hKV) (vk8.kx hKV) (fit.kx hT hKV vk9 vk8) (by rw [e33]; exact o5 i (Nat.le_refl _) (by omega))) ?_
    rintro r4 Y ⟨hPY, hQ⟩
    refine ok.inc (by decide) (by omega) (fun x hx => ?_)
    refine ih (i + 1) Y x N (by omega) (by omega) (by omega) (hP.tr hPY (fun _ q => q)) (fun q => ?_)
    obtain ⟨y1, y2, y3, y4⟩ := hQ q
    rw [e33] at y3 y4
    have y60 : ∀ j, Y.1 60 j = V.1 60 j := fun j => hPY.1.1 60 j (show (12000 : Nat) ∉ [13, 15, 33, 36, 43, 44, 45, 800, 1000, 1200, 1400, 1600, 1800, 2000, 12200, 12800, 13400, 13600, 13800, 14000, 14200, 14400, 14600, 16000] from by decide)
    refine ⟨o1, o2.tr y1, y2, fun j hj => ?_, fun j j1 j2 => ?_, fun j hj => (y4 j (by omega)).trans (o6 j hj)⟩
    · by_cases g : j = i
      · subst g
        exact y3
      · rw [y60, y4 _ (by omega)]
        exact (o4 j (by omega)).hx hTV y1
    · rw [y60, y4 _ (by omega)]
      exact (o5 j (by omega) j2).hx hTV y1
theorem call_loop {u : Bool} {X : St} {G : Nat → Int32} {cell m b : Nat} {kc : Int32} (hT : KT X) (h3 : K3 X) (hB : PBD X) (h18 : (X.1 0 18).toInt ≤ 40) (hm4 : m ≤ 4) (hcm : cell + m + 1 ≤ 20000) (hb : b ≤ 2100) {a1 a2 a3 a4 : Int32} (h3m : a3.toInt = (m : Int)) (h4 : a4.toInt = (cell : Int)) {Q : Int32 → St → Prop} (K : ∀ Z n, PER [13, 15, 33, 36, 37, 43, 44, 45, 800, 1000, 1200, 1400, 1600, 1800, 2000, 12200, 12800, 13400, 13600, 13800, 14000, 14200, 14400, 14600, 15200, 16000] X Z → (Z.1 0 37).toInt = ((b + n : Nat) : Int) → n ≤ 20 → (∀ j, j < b → Z.1 76 j = X.1 76 j) → ((Z.1 0 43).toInt < 0 → CST u X Z G cell m b n kc ∧ (Z.1 61 cell).toInt < 100) → ok (f_call_166 a1 a2 a4 Z) Q) : ∀ (D : Nat) (Z : St) (n N : Nat), D < N → PER [13, 15, 33, 36, 37, 43, 44, 45, 800, 1000, 1200, 1400, 1600, 1800, 2000, 12200, 12800, 13400, 13600, 13800, 14000, 14200, 14400, 14600, 15200, 16000] X Z → (Z.1 0 37).toInt = ((b + n : Nat) : Int) → n ≤ 20 → (∀ j, j < b → Z.1 76 j = X.1 76 j) → ((Z.1 0 43).toInt < 0 → CST u X Z G cell m b n kc ∧ (Z.1 61 cell).toInt < 100 + (D : Int)) → ok (f_call_17 N a1 a2 a3 a4 Z) Q := by
  have z1 : (1 : Int32).toInt = 1 := rfl
  have z100 : (100 : Int32).toInt = 100 := rfl
  have i4 : ix a4 = cell := ixn h4
  have hb4 : 0 ≤ a4.toInt ∧ a4.toInt < ((20400 : Nat) : Int) := by omega
  intro D
  induction D with
  | zero =>
    intro Z n N hN hP h37 hn h76 hon
    obtain ⟨N, rfl⟩ : ∃ k, N = k + 1 := ⟨N - 1, by omega⟩
    show ok (f_call_17_s (f_call_17 N) a1 a2 a3 a4 Z) _
    unfold f_call_17_s
    refine ok.bd r_isOn ?_
    rintro r1 Z' ⟨rfl, h1⟩
    refine ok.ite (fun g => K Z n hP h37 hn h76 (fun q => by omega)) (fun g => ?_)
    have hz : (Z.1 0 43).toInt < 0 := by omega
    obtain ⟨o1, o2⟩ := hon hz
    refine ok.ck hb4 (ok.letE (v1 := Z.1 61 cell) (by rw [i4]) (ok.ite (fun g2 => K Z n hP h37 hn h76 (fun q => ⟨o1, g2⟩)) (fun g2 => ?_)))
    omega
  | succ D ih =>
    intro Z n N hN hP h37 hn h76 hon
    obtain ⟨N, rfl⟩ : ∃ k, N = k + 1 := ⟨N - 1, by omega⟩
    show ok (f_call_17_s (f_call_17 N) a1 a2 a3 a4 Z) _
    unfold f_call_17_s
    refine ok.bd r_isOn ?_
    rintro r1 Z' ⟨rfl, h1⟩
    refine ok.ite (fun g => K Z n hP h37 hn h76 (fun q => by omega)) (fun g => ?_)
    have hz : (Z.1 0 43).toInt < 0 := by omega
    obtain ⟨o1, o2⟩ := hon hz
    refine ok.ck hb4 (ok.letE (v1 := Z.1 61 cell) (by rw [i4]) (ok.ite (fun g2 => K Z n hP h37 hn h76 (fun q => ⟨o1, g2⟩)) (fun g2 => ?_)))
    obtain ⟨c1, c2, ⟨c3, c4, c5, c6⟩, c7, c8, c9⟩ := o1
    have hKZ := hP.2.2.1
    have hTZ := hP.2.1
    have h3Z := h3.kx hKZ
    have hBZ := hB.pot hP.2.2.2
    have h18Z : (Z.1 0 18).toInt ≤ 40 := by
      rw [hP.1.1 0 18 (by decide)]
      exact h18
    obtain ⟨w, hw⟩ : ∃ w : Int32, Z.1 61 cell = w := ⟨_, rfl⟩
    rw [hw] at c4 c5 c6 c7 c8 o2 g2
    obtain ⟨rfl, ⟨f1, f1'⟩, ⟨f2, f3⟩, ⟨f4, f5, f6, f7⟩, f8, f9, ⟨f10, f11, f12, f13⟩, f14⟩ := wrap_fn c1 h3Z c4 (by omega)
    have ew := ixc (z := w) (by omega)
    have h33 := c1.1.2.1
    have hdp := dpt.pos c1 f10
    obtain ⟨t0, ht0⟩ : ∃ t0 : Nat, ix w - 100 = t0 := ⟨_, rfl⟩
    rw [ht0] at f1' f2 f3 f4 f5 f6 f7 f8 f9 f10 f11 f12 f13 f14 hdp
    refine ok.ck hb4 (ok.letE (v1 := w) (by rw [i4]; exact hw) (ok.sub (by rw [z100]; omega) (fun x22 hx22 => ?_)))
    rw [z100] at hx22
    have hb22 : 0 ≤ x22.toInt ∧ x22.toInt < ((1000 : Nat) : Int) := by omega
    have i22 : ix x22 = t0 := ixn (by omega)
    -- the kinds of the wrapped, as its wrapping says
    have fcw : ∀ i : Nat, i ≤ m → FC false Z w i = cmpK Z (Z.1 69 t0) i := by
      intro i hi
      unfold FC
      rw [if_neg (by decide), if_neg (by omega), ht0]
    refine arg_loop (Z := Z) (G := G) (cell := cell) (m := m) (t0 := t0) hTZ h3Z hBZ h18Z hcm ⟨by omega, by omega⟩ ⟨f2, f3⟩ ⟨by omega, by omega⟩ (fun i hi => f8 i (by omega)) f9 h3m h4 (by omega) (fun V hPV hV => ?_) m 0 Z 0 BIG (by omega) (ltBIG (by omega)) rfl (PER.rf hTZ) (fun q => ⟨q, HX.rf, c1, fun j hj => absurd hj (Nat.not_lt_zero _), fun j _ j2 => by rw [← fcw j (by omega)]; exact c8 j j2, fun _ _ => rfl⟩)
    -- the wrapping is kept, and taken off
    have e37 : (V.1 0 37).toInt = ((b + n : Nat) : Int) := by
      rw [hPV.1.1 0 37 (by decide)]
      exact h37
    have i37 : ix (V.1 0 37) = b + n := ixn e37
    have hb37 : 0 ≤ (V.1 0 37).toInt ∧ (V.1 0 37).toInt < ((2300 : Nat) : Int) := by omega
    unfold f_call_128
    refine ok.letV (ok.ck hb37 (ok.letV ?_))
    rw [i37]
    refine ok.letE (v1 := V.1 0 37) rfl (ok.add (by rw [z1]; omega) (fun x26 hx26 => ok.letV ?_))
    rw [z1] at hx26
    refine ok.ck hb22 (ok.letE (v1 := V.1 67 t0) (by rw [i22]; rfl) (ok.ck hb4 (ok.letV ?_)))
    rw [i4]
    have hF : Fr YR [37, 12200, 15200] V (wI (wI (wI V 76 (b + n) x22) 0 37 x26) 61 cell (V.1 67 t0)) := (((Fr.rf.wI 76 (b + n) _ (show (15200 : Nat) ∈ [37, 12200, 15200] from by decide)).wI 0 37 _ (show (37 : Nat) ∈ [37, 12200, 15200] from by decide)).wI 61 cell _ (show (12200 : Nat) ∈ [37, 12200, 15200] from by decide))
    have g37 : (wI (wI (wI V 76 (b + n) x22) 0 37 x26) 61 cell (V.1 67 t0)).1 0 37 = x26 := by rw [wI_ne _ 61 _ _ 0 _ (by rintro ⟨a_, -⟩; exact absurd a_ (by decide)), wI_at]
    have g61 : (wI (wI (wI V 76 (b + n) x22) 0 37 x26) 61 cell (V.1 67 t0)).1 61 cell = V.1 67 t0 := by rw [wI_at]
    have n61 : ∀ j, j ≠ cell → (wI (wI (wI V 76 (b + n) x22) 0 37 x26) 61 cell (V.1 67 t0)).1 61 j = V.1 61 j := fun j hj => by rw [wI_ne _ 61 _ _ 61 _ (by rintro ⟨-, a_⟩; exact hj a_), wI_ne _ 0 _ _ 61 _ (by rintro ⟨a_, -⟩; exact absurd a_ (by decide)), wI_ne _ 76 _ _ 61 _ (by rintro ⟨a_, -⟩; exact absurd a_ (by decide))]
    have g76 : (wI (wI (wI V 76 (b + n) x22) 0 37 x26) 61 cell (V.1 67 t0)).1 76 (b + n) = x22 := by rw [wI_ne _ 61 _ _ 76 _ (by rintro ⟨a_, -⟩; exact absurd a_ (by decide)), wI_ne _ 0 _ _ 76 _ (by rintro ⟨a_, -⟩; exact absurd a_ (by decide)), wI_at]
    have n76 : ∀ j, j ≠ b + n → (wI (wI (wI V 76 (b + n) x22) 0 37 x26) 61 cell (V.1 67 t0)).1 76 j = V.1 76 j := fun j hj => by rw [wI_ne _ 61 _ _ 76 _ (by rintro ⟨a_, -⟩; exact absurd a_ (by decide)), wI_ne _ 0 _ _ 76 _ (by rintro ⟨a_, -⟩; exact absurd a_ (by decide)), wI_ne _ 76 _ _ 76 _ (by rintro ⟨-, a_⟩; exact hj a_)]
    obtain ⟨W, hWW⟩ : ∃ W : St, wI (wI (wI V 76 (b + n) x22) 0 37 x26) 61 cell (V.1 67 t0) = W := ⟨_, rfl⟩
    rw [hWW] at hF g37 g61 n61 g76 n76 ⊢
    have hKW : KX V W := KX.fr hF (by decide)
    have hPW : PER [37, 12200, 15200] V W := PER.fr hPV.2.1 hF (by decide)
    have hPX : PER [13, 15, 33, 36, 37, 43, 44, 45, 800, 1000, 1200, 1400, 1600, 1800, 2000, 12200, 12800, 13400, 13600, 13800, 14000, 14200, 14400, 14600, 15200, 16000] X W := (hP.tr hPV (by decide)).tr hPW (by decide)
    have v76 : ∀ j, V.1 76 j = Z.1 76 j := fun j => hPV.1.1 76 j (show (15200 : Nat) ∉ [13, 15, 33, 36, 43, 44, 45, 800, 1000, 1200, 1400, 1600, 1800, 2000, 12200, 12800, 13400, 13600, 13800, 14000, 14200, 14400, 14600, 16000] from by decide)
    refine ih W (n + 1) N (by omega) hPX (by rw [g37]; omega) (by omega) (fun j hj => by rw [n76 j (by omega), v76]; exact h76 j hj) (fun q => ?_)
    rw [hF.1 0 43 (by decide)] at q
    obtain ⟨v1, v2, v3, v4, v5⟩ := hV q
    have hVW : HX V W G G := HX.fr hF hKW (by decide)
    have hZW : HX Z W G G := v2.tr hVW
    have w67 : V.1 67 t0 = Z.1 67 t0 := (v2.2.2.1 t0 (by omega)).2.1.1
    obtain ⟨⟨w64, -⟩, ⟨-, w68, w69, -⟩, -⟩ := hZW.2.2.1 t0 (by omega)
    have w60 : ∀ j, W.1 60 j = Z.1 60 j := fun j => (hF.1 60 j (show (12000 : Nat) ∉ [37, 12200, 15200] from by decide)).trans (hPV.1.1 60 j (show (12000 : Nat) ∉ [13, 15, 33, 36, 43, 44, 45, 800, 1000, 1200, 1400, 1600, 1800, 2000, 12200, 12800, 13400, 13600, 13800, 14000, 14200, 14400, 14600, 16000] from by decide))
    have w61 : W.1 61 cell = Z.1 67 t0 := g61.trans w67
    have fcn : ∀ i : Nat, i ≤ m → FC false W (Z.1 67 t0) i = cmpK Z (Z.1 68 t0) i := fun i hi => by rw [FC.hx f10 hTZ hZW (by omega)]; exact f13 i (by omega)
    have rs : ∀ k : Int32, VK Z k → so Z k = 5 → km Z k = (m : Int) + 1 → resK W k = cmpK Z k m := by
      intro k hk hs hkm
      rw [resK.kx hTZ hZW.1 hk hs]
      unfold resK
      have e5 : (Z.1 5 (ix k)).toInt = km Z k := rfl
      rw [show ix (Z.1 5 (ix k)) = m + 1 from ixn (by omega)]
      rfl
    refine ⟨⟨v3.same hPV.2.1 hF hKW (by decide) (by decide), c2.tr hZW, ?_, ?_, fun i hi => ?_, fun j hj => ?_⟩, ?_⟩
    · rw [w60, w61]
      refine ⟨c3, f10.hx hZW, by rw [FA.hx f10 hZW]; omega, ?_⟩
      rw [dpt.hx f10 hZW]
      omega
    · rw [w61, fcn m (Nat.le_refl _)]
      refine ⟨t0, by rw [g76]; omega, by have := hZW.2.1; omega, by unfold wrp; rw [w64]; exact f1', ⟨by rw [w68]; exact f2.kx hZW.1, by rw [w69]; exact f3.kx hZW.1, by rw [w69, (f3.so_kx hZW.1).1]; exact f5, by rw [w68, (f2.so_kx hZW.1).1]; exact f4⟩, by rw [w68, rs _ f2 f4 (by omega)], ?_⟩
      rw [w69, rs _ f3 f5 (by omega), ← fcw m (Nat.le_refl _)]
      exact WCH.hx hTZ hZW n _ _ (fun j hj => (n76 j (by omega)).trans (v76 j)) c7
    · rw [w61, fcn i (by omega), w60, n61 _ (by omega)]
      have := v4 i hi
      rw [hPV.1.1 60 _ (show (12000 : Nat) ∉ [13, 15, 33, 36, 43, 44, 45, 800, 1000, 1200, 1400, 1600, 1800, 2000, 12200, 12800, 13400, 13600, 13800, 14000, 14200, 14400, 14600, 16000] from by decide)] at this
      exact this.hx hPV.2.1 hVW
    · rw [n61 j (by omega), v5 j (by omega)]
      exact c9 j hj
    · rw [w61]
      omega
