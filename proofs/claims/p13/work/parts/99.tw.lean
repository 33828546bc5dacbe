/-! rows read and written -/
/-- what is asked at the i-th wrapping of a row -/
theorem chain_ask {u : Bool} {X : St} {G : Nat → Int32} {f : Nat → Int32} {d i : Nat} (hH : HP u X G) (hT : KT X) (h3 : K3 X) (hc : CHN X f d) (hi : i < d) : u = false ∧ (VK X (X.1 68 (ix (f i))) ∧ VK X (X.1 69 (ix (f i)))) ∧ (km X (X.1 68 (ix (f i))) = 1 ∧ km X (X.1 69 (ix (f i))) = 1) ∧ (cmpK X (X.1 68 (ix (f i))) 0 = EK X G (f (i + 1)) ∧ cmpK X (X.1 69 (ix (f i))) 0 = EK X G (f i)) ∧ (VK X (EK X G (f i)) ∧ VK X (EK X G (f (i + 1)))) ∧ FIT X (EK X G (f (i + 1))) (EK X G (f i)) ∧ ((0 ≤ (X.1 70 (ix (f i))).toInt ∧ (X.1 70 (ix (f i))).toInt ≤ 40) ∧ 0 ≤ (X.1 71 (ix (f i))).toInt ∧ (X.1 71 (ix (f i))).toInt ≤ 40) ∧ 0 ≤ (f i).toInt ∧ (f i).toInt < 1000 := by
  obtain ⟨c1, c2, c3⟩ := hc
  have rv := c1 i (by omega)
  obtain ⟨w1, w2⟩ := c2 i hi
  have e := ixc rv.1
  have hlt := rv.2.1
  have h33 := hH.1.2.1
  obtain ⟨hu, p1, p2, p3, p4, p5, p6, p7⟩ := (hH.2 (ix (f i)) (by omega)).2 w1
  rcases p7 with ⟨r1, r2, r3, r4, r5, r6⟩ | ⟨-, r2, -⟩
  · have q1 := p1.cases hT
    have q2 := p2.cases hT
    have k1 : cmpK X (X.1 68 (ix (f i))) 0 = EK X G (f (i + 1)) := by
      rw [w2]
      exact r5.symm
    have k2 : cmpK X (X.1 69 (ix (f i))) 0 = EK X G (f i) := by
      unfold EK
      rw [if_neg w1]
    have n2 : ∀ k : Int32, so X k = 4 → ¬ k.toInt = 2 := by
      intro k hk g
      obtain rfl : k = 2 := Int32.toInt_inj.mp g
      have := h3.two.2
      omega
    obtain ⟨-, -, g3, g4⟩ := p3.deep p6 (n2 _ r1) (n2 _ r2)
    have fit := g4 0 (show ((0 : Nat) : Int) < km X (X.1 68 (ix (f i))) by omega)
    rw [k1, k2] at fit
    exact ⟨hu, ⟨p1, p2⟩, ⟨by omega, by omega⟩, ⟨k1, k2⟩, ⟨by rw [← k2]; exact p2.cmp hT (by omega), by rw [← k1]; exact p1.cmp hT (by omega)⟩, fit, p4, rv.1, by omega⟩
  · have := (rv.2.2 w1).2
    omega
theorem CHN.hx {X Y : St} {G G1 : Nat → Int32} {f : Nat → Int32} {d : Nat} (h : CHN X f d) (hX : HX X Y G G1) : CHN Y f d := by
  obtain ⟨c1, c2, c3⟩ := h
  have key : ∀ i, i ≤ d → Y.1 64 (ix (f i)) = X.1 64 (ix (f i)) ∧ Y.1 67 (ix (f i)) = X.1 67 (ix (f i)) := by
    intro i hi
    have rv := c1 i hi
    have e := ixc rv.1
    have hlt := rv.2.1
    obtain ⟨⟨a, -⟩, ⟨b, -⟩, -⟩ := hX.2.2.1 (ix (f i)) (by omega)
    exact ⟨a, b⟩
  refine ⟨fun i hi => (c1 i hi).hx hX, fun i hi => ?_, ?_⟩
  · obtain ⟨a, b⟩ := key i (by omega)
    unfold wrp
    rw [a, b]
    exact c2 i hi
  · unfold wrp
    rw [(key d (Nat.le_refl _)).1]
    exact c3
theorem aro_loop {X : St} {f : Nat → Int32} {d : Nat} (hc : CHN X f d) (hd : d ≤ 20) (h33 : (X.1 0 33).toInt ≤ 1000) : ∀ (e i : Nat) (Z : St) (a2 : Int32) (N : Nat), i + e = d → e < N → a2.toInt = (i : Int) → Fr YR [16200] X Z → (∀ j, j < i → Z.1 81 j = f j) → ok (f_aroundOf_4 N a2 (f i) Z) (fun r Y => Fr YR [16200] X Y ∧ r.toInt = (d : Int) ∧ ∀ j, j < d → Y.1 81 j = f j) := by
  obtain ⟨c1, c2, c3⟩ := hc
  intro e
  induction e with
  | zero =>
    intro i Z a2 N hi hN ha hF h81
    obtain ⟨N, rfl⟩ : ∃ k, N = k + 1 := ⟨N - 1, by omega⟩
    obtain rfl : i = d := by omega
    have rv := c1 i (Nat.le_refl _)
    have hlt := rv.2.1
    show ok (f_aroundOf_4_s (f_aroundOf_4 N) a2 (f i) Z) _
    unfold f_aroundOf_4_s
    refine ok.ck (show 0 ≤ (f i).toInt ∧ (f i).toInt < ((1000 : Nat) : Int) from ⟨rv.1, by omega⟩) (ok.letE (v1 := X.1 64 (ix (f i))) (hF.1 64 _ (show (12800 : Nat) ∉ [16200] from by decide)) ?_)
    exact ok.ite (fun _ => ok.ret ⟨hF, ha, h81⟩) (fun g => absurd g c3)
  | succ e ih =>
    intro i Z a2 N hi hN ha hF h81
    obtain ⟨N, rfl⟩ : ∃ k, N = k + 1 := ⟨N - 1, by omega⟩
    have rv := c1 i (by omega)
    have hlt := rv.2.1
    obtain ⟨w1, w2⟩ := c2 i (by omega)
    have i2 : ix a2 = i := ixn ha
    have hb : 0 ≤ (f i).toInt ∧ (f i).toInt < ((1000 : Nat) : Int) := ⟨rv.1, by omega⟩
    show ok (f_aroundOf_4_s (f_aroundOf_4 N) a2 (f i) Z) _
    unfold f_aroundOf_4_s
    refine ok.ck hb (ok.letE (v1 := X.1 64 (ix (f i))) (hF.1 64 _ (show (12800 : Nat) ∉ [16200] from by decide)) ?_)
    refine ok.ite (fun g => absurd g w1) (fun _ => ok.ck (show 0 ≤ a2.toInt ∧ a2.toInt < ((21 : Nat) : Int) by omega) (ok.letV ?_))
    rw [i2]
    have hF1 : Fr YR [16200] X (wI Z 81 i (f i)) := hF.wI 81 _ _ (show (16200 : Nat) ∈ [16200] from by decide)
    have p81 : (wI Z 81 i (f i)).1 81 i = f i := wI_at _ _ _ _
    have q81 : ∀ c, c ≠ i → (wI Z 81 i (f i)).1 81 c = Z.1 81 c := fun c hcn => wI_ne _ _ _ _ _ _ (fun g => hcn g.2)
    obtain ⟨V, hV⟩ : ∃ V : St, wI Z 81 i (f i) = V := ⟨_, rfl⟩
    rw [hV] at hF1 p81 q81 ⊢
    refine ok.inc (by decide) (by omega) (fun x3 hx3 => ok.ck hb (ok.letE (v1 := f (i + 1)) ?_ ?_))
    · rw [w2]
      exact hF1.1 67 _ (show (13400 : Nat) ∉ [16200] from by decide)
    · refine ih (i + 1) V x3 N (by omega) (by omega) (by omega) hF1 (fun j hj => ?_)
      by_cases g : j = i
      · rw [g, p81]
      · rw [q81 j g]
        exact h81 j (by omega)
theorem r_aroundOf {X : St} {f : Nat → Int32} {d : Nat} (hc : CHN X f d) (hd : d ≤ 20) (h33 : (X.1 0 33).toInt ≤ 1000) : ok (f_aroundOf (f 0) X) (fun r Y => Fr YR [16200] X Y ∧ r.toInt = (d : Int) ∧ ∀ j, j < d → Y.1 81 j = f j) := by
  unfold f_aroundOf
  exact aro_loop hc hd h33 d 0 X 0 BIG (by omega) (ltBIG (by omega)) rfl Fr.rf (fun j hj => absurd hj (Nat.not_lt_zero _))
/-- what stands while the wrappings of a row are asked -/
def WAY (u : Bool) (Z : St) (G : Nat → Int32) (f : Nat → Int32) (d k : Nat) (cell : Int32) : Prop := HP u Z G ∧ CHN Z f d ∧ VV u Z G (EK Z G (f k)) (Z.1 60 (ix cell)) (Z.1 61 (ix cell))
def PRE (Z : St) (cell : Int32) (f : Nat → Int32) (d : Nat) : Prop := (KT Z ∧ K3 Z ∧ PBD Z) ∧ ((Z.1 0 18).toInt ≤ 40 ∧ 0 ≤ cell.toInt ∧ cell.toInt < 20400) ∧ ∀ i, i < d → Z.1 81 i = f i
theorem PRE.to {Z Y : St} {cell : Int32} {f : Nat → Int32} {d : Nat} (h : PRE Z cell f d) (hP : PER [13, 15, 33, 36, 43, 44, 45, 800, 1000, 1200, 1400, 1600, 1800, 2000, 12200, 12800, 13400, 13600, 13800, 14000, 14200, 14400, 14600, 16000] Z Y) : PRE Y cell f d := by
  obtain ⟨⟨a, b, c⟩, d, e⟩ := h
  refine ⟨⟨hP.2.1, b.kx hP.2.2.1, c.pot hP.2.2.2⟩, by rw [hP.1.1 0 18 (by decide)]; exact d, fun i hi => ?_⟩
  rw [hP.1.1 81 i (show (16200 : Nat) ∉ [13, 15, 33, 36, 43, 44, 45, 800, 1000, 1200, 1400, 1600, 1800, 2000, 12200, 12800, 13400, 13600, 13800, 14000, 14200, 14400, 14600, 16000] from by decide)]
  exact e i hi
def WAYQ (u : Bool) (Z Y : St) (G : Nat → Int32) (f : Nat → Int32) (d k : Nat) (cell : Int32) : Prop := (Y.1 0 43).toInt < 0 → (Z.1 0 43).toInt < 0 ∧ HX Z Y G G ∧ WAY u Y G f d k cell ∧ ∀ j, j ≠ ix cell → Y.1 61 j = Z.1 61 j
theorem rd_loop {u : Bool} {G : Nat → Int32} {cell : Int32} {f : Nat → Int32} {d : Nat} (hd : d ≤ 20) : ∀ (k : Nat) (Z : St) (a6 : Int32) (N : Nat), k < N → a6.toInt = (k : Int) - 1 → k ≤ d → PRE Z cell f d → ((Z.1 0 43).toInt < 0 → WAY u Z G f d k cell) → ok (f_readsPlace_126 N cell a6 Z) (fun _ Y => PER [13, 15, 33, 36, 43, 44, 45, 800, 1000, 1200, 1400, 1600, 1800, 2000, 12200, 12800, 13400, 13600, 13800, 14000, 14200, 14400, 14600, 16000] Z Y ∧ WAYQ u Z Y G f d 0 cell) := by
  intro k
  induction k with
  | zero =>
    intro Z a6 N hN ha hk hP hon
    obtain ⟨N, rfl⟩ : ∃ k, N = k + 1 := ⟨N - 1, by omega⟩
    show ok (f_readsPlace_126_s (f_readsPlace_126 N) cell a6 Z) _
    unfold f_readsPlace_126_s
    exact ok.ite (fun _ => ok.ret ⟨PER.rf hP.1.1, fun q => ⟨q, HX.rf, hon q, fun _ _ => rfl⟩⟩) (fun g => absurd (show a6.toInt < 0 by omega) g)
  | succ k ih =>
    intro Z a6 N hN ha hk hP hon
    obtain ⟨N, rfl⟩ : ∃ k, N = k + 1 := ⟨N - 1, by omega⟩
    show ok (f_readsPlace_126_s (f_readsPlace_126 N) cell a6 Z) _
    unfold f_readsPlace_126_s
    refine ok.ite (fun g => absurd g (by omega)) (fun _ => ok.bd r_isOn ?_)
    rintro r1 Z' ⟨rfl, h1⟩
    refine ok.ite (fun g => ok.ret ⟨PER.rf hP.1.1, fun q => by omega⟩) (fun g => ?_)
    have hz : (Z.1 0 43).toInt < 0 := by omega
    obtain ⟨w1, w2, w3⟩ := hon hz
    obtain ⟨⟨p1, p2, p3⟩, ⟨p4, p5⟩, p6⟩ := id hP
    obtain ⟨rfl, ⟨v8, v9⟩, ⟨m8, m9⟩, ⟨c8, c9⟩, ⟨vk, vk1⟩, fit, prt, fb⟩ := chain_ask (i := k) w1 p1 p2 w2 (by omega)
    have i6 : ix a6 = k := ixn (by omega)
    have hb6 : 0 ≤ a6.toInt ∧ a6.toInt < ((21 : Nat) : Int) := by omega
    have hfb : 0 ≤ (f k).toInt ∧ (f k).toInt < ((1000 : Nat) : Int) := fb
    refine ok.ck hb6 (ok.letE (v1 := f k) (by rw [i6]; exact p6 k (by omega)) (ok.ck hfb (ok.letV ?_)))
    refine ok.bd (j_elementOf p1 (by have := p3.1; omega) (by have := p3.2; omega) v8 (show 1 ≤ km Z (Z.1 68 (ix (f k))) by omega)) ?_
    rintro r2 Z' ⟨rfl, rfl⟩
    refine ok.ck hfb (ok.letV (ok.bd (j_elementOf p1 (by have := p3.1; omega) (by have := p3.2; omega) v9 (show 1 ≤ km Z (Z.1 69 (ix (f k))) by omega)) ?_))
    rintro r3 Z' ⟨rfl, rfl⟩
    refine ok.ck hfb (ok.letV (ok.ck hfb (ok.letV (ok.ck hfb (ok.letV ?_)))))
    rw [c8, c9]
    refine ok.bd (r_asks (G := G) ⟨w1, p1, p2, p3, p4, p5⟩ prt vk1 vk fit w3) ?_
    rintro r4 Y ⟨hPY, hQ⟩
    refine ok.inc (by decide) (by omega) (fun x hx => ?_)
    refine (ih Y x N (by omega) (by omega) (by omega) (hP.to hPY) (fun q => ?_)).mono ?_
    · obtain ⟨y1, y2, y3, y4⟩ := hQ q
      exact ⟨y2, w2.hx y1, by rw [EK.hx (w2.1 k (by omega)) p1 y1]; exact y3⟩
    · rintro r5 V ⟨hPV, hV⟩
      refine ⟨hPY.tr hPV (fun _ q => q), fun q => ?_⟩
      obtain ⟨v1, v2, v3, v4⟩ := hV q
      obtain ⟨y1, y2, y3, y4⟩ := hQ v1
      exact ⟨hz, y1.tr v2, v3, fun j hj => (v4 j hj).trans (y4 j hj)⟩
section RW
variable {u : Bool} {X : St} {G : Nat → Int32} {t : Ty} {sb lb n : Nat} {n1 : Int32}
theorem EK.raw {f : Nat → Int32} {d : Nat} (hc : CHN X f d) : EK X G (f d) = G (ix (f d)) := by
  unfold EK
  rw [if_pos (Classical.byContradiction hc.2.2)]
theorem w_place (h : FIN u X G t sb lb) (hn1 : n1.toInt = (n : Int)) (hn : n < 3100) {e1 : Int32} (hmt : 2 ≤ t.1) (hk : TK u X (tp t 1) e1) : ok (f_readsPlace n1 X) (fun _ Y => INF u X Y G (psh (pps t 2) e1) sb lb) := by
  have hall := h
  obtain ⟨⟨a1, a2, a3, a4⟩, ⟨b1, b2, b3⟩, a6, ⟨c1, c2, c3, c4, c5⟩, a8⟩ := h
  have z1 : (1 : Int32).toInt = 1 := rfl
  have z2 : (2 : Int32).toInt = 2 := rfl
  have en := ixn hn1
  have hb : 0 ≤ n1.toInt ∧ n1.toInt < ((3100 : Nat) : Int) := by omega
  have h33 := a1.1.2.1
  have h34 := a1.1.2.2.2
  unfold f_readsPlace
  refine ok.letV (ok.sub (by rw [z2]; omega) (fun x2 hx2 => ?_))
  rw [z2] at hx2
  have e2 : ix x2 = sb + (t.1 - 2) := ixn (by omega)
  have hb2 : 0 ≤ x2.toInt ∧ x2.toInt < ((20400 : Nat) : Int) := by omega
  have hv := a6.tp (i := 1) (by omega)
  rw [show sb + (t.1 - 1 - 1) = ix x2 by omega] at hv
  obtain ⟨s3, rv, ek⟩ := vv_take a1 hk hv
  obtain ⟨f, d, f0, hc, -, hd⟩ := r_chain a1 1001 (X.1 61 (ix x2)) (by have := rv.2.1; omega) rv
  refine ok.ck hb2 (ok.letE (v1 := f 0) f0.symm ?_)
  unfold f_within
  refine ok.bd (r_within3 h33 rfl d BIG f hc (ltBIG (by omega))) ?_
  rintro r4 X' ⟨rfl, rfl⟩
  have rvd := hc.1 d (Nat.le_refl _)
  have ed := ixc rvd.1
  have rd2 := rvd.2.1
  obtain ⟨q1, q2, q3, q4, qd, q5⟩ := (a1.2 (ix (f d)) (by omega)).1 hc.2.2
  have hbd : 0 ≤ (f d).toInt ∧ (f d).toInt < ((1000 : Nat) : Int) := by omega
  refine ok.letV (ok.sub (by rw [z1]; omega) (fun x7 hx7 => ?_))
  rw [z1] at hx7
  refine ok.ck (show 0 ≤ x7.toInt ∧ x7.toInt < ((20400 : Nat) : Int) by omega) (ok.letV (ok.ck hbd (ok.letV (ok.sub (by rw [z1]; omega) (fun x10 hx10 => ?_)))))
  rw [z1] at hx10
  refine ok.bd (s_f_in _ _ _ _) ?_
  rintro r0 X' ⟨hF0, hin⟩
  obtain rfl : X = X' := (Fr.nil hF0).symm
  have hin : (r0.toInt = 1 ∧ 0 ≤ (X.1 61 (ix x7)).toInt ∧ (X.1 61 (ix x7)).toInt ≤ x10.toInt) ∨ (r0.toInt = 0 ∧ ((X.1 61 (ix x7)).toInt < 0 ∨ x10.toInt < (X.1 61 (ix x7)).toInt)) := hin
  obtain ⟨ii, hii⟩ : ∃ z : Int32, X.1 61 (ix x7) = z := ⟨_, rfl⟩
  rw [hii] at hin ⊢
  refine ok.ite (fun c => ?_) (fun c => ?_)
  · refine ok.ck hb (ok.letV (ok.bd r_ends ?_))
    rintro r2 E ⟨hE, hE2, -⟩
    exact ok.ret (INF.off (PER.fr a2 hE (by decide)) (by decide) a8 (by decide) (hE2 (by decide)))
  · refine ok.letV (ok.sub (by rw [z1]; omega) (fun x14 hx14 => ok.letV ?_))
    rw [z1] at hx14
    have hF1 : Fr YR [31] X (wI X 0 31 x14) := Fr.rf.wI 0 31 _ (show (31 : Nat) ∈ [31] from by decide)
    have v31 : (wI X 0 31 x14).1 0 31 = x14 := wI_at _ _ _ _
    obtain ⟨V, hV⟩ : ∃ V : St, wI X 0 31 x14 = V := ⟨_, rfl⟩
    rw [hV] at hF1 v31 ⊢
    refine ok.ck hbd (ok.letE (v1 := X.1 65 (ix (f d))) (hF1.1 65 _ (show (13000 : Nat) ∉ [31] from by decide)) (ok.add (by omega) (fun x17 hx17 => ?_)))
    have hb17 : 0 ≤ x17.toInt ∧ x17.toInt < ((4000 : Nat) : Int) := by omega
    refine ok.ck hb17 (ok.letE (v1 := X.1 74 (ix x17)) (hF1.1 74 _ (show (14800 : Nat) ∉ [31] from by decide)) (ok.ck hb2 (ok.letV ?_)))
    have hF2 : Fr YR [31, 12000] X (wI V 60 (ix x2) (X.1 74 (ix x17))) := (hF1.mono (by decide)).wI 60 _ _ (show (12000 : Nat) ∈ [31, 12000] from by decide)
    have p60 : (wI V 60 (ix x2) (X.1 74 (ix x17))).1 60 (ix x2) = X.1 74 (ix x17) := wI_at _ _ _ _
    have q60 : ∀ c, c ≠ ix x2 → (wI V 60 (ix x2) (X.1 74 (ix x17))).1 60 c = X.1 60 c := fun c hcn => (wI_ne _ _ _ _ _ _ (fun g => hcn g.2)).trans (hF1.1 60 c (show (12000 : Nat) ∉ [31] from by decide))
    have r31 : (wI V 60 (ix x2) (X.1 74 (ix x17))).1 0 31 = x14 := (wI_ne _ _ _ _ _ _ (fun g => absurd g.1 (by decide))).trans v31
    obtain ⟨V2, hV2⟩ : ∃ V2 : St, wI V 60 (ix x2) (X.1 74 (ix x17)) = V2 := ⟨_, rfl⟩
    rw [hV2] at hF2 p60 q60 r31 ⊢
    refine ok.ck hbd (ok.letE (v1 := X.1 65 (ix (f d))) (hF2.1 65 _ (show (13000 : Nat) ∉ [31, 12000] from by decide)) (ok.add (by omega) (fun x21 hx21 => ?_)))
    obtain rfl : x21 = x17 := Int32.toInt_inj.mp (by omega)
    refine ok.ck hb17 (ok.letE (v1 := X.1 75 (ix x21)) (hF2.1 75 _ (show (15000 : Nat) ∉ [31, 12000] from by decide)) (ok.ck hb2 (ok.letV ?_)))
    have hF3 : Fr YR [31, 12000, 12200] X (wI V2 61 (ix x2) (X.1 75 (ix x21))) := (hF2.mono (by decide)).wI 61 _ _ (show (12200 : Nat) ∈ [31, 12000, 12200] from by decide)
    have p61 : (wI V2 61 (ix x2) (X.1 75 (ix x21))).1 61 (ix x2) = X.1 75 (ix x21) := wI_at _ _ _ _
    have q61 : ∀ c, c ≠ ix x2 → (wI V2 61 (ix x2) (X.1 75 (ix x21))).1 61 c = X.1 61 c := fun c hcn => (wI_ne _ _ _ _ _ _ (fun g => hcn g.2)).trans (hF2.1 61 c (show (12200 : Nat) ∉ [31, 12000] from by decide))
    have s60 : ∀ c, (wI V2 61 (ix x2) (X.1 75 (ix x21))).1 60 c = V2.1 60 c := fun c => wI_ne _ _ _ _ _ _ (fun g => absurd g.1 (by decide))
    have s31 : (wI V2 61 (ix x2) (X.1 75 (ix x21))).1 0 31 = x14 := (wI_ne _ _ _ _ _ _ (fun g => absurd g.1 (by decide))).trans r31
    obtain ⟨V3, hV3⟩ : ∃ V3 : St, wI V2 61 (ix x2) (X.1 75 (ix x21)) = V3 := ⟨_, rfl⟩
    rw [hV3] at hF3 p61 q61 s60 s31 ⊢
    have hK3 : KX X V3 := KX.fr hF3 (by decide)
    have hX3 : HX X V3 G G := HX.fr hF3 hK3 (by decide)
    refine ok.bd (r_aroundOf (hc.hx hX3) hd (by rw [hF3.1 0 33 (by decide)]; exact h33)) ?_
    rintro r24 Z ⟨hFZ, hr24, h81⟩
    have hXZ : Fr YR [31, 12000, 12200, 16200] X Z := (hF3.mono (by decide)).tr hFZ (by decide)
    have hKZ : KX X Z := KX.fr hXZ (by decide)
    have hHZ : HX X Z G G := HX.fr hXZ hKZ (by decide)
    have hPZ : PER [31, 12000, 12200, 16200] X Z := PER.fr a2 hXZ (by decide)
    have y60 : ∀ c, Z.1 60 c = V3.1 60 c := fun c => hFZ.1 60 c (show (12000 : Nat) ∉ [16200] from by decide)
    have y61 : ∀ c, Z.1 61 c = V3.1 61 c := fun c => hFZ.1 61 c (show (12200 : Nat) ∉ [16200] from by decide)
    refine ok.sub (by rw [z1]; omega) (fun x26 hx26 => ?_)
    rw [z1] at hx26
    have hway : WAY u Z G f d d x2 := by
      refine ⟨a1.same a2 hXZ hKZ (by decide) (by decide), hc.hx hHZ, ?_⟩
      rw [y60, y61, s60, p60, p61, EK.hx rvd a2 hHZ, EK.raw hc]
      exact (q5 (ix x21) (by have := ixc (z := x21) (by omega); omega) (by have := ixc (z := x21) (by omega); omega)).hx a2 hHZ
    refine (rd_loop (u := u) (G := G) (cell := x2) hd d Z x26 BIG (ltBIG (by omega)) (by omega) (Nat.le_refl _) ⟨⟨hPZ.2.1, a3.kx hKZ, a4.pot hPZ.2.2.2⟩, ⟨by rw [hXZ.1 0 18 (by decide)]; exact b1, by omega, by omega⟩, h81⟩ (fun _ => hway)).mono ?_
    rintro r5 Y ⟨hPY, hQ⟩
    refine ⟨(hPZ.mono (by decide)).tr (hPY.mono (by decide)) (fun _ q => q), by rw [hPY.1.1 0 46 (by decide), hXZ.1 0 46 (by decide)]; exact a8, fun hon => ?_⟩
    obtain ⟨o1, o2, ⟨o3, o4, o5⟩, o6⟩ := hQ hon
    have hXY := hHZ.tr o2
    have t60 : ∀ c, Y.1 60 c = Z.1 60 c := fun c => hPY.1.1 60 c (show (12000 : Nat) ∉ [13, 15, 33, 36, 43, 44, 45, 800, 1000, 1200, 1400, 1600, 1800, 2000, 12200, 12800, 13400, 13600, 13800, 14000, 14200, 14400, 14600, 16000] from by decide)
    have u60 : ∀ c, c ≠ sb + (t.1 - 2) → Y.1 60 c = X.1 60 c ∧ Y.1 61 c = X.1 61 c := fun c hcn => ⟨by rw [t60, y60, s60, q60 c (by omega)], by rw [o6 c (by omega), y61, q61 c (by omega)]⟩
    have u62 : ∀ c, Y.1 62 c = X.1 62 c ∧ Y.1 63 c = X.1 63 c := fun c => ⟨(hPY.1.1 62 c (show (12400 : Nat) ∉ [13, 15, 33, 36, 43, 44, 45, 800, 1000, 1200, 1400, 1600, 1800, 2000, 12200, 12800, 13400, 13600, 13800, 14000, 14200, 14400, 14600, 16000] from by decide)).trans (hXZ.1 62 c (show (12400 : Nat) ∉ [31, 12000, 12200, 16200] from by decide)), (hPY.1.1 63 c (show (12600 : Nat) ∉ [13, 15, 33, 36, 43, 44, 45, 800, 1000, 1200, 1400, 1600, 1800, 2000, 12200, 12800, 13400, 13600, 13800, 14000, 14200, 14400, 14600, 16000] from by decide)).trans (hXZ.1 63 c (show (12600 : Nat) ∉ [31, 12000, 12200, 16200] from by decide))⟩
    have ek2 : EK Y G (f 0) = e1 := by
      rw [EK.hx (hc.1 0 (Nat.zero_le _)) a2 hXY, f0]
      exact ek
    rw [ek2, e2] at o5
    refine ⟨G, hXY, o3, FRT.psh ((a6.pps 2).hx a2 hXY (fun j j1 j2 => u60 j (by have : j < sb + (t.1 - 2) := j2; omega)) (fun j _ _ => u62 j)) o5, ?_, fun j hj => u60 j (by omega), fun j _ => u62 j⟩
    rw [hPY.1.1 0 31 (by decide), hFZ.1 0 31 (by decide), s31]
    show _ = ((sb + (t.1 - 2 + 1) : Nat) : Int)
    omega
end RW
