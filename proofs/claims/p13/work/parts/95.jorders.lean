theorem pushed {X Z : St} {S : Nat → Prop} {k : Int32} {d : Nat} (q : Int) (hJ : JR X Z S) (hn : (Z.1 0 13).toInt ≤ (X.1 0 13).toInt + q ∧ (Z.1 0 15).toInt ≤ (X.1 0 15).toInt + 5 * q ∧ (Z.1 0 28).toInt ≤ (X.1 0 28).toInt + 0) (hd : (Z.1 0 30).toInt = (d : Int)) (hd2 : d < 3200) (hj : 0 ≤ (Z.1 0 29).toInt ∧ (Z.1 0 29).toInt ≤ 40) (hk : 0 ≤ k.toInt ∧ k.toInt < 6000) (h58 : ∀ i, i < d → Z.1 58 i = X.1 58 i) (h59 : ∀ i, Z.1 59 i = X.1 59 i) : ok (f_push k Z) (fun _ Y => JO X Y S 0 q ((Y.1 0 30).toInt = (d : Int) + 1 ∧ Y.1 58 d = k ∧ (∀ i, i < d → Y.1 58 i = X.1 58 i) ∧ (∀ i, Y.1 59 i = X.1 59 i)) ∧ KX Z Y) := by
  refine (j_push (X := Z) (by omega) hj hk).mono ?_
  rintro - Y ⟨hF, h30, h1, h2⟩
  have ed := ixc (z := Z.1 0 30) (by omega)
  have ei : ix (Z.1 0 30) = d := by omega
  rw [ei] at h1 h2
  have j2 : JR Z Y S := JR.fr hJ.2.1 hF (by decide) S
  refine ⟨⟨hJ.tr j2, ?_, fun _ => ⟨by omega, h1, fun i hi => (h2 i (by omega)).trans (h58 i hi), fun i => (hF.1 59 i (show (11800 : Nat) ∉ [30, 11400, 11600] from by decide)).trans (h59 i)⟩⟩, j2.2.2.1⟩
  rw [hF.1 0 13 (by decide), hF.1 0 15 (by decide), hF.1 0 28 (by decide)]
  exact hn
theorem popd {X : St} {z : Int32} {d : Nat} (hT : KT X) (hz : z.toInt = (d : Int)) (S : Nat → Prop) : JR X (wI X 0 30 z) S ∧ ((wI X 0 30 z).1 0 30).toInt = (d : Int) := ⟨JR.fr hT (Fr.rf.wI 0 30 _ (show (30 : Nat) ∈ [30] from by decide)) (by decide) S, by rw [wI_at]; exact hz⟩
theorem one_1 {X : St} (hT : KT X) (hc : (X.1 0 13).toInt ≤ 5999) (hl : (X.1 0 15).toInt ≤ 19990) (hg : 0 ≤ (X.1 0 28).toInt ∧ (X.1 0 28).toInt < 12000) (hj : 0 ≤ (X.1 0 29).toInt ∧ (X.1 0 29).toInt ≤ 40) (hw : (X.1 0 9).toInt = 0) {p1 p2 : Int32} (hop1 : inR p1 24000) (hop : (X.1 40 (ix p1)).toInt = 1) {d : Nat} (hd : (X.1 0 30).toInt = (d : Int)) (hd2 : d < 3200) : ok (f_judgeOne p1 p2 X) (fun _ Y => JO X Y (fun _ => False) 0 0 ((Y.1 0 30).toInt = (d : Int) + 1 ∧ Y.1 58 d = 0 ∧ (∀ i, i < d → Y.1 58 i = X.1 58 i) ∧ (∀ i, Y.1 59 i = X.1 59 i))) := by
  unfold f_judgeOne
  refine ok.ck hop1 (ok.letE (v1 := X.1 40 (ix p1)) rfl ?_)
  refine ok.ite (fun _ => ?_) (fun c => absurd hop c)
  refine ok.bd (pushed (X := X) (Z := X) (S := fun _ => False) (d := d) 0 (JR.fr hT (Fr.rf (L := [])) (by decide) _) (by omega) hd hd2 hj ⟨by decide, by decide⟩ (fun _ _ => rfl) (fun _ => rfl)) (fun _ Y h => ok.ret h.1)
theorem one_2 {X : St} (hT : KT X) (hc : (X.1 0 13).toInt ≤ 5999) (hl : (X.1 0 15).toInt ≤ 19990) (hg : 0 ≤ (X.1 0 28).toInt ∧ (X.1 0 28).toInt < 12000) (hj : 0 ≤ (X.1 0 29).toInt ∧ (X.1 0 29).toInt ≤ 40) (hw : (X.1 0 9).toInt = 0) {p1 p2 : Int32} (hop1 : inR p1 24000) (hop : (X.1 40 (ix p1)).toInt = 2) {d : Nat} (hd : (X.1 0 30).toInt = (d : Int)) (hd2 : d < 3200) : ok (f_judgeOne p1 p2 X) (fun _ Y => JO X Y (fun _ => False) 0 0 ((Y.1 0 30).toInt = (d : Int) + 1 ∧ Y.1 58 d = 1 ∧ (∀ i, i < d → Y.1 58 i = X.1 58 i) ∧ (∀ i, Y.1 59 i = X.1 59 i))) := by
  unfold f_judgeOne
  refine ok.ck hop1 (ok.letE (v1 := X.1 40 (ix p1)) rfl ?_)
  refine ok.ite (fun c => absurd c (by omega)) (fun _ => ?_)
  refine ok.ite (fun _ => ?_) (fun c => absurd hop c)
  refine ok.bd (pushed (X := X) (Z := X) (S := fun _ => False) (d := d) 0 (JR.fr hT (Fr.rf (L := [])) (by decide) _) (by omega) hd hd2 hj ⟨by decide, by decide⟩ (fun _ _ => rfl) (fun _ => rfl)) (fun _ Y h => ok.ret h.1)
theorem one_3 {X : St} (hT : KT X) (hc : (X.1 0 13).toInt ≤ 5999) (hl : (X.1 0 15).toInt ≤ 19990) (hg : 0 ≤ (X.1 0 28).toInt ∧ (X.1 0 28).toInt < 12000) (hj : 0 ≤ (X.1 0 29).toInt ∧ (X.1 0 29).toInt ≤ 40) (hw : (X.1 0 9).toInt = 0) {p1 p2 : Int32} (hop1 : inR p1 24000) (hop : (X.1 40 (ix p1)).toInt = 3) {d : Nat} (hd : (X.1 0 30).toInt = (d : Int)) (hd2 : d < 3200) (hn : inR p2 3100) {v : Nat} (hv : (X.1 26 (ix p2)).toInt = (v : Int)) (hv2 : v < 60) (hk : 0 ≤ (X.1 59 v).toInt ∧ (X.1 59 v).toInt < 6000) : ok (f_judgeOne p1 p2 X) (fun _ Y => JO X Y (fun _ => False) 0 0 ((Y.1 0 30).toInt = (d : Int) + 1 ∧ Y.1 58 d = X.1 59 v ∧ (∀ i, i < d → Y.1 58 i = X.1 58 i) ∧ (∀ i, Y.1 59 i = X.1 59 i))) := by
  unfold f_judgeOne
  refine ok.ck hop1 (ok.letE (v1 := X.1 40 (ix p1)) rfl ?_)
  refine ok.ite (fun c => absurd c (by omega)) (fun _ => ?_)
  refine ok.ite (fun c => absurd c (by omega)) (fun _ => ?_)
  refine ok.ite (fun _ => ?_) (fun c => absurd hop c)
  have ev : ix (X.1 26 (ix p2)) = v := by
    have := ixc (z := X.1 26 (ix p2)) (by omega)
    omega
  refine ok.ck hn (ok.letV (ok.ck ⟨by omega, show (X.1 26 (ix p2)).toInt < ((60 : Nat) : Int) by omega⟩ (ok.letE (v1 := X.1 59 v) (by rw [ev]) ?_)))
  refine ok.bd (pushed (X := X) (Z := X) (S := fun _ => False) (d := d) 0 (JR.fr hT (Fr.rf (L := [])) (by decide) _) (by omega) hd hd2 hj hk (fun _ _ => rfl) (fun _ => rfl)) (fun _ Y h => ok.ret h.1)
theorem one_4 {X : St} (hT : KT X) (hc : (X.1 0 13).toInt ≤ 5999) (hl : (X.1 0 15).toInt ≤ 19990) (hg : 0 ≤ (X.1 0 28).toInt ∧ (X.1 0 28).toInt < 12000) (hj : 0 ≤ (X.1 0 29).toInt ∧ (X.1 0 29).toInt ≤ 40) (hw : (X.1 0 9).toInt = 0) {p1 p2 : Int32} (hop1 : inR p1 24000) (hop : (X.1 40 (ix p1)).toInt = 4) {d : Nat} (hd : (X.1 0 30).toInt = (d : Int)) (hd2 : d < 3200) (h3 : K3 X) (hPF : PF X) (hn : inR p2 3100) (hv : 0 ≤ (X.1 26 (ix p2)).toInt ∧ (X.1 26 (ix p2)).toInt < (X.1 0 18).toInt) : ok (f_judgeOne p1 p2 X) (fun _ Y => JO X Y (fun _ => False) 0 1 ((Y.1 0 30).toInt = (d : Int) + 1 ∧ (FNK Y (Y.1 58 d) (X.1 15 (ix (X.1 26 (ix p2)))).toInt ∧ (∀ i : Nat, i < ix (X.1 15 (ix (X.1 26 (ix p2)))) → cmpK Y (Y.1 58 d) i = pkv X (ix (X.1 26 (ix p2))) i) ∧ cmpK Y (Y.1 58 d) (ix (X.1 15 (ix (X.1 26 (ix p2))))) = okv X (ix (X.1 26 (ix p2))) ∧ ksz Y (ix (Y.1 58 d)) ≤ 3002) ∧ (∀ i, i < d → Y.1 58 i = X.1 58 i) ∧ (∀ i, Y.1 59 i = X.1 59 i))) := by
  unfold f_judgeOne
  refine ok.ck hop1 (ok.letE (v1 := X.1 40 (ix p1)) rfl ?_)
  refine ok.ite (fun c => absurd c (by omega)) (fun _ => ?_)
  refine ok.ite (fun c => absurd c (by omega)) (fun _ => ?_)
  refine ok.ite (fun c => absurd c (by omega)) (fun _ => ?_)
  refine ok.ite (fun _ => ?_) (fun c => absurd hop c)
  refine ok.ck hn (ok.letV ?_)
  have ev := ixc hv.1
  have hpar := hPF.2 (ix (X.1 26 (ix p2))) (by omega)
  have e15 := ixc hpar.1.1
  refine ok.bd (j_functionOf hT h3 hPF hc hl hv) ?_
  rintro x12 X13 ⟨hF, hT2, hK, hn2, hf1, hf2, hf3, hf4⟩
  have j1 : JR X X13 (fun _ => False) := JR.kx hF hT2 hK (by decide) _
  have hx := ixc hf1.1
  refine ok.bd (pushed (X := X) (Z := X13) (d := d) 1 j1 (by rw [hF.1 0 28 (by decide)]; omega) (by rw [hF.1 0 30 (by decide)]; exact hd) hd2 (by rw [hF.1 0 29 (by decide)]; exact hj) ⟨hf1.1, by have := hf1.2.1; omega⟩ (fun i _ => hF.1 58 i (show (11600 : Nat) ∉ [13, 15, 800, 1000, 1200, 1400, 1600, 1800, 2000] from by decide)) (fun i => hF.1 59 i (show (11800 : Nat) ∉ [13, 15, 800, 1000, 1200, 1400, 1600, 1800, 2000] from by decide))) ?_
  rintro - Y ⟨⟨q1, q2, q3⟩, hKY⟩
  refine ok.ret ⟨q1, q2, fun hw2 => ?_⟩
  obtain ⟨p1', p2', p3', p4'⟩ := q3 hw2
  rw [p2']
  refine ⟨p1', ⟨hf1.kx hKY, fun i hi => ?_, ?_, ?_⟩, p3', p4'⟩
  · rw [cmpK_kx hT2 hKY hf1.1 hf1.2.1 (by have := hf1.2.2.2; omega)]
    exact hf2 i hi
  · rw [cmpK_kx hT2 hKY hf1.1 hf1.2.1 (by have := hf1.2.2.2; omega)]
    exact hf3
  · rw [ksz_kx hT2 q1.2.1 hKY _ (by have := hf1.2.1; omega)]
    exact hf4
theorem one_5 {X : St} (hT : KT X) (hc : (X.1 0 13).toInt ≤ 5999) (hl : (X.1 0 15).toInt ≤ 19990) (hg : 0 ≤ (X.1 0 28).toInt ∧ (X.1 0 28).toInt < 12000) (hj : 0 ≤ (X.1 0 29).toInt ∧ (X.1 0 29).toInt ≤ 40) (hw : (X.1 0 9).toInt = 0) {p1 p2 : Int32} (hop1 : inR p1 24000) (hop : (X.1 40 (ix p1)).toInt = 5) {d : Nat} (hd : (X.1 0 30).toInt = (d : Int) + 1) (hd2 : d < 3200) (hk : 0 ≤ (X.1 58 d).toInt ∧ (X.1 58 d).toInt < (X.1 0 13).toInt) (h43 : (X.1 43 (ix p1)).toInt = -1) (hn : inR p2 3100) (h3 : K3 X) : ok (f_judgeOne p1 p2 X) (fun _ Y => JO X Y (fun i => i = ix p1) 1 0 ((Y.1 0 30).toInt = (d : Int) + 1 ∧ Y.1 58 d = (0 : Int32) ∧ (∀ i, i ≠ d → Y.1 58 i = X.1 58 i) ∧ (∀ i, Y.1 59 i = X.1 59 i) ∧ GRD Y (ix p1) (X.1 58 d) (0 : Int32))) := by
  unfold f_judgeOne
  refine ok.ck hop1 (ok.letE (v1 := X.1 40 (ix p1)) rfl ?_)
  refine ok.ite (fun c => absurd c (by omega)) (fun _ => ?_)
  refine ok.ite (fun c => absurd c (by omega)) (fun _ => ?_)
  refine ok.ite (fun c => absurd c (by omega)) (fun _ => ?_)
  refine ok.ite (fun c => absurd c (by omega)) (fun _ => ?_)
  refine ok.ite (fun _ => ?_) (fun c => absurd hop c)
  have hks := h3.sz hT (k := 0) (by decide)
  have h33 := h3.1
  have zz : (0 : Int32).toInt = 0 := rfl
  refine ok.ck hn (ok.letV (ok.letV ?_))
  exact ok.bd (j_must hT hc hl hg hj hw (k1 := 0) ⟨hop1.1, hop1.2⟩ hd hd2 hk (by omega) (by rw [hks]; decide) h43 hj) (fun _ Y h => ok.ret h)
theorem one_6 {X : St} (hT : KT X) (hc : (X.1 0 13).toInt ≤ 5999) (hl : (X.1 0 15).toInt ≤ 19990) (hg : 0 ≤ (X.1 0 28).toInt ∧ (X.1 0 28).toInt < 12000) (hj : 0 ≤ (X.1 0 29).toInt ∧ (X.1 0 29).toInt ≤ 40) (hw : (X.1 0 9).toInt = 0) {p1 p2 : Int32} (hop1 : inR p1 24000) (hop : (X.1 40 (ix p1)).toInt = 6) {d : Nat} (hd : (X.1 0 30).toInt = (d : Int) + 1) (hd2 : d < 3200) (hk : 0 ≤ (X.1 58 d).toInt ∧ (X.1 58 d).toInt < (X.1 0 13).toInt) (h43 : (X.1 43 (ix p1)).toInt = -1) (hn : inR p2 3100) (h3 : K3 X) : ok (f_judgeOne p1 p2 X) (fun _ Y => JO X Y (fun i => i = ix p1) 1 0 ((Y.1 0 30).toInt = (d : Int) + 1 ∧ Y.1 58 d = (1 : Int32) ∧ (∀ i, i ≠ d → Y.1 58 i = X.1 58 i) ∧ (∀ i, Y.1 59 i = X.1 59 i) ∧ GRD Y (ix p1) (X.1 58 d) (1 : Int32))) := by
  unfold f_judgeOne
  refine ok.ck hop1 (ok.letE (v1 := X.1 40 (ix p1)) rfl ?_)
  refine ok.ite (fun c => absurd c (by omega)) (fun _ => ?_)
  refine ok.ite (fun c => absurd c (by omega)) (fun _ => ?_)
  refine ok.ite (fun c => absurd c (by omega)) (fun _ => ?_)
  refine ok.ite (fun c => absurd c (by omega)) (fun _ => ?_)
  refine ok.ite (fun c => absurd c (by omega)) (fun _ => ?_)
  refine ok.ite (fun _ => ?_) (fun c => absurd hop c)
  have hks := h3.sz hT (k := 1) (by decide)
  have h33 := h3.1
  have zz : (1 : Int32).toInt = 1 := rfl
  refine ok.ck hn (ok.letV (ok.letV ?_))
  exact ok.bd (j_must hT hc hl hg hj hw (k1 := 1) ⟨hop1.1, hop1.2⟩ hd hd2 hk (by omega) (by rw [hks]; decide) h43 hj) (fun _ Y h => ok.ret h)
theorem one_30 {X : St} (hT : KT X) (hc : (X.1 0 13).toInt ≤ 5999) (hl : (X.1 0 15).toInt ≤ 19990) (hg : 0 ≤ (X.1 0 28).toInt ∧ (X.1 0 28).toInt < 12000) (hj : 0 ≤ (X.1 0 29).toInt ∧ (X.1 0 29).toInt ≤ 40) (hw : (X.1 0 9).toInt = 0) {p1 p2 : Int32} (hop1 : inR p1 24000) (hop : (X.1 40 (ix p1)).toInt = 30) {d : Nat} (hd : (X.1 0 30).toInt = (d : Int) + 1) (hd2 : d < 3200) (hk : 0 ≤ (X.1 58 d).toInt ∧ (X.1 58 d).toInt < (X.1 0 13).toInt) (h43 : (X.1 43 (ix p1)).toInt = -1) (h3 : K3 X) (hPF : PF X) (hp2 : 0 ≤ p2.toInt ∧ p2.toInt < (X.1 0 18).toInt) (hb : inR (X.1 18 (ix p2)) 3100) : ok (f_judgeOne p1 p2 X) (fun _ Y => JO X Y (fun i => i = ix p1) 1 0 ((Y.1 0 30).toInt = (d : Int) + 1 ∧ Y.1 58 d = (okv X (ix p2)) ∧ (∀ i, i ≠ d → Y.1 58 i = X.1 58 i) ∧ (∀ i, Y.1 59 i = X.1 59 i) ∧ GRD Y (ix p1) (X.1 58 d) (okv X (ix p2)))) := by
  unfold f_judgeOne
  refine ok.ck hop1 (ok.letE (v1 := X.1 40 (ix p1)) rfl ?_)
  refine ok.ite (fun c => absurd c (by omega)) (fun _ => ?_)
  refine ok.ite (fun c => absurd c (by omega)) (fun _ => ?_)
  refine ok.ite (fun c => absurd c (by omega)) (fun _ => ?_)
  refine ok.ite (fun c => absurd c (by omega)) (fun _ => ?_)
  refine ok.ite (fun c => absurd c (by omega)) (fun _ => ?_)
  refine ok.ite (fun c => absurd c (by omega)) (fun _ => ?_)
  refine ok.ite (fun c => absurd c (by omega)) (fun _ => ?_)
  refine ok.ite (fun c => absurd c (by omega)) (fun _ => ?_)
  refine ok.ite (fun c => absurd c (by omega)) (fun _ => ?_)
  refine ok.ite (fun c => absurd c (by omega)) (fun _ => ?_)
  refine ok.ite (fun c => absurd c (by omega)) (fun _ => ?_)
  refine ok.ite (fun _ => ?_) (fun c => absurd hop c)
  have ep := ixc hp2.1
  have h40 := hPF.1.2
  have hok := hPF.okv h3.1 (p := ix p2) (by omega)
  have hpar := hPF.2 (ix p2) (by omega)
  have hs : ksz X (ix (okv X (ix p2))) ≤ 6000 := by
    by_cases ht : (X.1 19 (ix p2)).toInt = 0
    · rw [show okv X (ix p2) = 2 from if_pos ht, h3.sz hT (k := 2) (by decide)]
      decide
    · rw [show okv X (ix p2) = X.1 17 (ix p2) from if_neg ht]
      omega
  refine ok.bd (j_ownKindOf (X := X) (p := p2) (by omega)) ?_
  rintro x60 X61 ⟨rfl, rfl⟩
  refine ok.ck ⟨hp2.1, show p2.toInt < ((41 : Nat) : Int) by omega⟩ (ok.letV (ok.ck hb (ok.letV (ok.letV ?_))))
  exact ok.bd (j_must hT hc hl hg hj hw ⟨hop1.1, hop1.2⟩ hd hd2 hk hok hs h43 hj) (fun _ Y h => ok.ret h)
theorem one_8 {X : St} (hT : KT X) (hc : (X.1 0 13).toInt ≤ 5999) (hl : (X.1 0 15).toInt ≤ 19990) (hg : 0 ≤ (X.1 0 28).toInt ∧ (X.1 0 28).toInt < 12000) (hj : 0 ≤ (X.1 0 29).toInt ∧ (X.1 0 29).toInt ≤ 40) (hw : (X.1 0 9).toInt = 0) {p1 p2 : Int32} (hop1 : inR p1 24000) (hop : (X.1 40 (ix p1)).toInt = 8) {d : Nat} (hd : (X.1 0 30).toInt = (d : Int) + 1) (hd2 : d < 3200) (hk : 0 ≤ (X.1 58 d).toInt ∧ (X.1 58 d).toInt < (X.1 0 13).toInt) (h43 : (X.1 43 (ix p1)).toInt = -1) (hn : inR p2 3100) (h3 : K3 X) : ok (f_judgeOne p1 p2 X) (fun _ Y => JO X Y (fun i => i = ix p1) 1 1 ((Y.1 0 30).toInt = (d : Int) + 1 ∧ (∃ k1 e, Y.1 58 d = k1 ∧ ROWK Y k1 e ∧ GRD Y (ix p1) (X.1 58 d) k1 ∧ (0 ≤ e.toInt ∧ e.toInt < (Y.1 0 13).toInt) ∧ (k1 = X.1 58 d ∨ ksz Y (ix k1) = 2)) ∧ (∀ i, i ≠ d → Y.1 58 i = X.1 58 i) ∧ (∀ i, Y.1 59 i = X.1 59 i))) := by
  unfold f_judgeOne
  refine ok.ck hop1 (ok.letE (v1 := X.1 40 (ix p1)) rfl ?_)
  refine ok.ite (fun c => absurd c (by omega)) (fun _ => ?_)
  refine ok.ite (fun c => absurd c (by omega)) (fun _ => ?_)
  refine ok.ite (fun c => absurd c (by omega)) (fun _ => ?_)
  refine ok.ite (fun c => absurd c (by omega)) (fun _ => ?_)
  refine ok.ite (fun c => absurd c (by omega)) (fun _ => ?_)
  refine ok.ite (fun c => absurd c (by omega)) (fun _ => ?_)
  refine ok.ite (fun c => absurd c (by omega)) (fun _ => ?_)
  refine ok.ite (fun _ => ?_) (fun c => absurd hop c)
  refine ok.ck hn (ok.letV ?_)
  exact ok.bd (j_row hT hc hl hg hj hw h3 ⟨hop1.1, hop1.2⟩ hd hd2 hk h43) (fun _ Y h => ok.ret h)
theorem one_9 {X : St} (hT : KT X) (hc : (X.1 0 13).toInt ≤ 5999) (hl : (X.1 0 15).toInt ≤ 19990) (hg : 0 ≤ (X.1 0 28).toInt ∧ (X.1 0 28).toInt < 12000) (hj : 0 ≤ (X.1 0 29).toInt ∧ (X.1 0 29).toInt ≤ 40) (hw : (X.1 0 9).toInt = 0) {p1 p2 : Int32} (hop1 : inR p1 24000) (hop : (X.1 40 (ix p1)).toInt = 9) {d : Nat} (hd : (X.1 0 30).toInt = (d : Int) + 1) (hd2 : d < 3200) (hk : 0 ≤ (X.1 58 d).toInt ∧ (X.1 58 d).toInt < (X.1 0 13).toInt) (h43 : (X.1 43 (ix p1)).toInt = -1) (hn : inR p2 3100) (h3 : K3 X) : ok (f_judgeOne p1 p2 X) (fun _ Y => JO X Y (fun i => i = ix p1) 1 1 ((Y.1 0 30).toInt = (d : Int) + 1 ∧ (∃ k1 e, Y.1 58 d = k1 ∧ ROWK Y k1 e ∧ GRD Y (ix p1) (X.1 58 d) k1 ∧ (0 ≤ e.toInt ∧ e.toInt < (Y.1 0 13).toInt) ∧ (k1 = X.1 58 d ∨ ksz Y (ix k1) = 2)) ∧ (∀ i, i ≠ d → Y.1 58 i = X.1 58 i) ∧ (∀ i, Y.1 59 i = X.1 59 i))) := by
  unfold f_judgeOne
  refine ok.ck hop1 (ok.letE (v1 := X.1 40 (ix p1)) rfl ?_)
  refine ok.ite (fun c => absurd c (by omega)) (fun _ => ?_)
  refine ok.ite (fun c => absurd c (by omega)) (fun _ => ?_)
  refine ok.ite (fun c => absurd c (by omega)) (fun _ => ?_)
  refine ok.ite (fun c => absurd c (by omega)) (fun _ => ?_)
  refine ok.ite (fun c => absurd c (by omega)) (fun _ => ?_)
  refine ok.ite (fun c => absurd c (by omega)) (fun _ => ?_)
  refine ok.ite (fun c => absurd c (by omega)) (fun _ => ?_)
  refine ok.ite (fun c => absurd c (by omega)) (fun _ => ?_)
  refine ok.ite (fun _ => ?_) (fun c => absurd hop c)
  refine ok.ck hn (ok.letV ?_)
  exact ok.bd (j_row hT hc hl hg hj hw h3 ⟨hop1.1, hop1.2⟩ hd hd2 hk h43) (fun _ Y h => ok.ret h)
theorem one_11 {X : St} (hT : KT X) (hc : (X.1 0 13).toInt ≤ 5999) (hl : (X.1 0 15).toInt ≤ 19990) (hg : 0 ≤ (X.1 0 28).toInt ∧ (X.1 0 28).toInt < 12000) (hj : 0 ≤ (X.1 0 29).toInt ∧ (X.1 0 29).toInt ≤ 40) (hw : (X.1 0 9).toInt = 0) {p1 p2 : Int32} (hop1 : inR p1 24000) (hop : (X.1 40 (ix p1)).toInt = 11) {d : Nat} (hd : (X.1 0 30).toInt = (d : Int) + 3) (hd2 : d + 2 < 3200) (hk : 0 ≤ (X.1 58 (d + 2)).toInt ∧ (X.1 58 (d + 2)).toInt < (X.1 0 13).toInt) (h43 : (X.1 43 (ix p1)).toInt = -1) (hr : 0 ≤ (X.1 58 d).toInt ∧ (X.1 58 d).toInt < (X.1 0 13).toInt) (hm : 1 ≤ (X.1 5 (ix (X.1 58 d))).toInt) (hs : ksz X (ix (cmpK X (X.1 58 d) 0)) ≤ 6000) (hn : inR p2 3100) (hb : inR (X.1 25 (ix p2)) 3100) : ok (f_judgeOne p1 p2 X) (fun _ Y => JO X Y (fun i => i = ix p1) 1 0 ((Y.1 0 30).toInt = (d : Int) + 3 ∧ Y.1 58 (d + 2) = (cmpK X (X.1 58 d) 0) ∧ (∀ i, i ≠ d + 2 → Y.1 58 i = X.1 58 i) ∧ (∀ i, Y.1 59 i = X.1 59 i) ∧ GRD Y (ix p1) (X.1 58 (d + 2)) (cmpK X (X.1 58 d) 0))) := by
  unfold f_judgeOne
  refine ok.ck hop1 (ok.letE (v1 := X.1 40 (ix p1)) rfl ?_)
  refine ok.ite (fun c => absurd c (by omega)) (fun _ => ?_)
  refine ok.ite (fun c => absurd c (by omega)) (fun _ => ?_)
  refine ok.ite (fun c => absurd c (by omega)) (fun _ => ?_)
  refine ok.ite (fun c => absurd c (by omega)) (fun _ => ?_)
  refine ok.ite (fun c => absurd c (by omega)) (fun _ => ?_)
  refine ok.ite (fun c => absurd c (by omega)) (fun _ => ?_)
  refine ok.ite (fun c => absurd c (by omega)) (fun _ => ?_)
  refine ok.ite (fun c => absurd c (by omega)) (fun _ => ?_)
  refine ok.ite (fun c => absurd c (by omega)) (fun _ => ?_)
  refine ok.ite (fun c => absurd c (by omega)) (fun _ => ?_)
  refine ok.ite (fun _ => ?_) (fun c => absurd hop c)
  have z3 : (3 : Int32).toInt = 3 := rfl
  have hlt := cmpK_lt hT hr.1 hr.2 (i := 0) (by omega)
  refine ok.letV (ok.sub (by rw [z3]; omega) (fun x51 hx => ?_))
  rw [z3] at hx
  have e51 := ixc (z := x51) (by omega)
  have i51 : ix x51 = d := by omega
  refine ok.ck ⟨by omega, show x51.toInt < ((3200 : Nat) : Int) by omega⟩ (ok.letE (v1 := X.1 58 d) (by rw [i51]) ?_)
  refine ok.bd (j_elementOf hT (by omega) (by omega) hr hm) ?_
  rintro x53 X54 ⟨rfl, rfl⟩
  refine ok.ck hn (ok.letV (ok.ck hb (ok.letV (ok.letV ?_))))
  refine ok.bd (j_must hT hc hl hg hj hw (d := d + 2) ⟨hop1.1, hop1.2⟩ (by omega) hd2 hk (by omega) hs h43 hj) ?_
  rintro - Y ⟨q1, q2, q3⟩
  refine ok.ret ⟨q1, q2, fun hw2 => ?_⟩
  obtain ⟨a, b, c, e, f⟩ := q3 hw2
  exact ⟨by omega, b, c, e, f⟩
theorem one_7 {X : St} (hT : KT X) (hc : (X.1 0 13).toInt ≤ 5999) (hl : (X.1 0 15).toInt ≤ 19990) (hg : 0 ≤ (X.1 0 28).toInt ∧ (X.1 0 28).toInt < 12000) (hj : 0 ≤ (X.1 0 29).toInt ∧ (X.1 0 29).toInt ≤ 40) (hw : (X.1 0 9).toInt = 0) {p1 p2 : Int32} (hop1 : inR p1 24000) (hop : (X.1 40 (ix p1)).toInt = 7) {d : Nat} (hd : (X.1 0 30).toInt = (d : Int) + 1) (hd2 : d < 3200) (hk : 0 ≤ (X.1 58 d).toInt ∧ (X.1 58 d).toInt < (X.1 0 13).toInt) (h43 : (X.1 43 (ix p1)).toInt = -1) (hn : inR p2 3100) (h3 : K3 X) (hmany : 0 ≤ (X.1 27 (ix p2)).toInt ∧ (X.1 27 (ix p2)).toInt ≤ 4) : ok (f_judgeOne p1 p2 X) (fun _ Y => JO X Y (fun i => i = ix p1) 1 1 ((Y.1 0 30).toInt = (d : Int) + 1 ∧ (∃ k1, Y.1 58 d = k1 ∧ FNK Y k1 (X.1 27 (ix p2)).toInt ∧ GRD Y (ix p1) (X.1 58 d) k1 ∧ (k1 = X.1 58 d ∨ ksz Y (ix k1) ≤ 6)) ∧ (∀ i, i ≠ d → Y.1 58 i = X.1 58 i) ∧ (∀ i, Y.1 59 i = X.1 59 i))) := by
  unfold f_judgeOne
  refine ok.ck hop1 (ok.letE (v1 := X.1 40 (ix p1)) rfl ?_)
  refine ok.ite (fun c => absurd c (by omega)) (fun _ => ?_)
  refine ok.ite (fun c => absurd c (by omega)) (fun _ => ?_)
  refine ok.ite (fun c => absurd c (by omega)) (fun _ => ?_)
  refine ok.ite (fun c => absurd c (by omega)) (fun _ => ?_)
  refine ok.ite (fun c => absurd c (by omega)) (fun _ => ?_)
  refine ok.ite (fun c => absurd c (by omega)) (fun _ => ?_)
  refine ok.ite (fun _ => ?_) (fun c => absurd hop c)
  refine ok.bd (R := fun _ Y => JO X Y (fun i => i = ix p1) 1 1 ((Y.1 0 30).toInt = (d : Int) + 1 ∧ (∃ k1, Y.1 58 d = k1 ∧ FNK Y k1 (X.1 27 (ix p2)).toInt ∧ GRD Y (ix p1) (X.1 58 d) k1 ∧ (k1 = X.1 58 d ∨ ksz Y (ix k1) ≤ 6)) ∧ (∀ i, i ≠ d → Y.1 58 i = X.1 58 i) ∧ (∀ i, Y.1 59 i = X.1 59 i))) ?_ (fun _ Y h => ok.ret h)
  have z1 : (1 : Int32).toInt = 1 := rfl
  have z2 : (2 : Int32).toInt = 2 := rfl
  have ek := ixc hk.1
  unfold f_judgeCallee
  refine ok.letV (ok.sub (by rw [z1]; omega) (fun x2 hx2 => ?_))
  rw [z1] at hx2
  have e2 := ixc (z := x2) (by omega)
  have i2 : ix x2 = d := by omega
  refine ok.ck ⟨by omega, show x2.toInt < ((3200 : Nat) : Int) by omega⟩ (ok.letE (v1 := X.1 58 d) (by rw [i2]) ?_)
  refine ok.ite (fun c => ?_) (fun c => ?_)
  · have hk2 : X.1 58 d = 2 := Int32.toInt_inj.mp c
    refine ok.ck hn (ok.letV ?_)
    refine ok.bd (j_anyFunction hT h3 hc hl hmany) ?_
    rintro x6 X7 ⟨hF7, h7T, h7K, ⟨m13, m15⟩, hR, hcm, hsz⟩
    have e28 : X7.1 0 28 = X.1 0 28 := hF7.1 0 28 (by decide)
    have e29 : X7.1 0 29 = X.1 0 29 := hF7.1 0 29 (by decide)
    have e30 : X7.1 0 30 = X.1 0 30 := hF7.1 0 30 (by decide)
    have hkk := h7K.1
    have h33 := h3.1
    have c58 : ∀ i, X7.1 58 i = X.1 58 i := fun i => hF7.1 58 i (show (11600 : Nat) ∉ [13, 15, 800, 1000, 1200, 1400, 1600, 1800, 2000] from by decide)
    have c59 : ∀ i, X7.1 59 i = X.1 59 i := fun i => hF7.1 59 i (show (11800 : Nat) ∉ [13, 15, 800, 1000, 1200, 1400, 1600, 1800, 2000] from by decide)
    have j7 : JR X X7 (fun i => i = ix p1) := JR.kx hF7 h7T h7K (by decide) _
    refine ok.ck hn (ok.letV ?_)
    refine ok.letE (v1 := X.1 0 29) e29 ?_
    refine ok.bd (j_guards (X := X7) ⟨hop1.1, hop1.2⟩ (by rw [e28]; exact hg)) ?_
    rintro - X9 hG
    obtain ⟨g1, g2, g3, g4, g5, g6, g7, g8, g9⟩ := hG.jr h7T (by rw [e28]; exact hg.1) (FIT.intro (Or.inr (Or.inl c))) (by rw [hF7.1 43 _ (show (8600 : Nat) ∉ [13, 15, 800, 1000, 1200, 1400, 1600, 1800, 2000] from by decide)]; exact h43) (by rw [e29]; exact hj) (by omega) (by omega) ⟨hR.1, hR.2.1⟩
    refine ok.letE (v1 := X.1 0 30) (g6.trans e30) (ok.sub (by rw [z1]; omega) (fun x8 hx8 => ?_))
    rw [z1] at hx8
    have e8 := ixc (z := x8) (by omega)
    have i8 : ix x8 = d := by omega
    refine ok.ck ⟨by omega, show x8.toInt < ((3200 : Nat) : Int) by omega⟩ (ok.letV (ok.ret ?_))
    have hF9 : Fr YR [11600] X9 (wI X9 58 (ix x8) x6) := Fr.rf.wI 58 _ _ (show (11600 : Nat) ∈ [11600] from by decide)
    have r58 : (wI X9 58 (ix x8) x6).1 58 d = x6 := by rw [i8, wI_at]
    have o58 : ∀ i, i ≠ d → (wI X9 58 (ix x8) x6).1 58 i = X9.1 58 i := fun i hi => wI_ne _ 58 _ _ 58 _ (fun q => hi (q.2.trans i8))
    obtain ⟨Y, hY⟩ : ∃ Y : St, wI X9 58 (ix x8) x6 = Y := ⟨_, rfl⟩
    rw [hY] at hF9 r58 o58 ⊢
    have j9 : JR X9 Y (fun _ => False) := JR.fr g1.2.1 hF9 (by decide) _
    have n13 : Y.1 0 13 = X7.1 0 13 := (hF9.1 0 13 (by decide)).trans g8
    have n15 : Y.1 0 15 = X7.1 0 15 := (hF9.1 0 15 (by decide)).trans g9
    have n28 : Y.1 0 28 = X9.1 0 28 := hF9.1 0 28 (by decide)
    rw [e28] at g3
    have k79 : KX X7 Y := g1.2.2.1.tr j9.2.2.1
    have hx6 := ixc hR.1
    refine ⟨(j7.tr g1).tr (j9.mono (fun _ q => q.elim)), ⟨by rw [n13]; exact m13, by rw [n15]; omega, by rw [n28]; exact g3⟩, fun _ => ⟨by rw [hF9.1 0 30 (by decide), g6, e30]; exact hd, ⟨x6, r58, hR.kx k79, ?_, Or.inr ?_⟩, fun i hi => by rw [o58 i hi, g4, c58], fun i => by rw [hF9.1 59 i (show (11800 : Nat) ∉ [11600] from by decide), g5, c59]⟩⟩
    · rw [hk2] at *
      exact g2.jr g1.2.1 j9 (fun q => q) (by rw [g8, z2]; omega) (by rw [g8]; exact ⟨hR.1, hR.2.1⟩)
    · rw [ksz_kx h7T j9.2.1 k79 _ (by have := hR.2.1; omega)]
      exact hsz
  · have ink : inR (X.1 58 d) 6000 := ⟨hk.1, show (X.1 58 d).toInt < ((6000 : Nat) : Int) by omega⟩
    refine ok.ck ink (ok.letV ?_)
    refine ok.ite (fun c5 => ?_) (fun c5 => ?_)
    · obtain ⟨q1, q2, q3, q4, q5⟩ := hT.2.2 (ix (X.1 58 d)) (by omega)
      refine ok.ck ink (ok.letV (ok.sub (by rw [z1]; omega) (fun x6 hx6 => ?_)))
      rw [z1] at hx6
      refine ok.ck hn (ok.letV ?_)
      refine ok.ite (fun c6 => ok.ret ?_) (fun c6 => ?_)
      · exact ⟨JR.fr hT (Fr.rf (L := [])) (by decide) _, by omega, fun _ => ⟨hd, ⟨_, rfl, ⟨hk.1, hk.2, c5, by omega⟩, Or.inl ⟨rfl, h43⟩, Or.inl rfl⟩, fun _ _ => rfl, fun _ => rfl⟩⟩
      · refine ok.ck hn (ok.letV ?_)
        refine ok.bd (j_fails (X := X) (by decide) hw) ?_
        rintro - Y ⟨hF, hw2⟩
        exact ok.ret (bad hT hF hw2 (by decide) (by decide))
    · refine ok.ck hn (ok.letV ?_)
      refine ok.bd (j_fails (X := X) (by decide) hw) ?_
      rintro - Y ⟨hF, hw2⟩
      exact ok.ret (bad hT hF hw2 (by decide) (by decide))
theorem one_15 {X : St} (hT : KT X) (hc : (X.1 0 13).toInt ≤ 5999) (hl : (X.1 0 15).toInt ≤ 19990) (hg : 0 ≤ (X.1 0 28).toInt ∧ (X.1 0 28).toInt < 12000) (hj : 0 ≤ (X.1 0 29).toInt ∧ (X.1 0 29).toInt ≤ 40) (hw : (X.1 0 9).toInt = 0) {p1 p2 : Int32} (hop1 : inR p1 24000) (hop : (X.1 40 (ix p1)).toInt = 15) {d : Nat} (hd : (X.1 0 30).toInt = (d : Int) + 1) (hd2 : d < 3200) : ok (f_judgeOne p1 p2 X) (fun _ Y => JO X Y (fun _ => False) 0 0 ((Y.1 0 30).toInt = (d : Int) ∧ (∀ i, i < d → Y.1 58 i = X.1 58 i) ∧ (∀ i, Y.1 59 i = X.1 59 i))) := by
  unfold f_judgeOne
  refine ok.ck hop1 (ok.letE (v1 := X.1 40 (ix p1)) rfl ?_)
  refine ok.ite (fun c => absurd c (by omega)) (fun _ => ?_)
  refine ok.ite (fun c => absurd c (by omega)) (fun _ => ?_)
  refine ok.ite (fun c => absurd c (by omega)) (fun _ => ?_)
  refine ok.ite (fun c => absurd c (by omega)) (fun _ => ?_)
  refine ok.ite (fun c => absurd c (by omega)) (fun _ => ?_)
  refine ok.ite (fun c => absurd c (by omega)) (fun _ => ?_)
  refine ok.ite (fun c => absurd c (by omega)) (fun _ => ?_)
  refine ok.ite (fun c => absurd c (by omega)) (fun _ => ?_)
  refine ok.ite (fun c => absurd c (by omega)) (fun _ => ?_)
  refine ok.ite (fun c => absurd c (by omega)) (fun _ => ?_)
  refine ok.ite (fun c => absurd c (by omega)) (fun _ => ?_)
  refine ok.ite (fun c => absurd c (by omega)) (fun _ => ?_)
  refine ok.bd (R := fun _ Y => JO X Y (fun _ => False) 0 0 ((Y.1 0 30).toInt = (d : Int) ∧ (∀ i, i < d → Y.1 58 i = X.1 58 i) ∧ (∀ i, Y.1 59 i = X.1 59 i))) ?_ (fun _ Y h => ok.ret h)
  unfold f_judgeMore
  refine ok.ck hop1 (ok.letE (v1 := X.1 40 (ix p1)) rfl ?_)
  refine ok.ite (fun c => absurd c (by omega)) (fun _ => ?_)
  refine ok.ite (fun c => absurd c (by omega)) (fun _ => ?_)
  refine ok.ite (fun _ => ?_) (fun c => absurd hop c)
  have z1 : (1 : Int32).toInt = 1 := rfl
  refine ok.letV (ok.sub (by rw [z1]; omega) (fun z hz => ok.letV (ok.ret ?_)))
  rw [z1] at hz
  have hF : Fr YR [30] X (wI X 0 30 z) := Fr.rf.wI 0 30 _ (show (30 : Nat) ∈ [30] from by decide)
  obtain ⟨a, b⟩ := popd (X := X) (z := z) (d := d) hT (by omega) (fun _ => False)
  refine ⟨a, ?_, fun _ => ⟨b, fun i _ => hF.1 58 i (show (11600 : Nat) ∉ [30] from by decide), fun i => hF.1 59 i (show (11800 : Nat) ∉ [30] from by decide)⟩⟩
  rw [hF.1 0 13 (by decide), hF.1 0 15 (by decide), hF.1 0 28 (by decide)]
  omega
theorem one_29 {X : St} (hT : KT X) (hc : (X.1 0 13).toInt ≤ 5999) (hl : (X.1 0 15).toInt ≤ 19990) (hg : 0 ≤ (X.1 0 28).toInt ∧ (X.1 0 28).toInt < 12000) (hj : 0 ≤ (X.1 0 29).toInt ∧ (X.1 0 29).toInt ≤ 40) (hw : (X.1 0 9).toInt = 0) {p1 p2 : Int32} (hop1 : inR p1 24000) (hop : (X.1 40 (ix p1)).toInt = 29) {d : Nat} (hd : (X.1 0 30).toInt = (d : Int) + 1) (hd2 : d < 3200) : ok (f_judgeOne p1 p2 X) (fun _ Y => JO X Y (fun _ => False) 0 0 ((Y.1 0 30).toInt = (d : Int) ∧ (∀ i, i < d → Y.1 58 i = X.1 58 i) ∧ (∀ i, Y.1 59 i = X.1 59 i))) := by
  unfold f_judgeOne
  refine ok.ck hop1 (ok.letE (v1 := X.1 40 (ix p1)) rfl ?_)
  refine ok.ite (fun c => absurd c (by omega)) (fun _ => ?_)
  refine ok.ite (fun c => absurd c (by omega)) (fun _ => ?_)
  refine ok.ite (fun c => absurd c (by omega)) (fun _ => ?_)
  refine ok.ite (fun c => absurd c (by omega)) (fun _ => ?_)
  refine ok.ite (fun c => absurd c (by omega)) (fun _ => ?_)
  refine ok.ite (fun c => absurd c (by omega)) (fun _ => ?_)
  refine ok.ite (fun c => absurd c (by omega)) (fun _ => ?_)
  refine ok.ite (fun c => absurd c (by omega)) (fun _ => ?_)
  refine ok.ite (fun c => absurd c (by omega)) (fun _ => ?_)
  refine ok.ite (fun c => absurd c (by omega)) (fun _ => ?_)
  refine ok.ite (fun c => absurd c (by omega)) (fun _ => ?_)
  refine ok.ite (fun c => absurd c (by omega)) (fun _ => ?_)
  refine ok.bd (R := fun _ Y => JO X Y (fun _ => False) 0 0 ((Y.1 0 30).toInt = (d : Int) ∧ (∀ i, i < d → Y.1 58 i = X.1 58 i) ∧ (∀ i, Y.1 59 i = X.1 59 i))) ?_ (fun _ Y h => ok.ret h)
  unfold f_judgeMore
  refine ok.ck hop1 (ok.letE (v1 := X.1 40 (ix p1)) rfl ?_)
  refine ok.ite (fun c => absurd c (by omega)) (fun _ => ?_)
  refine ok.ite (fun c => absurd c (by omega)) (fun _ => ?_)
  refine ok.ite (fun c => absurd c (by omega)) (fun _ => ?_)
  refine ok.ite (fun c => absurd c (by omega)) (fun _ => ?_)
  refine ok.ite (fun c => absurd c (by omega)) (fun _ => ?_)
  refine ok.ite (fun c => absurd c (by omega)) (fun _ => ?_)
  refine ok.ite (fun c => absurd c (by omega)) (fun _ => ?_)
  refine ok.ite (fun c => absurd c (by omega)) (fun _ => ?_)
  refine ok.ite (fun c => absurd c (by omega)) (fun _ => ?_)
  refine ok.ite (fun c => absurd c (by omega)) (fun _ => ?_)
  refine ok.ite (fun c => absurd c (by omega)) (fun _ => ?_)
  refine ok.ite (fun c => absurd c (by omega)) (fun _ => ?_)
  refine ok.ite (fun c => absurd c (by omega)) (fun _ => ?_)
  refine ok.ite (fun c => absurd c (by omega)) (fun _ => ?_)
  refine ok.ite (fun c => absurd c (by omega)) (fun _ => ?_)
  refine ok.ite (fun _ => ?_) (fun c => absurd hop c)
  have z1 : (1 : Int32).toInt = 1 := rfl
  refine ok.letV (ok.sub (by rw [z1]; omega) (fun z hz => ok.letV (ok.ret ?_)))
  rw [z1] at hz
  have hF : Fr YR [30] X (wI X 0 30 z) := Fr.rf.wI 0 30 _ (show (30 : Nat) ∈ [30] from by decide)
  obtain ⟨a, b⟩ := popd (X := X) (z := z) (d := d) hT (by omega) (fun _ => False)
  refine ⟨a, ?_, fun _ => ⟨b, fun i _ => hF.1 58 i (show (11600 : Nat) ∉ [30] from by decide), fun i => hF.1 59 i (show (11800 : Nat) ∉ [30] from by decide)⟩⟩
  rw [hF.1 0 13 (by decide), hF.1 0 15 (by decide), hF.1 0 28 (by decide)]
  omega
theorem one_31 {X : St} (hT : KT X) (hc : (X.1 0 13).toInt ≤ 5999) (hl : (X.1 0 15).toInt ≤ 19990) (hg : 0 ≤ (X.1 0 28).toInt ∧ (X.1 0 28).toInt < 12000) (hj : 0 ≤ (X.1 0 29).toInt ∧ (X.1 0 29).toInt ≤ 40) (hw : (X.1 0 9).toInt = 0) {p1 p2 : Int32} (hop1 : inR p1 24000) (hop : (X.1 40 (ix p1)).toInt = 31) {d : Nat} (hd : (X.1 0 30).toInt = (d : Int) + 1) (hd2 : d < 3200) : ok (f_judgeOne p1 p2 X) (fun _ Y => JO X Y (fun _ => False) 0 0 ((Y.1 0 30).toInt = (d : Int) ∧ (∀ i, i < d → Y.1 58 i = X.1 58 i) ∧ (∀ i, Y.1 59 i = X.1 59 i))) := by
  unfold f_judgeOne
  refine ok.ck hop1 (ok.letE (v1 := X.1 40 (ix p1)) rfl ?_)
  refine ok.ite (fun c => absurd c (by omega)) (fun _ => ?_)
  refine ok.ite (fun c => absurd c (by omega)) (fun _ => ?_)
  refine ok.ite (fun c => absurd c (by omega)) (fun _ => ?_)
  refine ok.ite (fun c => absurd c (by omega)) (fun _ => ?_)
  refine ok.ite (fun c => absurd c (by omega)) (fun _ => ?_)
  refine ok.ite (fun c => absurd c (by omega)) (fun _ => ?_)
  refine ok.ite (fun c => absurd c (by omega)) (fun _ => ?_)
  refine ok.ite (fun c => absurd c (by omega)) (fun _ => ?_)
  refine ok.ite (fun c => absurd c (by omega)) (fun _ => ?_)
  refine ok.ite (fun c => absurd c (by omega)) (fun _ => ?_)
  refine ok.ite (fun c => absurd c (by omega)) (fun _ => ?_)
  refine ok.ite (fun c => absurd c (by omega)) (fun _ => ?_)
  refine ok.bd (R := fun _ Y => JO X Y (fun _ => False) 0 0 ((Y.1 0 30).toInt = (d : Int) ∧ (∀ i, i < d → Y.1 58 i = X.1 58 i) ∧ (∀ i, Y.1 59 i = X.1 59 i))) ?_ (fun _ Y h => ok.ret h)
  unfold f_judgeMore
  refine ok.ck hop1 (ok.letE (v1 := X.1 40 (ix p1)) rfl ?_)
  refine ok.ite (fun c => absurd c (by omega)) (fun _ => ?_)
  refine ok.ite (fun c => absurd c (by omega)) (fun _ => ?_)
  refine ok.ite (fun c => absurd c (by omega)) (fun _ => ?_)
  refine ok.ite (fun c => absurd c (by omega)) (fun _ => ?_)
  refine ok.ite (fun c => absurd c (by omega)) (fun _ => ?_)
  refine ok.ite (fun c => absurd c (by omega)) (fun _ => ?_)
  refine ok.ite (fun c => absurd c (by omega)) (fun _ => ?_)
  refine ok.ite (fun c => absurd c (by omega)) (fun _ => ?_)
  refine ok.ite (fun c => absurd c (by omega)) (fun _ => ?_)
  refine ok.ite (fun c => absurd c (by omega)) (fun _ => ?_)
  refine ok.ite (fun c => absurd c (by omega)) (fun _ => ?_)
  refine ok.ite (fun c => absurd c (by omega)) (fun _ => ?_)
  refine ok.ite (fun c => absurd c (by omega)) (fun _ => ?_)
  refine ok.ite (fun c => absurd c (by omega)) (fun _ => ?_)
  refine ok.ite (fun c => absurd c (by omega)) (fun _ => ?_)
  refine ok.ite (fun c => absurd c (by omega)) (fun _ => ?_)
  refine ok.ite (fun _ => ?_) (fun c => absurd hop c)
  have z1 : (1 : Int32).toInt = 1 := rfl
  refine ok.letV (ok.sub (by rw [z1]; omega) (fun z hz => ok.letV (ok.ret ?_)))
  rw [z1] at hz
  have hF : Fr YR [30] X (wI X 0 30 z) := Fr.rf.wI 0 30 _ (show (30 : Nat) ∈ [30] from by decide)
  obtain ⟨a, b⟩ := popd (X := X) (z := z) (d := d) hT (by omega) (fun _ => False)
  refine ⟨a, ?_, fun _ => ⟨b, fun i _ => hF.1 58 i (show (11600 : Nat) ∉ [30] from by decide), fun i => hF.1 59 i (show (11800 : Nat) ∉ [30] from by decide)⟩⟩
  rw [hF.1 0 13 (by decide), hF.1 0 15 (by decide), hF.1 0 28 (by decide)]
  omega
theorem one_13 {X : St} (hT : KT X) (hc : (X.1 0 13).toInt ≤ 5999) (hl : (X.1 0 15).toInt ≤ 19990) (hg : 0 ≤ (X.1 0 28).toInt ∧ (X.1 0 28).toInt < 12000) (hj : 0 ≤ (X.1 0 29).toInt ∧ (X.1 0 29).toInt ≤ 40) (hw : (X.1 0 9).toInt = 0) {p1 p2 : Int32} (hop1 : inR p1 24000) (hop : (X.1 40 (ix p1)).toInt = 13) {d v : Nat} (hd : (X.1 0 30).toInt = (d : Int) + 1) (hd2 : d < 3200) (hn : inR p2 3100) (hv : (X.1 26 (ix p2)).toInt = (v : Int)) (hv2 : v < 60) : ok (f_judgeOne p1 p2 X) (fun _ Y => JO X Y (fun _ => False) 0 0 ((Y.1 0 30).toInt = (d : Int) ∧ (∀ i, Y.1 58 i = X.1 58 i) ∧ Y.1 59 v = X.1 58 d ∧ (∀ i, i ≠ v → Y.1 59 i = X.1 59 i))) := by
  unfold f_judgeOne
  refine ok.ck hop1 (ok.letE (v1 := X.1 40 (ix p1)) rfl ?_)
  refine ok.ite (fun c => absurd c (by omega)) (fun _ => ?_)
  refine ok.ite (fun c => absurd c (by omega)) (fun _ => ?_)
  refine ok.ite (fun c => absurd c (by omega)) (fun _ => ?_)
  refine ok.ite (fun c => absurd c (by omega)) (fun _ => ?_)
  refine ok.ite (fun c => absurd c (by omega)) (fun _ => ?_)
  refine ok.ite (fun c => absurd c (by omega)) (fun _ => ?_)
  refine ok.ite (fun c => absurd c (by omega)) (fun _ => ?_)
  refine ok.ite (fun c => absurd c (by omega)) (fun _ => ?_)
  refine ok.ite (fun c => absurd c (by omega)) (fun _ => ?_)
  refine ok.ite (fun c => absurd c (by omega)) (fun _ => ?_)
  refine ok.ite (fun c => absurd c (by omega)) (fun _ => ?_)
  refine ok.ite (fun c => absurd c (by omega)) (fun _ => ?_)
  refine ok.bd (R := fun _ Y => JO X Y (fun _ => False) 0 0 ((Y.1 0 30).toInt = (d : Int) ∧ (∀ i, Y.1 58 i = X.1 58 i) ∧ Y.1 59 v = X.1 58 d ∧ (∀ i, i ≠ v → Y.1 59 i = X.1 59 i))) ?_ (fun _ Y h => ok.ret h)
  unfold f_judgeMore
  refine ok.ck hop1 (ok.letE (v1 := X.1 40 (ix p1)) rfl ?_)
  refine ok.ite (fun c => absurd c (by omega)) (fun _ => ?_)
  refine ok.ite (fun _ => ?_) (fun c => absurd hop c)
  have z1 : (1 : Int32).toInt = 1 := rfl
  refine ok.letV (ok.sub (by rw [z1]; omega) (fun z hz => ok.letV ?_))
  rw [z1] at hz
  have hF : Fr YR [30] X (wI X 0 30 z) := Fr.rf.wI 0 30 _ (show (30 : Nat) ∈ [30] from by decide)
  obtain ⟨a, b⟩ := popd (X := X) (z := z) (d := d) hT (by omega) (fun _ => False)
  obtain ⟨Z, hZ⟩ : ∃ Z : St, wI X 0 30 z = Z := ⟨_, rfl⟩
  rw [hZ] at hF a b ⊢
  have ev : ix (X.1 26 (ix p2)) = v := by
    have := ixc (z := X.1 26 (ix p2)) (by omega)
    omega
  have ed : ix (Z.1 0 30) = d := by
    have := ixc (z := Z.1 0 30) (by omega)
    omega
  refine ok.ck hn (ok.letE (v1 := X.1 26 (ix p2)) (hF.1 26 _ (show (5200 : Nat) ∉ [30] from by decide)) (ok.letV (ok.ck ⟨by omega, show (Z.1 0 30).toInt < ((3200 : Nat) : Int) by omega⟩ (ok.letE (v1 := X.1 58 d) (by rw [ed]; exact hF.1 58 d (show (11600 : Nat) ∉ [30] from by decide)) (ok.ck ⟨by omega, show (X.1 26 (ix p2)).toInt < ((60 : Nat) : Int) by omega⟩ (ok.letV (ok.ret ?_)))))))
  rw [ev]
  have hF2 : Fr YR [11800] Z (wI Z 59 v (X.1 58 d)) := Fr.rf.wI 59 _ _ (show (11800 : Nat) ∈ [11800] from by decide)
  refine ⟨a.tr (JR.fr a.2.1 hF2 (by decide) _), ?_, fun _ => ⟨by rw [hF2.1 0 30 (by decide)]; exact b, fun i => (hF2.1 58 i (show (11600 : Nat) ∉ [11800] from by decide)).trans (hF.1 58 i (show (11600 : Nat) ∉ [30] from by decide)), wI_at _ 59 _ _, fun i hi => (wI_ne _ 59 _ _ 59 _ (fun q => hi q.2)).trans (hF.1 59 i (show (11800 : Nat) ∉ [30] from by decide))⟩⟩
  rw [hF2.1 0 13 (by decide), hF2.1 0 15 (by decide), hF2.1 0 28 (by decide), hF.1 0 13 (by decide), hF.1 0 15 (by decide), hF.1 0 28 (by decide)]
  omega
theorem one_20 {X : St} (hT : KT X) (hc : (X.1 0 13).toInt ≤ 5999) (hl : (X.1 0 15).toInt ≤ 19990) (hg : 0 ≤ (X.1 0 28).toInt ∧ (X.1 0 28).toInt < 12000) (hj : 0 ≤ (X.1 0 29).toInt ∧ (X.1 0 29).toInt ≤ 40) (hw : (X.1 0 9).toInt = 0) {p1 p2 : Int32} (hop1 : inR p1 24000) (hop : (X.1 40 (ix p1)).toInt = 20) {d : Nat} (hd : (X.1 0 30).toInt = (d : Int) + 1) (hd2 : d + 3 < 3200) : ok (f_judgeOne p1 p2 X) (fun _ Y => JO X Y (fun _ => False) 0 0 ((Y.1 0 30).toInt = (d : Int) + 1 ∧ Y.1 58 d = 0 ∧ (∀ i, i < d → Y.1 58 i = X.1 58 i) ∧ (∀ i, Y.1 59 i = X.1 59 i))) := by
  unfold f_judgeOne
  refine ok.ck hop1 (ok.letE (v1 := X.1 40 (ix p1)) rfl ?_)
  refine ok.ite (fun c => absurd c (by omega)) (fun _ => ?_)
  refine ok.ite (fun c => absurd c (by omega)) (fun _ => ?_)
  refine ok.ite (fun c => absurd c (by omega)) (fun _ => ?_)
  refine ok.ite (fun c => absurd c (by omega)) (fun _ => ?_)
  refine ok.ite (fun c => absurd c (by omega)) (fun _ => ?_)
  refine ok.ite (fun c => absurd c (by omega)) (fun _ => ?_)
  refine ok.ite (fun c => absurd c (by omega)) (fun _ => ?_)
  refine ok.ite (fun c => absurd c (by omega)) (fun _ => ?_)
  refine ok.ite (fun c => absurd c (by omega)) (fun _ => ?_)
  refine ok.ite (fun c => absurd c (by omega)) (fun _ => ?_)
  refine ok.ite (fun c => absurd c (by omega)) (fun _ => ?_)
  refine ok.ite (fun c => absurd c (by omega)) (fun _ => ?_)
  refine ok.bd (R := fun _ Y => JO X Y (fun _ => False) 0 0 ((Y.1 0 30).toInt = (d : Int) + 1 ∧ Y.1 58 d = 0 ∧ (∀ i, i < d → Y.1 58 i = X.1 58 i) ∧ (∀ i, Y.1 59 i = X.1 59 i))) ?_ (fun _ Y h => ok.ret h)
  unfold f_judgeMore
  refine ok.ck hop1 (ok.letE (v1 := X.1 40 (ix p1)) rfl ?_)
  refine ok.ite (fun c => absurd c (by omega)) (fun _ => ?_)
  refine ok.ite (fun c => absurd c (by omega)) (fun _ => ?_)
  refine ok.ite (fun c => absurd c (by omega)) (fun _ => ?_)
  refine ok.ite (fun c => absurd c (by omega)) (fun _ => ?_)
  refine ok.ite (fun c => absurd c (by omega)) (fun _ => ?_)
  refine ok.ite (fun c => absurd c (by omega)) (fun _ => ?_)
  refine ok.ite (fun _ => ?_) (fun c => absurd hop c)
  have zn : (1 : Int32).toInt = 1 := rfl
  refine ok.letV (ok.sub (by rw [zn]; omega) (fun z hz => ok.letV ?_))
  rw [zn] at hz
  have hF : Fr YR [30] X (wI X 0 30 z) := Fr.rf.wI 0 30 _ (show (30 : Nat) ∈ [30] from by decide)
  obtain ⟨a, b⟩ := popd (X := X) (z := z) (d := d) hT (by omega) (fun _ => False)
  obtain ⟨Z, hZ⟩ : ∃ Z : St, wI X 0 30 z = Z := ⟨_, rfl⟩
  rw [hZ] at hF a b ⊢
  have e13 : Z.1 0 13 = X.1 0 13 := hF.1 0 13 (by decide)
  have e15 : Z.1 0 15 = X.1 0 15 := hF.1 0 15 (by decide)
  have e28 : Z.1 0 28 = X.1 0 28 := hF.1 0 28 (by decide)
  have e29 : Z.1 0 29 = X.1 0 29 := hF.1 0 29 (by decide)
  have c58 : ∀ i, Z.1 58 i = X.1 58 i := fun i => hF.1 58 i (show (11600 : Nat) ∉ [30] from by decide)
  have c59 : ∀ i, Z.1 59 i = X.1 59 i := fun i => hF.1 59 i (show (11800 : Nat) ∉ [30] from by decide)
  exact ok.bd (pushed (X := X) (Z := Z) (d := d) 0 a (by rw [e13, e15, e28]; omega) b (by omega) (by rw [e29]; exact hj) ⟨by decide, by decide⟩ (fun i _ => c58 i) c59) (fun _ Y h => ok.ret h.1)
theorem one_21 {X : St} (hT : KT X) (hc : (X.1 0 13).toInt ≤ 5999) (hl : (X.1 0 15).toInt ≤ 19990) (hg : 0 ≤ (X.1 0 28).toInt ∧ (X.1 0 28).toInt < 12000) (hj : 0 ≤ (X.1 0 29).toInt ∧ (X.1 0 29).toInt ≤ 40) (hw : (X.1 0 9).toInt = 0) {p1 p2 : Int32} (hop1 : inR p1 24000) (hop : (X.1 40 (ix p1)).toInt = 21) {d : Nat} (hd : (X.1 0 30).toInt = (d : Int) + 1) (hd2 : d + 3 < 3200) : ok (f_judgeOne p1 p2 X) (fun _ Y => JO X Y (fun _ => False) 0 0 ((Y.1 0 30).toInt = (d : Int) + 1 ∧ Y.1 58 d = 0 ∧ (∀ i, i < d → Y.1 58 i = X.1 58 i) ∧ (∀ i, Y.1 59 i = X.1 59 i))) := by
  unfold f_judgeOne
  refine ok.ck hop1 (ok.letE (v1 := X.1 40 (ix p1)) rfl ?_)
  refine ok.ite (fun c => absurd c (by omega)) (fun _ => ?_)
  refine ok.ite (fun c => absurd c (by omega)) (fun _ => ?_)
  refine ok.ite (fun c => absurd c (by omega)) (fun _ => ?_)
  refine ok.ite (fun c => absurd c (by omega)) (fun _ => ?_)
  refine ok.ite (fun c => absurd c (by omega)) (fun _ => ?_)
  refine ok.ite (fun c => absurd c (by omega)) (fun _ => ?_)
  refine ok.ite (fun c => absurd c (by omega)) (fun _ => ?_)
  refine ok.ite (fun c => absurd c (by omega)) (fun _ => ?_)
  refine ok.ite (fun c => absurd c (by omega)) (fun _ => ?_)
  refine ok.ite (fun c => absurd c (by omega)) (fun _ => ?_)
  refine ok.ite (fun c => absurd c (by omega)) (fun _ => ?_)
  refine ok.ite (fun c => absurd c (by omega)) (fun _ => ?_)
  refine ok.bd (R := fun _ Y => JO X Y (fun _ => False) 0 0 ((Y.1 0 30).toInt = (d : Int) + 1 ∧ Y.1 58 d = 0 ∧ (∀ i, i < d → Y.1 58 i = X.1 58 i) ∧ (∀ i, Y.1 59 i = X.1 59 i))) ?_ (fun _ Y h => ok.ret h)
  unfold f_judgeMore
  refine ok.ck hop1 (ok.letE (v1 := X.1 40 (ix p1)) rfl ?_)
  refine ok.ite (fun c => absurd c (by omega)) (fun _ => ?_)
  refine ok.ite (fun c => absurd c (by omega)) (fun _ => ?_)
  refine ok.ite (fun c => absurd c (by omega)) (fun _ => ?_)
  refine ok.ite (fun c => absurd c (by omega)) (fun _ => ?_)
  refine ok.ite (fun c => absurd c (by omega)) (fun _ => ?_)
  refine ok.ite (fun c => absurd c (by omega)) (fun _ => ?_)
  refine ok.ite (fun c => absurd c (by omega)) (fun _ => ?_)
  refine ok.ite (fun _ => ?_) (fun c => absurd hop c)
  have zn : (1 : Int32).toInt = 1 := rfl
  refine ok.letV (ok.sub (by rw [zn]; omega) (fun z hz => ok.letV ?_))
  rw [zn] at hz
  have hF : Fr YR [30] X (wI X 0 30 z) := Fr.rf.wI 0 30 _ (show (30 : Nat) ∈ [30] from by decide)
  obtain ⟨a, b⟩ := popd (X := X) (z := z) (d := d) hT (by omega) (fun _ => False)
  obtain ⟨Z, hZ⟩ : ∃ Z : St, wI X 0 30 z = Z := ⟨_, rfl⟩
  rw [hZ] at hF a b ⊢
  have e13 : Z.1 0 13 = X.1 0 13 := hF.1 0 13 (by decide)
  have e15 : Z.1 0 15 = X.1 0 15 := hF.1 0 15 (by decide)
  have e28 : Z.1 0 28 = X.1 0 28 := hF.1 0 28 (by decide)
  have e29 : Z.1 0 29 = X.1 0 29 := hF.1 0 29 (by decide)
  have c58 : ∀ i, Z.1 58 i = X.1 58 i := fun i => hF.1 58 i (show (11600 : Nat) ∉ [30] from by decide)
  have c59 : ∀ i, Z.1 59 i = X.1 59 i := fun i => hF.1 59 i (show (11800 : Nat) ∉ [30] from by decide)
  exact ok.bd (pushed (X := X) (Z := Z) (d := d) 0 a (by rw [e13, e15, e28]; omega) b (by omega) (by rw [e29]; exact hj) ⟨by decide, by decide⟩ (fun i _ => c58 i) c59) (fun _ Y h => ok.ret h.1)
theorem one_22 {X : St} (hT : KT X) (hc : (X.1 0 13).toInt ≤ 5999) (hl : (X.1 0 15).toInt ≤ 19990) (hg : 0 ≤ (X.1 0 28).toInt ∧ (X.1 0 28).toInt < 12000) (hj : 0 ≤ (X.1 0 29).toInt ∧ (X.1 0 29).toInt ≤ 40) (hw : (X.1 0 9).toInt = 0) {p1 p2 : Int32} (hop1 : inR p1 24000) (hop : (X.1 40 (ix p1)).toInt = 22) {d : Nat} (hd : (X.1 0 30).toInt = (d : Int) + 1) (hd2 : d + 3 < 3200) : ok (f_judgeOne p1 p2 X) (fun _ Y => JO X Y (fun _ => False) 0 0 ((Y.1 0 30).toInt = (d : Int) + 1 ∧ Y.1 58 d = 0 ∧ (∀ i, i < d → Y.1 58 i = X.1 58 i) ∧ (∀ i, Y.1 59 i = X.1 59 i))) := by
  unfold f_judgeOne
  refine ok.ck hop1 (ok.letE (v1 := X.1 40 (ix p1)) rfl ?_)
  refine ok.ite (fun c => absurd c (by omega)) (fun _ => ?_)
  refine ok.ite (fun c => absurd c (by omega)) (fun _ => ?_)
  refine ok.ite (fun c => absurd c (by omega)) (fun _ => ?_)
  refine ok.ite (fun c => absurd c (by omega)) (fun _ => ?_)
  refine ok.ite (fun c => absurd c (by omega)) (fun _ => ?_)
  refine ok.ite (fun c => absurd c (by omega)) (fun _ => ?_)
  refine ok.ite (fun c => absurd c (by omega)) (fun _ => ?_)
  refine ok.ite (fun c => absurd c (by omega)) (fun _ => ?_)
  refine ok.ite (fun c => absurd c (by omega)) (fun _ => ?_)
  refine ok.ite (fun c => absurd c (by omega)) (fun _ => ?_)
  refine ok.ite (fun c => absurd c (by omega)) (fun _ => ?_)
  refine ok.ite (fun c => absurd c (by omega)) (fun _ => ?_)
  refine ok.bd (R := fun _ Y => JO X Y (fun _ => False) 0 0 ((Y.1 0 30).toInt = (d : Int) + 1 ∧ Y.1 58 d = 0 ∧ (∀ i, i < d → Y.1 58 i = X.1 58 i) ∧ (∀ i, Y.1 59 i = X.1 59 i))) ?_ (fun _ Y h => ok.ret h)
  unfold f_judgeMore
  refine ok.ck hop1 (ok.letE (v1 := X.1 40 (ix p1)) rfl ?_)
  refine ok.ite (fun c => absurd c (by omega)) (fun _ => ?_)
  refine ok.ite (fun c => absurd c (by omega)) (fun _ => ?_)
  refine ok.ite (fun c => absurd c (by omega)) (fun _ => ?_)
  refine ok.ite (fun c => absurd c (by omega)) (fun _ => ?_)
  refine ok.ite (fun c => absurd c (by omega)) (fun _ => ?_)
  refine ok.ite (fun c => absurd c (by omega)) (fun _ => ?_)
  refine ok.ite (fun c => absurd c (by omega)) (fun _ => ?_)
  refine ok.ite (fun c => absurd c (by omega)) (fun _ => ?_)
  refine ok.ite (fun _ => ?_) (fun c => absurd hop c)
  have zn : (1 : Int32).toInt = 1 := rfl
  refine ok.letV (ok.sub (by rw [zn]; omega) (fun z hz => ok.letV ?_))
  rw [zn] at hz
  have hF : Fr YR [30] X (wI X 0 30 z) := Fr.rf.wI 0 30 _ (show (30 : Nat) ∈ [30] from by decide)
  obtain ⟨a, b⟩ := popd (X := X) (z := z) (d := d) hT (by omega) (fun _ => False)
  obtain ⟨Z, hZ⟩ : ∃ Z : St, wI X 0 30 z = Z := ⟨_, rfl⟩
  rw [hZ] at hF a b ⊢
  have e13 : Z.1 0 13 = X.1 0 13 := hF.1 0 13 (by decide)
  have e15 : Z.1 0 15 = X.1 0 15 := hF.1 0 15 (by decide)
  have e28 : Z.1 0 28 = X.1 0 28 := hF.1 0 28 (by decide)
  have e29 : Z.1 0 29 = X.1 0 29 := hF.1 0 29 (by decide)
  have c58 : ∀ i, Z.1 58 i = X.1 58 i := fun i => hF.1 58 i (show (11600 : Nat) ∉ [30] from by decide)
  have c59 : ∀ i, Z.1 59 i = X.1 59 i := fun i => hF.1 59 i (show (11800 : Nat) ∉ [30] from by decide)
  exact ok.bd (pushed (X := X) (Z := Z) (d := d) 0 a (by rw [e13, e15, e28]; omega) b (by omega) (by rw [e29]; exact hj) ⟨by decide, by decide⟩ (fun i _ => c58 i) c59) (fun _ Y h => ok.ret h.1)
theorem one_23 {X : St} (hT : KT X) (hc : (X.1 0 13).toInt ≤ 5999) (hl : (X.1 0 15).toInt ≤ 19990) (hg : 0 ≤ (X.1 0 28).toInt ∧ (X.1 0 28).toInt < 12000) (hj : 0 ≤ (X.1 0 29).toInt ∧ (X.1 0 29).toInt ≤ 40) (hw : (X.1 0 9).toInt = 0) {p1 p2 : Int32} (hop1 : inR p1 24000) (hop : (X.1 40 (ix p1)).toInt = 23) {d : Nat} (hd : (X.1 0 30).toInt = (d : Int) + 1) (hd2 : d + 3 < 3200) : ok (f_judgeOne p1 p2 X) (fun _ Y => JO X Y (fun _ => False) 0 0 ((Y.1 0 30).toInt = (d : Int) + 1 ∧ Y.1 58 d = 1 ∧ (∀ i, i < d → Y.1 58 i = X.1 58 i) ∧ (∀ i, Y.1 59 i = X.1 59 i))) := by
  unfold f_judgeOne
  refine ok.ck hop1 (ok.letE (v1 := X.1 40 (ix p1)) rfl ?_)
  refine ok.ite (fun c => absurd c (by omega)) (fun _ => ?_)
  refine ok.ite (fun c => absurd c (by omega)) (fun _ => ?_)
  refine ok.ite (fun c => absurd c (by omega)) (fun _ => ?_)
  refine ok.ite (fun c => absurd c (by omega)) (fun _ => ?_)
  refine ok.ite (fun c => absurd c (by omega)) (fun _ => ?_)
  refine ok.ite (fun c => absurd c (by omega)) (fun _ => ?_)
  refine ok.ite (fun c => absurd c (by omega)) (fun _ => ?_)
  refine ok.ite (fun c => absurd c (by omega)) (fun _ => ?_)
  refine ok.ite (fun c => absurd c (by omega)) (fun _ => ?_)
  refine ok.ite (fun c => absurd c (by omega)) (fun _ => ?_)
  refine ok.ite (fun c => absurd c (by omega)) (fun _ => ?_)
  refine ok.ite (fun c => absurd c (by omega)) (fun _ => ?_)
  refine ok.bd (R := fun _ Y => JO X Y (fun _ => False) 0 0 ((Y.1 0 30).toInt = (d : Int) + 1 ∧ Y.1 58 d = 1 ∧ (∀ i, i < d → Y.1 58 i = X.1 58 i) ∧ (∀ i, Y.1 59 i = X.1 59 i))) ?_ (fun _ Y h => ok.ret h)
  unfold f_judgeMore
  refine ok.ck hop1 (ok.letE (v1 := X.1 40 (ix p1)) rfl ?_)
  refine ok.ite (fun c => absurd c (by omega)) (fun _ => ?_)
  refine ok.ite (fun c => absurd c (by omega)) (fun _ => ?_)
  refine ok.ite (fun c => absurd c (by omega)) (fun _ => ?_)
  refine ok.ite (fun c => absurd c (by omega)) (fun _ => ?_)
  refine ok.ite (fun c => absurd c (by omega)) (fun _ => ?_)
  refine ok.ite (fun c => absurd c (by omega)) (fun _ => ?_)
  refine ok.ite (fun c => absurd c (by omega)) (fun _ => ?_)
  refine ok.ite (fun c => absurd c (by omega)) (fun _ => ?_)
  refine ok.ite (fun c => absurd c (by omega)) (fun _ => ?_)
  refine ok.ite (fun _ => ?_) (fun c => absurd hop c)
  have zn : (1 : Int32).toInt = 1 := rfl
  refine ok.letV (ok.sub (by rw [zn]; omega) (fun z hz => ok.letV ?_))
  rw [zn] at hz
  have hF : Fr YR [30] X (wI X 0 30 z) := Fr.rf.wI 0 30 _ (show (30 : Nat) ∈ [30] from by decide)
  obtain ⟨a, b⟩ := popd (X := X) (z := z) (d := d) hT (by omega) (fun _ => False)
  obtain ⟨Z, hZ⟩ : ∃ Z : St, wI X 0 30 z = Z := ⟨_, rfl⟩
  rw [hZ] at hF a b ⊢
  have e13 : Z.1 0 13 = X.1 0 13 := hF.1 0 13 (by decide)
  have e15 : Z.1 0 15 = X.1 0 15 := hF.1 0 15 (by decide)
  have e28 : Z.1 0 28 = X.1 0 28 := hF.1 0 28 (by decide)
  have e29 : Z.1 0 29 = X.1 0 29 := hF.1 0 29 (by decide)
  have c58 : ∀ i, Z.1 58 i = X.1 58 i := fun i => hF.1 58 i (show (11600 : Nat) ∉ [30] from by decide)
  have c59 : ∀ i, Z.1 59 i = X.1 59 i := fun i => hF.1 59 i (show (11800 : Nat) ∉ [30] from by decide)
  exact ok.bd (pushed (X := X) (Z := Z) (d := d) 0 a (by rw [e13, e15, e28]; omega) b (by omega) (by rw [e29]; exact hj) ⟨by decide, by decide⟩ (fun i _ => c58 i) c59) (fun _ Y h => ok.ret h.1)
theorem one_24 {X : St} (hT : KT X) (hc : (X.1 0 13).toInt ≤ 5999) (hl : (X.1 0 15).toInt ≤ 19990) (hg : 0 ≤ (X.1 0 28).toInt ∧ (X.1 0 28).toInt < 12000) (hj : 0 ≤ (X.1 0 29).toInt ∧ (X.1 0 29).toInt ≤ 40) (hw : (X.1 0 9).toInt = 0) {p1 p2 : Int32} (hop1 : inR p1 24000) (hop : (X.1 40 (ix p1)).toInt = 24) {d : Nat} (hd : (X.1 0 30).toInt = (d : Int) + 2) (hd2 : d + 3 < 3200) : ok (f_judgeOne p1 p2 X) (fun _ Y => JO X Y (fun _ => False) 0 0 ((Y.1 0 30).toInt = (d : Int) + 1 ∧ Y.1 58 d = 0 ∧ (∀ i, i < d → Y.1 58 i = X.1 58 i) ∧ (∀ i, Y.1 59 i = X.1 59 i))) := by
  unfold f_judgeOne
  refine ok.ck hop1 (ok.letE (v1 := X.1 40 (ix p1)) rfl ?_)
  refine ok.ite (fun c => absurd c (by omega)) (fun _ => ?_)
  refine ok.ite (fun c => absurd c (by omega)) (fun _ => ?_)
  refine ok.ite (fun c => absurd c (by omega)) (fun _ => ?_)
  refine ok.ite (fun c => absurd c (by omega)) (fun _ => ?_)
  refine ok.ite (fun c => absurd c (by omega)) (fun _ => ?_)
  refine ok.ite (fun c => absurd c (by omega)) (fun _ => ?_)
  refine ok.ite (fun c => absurd c (by omega)) (fun _ => ?_)
  refine ok.ite (fun c => absurd c (by omega)) (fun _ => ?_)
  refine ok.ite (fun c => absurd c (by omega)) (fun _ => ?_)
  refine ok.ite (fun c => absurd c (by omega)) (fun _ => ?_)
  refine ok.ite (fun c => absurd c (by omega)) (fun _ => ?_)
  refine ok.ite (fun c => absurd c (by omega)) (fun _ => ?_)
  refine ok.bd (R := fun _ Y => JO X Y (fun _ => False) 0 0 ((Y.1 0 30).toInt = (d : Int) + 1 ∧ Y.1 58 d = 0 ∧ (∀ i, i < d → Y.1 58 i = X.1 58 i) ∧ (∀ i, Y.1 59 i = X.1 59 i))) ?_ (fun _ Y h => ok.ret h)
  unfold f_judgeMore
  refine ok.ck hop1 (ok.letE (v1 := X.1 40 (ix p1)) rfl ?_)
  refine ok.ite (fun c => absurd c (by omega)) (fun _ => ?_)
  refine ok.ite (fun c => absurd c (by omega)) (fun _ => ?_)
  refine ok.ite (fun c => absurd c (by omega)) (fun _ => ?_)
  refine ok.ite (fun c => absurd c (by omega)) (fun _ => ?_)
  refine ok.ite (fun c => absurd c (by omega)) (fun _ => ?_)
  refine ok.ite (fun c => absurd c (by omega)) (fun _ => ?_)
  refine ok.ite (fun c => absurd c (by omega)) (fun _ => ?_)
  refine ok.ite (fun c => absurd c (by omega)) (fun _ => ?_)
  refine ok.ite (fun c => absurd c (by omega)) (fun _ => ?_)
  refine ok.ite (fun c => absurd c (by omega)) (fun _ => ?_)
  refine ok.ite (fun _ => ?_) (fun c => absurd hop c)
  have zn : (2 : Int32).toInt = 2 := rfl
  refine ok.letV (ok.sub (by rw [zn]; omega) (fun z hz => ok.letV ?_))
  rw [zn] at hz
  have hF : Fr YR [30] X (wI X 0 30 z) := Fr.rf.wI 0 30 _ (show (30 : Nat) ∈ [30] from by decide)
  obtain ⟨a, b⟩ := popd (X := X) (z := z) (d := d) hT (by omega) (fun _ => False)
  obtain ⟨Z, hZ⟩ : ∃ Z : St, wI X 0 30 z = Z := ⟨_, rfl⟩
  rw [hZ] at hF a b ⊢
  have e13 : Z.1 0 13 = X.1 0 13 := hF.1 0 13 (by decide)
  have e15 : Z.1 0 15 = X.1 0 15 := hF.1 0 15 (by decide)
  have e28 : Z.1 0 28 = X.1 0 28 := hF.1 0 28 (by decide)
  have e29 : Z.1 0 29 = X.1 0 29 := hF.1 0 29 (by decide)
  have c58 : ∀ i, Z.1 58 i = X.1 58 i := fun i => hF.1 58 i (show (11600 : Nat) ∉ [30] from by decide)
  have c59 : ∀ i, Z.1 59 i = X.1 59 i := fun i => hF.1 59 i (show (11800 : Nat) ∉ [30] from by decide)
  have e40 : (Z.1 40 (ix p1)).toInt = 24 := by rw [hF.1 40 _ (show (8000 : Nat) ∉ [30] from by decide)]; exact hop
  refine ok.ck hop1 (ok.letV ?_)
  refine ok.ite (fun c => ?_) (fun c => absurd e40 c)
  unfold f_judgeMore_343
  exact ok.bd (pushed (X := X) (Z := Z) (d := d) 0 a (by rw [e13, e15, e28]; omega) b (by omega) (by rw [e29]; exact hj) ⟨by decide, by decide⟩ (fun i _ => c58 i) c59) (fun _ Y h => ok.ret h.1)
theorem one_25 {X : St} (hT : KT X) (hc : (X.1 0 13).toInt ≤ 5999) (hl : (X.1 0 15).toInt ≤ 19990) (hg : 0 ≤ (X.1 0 28).toInt ∧ (X.1 0 28).toInt < 12000) (hj : 0 ≤ (X.1 0 29).toInt ∧ (X.1 0 29).toInt ≤ 40) (hw : (X.1 0 9).toInt = 0) {p1 p2 : Int32} (hop1 : inR p1 24000) (hop : (X.1 40 (ix p1)).toInt = 25) {d : Nat} (hd : (X.1 0 30).toInt = (d : Int) + 2) (hd2 : d + 3 < 3200) : ok (f_judgeOne p1 p2 X) (fun _ Y => JO X Y (fun _ => False) 0 0 ((Y.1 0 30).toInt = (d : Int) + 1 ∧ Y.1 58 d = 1 ∧ (∀ i, i < d → Y.1 58 i = X.1 58 i) ∧ (∀ i, Y.1 59 i = X.1 59 i))) := by
  unfold f_judgeOne
  refine ok.ck hop1 (ok.letE (v1 := X.1 40 (ix p1)) rfl ?_)
  refine ok.ite (fun c => absurd c (by omega)) (fun _ => ?_)
  refine ok.ite (fun c => absurd c (by omega)) (fun _ => ?_)
  refine ok.ite (fun c => absurd c (by omega)) (fun _ => ?_)
  refine ok.ite (fun c => absurd c (by omega)) (fun _ => ?_)
  refine ok.ite (fun c => absurd c (by omega)) (fun _ => ?_)
  refine ok.ite (fun c => absurd c (by omega)) (fun _ => ?_)
  refine ok.ite (fun c => absurd c (by omega)) (fun _ => ?_)
  refine ok.ite (fun c => absurd c (by omega)) (fun _ => ?_)
  refine ok.ite (fun c => absurd c (by omega)) (fun _ => ?_)
  refine ok.ite (fun c => absurd c (by omega)) (fun _ => ?_)
  refine ok.ite (fun c => absurd c (by omega)) (fun _ => ?_)
  refine ok.ite (fun c => absurd c (by omega)) (fun _ => ?_)
  refine ok.bd (R := fun _ Y => JO X Y (fun _ => False) 0 0 ((Y.1 0 30).toInt = (d : Int) + 1 ∧ Y.1 58 d = 1 ∧ (∀ i, i < d → Y.1 58 i = X.1 58 i) ∧ (∀ i, Y.1 59 i = X.1 59 i))) ?_ (fun _ Y h => ok.ret h)
  unfold f_judgeMore
  refine ok.ck hop1 (ok.letE (v1 := X.1 40 (ix p1)) rfl ?_)
  refine ok.ite (fun c => absurd c (by omega)) (fun _ => ?_)
  refine ok.ite (fun c => absurd c (by omega)) (fun _ => ?_)
  refine ok.ite (fun c => absurd c (by omega)) (fun _ => ?_)
  refine ok.ite (fun c => absurd c (by omega)) (fun _ => ?_)
  refine ok.ite (fun c => absurd c (by omega)) (fun _ => ?_)
  refine ok.ite (fun c => absurd c (by omega)) (fun _ => ?_)
  refine ok.ite (fun c => absurd c (by omega)) (fun _ => ?_)
  refine ok.ite (fun c => absurd c (by omega)) (fun _ => ?_)
  refine ok.ite (fun c => absurd c (by omega)) (fun _ => ?_)
  refine ok.ite (fun c => absurd c (by omega)) (fun _ => ?_)
  refine ok.ite (fun c => absurd c (by omega)) (fun _ => ?_)
  refine ok.ite (fun _ => ?_) (fun c => absurd hop c)
  have zn : (2 : Int32).toInt = 2 := rfl
  refine ok.letV (ok.sub (by rw [zn]; omega) (fun z hz => ok.letV ?_))
  rw [zn] at hz
  have hF : Fr YR [30] X (wI X 0 30 z) := Fr.rf.wI 0 30 _ (show (30 : Nat) ∈ [30] from by decide)
  obtain ⟨a, b⟩ := popd (X := X) (z := z) (d := d) hT (by omega) (fun _ => False)
  obtain ⟨Z, hZ⟩ : ∃ Z : St, wI X 0 30 z = Z := ⟨_, rfl⟩
  rw [hZ] at hF a b ⊢
  have e13 : Z.1 0 13 = X.1 0 13 := hF.1 0 13 (by decide)
  have e15 : Z.1 0 15 = X.1 0 15 := hF.1 0 15 (by decide)
  have e28 : Z.1 0 28 = X.1 0 28 := hF.1 0 28 (by decide)
  have e29 : Z.1 0 29 = X.1 0 29 := hF.1 0 29 (by decide)
  have c58 : ∀ i, Z.1 58 i = X.1 58 i := fun i => hF.1 58 i (show (11600 : Nat) ∉ [30] from by decide)
  have c59 : ∀ i, Z.1 59 i = X.1 59 i := fun i => hF.1 59 i (show (11800 : Nat) ∉ [30] from by decide)
  have e40 : (Z.1 40 (ix p1)).toInt = 25 := by rw [hF.1 40 _ (show (8000 : Nat) ∉ [30] from by decide)]; exact hop
  refine ok.ck hop1 (ok.letV ?_)
  refine ok.ite (fun c => absurd c (by omega)) (fun c => ?_)
  unfold f_judgeMore_343
  exact ok.bd (pushed (X := X) (Z := Z) (d := d) 0 a (by rw [e13, e15, e28]; omega) b (by omega) (by rw [e29]; exact hj) ⟨by decide, by decide⟩ (fun i _ => c58 i) c59) (fun _ Y h => ok.ret h.1)
theorem one_26 {X : St} (hT : KT X) (hc : (X.1 0 13).toInt ≤ 5999) (hl : (X.1 0 15).toInt ≤ 19990) (hg : 0 ≤ (X.1 0 28).toInt ∧ (X.1 0 28).toInt < 12000) (hj : 0 ≤ (X.1 0 29).toInt ∧ (X.1 0 29).toInt ≤ 40) (hw : (X.1 0 9).toInt = 0) {p1 p2 : Int32} (hop1 : inR p1 24000) (hop : (X.1 40 (ix p1)).toInt = 26) {d : Nat} (hd : (X.1 0 30).toInt = (d : Int) + 2) (hd2 : d + 3 < 3200) (hr : 0 ≤ (X.1 58 d).toInt ∧ (X.1 58 d).toInt < (X.1 0 13).toInt) (hm : 1 ≤ (X.1 5 (ix (X.1 58 d))).toInt) : ok (f_judgeOne p1 p2 X) (fun _ Y => JO X Y (fun _ => False) 0 0 ((Y.1 0 30).toInt = (d : Int) + 1 ∧ Y.1 58 d = (cmpK X (X.1 58 d) 0) ∧ (∀ i, i < d → Y.1 58 i = X.1 58 i) ∧ (∀ i, Y.1 59 i = X.1 59 i))) := by
  unfold f_judgeOne
  refine ok.ck hop1 (ok.letE (v1 := X.1 40 (ix p1)) rfl ?_)
  refine ok.ite (fun c => absurd c (by omega)) (fun _ => ?_)
  refine ok.ite (fun c => absurd c (by omega)) (fun _ => ?_)
  refine ok.ite (fun c => absurd c (by omega)) (fun _ => ?_)
  refine ok.ite (fun c => absurd c (by omega)) (fun _ => ?_)
  refine ok.ite (fun c => absurd c (by omega)) (fun _ => ?_)
  refine ok.ite (fun c => absurd c (by omega)) (fun _ => ?_)
  refine ok.ite (fun c => absurd c (by omega)) (fun _ => ?_)
  refine ok.ite (fun c => absurd c (by omega)) (fun _ => ?_)
  refine ok.ite (fun c => absurd c (by omega)) (fun _ => ?_)
  refine ok.ite (fun c => absurd c (by omega)) (fun _ => ?_)
  refine ok.ite (fun c => absurd c (by omega)) (fun _ => ?_)
  refine ok.ite (fun c => absurd c (by omega)) (fun _ => ?_)
  refine ok.bd (R := fun _ Y => JO X Y (fun _ => False) 0 0 ((Y.1 0 30).toInt = (d : Int) + 1 ∧ Y.1 58 d = (cmpK X (X.1 58 d) 0) ∧ (∀ i, i < d → Y.1 58 i = X.1 58 i) ∧ (∀ i, Y.1 59 i = X.1 59 i))) ?_ (fun _ Y h => ok.ret h)
  unfold f_judgeMore
  refine ok.ck hop1 (ok.letE (v1 := X.1 40 (ix p1)) rfl ?_)
  refine ok.ite (fun c => absurd c (by omega)) (fun _ => ?_)
  refine ok.ite (fun c => absurd c (by omega)) (fun _ => ?_)
  refine ok.ite (fun c => absurd c (by omega)) (fun _ => ?_)
  refine ok.ite (fun c => absurd c (by omega)) (fun _ => ?_)
  refine ok.ite (fun c => absurd c (by omega)) (fun _ => ?_)
  refine ok.ite (fun c => absurd c (by omega)) (fun _ => ?_)
  refine ok.ite (fun c => absurd c (by omega)) (fun _ => ?_)
  refine ok.ite (fun c => absurd c (by omega)) (fun _ => ?_)
  refine ok.ite (fun c => absurd c (by omega)) (fun _ => ?_)
  refine ok.ite (fun c => absurd c (by omega)) (fun _ => ?_)
  refine ok.ite (fun c => absurd c (by omega)) (fun _ => ?_)
  refine ok.ite (fun c => absurd c (by omega)) (fun _ => ?_)
  refine ok.ite (fun _ => ?_) (fun c => absurd hop c)
  have zn : (2 : Int32).toInt = 2 := rfl
  refine ok.letV (ok.sub (by rw [zn]; omega) (fun z hz => ok.letV ?_))
  rw [zn] at hz
  have hF : Fr YR [30] X (wI X 0 30 z) := Fr.rf.wI 0 30 _ (show (30 : Nat) ∈ [30] from by decide)
  obtain ⟨a, b⟩ := popd (X := X) (z := z) (d := d) hT (by omega) (fun _ => False)
  obtain ⟨Z, hZ⟩ : ∃ Z : St, wI X 0 30 z = Z := ⟨_, rfl⟩
  rw [hZ] at hF a b ⊢
  have e13 : Z.1 0 13 = X.1 0 13 := hF.1 0 13 (by decide)
  have e15 : Z.1 0 15 = X.1 0 15 := hF.1 0 15 (by decide)
  have e28 : Z.1 0 28 = X.1 0 28 := hF.1 0 28 (by decide)
  have e29 : Z.1 0 29 = X.1 0 29 := hF.1 0 29 (by decide)
  have c58 : ∀ i, Z.1 58 i = X.1 58 i := fun i => hF.1 58 i (show (11600 : Nat) ∉ [30] from by decide)
  have c59 : ∀ i, Z.1 59 i = X.1 59 i := fun i => hF.1 59 i (show (11800 : Nat) ∉ [30] from by decide)
  have ed : ix (Z.1 0 30) = d := by
    have := ixc (z := Z.1 0 30) (by omega)
    omega
  have zT := hT.fr hF (by decide)
  have zK := KX.fr hF (by decide)
  have hlt := cmpK_lt hT hr.1 hr.2 (i := 0) (by omega)
  refine ok.letV (ok.ck ⟨by omega, show (Z.1 0 30).toInt < ((3200 : Nat) : Int) by omega⟩ (ok.letE (v1 := X.1 58 d) (by rw [ed, c58]) ?_))
  refine ok.bd (j_elementOf zT (by rw [e13]; omega) (by rw [e15]; omega) (by rw [e13]; exact hr) (by rw [hF.1 5 _ (show (1000 : Nat) ∉ [30] from by decide)]; exact hm)) ?_
  rintro x82 X83 ⟨rfl, rfl⟩
  rw [show cmpK Z (X.1 58 d) 0 = cmpK X (X.1 58 d) 0 from cmpK_kx hT zK hr.1 hr.2 (by omega)]
  exact ok.bd (pushed (X := X) (Z := Z) (d := d) 0 a (by rw [e13, e15, e28]; omega) b (by omega) (by rw [e29]; exact hj) (by omega) (fun i _ => c58 i) c59) (fun _ Y h => ok.ret h.1)
theorem one_27 {X : St} (hT : KT X) (hc : (X.1 0 13).toInt ≤ 5999) (hl : (X.1 0 15).toInt ≤ 19990) (hg : 0 ≤ (X.1 0 28).toInt ∧ (X.1 0 28).toInt < 12000) (hj : 0 ≤ (X.1 0 29).toInt ∧ (X.1 0 29).toInt ≤ 40) (hw : (X.1 0 9).toInt = 0) {p1 p2 : Int32} (hop1 : inR p1 24000) (hop : (X.1 40 (ix p1)).toInt = 27) {d : Nat} (hd : (X.1 0 30).toInt = (d : Int) + 3) (hd2 : d + 3 < 3200) (hr : 0 ≤ (X.1 58 d).toInt ∧ (X.1 58 d).toInt < (X.1 0 13).toInt) (hm : 1 ≤ (X.1 5 (ix (X.1 58 d))).toInt) : ok (f_judgeOne p1 p2 X) (fun _ Y => JO X Y (fun _ => False) 0 0 ((Y.1 0 30).toInt = (d : Int) + 1 ∧ Y.1 58 d = (cmpK X (X.1 58 d) 0) ∧ (∀ i, i < d → Y.1 58 i = X.1 58 i) ∧ (∀ i, Y.1 59 i = X.1 59 i))) := by
  unfold f_judgeOne
  refine ok.ck hop1 (ok.letE (v1 := X.1 40 (ix p1)) rfl ?_)
  refine ok.ite (fun c => absurd c (by omega)) (fun _ => ?_)
  refine ok.ite (fun c => absurd c (by omega)) (fun _ => ?_)
  refine ok.ite (fun c => absurd c (by omega)) (fun _ => ?_)
  refine ok.ite (fun c => absurd c (by omega)) (fun _ => ?_)
  refine ok.ite (fun c => absurd c (by omega)) (fun _ => ?_)
  refine ok.ite (fun c => absurd c (by omega)) (fun _ => ?_)
  refine ok.ite (fun c => absurd c (by omega)) (fun _ => ?_)
  refine ok.ite (fun c => absurd c (by omega)) (fun _ => ?_)
  refine ok.ite (fun c => absurd c (by omega)) (fun _ => ?_)
  refine ok.ite (fun c => absurd c (by omega)) (fun _ => ?_)
  refine ok.ite (fun c => absurd c (by omega)) (fun _ => ?_)
  refine ok.ite (fun c => absurd c (by omega)) (fun _ => ?_)
  refine ok.bd (R := fun _ Y => JO X Y (fun _ => False) 0 0 ((Y.1 0 30).toInt = (d : Int) + 1 ∧ Y.1 58 d = (cmpK X (X.1 58 d) 0) ∧ (∀ i, i < d → Y.1 58 i = X.1 58 i) ∧ (∀ i, Y.1 59 i = X.1 59 i))) ?_ (fun _ Y h => ok.ret h)
  unfold f_judgeMore
  refine ok.ck hop1 (ok.letE (v1 := X.1 40 (ix p1)) rfl ?_)
  refine ok.ite (fun c => absurd c (by omega)) (fun _ => ?_)
  refine ok.ite (fun c => absurd c (by omega)) (fun _ => ?_)
  refine ok.ite (fun c => absurd c (by omega)) (fun _ => ?_)
  refine ok.ite (fun c => absurd c (by omega)) (fun _ => ?_)
  refine ok.ite (fun c => absurd c (by omega)) (fun _ => ?_)
  refine ok.ite (fun c => absurd c (by omega)) (fun _ => ?_)
  refine ok.ite (fun c => absurd c (by omega)) (fun _ => ?_)
  refine ok.ite (fun c => absurd c (by omega)) (fun _ => ?_)
  refine ok.ite (fun c => absurd c (by omega)) (fun _ => ?_)
  refine ok.ite (fun c => absurd c (by omega)) (fun _ => ?_)
  refine ok.ite (fun c => absurd c (by omega)) (fun _ => ?_)
  refine ok.ite (fun c => absurd c (by omega)) (fun _ => ?_)
  refine ok.ite (fun c => absurd c (by omega)) (fun _ => ?_)
  refine ok.ite (fun _ => ?_) (fun c => absurd hop c)
  have zn : (3 : Int32).toInt = 3 := rfl
  refine ok.letV (ok.sub (by rw [zn]; omega) (fun z hz => ok.letV ?_))
  rw [zn] at hz
  have hF : Fr YR [30] X (wI X 0 30 z) := Fr.rf.wI 0 30 _ (show (30 : Nat) ∈ [30] from by decide)
  obtain ⟨a, b⟩ := popd (X := X) (z := z) (d := d) hT (by omega) (fun _ => False)
  obtain ⟨Z, hZ⟩ : ∃ Z : St, wI X 0 30 z = Z := ⟨_, rfl⟩
  rw [hZ] at hF a b ⊢
  have e13 : Z.1 0 13 = X.1 0 13 := hF.1 0 13 (by decide)
  have e15 : Z.1 0 15 = X.1 0 15 := hF.1 0 15 (by decide)
  have e28 : Z.1 0 28 = X.1 0 28 := hF.1 0 28 (by decide)
  have e29 : Z.1 0 29 = X.1 0 29 := hF.1 0 29 (by decide)
  have c58 : ∀ i, Z.1 58 i = X.1 58 i := fun i => hF.1 58 i (show (11600 : Nat) ∉ [30] from by decide)
  have c59 : ∀ i, Z.1 59 i = X.1 59 i := fun i => hF.1 59 i (show (11800 : Nat) ∉ [30] from by decide)
  have ed : ix (Z.1 0 30) = d := by
    have := ixc (z := Z.1 0 30) (by omega)
    omega
  have zT := hT.fr hF (by decide)
  have zK := KX.fr hF (by decide)
  have hlt := cmpK_lt hT hr.1 hr.2 (i := 0) (by omega)
  refine ok.letV (ok.ck ⟨by omega, show (Z.1 0 30).toInt < ((3200 : Nat) : Int) by omega⟩ (ok.letE (v1 := X.1 58 d) (by rw [ed, c58]) ?_))
  refine ok.bd (j_elementOf zT (by rw [e13]; omega) (by rw [e15]; omega) (by rw [e13]; exact hr) (by rw [hF.1 5 _ (show (1000 : Nat) ∉ [30] from by decide)]; exact hm)) ?_
  rintro x82 X83 ⟨rfl, rfl⟩
  rw [show cmpK Z (X.1 58 d) 0 = cmpK X (X.1 58 d) 0 from cmpK_kx hT zK hr.1 hr.2 (by omega)]
  exact ok.bd (pushed (X := X) (Z := Z) (d := d) 0 a (by rw [e13, e15, e28]; omega) b (by omega) (by rw [e29]; exact hj) (by omega) (fun i _ => c58 i) c59) (fun _ Y h => ok.ret h.1)
theorem one_19 {X : St} (hT : KT X) (hc : (X.1 0 13).toInt ≤ 5999) (hl : (X.1 0 15).toInt ≤ 19990) (hg : 0 ≤ (X.1 0 28).toInt ∧ (X.1 0 28).toInt < 12000) (hj : 0 ≤ (X.1 0 29).toInt ∧ (X.1 0 29).toInt ≤ 40) (hw : (X.1 0 9).toInt = 0) {p1 p2 : Int32} (hop1 : inR p1 24000) (hop : (X.1 40 (ix p1)).toInt = 19) {d : Nat} (hd : (X.1 0 30).toInt = (d : Int) + 2) (hd2 : d + 3 < 3200) (hr : 0 ≤ (X.1 58 (d + 1)).toInt ∧ (X.1 58 (d + 1)).toInt < (X.1 0 13).toInt) : ok (f_judgeOne p1 p2 X) (fun _ Y => JO X Y (fun _ => False) 0 1 ((Y.1 0 30).toInt = (d : Int) + 1 ∧ (ROWK Y (Y.1 58 d) (X.1 58 (d + 1)) ∧ ksz Y (ix (Y.1 58 d)) = 1 + ksz X (ix (X.1 58 (d + 1)))) ∧ (∀ i, i < d → Y.1 58 i = X.1 58 i) ∧ (∀ i, Y.1 59 i = X.1 59 i))) := by
  unfold f_judgeOne
  refine ok.ck hop1 (ok.letE (v1 := X.1 40 (ix p1)) rfl ?_)
  refine ok.ite (fun c => absurd c (by omega)) (fun _ => ?_)
  refine ok.ite (fun c => absurd c (by omega)) (fun _ => ?_)
  refine ok.ite (fun c => absurd c (by omega)) (fun _ => ?_)
  refine ok.ite (fun c => absurd c (by omega)) (fun _ => ?_)
  refine ok.ite (fun c => absurd c (by omega)) (fun _ => ?_)
  refine ok.ite (fun c => absurd c (by omega)) (fun _ => ?_)
  refine ok.ite (fun c => absurd c (by omega)) (fun _ => ?_)
  refine ok.ite (fun c => absurd c (by omega)) (fun _ => ?_)
  refine ok.ite (fun c => absurd c (by omega)) (fun _ => ?_)
  refine ok.ite (fun c => absurd c (by omega)) (fun _ => ?_)
  refine ok.ite (fun c => absurd c (by omega)) (fun _ => ?_)
  refine ok.ite (fun c => absurd c (by omega)) (fun _ => ?_)
  refine ok.bd (R := fun _ Y => JO X Y (fun _ => False) 0 1 ((Y.1 0 30).toInt = (d : Int) + 1 ∧ (ROWK Y (Y.1 58 d) (X.1 58 (d + 1)) ∧ ksz Y (ix (Y.1 58 d)) = 1 + ksz X (ix (X.1 58 (d + 1)))) ∧ (∀ i, i < d → Y.1 58 i = X.1 58 i) ∧ (∀ i, Y.1 59 i = X.1 59 i))) ?_ (fun _ Y h => ok.ret h)
  unfold f_judgeMore
  refine ok.ck hop1 (ok.letE (v1 := X.1 40 (ix p1)) rfl ?_)
  refine ok.ite (fun c => absurd c (by omega)) (fun _ => ?_)
  refine ok.ite (fun c => absurd c (by omega)) (fun _ => ?_)
  refine ok.ite (fun c => absurd c (by omega)) (fun _ => ?_)
  refine ok.ite (fun c => absurd c (by omega)) (fun _ => ?_)
  refine ok.ite (fun c => absurd c (by omega)) (fun _ => ?_)
  refine ok.ite (fun _ => ?_) (fun c => absurd hop c)
  have zn : (2 : Int32).toInt = 2 := rfl
  refine ok.letV (ok.sub (by rw [zn]; omega) (fun z hz => ok.letV ?_))
  rw [zn] at hz
  have hF : Fr YR [30] X (wI X 0 30 z) := Fr.rf.wI 0 30 _ (show (30 : Nat) ∈ [30] from by decide)
  obtain ⟨a, b⟩ := popd (X := X) (z := z) (d := d) hT (by omega) (fun _ => False)
  obtain ⟨Z, hZ⟩ : ∃ Z : St, wI X 0 30 z = Z := ⟨_, rfl⟩
  rw [hZ] at hF a b ⊢
  have e13 : Z.1 0 13 = X.1 0 13 := hF.1 0 13 (by decide)
  have e15 : Z.1 0 15 = X.1 0 15 := hF.1 0 15 (by decide)
  have e28 : Z.1 0 28 = X.1 0 28 := hF.1 0 28 (by decide)
  have e29 : Z.1 0 29 = X.1 0 29 := hF.1 0 29 (by decide)
  have c58 : ∀ i, Z.1 58 i = X.1 58 i := fun i => hF.1 58 i (show (11600 : Nat) ∉ [30] from by decide)
  have c59 : ∀ i, Z.1 59 i = X.1 59 i := fun i => hF.1 59 i (show (11800 : Nat) ∉ [30] from by decide)
  have ed : ix (Z.1 0 30) = d := by
    have := ixc (z := Z.1 0 30) (by omega)
    omega
  have zT := hT.fr hF (by decide)
  have zK := KX.fr hF (by decide)
  have z1 : (1 : Int32).toInt = 1 := rfl
  refine ok.letV (ok.add (by rw [z1]; omega) (fun x40 hx => ?_))
  rw [z1] at hx
  have e40 : ix x40 = d + 1 := by
    have := ixc (z := x40) (by omega)
    omega
  refine ok.ck ⟨by omega, show x40.toInt < ((3200 : Nat) : Int) by omega⟩ (ok.letE (v1 := X.1 58 (d + 1)) (by rw [e40, c58]) ?_)
  refine ok.bd (j_rowOf zT (by rw [e13]; exact hc) (by rw [e15]; exact hl) (by rw [e13]; exact hr)) ?_
  rintro x42 X43 ⟨hF3, hT3, hK3, ⟨m13, m15⟩, hR, hsz⟩
  rw [e13] at m13
  rw [e15] at m15
  have j3 : JR X X43 (fun _ => False) := a.tr (JR.kx hF3 hT3 hK3 (by decide) _)
  have hx42 := ixc hR.1
  have hRl := hR.2.1
  refine ok.bd (pushed (X := X) (Z := X43) (d := d) 1 j3 (by rw [hF3.1 0 28 (by decide), e28]; omega) (by rw [hF3.1 0 30 (by decide)]; exact b) (by omega) (by rw [hF3.1 0 29 (by decide), e29]; exact hj) (by omega) (fun i _ => (hF3.1 58 i (show (11600 : Nat) ∉ [13, 15, 800, 1000, 1200, 1400, 1600, 1800, 2000] from by decide)).trans (c58 i)) (fun i => (hF3.1 59 i (show (11800 : Nat) ∉ [13, 15, 800, 1000, 1200, 1400, 1600, 1800, 2000] from by decide)).trans (c59 i))) ?_
  rintro - Y ⟨⟨q1, q2, q3⟩, hKY⟩
  refine ok.ret ⟨q1, q2, fun hw2 => ?_⟩
  obtain ⟨p1', p2', p3', p4'⟩ := q3 hw2
  rw [p2']
  refine ⟨p1', ⟨hR.kx hT3 hKY, ?_⟩, p3', p4'⟩
  rw [ksz_kx hT3 q1.2.1 hKY _ (by omega), hsz, ksz_fr hF (by decide)]
theorem one_28 {X : St} (hT : KT X) (hc : (X.1 0 13).toInt ≤ 5999) (hl : (X.1 0 15).toInt ≤ 19990) (hg : 0 ≤ (X.1 0 28).toInt ∧ (X.1 0 28).toInt < 12000) (hj : 0 ≤ (X.1 0 29).toInt ∧ (X.1 0 29).toInt ≤ 40) (hw : (X.1 0 9).toInt = 0) {p1 p2 : Int32} (hop1 : inR p1 24000) (hop : (X.1 40 (ix p1)).toInt = 28) {d m : Nat} (hd : (X.1 0 30).toInt = (d : Int) + m + 1) (hm4 : m ≤ 4) (hd2 : d + 5 < 3200) (hn : inR p2 3100) (hmany : (X.1 27 (ix p2)).toInt = (m : Int)) (hf : FNK X (X.1 58 d) (m : Int)) : ok (f_judgeOne p1 p2 X) (fun _ Y => JO X Y (fun _ => False) 0 0 ((Y.1 0 30).toInt = (d : Int) + 1 ∧ Y.1 58 d = (cmpK X (X.1 58 d) m) ∧ (∀ i, i < d → Y.1 58 i = X.1 58 i) ∧ (∀ i, Y.1 59 i = X.1 59 i))) := by
  unfold f_judgeOne
  refine ok.ck hop1 (ok.letE (v1 := X.1 40 (ix p1)) rfl ?_)
  refine ok.ite (fun c => absurd c (by omega)) (fun _ => ?_)
  refine ok.ite (fun c => absurd c (by omega)) (fun _ => ?_)
  refine ok.ite (fun c => absurd c (by omega)) (fun _ => ?_)
  refine ok.ite (fun c => absurd c (by omega)) (fun _ => ?_)
  refine ok.ite (fun c => absurd c (by omega)) (fun _ => ?_)
  refine ok.ite (fun c => absurd c (by omega)) (fun _ => ?_)
  refine ok.ite (fun c => absurd c (by omega)) (fun _ => ?_)
  refine ok.ite (fun c => absurd c (by omega)) (fun _ => ?_)
  refine ok.ite (fun c => absurd c (by omega)) (fun _ => ?_)
  refine ok.ite (fun c => absurd c (by omega)) (fun _ => ?_)
  refine ok.ite (fun c => absurd c (by omega)) (fun _ => ?_)
  refine ok.ite (fun c => absurd c (by omega)) (fun _ => ?_)
  refine ok.bd (R := fun _ Y => JO X Y (fun _ => False) 0 0 ((Y.1 0 30).toInt = (d : Int) + 1 ∧ Y.1 58 d = (cmpK X (X.1 58 d) m) ∧ (∀ i, i < d → Y.1 58 i = X.1 58 i) ∧ (∀ i, Y.1 59 i = X.1 59 i))) ?_ (fun _ Y h => ok.ret h)
  unfold f_judgeMore
  refine ok.ck hop1 (ok.letE (v1 := X.1 40 (ix p1)) rfl ?_)
  refine ok.ite (fun c => absurd c (by omega)) (fun _ => ?_)
  refine ok.ite (fun c => absurd c (by omega)) (fun _ => ?_)
  refine ok.ite (fun c => absurd c (by omega)) (fun _ => ?_)
  refine ok.ite (fun c => absurd c (by omega)) (fun _ => ?_)
  refine ok.ite (fun c => absurd c (by omega)) (fun _ => ?_)
  refine ok.ite (fun c => absurd c (by omega)) (fun _ => ?_)
  refine ok.ite (fun c => absurd c (by omega)) (fun _ => ?_)
  refine ok.ite (fun c => absurd c (by omega)) (fun _ => ?_)
  refine ok.ite (fun c => absurd c (by omega)) (fun _ => ?_)
  refine ok.ite (fun c => absurd c (by omega)) (fun _ => ?_)
  refine ok.ite (fun c => absurd c (by omega)) (fun _ => ?_)
  refine ok.ite (fun c => absurd c (by omega)) (fun _ => ?_)
  refine ok.ite (fun c => absurd c (by omega)) (fun _ => ?_)
  refine ok.ite (fun c => absurd c (by omega)) (fun _ => ?_)
  refine ok.ite (fun _ => ?_) (fun c => absurd hop c)
  have z1 : (1 : Int32).toInt = 1 := rfl
  refine ok.letV (ok.ck hn (ok.letV (ok.add (by rw [z1]; omega) (fun y hy => ok.sub (by rw [z1] at hy; omega) (fun z hz => ok.letV ?_)))))
  rw [z1] at hy
  have hF : Fr YR [30] X (wI X 0 30 z) := Fr.rf.wI 0 30 _ (show (30 : Nat) ∈ [30] from by decide)
  obtain ⟨a, b⟩ := popd (X := X) (z := z) (d := d) hT (by omega) (fun _ => False)
  obtain ⟨Z, hZ⟩ : ∃ Z : St, wI X 0 30 z = Z := ⟨_, rfl⟩
  rw [hZ] at hF a b ⊢
  have e13 : Z.1 0 13 = X.1 0 13 := hF.1 0 13 (by decide)
  have e15 : Z.1 0 15 = X.1 0 15 := hF.1 0 15 (by decide)
  have e28 : Z.1 0 28 = X.1 0 28 := hF.1 0 28 (by decide)
  have e29 : Z.1 0 29 = X.1 0 29 := hF.1 0 29 (by decide)
  have c58 : ∀ i, Z.1 58 i = X.1 58 i := fun i => hF.1 58 i (show (11600 : Nat) ∉ [30] from by decide)
  have c59 : ∀ i, Z.1 59 i = X.1 59 i := fun i => hF.1 59 i (show (11800 : Nat) ∉ [30] from by decide)
  have ed : ix (Z.1 0 30) = d := by
    have := ixc (z := Z.1 0 30) (by omega)
    omega
  have zT := hT.fr hF (by decide)
  have zK := KX.fr hF (by decide)
  have hr : 0 ≤ (X.1 58 d).toInt ∧ (X.1 58 d).toInt < (X.1 0 13).toInt := ⟨hf.1, hf.2.1⟩
  have h5 := hf.2.2.2
  have hlt := cmpK_lt hT hr.1 hr.2 (i := m) (by omega)
  refine ok.letV (ok.ck ⟨by omega, show (Z.1 0 30).toInt < ((3200 : Nat) : Int) by omega⟩ (ok.letE (v1 := X.1 58 d) (by rw [ed, c58]) ?_))
  refine ok.bd (j_resultOf (m := m) zT (by rw [e13]; omega) (by rw [e15]; omega) (by rw [e13]; exact hr) (by rw [hF.1 5 _ (show (1000 : Nat) ∉ [30] from by decide)]; exact h5)) ?_
  rintro x82 X83 ⟨rfl, rfl⟩
  rw [show cmpK Z (X.1 58 d) m = cmpK X (X.1 58 d) m from cmpK_kx hT zK hr.1 hr.2 (by omega)]
  exact ok.bd (pushed (X := X) (Z := Z) (d := d) 0 a (by rw [e13, e15, e28]; omega) b (by omega) (by rw [e29]; exact hj) (by omega) (fun i _ => c58 i) c59) (fun _ Y h => ok.ret h.1)
theorem one_0 {X : St} (hT : KT X) (hc : (X.1 0 13).toInt ≤ 5999) (hl : (X.1 0 15).toInt ≤ 19990) (hg : 0 ≤ (X.1 0 28).toInt ∧ (X.1 0 28).toInt < 12000) (hj : 0 ≤ (X.1 0 29).toInt ∧ (X.1 0 29).toInt ≤ 40) (hw : (X.1 0 9).toInt = 0) {p1 p2 : Int32} (hop1 : inR p1 24000) (hop : (X.1 40 (ix p1)).toInt = 0)  : ok (f_judgeOne p1 p2 X) (fun _ Y => X = Y) := by
  unfold f_judgeOne
  refine ok.ck hop1 (ok.letE (v1 := X.1 40 (ix p1)) rfl ?_)
  refine ok.ite (fun c => absurd c (by omega)) (fun _ => ?_)
  refine ok.ite (fun c => absurd c (by omega)) (fun _ => ?_)
  refine ok.ite (fun c => absurd c (by omega)) (fun _ => ?_)
  refine ok.ite (fun c => absurd c (by omega)) (fun _ => ?_)
  refine ok.ite (fun c => absurd c (by omega)) (fun _ => ?_)
  refine ok.ite (fun c => absurd c (by omega)) (fun _ => ?_)
  refine ok.ite (fun c => absurd c (by omega)) (fun _ => ?_)
  refine ok.ite (fun c => absurd c (by omega)) (fun _ => ?_)
  refine ok.ite (fun c => absurd c (by omega)) (fun _ => ?_)
  refine ok.ite (fun c => absurd c (by omega)) (fun _ => ?_)
  refine ok.ite (fun c => absurd c (by omega)) (fun _ => ?_)
  refine ok.ite (fun c => absurd c (by omega)) (fun _ => ?_)
  refine ok.bd (R := fun _ Y => X = Y) ?_ (fun _ Y h => ok.ret h)
  unfold f_judgeMore
  refine ok.ck hop1 (ok.letE (v1 := X.1 40 (ix p1)) rfl ?_)
  refine ok.ite (fun c => absurd c (by omega)) (fun _ => ?_)
  refine ok.ite (fun c => absurd c (by omega)) (fun _ => ?_)
  refine ok.ite (fun c => absurd c (by omega)) (fun _ => ?_)
  refine ok.ite (fun c => absurd c (by omega)) (fun _ => ?_)
  refine ok.ite (fun c => absurd c (by omega)) (fun _ => ?_)
  refine ok.ite (fun c => absurd c (by omega)) (fun _ => ?_)
  refine ok.ite (fun c => absurd c (by omega)) (fun _ => ?_)
  refine ok.ite (fun c => absurd c (by omega)) (fun _ => ?_)
  refine ok.ite (fun c => absurd c (by omega)) (fun _ => ?_)
  refine ok.ite (fun c => absurd c (by omega)) (fun _ => ?_)
  refine ok.ite (fun c => absurd c (by omega)) (fun _ => ?_)
  refine ok.ite (fun c => absurd c (by omega)) (fun _ => ?_)
  refine ok.ite (fun c => absurd c (by omega)) (fun _ => ?_)
  refine ok.ite (fun c => absurd c (by omega)) (fun _ => ?_)
  refine ok.ite (fun c => absurd c (by omega)) (fun _ => ?_)
  refine ok.ite (fun c => absurd c (by omega)) (fun _ => ?_)
  refine ok.ite (fun c => absurd c (by omega)) (fun _ => ?_)
  exact ok.ret rfl
theorem one_14 {X : St} (hT : KT X) (hc : (X.1 0 13).toInt ≤ 5999) (hl : (X.1 0 15).toInt ≤ 19990) (hg : 0 ≤ (X.1 0 28).toInt ∧ (X.1 0 28).toInt < 12000) (hj : 0 ≤ (X.1 0 29).toInt ∧ (X.1 0 29).toInt ≤ 40) (hw : (X.1 0 9).toInt = 0) {p1 p2 : Int32} (hop1 : inR p1 24000) (hop : (X.1 40 (ix p1)).toInt = 14)  : ok (f_judgeOne p1 p2 X) (fun _ Y => X = Y) := by
  unfold f_judgeOne
  refine ok.ck hop1 (ok.letE (v1 := X.1 40 (ix p1)) rfl ?_)
  refine ok.ite (fun c => absurd c (by omega)) (fun _ => ?_)
  refine ok.ite (fun c => absurd c (by omega)) (fun _ => ?_)
  refine ok.ite (fun c => absurd c (by omega)) (fun _ => ?_)
  refine ok.ite (fun c => absurd c (by omega)) (fun _ => ?_)
  refine ok.ite (fun c => absurd c (by omega)) (fun _ => ?_)
  refine ok.ite (fun c => absurd c (by omega)) (fun _ => ?_)
  refine ok.ite (fun c => absurd c (by omega)) (fun _ => ?_)
  refine ok.ite (fun c => absurd c (by omega)) (fun _ => ?_)
  refine ok.ite (fun c => absurd c (by omega)) (fun _ => ?_)
  refine ok.ite (fun c => absurd c (by omega)) (fun _ => ?_)
  refine ok.ite (fun c => absurd c (by omega)) (fun _ => ?_)
  refine ok.ite (fun c => absurd c (by omega)) (fun _ => ?_)
  refine ok.bd (R := fun _ Y => X = Y) ?_ (fun _ Y h => ok.ret h)
  unfold f_judgeMore
  refine ok.ck hop1 (ok.letE (v1 := X.1 40 (ix p1)) rfl ?_)
  refine ok.ite (fun c => absurd c (by omega)) (fun _ => ?_)
  refine ok.ite (fun c => absurd c (by omega)) (fun _ => ?_)
  refine ok.ite (fun c => absurd c (by omega)) (fun _ => ?_)
  refine ok.ite (fun c => absurd c (by omega)) (fun _ => ?_)
  refine ok.ite (fun c => absurd c (by omega)) (fun _ => ?_)
  refine ok.ite (fun c => absurd c (by omega)) (fun _ => ?_)
  refine ok.ite (fun c => absurd c (by omega)) (fun _ => ?_)
  refine ok.ite (fun c => absurd c (by omega)) (fun _ => ?_)
  refine ok.ite (fun c => absurd c (by omega)) (fun _ => ?_)
  refine ok.ite (fun c => absurd c (by omega)) (fun _ => ?_)
  refine ok.ite (fun c => absurd c (by omega)) (fun _ => ?_)
  refine ok.ite (fun c => absurd c (by omega)) (fun _ => ?_)
  refine ok.ite (fun c => absurd c (by omega)) (fun _ => ?_)
  refine ok.ite (fun c => absurd c (by omega)) (fun _ => ?_)
  refine ok.ite (fun c => absurd c (by omega)) (fun _ => ?_)
  refine ok.ite (fun c => absurd c (by omega)) (fun _ => ?_)
  refine ok.ite (fun c => absurd c (by omega)) (fun _ => ?_)
  exact ok.ret rfl
theorem one_16 {X : St} (hT : KT X) (hc : (X.1 0 13).toInt ≤ 5999) (hl : (X.1 0 15).toInt ≤ 19990) (hg : 0 ≤ (X.1 0 28).toInt ∧ (X.1 0 28).toInt < 12000) (hj : 0 ≤ (X.1 0 29).toInt ∧ (X.1 0 29).toInt ≤ 40) (hw : (X.1 0 9).toInt = 0) {p1 p2 : Int32} (hop1 : inR p1 24000) (hop : (X.1 40 (ix p1)).toInt = 16)  : ok (f_judgeOne p1 p2 X) (fun _ Y => X = Y) := by
  unfold f_judgeOne
  refine ok.ck hop1 (ok.letE (v1 := X.1 40 (ix p1)) rfl ?_)
  refine ok.ite (fun c => absurd c (by omega)) (fun _ => ?_)
  refine ok.ite (fun c => absurd c (by omega)) (fun _ => ?_)
  refine ok.ite (fun c => absurd c (by omega)) (fun _ => ?_)
  refine ok.ite (fun c => absurd c (by omega)) (fun _ => ?_)
  refine ok.ite (fun c => absurd c (by omega)) (fun _ => ?_)
  refine ok.ite (fun c => absurd c (by omega)) (fun _ => ?_)
  refine ok.ite (fun c => absurd c (by omega)) (fun _ => ?_)
  refine ok.ite (fun c => absurd c (by omega)) (fun _ => ?_)
  refine ok.ite (fun c => absurd c (by omega)) (fun _ => ?_)
  refine ok.ite (fun c => absurd c (by omega)) (fun _ => ?_)
  refine ok.ite (fun c => absurd c (by omega)) (fun _ => ?_)
  refine ok.ite (fun c => absurd c (by omega)) (fun _ => ?_)
  refine ok.bd (R := fun _ Y => X = Y) ?_ (fun _ Y h => ok.ret h)
  unfold f_judgeMore
  refine ok.ck hop1 (ok.letE (v1 := X.1 40 (ix p1)) rfl ?_)
  refine ok.ite (fun c => absurd c (by omega)) (fun _ => ?_)
  refine ok.ite (fun c => absurd c (by omega)) (fun _ => ?_)
  refine ok.ite (fun c => absurd c (by omega)) (fun _ => ?_)
  refine ok.ite (fun c => absurd c (by omega)) (fun _ => ?_)
  refine ok.ite (fun c => absurd c (by omega)) (fun _ => ?_)
  refine ok.ite (fun c => absurd c (by omega)) (fun _ => ?_)
  refine ok.ite (fun c => absurd c (by omega)) (fun _ => ?_)
  refine ok.ite (fun c => absurd c (by omega)) (fun _ => ?_)
  refine ok.ite (fun c => absurd c (by omega)) (fun _ => ?_)
  refine ok.ite (fun c => absurd c (by omega)) (fun _ => ?_)
  refine ok.ite (fun c => absurd c (by omega)) (fun _ => ?_)
  refine ok.ite (fun c => absurd c (by omega)) (fun _ => ?_)
  refine ok.ite (fun c => absurd c (by omega)) (fun _ => ?_)
  refine ok.ite (fun c => absurd c (by omega)) (fun _ => ?_)
  refine ok.ite (fun c => absurd c (by omega)) (fun _ => ?_)
  refine ok.ite (fun c => absurd c (by omega)) (fun _ => ?_)
  refine ok.ite (fun c => absurd c (by omega)) (fun _ => ?_)
  exact ok.ret rfl
