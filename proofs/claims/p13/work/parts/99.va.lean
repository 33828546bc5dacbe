/-! the class: ranges of cells -/
def OKC (e k : Nat) (z : Int) : Prop :=
  if e = 0 ∧ k = 1 then 0 ≤ z ∧ z ≤ 3000 else
  if e = 2 ∧ k = 1 then 0 ≤ z ∧ z ≤ 40 else
  if e = 2 ∧ k = 2 then -1 ≤ z ∧ z ≤ 39 else
  if e = 2 ∧ k = 6 then 0 ≤ z ∧ z ≤ 9080 else
  if e = 3 ∧ k = 0 then 0 ≤ z ∧ z ≤ 1549 else
  if e = 5 then 0 ≤ z ∧ z ≤ 4 else
  if e = 9 then -1 ≤ z ∧ z ≤ 1548 else
  if e = 10 then -1 ≤ z ∧ z ≤ 1548 else
  if e = 15 then 0 ≤ z ∧ z ≤ 4 else
  if e = 19 then 0 ≤ z ∧ z ≤ 9080 else
  if e = 20 then 0 ≤ z ∧ z ≤ 36 else
  if e = 23 then 0 ≤ z ∧ z ≤ 3000 else
  if e = 24 ∧ k = 1 then 0 ≤ z ∧ z ≤ 40 else
  if e = 24 ∧ k = 2 then -1 ≤ z ∧ z ≤ 39 else
  if e = 24 ∧ k = 6 then 0 ≤ z ∧ z ≤ 9080 else
  if e = 25 ∧ k = 0 then 0 ≤ z ∧ z ≤ 1549 else
  if e = 27 then 0 ≤ z ∧ z ≤ 4 else
  if e = 31 then -1 ≤ z ∧ z ≤ 1548 else
  if e = 32 then -1 ≤ z ∧ z ≤ 1548 else
  if e = 37 then 0 ≤ z ∧ z ≤ 4 else
  if e = 41 then 0 ≤ z ∧ z ≤ 9080 else
  if e = 42 then 0 ≤ z ∧ z ≤ 36 else
  if e = 45 then 0 ≤ z ∧ z ≤ 3000 else
  if e = 46 ∧ k = 2 then 0 ≤ z ∧ z ≤ 60 else
  if e = 46 ∧ k = 5 then 0 ≤ z ∧ z ≤ 126 else
  if e = 46 ∧ k = 6 then 0 ≤ z ∧ z ≤ 164 else
  if e = 46 ∧ k = 9 then 0 ≤ z ∧ z ≤ 44 else
  if e = 47 ∧ k = 1 then 0 ≤ z ∧ z ≤ 3000 else
  if e = 47 ∧ k = 2 then 0 ≤ z ∧ z ≤ 3000 else
  if e = 47 ∧ k = 4 then 0 ≤ z ∧ z ≤ 3000 else
  if e = 52 then 0 ≤ z ∧ z ≤ 3000 else
  if e = 53 then 0 ≤ z ∧ z ≤ 9079 else
  if e = 55 ∧ k = 5 then 0 ≤ z ∧ z ≤ 3000 else
  if e = 61 ∧ k = 3 then 0 ≤ z ∧ z ≤ 39 else
  if e = 61 ∧ k = 14 then 0 ≤ z ∧ z ≤ 3000 else
  if e = 68 then 0 ≤ z ∧ z ≤ 9079 else
  if e = 70 ∧ k = 11 then 0 ≤ z ∧ z ≤ 100 else
  if e = 70 ∧ k = 15 then 0 ≤ z ∧ z ≤ 20002 else
  if e = 70 ∧ k = 18 then 0 ≤ z ∧ z ≤ 200 else
  if e = 71 ∧ k = 0 then 0 ≤ z ∧ z ≤ 1000 else
  if e = 71 ∧ k = 1 then 0 ≤ z ∧ z ≤ 4000 else
  if e = 71 ∧ k = 2 then 0 ≤ z ∧ z ≤ 1000 else
  if e = 72 then 0 ≤ z ∧ z ≤ 4000 else
  if e = 73 then 0 ≤ z ∧ z ≤ 4000 else
  if e = 85 then 0 ≤ z ∧ z ≤ 999 else
  True
def INV (X : St) : Prop := (∀ e k, OKC e k (X.1 e k).toInt) ∧ ∀ r, (X.1 72 r).toInt + (X.1 73 r).toInt ≤ 4000
theorem INV.wI {X : St} {e k : Nat} {v : Int32} (h : INV X) (hv : OKC e k v.toInt) (hne : ¬ e = 72 ∧ ¬ e = 73) : INV (_root_.Jvm.Pilot.CBlameCourtLaw_law_r8381_f30dd1.wI X e k v) := by
  refine ⟨?_, fun r => by rw [wI_ne _ _ _ _ _ _ (fun g => hne.1 g.1.symm), wI_ne _ _ _ _ _ _ (fun g => hne.2 g.1.symm)]; exact h.2 r⟩
  intro e1 k1
  by_cases g : e1 = e ∧ k1 = k
  · obtain ⟨rfl, rfl⟩ := g
    rw [wI_at]
    exact hv
  · rw [wI_ne _ _ _ _ _ _ g]
    exact h.1 e1 k1
/-- a cell is written -/
theorem ok.wI {ρ : Type} {L : List Nat} {X : St} {e k : Nat} {v : Int32} {K : St → Option (ρ × St)} {Q : ρ → St → Prop} (hI : INV X) (hv : OKC e k v.toInt) (hL : cod YC e k ∈ L) (hne : ¬ e = 72 ∧ ¬ e = 73) (h : ∀ X1 : St, INV X1 → Fr YC L X X1 → X1.1 e k = v → (∀ i, i ≠ k → X1.1 e i = X.1 e i) → ok (K X1) Q) : ok (_root_.Jvm.Pilot.CBlameCourtLaw_law_r8381_f30dd1.letV (_root_.Jvm.Pilot.CBlameCourtLaw_law_r8381_f30dd1.wI X e k v) K) Q := h _ (hI.wI hv hne) (Fr.rf.wI e k v hL) (wI_at _ _ _ _) (fun i hi => wI_ne _ _ _ _ _ _ (fun g => hi g.2))
theorem ok.wL {ρ : Type} {L : List Nat} {X : St} {e k : Nat} {v : Int64} {K : St → Option (ρ × St)} {Q : ρ → St → Prop} (hI : INV X) (hL : cod YC e k ∈ L) (h : ∀ X1 : St, INV X1 → Fr YC L X X1 → X1.1 = X.1 → ok (K X1) Q) : ok (_root_.Jvm.Pilot.CBlameCourtLaw_law_r8381_f30dd1.letV (_root_.Jvm.Pilot.CBlameCourtLaw_law_r8381_f30dd1.wL X e k v) K) Q := h _ hI (Fr.rf.wL e k v hL) rfl
theorem ok.wR {ρ : Type} {L : List Nat} {X : St} {e k : Nat} {v : Nat} {K : St → Option (ρ × St)} {Q : ρ → St → Prop} (hI : INV X) (hL : cod YC e k ∈ L) (h : ∀ X1 : St, INV X1 → Fr YC L X X1 → X1.1 = X.1 → X1.2.2 e k = v → ok (K X1) Q) : ok (_root_.Jvm.Pilot.CBlameCourtLaw_law_r8381_f30dd1.letV (_root_.Jvm.Pilot.CBlameCourtLaw_law_r8381_f30dd1.wR X e k v) K) Q := h _ hI (Fr.rf.wR e k v hL) rfl (by
  show uA X.2.2 e (fun j => if j = k then v else X.2.2 e j) e k = v
  rw [uA_at]
  exact if_pos rfl)
theorem and_mask_511 (a : Int32) : 0 ≤ (a &&& 511).toInt ∧ (a &&& 511).toInt ≤ 511 := by
  have h : (a &&& 511).toBitVec.toNat ≤ 511 := by
    rw [Int32.toBitVec_and, BitVec.toNat_and]
    exact Nat.le_trans Nat.and_le_right (by decide)
  have e : (a &&& 511).toInt = ((a &&& 511).toBitVec.toNat : Int) := by
    show (a &&& 511).toBitVec.toInt = _
    exact BitVec.toInt_eq_toNat_of_lt (by omega)
  omega
theorem and_mask_255 (a : Int32) : 0 ≤ (a &&& 255).toInt ∧ (a &&& 255).toInt ≤ 255 := by
  have h : (a &&& 255).toBitVec.toNat ≤ 255 := by
    rw [Int32.toBitVec_and, BitVec.toNat_and]
    exact Nat.le_trans Nat.and_le_right (by decide)
  have e : (a &&& 255).toInt = ((a &&& 255).toBitVec.toNat : Int) := by
    show (a &&& 255).toBitVec.toInt = _
    exact BitVec.toInt_eq_toNat_of_lt (by omega)
  omega
/-- what stands of a program's code: rows and calls tell how many; a part's code ends within -/
def PGC (p op x en : Nat) (X : St) : Prop := (∀ j : Nat, (j : Int) < (X.1 p 6).toInt → ((X.1 op j).toInt = 10 ∨ (X.1 op j).toInt = 16 ∨ (X.1 op j).toInt = 32) → 0 ≤ (X.1 x j).toInt ∧ (X.1 x j).toInt ≤ 20000) ∧ ∀ k : Nat, (k : Int) ≤ (X.1 p 1).toInt → (X.1 en k).toInt ≤ (X.1 p 6).toInt
theorem PGC.fr {p op x en : Nat} {X Y : St} {L : List Nat} (h : PGC p op x en X) (hF : Fr YC L X Y) (hl : cod YC p 6 ∉ L ∧ cod YC p 1 ∉ L ∧ (∀ j, cod YC op j ∉ L) ∧ (∀ j, cod YC x j ∉ L) ∧ ∀ j, cod YC en j ∉ L) : PGC p op x en Y := by
  obtain ⟨h6, h1, ho, hx, he⟩ := hl
  refine ⟨fun j hj hc => ?_, fun k hk => ?_⟩
  · rw [hF.1 p 6 h6] at hj
    rw [hF.1 op j (ho j)] at hc
    rw [hF.1 x j (hx j)]
    exact h.1 j hj hc
  · rw [hF.1 p 1 h1] at hk
    rw [hF.1 en k (he k), hF.1 p 6 h6]
    exact h.2 k hk
theorem ok.nr {ρ : Type} {X : St} {k : Nat} {a b : Int32} {c : Prop} [Decidable c] {K : St → Option (ρ × St)} {Q : ρ → St → Prop} (hI : INV X) (ha : 0 ≤ a.toInt) (hb : 0 ≤ b.toInt) (hab : a.toInt + b.toInt ≤ 4000) (hc : c) (h : ∀ X1 : St, INV X1 → Fr YC [14400, 14600] X X1 → ok (K X1) Q) : ok (_root_.Jvm.Pilot.CBlameCourtLaw_law_r8381_f30dd1.letV (_root_.Jvm.Pilot.CBlameCourtLaw_law_r8381_f30dd1.wI X 72 k a) fun X6 => chk c (_root_.Jvm.Pilot.CBlameCourtLaw_law_r8381_f30dd1.letV (_root_.Jvm.Pilot.CBlameCourtLaw_law_r8381_f30dd1.wI X6 73 k b) K)) Q := by
  refine ok.letV (ok.ck hc (ok.letV (h _ ⟨fun e1 k1 => ?_, fun r => ?_⟩ ((Fr.rf.wI 72 k a (show (14400 : Nat) ∈ [14400, 14600] from by decide)).wI 73 k b (show (14600 : Nat) ∈ [14400, 14600] from by decide)))))
  · by_cases g : e1 = 73 ∧ k1 = k
    · obtain ⟨rfl, rfl⟩ := g
      rw [wI_at]
      exact (show 0 ≤ b.toInt ∧ b.toInt ≤ 4000 from ⟨hb, by omega⟩)
    · rw [wI_ne _ _ _ _ _ _ g]
      by_cases g2 : e1 = 72 ∧ k1 = k
      · obtain ⟨rfl, rfl⟩ := g2
        rw [wI_at]
        exact (show 0 ≤ a.toInt ∧ a.toInt ≤ 4000 from ⟨ha, by omega⟩)
      · rw [wI_ne _ _ _ _ _ _ g2]
        exact hI.1 e1 k1
  · rw [wI_ne _ 73 _ _ 72 _ (by rintro ⟨q, -⟩; exact absurd q (by decide))]
    by_cases g : r = k
    · rw [g, wI_at, wI_at]
      exact hab
    · rw [wI_ne _ 73 _ _ 73 _ (fun q => g q.2), wI_ne _ 72 _ _ 72 _ (fun q => g q.2), wI_ne _ 72 _ _ 73 _ (by rintro ⟨q, -⟩; exact absurd q (by decide))]
      exact hI.2 r
theorem i32_le (z : Int32) : -2147483648 ≤ z.toInt ∧ z.toInt ≤ 2147483647 := ⟨Int32.le_toInt z, by have := Int32.toInt_lt z; omega⟩
/-- what a step of tokens leaves -/
def TKP (X : St) : Prop := (X.1 47 4).toInt ≤ (X.1 47 2).toInt ∧ (X.1 47 2).toInt ≤ (X.1 47 1).toInt ∧ ((X.1 47 3).toInt = 257 ∨ (X.1 47 3).toInt = 260 ∨ (X.1 47 4).toInt < (X.1 47 2).toInt)
def TA (X Y : St) : Prop := ((X.1 47 3).toInt = 260 ∧ (Y.1 47 3).toInt = 260 ∧ Y.1 47 4 = X.1 47 4 ∧ Y.1 47 2 = X.1 47 2) ∨ ((X.1 47 2).toInt ≤ (X.1 47 1).toInt → TKP Y ∧ (X.1 47 2).toInt ≤ (Y.1 47 4).toInt)
/-- a stop stays -/
def ST (X Y : St) : Prop := (X.1 47 3).toInt = 260 → (Y.1 47 3).toInt = 260
theorem ST.rf {X : St} : ST X X := fun h => h
theorem ST.tr {X Y Z : St} (h : ST X Y) (g : ST Y Z) : ST X Z := fun q => g (h q)
theorem ST.fr {X Y : St} (h : Y.1 47 3 = X.1 47 3) : ST X Y := fun q => by rw [h]; exact q
def WF (a : Int) (X Y : St) : Prop := (¬ (X.1 46 3).toInt = 0 → ¬ (Y.1 46 3).toInt = 0) ∧ ((X.1 47 3).toInt = a ∨ ¬ (Y.1 46 3).toInt = 0)
/-- what rows and calls count, while a text is read without a fault: bounded by the place -/
def QX (p op x : Nat) (s : Int) (X : St) : Prop := (X.1 46 3).toInt = 0 → TKP X ∧ ∀ j : Nat, (j : Int) < (X.1 p 6).toInt → ((X.1 op j).toInt = 10 ∨ (X.1 op j).toInt = 16 ∨ (X.1 op j).toInt = 32) → 0 ≤ (X.1 x j).toInt ∧ (X.1 x j).toInt + (X.1 46 5).toInt ≤ 10000 + (X.1 47 4).toInt + s
theorem QX.mono {p op x : Nat} {s t : Int} {X : St} (h : s ≤ t) (g : QX p op x s X) : QX p op x t X := fun hf => ⟨(g hf).1, fun j hj hc => ⟨((g hf).2 j hj hc).1, by have := ((g hf).2 j hj hc).2; omega⟩⟩
theorem QX.bad {p op x : Nat} {s : Int} {X : St} (h : ¬ (X.1 46 3).toInt = 0) : QX p op x s X := fun hf => absurd hf h
theorem QX.fr {p op x : Nat} {s : Int} {X Y : St} {L : List Nat} (hF : Fr YC L X Y) (hl : (9203 : Nat) ∉ L ∧ (9401 : Nat) ∉ L ∧ (9402 : Nat) ∉ L ∧ (9403 : Nat) ∉ L ∧ (9404 : Nat) ∉ L ∧ (9205 : Nat) ∉ L) (h6 : cod YC p 6 ∉ L) (ho : ∀ j, cod YC op j ∉ L) (hx : ∀ j, cod YC x j ∉ L) (h : QX p op x s X) : QX p op x s Y := by
  obtain ⟨a, b, c, d, e, f⟩ := hl
  unfold QX TKP at *
  rw [hF.1 46 3 a, hF.1 47 1 b, hF.1 47 2 c, hF.1 47 3 d, hF.1 47 4 e, hF.1 46 5 f, hF.1 p 6 h6]
  intro hf
  obtain ⟨g, h⟩ := h hf
  refine ⟨g, fun j hj hc => ?_⟩
  rw [hF.1 op j (ho j)] at hc
  rw [hF.1 x j (hx j)]
  exact h j hj hc
theorem QX.tok {p op x : Nat} {s : Int} {X Y : St} {L : List Nat} (hF : Fr YC L X Y) (hl : (9203 : Nat) ∉ L ∧ (9205 : Nat) ∉ L) (h6 : cod YC p 6 ∉ L) (ho : ∀ j, cod YC op j ∉ L) (hx : ∀ j, cod YC x j ∉ L) (h1 : (9401 : Nat) ∉ L) (hT : TA X Y) (h : QX p op x s X) : QX p op x s Y := by
  intro hf
  have e1 : Y.1 47 1 = X.1 47 1 := hF.1 47 1 h1
  rw [hF.1 46 3 hl.1] at hf
  obtain ⟨g, h⟩ := h hf
  have key : TKP Y ∧ (X.1 47 4).toInt ≤ (Y.1 47 4).toInt := by
    unfold TKP at g
    rcases hT with ⟨a, b, c, d⟩ | k
    · unfold TKP
      rw [c, d, e1]
      exact ⟨⟨g.1, g.2.1, Or.inr (Or.inl b)⟩, Int.le_refl _⟩
    · exact ⟨(k g.2.1).1, Int.le_trans g.1 (k g.2.1).2⟩
  refine ⟨key.1, fun j hj hc => ?_⟩
  rw [hF.1 p 6 h6] at hj
  rw [hF.1 op j (ho j)] at hc
  rw [hF.1 x j (hx j), hF.1 46 5 hl.2]
  have := h j hj hc
  have := key.2
  omega
theorem QX.tok1 {p op x : Nat} {X Y : St} {L : List Nat} (hF : Fr YC L X Y) (hl : (9203 : Nat) ∉ L ∧ (9205 : Nat) ∉ L) (h6 : cod YC p 6 ∉ L) (ho : ∀ j, cod YC op j ∉ L) (hx : ∀ j, cod YC x j ∉ L) (hT : TA X Y) (hr : (X.1 46 3).toInt = 0 → ¬ (X.1 47 3).toInt = 257 ∧ ¬ (X.1 47 3).toInt = 260) (h : QX p op x 1 X) : QX p op x 0 Y := by
  intro hf
  rw [hF.1 46 3 hl.1] at hf
  obtain ⟨g, h⟩ := h hf
  have hr := hr hf
  unfold TKP at g
  have key : TKP Y ∧ (X.1 47 4).toInt + 1 ≤ (Y.1 47 4).toInt := by
    rcases hT with ⟨a, b, c, d⟩ | k
    · exact absurd a hr.2
    · exact ⟨(k g.2.1).1, by have := (k g.2.1).2; omega⟩
  refine ⟨key.1, fun j hj hc => ?_⟩
  rw [hF.1 p 6 h6] at hj
  rw [hF.1 op j (ho j)] at hc
  rw [hF.1 x j (hx j), hF.1 46 5 hl.2]
  have := h j hj hc
  have := key.2
  omega
theorem QX.wt {p op x : Nat} {s t : Int} {X Y : St} {v : Int32} (hF : Fr YC [9205] X Y) (hk : Y.1 46 5 = v) (hv : v.toInt + s ≤ (X.1 46 5).toInt + t) (h6 : cod YC p 6 ∉ [9205]) (ho : ∀ j, cod YC op j ∉ [9205]) (hx : ∀ j, cod YC x j ∉ [9205]) (h : QX p op x s X) : QX p op x t Y := by
  unfold QX TKP at *
  rw [hF.1 46 3 (show (9203 : Nat) ∉ [9205] from by decide), hF.1 47 1 (show (9401 : Nat) ∉ [9205] from by decide), hF.1 47 2 (show (9402 : Nat) ∉ [9205] from by decide), hF.1 47 3 (show (9403 : Nat) ∉ [9205] from by decide), hF.1 47 4 (show (9404 : Nat) ∉ [9205] from by decide), hF.1 p 6 h6, hk]
  intro hf
  obtain ⟨g, h⟩ := h hf
  refine ⟨g, fun j hj hc => ?_⟩
  rw [hF.1 op j (ho j)] at hc
  rw [hF.1 x j (hx j)]
  have := h j hj hc
  omega
theorem QX.wx {p op x k c : Nat} {s : Int} {X Y : St} {v : Int32} (hI : INV X) (hs : 0 ≤ s) (hF : Fr YC [c] X Y) (hk : Y.1 x k = v) (hoo : ∀ i, i ≠ k → Y.1 x i = X.1 x i) (hv : 0 ≤ v.toInt ∧ v.toInt ≤ 9080) (h6 : cod YC p 6 ∉ [c]) (ho : ∀ j, cod YC op j ∉ [c]) (hl : (9203 : Nat) ∉ [c] ∧ (9401 : Nat) ∉ [c] ∧ (9402 : Nat) ∉ [c] ∧ (9403 : Nat) ∉ [c] ∧ (9404 : Nat) ∉ [c] ∧ (9205 : Nat) ∉ [c]) (h : QX p op x s X) : QX p op x s Y := by
  obtain ⟨a, b, c, d, e, f⟩ := hl
  have g5 : 0 ≤ (X.1 46 5).toInt ∧ (X.1 46 5).toInt ≤ 126 := hI.1 46 5
  have g4 : 0 ≤ (X.1 47 4).toInt ∧ (X.1 47 4).toInt ≤ 3000 := hI.1 47 4
  unfold QX TKP at *
  rw [hF.1 46 3 a, hF.1 47 1 b, hF.1 47 2 c, hF.1 47 3 d, hF.1 47 4 e, hF.1 46 5 f, hF.1 p 6 h6]
  intro hf
  obtain ⟨g, h⟩ := h hf
  refine ⟨g, fun j hj hc => ?_⟩
  rw [hF.1 op j (ho j)] at hc
  by_cases q : j = k
  · rw [q, hk]
    omega
  · rw [hoo j q]
    exact h j hj hc
theorem QX.emit {p op x n : Nat} {s : Int} {X Y : St} {L : List Nat} {a b : Int32} (hI : INV X) (hs : 0 ≤ s) (hn : (n : Int) = (X.1 p 6).toInt) (h6 : (Y.1 p 6).toInt = (X.1 p 6).toInt + 1) (ha : Y.1 op n = a) (hb : Y.1 x n = b) (ho : ∀ i, i ≠ n → Y.1 op i = X.1 op i) (hx : ∀ i, i ≠ n → Y.1 x i = X.1 x i) (hc : (a.toInt = 10 ∨ a.toInt = 16 ∨ a.toInt = 32) → 0 ≤ b.toInt ∧ b.toInt ≤ 9000) (hF : Fr YC L X Y) (hl : (9203 : Nat) ∉ L ∧ (9401 : Nat) ∉ L ∧ (9402 : Nat) ∉ L ∧ (9403 : Nat) ∉ L ∧ (9404 : Nat) ∉ L ∧ (9205 : Nat) ∉ L) (h : QX p op x s X) : QX p op x s Y := by
  obtain ⟨a1, b1, c1, d1, e1, f1⟩ := hl
  have g5 : 0 ≤ (X.1 46 5).toInt ∧ (X.1 46 5).toInt ≤ 126 := hI.1 46 5
  have g4 : 0 ≤ (X.1 47 4).toInt ∧ (X.1 47 4).toInt ≤ 3000 := hI.1 47 4
  unfold QX TKP at *
  rw [hF.1 46 3 a1, hF.1 47 1 b1, hF.1 47 2 c1, hF.1 47 3 d1, hF.1 47 4 e1, hF.1 46 5 f1, h6]
  intro hf
  obtain ⟨g, h⟩ := h hf
  refine ⟨g, fun j hj hcc => ?_⟩
  by_cases q : j = n
  · rw [q, ha] at hcc
    rw [q, hb]
    have := hc hcc
    omega
  · rw [ho j q] at hcc
    rw [hx j q]
    exact h j (by omega) hcc
theorem QX.up {p op x k c : Nat} {X Y : St} (hI : INV X) (hF : Fr YC [c] X Y) (hk : Y.1 x k = X.1 x k + 1) (hoo : ∀ i, i ≠ k → Y.1 x i = X.1 x i) (h6 : cod YC p 6 ∉ [c]) (ho : ∀ j, cod YC op j ∉ [c]) (hl : (9203 : Nat) ∉ [c] ∧ (9401 : Nat) ∉ [c] ∧ (9402 : Nat) ∉ [c] ∧ (9403 : Nat) ∉ [c] ∧ (9404 : Nat) ∉ [c] ∧ (9205 : Nat) ∉ [c]) (h : QX p op x 0 X) : QX p op x 1 Y := by
  obtain ⟨a, b, c, d, e, f⟩ := hl
  have g5 : 0 ≤ (X.1 46 5).toInt ∧ (X.1 46 5).toInt ≤ 126 := hI.1 46 5
  have g4 : 0 ≤ (X.1 47 4).toInt ∧ (X.1 47 4).toInt ≤ 3000 := hI.1 47 4
  unfold QX TKP at *
  rw [hF.1 46 3 a, hF.1 47 1 b, hF.1 47 2 c, hF.1 47 3 d, hF.1 47 4 e, hF.1 46 5 f, hF.1 p 6 h6]
  intro hf
  obtain ⟨g, h⟩ := h hf
  refine ⟨g, fun j hj hc => ?_⟩
  rw [hF.1 op j (ho j)] at hc
  have hh := h j hj hc
  by_cases q : j = k
  · subst q
    have l1 : (1 : Int32).toInt = 1 := rfl
    have e2 : (Y.1 x j).toInt = (X.1 x j).toInt + 1 := by
      rw [hk, ti_add (by rw [l1]; omega) (by rw [l1]; omega), l1]
    omega
  · rw [hoo j q]
    omega
theorem PGC.wx {p op x en k c : Nat} {X Y : St} (h : PGC p op x en X) (hF : Fr YC [c] X Y) (hoo : ∀ i, i ≠ k → Y.1 x i = X.1 x i) (hop : ¬ ((X.1 op k).toInt = 10 ∨ (X.1 op k).toInt = 16 ∨ (X.1 op k).toInt = 32)) (hl : cod YC p 6 ∉ [c] ∧ cod YC p 1 ∉ [c] ∧ (∀ j, cod YC op j ∉ [c]) ∧ ∀ j, cod YC en j ∉ [c]) : PGC p op x en Y := by
  obtain ⟨h6, h1, ho, he⟩ := hl
  refine ⟨fun j hj hc => ?_, fun k hk => ?_⟩
  · rw [hF.1 p 6 h6] at hj
    rw [hF.1 op j (ho j)] at hc
    by_cases q : j = k
    · exact absurd (q ▸ hc) hop
    · rw [hoo j q]
      exact h.1 j hj hc
  · rw [hF.1 p 1 h1] at hk
    rw [hF.1 en k (he k), hF.1 p 6 h6]
    exact h.2 k hk
