/-! fits() -/
/-- the i-th kind within kind a -/
def cmpK (X : St) (a : Int32) (i : Nat) : Int32 := X.1 9 (ix (X.1 6 (ix a)) + i)
def FB (R : Int32 → Int32 → Prop) (X : St) (a b : Int32) : Prop := a = b ∨ a.toInt = 2 ∨ b.toInt = 2 ∨ (X.1 4 (ix a) = X.1 4 (ix b) ∧ 4 ≤ (X.1 4 (ix a)).toInt ∧ X.1 5 (ix a) = X.1 5 (ix b) ∧ ∀ i : Nat, (i : Int) < (X.1 5 (ix a)).toInt → R (cmpK X a i) (cmpK X b i))
/-- the least such: a value of kind a may stand where b is told -/
def FIT (X : St) (a b : Int32) : Prop := ∀ R : Int32 → Int32 → Prop, (∀ a b, FB R X a b → R a b) → R a b
theorem FB.mono {R R1 : Int32 → Int32 → Prop} {X : St} {a b : Int32} (h : FB R X a b) (hR : ∀ a b, R a b → R1 a b) : FB R1 X a b := by
  rcases h with h | h | h | ⟨h1, h2, h3, h4⟩
  · exact Or.inl h
  · exact Or.inr (Or.inl h)
  · exact Or.inr (Or.inr (Or.inl h))
  · exact Or.inr (Or.inr (Or.inr ⟨h1, h2, h3, fun i hi => hR _ _ (h4 i hi)⟩))
theorem FIT.intro {X : St} {a b : Int32} (h : FB (FIT X) X a b) : FIT X a b := fun R hR => hR _ _ (h.mono (fun _ _ q => q R hR))
theorem FIT.ind {X : St} {P : Int32 → Int32 → Prop} (hP : ∀ a b, FB (fun a b => FIT X a b ∧ P a b) X a b → P a b) {a b : Int32} (h : FIT X a b) : P a b :=
  (h (fun a b => FIT X a b ∧ P a b) (fun a b q => ⟨FIT.intro (q.mono (fun _ _ p => p.1)), hP _ _ q⟩)).2
theorem FIT.inv {X : St} {a b : Int32} (h : FIT X a b) : FB (FIT X) X a b := FIT.ind (P := fun a b => FB (FIT X) X a b) (fun _ _ q => q.mono (fun _ _ p => p.1)) h
theorem cmpK_lt {X : St} (hT : KT X) {a : Int32} (h0 : 0 ≤ a.toInt) (ha : a.toInt < (X.1 0 13).toInt) {i : Nat} (hi : (i : Int) < (X.1 5 (ix a)).toInt) : 0 ≤ (cmpK X a i).toInt ∧ (cmpK X a i).toInt < a.toInt := by
  have e := ixc h0
  have q := (hT.2.2 (ix a) (by omega)).2.2.2.2 i hi
  unfold cmpK
  omega
theorem cmpK_kx {X Y : St} (hT : KT X) (hK : KX X Y) {a : Int32} (h0 : 0 ≤ a.toInt) (ha : a.toInt < (X.1 0 13).toInt) {i : Nat} (hi : (i : Int) < (X.1 5 (ix a)).toInt) : cmpK Y a i = cmpK X a i := by
  have e := ixc h0
  obtain ⟨g1, g2, g3, g4, -⟩ := hT.2.2 (ix a) (by omega)
  obtain ⟨e4, e5, e6⟩ := hK.2.2.1 (ix a) (by omega)
  have e6x := ixc g1
  unfold cmpK
  rw [e6]
  exact hK.2.2.2 _ (by omega)
theorem FIT.kx {X Y : St} {a b : Int32} (h : FIT X a b) (hT : KT X) (hK : KX X Y) (ha : 0 ≤ a.toInt ∧ a.toInt < (X.1 0 13).toInt) (hb : 0 ≤ b.toInt ∧ b.toInt < (X.1 0 13).toInt) : FIT Y a b := by
  refine (FIT.ind (P := fun a b => (0 ≤ a.toInt ∧ a.toInt < (X.1 0 13).toInt) → (0 ≤ b.toInt ∧ b.toInt < (X.1 0 13).toInt) → FIT Y a b) ?_ h) ha hb
  intro a b h ha hb
  refine FIT.intro ?_
  rcases h with h | h | h | ⟨h1, h2, h3, h4⟩
  · exact Or.inl h
  · exact Or.inr (Or.inl h)
  · exact Or.inr (Or.inr (Or.inl h))
  · have ea := ixc ha.1
    have eb := ixc hb.1
    obtain ⟨a4, a5, a6⟩ := hK.2.2.1 (ix a) (by omega)
    obtain ⟨b4, b5, b6⟩ := hK.2.2.1 (ix b) (by omega)
    refine Or.inr (Or.inr (Or.inr ⟨by rw [a4, b4]; exact h1, by rw [a4]; exact h2, by rw [a5, b5]; exact h3, fun i hi => ?_⟩))
    rw [a5] at hi
    have hi2 : (i : Int) < (X.1 5 (ix b)).toInt := by rw [← h3]; exact hi
    have ca := cmpK_lt hT ha.1 ha.2 hi
    have cb := cmpK_lt hT hb.1 hb.2 hi2
    rw [cmpK_kx hT hK ha.1 ha.2 hi, cmpK_kx hT hK hb.1 hb.2 hi2]
    exact (h4 i hi).2 (by omega) (by omega)
theorem kszp {X : St} (hT : KT X) {k : Nat} (hk : (k : Int) < (X.1 0 13).toInt) : 1 ≤ ksz X k := by
  rw [ksz_eq hT hk]
  omega
/-- pairs of kinds to be held against each other, weighed -/
def wsum (X Z : St) (n : Nat) : Nat := sumN (fun j => ksz X (ix (Z.1 32 j))) n
def PRS (X Z : St) (n : Nat) : Prop := ∀ j, j < n → (0 ≤ (Z.1 31 j).toInt ∧ (Z.1 31 j).toInt < (X.1 0 13).toInt) ∧ (0 ≤ (Z.1 32 j).toInt ∧ (Z.1 32 j).toInt < (X.1 0 13).toInt)
theorem wsum_ge {X Z : St} (hT : KT X) {n : Nat} (h : PRS X Z n) : n ≤ wsum X Z n := by
  induction n with
  | zero => exact Nat.zero_le _
  | succ n ih =>
    have h1 := ih (fun j hj => h j (by omega))
    have h2 := (h n (by omega)).2
    have e := ixc h2.1
    have h3 := kszp hT (k := ix (Z.1 32 n)) (by omega)
    show n + 1 ≤ wsum X Z n + ksz X (ix (Z.1 32 n))
    omega
set_option maxHeartbeats 4000000 in
theorem fits_in {X : St} (hT : KT X) (h13 : (X.1 0 13).toInt ≤ 6000) (h15 : (X.1 0 15).toInt ≤ 20000) {r16 : Int32 → St → Option (Int32 × St)} {Q : Int32 → St → Prop} {p q : Int32} (hp : 0 ≤ p.toInt ∧ p.toInt < (X.1 0 13).toInt) (hq : 0 ≤ q.toInt ∧ q.toInt < (X.1 0 13).toInt) (h5 : X.1 5 (ix p) = X.1 5 (ix q)) {n : Nat} (hn : n + ix (X.1 5 (ix p)) < 6000) {Z : St} (hcont : ∀ (Y : St) (a : Int32), Fr YR [6200, 6400] X Y → a.toInt = (n : Int) + (X.1 5 (ix p)).toInt → (∀ j, j < n → Y.1 31 j = Z.1 31 j ∧ Y.1 32 j = Z.1 32 j) → (∀ i : Nat, (i : Int) < (X.1 5 (ix p)).toInt → Y.1 31 (n + i) = cmpK X p i ∧ Y.1 32 (n + i) = cmpK X q i) → ok (r16 a Y) Q) : ∀ (d i : Nat) (Y : St) (a a6 : Int32) (N : Nat), i + d = ix (X.1 5 (ix p)) → d < N → Fr YR [6200, 6400] X Y → a.toInt = (n : Int) + i → a6.toInt = (i : Int) → (∀ j, j < n → Y.1 31 j = Z.1 31 j ∧ Y.1 32 j = Z.1 32 j) → (∀ k, k < i → Y.1 31 (n + k) = cmpK X p k ∧ Y.1 32 (n + k) = cmpK X q k) → ok (f_fits_111 r16 N a p q a6 Y) Q := by
  have ep := ixc hp.1
  have eq_ := ixc hq.1
  obtain ⟨p1, p2, p3, p4, p5⟩ := hT.2.2 (ix p) (by omega)
  obtain ⟨q1, q2, q3, q4, q5⟩ := hT.2.2 (ix q) (by omega)
  have e5 := ixc p2
  have e6p := ixc p1
  have e6q := ixc q1
  have h5i : (X.1 5 (ix p)).toInt = (X.1 5 (ix q)).toInt := by rw [h5]
  have inp : inR p 6000 := ⟨hp.1, show p.toInt < ((6000 : Nat) : Int) by omega⟩
  have inq : inR q 6000 := ⟨hq.1, show q.toInt < ((6000 : Nat) : Int) by omega⟩
  intro d
  induction d with
  | zero =>
    intro i Y a a6 N hi hN hF ha ha6 h1 h2
    obtain ⟨N, rfl⟩ : ∃ k, N = k + 1 := ⟨N - 1, by omega⟩
    unfold f_fits_111
    rw [lp_succ]
    unfold f_fits_111_s
    refine ok.ck inp (ok.letE (v1 := X.1 5 (ix p)) (hF.1 5 _ (show (1000 : Nat) ∉ [6200, 6400] from by decide)) ?_)
    refine ok.ite (fun _ => ?_) (fun c => absurd (show (X.1 5 (ix p)).toInt ≤ a6.toInt by omega) c)
    exact hcont Y a hF (by omega) h1 (fun k hk => h2 k (by omega))
  | succ d ih =>
    intro i Y a a6 N hi hN hF ha ha6 h1 h2
    obtain ⟨N, rfl⟩ : ∃ k, N = k + 1 := ⟨N - 1, by omega⟩
    have ea := ixc (z := a) (by omega)
    have eai : ix a = n + i := by omega
    have ina : inR a 6000 := ⟨by omega, show a.toInt < ((6000 : Nat) : Int) by omega⟩
    unfold f_fits_111
    rw [lp_succ]
    unfold f_fits_111_s
    refine ok.ck inp (ok.letE (v1 := X.1 5 (ix p)) (hF.1 5 _ (show (1000 : Nat) ∉ [6200, 6400] from by decide)) ?_)
    refine ok.ite (fun c => absurd c (by omega)) (fun _ => ?_)
    refine ok.ck inp (ok.letE (v1 := X.1 6 (ix p)) (hF.1 6 _ (show (1200 : Nat) ∉ [6200, 6400] from by decide)) ?_)
    refine ok.add (by omega) (fun x13 hx13 => ?_)
    have ex13 := ixc (z := x13) (by omega)
    have ei13 : ix x13 = ix (X.1 6 (ix p)) + i := by omega
    refine ok.ck ⟨by omega, show x13.toInt < ((20000 : Nat) : Int) by omega⟩ (ok.letE (v1 := cmpK X p i) (by rw [hF.1 9 _ (show (1800 : Nat) ∉ [6200, 6400] from by decide), ei13]; rfl) ?_)
    refine ok.ck ina (ok.letV ?_)
    refine ok.ck inq (ok.letE (v1 := X.1 6 (ix q)) ((wI_ne _ 31 _ _ 6 _ (by rintro ⟨g, -⟩; omega)).trans (hF.1 6 _ (show (1200 : Nat) ∉ [6200, 6400] from by decide))) ?_)
    refine ok.add (by omega) (fun x17 hx17 => ?_)
    have ex17 := ixc (z := x17) (by omega)
    have ei17 : ix x17 = ix (X.1 6 (ix q)) + i := by omega
    refine ok.ck ⟨by omega, show x17.toInt < ((20000 : Nat) : Int) by omega⟩ (ok.letE (v1 := cmpK X q i) (by rw [wI_ne _ 31 _ _ 9 _ (by rintro ⟨g, -⟩; omega), hF.1 9 _ (show (1800 : Nat) ∉ [6200, 6400] from by decide), ei17]; rfl) ?_)
    refine ok.ck ina (ok.letV ?_)
    refine ok.inc (by decide) (by omega) (fun x20 hx20 => ok.inc (by decide) (by omega) (fun x21 hx21 => ?_))
    have hx20 : x20.toInt = a.toInt + 1 := hx20
    have hx21 : x21.toInt = a6.toInt + 1 := hx21
    have key := ih (i + 1) (wI (wI Y 31 (ix a) (cmpK X p i)) 32 (ix a) (cmpK X q i)) x20 x21 N (by omega) (by omega) ((hF.wI 31 _ _ (show (6200 : Nat) ∈ [6200, 6400] from by decide)).wI 32 _ _ (show (6400 : Nat) ∈ [6200, 6400] from by decide)) (by omega) (by omega) (fun j hj => ?_) (fun k hk => ?_)
    · unfold f_fits_111 at key
      exact key
    · rw [wI_ne _ 32 _ _ 31 _ (by rintro ⟨g, -⟩; omega), wI_ne _ 31 _ _ 31 _ (by rintro ⟨-, g⟩; omega), wI_ne _ 32 _ _ 32 _ (by rintro ⟨-, g⟩; omega), wI_ne _ 31 _ _ 32 _ (by rintro ⟨g, -⟩; omega)]
      exact h1 j hj
    · by_cases g : k = i
      · subst g
        rw [wI_ne _ 32 _ _ 31 _ (by rintro ⟨g, -⟩; omega), ← eai, wI_at, wI_at]
        exact ⟨rfl, rfl⟩
      · rw [wI_ne _ 32 _ _ 31 _ (by rintro ⟨g, -⟩; omega), wI_ne _ 31 _ _ 31 _ (by rintro ⟨-, g⟩; omega), wI_ne _ 32 _ _ 32 _ (by rintro ⟨-, g⟩; omega), wI_ne _ 31 _ _ 32 _ (by rintro ⟨g, -⟩; omega)]
        exact h2 k (by omega)
def FQ (X Z : St) (n : Nat) : Int32 → St → Prop := fun r Y => Fr YR [6200, 6400] X Y ∧ (r.toInt = 0 ∨ r.toInt = 1) ∧ (r.toInt = 1 → ∀ j, j < n → FIT X (Z.1 31 j) (Z.1 32 j))
set_option maxHeartbeats 4000000 in
theorem fits_loop {X : St} (hT : KT X) (h13 : (X.1 0 13).toInt ≤ 6000) (h15 : (X.1 0 15).toInt ≤ 20000) : ∀ (N n : Nat) (Z : St) (a : Int32), a.toInt = (n : Int) → Fr YR [6200, 6400] X Z → PRS X Z n → wsum X Z n ≤ 6000 → wsum X Z n < N → ok (f_fits_16 N a Z) (FQ X Z n) := by
  intro N
  induction N with
  | zero => intro n Z a _ _ _ _ h; exact absurd h (Nat.not_lt_zero _)
  | succ N ih =>
    intro n Z a ha hF hP h6 hN
    unfold f_fits_16
    rw [lp_succ]
    unfold f_fits_16_s
    refine ok.ite (fun c => ?_) (fun c => ?_)
    · exact ok.ret ⟨hF, Or.inr rfl, fun _ j hj => by omega⟩
    obtain ⟨n, rfl⟩ : ∃ k, n = k + 1 := ⟨n - 1, by omega⟩
    have hge := wsum_ge hT hP
    have hw : wsum X Z (n + 1) = wsum X Z n + ksz X (ix (Z.1 32 n)) := rfl
    obtain ⟨hp, hq⟩ := hP n (by omega)
    have ep := ixc hp.1
    have eq_ := ixc hq.1
    have hk := kszp hT (k := ix (Z.1 32 n)) (by omega)
    refine ok.inc (by decide) (by omega) (fun x3 hx3 => ?_)
    have hx3 : x3.toInt = (n : Int) := by
      have : x3.toInt = a.toInt + -1 := hx3
      omega
    have e3 := ixc (z := x3) (by omega)
    have ei3 : ix x3 = n := by omega
    have in3 : inR x3 6000 := ⟨by omega, show x3.toInt < ((6000 : Nat) : Int) by omega⟩
    have inp : inR (Z.1 31 n) 6000 := ⟨hp.1, show (Z.1 31 n).toInt < ((6000 : Nat) : Int) by omega⟩
    have inq : inR (Z.1 32 n) 6000 := ⟨hq.1, show (Z.1 32 n).toInt < ((6000 : Nat) : Int) by omega⟩
    refine ok.ck in3 (ok.letE (v1 := Z.1 31 n) (by rw [ei3]) ?_)
    refine ok.ck in3 (ok.letE (v1 := Z.1 32 n) (by rw [ei3]) ?_)
    have go : FIT X (Z.1 31 n) (Z.1 32 n) → ok (lp (fun _ _ => none) f_fits_16_s N x3 Z) (FQ X Z (n + 1)) := by
      intro hf
      have key := ih n Z x3 hx3 hF (fun j hj => hP j (by omega)) (by omega) (by omega)
      unfold f_fits_16 at key
      refine key.mono ?_
      rintro r Y ⟨y1, y2, y3⟩
      refine ⟨y1, y2, fun hr j hj => ?_⟩
      by_cases g : j = n
      · rw [g]; exact hf
      · exact y3 hr j (by omega)
    have no : ok (some ((0 : Int32), Z)) (FQ X Z (n + 1)) := ok.ret ⟨hF, Or.inl rfl, fun hr => absurd hr (by decide)⟩
    refine ok.ite (fun c1 => go (FIT.intro (Or.inl (Int32.toInt_inj.mp c1)))) (fun c1 => ?_)
    refine ok.ite (fun c2 => go (FIT.intro (Or.inr (Or.inl c2)))) (fun c2 => ?_)
    refine ok.ite (fun c3 => go (FIT.intro (Or.inr (Or.inr (Or.inl c3))))) (fun c3 => ?_)
    have f4 : ∀ i, Z.1 4 i = X.1 4 i := fun i => hF.1 4 i (show (800 : Nat) ∉ [6200, 6400] from by decide)
    have f5 : ∀ i, Z.1 5 i = X.1 5 i := fun i => hF.1 5 i (show (1000 : Nat) ∉ [6200, 6400] from by decide)
    refine ok.ck inp (ok.letE (v1 := X.1 4 (ix (Z.1 31 n))) (f4 _) ?_)
    refine ok.ck inq (ok.letE (v1 := X.1 4 (ix (Z.1 32 n))) (f4 _) ?_)
    refine ok.ite (fun c4 => ?_) (fun _ => no)
    refine ok.ck inp (ok.letE (v1 := X.1 4 (ix (Z.1 31 n))) (f4 _) ?_)
    refine ok.ite (fun _ => no) (fun c5 => ?_)
    refine ok.ck inp (ok.letE (v1 := X.1 5 (ix (Z.1 31 n))) (f5 _) ?_)
    refine ok.ck inq (ok.letE (v1 := X.1 5 (ix (Z.1 32 n))) (f5 _) ?_)
    refine ok.ite (fun c6 => ?_) (fun _ => no)
    have h5 : X.1 5 (ix (Z.1 31 n)) = X.1 5 (ix (Z.1 32 n)) := Int32.toInt_inj.mp c6
    have hks := ksz_eq hT (k := ix (Z.1 32 n)) (by omega)
    have hm5 := (hT.2.2 (ix (Z.1 31 n)) (by omega)).2.1
    have e5 := ixc hm5
    have hsum : wsum X Z n + sumN (fun i => ksz X (ix (cmpK X (Z.1 32 n) i))) (ix (X.1 5 (ix (Z.1 31 n)))) + 1 = wsum X Z (n + 1) := by
      rw [hw, hks, h5]
      show wsum X Z n + sumN (fun i => ksz X (ix (X.1 9 (ix (X.1 6 (ix (Z.1 32 n))) + i)))) (ix (X.1 5 (ix (Z.1 32 n)))) + 1 = _
      omega
    have hmk : ix (X.1 5 (ix (Z.1 31 n))) ≤ sumN (fun i => ksz X (ix (cmpK X (Z.1 32 n) i))) (ix (X.1 5 (ix (Z.1 31 n)))) := by
      have key : ∀ m, m ≤ ix (X.1 5 (ix (Z.1 31 n))) → m ≤ sumN (fun i => ksz X (ix (cmpK X (Z.1 32 n) i))) m := by
        intro m
        induction m with
        | zero => intro _; exact Nat.zero_le _
        | succ m ihm =>
          intro hm
          have h1 := ihm (by omega)
          have hc := cmpK_lt hT hq.1 hq.2 (i := m) (by rw [← h5]; omega)
          have ec := ixc hc.1
          have h2 := kszp hT (k := ix (cmpK X (Z.1 32 n) m)) (by omega)
          show m + 1 ≤ sumN _ m + ksz X (ix (cmpK X (Z.1 32 n) m))
          omega
      exact key _ (Nat.le_refl _)
    have hgn := wsum_ge hT (X := X) (Z := Z) (n := n) (fun j hj => hP j (by omega))
    refine fits_in hT h13 h15 hp hq h5 (n := n) (by omega) (Z := Z) (fun Y a2 hFY ha2 h1 h2 => ?_) (ix (X.1 5 (ix (Z.1 31 n)))) 0 Z x3 0 BIG (by omega) (ltBIG (by omega)) hF (by omega) rfl (fun j _ => ⟨rfl, rfl⟩) (fun k hk => absurd hk (Nat.not_lt_zero _))
    have hws : wsum X Y (n + ix (X.1 5 (ix (Z.1 31 n)))) = wsum X Z n + sumN (fun i => ksz X (ix (cmpK X (Z.1 32 n) i))) (ix (X.1 5 (ix (Z.1 31 n)))) := by
      unfold wsum
      rw [sumN_add]
      rw [sumN_congr n (g1 := fun j => ksz X (ix (Z.1 32 j))) (fun j hj => by rw [(h1 j hj).2]), sumN_congr (ix (X.1 5 (ix (Z.1 31 n)))) (g1 := fun i => ksz X (ix (cmpK X (Z.1 32 n) i))) (fun i hi => by rw [(h2 i (by omega)).2])]
    have key := ih (n + ix (X.1 5 (ix (Z.1 31 n)))) Y a2 (by omega) hFY (fun j hj => ?_) (by omega) (by omega)
    · unfold f_fits_16 at key
      refine key.mono ?_
      rintro r V ⟨y1, y2, y3⟩
      refine ⟨y1, y2, fun hr j hj => ?_⟩
      by_cases g : j = n
      · subst g
        refine FIT.intro (Or.inr (Or.inr (Or.inr ⟨Int32.toInt_inj.mp c4, by omega, h5, fun i hi => ?_⟩)))
        have q := y3 hr (j + i) (by omega)
        rw [(h2 i hi).1, (h2 i hi).2] at q
        exact q
      · have q := y3 hr j (by omega)
        rw [(h1 j (by omega)).1, (h1 j (by omega)).2] at q
        exact q
    · by_cases g : j < n
      · rw [(h1 j g).1, (h1 j g).2]
        exact hP j (by omega)
      · have hi : ((j - n : Nat) : Int) < (X.1 5 (ix (Z.1 31 n))).toInt := by omega
        have q := h2 (j - n) hi
        rw [show n + (j - n) = j by omega] at q
        rw [q.1, q.2]
        have c1' := cmpK_lt hT hp.1 hp.2 hi
        have c2' := cmpK_lt hT hq.1 hq.2 (i := j - n) (by rw [← h5]; exact hi)
        omega
theorem t_f_fits {X : St} (hT : KT X) (h13 : (X.1 0 13).toInt ≤ 6000) (h15 : (X.1 0 15).toInt ≤ 20000) {p q : Int32} (hp : 0 ≤ p.toInt ∧ p.toInt < (X.1 0 13).toInt) (hq : 0 ≤ q.toInt ∧ q.toInt < (X.1 0 13).toInt) (hs : ksz X (ix q) ≤ 6000) : ok (f_fits p q X) (fun r Y => Fr YR [6200, 6400] X Y ∧ (r.toInt = 0 ∨ r.toInt = 1) ∧ (r.toInt = 1 → FIT X p q)) := by
  have in0 : inR (0 : Int32) 6000 := ⟨by decide, by decide⟩
  have i0 : ix (0 : Int32) = 0 := by decide
  unfold f_fits
  refine ok.ck in0 (ok.letV (ok.ck in0 (ok.letV ?_)))
  have hF : Fr YR [6200, 6400] X (wI (wI X 31 (ix 0) p) 32 (ix 0) q) := (Fr.rf.wI 31 _ _ (show (6200 : Nat) ∈ [6200, 6400] from by decide)).wI 32 _ _ (show (6400 : Nat) ∈ [6200, 6400] from by decide)
  have r31 : (wI (wI X 31 (ix 0) p) 32 (ix 0) q).1 31 0 = p := by rw [i0, wI_ne _ 32 _ _ 31 _ (by rintro ⟨g, -⟩; omega), wI_at]
  have r32 : (wI (wI X 31 (ix 0) p) 32 (ix 0) q).1 32 0 = q := by rw [i0, wI_at]
  obtain ⟨Z, hZ⟩ : ∃ Z : St, wI (wI X 31 (ix 0) p) 32 (ix 0) q = Z := ⟨_, rfl⟩
  rw [hZ] at hF r31 r32 ⊢
  have hw : wsum X Z 1 = ksz X (ix q) := by
    show 0 + ksz X (ix (Z.1 32 0)) = _
    rw [r32]
    omega
  refine (fits_loop hT h13 h15 BIG 1 Z 1 (by decide) hF (fun j hj => ?_) (by omega) (by rw [hw]; exact Nat.lt_of_le_of_lt hs (by decide))).mono ?_
  · rw [show j = 0 by omega, r31, r32]
    exact ⟨hp, hq⟩
  · rintro r Y ⟨y1, y2, y3⟩
    refine ⟨y1, y2, fun hr => ?_⟩
    have g := y3 hr 0 (by omega)
    rw [r31, r32] at g
    exact g
