/-! the class is made -/
/-- refs stay -/
def nr {ρ : Type} (φ : Nat → Nat → Nat) (F : Option (ρ × St)) : Prop := ∀ r Y, F = some (r, Y) → Y.2.2 = φ
section NR
variable {ρ ρ1 τ : Type} {A B : Option (ρ × St)} {φ : Nat → Nat → Nat}
theorem nr.none : nr φ (none : Option (ρ × St)) := fun r Y h => by cases h
theorem nr.ret {r : ρ} {X : St} (h : X.2.2 = φ) : nr φ (some (r, X)) := fun r1 Y e => by
  injection e with e
  injection e with _ e
  rw [← e]
  exact h
theorem nr.ite {c : Prop} [Decidable c] (h1 : nr φ A) (h2 : nr φ B) : nr φ (if c then A else B) := by
  by_cases h : c
  · rw [if_pos h]; exact h1
  · rw [if_neg h]; exact h2
theorem nr.ck {c : Prop} [Decidable c] (h : nr φ A) : nr φ (chk c A) := nr.ite h nr.none
theorem nr.lv {v : τ} {K : τ → Option (ρ × St)} (h : ∀ z, nr φ (K z)) : nr φ (letV v K) := h v
theorem nr.wI {X : St} {e k : Nat} {v : Int32} {K : St → Option (ρ × St)} (h0 : X.2.2 = φ) (h : ∀ X1 : St, X1.2.2 = φ → nr φ (K X1)) : nr φ (letV (_root_.Jvm.Pilot.CBlameCourtLaw_law_r8381_f30dd1.wI X e k v) K) := h _ h0
theorem nr.bd {G : Option (ρ1 × St)} {K : ρ1 → St → Option (ρ × St)} (hG : nr φ G) (h : ∀ r X, X.2.2 = φ → nr φ (K r X)) : nr φ (bnd G K) := by
  intro r Y e
  cases hg : G with
  | none =>
    rw [hg] at e
    cases e
  | some p =>
    obtain ⟨r1, X1⟩ := p
    rw [hg] at e
    exact h r1 X1 (hG r1 X1 hg) r Y e
end NR
/-- what stands while the class is made -/
def CI (c : Nat) (f : Nat → Nat) (X : St) : Prop := INV X ∧ (∀ e k, X.2.2 e k ≤ c) ∧ X.2.2 0 = f ∧ (X.1 0 1).toInt = 0 ∧ (X.1 2 1).toInt = 0 ∧ (X.1 2 6).toInt = 0 ∧ (X.1 19 0).toInt = 0
def okN (F : Option St) (Q : St → Prop) : Prop := ∃ X, F = some X ∧ Q X
theorem okN.ret {X : St} {Q : St → Prop} (h : Q X) : okN (some X) Q := ⟨X, rfl, h⟩
theorem okN.mono {F : Option St} {Q R : St → Prop} (h : okN F R) (g : ∀ X, R X → Q X) : okN F Q := by
  obtain ⟨X, e, q⟩ := h
  exact ⟨X, e, g X q⟩
theorem zE_I {X : St} {n e k : Nat} : (zE X n).1 e k = if e = n then 0 else X.1 e k := by
  show uA X.1 n (fun _ => 0) e k = _
  unfold uA
  by_cases h : e = n
  · rw [if_pos h, if_pos h]
  · rw [if_neg h, if_neg h]
theorem zE_R {X : St} {n e : Nat} : (zE X n).2.2 e = if e = n then (fun _ => 0) else X.2.2 e := by
  show uA X.2.2 n (fun _ => 0) e = _
  unfold uA
  by_cases h : e = n
  · rw [if_pos h]
  · rw [if_neg h]
theorem itep {c : Prop} [Decidable c] {a b : Prop} (ha : a) (hb : b) : if c then a else b := by
  by_cases h : c
  · rw [if_pos h]
    exact ha
  · rw [if_neg h]
    exact hb
theorem OKC0 (e k : Nat) : OKC e k 0 := by
  unfold OKC
  repeat (refine itep (by decide) ?_)
  exact trivial
theorem CI.zE {c n : Nat} {f : Nat → Nat} {X : St} (h : CI c f X) (h0 : ¬ n = 0) : CI c f (zE X n) := by
  obtain ⟨⟨hI, hS⟩, hR, hf, h01, h21, h26, h19⟩ := h
  refine ⟨⟨fun e k => ?_, fun r => ?_⟩, fun e k => ?_, ?_, ?_, ?_, ?_, ?_⟩
  · rw [zE_I]
    by_cases g : e = n
    · rw [if_pos g]
      exact OKC0 e k
    · rw [if_neg g]
      exact hI e k
  · have g2 : 0 ≤ (X.1 72 r).toInt ∧ (X.1 72 r).toInt ≤ 4000 := hI 72 r
    have g3 : 0 ≤ (X.1 73 r).toInt ∧ (X.1 73 r).toInt ≤ 4000 := hI 73 r
    have g4 := hS r
    have z : (0 : Int32).toInt = 0 := rfl
    rw [zE_I, zE_I]
    by_cases a : (72 : Nat) = n
    · rw [if_pos a]
      by_cases b : (73 : Nat) = n
      · rw [if_pos b]; omega
      · rw [if_neg b]; omega
    · rw [if_neg a]
      by_cases b : (73 : Nat) = n
      · rw [if_pos b]; omega
      · rw [if_neg b]; omega
  · rw [zE_R]
    by_cases g : e = n
    · rw [if_pos g]
      exact Nat.zero_le _
    · rw [if_neg g]
      exact hR e k
  · rw [zE_R, if_neg (fun q => h0 q.symm)]
    exact hf
  all_goals
    rw [zE_I]
    split
    · rfl
    · assumption
theorem CI.RB {c n : Nat} {f : Nat → Nat} {X : St} (h : CI c f X) (hn : c ≤ n) : RB X n = true := by
  unfold _root_.Jvm.Pilot.CBlameCourtLaw_law_r8381_f30dd1.RB
  rw [List.all_eq_true]
  intro e _
  rw [List.all_eq_true]
  intro k _
  exact decide_eq_true (Nat.le_trans (h.2.1 e k) hn)
theorem okN.z {c n : Nat} {f : Nat → Nat} {X : St} {K : St → Option St} {Q : St → Prop} (h : CI c f X) (hn : c ≤ n) (h0 : ¬ n = 0) (g : ∀ Y, CI c f Y → okN (K Y) Q) : okN (chk (RB X n = true) (letV (zE X n) K)) Q := by
  unfold chk
  rw [if_pos (h.RB hn)]
  exact g _ (h.zE h0)
theorem okN.wI {c e k : Nat} {f : Nat → Nat} {v : Int32} {X : St} {K : St → Option St} {Q : St → Prop} (h : CI c f X) (hv : OKC e k v.toInt) (hne : ¬ e = 72 ∧ ¬ e = 73) (hz : v.toInt = 0 ∨ ¬ (0 = e ∧ 1 = k) ∧ ¬ (2 = e ∧ 1 = k) ∧ ¬ (2 = e ∧ 6 = k) ∧ ¬ (19 = e ∧ 0 = k)) (g : ∀ Y, CI c f Y → okN (K Y) Q) : okN (letV (_root_.Jvm.Pilot.CBlameCourtLaw_law_r8381_f30dd1.wI X e k v) K) Q := by
  refine g _ ⟨h.1.wI hv hne, h.2.1, h.2.2.1, ?_⟩
  obtain ⟨-, -, -, h01, h21, h26, h19⟩ := h
  have key : ∀ a b, (X.1 a b).toInt = 0 → (v.toInt = 0 ∨ ¬ (a = e ∧ b = k)) → ((_root_.Jvm.Pilot.CBlameCourtLaw_law_r8381_f30dd1.wI X e k v).1 a b).toInt = 0 := by
    intro a b h1 h2
    by_cases q : a = e ∧ b = k
    · rcases h2 with h2 | h2
      · rw [q.1, q.2, wI_at]
        exact h2
      · exact absurd q h2
    · rw [wI_ne _ _ _ _ _ _ q]
      exact h1
  exact ⟨key 0 1 h01 (hz.imp id (fun z => z.1)), key 2 1 h21 (hz.imp id (fun z => z.2.1)), key 2 6 h26 (hz.imp id (fun z => z.2.2.1)), key 19 0 h19 (hz.imp id (fun z => z.2.2.2))⟩
theorem okN.wL {c e k : Nat} {f : Nat → Nat} {v : Int64} {X : St} {K : St → Option St} {Q : St → Prop} (h : CI c f X) (g : ∀ Y, CI c f Y → okN (K Y) Q) : okN (letV (_root_.Jvm.Pilot.CBlameCourtLaw_law_r8381_f30dd1.wL X e k v) K) Q := g _ h
theorem wR_at {X : St} {e k a v : Nat} : (_root_.Jvm.Pilot.CBlameCourtLaw_law_r8381_f30dd1.wR X e k v).2.2 a = if a = e then (fun j => if j = k then v else X.2.2 e j) else X.2.2 a := by
  show uA X.2.2 e (fun j => if j = k then v else X.2.2 e j) a = _
  unfold uA
  by_cases h : a = e
  · rw [if_pos h]
  · rw [if_neg h]
theorem okN.wR {c e k v d : Nat} {f : Nat → Nat} {X : St} {K : St → Option St} {Q : St → Prop} (h : CI c f X) (he : ¬ e = 0) (hc : c ≤ d ∧ v ≤ d) (g : ∀ Y, CI d f Y → okN (K Y) Q) : okN (letV (_root_.Jvm.Pilot.CBlameCourtLaw_law_r8381_f30dd1.wR X e k v) K) Q := by
  refine g _ ⟨h.1, fun a b => ?_, ?_, h.2.2.2⟩
  · rw [wR_at]
    by_cases q : a = e
    · rw [if_pos q]
      show (if b = k then v else X.2.2 e b) ≤ d
      by_cases q2 : b = k
      · rw [if_pos q2]; exact hc.2
      · rw [if_neg q2]; exact Nat.le_trans (h.2.1 e b) hc.1
    · rw [if_neg q]; exact Nat.le_trans (h.2.1 a b) hc.1
  · rw [wR_at, if_neg (fun q => he q.symm)]
    exact h.2.2.1
theorem okN.wR0 {c k v d : Nat} {f : Nat → Nat} {X : St} {K : St → Option St} {Q : St → Prop} (h : CI c f X) (hc : c ≤ d ∧ v ≤ d) (g : ∀ Y, CI d (fun j => if j = k then v else f j) Y → okN (K Y) Q) : okN (letV (_root_.Jvm.Pilot.CBlameCourtLaw_law_r8381_f30dd1.wR X 0 k v) K) Q := by
  refine g _ ⟨h.1, fun a b => ?_, ?_, h.2.2.2⟩
  · rw [wR_at]
    by_cases q : a = 0
    · rw [if_pos q]
      show (if b = k then v else X.2.2 0 b) ≤ d
      by_cases q2 : b = k
      · rw [if_pos q2]; exact hc.2
      · rw [if_neg q2]; exact Nat.le_trans (h.2.1 0 b) hc.1
    · rw [if_neg q]; exact Nat.le_trans (h.2.1 a b) hc.1
  · rw [wR_at, if_pos rfl, h.2.2.1]
theorem okN.bd {ρ : Type} {c : Nat} {f : Nat → Nat} {L : List Nat} {X : St} {G : Option (ρ × St)} {K : ρ → St → Option St} {Q : St → Prop} (h : CI c f X) (hG : ok G (fun _ Y => Fr YC L X Y ∧ INV Y)) (hN : nr X.2.2 G) (hl : 1 ∉ L ∧ 401 ∉ L ∧ 406 ∉ L ∧ 3800 ∉ L) (g : ∀ r Y, CI c f Y → okN (K r Y) Q) : okN (bnd G K) Q := by
  obtain ⟨r, Y, e, hF, hI⟩ := hG
  have hR := hN r Y e
  obtain ⟨-, h2, h3, h01, h21, h26, h19⟩ := h
  have hY : CI c f Y := ⟨hI, fun a b => by rw [hR]; exact h2 a b, by rw [hR]; exact h3, by rw [hF.1 0 1 hl.1]; exact h01, by rw [hF.1 2 1 hl.2.1]; exact h21, by rw [hF.1 2 6 hl.2.2.1]; exact h26, by rw [hF.1 19 0 hl.2.2.2]; exact h19⟩
  unfold bnd
  rw [e]
  exact g r Y hY
theorem okN.bN {G : Option St} {K : St → Option St} {R Q : St → Prop} (hG : okN G R) (g : ∀ Y, R Y → okN (K Y) Q) : okN (bndN G K) Q := by
  obtain ⟨Y, e, q⟩ := hG
  unfold bndN
  rw [e]
  exact g Y q
set_option maxHeartbeats 4000000 in
theorem v_hfA_fill_9 {p1 : Int32} {X : St} (hI : INV X) (h0 : -1 ≤ p1.toInt ∧ p1.toInt ≤ 1548) : ok (hfA_fill 9 p1 X) (fun r Y => (Fr YC [1800] X Y ∧ INV Y)) := by
  unfold hfA_fill
  refine ok.letE (v1 := (512 : Int32)) (by decide) ?_
  have lpu1 : ∀ (n : Nat), ∀ (a_1u1 : Int32) (a_2u1 : Int32) (a_3u1 : Int32) (Zu1 : St), INV Zu1 → Fr YC [1800] X Zu1 → (0 ≤ a_2u1.toInt ∧ a_2u1.toInt ≤ a_3u1.toInt) → (a_3u1.toInt = 512) → (-1 ≤ a_1u1.toInt ∧ a_1u1.toInt ≤ 1548) → (a_3u1.toInt - a_2u1.toInt).toNat + 1 < n → ok (hfA_fill_5 n 9 a_1u1 a_2u1 a_3u1 Zu1) (fun r Y => (Fr YC [1800] X Y ∧ INV Y)) := by
    intro n
    unfold hfA_fill_5
    refine lp_indN (P := fun (n : Nat) (r_u1 : Nat → Int32 → Int32 → Int32 → St → Option (Int32 × St)) => ∀ (a_1u1 : Int32) (a_2u1 : Int32) (a_3u1 : Int32) (Zu1 : St), INV Zu1 → Fr YC [1800] X Zu1 → (0 ≤ a_2u1.toInt ∧ a_2u1.toInt ≤ a_3u1.toInt) → (a_3u1.toInt = 512) → (-1 ≤ a_1u1.toInt ∧ a_1u1.toInt ≤ 1548) → (a_3u1.toInt - a_2u1.toInt).toNat + 1 < n → ok (r_u1 9 a_1u1 a_2u1 a_3u1 Zu1) (fun r Y => (Fr YC [1800] X Y ∧ INV Y))) ?_ ?_ n
    · intro a_1u1 a_2u1 a_3u1 Zu1 hIu1 hFu1 u1_0 u1_1 u1_2  hm; exact absurd hm (Nat.not_lt_zero _)
    · intro n r_u1 ih_u1 a_1u1 a_2u1 a_3u1 Zu1 hIu1 hFu1 u1_0 u1_1 u1_2  hmu1
      unfold hfA_fill_5_s
      refine ok.ite (fun c2 => ?_) (fun c2 => ?_)
      · skip
        exact ok.ret ⟨(Fr.rf.tr hFu1 (fun _ q => q)), hIu1⟩
      · skip
        refine ok.ck (show 0 ≤ a_2u1.toInt ∧ a_2u1.toInt < ((512 : Nat) : Int) from by omega) ?_
        refine ok.wI (L := [1800]) hIu1 (show -1 ≤ a_1u1.toInt ∧ a_1u1.toInt ≤ 1548 from by omega) (show (1800 : Nat) ∈ [1800] from by decide) (by decide) (fun Z3 hIZ3 hFZ3 hkZ3 hoZ3 => ?_)
        refine ok.inc (by decide) (show _ ≤ a_2u1.toInt + (1) ∧ a_2u1.toInt + (1) ≤ _ from by omega) (fun x3 hx3 => ?_)
        have hx3 : x3.toInt = a_2u1.toInt + (1) := hx3
        exact ih_u1 a_1u1 x3 a_3u1 Z3 hIZ3 ((Fr.rf.tr hFu1 (fun _ q => q)).tr hFZ3 (fun _ q => q)) (show 0 ≤ x3.toInt ∧ x3.toInt ≤ a_3u1.toInt from by omega) (show a_3u1.toInt = 512 from by omega) (show -1 ≤ a_1u1.toInt ∧ a_1u1.toInt ≤ 1548 from by omega) (show (a_3u1.toInt - x3.toInt).toNat + 1 < _ from by omega)
  exact lpu1 BIG p1 (0 : Int32) (512 : Int32) X hI (Fr.rf : Fr YC [1800] _ _) (show 0 ≤ (0 : Int) ∧ (0 : Int) ≤ (512 : Int) from by omega) (show (512 : Int) = 512 from by omega) (show -1 ≤ p1.toInt ∧ p1.toInt ≤ 1548 from by omega) (show ((512 : Int) - (0 : Int)).toNat + 1 < BIG from ltBIG (show _ < 100000 from by omega))
theorem nr_hfA_fill_5 {φ : Nat → Nat → Nat} {n : Nat} {e_0 : Nat} {a_1 : Int32} {a_2 : Int32} {a_3 : Int32} {X : St} (h : X.2.2 = φ) : nr φ (hfA_fill_5 n e_0 a_1 a_2 a_3 X) := by
  unfold hfA_fill_5
  refine lp_ind (P := fun (r : Nat → Int32 → Int32 → Int32 → St → Option (Int32 × St)) => ∀ (e_0 : Nat) (a_1 : Int32) (a_2 : Int32) (a_3 : Int32) (X : St), X.2.2 = φ → nr φ (r e_0 a_1 a_2 a_3 X)) ?_ ?_ n e_0 a_1 a_2 a_3 X h
  · intro e_0 a_1 a_2 a_3 X h
    exact nr.none
  · intro r5 hr5 e_0 a_1 a_2 a_3 X h
    unfold hfA_fill_5_s
    refine nr.ite ?_ ?_
    · exact nr.ret h
    · refine nr.ck ?_
      refine nr.wI h (fun X2 hX2 => ?_)
      refine nr.lv (fun x3 => ?_)
      exact hr5 _ _ _ _ _ hX2
theorem nr_hfA_fill {φ : Nat → Nat → Nat} {o0 : Nat} {p1 : Int32} {X : St} (h : X.2.2 = φ) : nr φ (hfA_fill o0 p1 X) := by
  unfold hfA_fill
  refine nr.lv (fun x1 => ?_)
  exact nr_hfA_fill_5 h
set_option maxHeartbeats 4000000 in
theorem v_hA_bucketOf {p0 : Int32} {X : St} (hI : INV X) : ok (hA_bucketOf p0 X) (fun r Y => (X = Y) ∧ (0 ≤ r.toInt ∧ r.toInt ≤ 511)) := by
  unfold hA_bucketOf
  refine ok.any (fun x1 => ?_)
  refine ok.any (fun x2 => ?_)
  refine ok.any (fun x3 => ?_)
  refine ok.any (fun x4 => ?_)
  refine ok.eqv (fun x5 hx5 => ?_)
  have hx5 : 0 ≤ x5.toInt ∧ x5.toInt ≤ 511 := by rw [hx5]; exact and_mask_511 _
  exact ok.ret ⟨rfl, (show 0 ≤ x5.toInt ∧ x5.toInt ≤ 511 from by omega)⟩
theorem n2200_Qv0 : (2200 : Nat) ∉ Qv0 := by decide
set_option maxHeartbeats 4000000 in
theorem v_hA_hasAny {p1 : Int32} {X : St} (hI : INV X) : ok (hA_hasAny p1 X) (fun r Y => (X = Y)) := by
  unfold hA_hasAny
  refine ok.ite (fun c1 => ?_) (fun c1 => ?_)
  · skip
    have g2 := i32_le p1
    exact ok.ret rfl
  · skip
    have g3 := i32_le p1
    refine ok.letE (v1 := (X.1 3 0)) rfl ?_
    have g4 : 0 ≤ (X.1 3 0).toInt ∧ (X.1 3 0).toInt ≤ 1549 := hI.1 3 0
    refine ok.ite (fun c5 => ?_) (fun c5 => ?_)
    · skip
      exact ok.ret rfl
    · skip
      refine ok.ck (show 0 ≤ p1.toInt ∧ p1.toInt < ((1549 : Nat) : Int) from by omega) ?_
      refine ok.letE (v1 := (X.1 8 (ix p1))) rfl ?_
      refine ok.ite (fun c6 => ?_) (fun c6 => ?_)
      · skip
        have g7 := i32_le (X.1 8 (ix p1))
        exact ok.ret rfl
      · skip
        exact ok.ret rfl
set_option maxHeartbeats 4000000 in
theorem v_hA_isSame_11 {p1 : Int32} {p2 : Int32} {p4 : Int32} {p5 : Int32} {X : St} (hI : INV X) (h0 : 0 ≤ p1.toInt ∧ p1.toInt ≤ 1548) (h1 : 0 ≤ p2.toInt ∧ p2.toInt ≤ 4) (h2 : 0 ≤ p4.toInt ∧ p4.toInt + p2.toInt ≤ 4) : ok (hA_isSame p1 p2 11 p4 p5 X) (fun r Y => (X = Y)) := by
  unfold hA_isSame
  refine ok.ck (show 0 ≤ p1.toInt ∧ p1.toInt < ((1549 : Nat) : Int) from by omega) ?_
  refine ok.letE (v1 := (X.1 5 (ix p1))) rfl ?_
  have g1 : 0 ≤ (X.1 5 (ix p1)).toInt ∧ (X.1 5 (ix p1)).toInt ≤ 4 := hI.1 5 (ix p1)
  refine ok.ite (fun c2 => ?_) (fun c2 => ?_)
  · skip
    refine ok.mul (show _ ≤ p1.toInt * (5 : Int) ∧ p1.toInt * (5 : Int) ≤ _ from by omega) (fun x2 hx2 => ?_)
    have hx2 : x2.toInt = p1.toInt * (5 : Int) := hx2
    refine ok.add (show _ ≤ x2.toInt + (4 : Int) ∧ x2.toInt + (4 : Int) ≤ _ from by omega) (fun x3 hx3 => ?_)
    have hx3 : x3.toInt = x2.toInt + (4 : Int) := hx3
    refine ok.ck (show 0 ≤ x3.toInt ∧ x3.toInt < ((7745 : Nat) : Int) from by omega) ?_
    refine ok.letE (v1 := (X.1 6 (ix x3))) rfl ?_
    refine ok.ite (fun c3 => ?_) (fun c3 => ?_)
    · skip
      have lpu4 : ∀ (n : Nat), ∀ (a_1u4 : Int32) (a_2u4 : Int32) (a_4u4 : Int32) (a_6u4 : Int32) (Zu4 : St), INV Zu4 → Fr YC [] X Zu4 → (0 ≤ a_1u4.toInt ∧ a_1u4.toInt ≤ 1548) → (0 ≤ a_2u4.toInt ∧ a_2u4.toInt ≤ 4) → (0 ≤ a_4u4.toInt ∧ a_4u4.toInt + a_2u4.toInt ≤ 4) → (0 ≤ a_6u4.toInt ∧ a_6u4.toInt ≤ 5) → (5 - a_6u4.toInt).toNat < n → ok (hA_isSame_30 n a_1u4 a_2u4 11 a_4u4 a_6u4 Zu4) (fun r Y => (X = Y)) := by
        intro n
        unfold hA_isSame_30
        refine lp_indN (P := fun (n : Nat) (r_u4 : Int32 → Int32 → Nat → Int32 → Int32 → St → Option (Int32 × St)) => ∀ (a_1u4 : Int32) (a_2u4 : Int32) (a_4u4 : Int32) (a_6u4 : Int32) (Zu4 : St), INV Zu4 → Fr YC [] X Zu4 → (0 ≤ a_1u4.toInt ∧ a_1u4.toInt ≤ 1548) → (0 ≤ a_2u4.toInt ∧ a_2u4.toInt ≤ 4) → (0 ≤ a_4u4.toInt ∧ a_4u4.toInt + a_2u4.toInt ≤ 4) → (0 ≤ a_6u4.toInt ∧ a_6u4.toInt ≤ 5) → (5 - a_6u4.toInt).toNat < n → ok (r_u4 a_1u4 a_2u4 11 a_4u4 a_6u4 Zu4) (fun r Y => (X = Y))) ?_ ?_ n
        · intro a_1u4 a_2u4 a_4u4 a_6u4 Zu4 hIu4 hFu4 u4_0 u4_1 u4_2 u4_3  hm; exact absurd hm (Nat.not_lt_zero _)
        · intro n r_u4 ih_u4 a_1u4 a_2u4 a_4u4 a_6u4 Zu4 hIu4 hFu4 u4_0 u4_1 u4_2 u4_3  hmu4
          unfold hA_isSame_30_s
          refine ok.ite (fun c5 => ?_) (fun c5 => ?_)
          · skip
            exact ok.ret (Fr.nil hFu4).symm
          · skip
            refine ok.mul (show _ ≤ a_1u4.toInt * (5 : Int) ∧ a_1u4.toInt * (5 : Int) ≤ _ from by omega) (fun x5 hx5 => ?_)
            have hx5 : x5.toInt = a_1u4.toInt * (5 : Int) := hx5
            refine ok.add (show _ ≤ x5.toInt + a_6u4.toInt ∧ x5.toInt + a_6u4.toInt ≤ _ from by omega) (fun x6 hx6 => ?_)
            have hx6 : x6.toInt = x5.toInt + a_6u4.toInt := hx6
            refine ok.ck (show 0 ≤ x6.toInt ∧ x6.toInt < ((7745 : Nat) : Int) from by omega) ?_
            refine ok.letE (v1 := (X.1 6 (ix x6))) (hFu4.1 6 (ix x6) (show (1200 : Nat) ∉ [] from by decide)) ?_
            refine ok.add (show _ ≤ a_4u4.toInt + a_6u4.toInt ∧ a_4u4.toInt + a_6u4.toInt ≤ _ from by omega) (fun x8 hx8 => ?_)
            have hx8 : x8.toInt = a_4u4.toInt + a_6u4.toInt := hx8
            refine ok.ck (show 0 ≤ x8.toInt ∧ x8.toInt < ((4 : Nat) : Int) from by omega) ?_
            refine ok.letE (v1 := (X.1 11 (ix x8))) (hFu4.1 11 (ix x8) (show (2200 : Nat) ∉ [] from by decide)) ?_
            refine ok.ite (fun c6 => ?_) (fun c6 => ?_)
            · skip
              refine ok.inc (by decide) (show _ ≤ a_6u4.toInt + (1) ∧ a_6u4.toInt + (1) ≤ _ from by omega) (fun x10 hx10 => ?_)
              have hx10 : x10.toInt = a_6u4.toInt + (1) := hx10
              exact ih_u4 a_1u4 a_2u4 a_4u4 x10 Zu4 hIu4 (Fr.rf.tr hFu4 (fun _ q => q)) (show 0 ≤ a_1u4.toInt ∧ a_1u4.toInt ≤ 1548 from by omega) (show 0 ≤ a_2u4.toInt ∧ a_2u4.toInt ≤ 4 from by omega) (show 0 ≤ a_4u4.toInt ∧ a_4u4.toInt + a_2u4.toInt ≤ 4 from by omega) (show 0 ≤ x10.toInt ∧ x10.toInt ≤ 5 from by omega) (show (5 - x10.toInt).toNat < _ from by omega)
            · skip
              exact ok.ret (Fr.nil hFu4).symm
      exact lpu4 BIG p1 p2 p4 (0 : Int32) X hI (Fr.rf : Fr YC [] _ _) (show 0 ≤ p1.toInt ∧ p1.toInt ≤ 1548 from by omega) (show 0 ≤ p2.toInt ∧ p2.toInt ≤ 4 from by omega) (show 0 ≤ p4.toInt ∧ p4.toInt + p2.toInt ≤ 4 from by omega) (show 0 ≤ (0 : Int) ∧ (0 : Int) ≤ 5 from by omega) (show (5 - (0 : Int)).toNat < BIG from ltBIG (show _ < 100000 from by omega))
    · skip
      exact ok.ret rfl
  · skip
    exact ok.ret rfl
set_option maxHeartbeats 4000000 in
theorem v_hA_findOrAdd_11 {p1 : Int32} {p2 : Int32} {p4 : Int32} {p5 : Int32} {p6 : Int32} {X : St} (hI : INV X) (h0 : 0 ≤ p1.toInt ∧ p1.toInt ≤ 4) (h1 : 0 ≤ p2.toInt ∧ p2.toInt ≤ 4) (h2 : 0 ≤ p4.toInt ∧ p4.toInt + p2.toInt ≤ 4) : ok (hA_findOrAdd p1 p2 11 p4 p5 p6 X) (fun r Y => (Fr YC Qv0 X Y ∧ INV Y)) := by
  unfold hA_findOrAdd
  refine ok.bd (v_hA_bucketOf hI) ?_
  rintro x1 _ ⟨rfl, hp1⟩
  have hp1 : 0 ≤ x1.toInt ∧ x1.toInt ≤ 511 := hp1
  refine ok.ck (show 0 ≤ x1.toInt ∧ x1.toInt < ((512 : Nat) : Int) from by omega) ?_
  refine ok.letE (v1 := (X.1 9 (ix x1))) rfl ?_
  have g2 : -1 ≤ (X.1 9 (ix x1)).toInt ∧ (X.1 9 (ix x1)).toInt ≤ 1548 := hI.1 9 (ix x1)
  have lpu3 : ∀ (n : Nat), ∀ (a_1u3 : Int32) (a_2u3 : Int32) (a_4u3 : Int32) (a_5u3 : Int32) (a_6u3 : Int32) (a_7u3 : Int32) (a_8u3 : Int32) (a_9u3 : Int32) (Zu3 : St), INV Zu3 → Fr YC Qv0 X Zu3 → (0 ≤ a_1u3.toInt ∧ a_1u3.toInt ≤ 4) → (0 ≤ a_2u3.toInt ∧ a_2u3.toInt ≤ 4) → (0 ≤ a_4u3.toInt ∧ a_4u3.toInt + a_2u3.toInt ≤ 4) → (0 ≤ a_7u3.toInt ∧ a_7u3.toInt ≤ 511) → (-1 ≤ a_8u3.toInt ∧ a_8u3.toInt ≤ 1548) → (0 ≤ a_9u3.toInt ∧ a_9u3.toInt ≤ 1549) → (1550 - a_9u3.toInt).toNat < n → ok (hA_findOrAdd_19 n a_1u3 a_2u3 11 a_4u3 a_5u3 a_6u3 a_7u3 a_8u3 a_9u3 Zu3) (fun r Y => (Fr YC Qv0 X Y ∧ INV Y)) := by
    intro n
    unfold hA_findOrAdd_19
    refine lp_indN (P := fun (n : Nat) (r_u3 : Int32 → Int32 → Nat → Int32 → Int32 → Int32 → Int32 → Int32 → Int32 → St → Option (Int32 × St)) => ∀ (a_1u3 : Int32) (a_2u3 : Int32) (a_4u3 : Int32) (a_5u3 : Int32) (a_6u3 : Int32) (a_7u3 : Int32) (a_8u3 : Int32) (a_9u3 : Int32) (Zu3 : St), INV Zu3 → Fr YC Qv0 X Zu3 → (0 ≤ a_1u3.toInt ∧ a_1u3.toInt ≤ 4) → (0 ≤ a_2u3.toInt ∧ a_2u3.toInt ≤ 4) → (0 ≤ a_4u3.toInt ∧ a_4u3.toInt + a_2u3.toInt ≤ 4) → (0 ≤ a_7u3.toInt ∧ a_7u3.toInt ≤ 511) → (-1 ≤ a_8u3.toInt ∧ a_8u3.toInt ≤ 1548) → (0 ≤ a_9u3.toInt ∧ a_9u3.toInt ≤ 1549) → (1550 - a_9u3.toInt).toNat < n → ok (r_u3 a_1u3 a_2u3 11 a_4u3 a_5u3 a_6u3 a_7u3 a_8u3 a_9u3 Zu3) (fun r Y => (Fr YC Qv0 X Y ∧ INV Y))) ?_ ?_ n
    · intro a_1u3 a_2u3 a_4u3 a_5u3 a_6u3 a_7u3 a_8u3 a_9u3 Zu3 hIu3 hFu3 u3_0 u3_1 u3_2 u3_3 u3_4 u3_5  hm; exact absurd hm (Nat.not_lt_zero _)
    · intro n r_u3 ih_u3 a_1u3 a_2u3 a_4u3 a_5u3 a_6u3 a_7u3 a_8u3 a_9u3 Zu3 hIu3 hFu3 u3_0 u3_1 u3_2 u3_3 u3_4 u3_5  hmu3
      unfold hA_findOrAdd_19_s
      refine ok.ite (fun c4 => ?_) (fun c4 => ?_)
      · skip
        unfold hA_findOrAdd_77
        refine ok.letE (v1 := (Zu3.1 3 0)) rfl ?_
        have g5 : 0 ≤ (Zu3.1 3 0).toInt ∧ (Zu3.1 3 0).toInt ≤ 1549 := hIu3.1 3 0
        refine ok.ite (fun c6 => ?_) (fun c6 => ?_)
        · skip
          refine ok.letE (v1 := (Zu3.1 3 0)) rfl ?_
          refine ok.letE (v1 := (Zu3.1 3 0)) rfl ?_
          refine ok.add (show _ ≤ (Zu3.1 3 0).toInt + (1 : Int) ∧ (Zu3.1 3 0).toInt + (1 : Int) ≤ _ from by omega) (fun x7 hx7 => ?_)
          have hx7 : x7.toInt = (Zu3.1 3 0).toInt + (1 : Int) := hx7
          refine ok.wI (L := [600]) hIu3 (show 0 ≤ x7.toInt ∧ x7.toInt ≤ 1549 from by omega) (show (600 : Nat) ∈ [600] from by decide) (by decide) (fun Z7 hIZ7 hFZ7 hkZ7 hoZ7 => ?_)
          refine ok.ck (show 0 ≤ (Zu3.1 3 0).toInt ∧ (Zu3.1 3 0).toInt < ((1549 : Nat) : Int) from by omega) ?_
          refine ok.wI (L := [800]) hIZ7 (show True from trivial) (show (800 : Nat) ∈ [800] from by decide) (by decide) (fun Z8 hIZ8 hFZ8 hkZ8 hoZ8 => ?_)
          refine ok.ck (show 0 ≤ (Zu3.1 3 0).toInt ∧ (Zu3.1 3 0).toInt < ((1549 : Nat) : Int) from by omega) ?_
          refine ok.wI (L := [1000]) hIZ8 (show 0 ≤ a_2u3.toInt ∧ a_2u3.toInt ≤ 4 from by omega) (show (1000 : Nat) ∈ [1000] from by decide) (by decide) (fun Z9 hIZ9 hFZ9 hkZ9 hoZ9 => ?_)
          refine ok.ck (show 0 ≤ (Zu3.1 3 0).toInt ∧ (Zu3.1 3 0).toInt < ((1549 : Nat) : Int) from by omega) ?_
          refine ok.wI (L := [1400]) hIZ9 (show True from trivial) (show (1400 : Nat) ∈ [1400] from by decide) (by decide) (fun Z10 hIZ10 hFZ10 hkZ10 hoZ10 => ?_)
          refine ok.mul (show _ ≤ (Zu3.1 3 0).toInt * (5 : Int) ∧ (Zu3.1 3 0).toInt * (5 : Int) ≤ _ from by omega) (fun x12 hx12 => ?_)
          have hx12 : x12.toInt = (Zu3.1 3 0).toInt * (5 : Int) := hx12
          refine ok.add (show _ ≤ x12.toInt + (4 : Int) ∧ x12.toInt + (4 : Int) ≤ _ from by omega) (fun x13 hx13 => ?_)
          have hx13 : x13.toInt = x12.toInt + (4 : Int) := hx13
          refine ok.ck (show 0 ≤ x13.toInt ∧ x13.toInt < ((7745 : Nat) : Int) from by omega) ?_
          refine ok.wI (L := [1200]) hIZ10 (show True from trivial) (show (1200 : Nat) ∈ [1200] from by decide) (by decide) (fun Z11 hIZ11 hFZ11 hkZ11 hoZ11 => ?_)
          refine ok.ite (fun c12 => ?_) (fun c12 => ?_)
          · skip
            unfold hA_findOrAdd_162
            unfold hA_findOrAdd_167
            have lpu13 : ∀ (n : Nat), ∀ (a_2u13 : Int32) (a_4u13 : Int32) (a_7u13 : Int32) (a_8u13 : Int32) (a_9u13 : Int32) (a_10u13 : Int32) (Zu13 : St), INV Zu13 → Fr YC Qv0 X Zu13 → (0 ≤ a_2u13.toInt ∧ a_2u13.toInt ≤ 4) → (0 ≤ a_4u13.toInt ∧ a_4u13.toInt + a_2u13.toInt ≤ 4) → (0 ≤ a_7u13.toInt ∧ a_7u13.toInt ≤ 511) → (0 ≤ a_8u13.toInt ∧ a_8u13.toInt ≤ 1548) → (0 ≤ a_10u13.toInt ∧ a_10u13.toInt ≤ 5) → (5 - a_10u13.toInt).toNat < n → ok (hA_findOrAdd_172 n a_2u13 11 a_4u13 a_7u13 a_8u13 a_9u13 a_10u13 Zu13) (fun r Y => (Fr YC Qv0 X Y ∧ INV Y)) := by
              intro n
              unfold hA_findOrAdd_172
              refine lp_indN (P := fun (n : Nat) (r_u13 : Int32 → Nat → Int32 → Int32 → Int32 → Int32 → Int32 → St → Option (Int32 × St)) => ∀ (a_2u13 : Int32) (a_4u13 : Int32) (a_7u13 : Int32) (a_8u13 : Int32) (a_9u13 : Int32) (a_10u13 : Int32) (Zu13 : St), INV Zu13 → Fr YC Qv0 X Zu13 → (0 ≤ a_2u13.toInt ∧ a_2u13.toInt ≤ 4) → (0 ≤ a_4u13.toInt ∧ a_4u13.toInt + a_2u13.toInt ≤ 4) → (0 ≤ a_7u13.toInt ∧ a_7u13.toInt ≤ 511) → (0 ≤ a_8u13.toInt ∧ a_8u13.toInt ≤ 1548) → (0 ≤ a_10u13.toInt ∧ a_10u13.toInt ≤ 5) → (5 - a_10u13.toInt).toNat < n → ok (r_u13 a_2u13 11 a_4u13 a_7u13 a_8u13 a_9u13 a_10u13 Zu13) (fun r Y => (Fr YC Qv0 X Y ∧ INV Y))) ?_ ?_ n
              · intro a_2u13 a_4u13 a_7u13 a_8u13 a_9u13 a_10u13 Zu13 hIu13 hFu13 u13_0 u13_1 u13_2 u13_3 u13_4  hm; exact absurd hm (Nat.not_lt_zero _)
              · intro n r_u13 ih_u13 a_2u13 a_4u13 a_7u13 a_8u13 a_9u13 a_10u13 Zu13 hIu13 hFu13 u13_0 u13_1 u13_2 u13_3 u13_4  hmu13
                unfold hA_findOrAdd_172_s
                refine ok.ite (fun c14 => ?_) (fun c14 => ?_)
                · skip
                  refine ok.ck (show 0 ≤ a_8u13.toInt ∧ a_8u13.toInt < ((1549 : Nat) : Int) from by omega) ?_
                  refine ok.wI (L := [1600]) hIu13 (show True from trivial) (show (1600 : Nat) ∈ [1600] from by decide) (by decide) (fun Z15 hIZ15 hFZ15 hkZ15 hoZ15 => ?_)
                  refine ok.ck (show 0 ≤ a_7u13.toInt ∧ a_7u13.toInt < ((512 : Nat) : Int) from by omega) ?_
                  refine ok.letE (v1 := (Zu13.1 9 (ix a_7u13))) (hFZ15.1 9 (ix a_7u13) (show (1800 : Nat) ∉ [1600] from by decide)) ?_
                  have g16 : -1 ≤ (Zu13.1 9 (ix a_7u13)).toInt ∧ (Zu13.1 9 (ix a_7u13)).toInt ≤ 1548 := hIu13.1 9 (ix a_7u13)
                  refine ok.ck (show 0 ≤ a_8u13.toInt ∧ a_8u13.toInt < ((1549 : Nat) : Int) from by omega) ?_
                  refine ok.wI (L := [2000]) hIZ15 (show -1 ≤ (Zu13.1 9 (ix a_7u13)).toInt ∧ (Zu13.1 9 (ix a_7u13)).toInt ≤ 1548 from by omega) (show (2000 : Nat) ∈ [2000] from by decide) (by decide) (fun Z17 hIZ17 hFZ17 hkZ17 hoZ17 => ?_)
                  refine ok.ck (show 0 ≤ a_7u13.toInt ∧ a_7u13.toInt < ((512 : Nat) : Int) from by omega) ?_
                  refine ok.wI (L := [1800]) hIZ17 (show -1 ≤ a_8u13.toInt ∧ a_8u13.toInt ≤ 1548 from by omega) (show (1800 : Nat) ∈ [1800] from by decide) (by decide) (fun Z18 hIZ18 hFZ18 hkZ18 hoZ18 => ?_)
                  exact ok.ret ⟨((((Fr.rf.tr hFu13 (fun _ q => q)).tr hFZ15 (by decide)).tr hFZ17 (by decide)).tr hFZ18 (by decide)), hIZ18⟩
                · skip
                  refine ok.mul (show _ ≤ a_8u13.toInt * (5 : Int) ∧ a_8u13.toInt * (5 : Int) ≤ _ from by omega) (fun x19 hx19 => ?_)
                  have hx19 : x19.toInt = a_8u13.toInt * (5 : Int) := hx19
                  refine ok.add (show _ ≤ x19.toInt + a_10u13.toInt ∧ x19.toInt + a_10u13.toInt ≤ _ from by omega) (fun x20 hx20 => ?_)
                  have hx20 : x20.toInt = x19.toInt + a_10u13.toInt := hx20
                  refine ok.add (show _ ≤ a_4u13.toInt + a_10u13.toInt ∧ a_4u13.toInt + a_10u13.toInt ≤ _ from by omega) (fun x21 hx21 => ?_)
                  have hx21 : x21.toInt = a_4u13.toInt + a_10u13.toInt := hx21
                  refine ok.ck (show 0 ≤ x21.toInt ∧ x21.toInt < ((4 : Nat) : Int) from by omega) ?_
                  refine ok.letE (v1 := (X.1 11 (ix x21))) (hFu13.1 11 (ix x21) n2200_Qv0) ?_
                  refine ok.ck (show 0 ≤ x20.toInt ∧ x20.toInt < ((7745 : Nat) : Int) from by omega) ?_
                  refine ok.wI (L := [1200]) hIu13 (show True from trivial) (show (1200 : Nat) ∈ [1200] from by decide) (by decide) (fun Z19 hIZ19 hFZ19 hkZ19 hoZ19 => ?_)
                  refine ok.ite (fun c20 => ?_) (fun c20 => ?_)
                  · skip
                    have g21 := i32_le a_9u13
                    refine ok.add (show _ ≤ a_4u13.toInt + a_10u13.toInt ∧ a_4u13.toInt + a_10u13.toInt ≤ _ from by omega) (fun x25 hx25 => ?_)
                    have hx25 : x25.toInt = a_4u13.toInt + a_10u13.toInt := hx25
                    refine ok.ck (show 0 ≤ x25.toInt ∧ x25.toInt < ((4 : Nat) : Int) from by omega) ?_
                    refine ok.letE (v1 := (X.1 11 (ix x25))) ((hFZ19.1 11 (ix x25) (show (2200 : Nat) ∉ [1200] from by decide)).trans (hFu13.1 11 (ix x25) n2200_Qv0)) ?_
                    refine ok.bd (v_hA_hasAny hIZ19) ?_
                    rintro x27 _ rfl
                    refine ok.ite (fun c23 => ?_) (fun c23 => ?_)
                    · skip
                      have g24 := i32_le x27
                      unfold hA_findOrAdd_221
                      refine ok.inc (by decide) (show _ ≤ a_10u13.toInt + (1) ∧ a_10u13.toInt + (1) ≤ _ from by omega) (fun x24 hx24 => ?_)
                      have hx24 : x24.toInt = a_10u13.toInt + (1) := hx24
                      exact ih_u13 a_2u13 a_4u13 a_7u13 a_8u13 (0 : Int32) x24 Z19 hIZ19 ((Fr.rf.tr hFu13 (fun _ q => q)).tr hFZ19 (by decide)) (show 0 ≤ a_2u13.toInt ∧ a_2u13.toInt ≤ 4 from by omega) (show 0 ≤ a_4u13.toInt ∧ a_4u13.toInt + a_2u13.toInt ≤ 4 from by omega) (show 0 ≤ a_7u13.toInt ∧ a_7u13.toInt ≤ 511 from by omega) (show 0 ≤ a_8u13.toInt ∧ a_8u13.toInt ≤ 1548 from by omega) (show 0 ≤ x24.toInt ∧ x24.toInt ≤ 5 from by omega) (show (5 - x24.toInt).toNat < _ from by omega)
                    · skip
                      unfold hA_findOrAdd_216
                      unfold hA_findOrAdd_221
                      refine ok.inc (by decide) (show _ ≤ a_10u13.toInt + (1) ∧ a_10u13.toInt + (1) ≤ _ from by omega) (fun x24 hx24 => ?_)
                      have hx24 : x24.toInt = a_10u13.toInt + (1) := hx24
                      exact ih_u13 a_2u13 a_4u13 a_7u13 a_8u13 (1 : Int32) x24 Z19 hIZ19 ((Fr.rf.tr hFu13 (fun _ q => q)).tr hFZ19 (by decide)) (show 0 ≤ a_2u13.toInt ∧ a_2u13.toInt ≤ 4 from by omega) (show 0 ≤ a_4u13.toInt ∧ a_4u13.toInt + a_2u13.toInt ≤ 4 from by omega) (show 0 ≤ a_7u13.toInt ∧ a_7u13.toInt ≤ 511 from by omega) (show 0 ≤ a_8u13.toInt ∧ a_8u13.toInt ≤ 1548 from by omega) (show 0 ≤ x24.toInt ∧ x24.toInt ≤ 5 from by omega) (show (5 - x24.toInt).toNat < _ from by omega)
                  · skip
                    unfold hA_findOrAdd_216
                    unfold hA_findOrAdd_221
                    refine ok.inc (by decide) (show _ ≤ a_10u13.toInt + (1) ∧ a_10u13.toInt + (1) ≤ _ from by omega) (fun x24 hx24 => ?_)
                    have hx24 : x24.toInt = a_10u13.toInt + (1) := hx24
                    exact ih_u13 a_2u13 a_4u13 a_7u13 a_8u13 (1 : Int32) x24 Z19 hIZ19 ((Fr.rf.tr hFu13 (fun _ q => q)).tr hFZ19 (by decide)) (show 0 ≤ a_2u13.toInt ∧ a_2u13.toInt ≤ 4 from by omega) (show 0 ≤ a_4u13.toInt ∧ a_4u13.toInt + a_2u13.toInt ≤ 4 from by omega) (show 0 ≤ a_7u13.toInt ∧ a_7u13.toInt ≤ 511 from by omega) (show 0 ≤ a_8u13.toInt ∧ a_8u13.toInt ≤ 1548 from by omega) (show 0 ≤ x24.toInt ∧ x24.toInt ≤ 5 from by omega) (show (5 - x24.toInt).toNat < _ from by omega)
            exact lpu13 BIG a_2u3 a_4u3 a_7u3 (Zu3.1 3 0) (1 : Int32) (0 : Int32) Z11 hIZ11 ((((((Fr.rf.tr hFu3 (fun _ q => q)).tr hFZ7 (by decide)).tr hFZ8 (by decide)).tr hFZ9 (by decide)).tr hFZ10 (by decide)).tr hFZ11 (by decide)) (show 0 ≤ a_2u3.toInt ∧ a_2u3.toInt ≤ 4 from by omega) (show 0 ≤ a_4u3.toInt ∧ a_4u3.toInt + a_2u3.toInt ≤ 4 from by omega) (show 0 ≤ a_7u3.toInt ∧ a_7u3.toInt ≤ 511 from by omega) (show 0 ≤ (Zu3.1 3 0).toInt ∧ (Zu3.1 3 0).toInt ≤ 1548 from by omega) (show 0 ≤ (0 : Int) ∧ (0 : Int) ≤ 5 from by omega) (show (5 - (0 : Int)).toNat < BIG from ltBIG (show _ < 100000 from by omega))
          · skip
            refine ok.ite (fun c25 => ?_) (fun c25 => ?_)
            · skip
              unfold hA_findOrAdd_166
              unfold hA_findOrAdd_167
              have lpu26 : ∀ (n : Nat), ∀ (a_2u26 : Int32) (a_4u26 : Int32) (a_7u26 : Int32) (a_8u26 : Int32) (a_9u26 : Int32) (a_10u26 : Int32) (Zu26 : St), INV Zu26 → Fr YC Qv0 X Zu26 → (0 ≤ a_2u26.toInt ∧ a_2u26.toInt ≤ 4) → (0 ≤ a_4u26.toInt ∧ a_4u26.toInt + a_2u26.toInt ≤ 4) → (0 ≤ a_7u26.toInt ∧ a_7u26.toInt ≤ 511) → (0 ≤ a_8u26.toInt ∧ a_8u26.toInt ≤ 1548) → (0 ≤ a_10u26.toInt ∧ a_10u26.toInt ≤ 5) → (5 - a_10u26.toInt).toNat < n → ok (hA_findOrAdd_172 n a_2u26 11 a_4u26 a_7u26 a_8u26 a_9u26 a_10u26 Zu26) (fun r Y => (Fr YC Qv0 X Y ∧ INV Y)) := by
                intro n
                unfold hA_findOrAdd_172
                refine lp_indN (P := fun (n : Nat) (r_u26 : Int32 → Nat → Int32 → Int32 → Int32 → Int32 → Int32 → St → Option (Int32 × St)) => ∀ (a_2u26 : Int32) (a_4u26 : Int32) (a_7u26 : Int32) (a_8u26 : Int32) (a_9u26 : Int32) (a_10u26 : Int32) (Zu26 : St), INV Zu26 → Fr YC Qv0 X Zu26 → (0 ≤ a_2u26.toInt ∧ a_2u26.toInt ≤ 4) → (0 ≤ a_4u26.toInt ∧ a_4u26.toInt + a_2u26.toInt ≤ 4) → (0 ≤ a_7u26.toInt ∧ a_7u26.toInt ≤ 511) → (0 ≤ a_8u26.toInt ∧ a_8u26.toInt ≤ 1548) → (0 ≤ a_10u26.toInt ∧ a_10u26.toInt ≤ 5) → (5 - a_10u26.toInt).toNat < n → ok (r_u26 a_2u26 11 a_4u26 a_7u26 a_8u26 a_9u26 a_10u26 Zu26) (fun r Y => (Fr YC Qv0 X Y ∧ INV Y))) ?_ ?_ n
                · intro a_2u26 a_4u26 a_7u26 a_8u26 a_9u26 a_10u26 Zu26 hIu26 hFu26 u26_0 u26_1 u26_2 u26_3 u26_4  hm; exact absurd hm (Nat.not_lt_zero _)
                · intro n r_u26 ih_u26 a_2u26 a_4u26 a_7u26 a_8u26 a_9u26 a_10u26 Zu26 hIu26 hFu26 u26_0 u26_1 u26_2 u26_3 u26_4  hmu26
                  unfold hA_findOrAdd_172_s
                  refine ok.ite (fun c27 => ?_) (fun c27 => ?_)
                  · skip
                    refine ok.ck (show 0 ≤ a_8u26.toInt ∧ a_8u26.toInt < ((1549 : Nat) : Int) from by omega) ?_
                    refine ok.wI (L := [1600]) hIu26 (show True from trivial) (show (1600 : Nat) ∈ [1600] from by decide) (by decide) (fun Z28 hIZ28 hFZ28 hkZ28 hoZ28 => ?_)
                    refine ok.ck (show 0 ≤ a_7u26.toInt ∧ a_7u26.toInt < ((512 : Nat) : Int) from by omega) ?_
                    refine ok.letE (v1 := (Zu26.1 9 (ix a_7u26))) (hFZ28.1 9 (ix a_7u26) (show (1800 : Nat) ∉ [1600] from by decide)) ?_
                    have g29 : -1 ≤ (Zu26.1 9 (ix a_7u26)).toInt ∧ (Zu26.1 9 (ix a_7u26)).toInt ≤ 1548 := hIu26.1 9 (ix a_7u26)
                    refine ok.ck (show 0 ≤ a_8u26.toInt ∧ a_8u26.toInt < ((1549 : Nat) : Int) from by omega) ?_
                    refine ok.wI (L := [2000]) hIZ28 (show -1 ≤ (Zu26.1 9 (ix a_7u26)).toInt ∧ (Zu26.1 9 (ix a_7u26)).toInt ≤ 1548 from by omega) (show (2000 : Nat) ∈ [2000] from by decide) (by decide) (fun Z30 hIZ30 hFZ30 hkZ30 hoZ30 => ?_)
                    refine ok.ck (show 0 ≤ a_7u26.toInt ∧ a_7u26.toInt < ((512 : Nat) : Int) from by omega) ?_
                    refine ok.wI (L := [1800]) hIZ30 (show -1 ≤ a_8u26.toInt ∧ a_8u26.toInt ≤ 1548 from by omega) (show (1800 : Nat) ∈ [1800] from by decide) (by decide) (fun Z31 hIZ31 hFZ31 hkZ31 hoZ31 => ?_)
                    exact ok.ret ⟨((((Fr.rf.tr hFu26 (fun _ q => q)).tr hFZ28 (by decide)).tr hFZ30 (by decide)).tr hFZ31 (by decide)), hIZ31⟩
                  · skip
                    refine ok.mul (show _ ≤ a_8u26.toInt * (5 : Int) ∧ a_8u26.toInt * (5 : Int) ≤ _ from by omega) (fun x19 hx19 => ?_)
                    have hx19 : x19.toInt = a_8u26.toInt * (5 : Int) := hx19
                    refine ok.add (show _ ≤ x19.toInt + a_10u26.toInt ∧ x19.toInt + a_10u26.toInt ≤ _ from by omega) (fun x20 hx20 => ?_)
                    have hx20 : x20.toInt = x19.toInt + a_10u26.toInt := hx20
                    refine ok.add (show _ ≤ a_4u26.toInt + a_10u26.toInt ∧ a_4u26.toInt + a_10u26.toInt ≤ _ from by omega) (fun x21 hx21 => ?_)
                    have hx21 : x21.toInt = a_4u26.toInt + a_10u26.toInt := hx21
                    refine ok.ck (show 0 ≤ x21.toInt ∧ x21.toInt < ((4 : Nat) : Int) from by omega) ?_
                    refine ok.letE (v1 := (X.1 11 (ix x21))) (hFu26.1 11 (ix x21) n2200_Qv0) ?_
                    refine ok.ck (show 0 ≤ x20.toInt ∧ x20.toInt < ((7745 : Nat) : Int) from by omega) ?_
                    refine ok.wI (L := [1200]) hIu26 (show True from trivial) (show (1200 : Nat) ∈ [1200] from by decide) (by decide) (fun Z32 hIZ32 hFZ32 hkZ32 hoZ32 => ?_)
                    refine ok.ite (fun c33 => ?_) (fun c33 => ?_)
                    · skip
                      have g34 := i32_le a_9u26
                      refine ok.add (show _ ≤ a_4u26.toInt + a_10u26.toInt ∧ a_4u26.toInt + a_10u26.toInt ≤ _ from by omega) (fun x25 hx25 => ?_)
                      have hx25 : x25.toInt = a_4u26.toInt + a_10u26.toInt := hx25
                      refine ok.ck (show 0 ≤ x25.toInt ∧ x25.toInt < ((4 : Nat) : Int) from by omega) ?_
                      refine ok.letE (v1 := (X.1 11 (ix x25))) ((hFZ32.1 11 (ix x25) (show (2200 : Nat) ∉ [1200] from by decide)).trans (hFu26.1 11 (ix x25) n2200_Qv0)) ?_
                      refine ok.bd (v_hA_hasAny hIZ32) ?_
                      rintro x27 _ rfl
                      refine ok.ite (fun c36 => ?_) (fun c36 => ?_)
                      · skip
                        have g37 := i32_le x27
                        unfold hA_findOrAdd_221
                        refine ok.inc (by decide) (show _ ≤ a_10u26.toInt + (1) ∧ a_10u26.toInt + (1) ≤ _ from by omega) (fun x24 hx24 => ?_)
                        have hx24 : x24.toInt = a_10u26.toInt + (1) := hx24
                        exact ih_u26 a_2u26 a_4u26 a_7u26 a_8u26 (0 : Int32) x24 Z32 hIZ32 ((Fr.rf.tr hFu26 (fun _ q => q)).tr hFZ32 (by decide)) (show 0 ≤ a_2u26.toInt ∧ a_2u26.toInt ≤ 4 from by omega) (show 0 ≤ a_4u26.toInt ∧ a_4u26.toInt + a_2u26.toInt ≤ 4 from by omega) (show 0 ≤ a_7u26.toInt ∧ a_7u26.toInt ≤ 511 from by omega) (show 0 ≤ a_8u26.toInt ∧ a_8u26.toInt ≤ 1548 from by omega) (show 0 ≤ x24.toInt ∧ x24.toInt ≤ 5 from by omega) (show (5 - x24.toInt).toNat < _ from by omega)
                      · skip
                        unfold hA_findOrAdd_216
                        unfold hA_findOrAdd_221
                        refine ok.inc (by decide) (show _ ≤ a_10u26.toInt + (1) ∧ a_10u26.toInt + (1) ≤ _ from by omega) (fun x24 hx24 => ?_)
                        have hx24 : x24.toInt = a_10u26.toInt + (1) := hx24
                        exact ih_u26 a_2u26 a_4u26 a_7u26 a_8u26 (1 : Int32) x24 Z32 hIZ32 ((Fr.rf.tr hFu26 (fun _ q => q)).tr hFZ32 (by decide)) (show 0 ≤ a_2u26.toInt ∧ a_2u26.toInt ≤ 4 from by omega) (show 0 ≤ a_4u26.toInt ∧ a_4u26.toInt + a_2u26.toInt ≤ 4 from by omega) (show 0 ≤ a_7u26.toInt ∧ a_7u26.toInt ≤ 511 from by omega) (show 0 ≤ a_8u26.toInt ∧ a_8u26.toInt ≤ 1548 from by omega) (show 0 ≤ x24.toInt ∧ x24.toInt ≤ 5 from by omega) (show (5 - x24.toInt).toNat < _ from by omega)
                    · skip
                      unfold hA_findOrAdd_216
                      unfold hA_findOrAdd_221
                      refine ok.inc (by decide) (show _ ≤ a_10u26.toInt + (1) ∧ a_10u26.toInt + (1) ≤ _ from by omega) (fun x24 hx24 => ?_)
                      have hx24 : x24.toInt = a_10u26.toInt + (1) := hx24
                      exact ih_u26 a_2u26 a_4u26 a_7u26 a_8u26 (1 : Int32) x24 Z32 hIZ32 ((Fr.rf.tr hFu26 (fun _ q => q)).tr hFZ32 (by decide)) (show 0 ≤ a_2u26.toInt ∧ a_2u26.toInt ≤ 4 from by omega) (show 0 ≤ a_4u26.toInt ∧ a_4u26.toInt + a_2u26.toInt ≤ 4 from by omega) (show 0 ≤ a_7u26.toInt ∧ a_7u26.toInt ≤ 511 from by omega) (show 0 ≤ a_8u26.toInt ∧ a_8u26.toInt ≤ 1548 from by omega) (show 0 ≤ x24.toInt ∧ x24.toInt ≤ 5 from by omega) (show (5 - x24.toInt).toNat < _ from by omega)
              exact lpu26 BIG a_2u3 a_4u3 a_7u3 (Zu3.1 3 0) (0 : Int32) (0 : Int32) Z11 hIZ11 ((((((Fr.rf.tr hFu3 (fun _ q => q)).tr hFZ7 (by decide)).tr hFZ8 (by decide)).tr hFZ9 (by decide)).tr hFZ10 (by decide)).tr hFZ11 (by decide)) (show 0 ≤ a_2u3.toInt ∧ a_2u3.toInt ≤ 4 from by omega) (show 0 ≤ a_4u3.toInt ∧ a_4u3.toInt + a_2u3.toInt ≤ 4 from by omega) (show 0 ≤ a_7u3.toInt ∧ a_7u3.toInt ≤ 511 from by omega) (show 0 ≤ (Zu3.1 3 0).toInt ∧ (Zu3.1 3 0).toInt ≤ 1548 from by omega) (show 0 ≤ (0 : Int) ∧ (0 : Int) ≤ 5 from by omega) (show (5 - (0 : Int)).toNat < BIG from ltBIG (show _ < 100000 from by omega))
            · skip
              refine ok.bd (v_hA_hasAny hIZ11) ?_
              rintro x29 _ rfl
              refine ok.ite (fun c39 => ?_) (fun c39 => ?_)
              · skip
                have g40 := i32_le x29
                unfold hA_findOrAdd_166
                unfold hA_findOrAdd_167
                have lpu41 : ∀ (n : Nat), ∀ (a_2u41 : Int32) (a_4u41 : Int32) (a_7u41 : Int32) (a_8u41 : Int32) (a_9u41 : Int32) (a_10u41 : Int32) (Zu41 : St), INV Zu41 → Fr YC Qv0 X Zu41 → (0 ≤ a_2u41.toInt ∧ a_2u41.toInt ≤ 4) → (0 ≤ a_4u41.toInt ∧ a_4u41.toInt + a_2u41.toInt ≤ 4) → (0 ≤ a_7u41.toInt ∧ a_7u41.toInt ≤ 511) → (0 ≤ a_8u41.toInt ∧ a_8u41.toInt ≤ 1548) → (0 ≤ a_10u41.toInt ∧ a_10u41.toInt ≤ 5) → (5 - a_10u41.toInt).toNat < n → ok (hA_findOrAdd_172 n a_2u41 11 a_4u41 a_7u41 a_8u41 a_9u41 a_10u41 Zu41) (fun r Y => (Fr YC Qv0 X Y ∧ INV Y)) := by
                  intro n
                  unfold hA_findOrAdd_172
                  refine lp_indN (P := fun (n : Nat) (r_u41 : Int32 → Nat → Int32 → Int32 → Int32 → Int32 → Int32 → St → Option (Int32 × St)) => ∀ (a_2u41 : Int32) (a_4u41 : Int32) (a_7u41 : Int32) (a_8u41 : Int32) (a_9u41 : Int32) (a_10u41 : Int32) (Zu41 : St), INV Zu41 → Fr YC Qv0 X Zu41 → (0 ≤ a_2u41.toInt ∧ a_2u41.toInt ≤ 4) → (0 ≤ a_4u41.toInt ∧ a_4u41.toInt + a_2u41.toInt ≤ 4) → (0 ≤ a_7u41.toInt ∧ a_7u41.toInt ≤ 511) → (0 ≤ a_8u41.toInt ∧ a_8u41.toInt ≤ 1548) → (0 ≤ a_10u41.toInt ∧ a_10u41.toInt ≤ 5) → (5 - a_10u41.toInt).toNat < n → ok (r_u41 a_2u41 11 a_4u41 a_7u41 a_8u41 a_9u41 a_10u41 Zu41) (fun r Y => (Fr YC Qv0 X Y ∧ INV Y))) ?_ ?_ n
                  · intro a_2u41 a_4u41 a_7u41 a_8u41 a_9u41 a_10u41 Zu41 hIu41 hFu41 u41_0 u41_1 u41_2 u41_3 u41_4  hm; exact absurd hm (Nat.not_lt_zero _)
                  · intro n r_u41 ih_u41 a_2u41 a_4u41 a_7u41 a_8u41 a_9u41 a_10u41 Zu41 hIu41 hFu41 u41_0 u41_1 u41_2 u41_3 u41_4  hmu41
                    unfold hA_findOrAdd_172_s
                    refine ok.ite (fun c42 => ?_) (fun c42 => ?_)
                    · skip
                      refine ok.ck (show 0 ≤ a_8u41.toInt ∧ a_8u41.toInt < ((1549 : Nat) : Int) from by omega) ?_
                      refine ok.wI (L := [1600]) hIu41 (show True from trivial) (show (1600 : Nat) ∈ [1600] from by decide) (by decide) (fun Z43 hIZ43 hFZ43 hkZ43 hoZ43 => ?_)
                      refine ok.ck (show 0 ≤ a_7u41.toInt ∧ a_7u41.toInt < ((512 : Nat) : Int) from by omega) ?_
                      refine ok.letE (v1 := (Zu41.1 9 (ix a_7u41))) (hFZ43.1 9 (ix a_7u41) (show (1800 : Nat) ∉ [1600] from by decide)) ?_
                      have g44 : -1 ≤ (Zu41.1 9 (ix a_7u41)).toInt ∧ (Zu41.1 9 (ix a_7u41)).toInt ≤ 1548 := hIu41.1 9 (ix a_7u41)
                      refine ok.ck (show 0 ≤ a_8u41.toInt ∧ a_8u41.toInt < ((1549 : Nat) : Int) from by omega) ?_
                      refine ok.wI (L := [2000]) hIZ43 (show -1 ≤ (Zu41.1 9 (ix a_7u41)).toInt ∧ (Zu41.1 9 (ix a_7u41)).toInt ≤ 1548 from by omega) (show (2000 : Nat) ∈ [2000] from by decide) (by decide) (fun Z45 hIZ45 hFZ45 hkZ45 hoZ45 => ?_)
                      refine ok.ck (show 0 ≤ a_7u41.toInt ∧ a_7u41.toInt < ((512 : Nat) : Int) from by omega) ?_
                      refine ok.wI (L := [1800]) hIZ45 (show -1 ≤ a_8u41.toInt ∧ a_8u41.toInt ≤ 1548 from by omega) (show (1800 : Nat) ∈ [1800] from by decide) (by decide) (fun Z46 hIZ46 hFZ46 hkZ46 hoZ46 => ?_)
                      exact ok.ret ⟨((((Fr.rf.tr hFu41 (fun _ q => q)).tr hFZ43 (by decide)).tr hFZ45 (by decide)).tr hFZ46 (by decide)), hIZ46⟩
                    · skip
                      refine ok.mul (show _ ≤ a_8u41.toInt * (5 : Int) ∧ a_8u41.toInt * (5 : Int) ≤ _ from by omega) (fun x19 hx19 => ?_)
                      have hx19 : x19.toInt = a_8u41.toInt * (5 : Int) := hx19
                      refine ok.add (show _ ≤ x19.toInt + a_10u41.toInt ∧ x19.toInt + a_10u41.toInt ≤ _ from by omega) (fun x20 hx20 => ?_)
                      have hx20 : x20.toInt = x19.toInt + a_10u41.toInt := hx20
                      refine ok.add (show _ ≤ a_4u41.toInt + a_10u41.toInt ∧ a_4u41.toInt + a_10u41.toInt ≤ _ from by omega) (fun x21 hx21 => ?_)
                      have hx21 : x21.toInt = a_4u41.toInt + a_10u41.toInt := hx21
                      refine ok.ck (show 0 ≤ x21.toInt ∧ x21.toInt < ((4 : Nat) : Int) from by omega) ?_
                      refine ok.letE (v1 := (X.1 11 (ix x21))) (hFu41.1 11 (ix x21) n2200_Qv0) ?_
                      refine ok.ck (show 0 ≤ x20.toInt ∧ x20.toInt < ((7745 : Nat) : Int) from by omega) ?_
                      refine ok.wI (L := [1200]) hIu41 (show True from trivial) (show (1200 : Nat) ∈ [1200] from by decide) (by decide) (fun Z47 hIZ47 hFZ47 hkZ47 hoZ47 => ?_)
                      refine ok.ite (fun c48 => ?_) (fun c48 => ?_)
                      · skip
                        have g49 := i32_le a_9u41
                        refine ok.add (show _ ≤ a_4u41.toInt + a_10u41.toInt ∧ a_4u41.toInt + a_10u41.toInt ≤ _ from by omega) (fun x25 hx25 => ?_)
                        have hx25 : x25.toInt = a_4u41.toInt + a_10u41.toInt := hx25
                        refine ok.ck (show 0 ≤ x25.toInt ∧ x25.toInt < ((4 : Nat) : Int) from by omega) ?_
                        refine ok.letE (v1 := (X.1 11 (ix x25))) ((hFZ47.1 11 (ix x25) (show (2200 : Nat) ∉ [1200] from by decide)).trans (hFu41.1 11 (ix x25) n2200_Qv0)) ?_
                        refine ok.bd (v_hA_hasAny hIZ47) ?_
                        rintro x27 _ rfl
                        refine ok.ite (fun c51 => ?_) (fun c51 => ?_)
                        · skip
                          have g52 := i32_le x27
                          unfold hA_findOrAdd_221
                          refine ok.inc (by decide) (show _ ≤ a_10u41.toInt + (1) ∧ a_10u41.toInt + (1) ≤ _ from by omega) (fun x24 hx24 => ?_)
                          have hx24 : x24.toInt = a_10u41.toInt + (1) := hx24
                          exact ih_u41 a_2u41 a_4u41 a_7u41 a_8u41 (0 : Int32) x24 Z47 hIZ47 ((Fr.rf.tr hFu41 (fun _ q => q)).tr hFZ47 (by decide)) (show 0 ≤ a_2u41.toInt ∧ a_2u41.toInt ≤ 4 from by omega) (show 0 ≤ a_4u41.toInt ∧ a_4u41.toInt + a_2u41.toInt ≤ 4 from by omega) (show 0 ≤ a_7u41.toInt ∧ a_7u41.toInt ≤ 511 from by omega) (show 0 ≤ a_8u41.toInt ∧ a_8u41.toInt ≤ 1548 from by omega) (show 0 ≤ x24.toInt ∧ x24.toInt ≤ 5 from by omega) (show (5 - x24.toInt).toNat < _ from by omega)
                        · skip
                          unfold hA_findOrAdd_216
                          unfold hA_findOrAdd_221
                          refine ok.inc (by decide) (show _ ≤ a_10u41.toInt + (1) ∧ a_10u41.toInt + (1) ≤ _ from by omega) (fun x24 hx24 => ?_)
                          have hx24 : x24.toInt = a_10u41.toInt + (1) := hx24
                          exact ih_u41 a_2u41 a_4u41 a_7u41 a_8u41 (1 : Int32) x24 Z47 hIZ47 ((Fr.rf.tr hFu41 (fun _ q => q)).tr hFZ47 (by decide)) (show 0 ≤ a_2u41.toInt ∧ a_2u41.toInt ≤ 4 from by omega) (show 0 ≤ a_4u41.toInt ∧ a_4u41.toInt + a_2u41.toInt ≤ 4 from by omega) (show 0 ≤ a_7u41.toInt ∧ a_7u41.toInt ≤ 511 from by omega) (show 0 ≤ a_8u41.toInt ∧ a_8u41.toInt ≤ 1548 from by omega) (show 0 ≤ x24.toInt ∧ x24.toInt ≤ 5 from by omega) (show (5 - x24.toInt).toNat < _ from by omega)
                      · skip
                        unfold hA_findOrAdd_216
                        unfold hA_findOrAdd_221
                        refine ok.inc (by decide) (show _ ≤ a_10u41.toInt + (1) ∧ a_10u41.toInt + (1) ≤ _ from by omega) (fun x24 hx24 => ?_)
                        have hx24 : x24.toInt = a_10u41.toInt + (1) := hx24
                        exact ih_u41 a_2u41 a_4u41 a_7u41 a_8u41 (1 : Int32) x24 Z47 hIZ47 ((Fr.rf.tr hFu41 (fun _ q => q)).tr hFZ47 (by decide)) (show 0 ≤ a_2u41.toInt ∧ a_2u41.toInt ≤ 4 from by omega) (show 0 ≤ a_4u41.toInt ∧ a_4u41.toInt + a_2u41.toInt ≤ 4 from by omega) (show 0 ≤ a_7u41.toInt ∧ a_7u41.toInt ≤ 511 from by omega) (show 0 ≤ a_8u41.toInt ∧ a_8u41.toInt ≤ 1548 from by omega) (show 0 ≤ x24.toInt ∧ x24.toInt ≤ 5 from by omega) (show (5 - x24.toInt).toNat < _ from by omega)
                exact lpu41 BIG a_2u3 a_4u3 a_7u3 (Zu3.1 3 0) (0 : Int32) (0 : Int32) Z11 hIZ11 ((((((Fr.rf.tr hFu3 (fun _ q => q)).tr hFZ7 (by decide)).tr hFZ8 (by decide)).tr hFZ9 (by decide)).tr hFZ10 (by decide)).tr hFZ11 (by decide)) (show 0 ≤ a_2u3.toInt ∧ a_2u3.toInt ≤ 4 from by omega) (show 0 ≤ a_4u3.toInt ∧ a_4u3.toInt + a_2u3.toInt ≤ 4 from by omega) (show 0 ≤ a_7u3.toInt ∧ a_7u3.toInt ≤ 511 from by omega) (show 0 ≤ (Zu3.1 3 0).toInt ∧ (Zu3.1 3 0).toInt ≤ 1548 from by omega) (show 0 ≤ (0 : Int) ∧ (0 : Int) ≤ 5 from by omega) (show (5 - (0 : Int)).toNat < BIG from ltBIG (show _ < 100000 from by omega))
              · skip
                unfold hA_findOrAdd_162
                unfold hA_findOrAdd_167
                have lpu53 : ∀ (n : Nat), ∀ (a_2u53 : Int32) (a_4u53 : Int32) (a_7u53 : Int32) (a_8u53 : Int32) (a_9u53 : Int32) (a_10u53 : Int32) (Zu53 : St), INV Zu53 → Fr YC Qv0 X Zu53 → (0 ≤ a_2u53.toInt ∧ a_2u53.toInt ≤ 4) → (0 ≤ a_4u53.toInt ∧ a_4u53.toInt + a_2u53.toInt ≤ 4) → (0 ≤ a_7u53.toInt ∧ a_7u53.toInt ≤ 511) → (0 ≤ a_8u53.toInt ∧ a_8u53.toInt ≤ 1548) → (0 ≤ a_10u53.toInt ∧ a_10u53.toInt ≤ 5) → (5 - a_10u53.toInt).toNat < n → ok (hA_findOrAdd_172 n a_2u53 11 a_4u53 a_7u53 a_8u53 a_9u53 a_10u53 Zu53) (fun r Y => (Fr YC Qv0 X Y ∧ INV Y)) := by
                  intro n
                  unfold hA_findOrAdd_172
                  refine lp_indN (P := fun (n : Nat) (r_u53 : Int32 → Nat → Int32 → Int32 → Int32 → Int32 → Int32 → St → Option (Int32 × St)) => ∀ (a_2u53 : Int32) (a_4u53 : Int32) (a_7u53 : Int32) (a_8u53 : Int32) (a_9u53 : Int32) (a_10u53 : Int32) (Zu53 : St), INV Zu53 → Fr YC Qv0 X Zu53 → (0 ≤ a_2u53.toInt ∧ a_2u53.toInt ≤ 4) → (0 ≤ a_4u53.toInt ∧ a_4u53.toInt + a_2u53.toInt ≤ 4) → (0 ≤ a_7u53.toInt ∧ a_7u53.toInt ≤ 511) → (0 ≤ a_8u53.toInt ∧ a_8u53.toInt ≤ 1548) → (0 ≤ a_10u53.toInt ∧ a_10u53.toInt ≤ 5) → (5 - a_10u53.toInt).toNat < n → ok (r_u53 a_2u53 11 a_4u53 a_7u53 a_8u53 a_9u53 a_10u53 Zu53) (fun r Y => (Fr YC Qv0 X Y ∧ INV Y))) ?_ ?_ n
                  · intro a_2u53 a_4u53 a_7u53 a_8u53 a_9u53 a_10u53 Zu53 hIu53 hFu53 u53_0 u53_1 u53_2 u53_3 u53_4  hm; exact absurd hm (Nat.not_lt_zero _)
                  · intro n r_u53 ih_u53 a_2u53 a_4u53 a_7u53 a_8u53 a_9u53 a_10u53 Zu53 hIu53 hFu53 u53_0 u53_1 u53_2 u53_3 u53_4  hmu53
                    unfold hA_findOrAdd_172_s
                    refine ok.ite (fun c54 => ?_) (fun c54 => ?_)
                    · skip
                      refine ok.ck (show 0 ≤ a_8u53.toInt ∧ a_8u53.toInt < ((1549 : Nat) : Int) from by omega) ?_
                      refine ok.wI (L := [1600]) hIu53 (show True from trivial) (show (1600 : Nat) ∈ [1600] from by decide) (by decide) (fun Z55 hIZ55 hFZ55 hkZ55 hoZ55 => ?_)
                      refine ok.ck (show 0 ≤ a_7u53.toInt ∧ a_7u53.toInt < ((512 : Nat) : Int) from by omega) ?_
                      refine ok.letE (v1 := (Zu53.1 9 (ix a_7u53))) (hFZ55.1 9 (ix a_7u53) (show (1800 : Nat) ∉ [1600] from by decide)) ?_
                      have g56 : -1 ≤ (Zu53.1 9 (ix a_7u53)).toInt ∧ (Zu53.1 9 (ix a_7u53)).toInt ≤ 1548 := hIu53.1 9 (ix a_7u53)
                      refine ok.ck (show 0 ≤ a_8u53.toInt ∧ a_8u53.toInt < ((1549 : Nat) : Int) from by omega) ?_
                      refine ok.wI (L := [2000]) hIZ55 (show -1 ≤ (Zu53.1 9 (ix a_7u53)).toInt ∧ (Zu53.1 9 (ix a_7u53)).toInt ≤ 1548 from by omega) (show (2000 : Nat) ∈ [2000] from by decide) (by decide) (fun Z57 hIZ57 hFZ57 hkZ57 hoZ57 => ?_)
                      refine ok.ck (show 0 ≤ a_7u53.toInt ∧ a_7u53.toInt < ((512 : Nat) : Int) from by omega) ?_
                      refine ok.wI (L := [1800]) hIZ57 (show -1 ≤ a_8u53.toInt ∧ a_8u53.toInt ≤ 1548 from by omega) (show (1800 : Nat) ∈ [1800] from by decide) (by decide) (fun Z58 hIZ58 hFZ58 hkZ58 hoZ58 => ?_)
                      exact ok.ret ⟨((((Fr.rf.tr hFu53 (fun _ q => q)).tr hFZ55 (by decide)).tr hFZ57 (by decide)).tr hFZ58 (by decide)), hIZ58⟩
                    · skip
                      refine ok.mul (show _ ≤ a_8u53.toInt * (5 : Int) ∧ a_8u53.toInt * (5 : Int) ≤ _ from by omega) (fun x19 hx19 => ?_)
                      have hx19 : x19.toInt = a_8u53.toInt * (5 : Int) := hx19
                      refine ok.add (show _ ≤ x19.toInt + a_10u53.toInt ∧ x19.toInt + a_10u53.toInt ≤ _ from by omega) (fun x20 hx20 => ?_)
                      have hx20 : x20.toInt = x19.toInt + a_10u53.toInt := hx20
                      refine ok.add (show _ ≤ a_4u53.toInt + a_10u53.toInt ∧ a_4u53.toInt + a_10u53.toInt ≤ _ from by omega) (fun x21 hx21 => ?_)
                      have hx21 : x21.toInt = a_4u53.toInt + a_10u53.toInt := hx21
                      refine ok.ck (show 0 ≤ x21.toInt ∧ x21.toInt < ((4 : Nat) : Int) from by omega) ?_
                      refine ok.letE (v1 := (X.1 11 (ix x21))) (hFu53.1 11 (ix x21) n2200_Qv0) ?_
                      refine ok.ck (show 0 ≤ x20.toInt ∧ x20.toInt < ((7745 : Nat) : Int) from by omega) ?_
                      refine ok.wI (L := [1200]) hIu53 (show True from trivial) (show (1200 : Nat) ∈ [1200] from by decide) (by decide) (fun Z59 hIZ59 hFZ59 hkZ59 hoZ59 => ?_)
                      refine ok.ite (fun c60 => ?_) (fun c60 => ?_)
                      · skip
                        have g61 := i32_le a_9u53
                        refine ok.add (show _ ≤ a_4u53.toInt + a_10u53.toInt ∧ a_4u53.toInt + a_10u53.toInt ≤ _ from by omega) (fun x25 hx25 => ?_)
                        have hx25 : x25.toInt = a_4u53.toInt + a_10u53.toInt := hx25
                        refine ok.ck (show 0 ≤ x25.toInt ∧ x25.toInt < ((4 : Nat) : Int) from by omega) ?_
                        refine ok.letE (v1 := (X.1 11 (ix x25))) ((hFZ59.1 11 (ix x25) (show (2200 : Nat) ∉ [1200] from by decide)).trans (hFu53.1 11 (ix x25) n2200_Qv0)) ?_
                        refine ok.bd (v_hA_hasAny hIZ59) ?_
                        rintro x27 _ rfl
                        refine ok.ite (fun c63 => ?_) (fun c63 => ?_)
                        · skip
                          have g64 := i32_le x27
                          unfold hA_findOrAdd_221
                          refine ok.inc (by decide) (show _ ≤ a_10u53.toInt + (1) ∧ a_10u53.toInt + (1) ≤ _ from by omega) (fun x24 hx24 => ?_)
                          have hx24 : x24.toInt = a_10u53.toInt + (1) := hx24
                          exact ih_u53 a_2u53 a_4u53 a_7u53 a_8u53 (0 : Int32) x24 Z59 hIZ59 ((Fr.rf.tr hFu53 (fun _ q => q)).tr hFZ59 (by decide)) (show 0 ≤ a_2u53.toInt ∧ a_2u53.toInt ≤ 4 from by omega) (show 0 ≤ a_4u53.toInt ∧ a_4u53.toInt + a_2u53.toInt ≤ 4 from by omega) (show 0 ≤ a_7u53.toInt ∧ a_7u53.toInt ≤ 511 from by omega) (show 0 ≤ a_8u53.toInt ∧ a_8u53.toInt ≤ 1548 from by omega) (show 0 ≤ x24.toInt ∧ x24.toInt ≤ 5 from by omega) (show (5 - x24.toInt).toNat < _ from by omega)
                        · skip
                          unfold hA_findOrAdd_216
                          unfold hA_findOrAdd_221
                          refine ok.inc (by decide) (show _ ≤ a_10u53.toInt + (1) ∧ a_10u53.toInt + (1) ≤ _ from by omega) (fun x24 hx24 => ?_)
                          have hx24 : x24.toInt = a_10u53.toInt + (1) := hx24
                          exact ih_u53 a_2u53 a_4u53 a_7u53 a_8u53 (1 : Int32) x24 Z59 hIZ59 ((Fr.rf.tr hFu53 (fun _ q => q)).tr hFZ59 (by decide)) (show 0 ≤ a_2u53.toInt ∧ a_2u53.toInt ≤ 4 from by omega) (show 0 ≤ a_4u53.toInt ∧ a_4u53.toInt + a_2u53.toInt ≤ 4 from by omega) (show 0 ≤ a_7u53.toInt ∧ a_7u53.toInt ≤ 511 from by omega) (show 0 ≤ a_8u53.toInt ∧ a_8u53.toInt ≤ 1548 from by omega) (show 0 ≤ x24.toInt ∧ x24.toInt ≤ 5 from by omega) (show (5 - x24.toInt).toNat < _ from by omega)
                      · skip
                        unfold hA_findOrAdd_216
                        unfold hA_findOrAdd_221
                        refine ok.inc (by decide) (show _ ≤ a_10u53.toInt + (1) ∧ a_10u53.toInt + (1) ≤ _ from by omega) (fun x24 hx24 => ?_)
                        have hx24 : x24.toInt = a_10u53.toInt + (1) := hx24
                        exact ih_u53 a_2u53 a_4u53 a_7u53 a_8u53 (1 : Int32) x24 Z59 hIZ59 ((Fr.rf.tr hFu53 (fun _ q => q)).tr hFZ59 (by decide)) (show 0 ≤ a_2u53.toInt ∧ a_2u53.toInt ≤ 4 from by omega) (show 0 ≤ a_4u53.toInt ∧ a_4u53.toInt + a_2u53.toInt ≤ 4 from by omega) (show 0 ≤ a_7u53.toInt ∧ a_7u53.toInt ≤ 511 from by omega) (show 0 ≤ a_8u53.toInt ∧ a_8u53.toInt ≤ 1548 from by omega) (show 0 ≤ x24.toInt ∧ x24.toInt ≤ 5 from by omega) (show (5 - x24.toInt).toNat < _ from by omega)
                exact lpu53 BIG a_2u3 a_4u3 a_7u3 (Zu3.1 3 0) (1 : Int32) (0 : Int32) Z11 hIZ11 ((((((Fr.rf.tr hFu3 (fun _ q => q)).tr hFZ7 (by decide)).tr hFZ8 (by decide)).tr hFZ9 (by decide)).tr hFZ10 (by decide)).tr hFZ11 (by decide)) (show 0 ≤ a_2u3.toInt ∧ a_2u3.toInt ≤ 4 from by omega) (show 0 ≤ a_4u3.toInt ∧ a_4u3.toInt + a_2u3.toInt ≤ 4 from by omega) (show 0 ≤ a_7u3.toInt ∧ a_7u3.toInt ≤ 511 from by omega) (show 0 ≤ (Zu3.1 3 0).toInt ∧ (Zu3.1 3 0).toInt ≤ 1548 from by omega) (show 0 ≤ (0 : Int) ∧ (0 : Int) ≤ 5 from by omega) (show (5 - (0 : Int)).toNat < BIG from ltBIG (show _ < 100000 from by omega))
        · skip
          exact ok.ret ⟨(Fr.rf.tr hFu3 (fun _ q => q)), hIu3⟩
      · skip
        refine ok.ite (fun c65 => ?_) (fun c65 => ?_)
        · skip
          unfold hA_findOrAdd_77
          refine ok.letE (v1 := (Zu3.1 3 0)) rfl ?_
          have g66 : 0 ≤ (Zu3.1 3 0).toInt ∧ (Zu3.1 3 0).toInt ≤ 1549 := hIu3.1 3 0
          refine ok.ite (fun c67 => ?_) (fun c67 => ?_)
          · skip
            refine ok.letE (v1 := (Zu3.1 3 0)) rfl ?_
            refine ok.letE (v1 := (Zu3.1 3 0)) rfl ?_
            refine ok.add (show _ ≤ (Zu3.1 3 0).toInt + (1 : Int) ∧ (Zu3.1 3 0).toInt + (1 : Int) ≤ _ from by omega) (fun x7 hx7 => ?_)
            have hx7 : x7.toInt = (Zu3.1 3 0).toInt + (1 : Int) := hx7
            refine ok.wI (L := [600]) hIu3 (show 0 ≤ x7.toInt ∧ x7.toInt ≤ 1549 from by omega) (show (600 : Nat) ∈ [600] from by decide) (by decide) (fun Z68 hIZ68 hFZ68 hkZ68 hoZ68 => ?_)
            refine ok.ck (show 0 ≤ (Zu3.1 3 0).toInt ∧ (Zu3.1 3 0).toInt < ((1549 : Nat) : Int) from by omega) ?_
            refine ok.wI (L := [800]) hIZ68 (show True from trivial) (show (800 : Nat) ∈ [800] from by decide) (by decide) (fun Z69 hIZ69 hFZ69 hkZ69 hoZ69 => ?_)
            refine ok.ck (show 0 ≤ (Zu3.1 3 0).toInt ∧ (Zu3.1 3 0).toInt < ((1549 : Nat) : Int) from by omega) ?_
            refine ok.wI (L := [1000]) hIZ69 (show 0 ≤ a_2u3.toInt ∧ a_2u3.toInt ≤ 4 from by omega) (show (1000 : Nat) ∈ [1000] from by decide) (by decide) (fun Z70 hIZ70 hFZ70 hkZ70 hoZ70 => ?_)
            refine ok.ck (show 0 ≤ (Zu3.1 3 0).toInt ∧ (Zu3.1 3 0).toInt < ((1549 : Nat) : Int) from by omega) ?_
            refine ok.wI (L := [1400]) hIZ70 (show True from trivial) (show (1400 : Nat) ∈ [1400] from by decide) (by decide) (fun Z71 hIZ71 hFZ71 hkZ71 hoZ71 => ?_)
            refine ok.mul (show _ ≤ (Zu3.1 3 0).toInt * (5 : Int) ∧ (Zu3.1 3 0).toInt * (5 : Int) ≤ _ from by omega) (fun x12 hx12 => ?_)
            have hx12 : x12.toInt = (Zu3.1 3 0).toInt * (5 : Int) := hx12
            refine ok.add (show _ ≤ x12.toInt + (4 : Int) ∧ x12.toInt + (4 : Int) ≤ _ from by omega) (fun x13 hx13 => ?_)
            have hx13 : x13.toInt = x12.toInt + (4 : Int) := hx13
            refine ok.ck (show 0 ≤ x13.toInt ∧ x13.toInt < ((7745 : Nat) : Int) from by omega) ?_
            refine ok.wI (L := [1200]) hIZ71 (show True from trivial) (show (1200 : Nat) ∈ [1200] from by decide) (by decide) (fun Z72 hIZ72 hFZ72 hkZ72 hoZ72 => ?_)
            refine ok.ite (fun c73 => ?_) (fun c73 => ?_)
            · skip
              unfold hA_findOrAdd_162
              unfold hA_findOrAdd_167
              have lpu74 : ∀ (n : Nat), ∀ (a_2u74 : Int32) (a_4u74 : Int32) (a_7u74 : Int32) (a_8u74 : Int32) (a_9u74 : Int32) (a_10u74 : Int32) (Zu74 : St), INV Zu74 → Fr YC Qv0 X Zu74 → (0 ≤ a_2u74.toInt ∧ a_2u74.toInt ≤ 4) → (0 ≤ a_4u74.toInt ∧ a_4u74.toInt + a_2u74.toInt ≤ 4) → (0 ≤ a_7u74.toInt ∧ a_7u74.toInt ≤ 511) → (0 ≤ a_8u74.toInt ∧ a_8u74.toInt ≤ 1548) → (0 ≤ a_10u74.toInt ∧ a_10u74.toInt ≤ 5) → (5 - a_10u74.toInt).toNat < n → ok (hA_findOrAdd_172 n a_2u74 11 a_4u74 a_7u74 a_8u74 a_9u74 a_10u74 Zu74) (fun r Y => (Fr YC Qv0 X Y ∧ INV Y)) := by
                intro n
                unfold hA_findOrAdd_172
                refine lp_indN (P := fun (n : Nat) (r_u74 : Int32 → Nat → Int32 → Int32 → Int32 → Int32 → Int32 → St → Option (Int32 × St)) => ∀ (a_2u74 : Int32) (a_4u74 : Int32) (a_7u74 : Int32) (a_8u74 : Int32) (a_9u74 : Int32) (a_10u74 : Int32) (Zu74 : St), INV Zu74 → Fr YC Qv0 X Zu74 → (0 ≤ a_2u74.toInt ∧ a_2u74.toInt ≤ 4) → (0 ≤ a_4u74.toInt ∧ a_4u74.toInt + a_2u74.toInt ≤ 4) → (0 ≤ a_7u74.toInt ∧ a_7u74.toInt ≤ 511) → (0 ≤ a_8u74.toInt ∧ a_8u74.toInt ≤ 1548) → (0 ≤ a_10u74.toInt ∧ a_10u74.toInt ≤ 5) → (5 - a_10u74.toInt).toNat < n → ok (r_u74 a_2u74 11 a_4u74 a_7u74 a_8u74 a_9u74 a_10u74 Zu74) (fun r Y => (Fr YC Qv0 X Y ∧ INV Y))) ?_ ?_ n
                · intro a_2u74 a_4u74 a_7u74 a_8u74 a_9u74 a_10u74 Zu74 hIu74 hFu74 u74_0 u74_1 u74_2 u74_3 u74_4  hm; exact absurd hm (Nat.not_lt_zero _)
                · intro n r_u74 ih_u74 a_2u74 a_4u74 a_7u74 a_8u74 a_9u74 a_10u74 Zu74 hIu74 hFu74 u74_0 u74_1 u74_2 u74_3 u74_4  hmu74
                  unfold hA_findOrAdd_172_s
                  refine ok.ite (fun c75 => ?_) (fun c75 => ?_)
                  · skip
                    refine ok.ck (show 0 ≤ a_8u74.toInt ∧ a_8u74.toInt < ((1549 : Nat) : Int) from by omega) ?_
                    refine ok.wI (L := [1600]) hIu74 (show True from trivial) (show (1600 : Nat) ∈ [1600] from by decide) (by decide) (fun Z76 hIZ76 hFZ76 hkZ76 hoZ76 => ?_)
                    refine ok.ck (show 0 ≤ a_7u74.toInt ∧ a_7u74.toInt < ((512 : Nat) : Int) from by omega) ?_
                    refine ok.letE (v1 := (Zu74.1 9 (ix a_7u74))) (hFZ76.1 9 (ix a_7u74) (show (1800 : Nat) ∉ [1600] from by decide)) ?_
                    have g77 : -1 ≤ (Zu74.1 9 (ix a_7u74)).toInt ∧ (Zu74.1 9 (ix a_7u74)).toInt ≤ 1548 := hIu74.1 9 (ix a_7u74)
                    refine ok.ck (show 0 ≤ a_8u74.toInt ∧ a_8u74.toInt < ((1549 : Nat) : Int) from by omega) ?_
                    refine ok.wI (L := [2000]) hIZ76 (show -1 ≤ (Zu74.1 9 (ix a_7u74)).toInt ∧ (Zu74.1 9 (ix a_7u74)).toInt ≤ 1548 from by omega) (show (2000 : Nat) ∈ [2000] from by decide) (by decide) (fun Z78 hIZ78 hFZ78 hkZ78 hoZ78 => ?_)
                    refine ok.ck (show 0 ≤ a_7u74.toInt ∧ a_7u74.toInt < ((512 : Nat) : Int) from by omega) ?_
                    refine ok.wI (L := [1800]) hIZ78 (show -1 ≤ a_8u74.toInt ∧ a_8u74.toInt ≤ 1548 from by omega) (show (1800 : Nat) ∈ [1800] from by decide) (by decide) (fun Z79 hIZ79 hFZ79 hkZ79 hoZ79 => ?_)
                    exact ok.ret ⟨((((Fr.rf.tr hFu74 (fun _ q => q)).tr hFZ76 (by decide)).tr hFZ78 (by decide)).tr hFZ79 (by decide)), hIZ79⟩
                  · skip
                    refine ok.mul (show _ ≤ a_8u74.toInt * (5 : Int) ∧ a_8u74.toInt * (5 : Int) ≤ _ from by omega) (fun x19 hx19 => ?_)
                    have hx19 : x19.toInt = a_8u74.toInt * (5 : Int) := hx19
                    refine ok.add (show _ ≤ x19.toInt + a_10u74.toInt ∧ x19.toInt + a_10u74.toInt ≤ _ from by omega) (fun x20 hx20 => ?_)
                    have hx20 : x20.toInt = x19.toInt + a_10u74.toInt := hx20
                    refine ok.add (show _ ≤ a_4u74.toInt + a_10u74.toInt ∧ a_4u74.toInt + a_10u74.toInt ≤ _ from by omega) (fun x21 hx21 => ?_)
                    have hx21 : x21.toInt = a_4u74.toInt + a_10u74.toInt := hx21
                    refine ok.ck (show 0 ≤ x21.toInt ∧ x21.toInt < ((4 : Nat) : Int) from by omega) ?_
                    refine ok.letE (v1 := (X.1 11 (ix x21))) (hFu74.1 11 (ix x21) n2200_Qv0) ?_
                    refine ok.ck (show 0 ≤ x20.toInt ∧ x20.toInt < ((7745 : Nat) : Int) from by omega) ?_
                    refine ok.wI (L := [1200]) hIu74 (show True from trivial) (show (1200 : Nat) ∈ [1200] from by decide) (by decide) (fun Z80 hIZ80 hFZ80 hkZ80 hoZ80 => ?_)
                    refine ok.ite (fun c81 => ?_) (fun c81 => ?_)
                    · skip
                      have g82 := i32_le a_9u74
                      refine ok.add (show _ ≤ a_4u74.toInt + a_10u74.toInt ∧ a_4u74.toInt + a_10u74.toInt ≤ _ from by omega) (fun x25 hx25 => ?_)
                      have hx25 : x25.toInt = a_4u74.toInt + a_10u74.toInt := hx25
                      refine ok.ck (show 0 ≤ x25.toInt ∧ x25.toInt < ((4 : Nat) : Int) from by omega) ?_
                      refine ok.letE (v1 := (X.1 11 (ix x25))) ((hFZ80.1 11 (ix x25) (show (2200 : Nat) ∉ [1200] from by decide)).trans (hFu74.1 11 (ix x25) n2200_Qv0)) ?_
                      refine ok.bd (v_hA_hasAny hIZ80) ?_
                      rintro x27 _ rfl
                      refine ok.ite (fun c84 => ?_) (fun c84 => ?_)
                      · skip
                        have g85 := i32_le x27
                        unfold hA_findOrAdd_221
                        refine ok.inc (by decide) (show _ ≤ a_10u74.toInt + (1) ∧ a_10u74.toInt + (1) ≤ _ from by omega) (fun x24 hx24 => ?_)
                        have hx24 : x24.toInt = a_10u74.toInt + (1) := hx24
                        exact ih_u74 a_2u74 a_4u74 a_7u74 a_8u74 (0 : Int32) x24 Z80 hIZ80 ((Fr.rf.tr hFu74 (fun _ q => q)).tr hFZ80 (by decide)) (show 0 ≤ a_2u74.toInt ∧ a_2u74.toInt ≤ 4 from by omega) (show 0 ≤ a_4u74.toInt ∧ a_4u74.toInt + a_2u74.toInt ≤ 4 from by omega) (show 0 ≤ a_7u74.toInt ∧ a_7u74.toInt ≤ 511 from by omega) (show 0 ≤ a_8u74.toInt ∧ a_8u74.toInt ≤ 1548 from by omega) (show 0 ≤ x24.toInt ∧ x24.toInt ≤ 5 from by omega) (show (5 - x24.toInt).toNat < _ from by omega)
                      · skip
                        unfold hA_findOrAdd_216
                        unfold hA_findOrAdd_221
                        refine ok.inc (by decide) (show _ ≤ a_10u74.toInt + (1) ∧ a_10u74.toInt + (1) ≤ _ from by omega) (fun x24 hx24 => ?_)
                        have hx24 : x24.toInt = a_10u74.toInt + (1) := hx24
                        exact ih_u74 a_2u74 a_4u74 a_7u74 a_8u74 (1 : Int32) x24 Z80 hIZ80 ((Fr.rf.tr hFu74 (fun _ q => q)).tr hFZ80 (by decide)) (show 0 ≤ a_2u74.toInt ∧ a_2u74.toInt ≤ 4 from by omega) (show 0 ≤ a_4u74.toInt ∧ a_4u74.toInt + a_2u74.toInt ≤ 4 from by omega) (show 0 ≤ a_7u74.toInt ∧ a_7u74.toInt ≤ 511 from by omega) (show 0 ≤ a_8u74.toInt ∧ a_8u74.toInt ≤ 1548 from by omega) (show 0 ≤ x24.toInt ∧ x24.toInt ≤ 5 from by omega) (show (5 - x24.toInt).toNat < _ from by omega)
                    · skip
                      unfold hA_findOrAdd_216
                      unfold hA_findOrAdd_221
                      refine ok.inc (by decide) (show _ ≤ a_10u74.toInt + (1) ∧ a_10u74.toInt + (1) ≤ _ from by omega) (fun x24 hx24 => ?_)
                      have hx24 : x24.toInt = a_10u74.toInt + (1) := hx24
                      exact ih_u74 a_2u74 a_4u74 a_7u74 a_8u74 (1 : Int32) x24 Z80 hIZ80 ((Fr.rf.tr hFu74 (fun _ q => q)).tr hFZ80 (by decide)) (show 0 ≤ a_2u74.toInt ∧ a_2u74.toInt ≤ 4 from by omega) (show 0 ≤ a_4u74.toInt ∧ a_4u74.toInt + a_2u74.toInt ≤ 4 from by omega) (show 0 ≤ a_7u74.toInt ∧ a_7u74.toInt ≤ 511 from by omega) (show 0 ≤ a_8u74.toInt ∧ a_8u74.toInt ≤ 1548 from by omega) (show 0 ≤ x24.toInt ∧ x24.toInt ≤ 5 from by omega) (show (5 - x24.toInt).toNat < _ from by omega)
              exact lpu74 BIG a_2u3 a_4u3 a_7u3 (Zu3.1 3 0) (1 : Int32) (0 : Int32) Z72 hIZ72 ((((((Fr.rf.tr hFu3 (fun _ q => q)).tr hFZ68 (by decide)).tr hFZ69 (by decide)).tr hFZ70 (by decide)).tr hFZ71 (by decide)).tr hFZ72 (by decide)) (show 0 ≤ a_2u3.toInt ∧ a_2u3.toInt ≤ 4 from by omega) (show 0 ≤ a_4u3.toInt ∧ a_4u3.toInt + a_2u3.toInt ≤ 4 from by omega) (show 0 ≤ a_7u3.toInt ∧ a_7u3.toInt ≤ 511 from by omega) (show 0 ≤ (Zu3.1 3 0).toInt ∧ (Zu3.1 3 0).toInt ≤ 1548 from by omega) (show 0 ≤ (0 : Int) ∧ (0 : Int) ≤ 5 from by omega) (show (5 - (0 : Int)).toNat < BIG from ltBIG (show _ < 100000 from by omega))
            · skip
              refine ok.ite (fun c86 => ?_) (fun c86 => ?_)
              · skip
                unfold hA_findOrAdd_166
                unfold hA_findOrAdd_167
                have lpu87 : ∀ (n : Nat), ∀ (a_2u87 : Int32) (a_4u87 : Int32) (a_7u87 : Int32) (a_8u87 : Int32) (a_9u87 : Int32) (a_10u87 : Int32) (Zu87 : St), INV Zu87 → Fr YC Qv0 X Zu87 → (0 ≤ a_2u87.toInt ∧ a_2u87.toInt ≤ 4) → (0 ≤ a_4u87.toInt ∧ a_4u87.toInt + a_2u87.toInt ≤ 4) → (0 ≤ a_7u87.toInt ∧ a_7u87.toInt ≤ 511) → (0 ≤ a_8u87.toInt ∧ a_8u87.toInt ≤ 1548) → (0 ≤ a_10u87.toInt ∧ a_10u87.toInt ≤ 5) → (5 - a_10u87.toInt).toNat < n → ok (hA_findOrAdd_172 n a_2u87 11 a_4u87 a_7u87 a_8u87 a_9u87 a_10u87 Zu87) (fun r Y => (Fr YC Qv0 X Y ∧ INV Y)) := by
                  intro n
                  unfold hA_findOrAdd_172
                  refine lp_indN (P := fun (n : Nat) (r_u87 : Int32 → Nat → Int32 → Int32 → Int32 → Int32 → Int32 → St → Option (Int32 × St)) => ∀ (a_2u87 : Int32) (a_4u87 : Int32) (a_7u87 : Int32) (a_8u87 : Int32) (a_9u87 : Int32) (a_10u87 : Int32) (Zu87 : St), INV Zu87 → Fr YC Qv0 X Zu87 → (0 ≤ a_2u87.toInt ∧ a_2u87.toInt ≤ 4) → (0 ≤ a_4u87.toInt ∧ a_4u87.toInt + a_2u87.toInt ≤ 4) → (0 ≤ a_7u87.toInt ∧ a_7u87.toInt ≤ 511) → (0 ≤ a_8u87.toInt ∧ a_8u87.toInt ≤ 1548) → (0 ≤ a_10u87.toInt ∧ a_10u87.toInt ≤ 5) → (5 - a_10u87.toInt).toNat < n → ok (r_u87 a_2u87 11 a_4u87 a_7u87 a_8u87 a_9u87 a_10u87 Zu87) (fun r Y => (Fr YC Qv0 X Y ∧ INV Y))) ?_ ?_ n
                  · intro a_2u87 a_4u87 a_7u87 a_8u87 a_9u87 a_10u87 Zu87 hIu87 hFu87 u87_0 u87_1 u87_2 u87_3 u87_4  hm; exact absurd hm (Nat.not_lt_zero _)
                  · intro n r_u87 ih_u87 a_2u87 a_4u87 a_7u87 a_8u87 a_9u87 a_10u87 Zu87 hIu87 hFu87 u87_0 u87_1 u87_2 u87_3 u87_4  hmu87
                    unfold hA_findOrAdd_172_s
                    refine ok.ite (fun c88 => ?_) (fun c88 => ?_)
                    · skip
                      refine ok.ck (show 0 ≤ a_8u87.toInt ∧ a_8u87.toInt < ((1549 : Nat) : Int) from by omega) ?_
                      refine ok.wI (L := [1600]) hIu87 (show True from trivial) (show (1600 : Nat) ∈ [1600] from by decide) (by decide) (fun Z89 hIZ89 hFZ89 hkZ89 hoZ89 => ?_)
                      refine ok.ck (show 0 ≤ a_7u87.toInt ∧ a_7u87.toInt < ((512 : Nat) : Int) from by omega) ?_
                      refine ok.letE (v1 := (Zu87.1 9 (ix a_7u87))) (hFZ89.1 9 (ix a_7u87) (show (1800 : Nat) ∉ [1600] from by decide)) ?_
                      have g90 : -1 ≤ (Zu87.1 9 (ix a_7u87)).toInt ∧ (Zu87.1 9 (ix a_7u87)).toInt ≤ 1548 := hIu87.1 9 (ix a_7u87)
                      refine ok.ck (show 0 ≤ a_8u87.toInt ∧ a_8u87.toInt < ((1549 : Nat) : Int) from by omega) ?_
                      refine ok.wI (L := [2000]) hIZ89 (show -1 ≤ (Zu87.1 9 (ix a_7u87)).toInt ∧ (Zu87.1 9 (ix a_7u87)).toInt ≤ 1548 from by omega) (show (2000 : Nat) ∈ [2000] from by decide) (by decide) (fun Z91 hIZ91 hFZ91 hkZ91 hoZ91 => ?_)
                      refine ok.ck (show 0 ≤ a_7u87.toInt ∧ a_7u87.toInt < ((512 : Nat) : Int) from by omega) ?_
                      refine ok.wI (L := [1800]) hIZ91 (show -1 ≤ a_8u87.toInt ∧ a_8u87.toInt ≤ 1548 from by omega) (show (1800 : Nat) ∈ [1800] from by decide) (by decide) (fun Z92 hIZ92 hFZ92 hkZ92 hoZ92 => ?_)
                      exact ok.ret ⟨((((Fr.rf.tr hFu87 (fun _ q => q)).tr hFZ89 (by decide)).tr hFZ91 (by decide)).tr hFZ92 (by decide)), hIZ92⟩
                    · skip
                      refine ok.mul (show _ ≤ a_8u87.toInt * (5 : Int) ∧ a_8u87.toInt * (5 : Int) ≤ _ from by omega) (fun x19 hx19 => ?_)
                      have hx19 : x19.toInt = a_8u87.toInt * (5 : Int) := hx19
                      refine ok.add (show _ ≤ x19.toInt + a_10u87.toInt ∧ x19.toInt + a_10u87.toInt ≤ _ from by omega) (fun x20 hx20 => ?_)
                      have hx20 : x20.toInt = x19.toInt + a_10u87.toInt := hx20
                      refine ok.add (show _ ≤ a_4u87.toInt + a_10u87.toInt ∧ a_4u87.toInt + a_10u87.toInt ≤ _ from by omega) (fun x21 hx21 => ?_)
                      have hx21 : x21.toInt = a_4u87.toInt + a_10u87.toInt := hx21
                      refine ok.ck (show 0 ≤ x21.toInt ∧ x21.toInt < ((4 : Nat) : Int) from by omega) ?_
                      refine ok.letE (v1 := (X.1 11 (ix x21))) (hFu87.1 11 (ix x21) n2200_Qv0) ?_
                      refine ok.ck (show 0 ≤ x20.toInt ∧ x20.toInt < ((7745 : Nat) : Int) from by omega) ?_
                      refine ok.wI (L := [1200]) hIu87 (show True from trivial) (show (1200 : Nat) ∈ [1200] from by decide) (by decide) (fun Z93 hIZ93 hFZ93 hkZ93 hoZ93 => ?_)
                      refine ok.ite (fun c94 => ?_) (fun c94 => ?_)
                      · skip
                        have g95 := i32_le a_9u87
                        refine ok.add (show _ ≤ a_4u87.toInt + a_10u87.toInt ∧ a_4u87.toInt + a_10u87.toInt ≤ _ from by omega) (fun x25 hx25 => ?_)
                        have hx25 : x25.toInt = a_4u87.toInt + a_10u87.toInt := hx25
                        refine ok.ck (show 0 ≤ x25.toInt ∧ x25.toInt < ((4 : Nat) : Int) from by omega) ?_
                        refine ok.letE (v1 := (X.1 11 (ix x25))) ((hFZ93.1 11 (ix x25) (show (2200 : Nat) ∉ [1200] from by decide)).trans (hFu87.1 11 (ix x25) n2200_Qv0)) ?_
                        refine ok.bd (v_hA_hasAny hIZ93) ?_
                        rintro x27 _ rfl
                        refine ok.ite (fun c97 => ?_) (fun c97 => ?_)
                        · skip
                          have g98 := i32_le x27
                          unfold hA_findOrAdd_221
                          refine ok.inc (by decide) (show _ ≤ a_10u87.toInt + (1) ∧ a_10u87.toInt + (1) ≤ _ from by omega) (fun x24 hx24 => ?_)
                          have hx24 : x24.toInt = a_10u87.toInt + (1) := hx24
                          exact ih_u87 a_2u87 a_4u87 a_7u87 a_8u87 (0 : Int32) x24 Z93 hIZ93 ((Fr.rf.tr hFu87 (fun _ q => q)).tr hFZ93 (by decide)) (show 0 ≤ a_2u87.toInt ∧ a_2u87.toInt ≤ 4 from by omega) (show 0 ≤ a_4u87.toInt ∧ a_4u87.toInt + a_2u87.toInt ≤ 4 from by omega) (show 0 ≤ a_7u87.toInt ∧ a_7u87.toInt ≤ 511 from by omega) (show 0 ≤ a_8u87.toInt ∧ a_8u87.toInt ≤ 1548 from by omega) (show 0 ≤ x24.toInt ∧ x24.toInt ≤ 5 from by omega) (show (5 - x24.toInt).toNat < _ from by omega)
                        · skip
                          unfold hA_findOrAdd_216
                          unfold hA_findOrAdd_221
                          refine ok.inc (by decide) (show _ ≤ a_10u87.toInt + (1) ∧ a_10u87.toInt + (1) ≤ _ from by omega) (fun x24 hx24 => ?_)
                          have hx24 : x24.toInt = a_10u87.toInt + (1) := hx24
                          exact ih_u87 a_2u87 a_4u87 a_7u87 a_8u87 (1 : Int32) x24 Z93 hIZ93 ((Fr.rf.tr hFu87 (fun _ q => q)).tr hFZ93 (by decide)) (show 0 ≤ a_2u87.toInt ∧ a_2u87.toInt ≤ 4 from by omega) (show 0 ≤ a_4u87.toInt ∧ a_4u87.toInt + a_2u87.toInt ≤ 4 from by omega) (show 0 ≤ a_7u87.toInt ∧ a_7u87.toInt ≤ 511 from by omega) (show 0 ≤ a_8u87.toInt ∧ a_8u87.toInt ≤ 1548 from by omega) (show 0 ≤ x24.toInt ∧ x24.toInt ≤ 5 from by omega) (show (5 - x24.toInt).toNat < _ from by omega)
                      · skip
                        unfold hA_findOrAdd_216
                        unfold hA_findOrAdd_221
                        refine ok.inc (by decide) (show _ ≤ a_10u87.toInt + (1) ∧ a_10u87.toInt + (1) ≤ _ from by omega) (fun x24 hx24 => ?_)
                        have hx24 : x24.toInt = a_10u87.toInt + (1) := hx24
                        exact ih_u87 a_2u87 a_4u87 a_7u87 a_8u87 (1 : Int32) x24 Z93 hIZ93 ((Fr.rf.tr hFu87 (fun _ q => q)).tr hFZ93 (by decide)) (show 0 ≤ a_2u87.toInt ∧ a_2u87.toInt ≤ 4 from by omega) (show 0 ≤ a_4u87.toInt ∧ a_4u87.toInt + a_2u87.toInt ≤ 4 from by omega) (show 0 ≤ a_7u87.toInt ∧ a_7u87.toInt ≤ 511 from by omega) (show 0 ≤ a_8u87.toInt ∧ a_8u87.toInt ≤ 1548 from by omega) (show 0 ≤ x24.toInt ∧ x24.toInt ≤ 5 from by omega) (show (5 - x24.toInt).toNat < _ from by omega)
                exact lpu87 BIG a_2u3 a_4u3 a_7u3 (Zu3.1 3 0) (0 : Int32) (0 : Int32) Z72 hIZ72 ((((((Fr.rf.tr hFu3 (fun _ q => q)).tr hFZ68 (by decide)).tr hFZ69 (by decide)).tr hFZ70 (by decide)).tr hFZ71 (by decide)).tr hFZ72 (by decide)) (show 0 ≤ a_2u3.toInt ∧ a_2u3.toInt ≤ 4 from by omega) (show 0 ≤ a_4u3.toInt ∧ a_4u3.toInt + a_2u3.toInt ≤ 4 from by omega) (show 0 ≤ a_7u3.toInt ∧ a_7u3.toInt ≤ 511 from by omega) (show 0 ≤ (Zu3.1 3 0).toInt ∧ (Zu3.1 3 0).toInt ≤ 1548 from by omega) (show 0 ≤ (0 : Int) ∧ (0 : Int) ≤ 5 from by omega) (show (5 - (0 : Int)).toNat < BIG from ltBIG (show _ < 100000 from by omega))
              · skip
                refine ok.bd (v_hA_hasAny hIZ72) ?_
                rintro x29 _ rfl
                refine ok.ite (fun c100 => ?_) (fun c100 => ?_)
                · skip
                  have g101 := i32_le x29
                  unfold hA_findOrAdd_166
                  unfold hA_findOrAdd_167
                  have lpu102 : ∀ (n : Nat), ∀ (a_2u102 : Int32) (a_4u102 : Int32) (a_7u102 : Int32) (a_8u102 : Int32) (a_9u102 : Int32) (a_10u102 : Int32) (Zu102 : St), INV Zu102 → Fr YC Qv0 X Zu102 → (0 ≤ a_2u102.toInt ∧ a_2u102.toInt ≤ 4) → (0 ≤ a_4u102.toInt ∧ a_4u102.toInt + a_2u102.toInt ≤ 4) → (0 ≤ a_7u102.toInt ∧ a_7u102.toInt ≤ 511) → (0 ≤ a_8u102.toInt ∧ a_8u102.toInt ≤ 1548) → (0 ≤ a_10u102.toInt ∧ a_10u102.toInt ≤ 5) → (5 - a_10u102.toInt).toNat < n → ok (hA_findOrAdd_172 n a_2u102 11 a_4u102 a_7u102 a_8u102 a_9u102 a_10u102 Zu102) (fun r Y => (Fr YC Qv0 X Y ∧ INV Y)) := by
                    intro n
                    unfold hA_findOrAdd_172
                    refine lp_indN (P := fun (n : Nat) (r_u102 : Int32 → Nat → Int32 → Int32 → Int32 → Int32 → Int32 → St → Option (Int32 × St)) => ∀ (a_2u102 : Int32) (a_4u102 : Int32) (a_7u102 : Int32) (a_8u102 : Int32) (a_9u102 : Int32) (a_10u102 : Int32) (Zu102 : St), INV Zu102 → Fr YC Qv0 X Zu102 → (0 ≤ a_2u102.toInt ∧ a_2u102.toInt ≤ 4) → (0 ≤ a_4u102.toInt ∧ a_4u102.toInt + a_2u102.toInt ≤ 4) → (0 ≤ a_7u102.toInt ∧ a_7u102.toInt ≤ 511) → (0 ≤ a_8u102.toInt ∧ a_8u102.toInt ≤ 1548) → (0 ≤ a_10u102.toInt ∧ a_10u102.toInt ≤ 5) → (5 - a_10u102.toInt).toNat < n → ok (r_u102 a_2u102 11 a_4u102 a_7u102 a_8u102 a_9u102 a_10u102 Zu102) (fun r Y => (Fr YC Qv0 X Y ∧ INV Y))) ?_ ?_ n
                    · intro a_2u102 a_4u102 a_7u102 a_8u102 a_9u102 a_10u102 Zu102 hIu102 hFu102 u102_0 u102_1 u102_2 u102_3 u102_4  hm; exact absurd hm (Nat.not_lt_zero _)
                    · intro n r_u102 ih_u102 a_2u102 a_4u102 a_7u102 a_8u102 a_9u102 a_10u102 Zu102 hIu102 hFu102 u102_0 u102_1 u102_2 u102_3 u102_4  hmu102
                      unfold hA_findOrAdd_172_s
                      refine ok.ite (fun c103 => ?_) (fun c103 => ?_)
                      · skip
                        refine ok.ck (show 0 ≤ a_8u102.toInt ∧ a_8u102.toInt < ((1549 : Nat) : Int) from by omega) ?_
                        refine ok.wI (L := [1600]) hIu102 (show True from trivial) (show (1600 : Nat) ∈ [1600] from by decide) (by decide) (fun Z104 hIZ104 hFZ104 hkZ104 hoZ104 => ?_)
                        refine ok.ck (show 0 ≤ a_7u102.toInt ∧ a_7u102.toInt < ((512 : Nat) : Int) from by omega) ?_
                        refine ok.letE (v1 := (Zu102.1 9 (ix a_7u102))) (hFZ104.1 9 (ix a_7u102) (show (1800 : Nat) ∉ [1600] from by decide)) ?_
                        have g105 : -1 ≤ (Zu102.1 9 (ix a_7u102)).toInt ∧ (Zu102.1 9 (ix a_7u102)).toInt ≤ 1548 := hIu102.1 9 (ix a_7u102)
                        refine ok.ck (show 0 ≤ a_8u102.toInt ∧ a_8u102.toInt < ((1549 : Nat) : Int) from by omega) ?_
                        refine ok.wI (L := [2000]) hIZ104 (show -1 ≤ (Zu102.1 9 (ix a_7u102)).toInt ∧ (Zu102.1 9 (ix a_7u102)).toInt ≤ 1548 from by omega) (show (2000 : Nat) ∈ [2000] from by decide) (by decide) (fun Z106 hIZ106 hFZ106 hkZ106 hoZ106 => ?_)
                        refine ok.ck (show 0 ≤ a_7u102.toInt ∧ a_7u102.toInt < ((512 : Nat) : Int) from by omega) ?_
                        refine ok.wI (L := [1800]) hIZ106 (show -1 ≤ a_8u102.toInt ∧ a_8u102.toInt ≤ 1548 from by omega) (show (1800 : Nat) ∈ [1800] from by decide) (by decide) (fun Z107 hIZ107 hFZ107 hkZ107 hoZ107 => ?_)
                        exact ok.ret ⟨((((Fr.rf.tr hFu102 (fun _ q => q)).tr hFZ104 (by decide)).tr hFZ106 (by decide)).tr hFZ107 (by decide)), hIZ107⟩
                      · skip
                        refine ok.mul (show _ ≤ a_8u102.toInt * (5 : Int) ∧ a_8u102.toInt * (5 : Int) ≤ _ from by omega) (fun x19 hx19 => ?_)
                        have hx19 : x19.toInt = a_8u102.toInt * (5 : Int) := hx19
                        refine ok.add (show _ ≤ x19.toInt + a_10u102.toInt ∧ x19.toInt + a_10u102.toInt ≤ _ from by omega) (fun x20 hx20 => ?_)
                        have hx20 : x20.toInt = x19.toInt + a_10u102.toInt := hx20
                        refine ok.add (show _ ≤ a_4u102.toInt + a_10u102.toInt ∧ a_4u102.toInt + a_10u102.toInt ≤ _ from by omega) (fun x21 hx21 => ?_)
                        have hx21 : x21.toInt = a_4u102.toInt + a_10u102.toInt := hx21
                        refine ok.ck (show 0 ≤ x21.toInt ∧ x21.toInt < ((4 : Nat) : Int) from by omega) ?_
                        refine ok.letE (v1 := (X.1 11 (ix x21))) (hFu102.1 11 (ix x21) n2200_Qv0) ?_
                        refine ok.ck (show 0 ≤ x20.toInt ∧ x20.toInt < ((7745 : Nat) : Int) from by omega) ?_
                        refine ok.wI (L := [1200]) hIu102 (show True from trivial) (show (1200 : Nat) ∈ [1200] from by decide) (by decide) (fun Z108 hIZ108 hFZ108 hkZ108 hoZ108 => ?_)
                        refine ok.ite (fun c109 => ?_) (fun c109 => ?_)
                        · skip
                          have g110 := i32_le a_9u102
                          refine ok.add (show _ ≤ a_4u102.toInt + a_10u102.toInt ∧ a_4u102.toInt + a_10u102.toInt ≤ _ from by omega) (fun x25 hx25 => ?_)
                          have hx25 : x25.toInt = a_4u102.toInt + a_10u102.toInt := hx25
                          refine ok.ck (show 0 ≤ x25.toInt ∧ x25.toInt < ((4 : Nat) : Int) from by omega) ?_
                          refine ok.letE (v1 := (X.1 11 (ix x25))) ((hFZ108.1 11 (ix x25) (show (2200 : Nat) ∉ [1200] from by decide)).trans (hFu102.1 11 (ix x25) n2200_Qv0)) ?_
                          refine ok.bd (v_hA_hasAny hIZ108) ?_
                          rintro x27 _ rfl
                          refine ok.ite (fun c112 => ?_) (fun c112 => ?_)
                          · skip
                            have g113 := i32_le x27
                            unfold hA_findOrAdd_221
                            refine ok.inc (by decide) (show _ ≤ a_10u102.toInt + (1) ∧ a_10u102.toInt + (1) ≤ _ from by omega) (fun x24 hx24 => ?_)
                            have hx24 : x24.toInt = a_10u102.toInt + (1) := hx24
                            exact ih_u102 a_2u102 a_4u102 a_7u102 a_8u102 (0 : Int32) x24 Z108 hIZ108 ((Fr.rf.tr hFu102 (fun _ q => q)).tr hFZ108 (by decide)) (show 0 ≤ a_2u102.toInt ∧ a_2u102.toInt ≤ 4 from by omega) (show 0 ≤ a_4u102.toInt ∧ a_4u102.toInt + a_2u102.toInt ≤ 4 from by omega) (show 0 ≤ a_7u102.toInt ∧ a_7u102.toInt ≤ 511 from by omega) (show 0 ≤ a_8u102.toInt ∧ a_8u102.toInt ≤ 1548 from by omega) (show 0 ≤ x24.toInt ∧ x24.toInt ≤ 5 from by omega) (show (5 - x24.toInt).toNat < _ from by omega)
                          · skip
                            unfold hA_findOrAdd_216
                            unfold hA_findOrAdd_221
                            refine ok.inc (by decide) (show _ ≤ a_10u102.toInt + (1) ∧ a_10u102.toInt + (1) ≤ _ from by omega) (fun x24 hx24 => ?_)
                            have hx24 : x24.toInt = a_10u102.toInt + (1) := hx24
                            exact ih_u102 a_2u102 a_4u102 a_7u102 a_8u102 (1 : Int32) x24 Z108 hIZ108 ((Fr.rf.tr hFu102 (fun _ q => q)).tr hFZ108 (by decide)) (show 0 ≤ a_2u102.toInt ∧ a_2u102.toInt ≤ 4 from by omega) (show 0 ≤ a_4u102.toInt ∧ a_4u102.toInt + a_2u102.toInt ≤ 4 from by omega) (show 0 ≤ a_7u102.toInt ∧ a_7u102.toInt ≤ 511 from by omega) (show 0 ≤ a_8u102.toInt ∧ a_8u102.toInt ≤ 1548 from by omega) (show 0 ≤ x24.toInt ∧ x24.toInt ≤ 5 from by omega) (show (5 - x24.toInt).toNat < _ from by omega)
                        · skip
                          unfold hA_findOrAdd_216
                          unfold hA_findOrAdd_221
                          refine ok.inc (by decide) (show _ ≤ a_10u102.toInt + (1) ∧ a_10u102.toInt + (1) ≤ _ from by omega) (fun x24 hx24 => ?_)
                          have hx24 : x24.toInt = a_10u102.toInt + (1) := hx24
                          exact ih_u102 a_2u102 a_4u102 a_7u102 a_8u102 (1 : Int32) x24 Z108 hIZ108 ((Fr.rf.tr hFu102 (fun _ q => q)).tr hFZ108 (by decide)) (show 0 ≤ a_2u102.toInt ∧ a_2u102.toInt ≤ 4 from by omega) (show 0 ≤ a_4u102.toInt ∧ a_4u102.toInt + a_2u102.toInt ≤ 4 from by omega) (show 0 ≤ a_7u102.toInt ∧ a_7u102.toInt ≤ 511 from by omega) (show 0 ≤ a_8u102.toInt ∧ a_8u102.toInt ≤ 1548 from by omega) (show 0 ≤ x24.toInt ∧ x24.toInt ≤ 5 from by omega) (show (5 - x24.toInt).toNat < _ from by omega)
                  exact lpu102 BIG a_2u3 a_4u3 a_7u3 (Zu3.1 3 0) (0 : Int32) (0 : Int32) Z72 hIZ72 ((((((Fr.rf.tr hFu3 (fun _ q => q)).tr hFZ68 (by decide)).tr hFZ69 (by decide)).tr hFZ70 (by decide)).tr hFZ71 (by decide)).tr hFZ72 (by decide)) (show 0 ≤ a_2u3.toInt ∧ a_2u3.toInt ≤ 4 from by omega) (show 0 ≤ a_4u3.toInt ∧ a_4u3.toInt + a_2u3.toInt ≤ 4 from by omega) (show 0 ≤ a_7u3.toInt ∧ a_7u3.toInt ≤ 511 from by omega) (show 0 ≤ (Zu3.1 3 0).toInt ∧ (Zu3.1 3 0).toInt ≤ 1548 from by omega) (show 0 ≤ (0 : Int) ∧ (0 : Int) ≤ 5 from by omega) (show (5 - (0 : Int)).toNat < BIG from ltBIG (show _ < 100000 from by omega))
                · skip
                  unfold hA_findOrAdd_162
                  unfold hA_findOrAdd_167
                  have lpu114 : ∀ (n : Nat), ∀ (a_2u114 : Int32) (a_4u114 : Int32) (a_7u114 : Int32) (a_8u114 : Int32) (a_9u114 : Int32) (a_10u114 : Int32) (Zu114 : St), INV Zu114 → Fr YC Qv0 X Zu114 → (0 ≤ a_2u114.toInt ∧ a_2u114.toInt ≤ 4) → (0 ≤ a_4u114.toInt ∧ a_4u114.toInt + a_2u114.toInt ≤ 4) → (0 ≤ a_7u114.toInt ∧ a_7u114.toInt ≤ 511) → (0 ≤ a_8u114.toInt ∧ a_8u114.toInt ≤ 1548) → (0 ≤ a_10u114.toInt ∧ a_10u114.toInt ≤ 5) → (5 - a_10u114.toInt).toNat < n → ok (hA_findOrAdd_172 n a_2u114 11 a_4u114 a_7u114 a_8u114 a_9u114 a_10u114 Zu114) (fun r Y => (Fr YC Qv0 X Y ∧ INV Y)) := by
                    intro n
                    unfold hA_findOrAdd_172
                    refine lp_indN (P := fun (n : Nat) (r_u114 : Int32 → Nat → Int32 → Int32 → Int32 → Int32 → Int32 → St → Option (Int32 × St)) => ∀ (a_2u114 : Int32) (a_4u114 : Int32) (a_7u114 : Int32) (a_8u114 : Int32) (a_9u114 : Int32) (a_10u114 : Int32) (Zu114 : St), INV Zu114 → Fr YC Qv0 X Zu114 → (0 ≤ a_2u114.toInt ∧ a_2u114.toInt ≤ 4) → (0 ≤ a_4u114.toInt ∧ a_4u114.toInt + a_2u114.toInt ≤ 4) → (0 ≤ a_7u114.toInt ∧ a_7u114.toInt ≤ 511) → (0 ≤ a_8u114.toInt ∧ a_8u114.toInt ≤ 1548) → (0 ≤ a_10u114.toInt ∧ a_10u114.toInt ≤ 5) → (5 - a_10u114.toInt).toNat < n → ok (r_u114 a_2u114 11 a_4u114 a_7u114 a_8u114 a_9u114 a_10u114 Zu114) (fun r Y => (Fr YC Qv0 X Y ∧ INV Y))) ?_ ?_ n
                    · intro a_2u114 a_4u114 a_7u114 a_8u114 a_9u114 a_10u114 Zu114 hIu114 hFu114 u114_0 u114_1 u114_2 u114_3 u114_4  hm; exact absurd hm (Nat.not_lt_zero _)
                    · intro n r_u114 ih_u114 a_2u114 a_4u114 a_7u114 a_8u114 a_9u114 a_10u114 Zu114 hIu114 hFu114 u114_0 u114_1 u114_2 u114_3 u114_4  hmu114
                      unfold hA_findOrAdd_172_s
                      refine ok.ite (fun c115 => ?_) (fun c115 => ?_)
                      · skip
                        refine ok.ck (show 0 ≤ a_8u114.toInt ∧ a_8u114.toInt < ((1549 : Nat) : Int) from by omega) ?_
                        refine ok.wI (L := [1600]) hIu114 (show True from trivial) (show (1600 : Nat) ∈ [1600] from by decide) (by decide) (fun Z116 hIZ116 hFZ116 hkZ116 hoZ116 => ?_)
                        refine ok.ck (show 0 ≤ a_7u114.toInt ∧ a_7u114.toInt < ((512 : Nat) : Int) from by omega) ?_
                        refine ok.letE (v1 := (Zu114.1 9 (ix a_7u114))) (hFZ116.1 9 (ix a_7u114) (show (1800 : Nat) ∉ [1600] from by decide)) ?_
                        have g117 : -1 ≤ (Zu114.1 9 (ix a_7u114)).toInt ∧ (Zu114.1 9 (ix a_7u114)).toInt ≤ 1548 := hIu114.1 9 (ix a_7u114)
                        refine ok.ck (show 0 ≤ a_8u114.toInt ∧ a_8u114.toInt < ((1549 : Nat) : Int) from by omega) ?_
                        refine ok.wI (L := [2000]) hIZ116 (show -1 ≤ (Zu114.1 9 (ix a_7u114)).toInt ∧ (Zu114.1 9 (ix a_7u114)).toInt ≤ 1548 from by omega) (show (2000 : Nat) ∈ [2000] from by decide) (by decide) (fun Z118 hIZ118 hFZ118 hkZ118 hoZ118 => ?_)
                        refine ok.ck (show 0 ≤ a_7u114.toInt ∧ a_7u114.toInt < ((512 : Nat) : Int) from by omega) ?_
                        refine ok.wI (L := [1800]) hIZ118 (show -1 ≤ a_8u114.toInt ∧ a_8u114.toInt ≤ 1548 from by omega) (show (1800 : Nat) ∈ [1800] from by decide) (by decide) (fun Z119 hIZ119 hFZ119 hkZ119 hoZ119 => ?_)
                        exact ok.ret ⟨((((Fr.rf.tr hFu114 (fun _ q => q)).tr hFZ116 (by decide)).tr hFZ118 (by decide)).tr hFZ119 (by decide)), hIZ119⟩
                      · skip
                        refine ok.mul (show _ ≤ a_8u114.toInt * (5 : Int) ∧ a_8u114.toInt * (5 : Int) ≤ _ from by omega) (fun x19 hx19 => ?_)
                        have hx19 : x19.toInt = a_8u114.toInt * (5 : Int) := hx19
                        refine ok.add (show _ ≤ x19.toInt + a_10u114.toInt ∧ x19.toInt + a_10u114.toInt ≤ _ from by omega) (fun x20 hx20 => ?_)
                        have hx20 : x20.toInt = x19.toInt + a_10u114.toInt := hx20
                        refine ok.add (show _ ≤ a_4u114.toInt + a_10u114.toInt ∧ a_4u114.toInt + a_10u114.toInt ≤ _ from by omega) (fun x21 hx21 => ?_)
                        have hx21 : x21.toInt = a_4u114.toInt + a_10u114.toInt := hx21
                        refine ok.ck (show 0 ≤ x21.toInt ∧ x21.toInt < ((4 : Nat) : Int) from by omega) ?_
                        refine ok.letE (v1 := (X.1 11 (ix x21))) (hFu114.1 11 (ix x21) n2200_Qv0) ?_
                        refine ok.ck (show 0 ≤ x20.toInt ∧ x20.toInt < ((7745 : Nat) : Int) from by omega) ?_
                        refine ok.wI (L := [1200]) hIu114 (show True from trivial) (show (1200 : Nat) ∈ [1200] from by decide) (by decide) (fun Z120 hIZ120 hFZ120 hkZ120 hoZ120 => ?_)
                        refine ok.ite (fun c121 => ?_) (fun c121 => ?_)
                        · skip
                          have g122 := i32_le a_9u114
                          refine ok.add (show _ ≤ a_4u114.toInt + a_10u114.toInt ∧ a_4u114.toInt + a_10u114.toInt ≤ _ from by omega) (fun x25 hx25 => ?_)
                          have hx25 : x25.toInt = a_4u114.toInt + a_10u114.toInt := hx25
                          refine ok.ck (show 0 ≤ x25.toInt ∧ x25.toInt < ((4 : Nat) : Int) from by omega) ?_
                          refine ok.letE (v1 := (X.1 11 (ix x25))) ((hFZ120.1 11 (ix x25) (show (2200 : Nat) ∉ [1200] from by decide)).trans (hFu114.1 11 (ix x25) n2200_Qv0)) ?_
                          refine ok.bd (v_hA_hasAny hIZ120) ?_
                          rintro x27 _ rfl
                          refine ok.ite (fun c124 => ?_) (fun c124 => ?_)
                          · skip
                            have g125 := i32_le x27
                            unfold hA_findOrAdd_221
                            refine ok.inc (by decide) (show _ ≤ a_10u114.toInt + (1) ∧ a_10u114.toInt + (1) ≤ _ from by omega) (fun x24 hx24 => ?_)
                            have hx24 : x24.toInt = a_10u114.toInt + (1) := hx24
                            exact ih_u114 a_2u114 a_4u114 a_7u114 a_8u114 (0 : Int32) x24 Z120 hIZ120 ((Fr.rf.tr hFu114 (fun _ q => q)).tr hFZ120 (by decide)) (show 0 ≤ a_2u114.toInt ∧ a_2u114.toInt ≤ 4 from by omega) (show 0 ≤ a_4u114.toInt ∧ a_4u114.toInt + a_2u114.toInt ≤ 4 from by omega) (show 0 ≤ a_7u114.toInt ∧ a_7u114.toInt ≤ 511 from by omega) (show 0 ≤ a_8u114.toInt ∧ a_8u114.toInt ≤ 1548 from by omega) (show 0 ≤ x24.toInt ∧ x24.toInt ≤ 5 from by omega) (show (5 - x24.toInt).toNat < _ from by omega)
                          · skip
                            unfold hA_findOrAdd_216
                            unfold hA_findOrAdd_221
                            refine ok.inc (by decide) (show _ ≤ a_10u114.toInt + (1) ∧ a_10u114.toInt + (1) ≤ _ from by omega) (fun x24 hx24 => ?_)
                            have hx24 : x24.toInt = a_10u114.toInt + (1) := hx24
                            exact ih_u114 a_2u114 a_4u114 a_7u114 a_8u114 (1 : Int32) x24 Z120 hIZ120 ((Fr.rf.tr hFu114 (fun _ q => q)).tr hFZ120 (by decide)) (show 0 ≤ a_2u114.toInt ∧ a_2u114.toInt ≤ 4 from by omega) (show 0 ≤ a_4u114.toInt ∧ a_4u114.toInt + a_2u114.toInt ≤ 4 from by omega) (show 0 ≤ a_7u114.toInt ∧ a_7u114.toInt ≤ 511 from by omega) (show 0 ≤ a_8u114.toInt ∧ a_8u114.toInt ≤ 1548 from by omega) (show 0 ≤ x24.toInt ∧ x24.toInt ≤ 5 from by omega) (show (5 - x24.toInt).toNat < _ from by omega)
                        · skip
                          unfold hA_findOrAdd_216
                          unfold hA_findOrAdd_221
                          refine ok.inc (by decide) (show _ ≤ a_10u114.toInt + (1) ∧ a_10u114.toInt + (1) ≤ _ from by omega) (fun x24 hx24 => ?_)
                          have hx24 : x24.toInt = a_10u114.toInt + (1) := hx24
                          exact ih_u114 a_2u114 a_4u114 a_7u114 a_8u114 (1 : Int32) x24 Z120 hIZ120 ((Fr.rf.tr hFu114 (fun _ q => q)).tr hFZ120 (by decide)) (show 0 ≤ a_2u114.toInt ∧ a_2u114.toInt ≤ 4 from by omega) (show 0 ≤ a_4u114.toInt ∧ a_4u114.toInt + a_2u114.toInt ≤ 4 from by omega) (show 0 ≤ a_7u114.toInt ∧ a_7u114.toInt ≤ 511 from by omega) (show 0 ≤ a_8u114.toInt ∧ a_8u114.toInt ≤ 1548 from by omega) (show 0 ≤ x24.toInt ∧ x24.toInt ≤ 5 from by omega) (show (5 - x24.toInt).toNat < _ from by omega)
                  exact lpu114 BIG a_2u3 a_4u3 a_7u3 (Zu3.1 3 0) (1 : Int32) (0 : Int32) Z72 hIZ72 ((((((Fr.rf.tr hFu3 (fun _ q => q)).tr hFZ68 (by decide)).tr hFZ69 (by decide)).tr hFZ70 (by decide)).tr hFZ71 (by decide)).tr hFZ72 (by decide)) (show 0 ≤ a_2u3.toInt ∧ a_2u3.toInt ≤ 4 from by omega) (show 0 ≤ a_4u3.toInt ∧ a_4u3.toInt + a_2u3.toInt ≤ 4 from by omega) (show 0 ≤ a_7u3.toInt ∧ a_7u3.toInt ≤ 511 from by omega) (show 0 ≤ (Zu3.1 3 0).toInt ∧ (Zu3.1 3 0).toInt ≤ 1548 from by omega) (show 0 ≤ (0 : Int) ∧ (0 : Int) ≤ 5 from by omega) (show (5 - (0 : Int)).toNat < BIG from ltBIG (show _ < 100000 from by omega))
          · skip
            exact ok.ret ⟨(Fr.rf.tr hFu3 (fun _ q => q)), hIu3⟩
        · skip
          refine ok.ck (show 0 ≤ a_8u3.toInt ∧ a_8u3.toInt < ((1549 : Nat) : Int) from by omega) ?_
          refine ok.letE (v1 := (Zu3.1 4 (ix a_8u3))) rfl ?_
          refine ok.ite (fun c126 => ?_) (fun c126 => ?_)
          · skip
            have g127 := i32_le (Zu3.1 4 (ix a_8u3))
            refine ok.bd (v_hA_isSame_11 hIu3 (show 0 ≤ a_8u3.toInt ∧ a_8u3.toInt ≤ 1548 from by omega) (show 0 ≤ a_2u3.toInt ∧ a_2u3.toInt ≤ 4 from by omega) (show 0 ≤ a_4u3.toInt ∧ a_4u3.toInt + a_2u3.toInt ≤ 4 from by omega)) ?_
            rintro x34 _ rfl
            refine ok.ite (fun c129 => ?_) (fun c129 => ?_)
            · skip
              have g130 := i32_le x34
              unfold hA_findOrAdd_62
              refine ok.ck (show 0 ≤ a_8u3.toInt ∧ a_8u3.toInt < ((1549 : Nat) : Int) from by omega) ?_
              refine ok.letE (v1 := (Zu3.1 10 (ix a_8u3))) rfl ?_
              have g131 : -1 ≤ (Zu3.1 10 (ix a_8u3)).toInt ∧ (Zu3.1 10 (ix a_8u3)).toInt ≤ 1548 := hIu3.1 10 (ix a_8u3)
              refine ok.inc (by decide) (show _ ≤ a_9u3.toInt + (1) ∧ a_9u3.toInt + (1) ≤ _ from by omega) (fun x33 hx33 => ?_)
              have hx33 : x33.toInt = a_9u3.toInt + (1) := hx33
              exact ih_u3 a_1u3 a_2u3 a_4u3 a_5u3 a_6u3 a_7u3 (Zu3.1 10 (ix a_8u3)) x33 Zu3 hIu3 (Fr.rf.tr hFu3 (fun _ q => q)) (show 0 ≤ a_1u3.toInt ∧ a_1u3.toInt ≤ 4 from by omega) (show 0 ≤ a_2u3.toInt ∧ a_2u3.toInt ≤ 4 from by omega) (show 0 ≤ a_4u3.toInt ∧ a_4u3.toInt + a_2u3.toInt ≤ 4 from by omega) (show 0 ≤ a_7u3.toInt ∧ a_7u3.toInt ≤ 511 from by omega) (show -1 ≤ (Zu3.1 10 (ix a_8u3)).toInt ∧ (Zu3.1 10 (ix a_8u3)).toInt ≤ 1548 from by omega) (show 0 ≤ x33.toInt ∧ x33.toInt ≤ 1549 from by omega) (show (1550 - x33.toInt).toNat < _ from by omega)
            · skip
              exact ok.ret ⟨(Fr.rf.tr hFu3 (fun _ q => q)), hIu3⟩
          · skip
            unfold hA_findOrAdd_62
            refine ok.ck (show 0 ≤ a_8u3.toInt ∧ a_8u3.toInt < ((1549 : Nat) : Int) from by omega) ?_
            refine ok.letE (v1 := (Zu3.1 10 (ix a_8u3))) rfl ?_
            have g132 : -1 ≤ (Zu3.1 10 (ix a_8u3)).toInt ∧ (Zu3.1 10 (ix a_8u3)).toInt ≤ 1548 := hIu3.1 10 (ix a_8u3)
            refine ok.inc (by decide) (show _ ≤ a_9u3.toInt + (1) ∧ a_9u3.toInt + (1) ≤ _ from by omega) (fun x33 hx33 => ?_)
            have hx33 : x33.toInt = a_9u3.toInt + (1) := hx33
            exact ih_u3 a_1u3 a_2u3 a_4u3 a_5u3 a_6u3 a_7u3 (Zu3.1 10 (ix a_8u3)) x33 Zu3 hIu3 (Fr.rf.tr hFu3 (fun _ q => q)) (show 0 ≤ a_1u3.toInt ∧ a_1u3.toInt ≤ 4 from by omega) (show 0 ≤ a_2u3.toInt ∧ a_2u3.toInt ≤ 4 from by omega) (show 0 ≤ a_4u3.toInt ∧ a_4u3.toInt + a_2u3.toInt ≤ 4 from by omega) (show 0 ≤ a_7u3.toInt ∧ a_7u3.toInt ≤ 511 from by omega) (show -1 ≤ (Zu3.1 10 (ix a_8u3)).toInt ∧ (Zu3.1 10 (ix a_8u3)).toInt ≤ 1548 from by omega) (show 0 ≤ x33.toInt ∧ x33.toInt ≤ 1549 from by omega) (show (1550 - x33.toInt).toNat < _ from by omega)
  exact lpu3 BIG p1 p2 p4 p5 p6 x1 (X.1 9 (ix x1)) (0 : Int32) X hI (Fr.rf : Fr YC Qv0 _ _) (show 0 ≤ p1.toInt ∧ p1.toInt ≤ 4 from by omega) (show 0 ≤ p2.toInt ∧ p2.toInt ≤ 4 from by omega) (show 0 ≤ p4.toInt ∧ p4.toInt + p2.toInt ≤ 4 from by omega) (show 0 ≤ x1.toInt ∧ x1.toInt ≤ 511 from by omega) (show -1 ≤ (X.1 9 (ix x1)).toInt ∧ (X.1 9 (ix x1)).toInt ≤ 1548 from by omega) (show 0 ≤ (0 : Int) ∧ (0 : Int) ≤ 1549 from by omega) (show (1550 - (0 : Int)).toNat < BIG from ltBIG (show _ < 100000 from by omega))
theorem nr_hA_bucketOf {φ : Nat → Nat → Nat} {p0 : Int32} {X : St} (h : X.2.2 = φ) : nr φ (hA_bucketOf p0 X) := by
  unfold hA_bucketOf
  refine nr.lv (fun x1 => ?_)
  refine nr.lv (fun x2 => ?_)
  refine nr.lv (fun x3 => ?_)
  refine nr.lv (fun x4 => ?_)
  refine nr.lv (fun x5 => ?_)
  exact nr.ret h
theorem nr_hA_hasAny {φ : Nat → Nat → Nat} {p1 : Int32} {X : St} (h : X.2.2 = φ) : nr φ (hA_hasAny p1 X) := by
  unfold hA_hasAny
  refine nr.ite ?_ ?_
  · exact nr.ret h
  · refine nr.lv (fun x1 => ?_)
    refine nr.ite ?_ ?_
    · exact nr.ret h
    · refine nr.ck ?_
      refine nr.lv (fun x2 => ?_)
      refine nr.ite ?_ ?_
      · exact nr.ret h
      · exact nr.ret h
theorem nr_hA_findOrAdd_221 {φ : Nat → Nat → Nat} {r172 : Int32 → Nat → Int32 → Int32 → Int32 → Int32 → Int32 → St → Option (Int32 × St)} {a_2 : Int32} {e_3 : Nat} {a_4 : Int32} {a_7 : Int32} {a_8 : Int32} {a_10 : Int32} {b_0 : Int32} {X : St} (hr172 : ∀ (q0 : Int32) (q1 : Nat) (q2 : Int32) (q3 : Int32) (q4 : Int32) (q5 : Int32) (q6 : Int32) (X : St), X.2.2 = φ → nr φ (r172 q0 q1 q2 q3 q4 q5 q6 X)) (h : X.2.2 = φ) : nr φ (hA_findOrAdd_221 r172 a_2 e_3 a_4 a_7 a_8 a_10 b_0 X) := by
  unfold hA_findOrAdd_221
  refine nr.lv (fun x24 => ?_)
  exact hr172 _ _ _ _ _ _ _ _ h
theorem nr_hA_findOrAdd_216 {φ : Nat → Nat → Nat} {r172 : Int32 → Nat → Int32 → Int32 → Int32 → Int32 → Int32 → St → Option (Int32 × St)} {a_2 : Int32} {e_3 : Nat} {a_4 : Int32} {a_7 : Int32} {a_8 : Int32} {a_10 : Int32} {X : St} (hr172 : ∀ (q0 : Int32) (q1 : Nat) (q2 : Int32) (q3 : Int32) (q4 : Int32) (q5 : Int32) (q6 : Int32) (X : St), X.2.2 = φ → nr φ (r172 q0 q1 q2 q3 q4 q5 q6 X)) (h : X.2.2 = φ) : nr φ (hA_findOrAdd_216 r172 a_2 e_3 a_4 a_7 a_8 a_10 X) := by
  unfold hA_findOrAdd_216
  exact nr_hA_findOrAdd_221 hr172 h
theorem nr_hA_findOrAdd_172 {φ : Nat → Nat → Nat} {n : Nat} {a_2 : Int32} {e_3 : Nat} {a_4 : Int32} {a_7 : Int32} {a_8 : Int32} {a_9 : Int32} {a_10 : Int32} {X : St} (h : X.2.2 = φ) : nr φ (hA_findOrAdd_172 n a_2 e_3 a_4 a_7 a_8 a_9 a_10 X) := by
  unfold hA_findOrAdd_172
  refine lp_ind (P := fun (r : Int32 → Nat → Int32 → Int32 → Int32 → Int32 → Int32 → St → Option (Int32 × St)) => ∀ (a_2 : Int32) (e_3 : Nat) (a_4 : Int32) (a_7 : Int32) (a_8 : Int32) (a_9 : Int32) (a_10 : Int32) (X : St), X.2.2 = φ → nr φ (r a_2 e_3 a_4 a_7 a_8 a_9 a_10 X)) ?_ ?_ n a_2 e_3 a_4 a_7 a_8 a_9 a_10 X h
  · intro a_2 e_3 a_4 a_7 a_8 a_9 a_10 X h
    exact nr.none
  · intro r172 hr172 a_2 e_3 a_4 a_7 a_8 a_9 a_10 X h
    unfold hA_findOrAdd_172_s
    refine nr.ite ?_ ?_
    · refine nr.ck ?_
      refine nr.wI h (fun X15 hX15 => ?_)
      refine nr.ck ?_
      refine nr.lv (fun x16 => ?_)
      refine nr.ck ?_
      refine nr.wI hX15 (fun X17 hX17 => ?_)
      refine nr.ck ?_
      refine nr.wI hX17 (fun X18 hX18 => ?_)
      exact nr.ret hX18
    · refine nr.lv (fun x19 => ?_)
      refine nr.lv (fun x20 => ?_)
      refine nr.lv (fun x21 => ?_)
      refine nr.ck ?_
      refine nr.lv (fun x22 => ?_)
      refine nr.ck ?_
      refine nr.wI h (fun X23 hX23 => ?_)
      refine nr.ite ?_ ?_
      · refine nr.lv (fun x25 => ?_)
        refine nr.ck ?_
        refine nr.lv (fun x26 => ?_)
        refine nr.bd (nr_hA_hasAny hX23) (fun x27 X28 hX28 => ?_)
        refine nr.ite ?_ ?_
        · exact nr_hA_findOrAdd_221 hr172 hX28
        · exact nr_hA_findOrAdd_216 hr172 hX28
      · exact nr_hA_findOrAdd_216 hr172 hX23
theorem nr_hA_findOrAdd_167 {φ : Nat → Nat → Nat} {a_2 : Int32} {e_3 : Nat} {a_4 : Int32} {a_7 : Int32} {a_8 : Int32} {b_0 : Int32} {X : St} (h : X.2.2 = φ) : nr φ (hA_findOrAdd_167 a_2 e_3 a_4 a_7 a_8 b_0 X) := by
  unfold hA_findOrAdd_167
  exact nr_hA_findOrAdd_172 h
theorem nr_hA_findOrAdd_162 {φ : Nat → Nat → Nat} {a_2 : Int32} {e_3 : Nat} {a_4 : Int32} {a_7 : Int32} {a_8 : Int32} {X : St} (h : X.2.2 = φ) : nr φ (hA_findOrAdd_162 a_2 e_3 a_4 a_7 a_8 X) := by
  unfold hA_findOrAdd_162
  exact nr_hA_findOrAdd_167 h
theorem nr_hA_findOrAdd_166 {φ : Nat → Nat → Nat} {a_2 : Int32} {e_3 : Nat} {a_4 : Int32} {a_7 : Int32} {a_8 : Int32} {X : St} (h : X.2.2 = φ) : nr φ (hA_findOrAdd_166 a_2 e_3 a_4 a_7 a_8 X) := by
  unfold hA_findOrAdd_166
  exact nr_hA_findOrAdd_167 h
theorem nr_hA_findOrAdd_77 {φ : Nat → Nat → Nat} {a_1 : Int32} {a_2 : Int32} {e_3 : Nat} {a_4 : Int32} {a_5 : Int32} {a_6 : Int32} {a_7 : Int32} {X : St} (h : X.2.2 = φ) : nr φ (hA_findOrAdd_77 a_1 a_2 e_3 a_4 a_5 a_6 a_7 X) := by
  unfold hA_findOrAdd_77
  refine nr.lv (fun x4 => ?_)
  refine nr.ite ?_ ?_
  · refine nr.lv (fun x5 => ?_)
    refine nr.lv (fun x6 => ?_)
    refine nr.lv (fun x7 => ?_)
    refine nr.wI h (fun X8 hX8 => ?_)
    refine nr.ck ?_
    refine nr.wI hX8 (fun X9 hX9 => ?_)
    refine nr.ck ?_
    refine nr.wI hX9 (fun X10 hX10 => ?_)
    refine nr.ck ?_
    refine nr.wI hX10 (fun X11 hX11 => ?_)
    refine nr.lv (fun x12 => ?_)
    refine nr.lv (fun x13 => ?_)
    refine nr.ck ?_
    refine nr.wI hX11 (fun X14 hX14 => ?_)
    refine nr.ite ?_ ?_
    · exact nr_hA_findOrAdd_162 hX14
    · refine nr.ite ?_ ?_
      · exact nr_hA_findOrAdd_166 hX14
      · refine nr.bd (nr_hA_hasAny hX14) (fun x29 X30 hX30 => ?_)
        refine nr.ite ?_ ?_
        · exact nr_hA_findOrAdd_166 hX30
        · exact nr_hA_findOrAdd_162 hX30
  · exact nr.ret h
theorem nr_hA_isSame_30 {φ : Nat → Nat → Nat} {n : Nat} {a_1 : Int32} {a_2 : Int32} {e_3 : Nat} {a_4 : Int32} {a_6 : Int32} {X : St} (h : X.2.2 = φ) : nr φ (hA_isSame_30 n a_1 a_2 e_3 a_4 a_6 X) := by
  unfold hA_isSame_30
  refine lp_ind (P := fun (r : Int32 → Int32 → Nat → Int32 → Int32 → St → Option (Int32 × St)) => ∀ (a_1 : Int32) (a_2 : Int32) (e_3 : Nat) (a_4 : Int32) (a_6 : Int32) (X : St), X.2.2 = φ → nr φ (r a_1 a_2 e_3 a_4 a_6 X)) ?_ ?_ n a_1 a_2 e_3 a_4 a_6 X h
  · intro a_1 a_2 e_3 a_4 a_6 X h
    exact nr.none
  · intro r30 hr30 a_1 a_2 e_3 a_4 a_6 X h
    unfold hA_isSame_30_s
    refine nr.ite ?_ ?_
    · exact nr.ret h
    · refine nr.lv (fun x5 => ?_)
      refine nr.lv (fun x6 => ?_)
      refine nr.ck ?_
      refine nr.lv (fun x7 => ?_)
      refine nr.lv (fun x8 => ?_)
      refine nr.ck ?_
      refine nr.lv (fun x9 => ?_)
      refine nr.ite ?_ ?_
      · refine nr.lv (fun x10 => ?_)
        exact hr30 _ _ _ _ _ _ h
      · exact nr.ret h
theorem nr_hA_isSame {φ : Nat → Nat → Nat} {p1 : Int32} {p2 : Int32} {o3 : Nat} {p4 : Int32} {p5 : Int32} {X : St} (h : X.2.2 = φ) : nr φ (hA_isSame p1 p2 o3 p4 p5 X) := by
  unfold hA_isSame
  refine nr.ck ?_
  refine nr.lv (fun x1 => ?_)
  refine nr.ite ?_ ?_
  · refine nr.lv (fun x2 => ?_)
    refine nr.lv (fun x3 => ?_)
    refine nr.ck ?_
    refine nr.lv (fun x4 => ?_)
    refine nr.ite ?_ ?_
    · exact nr_hA_isSame_30 h
    · exact nr.ret h
  · exact nr.ret h
theorem nr_hA_findOrAdd_62 {φ : Nat → Nat → Nat} {r19 : Int32 → Int32 → Nat → Int32 → Int32 → Int32 → Int32 → Int32 → Int32 → St → Option (Int32 × St)} {a_1 : Int32} {a_2 : Int32} {e_3 : Nat} {a_4 : Int32} {a_5 : Int32} {a_6 : Int32} {a_7 : Int32} {a_8 : Int32} {a_9 : Int32} {X : St} (hr19 : ∀ (q0 : Int32) (q1 : Int32) (q2 : Nat) (q3 : Int32) (q4 : Int32) (q5 : Int32) (q6 : Int32) (q7 : Int32) (q8 : Int32) (X : St), X.2.2 = φ → nr φ (r19 q0 q1 q2 q3 q4 q5 q6 q7 q8 X)) (h : X.2.2 = φ) : nr φ (hA_findOrAdd_62 r19 a_1 a_2 e_3 a_4 a_5 a_6 a_7 a_8 a_9 X) := by
  unfold hA_findOrAdd_62
  refine nr.ck ?_
  refine nr.lv (fun x32 => ?_)
  refine nr.lv (fun x33 => ?_)
  exact hr19 _ _ _ _ _ _ _ _ _ _ h
theorem nr_hA_findOrAdd_19 {φ : Nat → Nat → Nat} {n : Nat} {a_1 : Int32} {a_2 : Int32} {e_3 : Nat} {a_4 : Int32} {a_5 : Int32} {a_6 : Int32} {a_7 : Int32} {a_8 : Int32} {a_9 : Int32} {X : St} (h : X.2.2 = φ) : nr φ (hA_findOrAdd_19 n a_1 a_2 e_3 a_4 a_5 a_6 a_7 a_8 a_9 X) := by
  unfold hA_findOrAdd_19
  refine lp_ind (P := fun (r : Int32 → Int32 → Nat → Int32 → Int32 → Int32 → Int32 → Int32 → Int32 → St → Option (Int32 × St)) => ∀ (a_1 : Int32) (a_2 : Int32) (e_3 : Nat) (a_4 : Int32) (a_5 : Int32) (a_6 : Int32) (a_7 : Int32) (a_8 : Int32) (a_9 : Int32) (X : St), X.2.2 = φ → nr φ (r a_1 a_2 e_3 a_4 a_5 a_6 a_7 a_8 a_9 X)) ?_ ?_ n a_1 a_2 e_3 a_4 a_5 a_6 a_7 a_8 a_9 X h
  · intro a_1 a_2 e_3 a_4 a_5 a_6 a_7 a_8 a_9 X h
    exact nr.none
  · intro r19 hr19 a_1 a_2 e_3 a_4 a_5 a_6 a_7 a_8 a_9 X h
    unfold hA_findOrAdd_19_s
    refine nr.ite ?_ ?_
    · exact nr_hA_findOrAdd_77 h
    · refine nr.ite ?_ ?_
      · exact nr_hA_findOrAdd_77 h
      · refine nr.ck ?_
        refine nr.lv (fun x31 => ?_)
        refine nr.ite ?_ ?_
        · refine nr.bd (nr_hA_isSame h) (fun x34 X35 hX35 => ?_)
          refine nr.ite ?_ ?_
          · exact nr_hA_findOrAdd_62 hr19 hX35
          · exact nr.ret hX35
        · exact nr_hA_findOrAdd_62 hr19 h
theorem nr_hA_findOrAdd {φ : Nat → Nat → Nat} {p1 : Int32} {p2 : Int32} {o3 : Nat} {p4 : Int32} {p5 : Int32} {p6 : Int32} {X : St} (h : X.2.2 = φ) : nr φ (hA_findOrAdd p1 p2 o3 p4 p5 p6 X) := by
  unfold hA_findOrAdd
  refine nr.bd (nr_hA_bucketOf h) (fun x1 X2 hX2 => ?_)
  refine nr.ck ?_
  refine nr.lv (fun x3 => ?_)
  exact nr_hA_findOrAdd_19 hX2
set_option maxHeartbeats 4000000 in
theorem v_hA_codeOf {p1 : Int32} {X : St} (hI : INV X) : ok (hA_codeOf p1 X) (fun r Y => (X = Y)) := by
  unfold hA_codeOf
  refine ok.ite (fun c1 => ?_) (fun c1 => ?_)
  · skip
    have g2 := i32_le p1
    exact ok.ret rfl
  · skip
    have g3 := i32_le p1
    refine ok.letE (v1 := (X.1 3 0)) rfl ?_
    have g4 : 0 ≤ (X.1 3 0).toInt ∧ (X.1 3 0).toInt ≤ 1549 := hI.1 3 0
    refine ok.ite (fun c5 => ?_) (fun c5 => ?_)
    · skip
      exact ok.ret rfl
    · skip
      refine ok.ck (show 0 ≤ p1.toInt ∧ p1.toInt < ((1549 : Nat) : Int) from by omega) ?_
      refine ok.letE (v1 := (X.1 7 (ix p1))) rfl ?_
      exact ok.ret rfl
set_option maxHeartbeats 4000000 in
theorem v_hA_isSame_6 {p1 : Int32} {p2 : Int32} {p4 : Int32} {p5 : Int32} {X : St} (hI : INV X) (h0 : 0 ≤ p1.toInt ∧ p1.toInt ≤ 1548) (h1 : 0 ≤ p2.toInt ∧ p2.toInt ≤ 4) (h2 : 0 ≤ p4.toInt ∧ p4.toInt + p2.toInt ≤ 7745) : ok (hA_isSame p1 p2 6 p4 p5 X) (fun r Y => (X = Y)) := by
  unfold hA_isSame
  refine ok.ck (show 0 ≤ p1.toInt ∧ p1.toInt < ((1549 : Nat) : Int) from by omega) ?_
  refine ok.letE (v1 := (X.1 5 (ix p1))) rfl ?_
  have g1 : 0 ≤ (X.1 5 (ix p1)).toInt ∧ (X.1 5 (ix p1)).toInt ≤ 4 := hI.1 5 (ix p1)
  refine ok.ite (fun c2 => ?_) (fun c2 => ?_)
  · skip
    refine ok.mul (show _ ≤ p1.toInt * (5 : Int) ∧ p1.toInt * (5 : Int) ≤ _ from by omega) (fun x2 hx2 => ?_)
    have hx2 : x2.toInt = p1.toInt * (5 : Int) := hx2
    refine ok.add (show _ ≤ x2.toInt + (4 : Int) ∧ x2.toInt + (4 : Int) ≤ _ from by omega) (fun x3 hx3 => ?_)
    have hx3 : x3.toInt = x2.toInt + (4 : Int) := hx3
    refine ok.ck (show 0 ≤ x3.toInt ∧ x3.toInt < ((7745 : Nat) : Int) from by omega) ?_
    refine ok.letE (v1 := (X.1 6 (ix x3))) rfl ?_
    refine ok.ite (fun c3 => ?_) (fun c3 => ?_)
    · skip
      have lpu4 : ∀ (n : Nat), ∀ (a_1u4 : Int32) (a_2u4 : Int32) (a_4u4 : Int32) (a_6u4 : Int32) (Zu4 : St), INV Zu4 → Fr YC [] X Zu4 → (0 ≤ a_1u4.toInt ∧ a_1u4.toInt ≤ 1548) → (0 ≤ a_2u4.toInt ∧ a_2u4.toInt ≤ 4) → (0 ≤ a_4u4.toInt ∧ a_4u4.toInt + a_2u4.toInt ≤ 7745) → (0 ≤ a_6u4.toInt ∧ a_6u4.toInt ≤ 5) → (5 - a_6u4.toInt).toNat < n → ok (hA_isSame_30 n a_1u4 a_2u4 6 a_4u4 a_6u4 Zu4) (fun r Y => (X = Y)) := by
        intro n
        unfold hA_isSame_30
        refine lp_indN (P := fun (n : Nat) (r_u4 : Int32 → Int32 → Nat → Int32 → Int32 → St → Option (Int32 × St)) => ∀ (a_1u4 : Int32) (a_2u4 : Int32) (a_4u4 : Int32) (a_6u4 : Int32) (Zu4 : St), INV Zu4 → Fr YC [] X Zu4 → (0 ≤ a_1u4.toInt ∧ a_1u4.toInt ≤ 1548) → (0 ≤ a_2u4.toInt ∧ a_2u4.toInt ≤ 4) → (0 ≤ a_4u4.toInt ∧ a_4u4.toInt + a_2u4.toInt ≤ 7745) → (0 ≤ a_6u4.toInt ∧ a_6u4.toInt ≤ 5) → (5 - a_6u4.toInt).toNat < n → ok (r_u4 a_1u4 a_2u4 6 a_4u4 a_6u4 Zu4) (fun r Y => (X = Y))) ?_ ?_ n
        · intro a_1u4 a_2u4 a_4u4 a_6u4 Zu4 hIu4 hFu4 u4_0 u4_1 u4_2 u4_3  hm; exact absurd hm (Nat.not_lt_zero _)
        · intro n r_u4 ih_u4 a_1u4 a_2u4 a_4u4 a_6u4 Zu4 hIu4 hFu4 u4_0 u4_1 u4_2 u4_3  hmu4
          unfold hA_isSame_30_s
          refine ok.ite (fun c5 => ?_) (fun c5 => ?_)
          · skip
            exact ok.ret (Fr.nil hFu4).symm
          · skip
            refine ok.mul (show _ ≤ a_1u4.toInt * (5 : Int) ∧ a_1u4.toInt * (5 : Int) ≤ _ from by omega) (fun x5 hx5 => ?_)
            have hx5 : x5.toInt = a_1u4.toInt * (5 : Int) := hx5
            refine ok.add (show _ ≤ x5.toInt + a_6u4.toInt ∧ x5.toInt + a_6u4.toInt ≤ _ from by omega) (fun x6 hx6 => ?_)
            have hx6 : x6.toInt = x5.toInt + a_6u4.toInt := hx6
            refine ok.ck (show 0 ≤ x6.toInt ∧ x6.toInt < ((7745 : Nat) : Int) from by omega) ?_
            refine ok.letE (v1 := (X.1 6 (ix x6))) (hFu4.1 6 (ix x6) (show (1200 : Nat) ∉ [] from by decide)) ?_
            refine ok.add (show _ ≤ a_4u4.toInt + a_6u4.toInt ∧ a_4u4.toInt + a_6u4.toInt ≤ _ from by omega) (fun x8 hx8 => ?_)
            have hx8 : x8.toInt = a_4u4.toInt + a_6u4.toInt := hx8
            refine ok.ck (show 0 ≤ x8.toInt ∧ x8.toInt < ((7745 : Nat) : Int) from by omega) ?_
            refine ok.letE (v1 := (X.1 6 (ix x8))) (hFu4.1 6 (ix x8) (show (1200 : Nat) ∉ [] from by decide)) ?_
            refine ok.ite (fun c6 => ?_) (fun c6 => ?_)
            · skip
              refine ok.inc (by decide) (show _ ≤ a_6u4.toInt + (1) ∧ a_6u4.toInt + (1) ≤ _ from by omega) (fun x10 hx10 => ?_)
              have hx10 : x10.toInt = a_6u4.toInt + (1) := hx10
              exact ih_u4 a_1u4 a_2u4 a_4u4 x10 Zu4 hIu4 (Fr.rf.tr hFu4 (fun _ q => q)) (show 0 ≤ a_1u4.toInt ∧ a_1u4.toInt ≤ 1548 from by omega) (show 0 ≤ a_2u4.toInt ∧ a_2u4.toInt ≤ 4 from by omega) (show 0 ≤ a_4u4.toInt ∧ a_4u4.toInt + a_2u4.toInt ≤ 7745 from by omega) (show 0 ≤ x10.toInt ∧ x10.toInt ≤ 5 from by omega) (show (5 - x10.toInt).toNat < _ from by omega)
            · skip
              exact ok.ret (Fr.nil hFu4).symm
      exact lpu4 BIG p1 p2 p4 (0 : Int32) X hI (Fr.rf : Fr YC [] _ _) (show 0 ≤ p1.toInt ∧ p1.toInt ≤ 1548 from by omega) (show 0 ≤ p2.toInt ∧ p2.toInt ≤ 4 from by omega) (show 0 ≤ p4.toInt ∧ p4.toInt + p2.toInt ≤ 7745 from by omega) (show 0 ≤ (0 : Int) ∧ (0 : Int) ≤ 5 from by omega) (show (5 - (0 : Int)).toNat < BIG from ltBIG (show _ < 100000 from by omega))
    · skip
      exact ok.ret rfl
  · skip
    exact ok.ret rfl
set_option maxHeartbeats 4000000 in
theorem v_hA_findOrAdd_6 {p1 : Int32} {p2 : Int32} {p4 : Int32} {p5 : Int32} {p6 : Int32} {X : St} (hI : INV X) (h0 : 0 ≤ p1.toInt ∧ p1.toInt ≤ 4) (h1 : 0 ≤ p2.toInt ∧ p2.toInt ≤ 4) (h2 : 0 ≤ p4.toInt ∧ p4.toInt + p2.toInt ≤ 7745) : ok (hA_findOrAdd p1 p2 6 p4 p5 p6 X) (fun r Y => (Fr YC Qv0 X Y ∧ INV Y)) := by
  unfold hA_findOrAdd
  refine ok.bd (v_hA_bucketOf hI) ?_
  rintro x1 _ ⟨rfl, hp1⟩
  have hp1 : 0 ≤ x1.toInt ∧ x1.toInt ≤ 511 := hp1
  refine ok.ck (show 0 ≤ x1.toInt ∧ x1.toInt < ((512 : Nat) : Int) from by omega) ?_
  refine ok.letE (v1 := (X.1 9 (ix x1))) rfl ?_
  have g2 : -1 ≤ (X.1 9 (ix x1)).toInt ∧ (X.1 9 (ix x1)).toInt ≤ 1548 := hI.1 9 (ix x1)
  have lpu3 : ∀ (n : Nat), ∀ (a_1u3 : Int32) (a_2u3 : Int32) (a_4u3 : Int32) (a_5u3 : Int32) (a_6u3 : Int32) (a_7u3 : Int32) (a_8u3 : Int32) (a_9u3 : Int32) (Zu3 : St), INV Zu3 → Fr YC Qv0 X Zu3 → (0 ≤ a_1u3.toInt ∧ a_1u3.toInt ≤ 4) → (0 ≤ a_2u3.toInt ∧ a_2u3.toInt ≤ 4) → (0 ≤ a_4u3.toInt ∧ a_4u3.toInt + a_2u3.toInt ≤ 7745) → (0 ≤ a_7u3.toInt ∧ a_7u3.toInt ≤ 511) → (-1 ≤ a_8u3.toInt ∧ a_8u3.toInt ≤ 1548) → (0 ≤ a_9u3.toInt ∧ a_9u3.toInt ≤ 1549) → (1550 - a_9u3.toInt).toNat < n → ok (hA_findOrAdd_19 n a_1u3 a_2u3 6 a_4u3 a_5u3 a_6u3 a_7u3 a_8u3 a_9u3 Zu3) (fun r Y => (Fr YC Qv0 X Y ∧ INV Y)) := by
    intro n
    unfold hA_findOrAdd_19
    refine lp_indN (P := fun (n : Nat) (r_u3 : Int32 → Int32 → Nat → Int32 → Int32 → Int32 → Int32 → Int32 → Int32 → St → Option (Int32 × St)) => ∀ (a_1u3 : Int32) (a_2u3 : Int32) (a_4u3 : Int32) (a_5u3 : Int32) (a_6u3 : Int32) (a_7u3 : Int32) (a_8u3 : Int32) (a_9u3 : Int32) (Zu3 : St), INV Zu3 → Fr YC Qv0 X Zu3 → (0 ≤ a_1u3.toInt ∧ a_1u3.toInt ≤ 4) → (0 ≤ a_2u3.toInt ∧ a_2u3.toInt ≤ 4) → (0 ≤ a_4u3.toInt ∧ a_4u3.toInt + a_2u3.toInt ≤ 7745) → (0 ≤ a_7u3.toInt ∧ a_7u3.toInt ≤ 511) → (-1 ≤ a_8u3.toInt ∧ a_8u3.toInt ≤ 1548) → (0 ≤ a_9u3.toInt ∧ a_9u3.toInt ≤ 1549) → (1550 - a_9u3.toInt).toNat < n → ok (r_u3 a_1u3 a_2u3 6 a_4u3 a_5u3 a_6u3 a_7u3 a_8u3 a_9u3 Zu3) (fun r Y => (Fr YC Qv0 X Y ∧ INV Y))) ?_ ?_ n
    · intro a_1u3 a_2u3 a_4u3 a_5u3 a_6u3 a_7u3 a_8u3 a_9u3 Zu3 hIu3 hFu3 u3_0 u3_1 u3_2 u3_3 u3_4 u3_5  hm; exact absurd hm (Nat.not_lt_zero _)
    · intro n r_u3 ih_u3 a_1u3 a_2u3 a_4u3 a_5u3 a_6u3 a_7u3 a_8u3 a_9u3 Zu3 hIu3 hFu3 u3_0 u3_1 u3_2 u3_3 u3_4 u3_5  hmu3
      unfold hA_findOrAdd_19_s
      refine ok.ite (fun c4 => ?_) (fun c4 => ?_)
      · skip
        unfold hA_findOrAdd_77
        refine ok.letE (v1 := (Zu3.1 3 0)) rfl ?_
        have g5 : 0 ≤ (Zu3.1 3 0).toInt ∧ (Zu3.1 3 0).toInt ≤ 1549 := hIu3.1 3 0
        refine ok.ite (fun c6 => ?_) (fun c6 => ?_)
        · skip
          refine ok.letE (v1 := (Zu3.1 3 0)) rfl ?_
          refine ok.letE (v1 := (Zu3.1 3 0)) rfl ?_
          refine ok.add (show _ ≤ (Zu3.1 3 0).toInt + (1 : Int) ∧ (Zu3.1 3 0).toInt + (1 : Int) ≤ _ from by omega) (fun x7 hx7 => ?_)
          have hx7 : x7.toInt = (Zu3.1 3 0).toInt + (1 : Int) := hx7
          refine ok.wI (L := [600]) hIu3 (show 0 ≤ x7.toInt ∧ x7.toInt ≤ 1549 from by omega) (show (600 : Nat) ∈ [600] from by decide) (by decide) (fun Z7 hIZ7 hFZ7 hkZ7 hoZ7 => ?_)
          refine ok.ck (show 0 ≤ (Zu3.1 3 0).toInt ∧ (Zu3.1 3 0).toInt < ((1549 : Nat) : Int) from by omega) ?_
          refine ok.wI (L := [800]) hIZ7 (show True from trivial) (show (800 : Nat) ∈ [800] from by decide) (by decide) (fun Z8 hIZ8 hFZ8 hkZ8 hoZ8 => ?_)
          refine ok.ck (show 0 ≤ (Zu3.1 3 0).toInt ∧ (Zu3.1 3 0).toInt < ((1549 : Nat) : Int) from by omega) ?_
          refine ok.wI (L := [1000]) hIZ8 (show 0 ≤ a_2u3.toInt ∧ a_2u3.toInt ≤ 4 from by omega) (show (1000 : Nat) ∈ [1000] from by decide) (by decide) (fun Z9 hIZ9 hFZ9 hkZ9 hoZ9 => ?_)
          refine ok.ck (show 0 ≤ (Zu3.1 3 0).toInt ∧ (Zu3.1 3 0).toInt < ((1549 : Nat) : Int) from by omega) ?_
          refine ok.wI (L := [1400]) hIZ9 (show True from trivial) (show (1400 : Nat) ∈ [1400] from by decide) (by decide) (fun Z10 hIZ10 hFZ10 hkZ10 hoZ10 => ?_)
          refine ok.mul (show _ ≤ (Zu3.1 3 0).toInt * (5 : Int) ∧ (Zu3.1 3 0).toInt * (5 : Int) ≤ _ from by omega) (fun x12 hx12 => ?_)
          have hx12 : x12.toInt = (Zu3.1 3 0).toInt * (5 : Int) := hx12
          refine ok.add (show _ ≤ x12.toInt + (4 : Int) ∧ x12.toInt + (4 : Int) ≤ _ from by omega) (fun x13 hx13 => ?_)
          have hx13 : x13.toInt = x12.toInt + (4 : Int) := hx13
          refine ok.ck (show 0 ≤ x13.toInt ∧ x13.toInt < ((7745 : Nat) : Int) from by omega) ?_
          refine ok.wI (L := [1200]) hIZ10 (show True from trivial) (show (1200 : Nat) ∈ [1200] from by decide) (by decide) (fun Z11 hIZ11 hFZ11 hkZ11 hoZ11 => ?_)
          refine ok.ite (fun c12 => ?_) (fun c12 => ?_)
          · skip
            unfold hA_findOrAdd_162
            unfold hA_findOrAdd_167
            have lpu13 : ∀ (n : Nat), ∀ (a_2u13 : Int32) (a_4u13 : Int32) (a_7u13 : Int32) (a_8u13 : Int32) (a_9u13 : Int32) (a_10u13 : Int32) (Zu13 : St), INV Zu13 → Fr YC Qv0 X Zu13 → (0 ≤ a_2u13.toInt ∧ a_2u13.toInt ≤ 4) → (0 ≤ a_4u13.toInt ∧ a_4u13.toInt + a_2u13.toInt ≤ 7745) → (0 ≤ a_7u13.toInt ∧ a_7u13.toInt ≤ 511) → (0 ≤ a_8u13.toInt ∧ a_8u13.toInt ≤ 1548) → (0 ≤ a_10u13.toInt ∧ a_10u13.toInt ≤ 5) → (5 - a_10u13.toInt).toNat < n → ok (hA_findOrAdd_172 n a_2u13 6 a_4u13 a_7u13 a_8u13 a_9u13 a_10u13 Zu13) (fun r Y => (Fr YC Qv0 X Y ∧ INV Y)) := by
              intro n
              unfold hA_findOrAdd_172
              refine lp_indN (P := fun (n : Nat) (r_u13 : Int32 → Nat → Int32 → Int32 → Int32 → Int32 → Int32 → St → Option (Int32 × St)) => ∀ (a_2u13 : Int32) (a_4u13 : Int32) (a_7u13 : Int32) (a_8u13 : Int32) (a_9u13 : Int32) (a_10u13 : Int32) (Zu13 : St), INV Zu13 → Fr YC Qv0 X Zu13 → (0 ≤ a_2u13.toInt ∧ a_2u13.toInt ≤ 4) → (0 ≤ a_4u13.toInt ∧ a_4u13.toInt + a_2u13.toInt ≤ 7745) → (0 ≤ a_7u13.toInt ∧ a_7u13.toInt ≤ 511) → (0 ≤ a_8u13.toInt ∧ a_8u13.toInt ≤ 1548) → (0 ≤ a_10u13.toInt ∧ a_10u13.toInt ≤ 5) → (5 - a_10u13.toInt).toNat < n → ok (r_u13 a_2u13 6 a_4u13 a_7u13 a_8u13 a_9u13 a_10u13 Zu13) (fun r Y => (Fr YC Qv0 X Y ∧ INV Y))) ?_ ?_ n
              · intro a_2u13 a_4u13 a_7u13 a_8u13 a_9u13 a_10u13 Zu13 hIu13 hFu13 u13_0 u13_1 u13_2 u13_3 u13_4  hm; exact absurd hm (Nat.not_lt_zero _)
              · intro n r_u13 ih_u13 a_2u13 a_4u13 a_7u13 a_8u13 a_9u13 a_10u13 Zu13 hIu13 hFu13 u13_0 u13_1 u13_2 u13_3 u13_4  hmu13
                unfold hA_findOrAdd_172_s
                refine ok.ite (fun c14 => ?_) (fun c14 => ?_)
                · skip
                  refine ok.ck (show 0 ≤ a_8u13.toInt ∧ a_8u13.toInt < ((1549 : Nat) : Int) from by omega) ?_
                  refine ok.wI (L := [1600]) hIu13 (show True from trivial) (show (1600 : Nat) ∈ [1600] from by decide) (by decide) (fun Z15 hIZ15 hFZ15 hkZ15 hoZ15 => ?_)
                  refine ok.ck (show 0 ≤ a_7u13.toInt ∧ a_7u13.toInt < ((512 : Nat) : Int) from by omega) ?_
                  refine ok.letE (v1 := (Zu13.1 9 (ix a_7u13))) (hFZ15.1 9 (ix a_7u13) (show (1800 : Nat) ∉ [1600] from by decide)) ?_
                  have g16 : -1 ≤ (Zu13.1 9 (ix a_7u13)).toInt ∧ (Zu13.1 9 (ix a_7u13)).toInt ≤ 1548 := hIu13.1 9 (ix a_7u13)
                  refine ok.ck (show 0 ≤ a_8u13.toInt ∧ a_8u13.toInt < ((1549 : Nat) : Int) from by omega) ?_
                  refine ok.wI (L := [2000]) hIZ15 (show -1 ≤ (Zu13.1 9 (ix a_7u13)).toInt ∧ (Zu13.1 9 (ix a_7u13)).toInt ≤ 1548 from by omega) (show (2000 : Nat) ∈ [2000] from by decide) (by decide) (fun Z17 hIZ17 hFZ17 hkZ17 hoZ17 => ?_)
                  refine ok.ck (show 0 ≤ a_7u13.toInt ∧ a_7u13.toInt < ((512 : Nat) : Int) from by omega) ?_
                  refine ok.wI (L := [1800]) hIZ17 (show -1 ≤ a_8u13.toInt ∧ a_8u13.toInt ≤ 1548 from by omega) (show (1800 : Nat) ∈ [1800] from by decide) (by decide) (fun Z18 hIZ18 hFZ18 hkZ18 hoZ18 => ?_)
                  exact ok.ret ⟨((((Fr.rf.tr hFu13 (fun _ q => q)).tr hFZ15 (by decide)).tr hFZ17 (by decide)).tr hFZ18 (by decide)), hIZ18⟩
                · skip
                  refine ok.mul (show _ ≤ a_8u13.toInt * (5 : Int) ∧ a_8u13.toInt * (5 : Int) ≤ _ from by omega) (fun x19 hx19 => ?_)
                  have hx19 : x19.toInt = a_8u13.toInt * (5 : Int) := hx19
                  refine ok.add (show _ ≤ x19.toInt + a_10u13.toInt ∧ x19.toInt + a_10u13.toInt ≤ _ from by omega) (fun x20 hx20 => ?_)
                  have hx20 : x20.toInt = x19.toInt + a_10u13.toInt := hx20
                  refine ok.add (show _ ≤ a_4u13.toInt + a_10u13.toInt ∧ a_4u13.toInt + a_10u13.toInt ≤ _ from by omega) (fun x21 hx21 => ?_)
                  have hx21 : x21.toInt = a_4u13.toInt + a_10u13.toInt := hx21
                  refine ok.ck (show 0 ≤ x21.toInt ∧ x21.toInt < ((7745 : Nat) : Int) from by omega) ?_
                  refine ok.letE (v1 := (Zu13.1 6 (ix x21))) rfl ?_
                  refine ok.ck (show 0 ≤ x20.toInt ∧ x20.toInt < ((7745 : Nat) : Int) from by omega) ?_
                  refine ok.wI (L := [1200]) hIu13 (show True from trivial) (show (1200 : Nat) ∈ [1200] from by decide) (by decide) (fun Z19 hIZ19 hFZ19 hkZ19 hoZ19 => ?_)
                  refine ok.ite (fun c20 => ?_) (fun c20 => ?_)
                  · skip
                    have g21 := i32_le a_9u13
                    refine ok.add (show _ ≤ a_4u13.toInt + a_10u13.toInt ∧ a_4u13.toInt + a_10u13.toInt ≤ _ from by omega) (fun x25 hx25 => ?_)
                    have hx25 : x25.toInt = a_4u13.toInt + a_10u13.toInt := hx25
                    refine ok.ck (show 0 ≤ x25.toInt ∧ x25.toInt < ((7745 : Nat) : Int) from by omega) ?_
                    refine ok.letE (v1 := (Z19.1 6 (ix x25))) rfl ?_
                    refine ok.bd (v_hA_hasAny hIZ19) ?_
                    rintro x27 _ rfl
                    refine ok.ite (fun c23 => ?_) (fun c23 => ?_)
                    · skip
                      have g24 := i32_le x27
                      unfold hA_findOrAdd_221
                      refine ok.inc (by decide) (show _ ≤ a_10u13.toInt + (1) ∧ a_10u13.toInt + (1) ≤ _ from by omega) (fun x24 hx24 => ?_)
                      have hx24 : x24.toInt = a_10u13.toInt + (1) := hx24
                      exact ih_u13 a_2u13 a_4u13 a_7u13 a_8u13 (0 : Int32) x24 Z19 hIZ19 ((Fr.rf.tr hFu13 (fun _ q => q)).tr hFZ19 (by decide)) (show 0 ≤ a_2u13.toInt ∧ a_2u13.toInt ≤ 4 from by omega) (show 0 ≤ a_4u13.toInt ∧ a_4u13.toInt + a_2u13.toInt ≤ 7745 from by omega) (show 0 ≤ a_7u13.toInt ∧ a_7u13.toInt ≤ 511 from by omega) (show 0 ≤ a_8u13.toInt ∧ a_8u13.toInt ≤ 1548 from by omega) (show 0 ≤ x24.toInt ∧ x24.toInt ≤ 5 from by omega) (show (5 - x24.toInt).toNat < _ from by omega)
                    · skip
                      unfold hA_findOrAdd_216
                      unfold hA_findOrAdd_221
                      refine ok.inc (by decide) (show _ ≤ a_10u13.toInt + (1) ∧ a_10u13.toInt + (1) ≤ _ from by omega) (fun x24 hx24 => ?_)
                      have hx24 : x24.toInt = a_10u13.toInt + (1) := hx24
                      exact ih_u13 a_2u13 a_4u13 a_7u13 a_8u13 (1 : Int32) x24 Z19 hIZ19 ((Fr.rf.tr hFu13 (fun _ q => q)).tr hFZ19 (by decide)) (show 0 ≤ a_2u13.toInt ∧ a_2u13.toInt ≤ 4 from by omega) (show 0 ≤ a_4u13.toInt ∧ a_4u13.toInt + a_2u13.toInt ≤ 7745 from by omega) (show 0 ≤ a_7u13.toInt ∧ a_7u13.toInt ≤ 511 from by omega) (show 0 ≤ a_8u13.toInt ∧ a_8u13.toInt ≤ 1548 from by omega) (show 0 ≤ x24.toInt ∧ x24.toInt ≤ 5 from by omega) (show (5 - x24.toInt).toNat < _ from by omega)
                  · skip
                    unfold hA_findOrAdd_216
                    unfold hA_findOrAdd_221
                    refine ok.inc (by decide) (show _ ≤ a_10u13.toInt + (1) ∧ a_10u13.toInt + (1) ≤ _ from by omega) (fun x24 hx24 => ?_)
                    have hx24 : x24.toInt = a_10u13.toInt + (1) := hx24
                    exact ih_u13 a_2u13 a_4u13 a_7u13 a_8u13 (1 : Int32) x24 Z19 hIZ19 ((Fr.rf.tr hFu13 (fun _ q => q)).tr hFZ19 (by decide)) (show 0 ≤ a_2u13.toInt ∧ a_2u13.toInt ≤ 4 from by omega) (show 0 ≤ a_4u13.toInt ∧ a_4u13.toInt + a_2u13.toInt ≤ 7745 from by omega) (show 0 ≤ a_7u13.toInt ∧ a_7u13.toInt ≤ 511 from by omega) (show 0 ≤ a_8u13.toInt ∧ a_8u13.toInt ≤ 1548 from by omega) (show 0 ≤ x24.toInt ∧ x24.toInt ≤ 5 from by omega) (show (5 - x24.toInt).toNat < _ from by omega)
            exact lpu13 BIG a_2u3 a_4u3 a_7u3 (Zu3.1 3 0) (1 : Int32) (0 : Int32) Z11 hIZ11 ((((((Fr.rf.tr hFu3 (fun _ q => q)).tr hFZ7 (by decide)).tr hFZ8 (by decide)).tr hFZ9 (by decide)).tr hFZ10 (by decide)).tr hFZ11 (by decide)) (show 0 ≤ a_2u3.toInt ∧ a_2u3.toInt ≤ 4 from by omega) (show 0 ≤ a_4u3.toInt ∧ a_4u3.toInt + a_2u3.toInt ≤ 7745 from by omega) (show 0 ≤ a_7u3.toInt ∧ a_7u3.toInt ≤ 511 from by omega) (show 0 ≤ (Zu3.1 3 0).toInt ∧ (Zu3.1 3 0).toInt ≤ 1548 from by omega) (show 0 ≤ (0 : Int) ∧ (0 : Int) ≤ 5 from by omega) (show (5 - (0 : Int)).toNat < BIG from ltBIG (show _ < 100000 from by omega))
          · skip
            refine ok.ite (fun c25 => ?_) (fun c25 => ?_)
            · skip
              unfold hA_findOrAdd_166
              unfold hA_findOrAdd_167
              have lpu26 : ∀ (n : Nat), ∀ (a_2u26 : Int32) (a_4u26 : Int32) (a_7u26 : Int32) (a_8u26 : Int32) (a_9u26 : Int32) (a_10u26 : Int32) (Zu26 : St), INV Zu26 → Fr YC Qv0 X Zu26 → (0 ≤ a_2u26.toInt ∧ a_2u26.toInt ≤ 4) → (0 ≤ a_4u26.toInt ∧ a_4u26.toInt + a_2u26.toInt ≤ 7745) → (0 ≤ a_7u26.toInt ∧ a_7u26.toInt ≤ 511) → (0 ≤ a_8u26.toInt ∧ a_8u26.toInt ≤ 1548) → (0 ≤ a_10u26.toInt ∧ a_10u26.toInt ≤ 5) → (5 - a_10u26.toInt).toNat < n → ok (hA_findOrAdd_172 n a_2u26 6 a_4u26 a_7u26 a_8u26 a_9u26 a_10u26 Zu26) (fun r Y => (Fr YC Qv0 X Y ∧ INV Y)) := by
                intro n
                unfold hA_findOrAdd_172
                refine lp_indN (P := fun (n : Nat) (r_u26 : Int32 → Nat → Int32 → Int32 → Int32 → Int32 → Int32 → St → Option (Int32 × St)) => ∀ (a_2u26 : Int32) (a_4u26 : Int32) (a_7u26 : Int32) (a_8u26 : Int32) (a_9u26 : Int32) (a_10u26 : Int32) (Zu26 : St), INV Zu26 → Fr YC Qv0 X Zu26 → (0 ≤ a_2u26.toInt ∧ a_2u26.toInt ≤ 4) → (0 ≤ a_4u26.toInt ∧ a_4u26.toInt + a_2u26.toInt ≤ 7745) → (0 ≤ a_7u26.toInt ∧ a_7u26.toInt ≤ 511) → (0 ≤ a_8u26.toInt ∧ a_8u26.toInt ≤ 1548) → (0 ≤ a_10u26.toInt ∧ a_10u26.toInt ≤ 5) → (5 - a_10u26.toInt).toNat < n → ok (r_u26 a_2u26 6 a_4u26 a_7u26 a_8u26 a_9u26 a_10u26 Zu26) (fun r Y => (Fr YC Qv0 X Y ∧ INV Y))) ?_ ?_ n
                · intro a_2u26 a_4u26 a_7u26 a_8u26 a_9u26 a_10u26 Zu26 hIu26 hFu26 u26_0 u26_1 u26_2 u26_3 u26_4  hm; exact absurd hm (Nat.not_lt_zero _)
                · intro n r_u26 ih_u26 a_2u26 a_4u26 a_7u26 a_8u26 a_9u26 a_10u26 Zu26 hIu26 hFu26 u26_0 u26_1 u26_2 u26_3 u26_4  hmu26
                  unfold hA_findOrAdd_172_s
                  refine ok.ite (fun c27 => ?_) (fun c27 => ?_)
                  · skip
                    refine ok.ck (show 0 ≤ a_8u26.toInt ∧ a_8u26.toInt < ((1549 : Nat) : Int) from by omega) ?_
                    refine ok.wI (L := [1600]) hIu26 (show True from trivial) (show (1600 : Nat) ∈ [1600] from by decide) (by decide) (fun Z28 hIZ28 hFZ28 hkZ28 hoZ28 => ?_)
                    refine ok.ck (show 0 ≤ a_7u26.toInt ∧ a_7u26.toInt < ((512 : Nat) : Int) from by omega) ?_
                    refine ok.letE (v1 := (Zu26.1 9 (ix a_7u26))) (hFZ28.1 9 (ix a_7u26) (show (1800 : Nat) ∉ [1600] from by decide)) ?_
                    have g29 : -1 ≤ (Zu26.1 9 (ix a_7u26)).toInt ∧ (Zu26.1 9 (ix a_7u26)).toInt ≤ 1548 := hIu26.1 9 (ix a_7u26)
                    refine ok.ck (show 0 ≤ a_8u26.toInt ∧ a_8u26.toInt < ((1549 : Nat) : Int) from by omega) ?_
                    refine ok.wI (L := [2000]) hIZ28 (show -1 ≤ (Zu26.1 9 (ix a_7u26)).toInt ∧ (Zu26.1 9 (ix a_7u26)).toInt ≤ 1548 from by omega) (show (2000 : Nat) ∈ [2000] from by decide) (by decide) (fun Z30 hIZ30 hFZ30 hkZ30 hoZ30 => ?_)
                    refine ok.ck (show 0 ≤ a_7u26.toInt ∧ a_7u26.toInt < ((512 : Nat) : Int) from by omega) ?_
                    refine ok.wI (L := [1800]) hIZ30 (show -1 ≤ a_8u26.toInt ∧ a_8u26.toInt ≤ 1548 from by omega) (show (1800 : Nat) ∈ [1800] from by decide) (by decide) (fun Z31 hIZ31 hFZ31 hkZ31 hoZ31 => ?_)
                    exact ok.ret ⟨((((Fr.rf.tr hFu26 (fun _ q => q)).tr hFZ28 (by decide)).tr hFZ30 (by decide)).tr hFZ31 (by decide)), hIZ31⟩
                  · skip
                    refine ok.mul (show _ ≤ a_8u26.toInt * (5 : Int) ∧ a_8u26.toInt * (5 : Int) ≤ _ from by omega) (fun x19 hx19 => ?_)
                    have hx19 : x19.toInt = a_8u26.toInt * (5 : Int) := hx19
                    refine ok.add (show _ ≤ x19.toInt + a_10u26.toInt ∧ x19.toInt + a_10u26.toInt ≤ _ from by omega) (fun x20 hx20 => ?_)
                    have hx20 : x20.toInt = x19.toInt + a_10u26.toInt := hx20
                    refine ok.add (show _ ≤ a_4u26.toInt + a_10u26.toInt ∧ a_4u26.toInt + a_10u26.toInt ≤ _ from by omega) (fun x21 hx21 => ?_)
                    have hx21 : x21.toInt = a_4u26.toInt + a_10u26.toInt := hx21
                    refine ok.ck (show 0 ≤ x21.toInt ∧ x21.toInt < ((7745 : Nat) : Int) from by omega) ?_
                    refine ok.letE (v1 := (Zu26.1 6 (ix x21))) rfl ?_
                    refine ok.ck (show 0 ≤ x20.toInt ∧ x20.toInt < ((7745 : Nat) : Int) from by omega) ?_
                    refine ok.wI (L := [1200]) hIu26 (show True from trivial) (show (1200 : Nat) ∈ [1200] from by decide) (by decide) (fun Z32 hIZ32 hFZ32 hkZ32 hoZ32 => ?_)
                    refine ok.ite (fun c33 => ?_) (fun c33 => ?_)
                    · skip
                      have g34 := i32_le a_9u26
                      refine ok.add (show _ ≤ a_4u26.toInt + a_10u26.toInt ∧ a_4u26.toInt + a_10u26.toInt ≤ _ from by omega) (fun x25 hx25 => ?_)
                      have hx25 : x25.toInt = a_4u26.toInt + a_10u26.toInt := hx25
                      refine ok.ck (show 0 ≤ x25.toInt ∧ x25.toInt < ((7745 : Nat) : Int) from by omega) ?_
                      refine ok.letE (v1 := (Z32.1 6 (ix x25))) rfl ?_
                      refine ok.bd (v_hA_hasAny hIZ32) ?_
                      rintro x27 _ rfl
                      refine ok.ite (fun c36 => ?_) (fun c36 => ?_)
                      · skip
                        have g37 := i32_le x27
                        unfold hA_findOrAdd_221
                        refine ok.inc (by decide) (show _ ≤ a_10u26.toInt + (1) ∧ a_10u26.toInt + (1) ≤ _ from by omega) (fun x24 hx24 => ?_)
                        have hx24 : x24.toInt = a_10u26.toInt + (1) := hx24
                        exact ih_u26 a_2u26 a_4u26 a_7u26 a_8u26 (0 : Int32) x24 Z32 hIZ32 ((Fr.rf.tr hFu26 (fun _ q => q)).tr hFZ32 (by decide)) (show 0 ≤ a_2u26.toInt ∧ a_2u26.toInt ≤ 4 from by omega) (show 0 ≤ a_4u26.toInt ∧ a_4u26.toInt + a_2u26.toInt ≤ 7745 from by omega) (show 0 ≤ a_7u26.toInt ∧ a_7u26.toInt ≤ 511 from by omega) (show 0 ≤ a_8u26.toInt ∧ a_8u26.toInt ≤ 1548 from by omega) (show 0 ≤ x24.toInt ∧ x24.toInt ≤ 5 from by omega) (show (5 - x24.toInt).toNat < _ from by omega)
                      · skip
                        unfold hA_findOrAdd_216
                        unfold hA_findOrAdd_221
                        refine ok.inc (by decide) (show _ ≤ a_10u26.toInt + (1) ∧ a_10u26.toInt + (1) ≤ _ from by omega) (fun x24 hx24 => ?_)
                        have hx24 : x24.toInt = a_10u26.toInt + (1) := hx24
                        exact ih_u26 a_2u26 a_4u26 a_7u26 a_8u26 (1 : Int32) x24 Z32 hIZ32 ((Fr.rf.tr hFu26 (fun _ q => q)).tr hFZ32 (by decide)) (show 0 ≤ a_2u26.toInt ∧ a_2u26.toInt ≤ 4 from by omega) (show 0 ≤ a_4u26.toInt ∧ a_4u26.toInt + a_2u26.toInt ≤ 7745 from by omega) (show 0 ≤ a_7u26.toInt ∧ a_7u26.toInt ≤ 511 from by omega) (show 0 ≤ a_8u26.toInt ∧ a_8u26.toInt ≤ 1548 from by omega) (show 0 ≤ x24.toInt ∧ x24.toInt ≤ 5 from by omega) (show (5 - x24.toInt).toNat < _ from by omega)
                    · skip
                      unfold hA_findOrAdd_216
                      unfold hA_findOrAdd_221
                      refine ok.inc (by decide) (show _ ≤ a_10u26.toInt + (1) ∧ a_10u26.toInt + (1) ≤ _ from by omega) (fun x24 hx24 => ?_)
                      have hx24 : x24.toInt = a_10u26.toInt + (1) := hx24
                      exact ih_u26 a_2u26 a_4u26 a_7u26 a_8u26 (1 : Int32) x24 Z32 hIZ32 ((Fr.rf.tr hFu26 (fun _ q => q)).tr hFZ32 (by decide)) (show 0 ≤ a_2u26.toInt ∧ a_2u26.toInt ≤ 4 from by omega) (show 0 ≤ a_4u26.toInt ∧ a_4u26.toInt + a_2u26.toInt ≤ 7745 from by omega) (show 0 ≤ a_7u26.toInt ∧ a_7u26.toInt ≤ 511 from by omega) (show 0 ≤ a_8u26.toInt ∧ a_8u26.toInt ≤ 1548 from by omega) (show 0 ≤ x24.toInt ∧ x24.toInt ≤ 5 from by omega) (show (5 - x24.toInt).toNat < _ from by omega)
              exact lpu26 BIG a_2u3 a_4u3 a_7u3 (Zu3.1 3 0) (0 : Int32) (0 : Int32) Z11 hIZ11 ((((((Fr.rf.tr hFu3 (fun _ q => q)).tr hFZ7 (by decide)).tr hFZ8 (by decide)).tr hFZ9 (by decide)).tr hFZ10 (by decide)).tr hFZ11 (by decide)) (show 0 ≤ a_2u3.toInt ∧ a_2u3.toInt ≤ 4 from by omega) (show 0 ≤ a_4u3.toInt ∧ a_4u3.toInt + a_2u3.toInt ≤ 7745 from by omega) (show 0 ≤ a_7u3.toInt ∧ a_7u3.toInt ≤ 511 from by omega) (show 0 ≤ (Zu3.1 3 0).toInt ∧ (Zu3.1 3 0).toInt ≤ 1548 from by omega) (show 0 ≤ (0 : Int) ∧ (0 : Int) ≤ 5 from by omega) (show (5 - (0 : Int)).toNat < BIG from ltBIG (show _ < 100000 from by omega))
            · skip
              refine ok.bd (v_hA_hasAny hIZ11) ?_
              rintro x29 _ rfl
              refine ok.ite (fun c39 => ?_) (fun c39 => ?_)
              · skip
                have g40 := i32_le x29
                unfold hA_findOrAdd_166
                unfold hA_findOrAdd_167
                have lpu41 : ∀ (n : Nat), ∀ (a_2u41 : Int32) (a_4u41 : Int32) (a_7u41 : Int32) (a_8u41 : Int32) (a_9u41 : Int32) (a_10u41 : Int32) (Zu41 : St), INV Zu41 → Fr YC Qv0 X Zu41 → (0 ≤ a_2u41.toInt ∧ a_2u41.toInt ≤ 4) → (0 ≤ a_4u41.toInt ∧ a_4u41.toInt + a_2u41.toInt ≤ 7745) → (0 ≤ a_7u41.toInt ∧ a_7u41.toInt ≤ 511) → (0 ≤ a_8u41.toInt ∧ a_8u41.toInt ≤ 1548) → (0 ≤ a_10u41.toInt ∧ a_10u41.toInt ≤ 5) → (5 - a_10u41.toInt).toNat < n → ok (hA_findOrAdd_172 n a_2u41 6 a_4u41 a_7u41 a_8u41 a_9u41 a_10u41 Zu41) (fun r Y => (Fr YC Qv0 X Y ∧ INV Y)) := by
                  intro n
                  unfold hA_findOrAdd_172
                  refine lp_indN (P := fun (n : Nat) (r_u41 : Int32 → Nat → Int32 → Int32 → Int32 → Int32 → Int32 → St → Option (Int32 × St)) => ∀ (a_2u41 : Int32) (a_4u41 : Int32) (a_7u41 : Int32) (a_8u41 : Int32) (a_9u41 : Int32) (a_10u41 : Int32) (Zu41 : St), INV Zu41 → Fr YC Qv0 X Zu41 → (0 ≤ a_2u41.toInt ∧ a_2u41.toInt ≤ 4) → (0 ≤ a_4u41.toInt ∧ a_4u41.toInt + a_2u41.toInt ≤ 7745) → (0 ≤ a_7u41.toInt ∧ a_7u41.toInt ≤ 511) → (0 ≤ a_8u41.toInt ∧ a_8u41.toInt ≤ 1548) → (0 ≤ a_10u41.toInt ∧ a_10u41.toInt ≤ 5) → (5 - a_10u41.toInt).toNat < n → ok (r_u41 a_2u41 6 a_4u41 a_7u41 a_8u41 a_9u41 a_10u41 Zu41) (fun r Y => (Fr YC Qv0 X Y ∧ INV Y))) ?_ ?_ n
                  · intro a_2u41 a_4u41 a_7u41 a_8u41 a_9u41 a_10u41 Zu41 hIu41 hFu41 u41_0 u41_1 u41_2 u41_3 u41_4  hm; exact absurd hm (Nat.not_lt_zero _)
                  · intro n r_u41 ih_u41 a_2u41 a_4u41 a_7u41 a_8u41 a_9u41 a_10u41 Zu41 hIu41 hFu41 u41_0 u41_1 u41_2 u41_3 u41_4  hmu41
                    unfold hA_findOrAdd_172_s
                    refine ok.ite (fun c42 => ?_) (fun c42 => ?_)
                    · skip
                      refine ok.ck (show 0 ≤ a_8u41.toInt ∧ a_8u41.toInt < ((1549 : Nat) : Int) from by omega) ?_
                      refine ok.wI (L := [1600]) hIu41 (show True from trivial) (show (1600 : Nat) ∈ [1600] from by decide) (by decide) (fun Z43 hIZ43 hFZ43 hkZ43 hoZ43 => ?_)
                      refine ok.ck (show 0 ≤ a_7u41.toInt ∧ a_7u41.toInt < ((512 : Nat) : Int) from by omega) ?_
                      refine ok.letE (v1 := (Zu41.1 9 (ix a_7u41))) (hFZ43.1 9 (ix a_7u41) (show (1800 : Nat) ∉ [1600] from by decide)) ?_
                      have g44 : -1 ≤ (Zu41.1 9 (ix a_7u41)).toInt ∧ (Zu41.1 9 (ix a_7u41)).toInt ≤ 1548 := hIu41.1 9 (ix a_7u41)
                      refine ok.ck (show 0 ≤ a_8u41.toInt ∧ a_8u41.toInt < ((1549 : Nat) : Int) from by omega) ?_
                      refine ok.wI (L := [2000]) hIZ43 (show -1 ≤ (Zu41.1 9 (ix a_7u41)).toInt ∧ (Zu41.1 9 (ix a_7u41)).toInt ≤ 1548 from by omega) (show (2000 : Nat) ∈ [2000] from by decide) (by decide) (fun Z45 hIZ45 hFZ45 hkZ45 hoZ45 => ?_)
                      refine ok.ck (show 0 ≤ a_7u41.toInt ∧ a_7u41.toInt < ((512 : Nat) : Int) from by omega) ?_
                      refine ok.wI (L := [1800]) hIZ45 (show -1 ≤ a_8u41.toInt ∧ a_8u41.toInt ≤ 1548 from by omega) (show (1800 : Nat) ∈ [1800] from by decide) (by decide) (fun Z46 hIZ46 hFZ46 hkZ46 hoZ46 => ?_)
                      exact ok.ret ⟨((((Fr.rf.tr hFu41 (fun _ q => q)).tr hFZ43 (by decide)).tr hFZ45 (by decide)).tr hFZ46 (by decide)), hIZ46⟩
                    · skip
                      refine ok.mul (show _ ≤ a_8u41.toInt * (5 : Int) ∧ a_8u41.toInt * (5 : Int) ≤ _ from by omega) (fun x19 hx19 => ?_)
                      have hx19 : x19.toInt = a_8u41.toInt * (5 : Int) := hx19
                      refine ok.add (show _ ≤ x19.toInt + a_10u41.toInt ∧ x19.toInt + a_10u41.toInt ≤ _ from by omega) (fun x20 hx20 => ?_)
                      have hx20 : x20.toInt = x19.toInt + a_10u41.toInt := hx20
                      refine ok.add (show _ ≤ a_4u41.toInt + a_10u41.toInt ∧ a_4u41.toInt + a_10u41.toInt ≤ _ from by omega) (fun x21 hx21 => ?_)
                      have hx21 : x21.toInt = a_4u41.toInt + a_10u41.toInt := hx21
                      refine ok.ck (show 0 ≤ x21.toInt ∧ x21.toInt < ((7745 : Nat) : Int) from by omega) ?_
                      refine ok.letE (v1 := (Zu41.1 6 (ix x21))) rfl ?_
                      refine ok.ck (show 0 ≤ x20.toInt ∧ x20.toInt < ((7745 : Nat) : Int) from by omega) ?_
                      refine ok.wI (L := [1200]) hIu41 (show True from trivial) (show (1200 : Nat) ∈ [1200] from by decide) (by decide) (fun Z47 hIZ47 hFZ47 hkZ47 hoZ47 => ?_)
                      refine ok.ite (fun c48 => ?_) (fun c48 => ?_)
                      · skip
                        have g49 := i32_le a_9u41
                        refine ok.add (show _ ≤ a_4u41.toInt + a_10u41.toInt ∧ a_4u41.toInt + a_10u41.toInt ≤ _ from by omega) (fun x25 hx25 => ?_)
                        have hx25 : x25.toInt = a_4u41.toInt + a_10u41.toInt := hx25
                        refine ok.ck (show 0 ≤ x25.toInt ∧ x25.toInt < ((7745 : Nat) : Int) from by omega) ?_
                        refine ok.letE (v1 := (Z47.1 6 (ix x25))) rfl ?_
                        refine ok.bd (v_hA_hasAny hIZ47) ?_
                        rintro x27 _ rfl
                        refine ok.ite (fun c51 => ?_) (fun c51 => ?_)
                        · skip
                          have g52 := i32_le x27
                          unfold hA_findOrAdd_221
                          refine ok.inc (by decide) (show _ ≤ a_10u41.toInt + (1) ∧ a_10u41.toInt + (1) ≤ _ from by omega) (fun x24 hx24 => ?_)
                          have hx24 : x24.toInt = a_10u41.toInt + (1) := hx24
                          exact ih_u41 a_2u41 a_4u41 a_7u41 a_8u41 (0 : Int32) x24 Z47 hIZ47 ((Fr.rf.tr hFu41 (fun _ q => q)).tr hFZ47 (by decide)) (show 0 ≤ a_2u41.toInt ∧ a_2u41.toInt ≤ 4 from by omega) (show 0 ≤ a_4u41.toInt ∧ a_4u41.toInt + a_2u41.toInt ≤ 7745 from by omega) (show 0 ≤ a_7u41.toInt ∧ a_7u41.toInt ≤ 511 from by omega) (show 0 ≤ a_8u41.toInt ∧ a_8u41.toInt ≤ 1548 from by omega) (show 0 ≤ x24.toInt ∧ x24.toInt ≤ 5 from by omega) (show (5 - x24.toInt).toNat < _ from by omega)
                        · skip
                          unfold hA_findOrAdd_216
                          unfold hA_findOrAdd_221
                          refine ok.inc (by decide) (show _ ≤ a_10u41.toInt + (1) ∧ a_10u41.toInt + (1) ≤ _ from by omega) (fun x24 hx24 => ?_)
                          have hx24 : x24.toInt = a_10u41.toInt + (1) := hx24
                          exact ih_u41 a_2u41 a_4u41 a_7u41 a_8u41 (1 : Int32) x24 Z47 hIZ47 ((Fr.rf.tr hFu41 (fun _ q => q)).tr hFZ47 (by decide)) (show 0 ≤ a_2u41.toInt ∧ a_2u41.toInt ≤ 4 from by omega) (show 0 ≤ a_4u41.toInt ∧ a_4u41.toInt + a_2u41.toInt ≤ 7745 from by omega) (show 0 ≤ a_7u41.toInt ∧ a_7u41.toInt ≤ 511 from by omega) (show 0 ≤ a_8u41.toInt ∧ a_8u41.toInt ≤ 1548 from by omega) (show 0 ≤ x24.toInt ∧ x24.toInt ≤ 5 from by omega) (show (5 - x24.toInt).toNat < _ from by omega)
                      · skip
                        unfold hA_findOrAdd_216
                        unfold hA_findOrAdd_221
                        refine ok.inc (by decide) (show _ ≤ a_10u41.toInt + (1) ∧ a_10u41.toInt + (1) ≤ _ from by omega) (fun x24 hx24 => ?_)
                        have hx24 : x24.toInt = a_10u41.toInt + (1) := hx24
                        exact ih_u41 a_2u41 a_4u41 a_7u41 a_8u41 (1 : Int32) x24 Z47 hIZ47 ((Fr.rf.tr hFu41 (fun _ q => q)).tr hFZ47 (by decide)) (show 0 ≤ a_2u41.toInt ∧ a_2u41.toInt ≤ 4 from by omega) (show 0 ≤ a_4u41.toInt ∧ a_4u41.toInt + a_2u41.toInt ≤ 7745 from by omega) (show 0 ≤ a_7u41.toInt ∧ a_7u41.toInt ≤ 511 from by omega) (show 0 ≤ a_8u41.toInt ∧ a_8u41.toInt ≤ 1548 from by omega) (show 0 ≤ x24.toInt ∧ x24.toInt ≤ 5 from by omega) (show (5 - x24.toInt).toNat < _ from by omega)
                exact lpu41 BIG a_2u3 a_4u3 a_7u3 (Zu3.1 3 0) (0 : Int32) (0 : Int32) Z11 hIZ11 ((((((Fr.rf.tr hFu3 (fun _ q => q)).tr hFZ7 (by decide)).tr hFZ8 (by decide)).tr hFZ9 (by decide)).tr hFZ10 (by decide)).tr hFZ11 (by decide)) (show 0 ≤ a_2u3.toInt ∧ a_2u3.toInt ≤ 4 from by omega) (show 0 ≤ a_4u3.toInt ∧ a_4u3.toInt + a_2u3.toInt ≤ 7745 from by omega) (show 0 ≤ a_7u3.toInt ∧ a_7u3.toInt ≤ 511 from by omega) (show 0 ≤ (Zu3.1 3 0).toInt ∧ (Zu3.1 3 0).toInt ≤ 1548 from by omega) (show 0 ≤ (0 : Int) ∧ (0 : Int) ≤ 5 from by omega) (show (5 - (0 : Int)).toNat < BIG from ltBIG (show _ < 100000 from by omega))
              · skip
                unfold hA_findOrAdd_162
                unfold hA_findOrAdd_167
                have lpu53 : ∀ (n : Nat), ∀ (a_2u53 : Int32) (a_4u53 : Int32) (a_7u53 : Int32) (a_8u53 : Int32) (a_9u53 : Int32) (a_10u53 : Int32) (Zu53 : St), INV Zu53 → Fr YC Qv0 X Zu53 → (0 ≤ a_2u53.toInt ∧ a_2u53.toInt ≤ 4) → (0 ≤ a_4u53.toInt ∧ a_4u53.toInt + a_2u53.toInt ≤ 7745) → (0 ≤ a_7u53.toInt ∧ a_7u53.toInt ≤ 511) → (0 ≤ a_8u53.toInt ∧ a_8u53.toInt ≤ 1548) → (0 ≤ a_10u53.toInt ∧ a_10u53.toInt ≤ 5) → (5 - a_10u53.toInt).toNat < n → ok (hA_findOrAdd_172 n a_2u53 6 a_4u53 a_7u53 a_8u53 a_9u53 a_10u53 Zu53) (fun r Y => (Fr YC Qv0 X Y ∧ INV Y)) := by
                  intro n
                  unfold hA_findOrAdd_172
                  refine lp_indN (P := fun (n : Nat) (r_u53 : Int32 → Nat → Int32 → Int32 → Int32 → Int32 → Int32 → St → Option (Int32 × St)) => ∀ (a_2u53 : Int32) (a_4u53 : Int32) (a_7u53 : Int32) (a_8u53 : Int32) (a_9u53 : Int32) (a_10u53 : Int32) (Zu53 : St), INV Zu53 → Fr YC Qv0 X Zu53 → (0 ≤ a_2u53.toInt ∧ a_2u53.toInt ≤ 4) → (0 ≤ a_4u53.toInt ∧ a_4u53.toInt + a_2u53.toInt ≤ 7745) → (0 ≤ a_7u53.toInt ∧ a_7u53.toInt ≤ 511) → (0 ≤ a_8u53.toInt ∧ a_8u53.toInt ≤ 1548) → (0 ≤ a_10u53.toInt ∧ a_10u53.toInt ≤ 5) → (5 - a_10u53.toInt).toNat < n → ok (r_u53 a_2u53 6 a_4u53 a_7u53 a_8u53 a_9u53 a_10u53 Zu53) (fun r Y => (Fr YC Qv0 X Y ∧ INV Y))) ?_ ?_ n
                  · intro a_2u53 a_4u53 a_7u53 a_8u53 a_9u53 a_10u53 Zu53 hIu53 hFu53 u53_0 u53_1 u53_2 u53_3 u53_4  hm; exact absurd hm (Nat.not_lt_zero _)
                  · intro n r_u53 ih_u53 a_2u53 a_4u53 a_7u53 a_8u53 a_9u53 a_10u53 Zu53 hIu53 hFu53 u53_0 u53_1 u53_2 u53_3 u53_4  hmu53
                    unfold hA_findOrAdd_172_s
                    refine ok.ite (fun c54 => ?_) (fun c54 => ?_)
                    · skip
                      refine ok.ck (show 0 ≤ a_8u53.toInt ∧ a_8u53.toInt < ((1549 : Nat) : Int) from by omega) ?_
                      refine ok.wI (L := [1600]) hIu53 (show True from trivial) (show (1600 : Nat) ∈ [1600] from by decide) (by decide) (fun Z55 hIZ55 hFZ55 hkZ55 hoZ55 => ?_)
                      refine ok.ck (show 0 ≤ a_7u53.toInt ∧ a_7u53.toInt < ((512 : Nat) : Int) from by omega) ?_
                      refine ok.letE (v1 := (Zu53.1 9 (ix a_7u53))) (hFZ55.1 9 (ix a_7u53) (show (1800 : Nat) ∉ [1600] from by decide)) ?_
                      have g56 : -1 ≤ (Zu53.1 9 (ix a_7u53)).toInt ∧ (Zu53.1 9 (ix a_7u53)).toInt ≤ 1548 := hIu53.1 9 (ix a_7u53)
                      refine ok.ck (show 0 ≤ a_8u53.toInt ∧ a_8u53.toInt < ((1549 : Nat) : Int) from by omega) ?_
                      refine ok.wI (L := [2000]) hIZ55 (show -1 ≤ (Zu53.1 9 (ix a_7u53)).toInt ∧ (Zu53.1 9 (ix a_7u53)).toInt ≤ 1548 from by omega) (show (2000 : Nat) ∈ [2000] from by decide) (by decide) (fun Z57 hIZ57 hFZ57 hkZ57 hoZ57 => ?_)
                      refine ok.ck (show 0 ≤ a_7u53.toInt ∧ a_7u53.toInt < ((512 : Nat) : Int) from by omega) ?_
                      refine ok.wI (L := [1800]) hIZ57 (show -1 ≤ a_8u53.toInt ∧ a_8u53.toInt ≤ 1548 from by omega) (show (1800 : Nat) ∈ [1800] from by decide) (by decide) (fun Z58 hIZ58 hFZ58 hkZ58 hoZ58 => ?_)
                      exact ok.ret ⟨((((Fr.rf.tr hFu53 (fun _ q => q)).tr hFZ55 (by decide)).tr hFZ57 (by decide)).tr hFZ58 (by decide)), hIZ58⟩
                    · skip
                      refine ok.mul (show _ ≤ a_8u53.toInt * (5 : Int) ∧ a_8u53.toInt * (5 : Int) ≤ _ from by omega) (fun x19 hx19 => ?_)
                      have hx19 : x19.toInt = a_8u53.toInt * (5 : Int) := hx19
                      refine ok.add (show _ ≤ x19.toInt + a_10u53.toInt ∧ x19.toInt + a_10u53.toInt ≤ _ from by omega) (fun x20 hx20 => ?_)
                      have hx20 : x20.toInt = x19.toInt + a_10u53.toInt := hx20
                      refine ok.add (show _ ≤ a_4u53.toInt + a_10u53.toInt ∧ a_4u53.toInt + a_10u53.toInt ≤ _ from by omega) (fun x21 hx21 => ?_)
                      have hx21 : x21.toInt = a_4u53.toInt + a_10u53.toInt := hx21
                      refine ok.ck (show 0 ≤ x21.toInt ∧ x21.toInt < ((7745 : Nat) : Int) from by omega) ?_
                      refine ok.letE (v1 := (Zu53.1 6 (ix x21))) rfl ?_
                      refine ok.ck (show 0 ≤ x20.toInt ∧ x20.toInt < ((7745 : Nat) : Int) from by omega) ?_
                      refine ok.wI (L := [1200]) hIu53 (show True from trivial) (show (1200 : Nat) ∈ [1200] from by decide) (by decide) (fun Z59 hIZ59 hFZ59 hkZ59 hoZ59 => ?_)
                      refine ok.ite (fun c60 => ?_) (fun c60 => ?_)
                      · skip
                        have g61 := i32_le a_9u53
                        refine ok.add (show _ ≤ a_4u53.toInt + a_10u53.toInt ∧ a_4u53.toInt + a_10u53.toInt ≤ _ from by omega) (fun x25 hx25 => ?_)
                        have hx25 : x25.toInt = a_4u53.toInt + a_10u53.toInt := hx25
                        refine ok.ck (show 0 ≤ x25.toInt ∧ x25.toInt < ((7745 : Nat) : Int) from by omega) ?_
                        refine ok.letE (v1 := (Z59.1 6 (ix x25))) rfl ?_
                        refine ok.bd (v_hA_hasAny hIZ59) ?_
                        rintro x27 _ rfl
                        refine ok.ite (fun c63 => ?_) (fun c63 => ?_)
                        · skip
                          have g64 := i32_le x27
                          unfold hA_findOrAdd_221
                          refine ok.inc (by decide) (show _ ≤ a_10u53.toInt + (1) ∧ a_10u53.toInt + (1) ≤ _ from by omega) (fun x24 hx24 => ?_)
                          have hx24 : x24.toInt = a_10u53.toInt + (1) := hx24
                          exact ih_u53 a_2u53 a_4u53 a_7u53 a_8u53 (0 : Int32) x24 Z59 hIZ59 ((Fr.rf.tr hFu53 (fun _ q => q)).tr hFZ59 (by decide)) (show 0 ≤ a_2u53.toInt ∧ a_2u53.toInt ≤ 4 from by omega) (show 0 ≤ a_4u53.toInt ∧ a_4u53.toInt + a_2u53.toInt ≤ 7745 from by omega) (show 0 ≤ a_7u53.toInt ∧ a_7u53.toInt ≤ 511 from by omega) (show 0 ≤ a_8u53.toInt ∧ a_8u53.toInt ≤ 1548 from by omega) (show 0 ≤ x24.toInt ∧ x24.toInt ≤ 5 from by omega) (show (5 - x24.toInt).toNat < _ from by omega)
                        · skip
                          unfold hA_findOrAdd_216
                          unfold hA_findOrAdd_221
                          refine ok.inc (by decide) (show _ ≤ a_10u53.toInt + (1) ∧ a_10u53.toInt + (1) ≤ _ from by omega) (fun x24 hx24 => ?_)
                          have hx24 : x24.toInt = a_10u53.toInt + (1) := hx24
                          exact ih_u53 a_2u53 a_4u53 a_7u53 a_8u53 (1 : Int32) x24 Z59 hIZ59 ((Fr.rf.tr hFu53 (fun _ q => q)).tr hFZ59 (by decide)) (show 0 ≤ a_2u53.toInt ∧ a_2u53.toInt ≤ 4 from by omega) (show 0 ≤ a_4u53.toInt ∧ a_4u53.toInt + a_2u53.toInt ≤ 7745 from by omega) (show 0 ≤ a_7u53.toInt ∧ a_7u53.toInt ≤ 511 from by omega) (show 0 ≤ a_8u53.toInt ∧ a_8u53.toInt ≤ 1548 from by omega) (show 0 ≤ x24.toInt ∧ x24.toInt ≤ 5 from by omega) (show (5 - x24.toInt).toNat < _ from by omega)
                      · skip
                        unfold hA_findOrAdd_216
                        unfold hA_findOrAdd_221
                        refine ok.inc (by decide) (show _ ≤ a_10u53.toInt + (1) ∧ a_10u53.toInt + (1) ≤ _ from by omega) (fun x24 hx24 => ?_)
                        have hx24 : x24.toInt = a_10u53.toInt + (1) := hx24
                        exact ih_u53 a_2u53 a_4u53 a_7u53 a_8u53 (1 : Int32) x24 Z59 hIZ59 ((Fr.rf.tr hFu53 (fun _ q => q)).tr hFZ59 (by decide)) (show 0 ≤ a_2u53.toInt ∧ a_2u53.toInt ≤ 4 from by omega) (show 0 ≤ a_4u53.toInt ∧ a_4u53.toInt + a_2u53.toInt ≤ 7745 from by omega) (show 0 ≤ a_7u53.toInt ∧ a_7u53.toInt ≤ 511 from by omega) (show 0 ≤ a_8u53.toInt ∧ a_8u53.toInt ≤ 1548 from by omega) (show 0 ≤ x24.toInt ∧ x24.toInt ≤ 5 from by omega) (show (5 - x24.toInt).toNat < _ from by omega)
                exact lpu53 BIG a_2u3 a_4u3 a_7u3 (Zu3.1 3 0) (1 : Int32) (0 : Int32) Z11 hIZ11 ((((((Fr.rf.tr hFu3 (fun _ q => q)).tr hFZ7 (by decide)).tr hFZ8 (by decide)).tr hFZ9 (by decide)).tr hFZ10 (by decide)).tr hFZ11 (by decide)) (show 0 ≤ a_2u3.toInt ∧ a_2u3.toInt ≤ 4 from by omega) (show 0 ≤ a_4u3.toInt ∧ a_4u3.toInt + a_2u3.toInt ≤ 7745 from by omega) (show 0 ≤ a_7u3.toInt ∧ a_7u3.toInt ≤ 511 from by omega) (show 0 ≤ (Zu3.1 3 0).toInt ∧ (Zu3.1 3 0).toInt ≤ 1548 from by omega) (show 0 ≤ (0 : Int) ∧ (0 : Int) ≤ 5 from by omega) (show (5 - (0 : Int)).toNat < BIG from ltBIG (show _ < 100000 from by omega))
        · skip
          exact ok.ret ⟨(Fr.rf.tr hFu3 (fun _ q => q)), hIu3⟩
      · skip
        refine ok.ite (fun c65 => ?_) (fun c65 => ?_)
        · skip
          unfold hA_findOrAdd_77
          refine ok.letE (v1 := (Zu3.1 3 0)) rfl ?_
          have g66 : 0 ≤ (Zu3.1 3 0).toInt ∧ (Zu3.1 3 0).toInt ≤ 1549 := hIu3.1 3 0
          refine ok.ite (fun c67 => ?_) (fun c67 => ?_)
          · skip
            refine ok.letE (v1 := (Zu3.1 3 0)) rfl ?_
            refine ok.letE (v1 := (Zu3.1 3 0)) rfl ?_
            refine ok.add (show _ ≤ (Zu3.1 3 0).toInt + (1 : Int) ∧ (Zu3.1 3 0).toInt + (1 : Int) ≤ _ from by omega) (fun x7 hx7 => ?_)
            have hx7 : x7.toInt = (Zu3.1 3 0).toInt + (1 : Int) := hx7
            refine ok.wI (L := [600]) hIu3 (show 0 ≤ x7.toInt ∧ x7.toInt ≤ 1549 from by omega) (show (600 : Nat) ∈ [600] from by decide) (by decide) (fun Z68 hIZ68 hFZ68 hkZ68 hoZ68 => ?_)
            refine ok.ck (show 0 ≤ (Zu3.1 3 0).toInt ∧ (Zu3.1 3 0).toInt < ((1549 : Nat) : Int) from by omega) ?_
            refine ok.wI (L := [800]) hIZ68 (show True from trivial) (show (800 : Nat) ∈ [800] from by decide) (by decide) (fun Z69 hIZ69 hFZ69 hkZ69 hoZ69 => ?_)
            refine ok.ck (show 0 ≤ (Zu3.1 3 0).toInt ∧ (Zu3.1 3 0).toInt < ((1549 : Nat) : Int) from by omega) ?_
            refine ok.wI (L := [1000]) hIZ69 (show 0 ≤ a_2u3.toInt ∧ a_2u3.toInt ≤ 4 from by omega) (show (1000 : Nat) ∈ [1000] from by decide) (by decide) (fun Z70 hIZ70 hFZ70 hkZ70 hoZ70 => ?_)
            refine ok.ck (show 0 ≤ (Zu3.1 3 0).toInt ∧ (Zu3.1 3 0).toInt < ((1549 : Nat) : Int) from by omega) ?_
            refine ok.wI (L := [1400]) hIZ70 (show True from trivial) (show (1400 : Nat) ∈ [1400] from by decide) (by decide) (fun Z71 hIZ71 hFZ71 hkZ71 hoZ71 => ?_)
            refine ok.mul (show _ ≤ (Zu3.1 3 0).toInt * (5 : Int) ∧ (Zu3.1 3 0).toInt * (5 : Int) ≤ _ from by omega) (fun x12 hx12 => ?_)
            have hx12 : x12.toInt = (Zu3.1 3 0).toInt * (5 : Int) := hx12
            refine ok.add (show _ ≤ x12.toInt + (4 : Int) ∧ x12.toInt + (4 : Int) ≤ _ from by omega) (fun x13 hx13 => ?_)
            have hx13 : x13.toInt = x12.toInt + (4 : Int) := hx13
            refine ok.ck (show 0 ≤ x13.toInt ∧ x13.toInt < ((7745 : Nat) : Int) from by omega) ?_
            refine ok.wI (L := [1200]) hIZ71 (show True from trivial) (show (1200 : Nat) ∈ [1200] from by decide) (by decide) (fun Z72 hIZ72 hFZ72 hkZ72 hoZ72 => ?_)
            refine ok.ite (fun c73 => ?_) (fun c73 => ?_)
            · skip
              unfold hA_findOrAdd_162
              unfold hA_findOrAdd_167
              have lpu74 : ∀ (n : Nat), ∀ (a_2u74 : Int32) (a_4u74 : Int32) (a_7u74 : Int32) (a_8u74 : Int32) (a_9u74 : Int32) (a_10u74 : Int32) (Zu74 : St), INV Zu74 → Fr YC Qv0 X Zu74 → (0 ≤ a_2u74.toInt ∧ a_2u74.toInt ≤ 4) → (0 ≤ a_4u74.toInt ∧ a_4u74.toInt + a_2u74.toInt ≤ 7745) → (0 ≤ a_7u74.toInt ∧ a_7u74.toInt ≤ 511) → (0 ≤ a_8u74.toInt ∧ a_8u74.toInt ≤ 1548) → (0 ≤ a_10u74.toInt ∧ a_10u74.toInt ≤ 5) → (5 - a_10u74.toInt).toNat < n → ok (hA_findOrAdd_172 n a_2u74 6 a_4u74 a_7u74 a_8u74 a_9u74 a_10u74 Zu74) (fun r Y => (Fr YC Qv0 X Y ∧ INV Y)) := by
                intro n
                unfold hA_findOrAdd_172
                refine lp_indN (P := fun (n : Nat) (r_u74 : Int32 → Nat → Int32 → Int32 → Int32 → Int32 → Int32 → St → Option (Int32 × St)) => ∀ (a_2u74 : Int32) (a_4u74 : Int32) (a_7u74 : Int32) (a_8u74 : Int32) (a_9u74 : Int32) (a_10u74 : Int32) (Zu74 : St), INV Zu74 → Fr YC Qv0 X Zu74 → (0 ≤ a_2u74.toInt ∧ a_2u74.toInt ≤ 4) → (0 ≤ a_4u74.toInt ∧ a_4u74.toInt + a_2u74.toInt ≤ 7745) → (0 ≤ a_7u74.toInt ∧ a_7u74.toInt ≤ 511) → (0 ≤ a_8u74.toInt ∧ a_8u74.toInt ≤ 1548) → (0 ≤ a_10u74.toInt ∧ a_10u74.toInt ≤ 5) → (5 - a_10u74.toInt).toNat < n → ok (r_u74 a_2u74 6 a_4u74 a_7u74 a_8u74 a_9u74 a_10u74 Zu74) (fun r Y => (Fr YC Qv0 X Y ∧ INV Y))) ?_ ?_ n
                · intro a_2u74 a_4u74 a_7u74 a_8u74 a_9u74 a_10u74 Zu74 hIu74 hFu74 u74_0 u74_1 u74_2 u74_3 u74_4  hm; exact absurd hm (Nat.not_lt_zero _)
                · intro n r_u74 ih_u74 a_2u74 a_4u74 a_7u74 a_8u74 a_9u74 a_10u74 Zu74 hIu74 hFu74 u74_0 u74_1 u74_2 u74_3 u74_4  hmu74
                  unfold hA_findOrAdd_172_s
                  refine ok.ite (fun c75 => ?_) (fun c75 => ?_)
                  · skip
                    refine ok.ck (show 0 ≤ a_8u74.toInt ∧ a_8u74.toInt < ((1549 : Nat) : Int) from by omega) ?_
                    refine ok.wI (L := [1600]) hIu74 (show True from trivial) (show (1600 : Nat) ∈ [1600] from by decide) (by decide) (fun Z76 hIZ76 hFZ76 hkZ76 hoZ76 => ?_)
                    refine ok.ck (show 0 ≤ a_7u74.toInt ∧ a_7u74.toInt < ((512 : Nat) : Int) from by omega) ?_
                    refine ok.letE (v1 := (Zu74.1 9 (ix a_7u74))) (hFZ76.1 9 (ix a_7u74) (show (1800 : Nat) ∉ [1600] from by decide)) ?_
                    have g77 : -1 ≤ (Zu74.1 9 (ix a_7u74)).toInt ∧ (Zu74.1 9 (ix a_7u74)).toInt ≤ 1548 := hIu74.1 9 (ix a_7u74)
                    refine ok.ck (show 0 ≤ a_8u74.toInt ∧ a_8u74.toInt < ((1549 : Nat) : Int) from by omega) ?_
                    refine ok.wI (L := [2000]) hIZ76 (show -1 ≤ (Zu74.1 9 (ix a_7u74)).toInt ∧ (Zu74.1 9 (ix a_7u74)).toInt ≤ 1548 from by omega) (show (2000 : Nat) ∈ [2000] from by decide) (by decide) (fun Z78 hIZ78 hFZ78 hkZ78 hoZ78 => ?_)
                    refine ok.ck (show 0 ≤ a_7u74.toInt ∧ a_7u74.toInt < ((512 : Nat) : Int) from by omega) ?_
                    refine ok.wI (L := [1800]) hIZ78 (show -1 ≤ a_8u74.toInt ∧ a_8u74.toInt ≤ 1548 from by omega) (show (1800 : Nat) ∈ [1800] from by decide) (by decide) (fun Z79 hIZ79 hFZ79 hkZ79 hoZ79 => ?_)
                    exact ok.ret ⟨((((Fr.rf.tr hFu74 (fun _ q => q)).tr hFZ76 (by decide)).tr hFZ78 (by decide)).tr hFZ79 (by decide)), hIZ79⟩
                  · skip
                    refine ok.mul (show _ ≤ a_8u74.toInt * (5 : Int) ∧ a_8u74.toInt * (5 : Int) ≤ _ from by omega) (fun x19 hx19 => ?_)
                    have hx19 : x19.toInt = a_8u74.toInt * (5 : Int) := hx19
                    refine ok.add (show _ ≤ x19.toInt + a_10u74.toInt ∧ x19.toInt + a_10u74.toInt ≤ _ from by omega) (fun x20 hx20 => ?_)
                    have hx20 : x20.toInt = x19.toInt + a_10u74.toInt := hx20
                    refine ok.add (show _ ≤ a_4u74.toInt + a_10u74.toInt ∧ a_4u74.toInt + a_10u74.toInt ≤ _ from by omega) (fun x21 hx21 => ?_)
                    have hx21 : x21.toInt = a_4u74.toInt + a_10u74.toInt := hx21
                    refine ok.ck (show 0 ≤ x21.toInt ∧ x21.toInt < ((7745 : Nat) : Int) from by omega) ?_
                    refine ok.letE (v1 := (Zu74.1 6 (ix x21))) rfl ?_
                    refine ok.ck (show 0 ≤ x20.toInt ∧ x20.toInt < ((7745 : Nat) : Int) from by omega) ?_
                    refine ok.wI (L := [1200]) hIu74 (show True from trivial) (show (1200 : Nat) ∈ [1200] from by decide) (by decide) (fun Z80 hIZ80 hFZ80 hkZ80 hoZ80 => ?_)
                    refine ok.ite (fun c81 => ?_) (fun c81 => ?_)
                    · skip
                      have g82 := i32_le a_9u74
                      refine ok.add (show _ ≤ a_4u74.toInt + a_10u74.toInt ∧ a_4u74.toInt + a_10u74.toInt ≤ _ from by omega) (fun x25 hx25 => ?_)
                      have hx25 : x25.toInt = a_4u74.toInt + a_10u74.toInt := hx25
                      refine ok.ck (show 0 ≤ x25.toInt ∧ x25.toInt < ((7745 : Nat) : Int) from by omega) ?_
                      refine ok.letE (v1 := (Z80.1 6 (ix x25))) rfl ?_
                      refine ok.bd (v_hA_hasAny hIZ80) ?_
                      rintro x27 _ rfl
                      refine ok.ite (fun c84 => ?_) (fun c84 => ?_)
                      · skip
                        have g85 := i32_le x27
                        unfold hA_findOrAdd_221
                        refine ok.inc (by decide) (show _ ≤ a_10u74.toInt + (1) ∧ a_10u74.toInt + (1) ≤ _ from by omega) (fun x24 hx24 => ?_)
                        have hx24 : x24.toInt = a_10u74.toInt + (1) := hx24
                        exact ih_u74 a_2u74 a_4u74 a_7u74 a_8u74 (0 : Int32) x24 Z80 hIZ80 ((Fr.rf.tr hFu74 (fun _ q => q)).tr hFZ80 (by decide)) (show 0 ≤ a_2u74.toInt ∧ a_2u74.toInt ≤ 4 from by omega) (show 0 ≤ a_4u74.toInt ∧ a_4u74.toInt + a_2u74.toInt ≤ 7745 from by omega) (show 0 ≤ a_7u74.toInt ∧ a_7u74.toInt ≤ 511 from by omega) (show 0 ≤ a_8u74.toInt ∧ a_8u74.toInt ≤ 1548 from by omega) (show 0 ≤ x24.toInt ∧ x24.toInt ≤ 5 from by omega) (show (5 - x24.toInt).toNat < _ from by omega)
                      · skip
                        unfold hA_findOrAdd_216
                        unfold hA_findOrAdd_221
                        refine ok.inc (by decide) (show _ ≤ a_10u74.toInt + (1) ∧ a_10u74.toInt + (1) ≤ _ from by omega) (fun x24 hx24 => ?_)
                        have hx24 : x24.toInt = a_10u74.toInt + (1) := hx24
                        exact ih_u74 a_2u74 a_4u74 a_7u74 a_8u74 (1 : Int32) x24 Z80 hIZ80 ((Fr.rf.tr hFu74 (fun _ q => q)).tr hFZ80 (by decide)) (show 0 ≤ a_2u74.toInt ∧ a_2u74.toInt ≤ 4 from by omega) (show 0 ≤ a_4u74.toInt ∧ a_4u74.toInt + a_2u74.toInt ≤ 7745 from by omega) (show 0 ≤ a_7u74.toInt ∧ a_7u74.toInt ≤ 511 from by omega) (show 0 ≤ a_8u74.toInt ∧ a_8u74.toInt ≤ 1548 from by omega) (show 0 ≤ x24.toInt ∧ x24.toInt ≤ 5 from by omega) (show (5 - x24.toInt).toNat < _ from by omega)
                    · skip
                      unfold hA_findOrAdd_216
                      unfold hA_findOrAdd_221
                      refine ok.inc (by decide) (show _ ≤ a_10u74.toInt + (1) ∧ a_10u74.toInt + (1) ≤ _ from by omega) (fun x24 hx24 => ?_)
                      have hx24 : x24.toInt = a_10u74.toInt + (1) := hx24
                      exact ih_u74 a_2u74 a_4u74 a_7u74 a_8u74 (1 : Int32) x24 Z80 hIZ80 ((Fr.rf.tr hFu74 (fun _ q => q)).tr hFZ80 (by decide)) (show 0 ≤ a_2u74.toInt ∧ a_2u74.toInt ≤ 4 from by omega) (show 0 ≤ a_4u74.toInt ∧ a_4u74.toInt + a_2u74.toInt ≤ 7745 from by omega) (show 0 ≤ a_7u74.toInt ∧ a_7u74.toInt ≤ 511 from by omega) (show 0 ≤ a_8u74.toInt ∧ a_8u74.toInt ≤ 1548 from by omega) (show 0 ≤ x24.toInt ∧ x24.toInt ≤ 5 from by omega) (show (5 - x24.toInt).toNat < _ from by omega)
              exact lpu74 BIG a_2u3 a_4u3 a_7u3 (Zu3.1 3 0) (1 : Int32) (0 : Int32) Z72 hIZ72 ((((((Fr.rf.tr hFu3 (fun _ q => q)).tr hFZ68 (by decide)).tr hFZ69 (by decide)).tr hFZ70 (by decide)).tr hFZ71 (by decide)).tr hFZ72 (by decide)) (show 0 ≤ a_2u3.toInt ∧ a_2u3.toInt ≤ 4 from by omega) (show 0 ≤ a_4u3.toInt ∧ a_4u3.toInt + a_2u3.toInt ≤ 7745 from by omega) (show 0 ≤ a_7u3.toInt ∧ a_7u3.toInt ≤ 511 from by omega) (show 0 ≤ (Zu3.1 3 0).toInt ∧ (Zu3.1 3 0).toInt ≤ 1548 from by omega) (show 0 ≤ (0 : Int) ∧ (0 : Int) ≤ 5 from by omega) (show (5 - (0 : Int)).toNat < BIG from ltBIG (show _ < 100000 from by omega))
            · skip
              refine ok.ite (fun c86 => ?_) (fun c86 => ?_)
              · skip
                unfold hA_findOrAdd_166
                unfold hA_findOrAdd_167
                have lpu87 : ∀ (n : Nat), ∀ (a_2u87 : Int32) (a_4u87 : Int32) (a_7u87 : Int32) (a_8u87 : Int32) (a_9u87 : Int32) (a_10u87 : Int32) (Zu87 : St), INV Zu87 → Fr YC Qv0 X Zu87 → (0 ≤ a_2u87.toInt ∧ a_2u87.toInt ≤ 4) → (0 ≤ a_4u87.toInt ∧ a_4u87.toInt + a_2u87.toInt ≤ 7745) → (0 ≤ a_7u87.toInt ∧ a_7u87.toInt ≤ 511) → (0 ≤ a_8u87.toInt ∧ a_8u87.toInt ≤ 1548) → (0 ≤ a_10u87.toInt ∧ a_10u87.toInt ≤ 5) → (5 - a_10u87.toInt).toNat < n → ok (hA_findOrAdd_172 n a_2u87 6 a_4u87 a_7u87 a_8u87 a_9u87 a_10u87 Zu87) (fun r Y => (Fr YC Qv0 X Y ∧ INV Y)) := by
                  intro n
                  unfold hA_findOrAdd_172
                  refine lp_indN (P := fun (n : Nat) (r_u87 : Int32 → Nat → Int32 → Int32 → Int32 → Int32 → Int32 → St → Option (Int32 × St)) => ∀ (a_2u87 : Int32) (a_4u87 : Int32) (a_7u87 : Int32) (a_8u87 : Int32) (a_9u87 : Int32) (a_10u87 : Int32) (Zu87 : St), INV Zu87 → Fr YC Qv0 X Zu87 → (0 ≤ a_2u87.toInt ∧ a_2u87.toInt ≤ 4) → (0 ≤ a_4u87.toInt ∧ a_4u87.toInt + a_2u87.toInt ≤ 7745) → (0 ≤ a_7u87.toInt ∧ a_7u87.toInt ≤ 511) → (0 ≤ a_8u87.toInt ∧ a_8u87.toInt ≤ 1548) → (0 ≤ a_10u87.toInt ∧ a_10u87.toInt ≤ 5) → (5 - a_10u87.toInt).toNat < n → ok (r_u87 a_2u87 6 a_4u87 a_7u87 a_8u87 a_9u87 a_10u87 Zu87) (fun r Y => (Fr YC Qv0 X Y ∧ INV Y))) ?_ ?_ n
                  · intro a_2u87 a_4u87 a_7u87 a_8u87 a_9u87 a_10u87 Zu87 hIu87 hFu87 u87_0 u87_1 u87_2 u87_3 u87_4  hm; exact absurd hm (Nat.not_lt_zero _)
                  · intro n r_u87 ih_u87 a_2u87 a_4u87 a_7u87 a_8u87 a_9u87 a_10u87 Zu87 hIu87 hFu87 u87_0 u87_1 u87_2 u87_3 u87_4  hmu87
                    unfold hA_findOrAdd_172_s
                    refine ok.ite (fun c88 => ?_) (fun c88 => ?_)
                    · skip
                      refine ok.ck (show 0 ≤ a_8u87.toInt ∧ a_8u87.toInt < ((1549 : Nat) : Int) from by omega) ?_
                      refine ok.wI (L := [1600]) hIu87 (show True from trivial) (show (1600 : Nat) ∈ [1600] from by decide) (by decide) (fun Z89 hIZ89 hFZ89 hkZ89 hoZ89 => ?_)
                      refine ok.ck (show 0 ≤ a_7u87.toInt ∧ a_7u87.toInt < ((512 : Nat) : Int) from by omega) ?_
                      refine ok.letE (v1 := (Zu87.1 9 (ix a_7u87))) (hFZ89.1 9 (ix a_7u87) (show (1800 : Nat) ∉ [1600] from by decide)) ?_
                      have g90 : -1 ≤ (Zu87.1 9 (ix a_7u87)).toInt ∧ (Zu87.1 9 (ix a_7u87)).toInt ≤ 1548 := hIu87.1 9 (ix a_7u87)
                      refine ok.ck (show 0 ≤ a_8u87.toInt ∧ a_8u87.toInt < ((1549 : Nat) : Int) from by omega) ?_
                      refine ok.wI (L := [2000]) hIZ89 (show -1 ≤ (Zu87.1 9 (ix a_7u87)).toInt ∧ (Zu87.1 9 (ix a_7u87)).toInt ≤ 1548 from by omega) (show (2000 : Nat) ∈ [2000] from by decide) (by decide) (fun Z91 hIZ91 hFZ91 hkZ91 hoZ91 => ?_)
                      refine ok.ck (show 0 ≤ a_7u87.toInt ∧ a_7u87.toInt < ((512 : Nat) : Int) from by omega) ?_
                      refine ok.wI (L := [1800]) hIZ91 (show -1 ≤ a_8u87.toInt ∧ a_8u87.toInt ≤ 1548 from by omega) (show (1800 : Nat) ∈ [1800] from by decide) (by decide) (fun Z92 hIZ92 hFZ92 hkZ92 hoZ92 => ?_)
                      exact ok.ret ⟨((((Fr.rf.tr hFu87 (fun _ q => q)).tr hFZ89 (by decide)).tr hFZ91 (by decide)).tr hFZ92 (by decide)), hIZ92⟩
                    · skip
                      refine ok.mul (show _ ≤ a_8u87.toInt * (5 : Int) ∧ a_8u87.toInt * (5 : Int) ≤ _ from by omega) (fun x19 hx19 => ?_)
                      have hx19 : x19.toInt = a_8u87.toInt * (5 : Int) := hx19
                      refine ok.add (show _ ≤ x19.toInt + a_10u87.toInt ∧ x19.toInt + a_10u87.toInt ≤ _ from by omega) (fun x20 hx20 => ?_)
                      have hx20 : x20.toInt = x19.toInt + a_10u87.toInt := hx20
                      refine ok.add (show _ ≤ a_4u87.toInt + a_10u87.toInt ∧ a_4u87.toInt + a_10u87.toInt ≤ _ from by omega) (fun x21 hx21 => ?_)
                      have hx21 : x21.toInt = a_4u87.toInt + a_10u87.toInt := hx21
                      refine ok.ck (show 0 ≤ x21.toInt ∧ x21.toInt < ((7745 : Nat) : Int) from by omega) ?_
                      refine ok.letE (v1 := (Zu87.1 6 (ix x21))) rfl ?_
                      refine ok.ck (show 0 ≤ x20.toInt ∧ x20.toInt < ((7745 : Nat) : Int) from by omega) ?_
                      refine ok.wI (L := [1200]) hIu87 (show True from trivial) (show (1200 : Nat) ∈ [1200] from by decide) (by decide) (fun Z93 hIZ93 hFZ93 hkZ93 hoZ93 => ?_)
                      refine ok.ite (fun c94 => ?_) (fun c94 => ?_)
                      · skip
                        have g95 := i32_le a_9u87
                        refine ok.add (show _ ≤ a_4u87.toInt + a_10u87.toInt ∧ a_4u87.toInt + a_10u87.toInt ≤ _ from by omega) (fun x25 hx25 => ?_)
                        have hx25 : x25.toInt = a_4u87.toInt + a_10u87.toInt := hx25
                        refine ok.ck (show 0 ≤ x25.toInt ∧ x25.toInt < ((7745 : Nat) : Int) from by omega) ?_
                        refine ok.letE (v1 := (Z93.1 6 (ix x25))) rfl ?_
                        refine ok.bd (v_hA_hasAny hIZ93) ?_
                        rintro x27 _ rfl
                        refine ok.ite (fun c97 => ?_) (fun c97 => ?_)
                        · skip
                          have g98 := i32_le x27
                          unfold hA_findOrAdd_221
                          refine ok.inc (by decide) (show _ ≤ a_10u87.toInt + (1) ∧ a_10u87.toInt + (1) ≤ _ from by omega) (fun x24 hx24 => ?_)
                          have hx24 : x24.toInt = a_10u87.toInt + (1) := hx24
                          exact ih_u87 a_2u87 a_4u87 a_7u87 a_8u87 (0 : Int32) x24 Z93 hIZ93 ((Fr.rf.tr hFu87 (fun _ q => q)).tr hFZ93 (by decide)) (show 0 ≤ a_2u87.toInt ∧ a_2u87.toInt ≤ 4 from by omega) (show 0 ≤ a_4u87.toInt ∧ a_4u87.toInt + a_2u87.toInt ≤ 7745 from by omega) (show 0 ≤ a_7u87.toInt ∧ a_7u87.toInt ≤ 511 from by omega) (show 0 ≤ a_8u87.toInt ∧ a_8u87.toInt ≤ 1548 from by omega) (show 0 ≤ x24.toInt ∧ x24.toInt ≤ 5 from by omega) (show (5 - x24.toInt).toNat < _ from by omega)
                        · skip
                          unfold hA_findOrAdd_216
                          unfold hA_findOrAdd_221
                          refine ok.inc (by decide) (show _ ≤ a_10u87.toInt + (1) ∧ a_10u87.toInt + (1) ≤ _ from by omega) (fun x24 hx24 => ?_)
                          have hx24 : x24.toInt = a_10u87.toInt + (1) := hx24
                          exact ih_u87 a_2u87 a_4u87 a_7u87 a_8u87 (1 : Int32) x24 Z93 hIZ93 ((Fr.rf.tr hFu87 (fun _ q => q)).tr hFZ93 (by decide)) (show 0 ≤ a_2u87.toInt ∧ a_2u87.toInt ≤ 4 from by omega) (show 0 ≤ a_4u87.toInt ∧ a_4u87.toInt + a_2u87.toInt ≤ 7745 from by omega) (show 0 ≤ a_7u87.toInt ∧ a_7u87.toInt ≤ 511 from by omega) (show 0 ≤ a_8u87.toInt ∧ a_8u87.toInt ≤ 1548 from by omega) (show 0 ≤ x24.toInt ∧ x24.toInt ≤ 5 from by omega) (show (5 - x24.toInt).toNat < _ from by omega)
                      · skip
                        unfold hA_findOrAdd_216
                        unfold hA_findOrAdd_221
                        refine ok.inc (by decide) (show _ ≤ a_10u87.toInt + (1) ∧ a_10u87.toInt + (1) ≤ _ from by omega) (fun x24 hx24 => ?_)
                        have hx24 : x24.toInt = a_10u87.toInt + (1) := hx24
                        exact ih_u87 a_2u87 a_4u87 a_7u87 a_8u87 (1 : Int32) x24 Z93 hIZ93 ((Fr.rf.tr hFu87 (fun _ q => q)).tr hFZ93 (by decide)) (show 0 ≤ a_2u87.toInt ∧ a_2u87.toInt ≤ 4 from by omega) (show 0 ≤ a_4u87.toInt ∧ a_4u87.toInt + a_2u87.toInt ≤ 7745 from by omega) (show 0 ≤ a_7u87.toInt ∧ a_7u87.toInt ≤ 511 from by omega) (show 0 ≤ a_8u87.toInt ∧ a_8u87.toInt ≤ 1548 from by omega) (show 0 ≤ x24.toInt ∧ x24.toInt ≤ 5 from by omega) (show (5 - x24.toInt).toNat < _ from by omega)
                exact lpu87 BIG a_2u3 a_4u3 a_7u3 (Zu3.1 3 0) (0 : Int32) (0 : Int32) Z72 hIZ72 ((((((Fr.rf.tr hFu3 (fun _ q => q)).tr hFZ68 (by decide)).tr hFZ69 (by decide)).tr hFZ70 (by decide)).tr hFZ71 (by decide)).tr hFZ72 (by decide)) (show 0 ≤ a_2u3.toInt ∧ a_2u3.toInt ≤ 4 from by omega) (show 0 ≤ a_4u3.toInt ∧ a_4u3.toInt + a_2u3.toInt ≤ 7745 from by omega) (show 0 ≤ a_7u3.toInt ∧ a_7u3.toInt ≤ 511 from by omega) (show 0 ≤ (Zu3.1 3 0).toInt ∧ (Zu3.1 3 0).toInt ≤ 1548 from by omega) (show 0 ≤ (0 : Int) ∧ (0 : Int) ≤ 5 from by omega) (show (5 - (0 : Int)).toNat < BIG from ltBIG (show _ < 100000 from by omega))
              · skip
                refine ok.bd (v_hA_hasAny hIZ72) ?_
                rintro x29 _ rfl
                refine ok.ite (fun c100 => ?_) (fun c100 => ?_)
                · skip
                  have g101 := i32_le x29
                  unfold hA_findOrAdd_166
                  unfold hA_findOrAdd_167
                  have lpu102 : ∀ (n : Nat), ∀ (a_2u102 : Int32) (a_4u102 : Int32) (a_7u102 : Int32) (a_8u102 : Int32) (a_9u102 : Int32) (a_10u102 : Int32) (Zu102 : St), INV Zu102 → Fr YC Qv0 X Zu102 → (0 ≤ a_2u102.toInt ∧ a_2u102.toInt ≤ 4) → (0 ≤ a_4u102.toInt ∧ a_4u102.toInt + a_2u102.toInt ≤ 7745) → (0 ≤ a_7u102.toInt ∧ a_7u102.toInt ≤ 511) → (0 ≤ a_8u102.toInt ∧ a_8u102.toInt ≤ 1548) → (0 ≤ a_10u102.toInt ∧ a_10u102.toInt ≤ 5) → (5 - a_10u102.toInt).toNat < n → ok (hA_findOrAdd_172 n a_2u102 6 a_4u102 a_7u102 a_8u102 a_9u102 a_10u102 Zu102) (fun r Y => (Fr YC Qv0 X Y ∧ INV Y)) := by
                    intro n
                    unfold hA_findOrAdd_172
                    refine lp_indN (P := fun (n : Nat) (r_u102 : Int32 → Nat → Int32 → Int32 → Int32 → Int32 → Int32 → St → Option (Int32 × St)) => ∀ (a_2u102 : Int32) (a_4u102 : Int32) (a_7u102 : Int32) (a_8u102 : Int32) (a_9u102 : Int32) (a_10u102 : Int32) (Zu102 : St), INV Zu102 → Fr YC Qv0 X Zu102 → (0 ≤ a_2u102.toInt ∧ a_2u102.toInt ≤ 4) → (0 ≤ a_4u102.toInt ∧ a_4u102.toInt + a_2u102.toInt ≤ 7745) → (0 ≤ a_7u102.toInt ∧ a_7u102.toInt ≤ 511) → (0 ≤ a_8u102.toInt ∧ a_8u102.toInt ≤ 1548) → (0 ≤ a_10u102.toInt ∧ a_10u102.toInt ≤ 5) → (5 - a_10u102.toInt).toNat < n → ok (r_u102 a_2u102 6 a_4u102 a_7u102 a_8u102 a_9u102 a_10u102 Zu102) (fun r Y => (Fr YC Qv0 X Y ∧ INV Y))) ?_ ?_ n
                    · intro a_2u102 a_4u102 a_7u102 a_8u102 a_9u102 a_10u102 Zu102 hIu102 hFu102 u102_0 u102_1 u102_2 u102_3 u102_4  hm; exact absurd hm (Nat.not_lt_zero _)
                    · intro n r_u102 ih_u102 a_2u102 a_4u102 a_7u102 a_8u102 a_9u102 a_10u102 Zu102 hIu102 hFu102 u102_0 u102_1 u102_2 u102_3 u102_4  hmu102
                      unfold hA_findOrAdd_172_s
                      refine ok.ite (fun c103 => ?_) (fun c103 => ?_)
                      · skip
                        refine ok.ck (show 0 ≤ a_8u102.toInt ∧ a_8u102.toInt < ((1549 : Nat) : Int) from by omega) ?_
                        refine ok.wI (L := [1600]) hIu102 (show True from trivial) (show (1600 : Nat) ∈ [1600] from by decide) (by decide) (fun Z104 hIZ104 hFZ104 hkZ104 hoZ104 => ?_)
                        refine ok.ck (show 0 ≤ a_7u102.toInt ∧ a_7u102.toInt < ((512 : Nat) : Int) from by omega) ?_
                        refine ok.letE (v1 := (Zu102.1 9 (ix a_7u102))) (hFZ104.1 9 (ix a_7u102) (show (1800 : Nat) ∉ [1600] from by decide)) ?_
                        have g105 : -1 ≤ (Zu102.1 9 (ix a_7u102)).toInt ∧ (Zu102.1 9 (ix a_7u102)).toInt ≤ 1548 := hIu102.1 9 (ix a_7u102)
                        refine ok.ck (show 0 ≤ a_8u102.toInt ∧ a_8u102.toInt < ((1549 : Nat) : Int) from by omega) ?_
                        refine ok.wI (L := [2000]) hIZ104 (show -1 ≤ (Zu102.1 9 (ix a_7u102)).toInt ∧ (Zu102.1 9 (ix a_7u102)).toInt ≤ 1548 from by omega) (show (2000 : Nat) ∈ [2000] from by decide) (by decide) (fun Z106 hIZ106 hFZ106 hkZ106 hoZ106 => ?_)
                        refine ok.ck (show 0 ≤ a_7u102.toInt ∧ a_7u102.toInt < ((512 : Nat) : Int) from by omega) ?_
                        refine ok.wI (L := [1800]) hIZ106 (show -1 ≤ a_8u102.toInt ∧ a_8u102.toInt ≤ 1548 from by omega) (show (1800 : Nat) ∈ [1800] from by decide) (by decide) (fun Z107 hIZ107 hFZ107 hkZ107 hoZ107 => ?_)
                        exact ok.ret ⟨((((Fr.rf.tr hFu102 (fun _ q => q)).tr hFZ104 (by decide)).tr hFZ106 (by decide)).tr hFZ107 (by decide)), hIZ107⟩
                      · skip
                        refine ok.mul (show _ ≤ a_8u102.toInt * (5 : Int) ∧ a_8u102.toInt * (5 : Int) ≤ _ from by omega) (fun x19 hx19 => ?_)
                        have hx19 : x19.toInt = a_8u102.toInt * (5 : Int) := hx19
                        refine ok.add (show _ ≤ x19.toInt + a_10u102.toInt ∧ x19.toInt + a_10u102.toInt ≤ _ from by omega) (fun x20 hx20 => ?_)
                        have hx20 : x20.toInt = x19.toInt + a_10u102.toInt := hx20
                        refine ok.add (show _ ≤ a_4u102.toInt + a_10u102.toInt ∧ a_4u102.toInt + a_10u102.toInt ≤ _ from by omega) (fun x21 hx21 => ?_)
                        have hx21 : x21.toInt = a_4u102.toInt + a_10u102.toInt := hx21
                        refine ok.ck (show 0 ≤ x21.toInt ∧ x21.toInt < ((7745 : Nat) : Int) from by omega) ?_
                        refine ok.letE (v1 := (Zu102.1 6 (ix x21))) rfl ?_
                        refine ok.ck (show 0 ≤ x20.toInt ∧ x20.toInt < ((7745 : Nat) : Int) from by omega) ?_
                        refine ok.wI (L := [1200]) hIu102 (show True from trivial) (show (1200 : Nat) ∈ [1200] from by decide) (by decide) (fun Z108 hIZ108 hFZ108 hkZ108 hoZ108 => ?_)
                        refine ok.ite (fun c109 => ?_) (fun c109 => ?_)
                        · skip
                          have g110 := i32_le a_9u102
                          refine ok.add (show _ ≤ a_4u102.toInt + a_10u102.toInt ∧ a_4u102.toInt + a_10u102.toInt ≤ _ from by omega) (fun x25 hx25 => ?_)
                          have hx25 : x25.toInt = a_4u102.toInt + a_10u102.toInt := hx25
                          refine ok.ck (show 0 ≤ x25.toInt ∧ x25.toInt < ((7745 : Nat) : Int) from by omega) ?_
                          refine ok.letE (v1 := (Z108.1 6 (ix x25))) rfl ?_
                          refine ok.bd (v_hA_hasAny hIZ108) ?_
                          rintro x27 _ rfl
                          refine ok.ite (fun c112 => ?_) (fun c112 => ?_)
                          · skip
                            have g113 := i32_le x27
                            unfold hA_findOrAdd_221
                            refine ok.inc (by decide) (show _ ≤ a_10u102.toInt + (1) ∧ a_10u102.toInt + (1) ≤ _ from by omega) (fun x24 hx24 => ?_)
                            have hx24 : x24.toInt = a_10u102.toInt + (1) := hx24
                            exact ih_u102 a_2u102 a_4u102 a_7u102 a_8u102 (0 : Int32) x24 Z108 hIZ108 ((Fr.rf.tr hFu102 (fun _ q => q)).tr hFZ108 (by decide)) (show 0 ≤ a_2u102.toInt ∧ a_2u102.toInt ≤ 4 from by omega) (show 0 ≤ a_4u102.toInt ∧ a_4u102.toInt + a_2u102.toInt ≤ 7745 from by omega) (show 0 ≤ a_7u102.toInt ∧ a_7u102.toInt ≤ 511 from by omega) (show 0 ≤ a_8u102.toInt ∧ a_8u102.toInt ≤ 1548 from by omega) (show 0 ≤ x24.toInt ∧ x24.toInt ≤ 5 from by omega) (show (5 - x24.toInt).toNat < _ from by omega)
                          · skip
                            unfold hA_findOrAdd_216
                            unfold hA_findOrAdd_221
                            refine ok.inc (by decide) (show _ ≤ a_10u102.toInt + (1) ∧ a_10u102.toInt + (1) ≤ _ from by omega) (fun x24 hx24 => ?_)
                            have hx24 : x24.toInt = a_10u102.toInt + (1) := hx24
                            exact ih_u102 a_2u102 a_4u102 a_7u102 a_8u102 (1 : Int32) x24 Z108 hIZ108 ((Fr.rf.tr hFu102 (fun _ q => q)).tr hFZ108 (by decide)) (show 0 ≤ a_2u102.toInt ∧ a_2u102.toInt ≤ 4 from by omega) (show 0 ≤ a_4u102.toInt ∧ a_4u102.toInt + a_2u102.toInt ≤ 7745 from by omega) (show 0 ≤ a_7u102.toInt ∧ a_7u102.toInt ≤ 511 from by omega) (show 0 ≤ a_8u102.toInt ∧ a_8u102.toInt ≤ 1548 from by omega) (show 0 ≤ x24.toInt ∧ x24.toInt ≤ 5 from by omega) (show (5 - x24.toInt).toNat < _ from by omega)
                        · skip
                          unfold hA_findOrAdd_216
                          unfold hA_findOrAdd_221
                          refine ok.inc (by decide) (show _ ≤ a_10u102.toInt + (1) ∧ a_10u102.toInt + (1) ≤ _ from by omega) (fun x24 hx24 => ?_)
                          have hx24 : x24.toInt = a_10u102.toInt + (1) := hx24
                          exact ih_u102 a_2u102 a_4u102 a_7u102 a_8u102 (1 : Int32) x24 Z108 hIZ108 ((Fr.rf.tr hFu102 (fun _ q => q)).tr hFZ108 (by decide)) (show 0 ≤ a_2u102.toInt ∧ a_2u102.toInt ≤ 4 from by omega) (show 0 ≤ a_4u102.toInt ∧ a_4u102.toInt + a_2u102.toInt ≤ 7745 from by omega) (show 0 ≤ a_7u102.toInt ∧ a_7u102.toInt ≤ 511 from by omega) (show 0 ≤ a_8u102.toInt ∧ a_8u102.toInt ≤ 1548 from by omega) (show 0 ≤ x24.toInt ∧ x24.toInt ≤ 5 from by omega) (show (5 - x24.toInt).toNat < _ from by omega)
                  exact lpu102 BIG a_2u3 a_4u3 a_7u3 (Zu3.1 3 0) (0 : Int32) (0 : Int32) Z72 hIZ72 ((((((Fr.rf.tr hFu3 (fun _ q => q)).tr hFZ68 (by decide)).tr hFZ69 (by decide)).tr hFZ70 (by decide)).tr hFZ71 (by decide)).tr hFZ72 (by decide)) (show 0 ≤ a_2u3.toInt ∧ a_2u3.toInt ≤ 4 from by omega) (show 0 ≤ a_4u3.toInt ∧ a_4u3.toInt + a_2u3.toInt ≤ 7745 from by omega) (show 0 ≤ a_7u3.toInt ∧ a_7u3.toInt ≤ 511 from by omega) (show 0 ≤ (Zu3.1 3 0).toInt ∧ (Zu3.1 3 0).toInt ≤ 1548 from by omega) (show 0 ≤ (0 : Int) ∧ (0 : Int) ≤ 5 from by omega) (show (5 - (0 : Int)).toNat < BIG from ltBIG (show _ < 100000 from by omega))
                · skip
                  unfold hA_findOrAdd_162
                  unfold hA_findOrAdd_167
                  have lpu114 : ∀ (n : Nat), ∀ (a_2u114 : Int32) (a_4u114 : Int32) (a_7u114 : Int32) (a_8u114 : Int32) (a_9u114 : Int32) (a_10u114 : Int32) (Zu114 : St), INV Zu114 → Fr YC Qv0 X Zu114 → (0 ≤ a_2u114.toInt ∧ a_2u114.toInt ≤ 4) → (0 ≤ a_4u114.toInt ∧ a_4u114.toInt + a_2u114.toInt ≤ 7745) → (0 ≤ a_7u114.toInt ∧ a_7u114.toInt ≤ 511) → (0 ≤ a_8u114.toInt ∧ a_8u114.toInt ≤ 1548) → (0 ≤ a_10u114.toInt ∧ a_10u114.toInt ≤ 5) → (5 - a_10u114.toInt).toNat < n → ok (hA_findOrAdd_172 n a_2u114 6 a_4u114 a_7u114 a_8u114 a_9u114 a_10u114 Zu114) (fun r Y => (Fr YC Qv0 X Y ∧ INV Y)) := by
                    intro n
                    unfold hA_findOrAdd_172
                    refine lp_indN (P := fun (n : Nat) (r_u114 : Int32 → Nat → Int32 → Int32 → Int32 → Int32 → Int32 → St → Option (Int32 × St)) => ∀ (a_2u114 : Int32) (a_4u114 : Int32) (a_7u114 : Int32) (a_8u114 : Int32) (a_9u114 : Int32) (a_10u114 : Int32) (Zu114 : St), INV Zu114 → Fr YC Qv0 X Zu114 → (0 ≤ a_2u114.toInt ∧ a_2u114.toInt ≤ 4) → (0 ≤ a_4u114.toInt ∧ a_4u114.toInt + a_2u114.toInt ≤ 7745) → (0 ≤ a_7u114.toInt ∧ a_7u114.toInt ≤ 511) → (0 ≤ a_8u114.toInt ∧ a_8u114.toInt ≤ 1548) → (0 ≤ a_10u114.toInt ∧ a_10u114.toInt ≤ 5) → (5 - a_10u114.toInt).toNat < n → ok (r_u114 a_2u114 6 a_4u114 a_7u114 a_8u114 a_9u114 a_10u114 Zu114) (fun r Y => (Fr YC Qv0 X Y ∧ INV Y))) ?_ ?_ n
                    · intro a_2u114 a_4u114 a_7u114 a_8u114 a_9u114 a_10u114 Zu114 hIu114 hFu114 u114_0 u114_1 u114_2 u114_3 u114_4  hm; exact absurd hm (Nat.not_lt_zero _)
                    · intro n r_u114 ih_u114 a_2u114 a_4u114 a_7u114 a_8u114 a_9u114 a_10u114 Zu114 hIu114 hFu114 u114_0 u114_1 u114_2 u114_3 u114_4  hmu114
                      unfold hA_findOrAdd_172_s
                      refine ok.ite (fun c115 => ?_) (fun c115 => ?_)
                      · skip
                        refine ok.ck (show 0 ≤ a_8u114.toInt ∧ a_8u114.toInt < ((1549 : Nat) : Int) from by omega) ?_
                        refine ok.wI (L := [1600]) hIu114 (show True from trivial) (show (1600 : Nat) ∈ [1600] from by decide) (by decide) (fun Z116 hIZ116 hFZ116 hkZ116 hoZ116 => ?_)
                        refine ok.ck (show 0 ≤ a_7u114.toInt ∧ a_7u114.toInt < ((512 : Nat) : Int) from by omega) ?_
                        refine ok.letE (v1 := (Zu114.1 9 (ix a_7u114))) (hFZ116.1 9 (ix a_7u114) (show (1800 : Nat) ∉ [1600] from by decide)) ?_
                        have g117 : -1 ≤ (Zu114.1 9 (ix a_7u114)).toInt ∧ (Zu114.1 9 (ix a_7u114)).toInt ≤ 1548 := hIu114.1 9 (ix a_7u114)
                        refine ok.ck (show 0 ≤ a_8u114.toInt ∧ a_8u114.toInt < ((1549 : Nat) : Int) from by omega) ?_
                        refine ok.wI (L := [2000]) hIZ116 (show -1 ≤ (Zu114.1 9 (ix a_7u114)).toInt ∧ (Zu114.1 9 (ix a_7u114)).toInt ≤ 1548 from by omega) (show (2000 : Nat) ∈ [2000] from by decide) (by decide) (fun Z118 hIZ118 hFZ118 hkZ118 hoZ118 => ?_)
                        refine ok.ck (show 0 ≤ a_7u114.toInt ∧ a_7u114.toInt < ((512 : Nat) : Int) from by omega) ?_
                        refine ok.wI (L := [1800]) hIZ118 (show -1 ≤ a_8u114.toInt ∧ a_8u114.toInt ≤ 1548 from by omega) (show (1800 : Nat) ∈ [1800] from by decide) (by decide) (fun Z119 hIZ119 hFZ119 hkZ119 hoZ119 => ?_)
                        exact ok.ret ⟨((((Fr.rf.tr hFu114 (fun _ q => q)).tr hFZ116 (by decide)).tr hFZ118 (by decide)).tr hFZ119 (by decide)), hIZ119⟩
                      · skip
                        refine ok.mul (show _ ≤ a_8u114.toInt * (5 : Int) ∧ a_8u114.toInt * (5 : Int) ≤ _ from by omega) (fun x19 hx19 => ?_)
                        have hx19 : x19.toInt = a_8u114.toInt * (5 : Int) := hx19
                        refine ok.add (show _ ≤ x19.toInt + a_10u114.toInt ∧ x19.toInt + a_10u114.toInt ≤ _ from by omega) (fun x20 hx20 => ?_)
                        have hx20 : x20.toInt = x19.toInt + a_10u114.toInt := hx20
                        refine ok.add (show _ ≤ a_4u114.toInt + a_10u114.toInt ∧ a_4u114.toInt + a_10u114.toInt ≤ _ from by omega) (fun x21 hx21 => ?_)
                        have hx21 : x21.toInt = a_4u114.toInt + a_10u114.toInt := hx21
                        refine ok.ck (show 0 ≤ x21.toInt ∧ x21.toInt < ((7745 : Nat) : Int) from by omega) ?_
                        refine ok.letE (v1 := (Zu114.1 6 (ix x21))) rfl ?_
                        refine ok.ck (show 0 ≤ x20.toInt ∧ x20.toInt < ((7745 : Nat) : Int) from by omega) ?_
                        refine ok.wI (L := [1200]) hIu114 (show True from trivial) (show (1200 : Nat) ∈ [1200] from by decide) (by decide) (fun Z120 hIZ120 hFZ120 hkZ120 hoZ120 => ?_)
                        refine ok.ite (fun c121 => ?_) (fun c121 => ?_)
                        · skip
                          have g122 := i32_le a_9u114
                          refine ok.add (show _ ≤ a_4u114.toInt + a_10u114.toInt ∧ a_4u114.toInt + a_10u114.toInt ≤ _ from by omega) (fun x25 hx25 => ?_)
                          have hx25 : x25.toInt = a_4u114.toInt + a_10u114.toInt := hx25
                          refine ok.ck (show 0 ≤ x25.toInt ∧ x25.toInt < ((7745 : Nat) : Int) from by omega) ?_
                          refine ok.letE (v1 := (Z120.1 6 (ix x25))) rfl ?_
                          refine ok.bd (v_hA_hasAny hIZ120) ?_
                          rintro x27 _ rfl
                          refine ok.ite (fun c124 => ?_) (fun c124 => ?_)
                          · skip
                            have g125 := i32_le x27
                            unfold hA_findOrAdd_221
                            refine ok.inc (by decide) (show _ ≤ a_10u114.toInt + (1) ∧ a_10u114.toInt + (1) ≤ _ from by omega) (fun x24 hx24 => ?_)
                            have hx24 : x24.toInt = a_10u114.toInt + (1) := hx24
                            exact ih_u114 a_2u114 a_4u114 a_7u114 a_8u114 (0 : Int32) x24 Z120 hIZ120 ((Fr.rf.tr hFu114 (fun _ q => q)).tr hFZ120 (by decide)) (show 0 ≤ a_2u114.toInt ∧ a_2u114.toInt ≤ 4 from by omega) (show 0 ≤ a_4u114.toInt ∧ a_4u114.toInt + a_2u114.toInt ≤ 7745 from by omega) (show 0 ≤ a_7u114.toInt ∧ a_7u114.toInt ≤ 511 from by omega) (show 0 ≤ a_8u114.toInt ∧ a_8u114.toInt ≤ 1548 from by omega) (show 0 ≤ x24.toInt ∧ x24.toInt ≤ 5 from by omega) (show (5 - x24.toInt).toNat < _ from by omega)
                          · skip
                            unfold hA_findOrAdd_216
                            unfold hA_findOrAdd_221
                            refine ok.inc (by decide) (show _ ≤ a_10u114.toInt + (1) ∧ a_10u114.toInt + (1) ≤ _ from by omega) (fun x24 hx24 => ?_)
                            have hx24 : x24.toInt = a_10u114.toInt + (1) := hx24
                            exact ih_u114 a_2u114 a_4u114 a_7u114 a_8u114 (1 : Int32) x24 Z120 hIZ120 ((Fr.rf.tr hFu114 (fun _ q => q)).tr hFZ120 (by decide)) (show 0 ≤ a_2u114.toInt ∧ a_2u114.toInt ≤ 4 from by omega) (show 0 ≤ a_4u114.toInt ∧ a_4u114.toInt + a_2u114.toInt ≤ 7745 from by omega) (show 0 ≤ a_7u114.toInt ∧ a_7u114.toInt ≤ 511 from by omega) (show 0 ≤ a_8u114.toInt ∧ a_8u114.toInt ≤ 1548 from by omega) (show 0 ≤ x24.toInt ∧ x24.toInt ≤ 5 from by omega) (show (5 - x24.toInt).toNat < _ from by omega)
                        · skip
                          unfold hA_findOrAdd_216
                          unfold hA_findOrAdd_221
                          refine ok.inc (by decide) (show _ ≤ a_10u114.toInt + (1) ∧ a_10u114.toInt + (1) ≤ _ from by omega) (fun x24 hx24 => ?_)
                          have hx24 : x24.toInt = a_10u114.toInt + (1) := hx24
                          exact ih_u114 a_2u114 a_4u114 a_7u114 a_8u114 (1 : Int32) x24 Z120 hIZ120 ((Fr.rf.tr hFu114 (fun _ q => q)).tr hFZ120 (by decide)) (show 0 ≤ a_2u114.toInt ∧ a_2u114.toInt ≤ 4 from by omega) (show 0 ≤ a_4u114.toInt ∧ a_4u114.toInt + a_2u114.toInt ≤ 7745 from by omega) (show 0 ≤ a_7u114.toInt ∧ a_7u114.toInt ≤ 511 from by omega) (show 0 ≤ a_8u114.toInt ∧ a_8u114.toInt ≤ 1548 from by omega) (show 0 ≤ x24.toInt ∧ x24.toInt ≤ 5 from by omega) (show (5 - x24.toInt).toNat < _ from by omega)
                  exact lpu114 BIG a_2u3 a_4u3 a_7u3 (Zu3.1 3 0) (1 : Int32) (0 : Int32) Z72 hIZ72 ((((((Fr.rf.tr hFu3 (fun _ q => q)).tr hFZ68 (by decide)).tr hFZ69 (by decide)).tr hFZ70 (by decide)).tr hFZ71 (by decide)).tr hFZ72 (by decide)) (show 0 ≤ a_2u3.toInt ∧ a_2u3.toInt ≤ 4 from by omega) (show 0 ≤ a_4u3.toInt ∧ a_4u3.toInt + a_2u3.toInt ≤ 7745 from by omega) (show 0 ≤ a_7u3.toInt ∧ a_7u3.toInt ≤ 511 from by omega) (show 0 ≤ (Zu3.1 3 0).toInt ∧ (Zu3.1 3 0).toInt ≤ 1548 from by omega) (show 0 ≤ (0 : Int) ∧ (0 : Int) ≤ 5 from by omega) (show (5 - (0 : Int)).toNat < BIG from ltBIG (show _ < 100000 from by omega))
          · skip
            exact ok.ret ⟨(Fr.rf.tr hFu3 (fun _ q => q)), hIu3⟩
        · skip
          refine ok.ck (show 0 ≤ a_8u3.toInt ∧ a_8u3.toInt < ((1549 : Nat) : Int) from by omega) ?_
          refine ok.letE (v1 := (Zu3.1 4 (ix a_8u3))) rfl ?_
          refine ok.ite (fun c126 => ?_) (fun c126 => ?_)
          · skip
            have g127 := i32_le (Zu3.1 4 (ix a_8u3))
            refine ok.bd (v_hA_isSame_6 hIu3 (show 0 ≤ a_8u3.toInt ∧ a_8u3.toInt ≤ 1548 from by omega) (show 0 ≤ a_2u3.toInt ∧ a_2u3.toInt ≤ 4 from by omega) (show 0 ≤ a_4u3.toInt ∧ a_4u3.toInt + a_2u3.toInt ≤ 7745 from by omega)) ?_
            rintro x34 _ rfl
            refine ok.ite (fun c129 => ?_) (fun c129 => ?_)
            · skip
              have g130 := i32_le x34
              unfold hA_findOrAdd_62
              refine ok.ck (show 0 ≤ a_8u3.toInt ∧ a_8u3.toInt < ((1549 : Nat) : Int) from by omega) ?_
              refine ok.letE (v1 := (Zu3.1 10 (ix a_8u3))) rfl ?_
              have g131 : -1 ≤ (Zu3.1 10 (ix a_8u3)).toInt ∧ (Zu3.1 10 (ix a_8u3)).toInt ≤ 1548 := hIu3.1 10 (ix a_8u3)
              refine ok.inc (by decide) (show _ ≤ a_9u3.toInt + (1) ∧ a_9u3.toInt + (1) ≤ _ from by omega) (fun x33 hx33 => ?_)
              have hx33 : x33.toInt = a_9u3.toInt + (1) := hx33
              exact ih_u3 a_1u3 a_2u3 a_4u3 a_5u3 a_6u3 a_7u3 (Zu3.1 10 (ix a_8u3)) x33 Zu3 hIu3 (Fr.rf.tr hFu3 (fun _ q => q)) (show 0 ≤ a_1u3.toInt ∧ a_1u3.toInt ≤ 4 from by omega) (show 0 ≤ a_2u3.toInt ∧ a_2u3.toInt ≤ 4 from by omega) (show 0 ≤ a_4u3.toInt ∧ a_4u3.toInt + a_2u3.toInt ≤ 7745 from by omega) (show 0 ≤ a_7u3.toInt ∧ a_7u3.toInt ≤ 511 from by omega) (show -1 ≤ (Zu3.1 10 (ix a_8u3)).toInt ∧ (Zu3.1 10 (ix a_8u3)).toInt ≤ 1548 from by omega) (show 0 ≤ x33.toInt ∧ x33.toInt ≤ 1549 from by omega) (show (1550 - x33.toInt).toNat < _ from by omega)
            · skip
              exact ok.ret ⟨(Fr.rf.tr hFu3 (fun _ q => q)), hIu3⟩
          · skip
            unfold hA_findOrAdd_62
            refine ok.ck (show 0 ≤ a_8u3.toInt ∧ a_8u3.toInt < ((1549 : Nat) : Int) from by omega) ?_
            refine ok.letE (v1 := (Zu3.1 10 (ix a_8u3))) rfl ?_
            have g132 : -1 ≤ (Zu3.1 10 (ix a_8u3)).toInt ∧ (Zu3.1 10 (ix a_8u3)).toInt ≤ 1548 := hIu3.1 10 (ix a_8u3)
            refine ok.inc (by decide) (show _ ≤ a_9u3.toInt + (1) ∧ a_9u3.toInt + (1) ≤ _ from by omega) (fun x33 hx33 => ?_)
            have hx33 : x33.toInt = a_9u3.toInt + (1) := hx33
            exact ih_u3 a_1u3 a_2u3 a_4u3 a_5u3 a_6u3 a_7u3 (Zu3.1 10 (ix a_8u3)) x33 Zu3 hIu3 (Fr.rf.tr hFu3 (fun _ q => q)) (show 0 ≤ a_1u3.toInt ∧ a_1u3.toInt ≤ 4 from by omega) (show 0 ≤ a_2u3.toInt ∧ a_2u3.toInt ≤ 4 from by omega) (show 0 ≤ a_4u3.toInt ∧ a_4u3.toInt + a_2u3.toInt ≤ 7745 from by omega) (show 0 ≤ a_7u3.toInt ∧ a_7u3.toInt ≤ 511 from by omega) (show -1 ≤ (Zu3.1 10 (ix a_8u3)).toInt ∧ (Zu3.1 10 (ix a_8u3)).toInt ≤ 1548 from by omega) (show 0 ≤ x33.toInt ∧ x33.toInt ≤ 1549 from by omega) (show (1550 - x33.toInt).toNat < _ from by omega)
  exact lpu3 BIG p1 p2 p4 p5 p6 x1 (X.1 9 (ix x1)) (0 : Int32) X hI (Fr.rf : Fr YC Qv0 _ _) (show 0 ≤ p1.toInt ∧ p1.toInt ≤ 4 from by omega) (show 0 ≤ p2.toInt ∧ p2.toInt ≤ 4 from by omega) (show 0 ≤ p4.toInt ∧ p4.toInt + p2.toInt ≤ 7745 from by omega) (show 0 ≤ x1.toInt ∧ x1.toInt ≤ 511 from by omega) (show -1 ≤ (X.1 9 (ix x1)).toInt ∧ (X.1 9 (ix x1)).toInt ≤ 1548 from by omega) (show 0 ≤ (0 : Int) ∧ (0 : Int) ≤ 1549 from by omega) (show (1550 - (0 : Int)).toNat < BIG from ltBIG (show _ < 100000 from by omega))
set_option maxHeartbeats 4000000 in
theorem v_hA_rowOf {p1 : Int32} {X : St} (hI : INV X) : ok (hA_rowOf p1 X) (fun r Y => (Fr YC Qv0 X Y ∧ INV Y)) := by
  unfold hA_rowOf
  refine ok.bd (v_hA_codeOf hI) ?_
  rintro x1 _ rfl
  refine ok.any (fun x3 => ?_)
  refine ok.any (fun x4 => ?_)
  refine ok.bd (v_hA_findOrAdd_6 hI (show 0 ≤ (3 : Int) ∧ (3 : Int) ≤ 4 from by omega) (show 0 ≤ (0 : Int) ∧ (0 : Int) ≤ 4 from by omega) (show 0 ≤ (0 : Int) ∧ (0 : Int) + (0 : Int) ≤ 7745 from by omega)) ?_
  rintro x5 Z3 ⟨hFZ3, hIZ3⟩
  exact ok.ret ⟨(Fr.rf.tr hFZ3 (fun _ q => q)), hIZ3⟩
theorem nr_hA_codeOf {φ : Nat → Nat → Nat} {p1 : Int32} {X : St} (h : X.2.2 = φ) : nr φ (hA_codeOf p1 X) := by
  unfold hA_codeOf
  refine nr.ite ?_ ?_
  · exact nr.ret h
  · refine nr.lv (fun x1 => ?_)
    refine nr.ite ?_ ?_
    · exact nr.ret h
    · refine nr.ck ?_
      refine nr.lv (fun x2 => ?_)
      exact nr.ret h
theorem nr_hA_rowOf {φ : Nat → Nat → Nat} {p1 : Int32} {X : St} (h : X.2.2 = φ) : nr φ (hA_rowOf p1 X) := by
  unfold hA_rowOf
  refine nr.bd (nr_hA_codeOf h) (fun x1 X2 hX2 => ?_)
  refine nr.lv (fun x3 => ?_)
  refine nr.lv (fun x4 => ?_)
  refine nr.bd (nr_hA_findOrAdd hX2) (fun x5 X6 hX6 => ?_)
  exact nr.ret hX6
set_option maxHeartbeats 4000000 in
theorem v_hA_functionOf_11 {p2 : Int32} {p3 : Int32} {p4 : Int32} {X : St} (hI : INV X) : ok (hA_functionOf 11 p2 p3 p4 X) (fun r Y => (Fr YC Qv0 X Y ∧ INV Y)) := by
  unfold hA_functionOf
  refine ok.ite (fun c1 => ?_) (fun c1 => ?_)
  · skip
    have g2 := i32_le p3
    exact ok.ret ⟨(Fr.rf : Fr YC Qv0 _ _), hI⟩
  · skip
    have g3 := i32_le p3
    refine ok.ite (fun c4 => ?_) (fun c4 => ?_)
    · skip
      exact ok.ret ⟨(Fr.rf : Fr YC Qv0 _ _), hI⟩
    · skip
      refine ok.ite (fun c5 => ?_) (fun c5 => ?_)
      · skip
        have g6 := i32_le p2
        exact ok.ret ⟨(Fr.rf : Fr YC Qv0 _ _), hI⟩
      · skip
        have g7 := i32_le p2
        refine ok.letE (v1 := (4 : Int32)) (by decide) ?_
        refine ok.sub (show _ ≤ (4 : Int) - p3.toInt ∧ (4 : Int) - p3.toInt ≤ _ from by omega) (fun x2 hx2 => ?_)
        have hx2 : x2.toInt = (4 : Int) - p3.toInt := hx2
        refine ok.ite (fun c8 => ?_) (fun c8 => ?_)
        · skip
          refine ok.add (show _ ≤ (7 : Int) + p3.toInt ∧ (7 : Int) + p3.toInt ≤ _ from by omega) (fun x3 hx3 => ?_)
          have hx3 : x3.toInt = (7 : Int) + p3.toInt := hx3
          have lpu9 : ∀ (n : Nat), ∀ (a_2u9 : Int32) (a_3u9 : Int32) (a_4u9 : Int32) (a_5u9 : Int32) (a_6u9 : Int32) (Zu9 : St), INV Zu9 → Fr YC Qv0 X Zu9 → (0 ≤ a_3u9.toInt ∧ a_3u9.toInt ≤ 4) → (0 ≤ a_2u9.toInt ∧ a_2u9.toInt + a_3u9.toInt ≤ 4) → (0 ≤ a_6u9.toInt ∧ a_6u9.toInt ≤ 5) → (5 - a_6u9.toInt).toNat < n → ok (hA_functionOf_32 n 11 a_2u9 a_3u9 a_4u9 a_5u9 a_6u9 Zu9) (fun r Y => (Fr YC Qv0 X Y ∧ INV Y)) := by
            intro n
            unfold hA_functionOf_32
            refine lp_indN (P := fun (n : Nat) (r_u9 : Nat → Int32 → Int32 → Int32 → Int32 → Int32 → St → Option (Int32 × St)) => ∀ (a_2u9 : Int32) (a_3u9 : Int32) (a_4u9 : Int32) (a_5u9 : Int32) (a_6u9 : Int32) (Zu9 : St), INV Zu9 → Fr YC Qv0 X Zu9 → (0 ≤ a_3u9.toInt ∧ a_3u9.toInt ≤ 4) → (0 ≤ a_2u9.toInt ∧ a_2u9.toInt + a_3u9.toInt ≤ 4) → (0 ≤ a_6u9.toInt ∧ a_6u9.toInt ≤ 5) → (5 - a_6u9.toInt).toNat < n → ok (r_u9 11 a_2u9 a_3u9 a_4u9 a_5u9 a_6u9 Zu9) (fun r Y => (Fr YC Qv0 X Y ∧ INV Y))) ?_ ?_ n
            · intro a_2u9 a_3u9 a_4u9 a_5u9 a_6u9 Zu9 hIu9 hFu9 u9_0 u9_1 u9_2  hm; exact absurd hm (Nat.not_lt_zero _)
            · intro n r_u9 ih_u9 a_2u9 a_3u9 a_4u9 a_5u9 a_6u9 Zu9 hIu9 hFu9 u9_0 u9_1 u9_2  hmu9
              unfold hA_functionOf_32_s
              refine ok.ite (fun c10 => ?_) (fun c10 => ?_)
              · skip
                refine ok.any (fun x4 => ?_)
                refine ok.bd (v_hA_codeOf hIu9) ?_
                rintro x5 _ rfl
                refine ok.any (fun x7 => ?_)
                refine ok.bd (v_hA_findOrAdd_11 hIu9 (show 0 ≤ (4 : Int) ∧ (4 : Int) ≤ 4 from by omega) (show 0 ≤ a_3u9.toInt ∧ a_3u9.toInt ≤ 4 from by omega) (show 0 ≤ a_2u9.toInt ∧ a_2u9.toInt + a_3u9.toInt ≤ 4 from by omega)) ?_
                rintro x8 Z13 ⟨hFZ13, hIZ13⟩
                exact ok.ret ⟨((Fr.rf.tr hFu9 (fun _ q => q)).tr hFZ13 (fun _ q => q)), hIZ13⟩
              · skip
                refine ok.any (fun x10 => ?_)
                refine ok.add (show _ ≤ a_2u9.toInt + a_6u9.toInt ∧ a_2u9.toInt + a_6u9.toInt ≤ _ from by omega) (fun x11 hx11 => ?_)
                have hx11 : x11.toInt = a_2u9.toInt + a_6u9.toInt := hx11
                refine ok.ck (show 0 ≤ x11.toInt ∧ x11.toInt < ((4 : Nat) : Int) from by omega) ?_
                refine ok.letE (v1 := (X.1 11 (ix x11))) (hFu9.1 11 (ix x11) n2200_Qv0) ?_
                refine ok.bd (v_hA_codeOf hIu9) ?_
                rintro x13 _ rfl
                refine ok.any (fun x15 => ?_)
                refine ok.inc (by decide) (show _ ≤ a_6u9.toInt + (1) ∧ a_6u9.toInt + (1) ≤ _ from by omega) (fun x16 hx16 => ?_)
                have hx16 : x16.toInt = a_6u9.toInt + (1) := hx16
                exact ih_u9 a_2u9 a_3u9 a_4u9 x15 x16 Zu9 hIu9 (Fr.rf.tr hFu9 (fun _ q => q)) (show 0 ≤ a_3u9.toInt ∧ a_3u9.toInt ≤ 4 from by omega) (show 0 ≤ a_2u9.toInt ∧ a_2u9.toInt + a_3u9.toInt ≤ 4 from by omega) (show 0 ≤ x16.toInt ∧ x16.toInt ≤ 5 from by omega) (show (5 - x16.toInt).toNat < _ from by omega)
          exact lpu9 BIG p2 p3 p4 x3 (0 : Int32) X hI (Fr.rf : Fr YC Qv0 _ _) (show 0 ≤ p3.toInt ∧ p3.toInt ≤ 4 from by omega) (show 0 ≤ p2.toInt ∧ p2.toInt + p3.toInt ≤ 4 from by omega) (show 0 ≤ (0 : Int) ∧ (0 : Int) ≤ 5 from by omega) (show (5 - (0 : Int)).toNat < BIG from ltBIG (show _ < 100000 from by omega))
        · skip
          exact ok.ret ⟨(Fr.rf : Fr YC Qv0 _ _), hI⟩
theorem nr_hA_functionOf_32 {φ : Nat → Nat → Nat} {n : Nat} {e_1 : Nat} {a_2 : Int32} {a_3 : Int32} {a_4 : Int32} {a_5 : Int32} {a_6 : Int32} {X : St} (h : X.2.2 = φ) : nr φ (hA_functionOf_32 n e_1 a_2 a_3 a_4 a_5 a_6 X) := by
  unfold hA_functionOf_32
  refine lp_ind (P := fun (r : Nat → Int32 → Int32 → Int32 → Int32 → Int32 → St → Option (Int32 × St)) => ∀ (e_1 : Nat) (a_2 : Int32) (a_3 : Int32) (a_4 : Int32) (a_5 : Int32) (a_6 : Int32) (X : St), X.2.2 = φ → nr φ (r e_1 a_2 a_3 a_4 a_5 a_6 X)) ?_ ?_ n e_1 a_2 a_3 a_4 a_5 a_6 X h
  · intro e_1 a_2 a_3 a_4 a_5 a_6 X h
    exact nr.none
  · intro r32 hr32 e_1 a_2 a_3 a_4 a_5 a_6 X h
    unfold hA_functionOf_32_s
    refine nr.ite ?_ ?_
    · refine nr.lv (fun x4 => ?_)
      refine nr.bd (nr_hA_codeOf h) (fun x5 X6 hX6 => ?_)
      refine nr.lv (fun x7 => ?_)
      refine nr.bd (nr_hA_findOrAdd hX6) (fun x8 X9 hX9 => ?_)
      exact nr.ret hX9
    · refine nr.lv (fun x10 => ?_)
      refine nr.lv (fun x11 => ?_)
      refine nr.ck ?_
      refine nr.lv (fun x12 => ?_)
      refine nr.bd (nr_hA_codeOf h) (fun x13 X14 hX14 => ?_)
      refine nr.lv (fun x15 => ?_)
      refine nr.lv (fun x16 => ?_)
      exact hr32 _ _ _ _ _ _ _ hX14
theorem nr_hA_functionOf {φ : Nat → Nat → Nat} {o1 : Nat} {p2 : Int32} {p3 : Int32} {p4 : Int32} {X : St} (h : X.2.2 = φ) : nr φ (hA_functionOf o1 p2 p3 p4 X) := by
  unfold hA_functionOf
  refine nr.ite ?_ ?_
  · exact nr.ret h
  · refine nr.ite ?_ ?_
    · exact nr.ret h
    · refine nr.ite ?_ ?_
      · exact nr.ret h
      · refine nr.lv (fun x1 => ?_)
        refine nr.lv (fun x2 => ?_)
        refine nr.ite ?_ ?_
        · refine nr.lv (fun x3 => ?_)
          exact nr_hA_functionOf_32 h
        · exact nr.ret h
set_option maxHeartbeats 4000000 in
theorem o_ctor_C_3 {f : Nat → Nat} {X : St} (h : CI 0 f X) : okN (ctor_C_3 X) (CI 0 f) := by
  unfold ctor_C_3
  refine okN.z h (by decide) (by decide) (fun X2 hX2 => ?_)
  refine okN.z hX2 (by decide) (by decide) (fun X9 hX9 => ?_)
  refine okN.z hX9 (by decide) (by decide) (fun X16 hX16 => ?_)
  refine okN.z hX16 (by decide) (by decide) (fun X23 hX23 => ?_)
  refine okN.z hX23 (by decide) (by decide) (fun X30 hX30 => ?_)
  refine okN.z hX30 (by decide) (by decide) (fun X37 hX37 => ?_)
  refine okN.z hX37 (by decide) (by decide) (fun X44 hX44 => ?_)
  refine okN.wI hX44 (show 0 ≤ ((0 : Int32)).toInt ∧ ((0 : Int32)).toInt ≤ 1549 from by decide) (by decide) (by decide) (fun X50 hX50 => ?_)
  refine okN.bd (L := [1800]) hX50 (ok.mono (v_hfA_fill_9 hX50.1 (by decide)) (fun _ _ q => q)) (nr_hfA_fill rfl) ⟨(show (1 : Nat) ∉ [1800] from by decide), (show (401 : Nat) ∉ [1800] from by decide), (show (406 : Nat) ∉ [1800] from by decide), (show (3800 : Nat) ∉ [1800] from by decide)⟩ (fun _ X52 hX52 => ?_)
  refine okN.z hX52 (by decide) (by decide) (fun X54 hX54 => ?_)
  refine okN.wI hX54 (show True from trivial) (by decide) (by decide) (fun X60 hX60 => ?_)
  refine okN.wI hX60 (show True from trivial) (by decide) (by decide) (fun X61 hX61 => ?_)
  refine okN.wI hX61 (show True from trivial) (by decide) (by decide) (fun X62 hX62 => ?_)
  refine okN.wI hX62 (show True from trivial) (by decide) (by decide) (fun X63 hX63 => ?_)
  refine okN.bd (L := Qv0) hX63 (ok.mono (v_hA_findOrAdd_11 hX63.1 (by decide) (by decide) (by decide)) (fun _ _ q => q)) (nr_hA_findOrAdd rfl) ⟨(show (1 : Nat) ∉ Qv0 from by decide), (show (401 : Nat) ∉ Qv0 from by decide), (show (406 : Nat) ∉ Qv0 from by decide), (show (3800 : Nat) ∉ Qv0 from by decide)⟩ (fun _ X65 hX65 => ?_)
  refine okN.bd (L := Qv0) hX65 (ok.mono (v_hA_findOrAdd_11 hX65.1 (by decide) (by decide) (by decide)) (fun _ _ q => q)) (nr_hA_findOrAdd rfl) ⟨(show (1 : Nat) ∉ Qv0 from by decide), (show (401 : Nat) ∉ Qv0 from by decide), (show (406 : Nat) ∉ Qv0 from by decide), (show (3800 : Nat) ∉ Qv0 from by decide)⟩ (fun _ X67 hX67 => ?_)
  refine okN.bd (L := Qv0) hX67 (ok.mono (v_hA_findOrAdd_11 hX67.1 (by decide) (by decide) (by decide)) (fun _ _ q => q)) (nr_hA_findOrAdd rfl) ⟨(show (1 : Nat) ∉ Qv0 from by decide), (show (401 : Nat) ∉ Qv0 from by decide), (show (406 : Nat) ∉ Qv0 from by decide), (show (3800 : Nat) ∉ Qv0 from by decide)⟩ (fun _ X69 hX69 => ?_)
  refine okN.bd (L := Qv0) hX69 (ok.mono (v_hA_rowOf hX69.1) (fun _ _ q => q)) (nr_hA_rowOf rfl) ⟨(show (1 : Nat) ∉ Qv0 from by decide), (show (401 : Nat) ∉ Qv0 from by decide), (show (406 : Nat) ∉ Qv0 from by decide), (show (3800 : Nat) ∉ Qv0 from by decide)⟩ (fun _ X71 hX71 => ?_)
  refine okN.bd (L := Qv0) hX71 (ok.mono (v_hA_functionOf_11 hX71.1) (fun _ _ q => q)) (nr_hA_functionOf rfl) ⟨(show (1 : Nat) ∉ Qv0 from by decide), (show (401 : Nat) ∉ Qv0 from by decide), (show (406 : Nat) ∉ Qv0 from by decide), (show (3800 : Nat) ∉ Qv0 from by decide)⟩ (fun _ X73 hX73 => ?_)
  refine okN.bd (L := Qv0) hX73 (ok.mono (v_hA_functionOf_11 hX73.1) (fun _ _ q => q)) (nr_hA_functionOf rfl) ⟨(show (1 : Nat) ∉ Qv0 from by decide), (show (401 : Nat) ∉ Qv0 from by decide), (show (406 : Nat) ∉ Qv0 from by decide), (show (3800 : Nat) ∉ Qv0 from by decide)⟩ (fun _ X75 hX75 => ?_)
  refine okN.bd (L := Qv0) hX75 (ok.mono (v_hA_functionOf_11 hX75.1) (fun _ _ q => q)) (nr_hA_functionOf rfl) ⟨(show (1 : Nat) ∉ Qv0 from by decide), (show (401 : Nat) ∉ Qv0 from by decide), (show (406 : Nat) ∉ Qv0 from by decide), (show (3800 : Nat) ∉ Qv0 from by decide)⟩ (fun _ X77 hX77 => ?_)
  refine okN.bd (L := Qv0) hX77 (ok.mono (v_hA_functionOf_11 hX77.1) (fun _ _ q => q)) (nr_hA_functionOf rfl) ⟨(show (1 : Nat) ∉ Qv0 from by decide), (show (401 : Nat) ∉ Qv0 from by decide), (show (406 : Nat) ∉ Qv0 from by decide), (show (3800 : Nat) ∉ Qv0 from by decide)⟩ (fun _ X79 hX79 => ?_)
  refine okN.bd (L := Qv0) hX79 (ok.mono (v_hA_functionOf_11 hX79.1) (fun _ _ q => q)) (nr_hA_functionOf rfl) ⟨(show (1 : Nat) ∉ Qv0 from by decide), (show (401 : Nat) ∉ Qv0 from by decide), (show (406 : Nat) ∉ Qv0 from by decide), (show (3800 : Nat) ∉ Qv0 from by decide)⟩ (fun _ X81 hX81 => ?_)
  exact okN.ret hX81
set_option maxHeartbeats 4000000 in
theorem o_ctor_C_2 {f : Nat → Nat} {X : St} (h : CI 0 f X) : okN (ctor_C_2 X) (CI 0 f) := by
  unfold ctor_C_2
  refine okN.z h (by decide) (by decide) (fun X2 hX2 => ?_)
  refine okN.bN (o_ctor_C_3 hX2) (fun X11 hX11 => ?_)
  refine okN.wI hX11 (show 0 ≤ ((0 : Int32)).toInt ∧ ((0 : Int32)).toInt ≤ 40 from by decide) (by decide) (by decide) (fun X14 hX14 => ?_)
  refine okN.wI hX14 (show -1 ≤ ((-1 : Int32)).toInt ∧ ((-1 : Int32)).toInt ≤ 39 from by decide) (by decide) (by decide) (fun X15 hX15 => ?_)
  refine okN.z hX15 (by decide) (by decide) (fun X17 hX17 => ?_)
  refine okN.z hX17 (by decide) (by decide) (fun X24 hX24 => ?_)
  refine okN.z hX24 (by decide) (by decide) (fun X31 hX31 => ?_)
  refine okN.z hX31 (by decide) (by decide) (fun X38 hX38 => ?_)
  refine okN.z hX38 (by decide) (by decide) (fun X45 hX45 => ?_)
  refine okN.z hX45 (by decide) (by decide) (fun X52 hX52 => ?_)
  refine okN.z hX52 (by decide) (by decide) (fun X59 hX59 => ?_)
  refine okN.z hX59 (by decide) (by decide) (fun X66 hX66 => ?_)
  refine okN.wI hX66 (show True from trivial) (by decide) (by decide) (fun X72 hX72 => ?_)
  refine okN.z hX72 (by decide) (by decide) (fun X74 hX74 => ?_)
  refine okN.z hX74 (by decide) (by decide) (fun X81 hX81 => ?_)
  refine okN.z hX81 (by decide) (by decide) (fun X88 hX88 => ?_)
  refine okN.z hX88 (by decide) (by decide) (fun X95 hX95 => ?_)
  refine okN.wI hX95 (show 0 ≤ ((0 : Int32)).toInt ∧ ((0 : Int32)).toInt ≤ 9080 from by decide) (by decide) (by decide) (fun X101 hX101 => ?_)
  exact okN.ret hX101
set_option maxHeartbeats 4000000 in
theorem v_hfB_fill_31 {p1 : Int32} {X : St} (hI : INV X) (h0 : -1 ≤ p1.toInt ∧ p1.toInt ≤ 1548) : ok (hfB_fill 31 p1 X) (fun r Y => (Fr YC [6200] X Y ∧ INV Y)) := by
  unfold hfB_fill
  refine ok.letE (v1 := (512 : Int32)) (by decide) ?_
  have lpu1 : ∀ (n : Nat), ∀ (a_1u1 : Int32) (a_2u1 : Int32) (a_3u1 : Int32) (Zu1 : St), INV Zu1 → Fr YC [6200] X Zu1 → (0 ≤ a_2u1.toInt ∧ a_2u1.toInt ≤ a_3u1.toInt) → (a_3u1.toInt = 512) → (-1 ≤ a_1u1.toInt ∧ a_1u1.toInt ≤ 1548) → (a_3u1.toInt - a_2u1.toInt).toNat + 1 < n → ok (hfB_fill_5 n 31 a_1u1 a_2u1 a_3u1 Zu1) (fun r Y => (Fr YC [6200] X Y ∧ INV Y)) := by
    intro n
    unfold hfB_fill_5
    refine lp_indN (P := fun (n : Nat) (r_u1 : Nat → Int32 → Int32 → Int32 → St → Option (Int32 × St)) => ∀ (a_1u1 : Int32) (a_2u1 : Int32) (a_3u1 : Int32) (Zu1 : St), INV Zu1 → Fr YC [6200] X Zu1 → (0 ≤ a_2u1.toInt ∧ a_2u1.toInt ≤ a_3u1.toInt) → (a_3u1.toInt = 512) → (-1 ≤ a_1u1.toInt ∧ a_1u1.toInt ≤ 1548) → (a_3u1.toInt - a_2u1.toInt).toNat + 1 < n → ok (r_u1 31 a_1u1 a_2u1 a_3u1 Zu1) (fun r Y => (Fr YC [6200] X Y ∧ INV Y))) ?_ ?_ n
    · intro a_1u1 a_2u1 a_3u1 Zu1 hIu1 hFu1 u1_0 u1_1 u1_2  hm; exact absurd hm (Nat.not_lt_zero _)
    · intro n r_u1 ih_u1 a_1u1 a_2u1 a_3u1 Zu1 hIu1 hFu1 u1_0 u1_1 u1_2  hmu1
      unfold hfB_fill_5_s
      refine ok.ite (fun c2 => ?_) (fun c2 => ?_)
      · skip
        exact ok.ret ⟨(Fr.rf.tr hFu1 (fun _ q => q)), hIu1⟩
      · skip
        refine ok.ck (show 0 ≤ a_2u1.toInt ∧ a_2u1.toInt < ((512 : Nat) : Int) from by omega) ?_
        refine ok.wI (L := [6200]) hIu1 (show -1 ≤ a_1u1.toInt ∧ a_1u1.toInt ≤ 1548 from by omega) (show (6200 : Nat) ∈ [6200] from by decide) (by decide) (fun Z3 hIZ3 hFZ3 hkZ3 hoZ3 => ?_)
        refine ok.inc (by decide) (show _ ≤ a_2u1.toInt + (1) ∧ a_2u1.toInt + (1) ≤ _ from by omega) (fun x3 hx3 => ?_)
        have hx3 : x3.toInt = a_2u1.toInt + (1) := hx3
        exact ih_u1 a_1u1 x3 a_3u1 Z3 hIZ3 ((Fr.rf.tr hFu1 (fun _ q => q)).tr hFZ3 (fun _ q => q)) (show 0 ≤ x3.toInt ∧ x3.toInt ≤ a_3u1.toInt from by omega) (show a_3u1.toInt = 512 from by omega) (show -1 ≤ a_1u1.toInt ∧ a_1u1.toInt ≤ 1548 from by omega) (show (a_3u1.toInt - x3.toInt).toNat + 1 < _ from by omega)
  exact lpu1 BIG p1 (0 : Int32) (512 : Int32) X hI (Fr.rf : Fr YC [6200] _ _) (show 0 ≤ (0 : Int) ∧ (0 : Int) ≤ (512 : Int) from by omega) (show (512 : Int) = 512 from by omega) (show -1 ≤ p1.toInt ∧ p1.toInt ≤ 1548 from by omega) (show ((512 : Int) - (0 : Int)).toNat + 1 < BIG from ltBIG (show _ < 100000 from by omega))
theorem nr_hfB_fill_5 {φ : Nat → Nat → Nat} {n : Nat} {e_0 : Nat} {a_1 : Int32} {a_2 : Int32} {a_3 : Int32} {X : St} (h : X.2.2 = φ) : nr φ (hfB_fill_5 n e_0 a_1 a_2 a_3 X) := by
  unfold hfB_fill_5
  refine lp_ind (P := fun (r : Nat → Int32 → Int32 → Int32 → St → Option (Int32 × St)) => ∀ (e_0 : Nat) (a_1 : Int32) (a_2 : Int32) (a_3 : Int32) (X : St), X.2.2 = φ → nr φ (r e_0 a_1 a_2 a_3 X)) ?_ ?_ n e_0 a_1 a_2 a_3 X h
  · intro e_0 a_1 a_2 a_3 X h
    exact nr.none
  · intro r5 hr5 e_0 a_1 a_2 a_3 X h
    unfold hfB_fill_5_s
    refine nr.ite ?_ ?_
    · exact nr.ret h
    · refine nr.ck ?_
      refine nr.wI h (fun X2 hX2 => ?_)
      refine nr.lv (fun x3 => ?_)
      exact hr5 _ _ _ _ _ hX2
theorem nr_hfB_fill {φ : Nat → Nat → Nat} {o0 : Nat} {p1 : Int32} {X : St} (h : X.2.2 = φ) : nr φ (hfB_fill o0 p1 X) := by
  unfold hfB_fill
  refine nr.lv (fun x1 => ?_)
  exact nr_hfB_fill_5 h
set_option maxHeartbeats 4000000 in
theorem v_hB_bucketOf {p0 : Int32} {X : St} (hI : INV X) : ok (hB_bucketOf p0 X) (fun r Y => (X = Y) ∧ (0 ≤ r.toInt ∧ r.toInt ≤ 511)) := by
  unfold hB_bucketOf
  refine ok.any (fun x1 => ?_)
  refine ok.any (fun x2 => ?_)
  refine ok.any (fun x3 => ?_)
  refine ok.any (fun x4 => ?_)
  refine ok.eqv (fun x5 hx5 => ?_)
  have hx5 : 0 ≤ x5.toInt ∧ x5.toInt ≤ 511 := by rw [hx5]; exact and_mask_511 _
  exact ok.ret ⟨rfl, (show 0 ≤ x5.toInt ∧ x5.toInt ≤ 511 from by omega)⟩
theorem n6600_Qv30 : (6600 : Nat) ∉ Qv30 := by decide
set_option maxHeartbeats 4000000 in
theorem v_hB_hasAny {p1 : Int32} {X : St} (hI : INV X) : ok (hB_hasAny p1 X) (fun r Y => (X = Y)) := by
  unfold hB_hasAny
  refine ok.ite (fun c1 => ?_) (fun c1 => ?_)
  · skip
    have g2 := i32_le p1
    exact ok.ret rfl
  · skip
    have g3 := i32_le p1
    refine ok.letE (v1 := (X.1 25 0)) rfl ?_
    have g4 : 0 ≤ (X.1 25 0).toInt ∧ (X.1 25 0).toInt ≤ 1549 := hI.1 25 0
    refine ok.ite (fun c5 => ?_) (fun c5 => ?_)
    · skip
      exact ok.ret rfl
    · skip
      refine ok.ck (show 0 ≤ p1.toInt ∧ p1.toInt < ((1549 : Nat) : Int) from by omega) ?_
      refine ok.letE (v1 := (X.1 30 (ix p1))) rfl ?_
      refine ok.ite (fun c6 => ?_) (fun c6 => ?_)
      · skip
        have g7 := i32_le (X.1 30 (ix p1))
        exact ok.ret rfl
      · skip
        exact ok.ret rfl
set_option maxHeartbeats 4000000 in
theorem v_hB_isSame_33 {p1 : Int32} {p2 : Int32} {p4 : Int32} {p5 : Int32} {X : St} (hI : INV X) (h0 : 0 ≤ p1.toInt ∧ p1.toInt ≤ 1548) (h1 : 0 ≤ p2.toInt ∧ p2.toInt ≤ 4) (h2 : 0 ≤ p4.toInt ∧ p4.toInt + p2.toInt ≤ 4) : ok (hB_isSame p1 p2 33 p4 p5 X) (fun r Y => (X = Y)) := by
  unfold hB_isSame
  refine ok.ck (show 0 ≤ p1.toInt ∧ p1.toInt < ((1549 : Nat) : Int) from by omega) ?_
  refine ok.letE (v1 := (X.1 27 (ix p1))) rfl ?_
  have g1 : 0 ≤ (X.1 27 (ix p1)).toInt ∧ (X.1 27 (ix p1)).toInt ≤ 4 := hI.1 27 (ix p1)
  refine ok.ite (fun c2 => ?_) (fun c2 => ?_)
  · skip
    refine ok.mul (show _ ≤ p1.toInt * (5 : Int) ∧ p1.toInt * (5 : Int) ≤ _ from by omega) (fun x2 hx2 => ?_)
    have hx2 : x2.toInt = p1.toInt * (5 : Int) := hx2
    refine ok.add (show _ ≤ x2.toInt + (4 : Int) ∧ x2.toInt + (4 : Int) ≤ _ from by omega) (fun x3 hx3 => ?_)
    have hx3 : x3.toInt = x2.toInt + (4 : Int) := hx3
    refine ok.ck (show 0 ≤ x3.toInt ∧ x3.toInt < ((7745 : Nat) : Int) from by omega) ?_
    refine ok.letE (v1 := (X.1 28 (ix x3))) rfl ?_
    refine ok.ite (fun c3 => ?_) (fun c3 => ?_)
    · skip
      have lpu4 : ∀ (n : Nat), ∀ (a_1u4 : Int32) (a_2u4 : Int32) (a_4u4 : Int32) (a_6u4 : Int32) (Zu4 : St), INV Zu4 → Fr YC [] X Zu4 → (0 ≤ a_1u4.toInt ∧ a_1u4.toInt ≤ 1548) → (0 ≤ a_2u4.toInt ∧ a_2u4.toInt ≤ 4) → (0 ≤ a_4u4.toInt ∧ a_4u4.toInt + a_2u4.toInt ≤ 4) → (0 ≤ a_6u4.toInt ∧ a_6u4.toInt ≤ 5) → (5 - a_6u4.toInt).toNat < n → ok (hB_isSame_30 n a_1u4 a_2u4 33 a_4u4 a_6u4 Zu4) (fun r Y => (X = Y)) := by
        intro n
        unfold hB_isSame_30
        refine lp_indN (P := fun (n : Nat) (r_u4 : Int32 → Int32 → Nat → Int32 → Int32 → St → Option (Int32 × St)) => ∀ (a_1u4 : Int32) (a_2u4 : Int32) (a_4u4 : Int32) (a_6u4 : Int32) (Zu4 : St), INV Zu4 → Fr YC [] X Zu4 → (0 ≤ a_1u4.toInt ∧ a_1u4.toInt ≤ 1548) → (0 ≤ a_2u4.toInt ∧ a_2u4.toInt ≤ 4) → (0 ≤ a_4u4.toInt ∧ a_4u4.toInt + a_2u4.toInt ≤ 4) → (0 ≤ a_6u4.toInt ∧ a_6u4.toInt ≤ 5) → (5 - a_6u4.toInt).toNat < n → ok (r_u4 a_1u4 a_2u4 33 a_4u4 a_6u4 Zu4) (fun r Y => (X = Y))) ?_ ?_ n
        · intro a_1u4 a_2u4 a_4u4 a_6u4 Zu4 hIu4 hFu4 u4_0 u4_1 u4_2 u4_3  hm; exact absurd hm (Nat.not_lt_zero _)
        · intro n r_u4 ih_u4 a_1u4 a_2u4 a_4u4 a_6u4 Zu4 hIu4 hFu4 u4_0 u4_1 u4_2 u4_3  hmu4
          unfold hB_isSame_30_s
          refine ok.ite (fun c5 => ?_) (fun c5 => ?_)
          · skip
            exact ok.ret (Fr.nil hFu4).symm
          · skip
            refine ok.mul (show _ ≤ a_1u4.toInt * (5 : Int) ∧ a_1u4.toInt * (5 : Int) ≤ _ from by omega) (fun x5 hx5 => ?_)
            have hx5 : x5.toInt = a_1u4.toInt * (5 : Int) := hx5
            refine ok.add (show _ ≤ x5.toInt + a_6u4.toInt ∧ x5.toInt + a_6u4.toInt ≤ _ from by omega) (fun x6 hx6 => ?_)
            have hx6 : x6.toInt = x5.toInt + a_6u4.toInt := hx6
            refine ok.ck (show 0 ≤ x6.toInt ∧ x6.toInt < ((7745 : Nat) : Int) from by omega) ?_
            refine ok.letE (v1 := (X.1 28 (ix x6))) (hFu4.1 28 (ix x6) (show (5600 : Nat) ∉ [] from by decide)) ?_
            refine ok.add (show _ ≤ a_4u4.toInt + a_6u4.toInt ∧ a_4u4.toInt + a_6u4.toInt ≤ _ from by omega) (fun x8 hx8 => ?_)
            have hx8 : x8.toInt = a_4u4.toInt + a_6u4.toInt := hx8
            refine ok.ck (show 0 ≤ x8.toInt ∧ x8.toInt < ((4 : Nat) : Int) from by omega) ?_
            refine ok.letE (v1 := (X.1 33 (ix x8))) (hFu4.1 33 (ix x8) (show (6600 : Nat) ∉ [] from by decide)) ?_
            refine ok.ite (fun c6 => ?_) (fun c6 => ?_)
            · skip
              refine ok.inc (by decide) (show _ ≤ a_6u4.toInt + (1) ∧ a_6u4.toInt + (1) ≤ _ from by omega) (fun x10 hx10 => ?_)
              have hx10 : x10.toInt = a_6u4.toInt + (1) := hx10
              exact ih_u4 a_1u4 a_2u4 a_4u4 x10 Zu4 hIu4 (Fr.rf.tr hFu4 (fun _ q => q)) (show 0 ≤ a_1u4.toInt ∧ a_1u4.toInt ≤ 1548 from by omega) (show 0 ≤ a_2u4.toInt ∧ a_2u4.toInt ≤ 4 from by omega) (show 0 ≤ a_4u4.toInt ∧ a_4u4.toInt + a_2u4.toInt ≤ 4 from by omega) (show 0 ≤ x10.toInt ∧ x10.toInt ≤ 5 from by omega) (show (5 - x10.toInt).toNat < _ from by omega)
            · skip
              exact ok.ret (Fr.nil hFu4).symm
      exact lpu4 BIG p1 p2 p4 (0 : Int32) X hI (Fr.rf : Fr YC [] _ _) (show 0 ≤ p1.toInt ∧ p1.toInt ≤ 1548 from by omega) (show 0 ≤ p2.toInt ∧ p2.toInt ≤ 4 from by omega) (show 0 ≤ p4.toInt ∧ p4.toInt + p2.toInt ≤ 4 from by omega) (show 0 ≤ (0 : Int) ∧ (0 : Int) ≤ 5 from by omega) (show (5 - (0 : Int)).toNat < BIG from ltBIG (show _ < 100000 from by omega))
    · skip
      exact ok.ret rfl
  · skip
    exact ok.ret rfl
set_option maxHeartbeats 4000000 in
theorem v_hB_findOrAdd_33 {p1 : Int32} {p2 : Int32} {p4 : Int32} {p5 : Int32} {p6 : Int32} {X : St} (hI : INV X) (h0 : 0 ≤ p1.toInt ∧ p1.toInt ≤ 4) (h1 : 0 ≤ p2.toInt ∧ p2.toInt ≤ 4) (h2 : 0 ≤ p4.toInt ∧ p4.toInt + p2.toInt ≤ 4) : ok (hB_findOrAdd p1 p2 33 p4 p5 p6 X) (fun r Y => (Fr YC Qv30 X Y ∧ INV Y)) := by
  unfold hB_findOrAdd
  refine ok.bd (v_hB_bucketOf hI) ?_
  rintro x1 _ ⟨rfl, hp1⟩
  have hp1 : 0 ≤ x1.toInt ∧ x1.toInt ≤ 511 := hp1
  refine ok.ck (show 0 ≤ x1.toInt ∧ x1.toInt < ((512 : Nat) : Int) from by omega) ?_
  refine ok.letE (v1 := (X.1 31 (ix x1))) rfl ?_
  have g2 : -1 ≤ (X.1 31 (ix x1)).toInt ∧ (X.1 31 (ix x1)).toInt ≤ 1548 := hI.1 31 (ix x1)
  have lpu3 : ∀ (n : Nat), ∀ (a_1u3 : Int32) (a_2u3 : Int32) (a_4u3 : Int32) (a_5u3 : Int32) (a_6u3 : Int32) (a_7u3 : Int32) (a_8u3 : Int32) (a_9u3 : Int32) (Zu3 : St), INV Zu3 → Fr YC Qv30 X Zu3 → (0 ≤ a_1u3.toInt ∧ a_1u3.toInt ≤ 4) → (0 ≤ a_2u3.toInt ∧ a_2u3.toInt ≤ 4) → (0 ≤ a_4u3.toInt ∧ a_4u3.toInt + a_2u3.toInt ≤ 4) → (0 ≤ a_7u3.toInt ∧ a_7u3.toInt ≤ 511) → (-1 ≤ a_8u3.toInt ∧ a_8u3.toInt ≤ 1548) → (0 ≤ a_9u3.toInt ∧ a_9u3.toInt ≤ 1549) → (1550 - a_9u3.toInt).toNat < n → ok (hB_findOrAdd_19 n a_1u3 a_2u3 33 a_4u3 a_5u3 a_6u3 a_7u3 a_8u3 a_9u3 Zu3) (fun r Y => (Fr YC Qv30 X Y ∧ INV Y)) := by
    intro n
    unfold hB_findOrAdd_19
    refine lp_indN (P := fun (n : Nat) (r_u3 : Int32 → Int32 → Nat → Int32 → Int32 → Int32 → Int32 → Int32 → Int32 → St → Option (Int32 × St)) => ∀ (a_1u3 : Int32) (a_2u3 : Int32) (a_4u3 : Int32) (a_5u3 : Int32) (a_6u3 : Int32) (a_7u3 : Int32) (a_8u3 : Int32) (a_9u3 : Int32) (Zu3 : St), INV Zu3 → Fr YC Qv30 X Zu3 → (0 ≤ a_1u3.toInt ∧ a_1u3.toInt ≤ 4) → (0 ≤ a_2u3.toInt ∧ a_2u3.toInt ≤ 4) → (0 ≤ a_4u3.toInt ∧ a_4u3.toInt + a_2u3.toInt ≤ 4) → (0 ≤ a_7u3.toInt ∧ a_7u3.toInt ≤ 511) → (-1 ≤ a_8u3.toInt ∧ a_8u3.toInt ≤ 1548) → (0 ≤ a_9u3.toInt ∧ a_9u3.toInt ≤ 1549) → (1550 - a_9u3.toInt).toNat < n → ok (r_u3 a_1u3 a_2u3 33 a_4u3 a_5u3 a_6u3 a_7u3 a_8u3 a_9u3 Zu3) (fun r Y => (Fr YC Qv30 X Y ∧ INV Y))) ?_ ?_ n
    · intro a_1u3 a_2u3 a_4u3 a_5u3 a_6u3 a_7u3 a_8u3 a_9u3 Zu3 hIu3 hFu3 u3_0 u3_1 u3_2 u3_3 u3_4 u3_5  hm; exact absurd hm (Nat.not_lt_zero _)
    · intro n r_u3 ih_u3 a_1u3 a_2u3 a_4u3 a_5u3 a_6u3 a_7u3 a_8u3 a_9u3 Zu3 hIu3 hFu3 u3_0 u3_1 u3_2 u3_3 u3_4 u3_5  hmu3
      unfold hB_findOrAdd_19_s
      refine ok.ite (fun c4 => ?_) (fun c4 => ?_)
      · skip
        unfold hB_findOrAdd_77
        refine ok.letE (v1 := (Zu3.1 25 0)) rfl ?_
        have g5 : 0 ≤ (Zu3.1 25 0).toInt ∧ (Zu3.1 25 0).toInt ≤ 1549 := hIu3.1 25 0
        refine ok.ite (fun c6 => ?_) (fun c6 => ?_)
        · skip
          refine ok.letE (v1 := (Zu3.1 25 0)) rfl ?_
          refine ok.letE (v1 := (Zu3.1 25 0)) rfl ?_
          refine ok.add (show _ ≤ (Zu3.1 25 0).toInt + (1 : Int) ∧ (Zu3.1 25 0).toInt + (1 : Int) ≤ _ from by omega) (fun x7 hx7 => ?_)
          have hx7 : x7.toInt = (Zu3.1 25 0).toInt + (1 : Int) := hx7
          refine ok.wI (L := [5000]) hIu3 (show 0 ≤ x7.toInt ∧ x7.toInt ≤ 1549 from by omega) (show (5000 : Nat) ∈ [5000] from by decide) (by decide) (fun Z7 hIZ7 hFZ7 hkZ7 hoZ7 => ?_)
          refine ok.ck (show 0 ≤ (Zu3.1 25 0).toInt ∧ (Zu3.1 25 0).toInt < ((1549 : Nat) : Int) from by omega) ?_
          refine ok.wI (L := [5200]) hIZ7 (show True from trivial) (show (5200 : Nat) ∈ [5200] from by decide) (by decide) (fun Z8 hIZ8 hFZ8 hkZ8 hoZ8 => ?_)
          refine ok.ck (show 0 ≤ (Zu3.1 25 0).toInt ∧ (Zu3.1 25 0).toInt < ((1549 : Nat) : Int) from by omega) ?_
          refine ok.wI (L := [5400]) hIZ8 (show 0 ≤ a_2u3.toInt ∧ a_2u3.toInt ≤ 4 from by omega) (show (5400 : Nat) ∈ [5400] from by decide) (by decide) (fun Z9 hIZ9 hFZ9 hkZ9 hoZ9 => ?_)
          refine ok.ck (show 0 ≤ (Zu3.1 25 0).toInt ∧ (Zu3.1 25 0).toInt < ((1549 : Nat) : Int) from by omega) ?_
          refine ok.wI (L := [5800]) hIZ9 (show True from trivial) (show (5800 : Nat) ∈ [5800] from by decide) (by decide) (fun Z10 hIZ10 hFZ10 hkZ10 hoZ10 => ?_)
          refine ok.mul (show _ ≤ (Zu3.1 25 0).toInt * (5 : Int) ∧ (Zu3.1 25 0).toInt * (5 : Int) ≤ _ from by omega) (fun x12 hx12 => ?_)
          have hx12 : x12.toInt = (Zu3.1 25 0).toInt * (5 : Int) := hx12
          refine ok.add (show _ ≤ x12.toInt + (4 : Int) ∧ x12.toInt + (4 : Int) ≤ _ from by omega) (fun x13 hx13 => ?_)
          have hx13 : x13.toInt = x12.toInt + (4 : Int) := hx13
          refine ok.ck (show 0 ≤ x13.toInt ∧ x13.toInt < ((7745 : Nat) : Int) from by omega) ?_
          refine ok.wI (L := [5600]) hIZ10 (show True from trivial) (show (5600 : Nat) ∈ [5600] from by decide) (by decide) (fun Z11 hIZ11 hFZ11 hkZ11 hoZ11 => ?_)
          refine ok.ite (fun c12 => ?_) (fun c12 => ?_)
          · skip
            unfold hB_findOrAdd_162
            unfold hB_findOrAdd_167
            have lpu13 : ∀ (n : Nat), ∀ (a_2u13 : Int32) (a_4u13 : Int32) (a_7u13 : Int32) (a_8u13 : Int32) (a_9u13 : Int32) (a_10u13 : Int32) (Zu13 : St), INV Zu13 → Fr YC Qv30 X Zu13 → (0 ≤ a_2u13.toInt ∧ a_2u13.toInt ≤ 4) → (0 ≤ a_4u13.toInt ∧ a_4u13.toInt + a_2u13.toInt ≤ 4) → (0 ≤ a_7u13.toInt ∧ a_7u13.toInt ≤ 511) → (0 ≤ a_8u13.toInt ∧ a_8u13.toInt ≤ 1548) → (0 ≤ a_10u13.toInt ∧ a_10u13.toInt ≤ 5) → (5 - a_10u13.toInt).toNat < n → ok (hB_findOrAdd_172 n a_2u13 33 a_4u13 a_7u13 a_8u13 a_9u13 a_10u13 Zu13) (fun r Y => (Fr YC Qv30 X Y ∧ INV Y)) := by
              intro n
              unfold hB_findOrAdd_172
              refine lp_indN (P := fun (n : Nat) (r_u13 : Int32 → Nat → Int32 → Int32 → Int32 → Int32 → Int32 → St → Option (Int32 × St)) => ∀ (a_2u13 : Int32) (a_4u13 : Int32) (a_7u13 : Int32) (a_8u13 : Int32) (a_9u13 : Int32) (a_10u13 : Int32) (Zu13 : St), INV Zu13 → Fr YC Qv30 X Zu13 → (0 ≤ a_2u13.toInt ∧ a_2u13.toInt ≤ 4) → (0 ≤ a_4u13.toInt ∧ a_4u13.toInt + a_2u13.toInt ≤ 4) → (0 ≤ a_7u13.toInt ∧ a_7u13.toInt ≤ 511) → (0 ≤ a_8u13.toInt ∧ a_8u13.toInt ≤ 1548) → (0 ≤ a_10u13.toInt ∧ a_10u13.toInt ≤ 5) → (5 - a_10u13.toInt).toNat < n → ok (r_u13 a_2u13 33 a_4u13 a_7u13 a_8u13 a_9u13 a_10u13 Zu13) (fun r Y => (Fr YC Qv30 X Y ∧ INV Y))) ?_ ?_ n
              · intro a_2u13 a_4u13 a_7u13 a_8u13 a_9u13 a_10u13 Zu13 hIu13 hFu13 u13_0 u13_1 u13_2 u13_3 u13_4  hm; exact absurd hm (Nat.not_lt_zero _)
              · intro n r_u13 ih_u13 a_2u13 a_4u13 a_7u13 a_8u13 a_9u13 a_10u13 Zu13 hIu13 hFu13 u13_0 u13_1 u13_2 u13_3 u13_4  hmu13
                unfold hB_findOrAdd_172_s
                refine ok.ite (fun c14 => ?_) (fun c14 => ?_)
                · skip
                  refine ok.ck (show 0 ≤ a_8u13.toInt ∧ a_8u13.toInt < ((1549 : Nat) : Int) from by omega) ?_
                  refine ok.wI (L := [6000]) hIu13 (show True from trivial) (show (6000 : Nat) ∈ [6000] from by decide) (by decide) (fun Z15 hIZ15 hFZ15 hkZ15 hoZ15 => ?_)
                  refine ok.ck (show 0 ≤ a_7u13.toInt ∧ a_7u13.toInt < ((512 : Nat) : Int) from by omega) ?_
                  refine ok.letE (v1 := (Zu13.1 31 (ix a_7u13))) (hFZ15.1 31 (ix a_7u13) (show (6200 : Nat) ∉ [6000] from by decide)) ?_
                  have g16 : -1 ≤ (Zu13.1 31 (ix a_7u13)).toInt ∧ (Zu13.1 31 (ix a_7u13)).toInt ≤ 1548 := hIu13.1 31 (ix a_7u13)
                  refine ok.ck (show 0 ≤ a_8u13.toInt ∧ a_8u13.toInt < ((1549 : Nat) : Int) from by omega) ?_
                  refine ok.wI (L := [6400]) hIZ15 (show -1 ≤ (Zu13.1 31 (ix a_7u13)).toInt ∧ (Zu13.1 31 (ix a_7u13)).toInt ≤ 1548 from by omega) (show (6400 : Nat) ∈ [6400] from by decide) (by decide) (fun Z17 hIZ17 hFZ17 hkZ17 hoZ17 => ?_)
                  refine ok.ck (show 0 ≤ a_7u13.toInt ∧ a_7u13.toInt < ((512 : Nat) : Int) from by omega) ?_
                  refine ok.wI (L := [6200]) hIZ17 (show -1 ≤ a_8u13.toInt ∧ a_8u13.toInt ≤ 1548 from by omega) (show (6200 : Nat) ∈ [6200] from by decide) (by decide) (fun Z18 hIZ18 hFZ18 hkZ18 hoZ18 => ?_)
                  exact ok.ret ⟨((((Fr.rf.tr hFu13 (fun _ q => q)).tr hFZ15 (by decide)).tr hFZ17 (by decide)).tr hFZ18 (by decide)), hIZ18⟩
                · skip
                  refine ok.mul (show _ ≤ a_8u13.toInt * (5 : Int) ∧ a_8u13.toInt * (5 : Int) ≤ _ from by omega) (fun x19 hx19 => ?_)
                  have hx19 : x19.toInt = a_8u13.toInt * (5 : Int) := hx19
                  refine ok.add (show _ ≤ x19.toInt + a_10u13.toInt ∧ x19.toInt + a_10u13.toInt ≤ _ from by omega) (fun x20 hx20 => ?_)
                  have hx20 : x20.toInt = x19.toInt + a_10u13.toInt := hx20
                  refine ok.add (show _ ≤ a_4u13.toInt + a_10u13.toInt ∧ a_4u13.toInt + a_10u13.toInt ≤ _ from by omega) (fun x21 hx21 => ?_)
                  have hx21 : x21.toInt = a_4u13.toInt + a_10u13.toInt := hx21
                  refine ok.ck (show 0 ≤ x21.toInt ∧ x21.toInt < ((4 : Nat) : Int) from by omega) ?_
                  refine ok.letE (v1 := (X.1 33 (ix x21))) (hFu13.1 33 (ix x21) n6600_Qv30) ?_
                  refine ok.ck (show 0 ≤ x20.toInt ∧ x20.toInt < ((7745 : Nat) : Int) from by omega) ?_
                  refine ok.wI (L := [5600]) hIu13 (show True from trivial) (show (5600 : Nat) ∈ [5600] from by decide) (by decide) (fun Z19 hIZ19 hFZ19 hkZ19 hoZ19 => ?_)
                  refine ok.ite (fun c20 => ?_) (fun c20 => ?_)
                  · skip
                    have g21 := i32_le a_9u13
                    refine ok.add (show _ ≤ a_4u13.toInt + a_10u13.toInt ∧ a_4u13.toInt + a_10u13.toInt ≤ _ from by omega) (fun x25 hx25 => ?_)
                    have hx25 : x25.toInt = a_4u13.toInt + a_10u13.toInt := hx25
                    refine ok.ck (show 0 ≤ x25.toInt ∧ x25.toInt < ((4 : Nat) : Int) from by omega) ?_
                    refine ok.letE (v1 := (X.1 33 (ix x25))) ((hFZ19.1 33 (ix x25) (show (6600 : Nat) ∉ [5600] from by decide)).trans (hFu13.1 33 (ix x25) n6600_Qv30)) ?_
                    refine ok.bd (v_hB_hasAny hIZ19) ?_
                    rintro x27 _ rfl
                    refine ok.ite (fun c23 => ?_) (fun c23 => ?_)
                    · skip
                      have g24 := i32_le x27
                      unfold hB_findOrAdd_221
                      refine ok.inc (by decide) (show _ ≤ a_10u13.toInt + (1) ∧ a_10u13.toInt + (1) ≤ _ from by omega) (fun x24 hx24 => ?_)
                      have hx24 : x24.toInt = a_10u13.toInt + (1) := hx24
                      exact ih_u13 a_2u13 a_4u13 a_7u13 a_8u13 (0 : Int32) x24 Z19 hIZ19 ((Fr.rf.tr hFu13 (fun _ q => q)).tr hFZ19 (by decide)) (show 0 ≤ a_2u13.toInt ∧ a_2u13.toInt ≤ 4 from by omega) (show 0 ≤ a_4u13.toInt ∧ a_4u13.toInt + a_2u13.toInt ≤ 4 from by omega) (show 0 ≤ a_7u13.toInt ∧ a_7u13.toInt ≤ 511 from by omega) (show 0 ≤ a_8u13.toInt ∧ a_8u13.toInt ≤ 1548 from by omega) (show 0 ≤ x24.toInt ∧ x24.toInt ≤ 5 from by omega) (show (5 - x24.toInt).toNat < _ from by omega)
                    · skip
                      unfold hB_findOrAdd_216
                      unfold hB_findOrAdd_221
                      refine ok.inc (by decide) (show _ ≤ a_10u13.toInt + (1) ∧ a_10u13.toInt + (1) ≤ _ from by omega) (fun x24 hx24 => ?_)
                      have hx24 : x24.toInt = a_10u13.toInt + (1) := hx24
                      exact ih_u13 a_2u13 a_4u13 a_7u13 a_8u13 (1 : Int32) x24 Z19 hIZ19 ((Fr.rf.tr hFu13 (fun _ q => q)).tr hFZ19 (by decide)) (show 0 ≤ a_2u13.toInt ∧ a_2u13.toInt ≤ 4 from by omega) (show 0 ≤ a_4u13.toInt ∧ a_4u13.toInt + a_2u13.toInt ≤ 4 from by omega) (show 0 ≤ a_7u13.toInt ∧ a_7u13.toInt ≤ 511 from by omega) (show 0 ≤ a_8u13.toInt ∧ a_8u13.toInt ≤ 1548 from by omega) (show 0 ≤ x24.toInt ∧ x24.toInt ≤ 5 from by omega) (show (5 - x24.toInt).toNat < _ from by omega)
                  · skip
                    unfold hB_findOrAdd_216
                    unfold hB_findOrAdd_221
                    refine ok.inc (by decide) (show _ ≤ a_10u13.toInt + (1) ∧ a_10u13.toInt + (1) ≤ _ from by omega) (fun x24 hx24 => ?_)
                    have hx24 : x24.toInt = a_10u13.toInt + (1) := hx24
                    exact ih_u13 a_2u13 a_4u13 a_7u13 a_8u13 (1 : Int32) x24 Z19 hIZ19 ((Fr.rf.tr hFu13 (fun _ q => q)).tr hFZ19 (by decide)) (show 0 ≤ a_2u13.toInt ∧ a_2u13.toInt ≤ 4 from by omega) (show 0 ≤ a_4u13.toInt ∧ a_4u13.toInt + a_2u13.toInt ≤ 4 from by omega) (show 0 ≤ a_7u13.toInt ∧ a_7u13.toInt ≤ 511 from by omega) (show 0 ≤ a_8u13.toInt ∧ a_8u13.toInt ≤ 1548 from by omega) (show 0 ≤ x24.toInt ∧ x24.toInt ≤ 5 from by omega) (show (5 - x24.toInt).toNat < _ from by omega)
            exact lpu13 BIG a_2u3 a_4u3 a_7u3 (Zu3.1 25 0) (1 : Int32) (0 : Int32) Z11 hIZ11 ((((((Fr.rf.tr hFu3 (fun _ q => q)).tr hFZ7 (by decide)).tr hFZ8 (by decide)).tr hFZ9 (by decide)).tr hFZ10 (by decide)).tr hFZ11 (by decide)) (show 0 ≤ a_2u3.toInt ∧ a_2u3.toInt ≤ 4 from by omega) (show 0 ≤ a_4u3.toInt ∧ a_4u3.toInt + a_2u3.toInt ≤ 4 from by omega) (show 0 ≤ a_7u3.toInt ∧ a_7u3.toInt ≤ 511 from by omega) (show 0 ≤ (Zu3.1 25 0).toInt ∧ (Zu3.1 25 0).toInt ≤ 1548 from by omega) (show 0 ≤ (0 : Int) ∧ (0 : Int) ≤ 5 from by omega) (show (5 - (0 : Int)).toNat < BIG from ltBIG (show _ < 100000 from by omega))
          · skip
            refine ok.ite (fun c25 => ?_) (fun c25 => ?_)
            · skip
              unfold hB_findOrAdd_166
              unfold hB_findOrAdd_167
              have lpu26 : ∀ (n : Nat), ∀ (a_2u26 : Int32) (a_4u26 : Int32) (a_7u26 : Int32) (a_8u26 : Int32) (a_9u26 : Int32) (a_10u26 : Int32) (Zu26 : St), INV Zu26 → Fr YC Qv30 X Zu26 → (0 ≤ a_2u26.toInt ∧ a_2u26.toInt ≤ 4) → (0 ≤ a_4u26.toInt ∧ a_4u26.toInt + a_2u26.toInt ≤ 4) → (0 ≤ a_7u26.toInt ∧ a_7u26.toInt ≤ 511) → (0 ≤ a_8u26.toInt ∧ a_8u26.toInt ≤ 1548) → (0 ≤ a_10u26.toInt ∧ a_10u26.toInt ≤ 5) → (5 - a_10u26.toInt).toNat < n → ok (hB_findOrAdd_172 n a_2u26 33 a_4u26 a_7u26 a_8u26 a_9u26 a_10u26 Zu26) (fun r Y => (Fr YC Qv30 X Y ∧ INV Y)) := by
                intro n
                unfold hB_findOrAdd_172
                refine lp_indN (P := fun (n : Nat) (r_u26 : Int32 → Nat → Int32 → Int32 → Int32 → Int32 → Int32 → St → Option (Int32 × St)) => ∀ (a_2u26 : Int32) (a_4u26 : Int32) (a_7u26 : Int32) (a_8u26 : Int32) (a_9u26 : Int32) (a_10u26 : Int32) (Zu26 : St), INV Zu26 → Fr YC Qv30 X Zu26 → (0 ≤ a_2u26.toInt ∧ a_2u26.toInt ≤ 4) → (0 ≤ a_4u26.toInt ∧ a_4u26.toInt + a_2u26.toInt ≤ 4) → (0 ≤ a_7u26.toInt ∧ a_7u26.toInt ≤ 511) → (0 ≤ a_8u26.toInt ∧ a_8u26.toInt ≤ 1548) → (0 ≤ a_10u26.toInt ∧ a_10u26.toInt ≤ 5) → (5 - a_10u26.toInt).toNat < n → ok (r_u26 a_2u26 33 a_4u26 a_7u26 a_8u26 a_9u26 a_10u26 Zu26) (fun r Y => (Fr YC Qv30 X Y ∧ INV Y))) ?_ ?_ n
                · intro a_2u26 a_4u26 a_7u26 a_8u26 a_9u26 a_10u26 Zu26 hIu26 hFu26 u26_0 u26_1 u26_2 u26_3 u26_4  hm; exact absurd hm (Nat.not_lt_zero _)
                · intro n r_u26 ih_u26 a_2u26 a_4u26 a_7u26 a_8u26 a_9u26 a_10u26 Zu26 hIu26 hFu26 u26_0 u26_1 u26_2 u26_3 u26_4  hmu26
                  unfold hB_findOrAdd_172_s
                  refine ok.ite (fun c27 => ?_) (fun c27 => ?_)
                  · skip
                    refine ok.ck (show 0 ≤ a_8u26.toInt ∧ a_8u26.toInt < ((1549 : Nat) : Int) from by omega) ?_
                    refine ok.wI (L := [6000]) hIu26 (show True from trivial) (show (6000 : Nat) ∈ [6000] from by decide) (by decide) (fun Z28 hIZ28 hFZ28 hkZ28 hoZ28 => ?_)
                    refine ok.ck (show 0 ≤ a_7u26.toInt ∧ a_7u26.toInt < ((512 : Nat) : Int) from by omega) ?_
                    refine ok.letE (v1 := (Zu26.1 31 (ix a_7u26))) (hFZ28.1 31 (ix a_7u26) (show (6200 : Nat) ∉ [6000] from by decide)) ?_
                    have g29 : -1 ≤ (Zu26.1 31 (ix a_7u26)).toInt ∧ (Zu26.1 31 (ix a_7u26)).toInt ≤ 1548 := hIu26.1 31 (ix a_7u26)
                    refine ok.ck (show 0 ≤ a_8u26.toInt ∧ a_8u26.toInt < ((1549 : Nat) : Int) from by omega) ?_
                    refine ok.wI (L := [6400]) hIZ28 (show -1 ≤ (Zu26.1 31 (ix a_7u26)).toInt ∧ (Zu26.1 31 (ix a_7u26)).toInt ≤ 1548 from by omega) (show (6400 : Nat) ∈ [6400] from by decide) (by decide) (fun Z30 hIZ30 hFZ30 hkZ30 hoZ30 => ?_)
                    refine ok.ck (show 0 ≤ a_7u26.toInt ∧ a_7u26.toInt < ((512 : Nat) : Int) from by omega) ?_
                    refine ok.wI (L := [6200]) hIZ30 (show -1 ≤ a_8u26.toInt ∧ a_8u26.toInt ≤ 1548 from by omega) (show (6200 : Nat) ∈ [6200] from by decide) (by decide) (fun Z31 hIZ31 hFZ31 hkZ31 hoZ31 => ?_)
                    exact ok.ret ⟨((((Fr.rf.tr hFu26 (fun _ q => q)).tr hFZ28 (by decide)).tr hFZ30 (by decide)).tr hFZ31 (by decide)), hIZ31⟩
                  · skip
                    refine ok.mul (show _ ≤ a_8u26.toInt * (5 : Int) ∧ a_8u26.toInt * (5 : Int) ≤ _ from by omega) (fun x19 hx19 => ?_)
                    have hx19 : x19.toInt = a_8u26.toInt * (5 : Int) := hx19
                    refine ok.add (show _ ≤ x19.toInt + a_10u26.toInt ∧ x19.toInt + a_10u26.toInt ≤ _ from by omega) (fun x20 hx20 => ?_)
                    have hx20 : x20.toInt = x19.toInt + a_10u26.toInt := hx20
                    refine ok.add (show _ ≤ a_4u26.toInt + a_10u26.toInt ∧ a_4u26.toInt + a_10u26.toInt ≤ _ from by omega) (fun x21 hx21 => ?_)
                    have hx21 : x21.toInt = a_4u26.toInt + a_10u26.toInt := hx21
                    refine ok.ck (show 0 ≤ x21.toInt ∧ x21.toInt < ((4 : Nat) : Int) from by omega) ?_
                    refine ok.letE (v1 := (X.1 33 (ix x21))) (hFu26.1 33 (ix x21) n6600_Qv30) ?_
                    refine ok.ck (show 0 ≤ x20.toInt ∧ x20.toInt < ((7745 : Nat) : Int) from by omega) ?_
                    refine ok.wI (L := [5600]) hIu26 (show True from trivial) (show (5600 : Nat) ∈ [5600] from by decide) (by decide) (fun Z32 hIZ32 hFZ32 hkZ32 hoZ32 => ?_)
                    refine ok.ite (fun c33 => ?_) (fun c33 => ?_)
                    · skip
                      have g34 := i32_le a_9u26
                      refine ok.add (show _ ≤ a_4u26.toInt + a_10u26.toInt ∧ a_4u26.toInt + a_10u26.toInt ≤ _ from by omega) (fun x25 hx25 => ?_)
                      have hx25 : x25.toInt = a_4u26.toInt + a_10u26.toInt := hx25
                      refine ok.ck (show 0 ≤ x25.toInt ∧ x25.toInt < ((4 : Nat) : Int) from by omega) ?_
                      refine ok.letE (v1 := (X.1 33 (ix x25))) ((hFZ32.1 33 (ix x25) (show (6600 : Nat) ∉ [5600] from by decide)).trans (hFu26.1 33 (ix x25) n6600_Qv30)) ?_
                      refine ok.bd (v_hB_hasAny hIZ32) ?_
                      rintro x27 _ rfl
                      refine ok.ite (fun c36 => ?_) (fun c36 => ?_)
                      · skip
                        have g37 := i32_le x27
                        unfold hB_findOrAdd_221
                        refine ok.inc (by decide) (show _ ≤ a_10u26.toInt + (1) ∧ a_10u26.toInt + (1) ≤ _ from by omega) (fun x24 hx24 => ?_)
                        have hx24 : x24.toInt = a_10u26.toInt + (1) := hx24
                        exact ih_u26 a_2u26 a_4u26 a_7u26 a_8u26 (0 : Int32) x24 Z32 hIZ32 ((Fr.rf.tr hFu26 (fun _ q => q)).tr hFZ32 (by decide)) (show 0 ≤ a_2u26.toInt ∧ a_2u26.toInt ≤ 4 from by omega) (show 0 ≤ a_4u26.toInt ∧ a_4u26.toInt + a_2u26.toInt ≤ 4 from by omega) (show 0 ≤ a_7u26.toInt ∧ a_7u26.toInt ≤ 511 from by omega) (show 0 ≤ a_8u26.toInt ∧ a_8u26.toInt ≤ 1548 from by omega) (show 0 ≤ x24.toInt ∧ x24.toInt ≤ 5 from by omega) (show (5 - x24.toInt).toNat < _ from by omega)
                      · skip
                        unfold hB_findOrAdd_216
                        unfold hB_findOrAdd_221
                        refine ok.inc (by decide) (show _ ≤ a_10u26.toInt + (1) ∧ a_10u26.toInt + (1) ≤ _ from by omega) (fun x24 hx24 => ?_)
                        have hx24 : x24.toInt = a_10u26.toInt + (1) := hx24
                        exact ih_u26 a_2u26 a_4u26 a_7u26 a_8u26 (1 : Int32) x24 Z32 hIZ32 ((Fr.rf.tr hFu26 (fun _ q => q)).tr hFZ32 (by decide)) (show 0 ≤ a_2u26.toInt ∧ a_2u26.toInt ≤ 4 from by omega) (show 0 ≤ a_4u26.toInt ∧ a_4u26.toInt + a_2u26.toInt ≤ 4 from by omega) (show 0 ≤ a_7u26.toInt ∧ a_7u26.toInt ≤ 511 from by omega) (show 0 ≤ a_8u26.toInt ∧ a_8u26.toInt ≤ 1548 from by omega) (show 0 ≤ x24.toInt ∧ x24.toInt ≤ 5 from by omega) (show (5 - x24.toInt).toNat < _ from by omega)
                    · skip
                      unfold hB_findOrAdd_216
                      unfold hB_findOrAdd_221
                      refine ok.inc (by decide) (show _ ≤ a_10u26.toInt + (1) ∧ a_10u26.toInt + (1) ≤ _ from by omega) (fun x24 hx24 => ?_)
                      have hx24 : x24.toInt = a_10u26.toInt + (1) := hx24
                      exact ih_u26 a_2u26 a_4u26 a_7u26 a_8u26 (1 : Int32) x24 Z32 hIZ32 ((Fr.rf.tr hFu26 (fun _ q => q)).tr hFZ32 (by decide)) (show 0 ≤ a_2u26.toInt ∧ a_2u26.toInt ≤ 4 from by omega) (show 0 ≤ a_4u26.toInt ∧ a_4u26.toInt + a_2u26.toInt ≤ 4 from by omega) (show 0 ≤ a_7u26.toInt ∧ a_7u26.toInt ≤ 511 from by omega) (show 0 ≤ a_8u26.toInt ∧ a_8u26.toInt ≤ 1548 from by omega) (show 0 ≤ x24.toInt ∧ x24.toInt ≤ 5 from by omega) (show (5 - x24.toInt).toNat < _ from by omega)
              exact lpu26 BIG a_2u3 a_4u3 a_7u3 (Zu3.1 25 0) (0 : Int32) (0 : Int32) Z11 hIZ11 ((((((Fr.rf.tr hFu3 (fun _ q => q)).tr hFZ7 (by decide)).tr hFZ8 (by decide)).tr hFZ9 (by decide)).tr hFZ10 (by decide)).tr hFZ11 (by decide)) (show 0 ≤ a_2u3.toInt ∧ a_2u3.toInt ≤ 4 from by omega) (show 0 ≤ a_4u3.toInt ∧ a_4u3.toInt + a_2u3.toInt ≤ 4 from by omega) (show 0 ≤ a_7u3.toInt ∧ a_7u3.toInt ≤ 511 from by omega) (show 0 ≤ (Zu3.1 25 0).toInt ∧ (Zu3.1 25 0).toInt ≤ 1548 from by omega) (show 0 ≤ (0 : Int) ∧ (0 : Int) ≤ 5 from by omega) (show (5 - (0 : Int)).toNat < BIG from ltBIG (show _ < 100000 from by omega))
            · skip
              refine ok.bd (v_hB_hasAny hIZ11) ?_
              rintro x29 _ rfl
              refine ok.ite (fun c39 => ?_) (fun c39 => ?_)
              · skip
                have g40 := i32_le x29
                unfold hB_findOrAdd_166
                unfold hB_findOrAdd_167
                have lpu41 : ∀ (n : Nat), ∀ (a_2u41 : Int32) (a_4u41 : Int32) (a_7u41 : Int32) (a_8u41 : Int32) (a_9u41 : Int32) (a_10u41 : Int32) (Zu41 : St), INV Zu41 → Fr YC Qv30 X Zu41 → (0 ≤ a_2u41.toInt ∧ a_2u41.toInt ≤ 4) → (0 ≤ a_4u41.toInt ∧ a_4u41.toInt + a_2u41.toInt ≤ 4) → (0 ≤ a_7u41.toInt ∧ a_7u41.toInt ≤ 511) → (0 ≤ a_8u41.toInt ∧ a_8u41.toInt ≤ 1548) → (0 ≤ a_10u41.toInt ∧ a_10u41.toInt ≤ 5) → (5 - a_10u41.toInt).toNat < n → ok (hB_findOrAdd_172 n a_2u41 33 a_4u41 a_7u41 a_8u41 a_9u41 a_10u41 Zu41) (fun r Y => (Fr YC Qv30 X Y ∧ INV Y)) := by
                  intro n
                  unfold hB_findOrAdd_172
                  refine lp_indN (P := fun (n : Nat) (r_u41 : Int32 → Nat → Int32 → Int32 → Int32 → Int32 → Int32 → St → Option (Int32 × St)) => ∀ (a_2u41 : Int32) (a_4u41 : Int32) (a_7u41 : Int32) (a_8u41 : Int32) (a_9u41 : Int32) (a_10u41 : Int32) (Zu41 : St), INV Zu41 → Fr YC Qv30 X Zu41 → (0 ≤ a_2u41.toInt ∧ a_2u41.toInt ≤ 4) → (0 ≤ a_4u41.toInt ∧ a_4u41.toInt + a_2u41.toInt ≤ 4) → (0 ≤ a_7u41.toInt ∧ a_7u41.toInt ≤ 511) → (0 ≤ a_8u41.toInt ∧ a_8u41.toInt ≤ 1548) → (0 ≤ a_10u41.toInt ∧ a_10u41.toInt ≤ 5) → (5 - a_10u41.toInt).toNat < n → ok (r_u41 a_2u41 33 a_4u41 a_7u41 a_8u41 a_9u41 a_10u41 Zu41) (fun r Y => (Fr YC Qv30 X Y ∧ INV Y))) ?_ ?_ n
                  · intro a_2u41 a_4u41 a_7u41 a_8u41 a_9u41 a_10u41 Zu41 hIu41 hFu41 u41_0 u41_1 u41_2 u41_3 u41_4  hm; exact absurd hm (Nat.not_lt_zero _)
                  · intro n r_u41 ih_u41 a_2u41 a_4u41 a_7u41 a_8u41 a_9u41 a_10u41 Zu41 hIu41 hFu41 u41_0 u41_1 u41_2 u41_3 u41_4  hmu41
                    unfold hB_findOrAdd_172_s
                    refine ok.ite (fun c42 => ?_) (fun c42 => ?_)
                    · skip
                      refine ok.ck (show 0 ≤ a_8u41.toInt ∧ a_8u41.toInt < ((1549 : Nat) : Int) from by omega) ?_
                      refine ok.wI (L := [6000]) hIu41 (show True from trivial) (show (6000 : Nat) ∈ [6000] from by decide) (by decide) (fun Z43 hIZ43 hFZ43 hkZ43 hoZ43 => ?_)
                      refine ok.ck (show 0 ≤ a_7u41.toInt ∧ a_7u41.toInt < ((512 : Nat) : Int) from by omega) ?_
                      refine ok.letE (v1 := (Zu41.1 31 (ix a_7u41))) (hFZ43.1 31 (ix a_7u41) (show (6200 : Nat) ∉ [6000] from by decide)) ?_
                      have g44 : -1 ≤ (Zu41.1 31 (ix a_7u41)).toInt ∧ (Zu41.1 31 (ix a_7u41)).toInt ≤ 1548 := hIu41.1 31 (ix a_7u41)
                      refine ok.ck (show 0 ≤ a_8u41.toInt ∧ a_8u41.toInt < ((1549 : Nat) : Int) from by omega) ?_
                      refine ok.wI (L := [6400]) hIZ43 (show -1 ≤ (Zu41.1 31 (ix a_7u41)).toInt ∧ (Zu41.1 31 (ix a_7u41)).toInt ≤ 1548 from by omega) (show (6400 : Nat) ∈ [6400] from by decide) (by decide) (fun Z45 hIZ45 hFZ45 hkZ45 hoZ45 => ?_)
                      refine ok.ck (show 0 ≤ a_7u41.toInt ∧ a_7u41.toInt < ((512 : Nat) : Int) from by omega) ?_
                      refine ok.wI (L := [6200]) hIZ45 (show -1 ≤ a_8u41.toInt ∧ a_8u41.toInt ≤ 1548 from by omega) (show (6200 : Nat) ∈ [6200] from by decide) (by decide) (fun Z46 hIZ46 hFZ46 hkZ46 hoZ46 => ?_)
                      exact ok.ret ⟨((((Fr.rf.tr hFu41 (fun _ q => q)).tr hFZ43 (by decide)).tr hFZ45 (by decide)).tr hFZ46 (by decide)), hIZ46⟩
                    · skip
                      refine ok.mul (show _ ≤ a_8u41.toInt * (5 : Int) ∧ a_8u41.toInt * (5 : Int) ≤ _ from by omega) (fun x19 hx19 => ?_)
                      have hx19 : x19.toInt = a_8u41.toInt * (5 : Int) := hx19
                      refine ok.add (show _ ≤ x19.toInt + a_10u41.toInt ∧ x19.toInt + a_10u41.toInt ≤ _ from by omega) (fun x20 hx20 => ?_)
                      have hx20 : x20.toInt = x19.toInt + a_10u41.toInt := hx20
                      refine ok.add (show _ ≤ a_4u41.toInt + a_10u41.toInt ∧ a_4u41.toInt + a_10u41.toInt ≤ _ from by omega) (fun x21 hx21 => ?_)
                      have hx21 : x21.toInt = a_4u41.toInt + a_10u41.toInt := hx21
                      refine ok.ck (show 0 ≤ x21.toInt ∧ x21.toInt < ((4 : Nat) : Int) from by omega) ?_
                      refine ok.letE (v1 := (X.1 33 (ix x21))) (hFu41.1 33 (ix x21) n6600_Qv30) ?_
                      refine ok.ck (show 0 ≤ x20.toInt ∧ x20.toInt < ((7745 : Nat) : Int) from by omega) ?_
                      refine ok.wI (L := [5600]) hIu41 (show True from trivial) (show (5600 : Nat) ∈ [5600] from by decide) (by decide) (fun Z47 hIZ47 hFZ47 hkZ47 hoZ47 => ?_)
                      refine ok.ite (fun c48 => ?_) (fun c48 => ?_)
                      · skip
                        have g49 := i32_le a_9u41
                        refine ok.add (show _ ≤ a_4u41.toInt + a_10u41.toInt ∧ a_4u41.toInt + a_10u41.toInt ≤ _ from by omega) (fun x25 hx25 => ?_)
                        have hx25 : x25.toInt = a_4u41.toInt + a_10u41.toInt := hx25
                        refine ok.ck (show 0 ≤ x25.toInt ∧ x25.toInt < ((4 : Nat) : Int) from by omega) ?_
                        refine ok.letE (v1 := (X.1 33 (ix x25))) ((hFZ47.1 33 (ix x25) (show (6600 : Nat) ∉ [5600] from by decide)).trans (hFu41.1 33 (ix x25) n6600_Qv30)) ?_
                        refine ok.bd (v_hB_hasAny hIZ47) ?_
                        rintro x27 _ rfl
                        refine ok.ite (fun c51 => ?_) (fun c51 => ?_)
                        · skip
                          have g52 := i32_le x27
                          unfold hB_findOrAdd_221
                          refine ok.inc (by decide) (show _ ≤ a_10u41.toInt + (1) ∧ a_10u41.toInt + (1) ≤ _ from by omega) (fun x24 hx24 => ?_)
                          have hx24 : x24.toInt = a_10u41.toInt + (1) := hx24
                          exact ih_u41 a_2u41 a_4u41 a_7u41 a_8u41 (0 : Int32) x24 Z47 hIZ47 ((Fr.rf.tr hFu41 (fun _ q => q)).tr hFZ47 (by decide)) (show 0 ≤ a_2u41.toInt ∧ a_2u41.toInt ≤ 4 from by omega) (show 0 ≤ a_4u41.toInt ∧ a_4u41.toInt + a_2u41.toInt ≤ 4 from by omega) (show 0 ≤ a_7u41.toInt ∧ a_7u41.toInt ≤ 511 from by omega) (show 0 ≤ a_8u41.toInt ∧ a_8u41.toInt ≤ 1548 from by omega) (show 0 ≤ x24.toInt ∧ x24.toInt ≤ 5 from by omega) (show (5 - x24.toInt).toNat < _ from by omega)
                        · skip
                          unfold hB_findOrAdd_216
                          unfold hB_findOrAdd_221
                          refine ok.inc (by decide) (show _ ≤ a_10u41.toInt + (1) ∧ a_10u41.toInt + (1) ≤ _ from by omega) (fun x24 hx24 => ?_)
                          have hx24 : x24.toInt = a_10u41.toInt + (1) := hx24
                          exact ih_u41 a_2u41 a_4u41 a_7u41 a_8u41 (1 : Int32) x24 Z47 hIZ47 ((Fr.rf.tr hFu41 (fun _ q => q)).tr hFZ47 (by decide)) (show 0 ≤ a_2u41.toInt ∧ a_2u41.toInt ≤ 4 from by omega) (show 0 ≤ a_4u41.toInt ∧ a_4u41.toInt + a_2u41.toInt ≤ 4 from by omega) (show 0 ≤ a_7u41.toInt ∧ a_7u41.toInt ≤ 511 from by omega) (show 0 ≤ a_8u41.toInt ∧ a_8u41.toInt ≤ 1548 from by omega) (show 0 ≤ x24.toInt ∧ x24.toInt ≤ 5 from by omega) (show (5 - x24.toInt).toNat < _ from by omega)
                      · skip
                        unfold hB_findOrAdd_216
                        unfold hB_findOrAdd_221
                        refine ok.inc (by decide) (show _ ≤ a_10u41.toInt + (1) ∧ a_10u41.toInt + (1) ≤ _ from by omega) (fun x24 hx24 => ?_)
                        have hx24 : x24.toInt = a_10u41.toInt + (1) := hx24
                        exact ih_u41 a_2u41 a_4u41 a_7u41 a_8u41 (1 : Int32) x24 Z47 hIZ47 ((Fr.rf.tr hFu41 (fun _ q => q)).tr hFZ47 (by decide)) (show 0 ≤ a_2u41.toInt ∧ a_2u41.toInt ≤ 4 from by omega) (show 0 ≤ a_4u41.toInt ∧ a_4u41.toInt + a_2u41.toInt ≤ 4 from by omega) (show 0 ≤ a_7u41.toInt ∧ a_7u41.toInt ≤ 511 from by omega) (show 0 ≤ a_8u41.toInt ∧ a_8u41.toInt ≤ 1548 from by omega) (show 0 ≤ x24.toInt ∧ x24.toInt ≤ 5 from by omega) (show (5 - x24.toInt).toNat < _ from by omega)
                exact lpu41 BIG a_2u3 a_4u3 a_7u3 (Zu3.1 25 0) (0 : Int32) (0 : Int32) Z11 hIZ11 ((((((Fr.rf.tr hFu3 (fun _ q => q)).tr hFZ7 (by decide)).tr hFZ8 (by decide)).tr hFZ9 (by decide)).tr hFZ10 (by decide)).tr hFZ11 (by decide)) (show 0 ≤ a_2u3.toInt ∧ a_2u3.toInt ≤ 4 from by omega) (show 0 ≤ a_4u3.toInt ∧ a_4u3.toInt + a_2u3.toInt ≤ 4 from by omega) (show 0 ≤ a_7u3.toInt ∧ a_7u3.toInt ≤ 511 from by omega) (show 0 ≤ (Zu3.1 25 0).toInt ∧ (Zu3.1 25 0).toInt ≤ 1548 from by omega) (show 0 ≤ (0 : Int) ∧ (0 : Int) ≤ 5 from by omega) (show (5 - (0 : Int)).toNat < BIG from ltBIG (show _ < 100000 from by omega))
              · skip
                unfold hB_findOrAdd_162
                unfold hB_findOrAdd_167
                have lpu53 : ∀ (n : Nat), ∀ (a_2u53 : Int32) (a_4u53 : Int32) (a_7u53 : Int32) (a_8u53 : Int32) (a_9u53 : Int32) (a_10u53 : Int32) (Zu53 : St), INV Zu53 → Fr YC Qv30 X Zu53 → (0 ≤ a_2u53.toInt ∧ a_2u53.toInt ≤ 4) → (0 ≤ a_4u53.toInt ∧ a_4u53.toInt + a_2u53.toInt ≤ 4) → (0 ≤ a_7u53.toInt ∧ a_7u53.toInt ≤ 511) → (0 ≤ a_8u53.toInt ∧ a_8u53.toInt ≤ 1548) → (0 ≤ a_10u53.toInt ∧ a_10u53.toInt ≤ 5) → (5 - a_10u53.toInt).toNat < n → ok (hB_findOrAdd_172 n a_2u53 33 a_4u53 a_7u53 a_8u53 a_9u53 a_10u53 Zu53) (fun r Y => (Fr YC Qv30 X Y ∧ INV Y)) := by
                  intro n
                  unfold hB_findOrAdd_172
                  refine lp_indN (P := fun (n : Nat) (r_u53 : Int32 → Nat → Int32 → Int32 → Int32 → Int32 → Int32 → St → Option (Int32 × St)) => ∀ (a_2u53 : Int32) (a_4u53 : Int32) (a_7u53 : Int32) (a_8u53 : Int32) (a_9u53 : Int32) (a_10u53 : Int32) (Zu53 : St), INV Zu53 → Fr YC Qv30 X Zu53 → (0 ≤ a_2u53.toInt ∧ a_2u53.toInt ≤ 4) → (0 ≤ a_4u53.toInt ∧ a_4u53.toInt + a_2u53.toInt ≤ 4) → (0 ≤ a_7u53.toInt ∧ a_7u53.toInt ≤ 511) → (0 ≤ a_8u53.toInt ∧ a_8u53.toInt ≤ 1548) → (0 ≤ a_10u53.toInt ∧ a_10u53.toInt ≤ 5) → (5 - a_10u53.toInt).toNat < n → ok (r_u53 a_2u53 33 a_4u53 a_7u53 a_8u53 a_9u53 a_10u53 Zu53) (fun r Y => (Fr YC Qv30 X Y ∧ INV Y))) ?_ ?_ n
                  · intro a_2u53 a_4u53 a_7u53 a_8u53 a_9u53 a_10u53 Zu53 hIu53 hFu53 u53_0 u53_1 u53_2 u53_3 u53_4  hm; exact absurd hm (Nat.not_lt_zero _)
                  · intro n r_u53 ih_u53 a_2u53 a_4u53 a_7u53 a_8u53 a_9u53 a_10u53 Zu53 hIu53 hFu53 u53_0 u53_1 u53_2 u53_3 u53_4  hmu53
                    unfold hB_findOrAdd_172_s
                    refine ok.ite (fun c54 => ?_) (fun c54 => ?_)
                    · skip
                      refine ok.ck (show 0 ≤ a_8u53.toInt ∧ a_8u53.toInt < ((1549 : Nat) : Int) from by omega) ?_
                      refine ok.wI (L := [6000]) hIu53 (show True from trivial) (show (6000 : Nat) ∈ [6000] from by decide) (by decide) (fun Z55 hIZ55 hFZ55 hkZ55 hoZ55 => ?_)
                      refine ok.ck (show 0 ≤ a_7u53.toInt ∧ a_7u53.toInt < ((512 : Nat) : Int) from by omega) ?_
                      refine ok.letE (v1 := (Zu53.1 31 (ix a_7u53))) (hFZ55.1 31 (ix a_7u53) (show (6200 : Nat) ∉ [6000] from by decide)) ?_
                      have g56 : -1 ≤ (Zu53.1 31 (ix a_7u53)).toInt ∧ (Zu53.1 31 (ix a_7u53)).toInt ≤ 1548 := hIu53.1 31 (ix a_7u53)
                      refine ok.ck (show 0 ≤ a_8u53.toInt ∧ a_8u53.toInt < ((1549 : Nat) : Int) from by omega) ?_
                      refine ok.wI (L := [6400]) hIZ55 (show -1 ≤ (Zu53.1 31 (ix a_7u53)).toInt ∧ (Zu53.1 31 (ix a_7u53)).toInt ≤ 1548 from by omega) (show (6400 : Nat) ∈ [6400] from by decide) (by decide) (fun Z57 hIZ57 hFZ57 hkZ57 hoZ57 => ?_)
                      refine ok.ck (show 0 ≤ a_7u53.toInt ∧ a_7u53.toInt < ((512 : Nat) : Int) from by omega) ?_
                      refine ok.wI (L := [6200]) hIZ57 (show -1 ≤ a_8u53.toInt ∧ a_8u53.toInt ≤ 1548 from by omega) (show (6200 : Nat) ∈ [6200] from by decide) (by decide) (fun Z58 hIZ58 hFZ58 hkZ58 hoZ58 => ?_)
                      exact ok.ret ⟨((((Fr.rf.tr hFu53 (fun _ q => q)).tr hFZ55 (by decide)).tr hFZ57 (by decide)).tr hFZ58 (by decide)), hIZ58⟩
                    · skip
                      refine ok.mul (show _ ≤ a_8u53.toInt * (5 : Int) ∧ a_8u53.toInt * (5 : Int) ≤ _ from by omega) (fun x19 hx19 => ?_)
                      have hx19 : x19.toInt = a_8u53.toInt * (5 : Int) := hx19
                      refine ok.add (show _ ≤ x19.toInt + a_10u53.toInt ∧ x19.toInt + a_10u53.toInt ≤ _ from by omega) (fun x20 hx20 => ?_)
                      have hx20 : x20.toInt = x19.toInt + a_10u53.toInt := hx20
                      refine ok.add (show _ ≤ a_4u53.toInt + a_10u53.toInt ∧ a_4u53.toInt + a_10u53.toInt ≤ _ from by omega) (fun x21 hx21 => ?_)
                      have hx21 : x21.toInt = a_4u53.toInt + a_10u53.toInt := hx21
                      refine ok.ck (show 0 ≤ x21.toInt ∧ x21.toInt < ((4 : Nat) : Int) from by omega) ?_
                      refine ok.letE (v1 := (X.1 33 (ix x21))) (hFu53.1 33 (ix x21) n6600_Qv30) ?_
                      refine ok.ck (show 0 ≤ x20.toInt ∧ x20.toInt < ((7745 : Nat) : Int) from by omega) ?_
                      refine ok.wI (L := [5600]) hIu53 (show True from trivial) (show (5600 : Nat) ∈ [5600] from by decide) (by decide) (fun Z59 hIZ59 hFZ59 hkZ59 hoZ59 => ?_)
                      refine ok.ite (fun c60 => ?_) (fun c60 => ?_)
                      · skip
                        have g61 := i32_le a_9u53
                        refine ok.add (show _ ≤ a_4u53.toInt + a_10u53.toInt ∧ a_4u53.toInt + a_10u53.toInt ≤ _ from by omega) (fun x25 hx25 => ?_)
                        have hx25 : x25.toInt = a_4u53.toInt + a_10u53.toInt := hx25
                        refine ok.ck (show 0 ≤ x25.toInt ∧ x25.toInt < ((4 : Nat) : Int) from by omega) ?_
                        refine ok.letE (v1 := (X.1 33 (ix x25))) ((hFZ59.1 33 (ix x25) (show (6600 : Nat) ∉ [5600] from by decide)).trans (hFu53.1 33 (ix x25) n6600_Qv30)) ?_
                        refine ok.bd (v_hB_hasAny hIZ59) ?_
                        rintro x27 _ rfl
                        refine ok.ite (fun c63 => ?_) (fun c63 => ?_)
                        · skip
                          have g64 := i32_le x27
                          unfold hB_findOrAdd_221
                          refine ok.inc (by decide) (show _ ≤ a_10u53.toInt + (1) ∧ a_10u53.toInt + (1) ≤ _ from by omega) (fun x24 hx24 => ?_)
                          have hx24 : x24.toInt = a_10u53.toInt + (1) := hx24
                          exact ih_u53 a_2u53 a_4u53 a_7u53 a_8u53 (0 : Int32) x24 Z59 hIZ59 ((Fr.rf.tr hFu53 (fun _ q => q)).tr hFZ59 (by decide)) (show 0 ≤ a_2u53.toInt ∧ a_2u53.toInt ≤ 4 from by omega) (show 0 ≤ a_4u53.toInt ∧ a_4u53.toInt + a_2u53.toInt ≤ 4 from by omega) (show 0 ≤ a_7u53.toInt ∧ a_7u53.toInt ≤ 511 from by omega) (show 0 ≤ a_8u53.toInt ∧ a_8u53.toInt ≤ 1548 from by omega) (show 0 ≤ x24.toInt ∧ x24.toInt ≤ 5 from by omega) (show (5 - x24.toInt).toNat < _ from by omega)
                        · skip
                          unfold hB_findOrAdd_216
                          unfold hB_findOrAdd_221
                          refine ok.inc (by decide) (show _ ≤ a_10u53.toInt + (1) ∧ a_10u53.toInt + (1) ≤ _ from by omega) (fun x24 hx24 => ?_)
                          have hx24 : x24.toInt = a_10u53.toInt + (1) := hx24
                          exact ih_u53 a_2u53 a_4u53 a_7u53 a_8u53 (1 : Int32) x24 Z59 hIZ59 ((Fr.rf.tr hFu53 (fun _ q => q)).tr hFZ59 (by decide)) (show 0 ≤ a_2u53.toInt ∧ a_2u53.toInt ≤ 4 from by omega) (show 0 ≤ a_4u53.toInt ∧ a_4u53.toInt + a_2u53.toInt ≤ 4 from by omega) (show 0 ≤ a_7u53.toInt ∧ a_7u53.toInt ≤ 511 from by omega) (show 0 ≤ a_8u53.toInt ∧ a_8u53.toInt ≤ 1548 from by omega) (show 0 ≤ x24.toInt ∧ x24.toInt ≤ 5 from by omega) (show (5 - x24.toInt).toNat < _ from by omega)
                      · skip
                        unfold hB_findOrAdd_216
                        unfold hB_findOrAdd_221
                        refine ok.inc (by decide) (show _ ≤ a_10u53.toInt + (1) ∧ a_10u53.toInt + (1) ≤ _ from by omega) (fun x24 hx24 => ?_)
                        have hx24 : x24.toInt = a_10u53.toInt + (1) := hx24
                        exact ih_u53 a_2u53 a_4u53 a_7u53 a_8u53 (1 : Int32) x24 Z59 hIZ59 ((Fr.rf.tr hFu53 (fun _ q => q)).tr hFZ59 (by decide)) (show 0 ≤ a_2u53.toInt ∧ a_2u53.toInt ≤ 4 from by omega) (show 0 ≤ a_4u53.toInt ∧ a_4u53.toInt + a_2u53.toInt ≤ 4 from by omega) (show 0 ≤ a_7u53.toInt ∧ a_7u53.toInt ≤ 511 from by omega) (show 0 ≤ a_8u53.toInt ∧ a_8u53.toInt ≤ 1548 from by omega) (show 0 ≤ x24.toInt ∧ x24.toInt ≤ 5 from by omega) (show (5 - x24.toInt).toNat < _ from by omega)
                exact lpu53 BIG a_2u3 a_4u3 a_7u3 (Zu3.1 25 0) (1 : Int32) (0 : Int32) Z11 hIZ11 ((((((Fr.rf.tr hFu3 (fun _ q => q)).tr hFZ7 (by decide)).tr hFZ8 (by decide)).tr hFZ9 (by decide)).tr hFZ10 (by decide)).tr hFZ11 (by decide)) (show 0 ≤ a_2u3.toInt ∧ a_2u3.toInt ≤ 4 from by omega) (show 0 ≤ a_4u3.toInt ∧ a_4u3.toInt + a_2u3.toInt ≤ 4 from by omega) (show 0 ≤ a_7u3.toInt ∧ a_7u3.toInt ≤ 511 from by omega) (show 0 ≤ (Zu3.1 25 0).toInt ∧ (Zu3.1 25 0).toInt ≤ 1548 from by omega) (show 0 ≤ (0 : Int) ∧ (0 : Int) ≤ 5 from by omega) (show (5 - (0 : Int)).toNat < BIG from ltBIG (show _ < 100000 from by omega))
        · skip
          exact ok.ret ⟨(Fr.rf.tr hFu3 (fun _ q => q)), hIu3⟩
      · skip
        refine ok.ite (fun c65 => ?_) (fun c65 => ?_)
        · skip
          unfold hB_findOrAdd_77
          refine ok.letE (v1 := (Zu3.1 25 0)) rfl ?_
          have g66 : 0 ≤ (Zu3.1 25 0).toInt ∧ (Zu3.1 25 0).toInt ≤ 1549 := hIu3.1 25 0
          refine ok.ite (fun c67 => ?_) (fun c67 => ?_)
          · skip
            refine ok.letE (v1 := (Zu3.1 25 0)) rfl ?_
            refine ok.letE (v1 := (Zu3.1 25 0)) rfl ?_
            refine ok.add (show _ ≤ (Zu3.1 25 0).toInt + (1 : Int) ∧ (Zu3.1 25 0).toInt + (1 : Int) ≤ _ from by omega) (fun x7 hx7 => ?_)
            have hx7 : x7.toInt = (Zu3.1 25 0).toInt + (1 : Int) := hx7
            refine ok.wI (L := [5000]) hIu3 (show 0 ≤ x7.toInt ∧ x7.toInt ≤ 1549 from by omega) (show (5000 : Nat) ∈ [5000] from by decide) (by decide) (fun Z68 hIZ68 hFZ68 hkZ68 hoZ68 => ?_)
            refine ok.ck (show 0 ≤ (Zu3.1 25 0).toInt ∧ (Zu3.1 25 0).toInt < ((1549 : Nat) : Int) from by omega) ?_
            refine ok.wI (L := [5200]) hIZ68 (show True from trivial) (show (5200 : Nat) ∈ [5200] from by decide) (by decide) (fun Z69 hIZ69 hFZ69 hkZ69 hoZ69 => ?_)
            refine ok.ck (show 0 ≤ (Zu3.1 25 0).toInt ∧ (Zu3.1 25 0).toInt < ((1549 : Nat) : Int) from by omega) ?_
            refine ok.wI (L := [5400]) hIZ69 (show 0 ≤ a_2u3.toInt ∧ a_2u3.toInt ≤ 4 from by omega) (show (5400 : Nat) ∈ [5400] from by decide) (by decide) (fun Z70 hIZ70 hFZ70 hkZ70 hoZ70 => ?_)
            refine ok.ck (show 0 ≤ (Zu3.1 25 0).toInt ∧ (Zu3.1 25 0).toInt < ((1549 : Nat) : Int) from by omega) ?_
            refine ok.wI (L := [5800]) hIZ70 (show True from trivial) (show (5800 : Nat) ∈ [5800] from by decide) (by decide) (fun Z71 hIZ71 hFZ71 hkZ71 hoZ71 => ?_)
            refine ok.mul (show _ ≤ (Zu3.1 25 0).toInt * (5 : Int) ∧ (Zu3.1 25 0).toInt * (5 : Int) ≤ _ from by omega) (fun x12 hx12 => ?_)
            have hx12 : x12.toInt = (Zu3.1 25 0).toInt * (5 : Int) := hx12
            refine ok.add (show _ ≤ x12.toInt + (4 : Int) ∧ x12.toInt + (4 : Int) ≤ _ from by omega) (fun x13 hx13 => ?_)
            have hx13 : x13.toInt = x12.toInt + (4 : Int) := hx13
            refine ok.ck (show 0 ≤ x13.toInt ∧ x13.toInt < ((7745 : Nat) : Int) from by omega) ?_
            refine ok.wI (L := [5600]) hIZ71 (show True from trivial) (show (5600 : Nat) ∈ [5600] from by decide) (by decide) (fun Z72 hIZ72 hFZ72 hkZ72 hoZ72 => ?_)
            refine ok.ite (fun c73 => ?_) (fun c73 => ?_)
            · skip
              unfold hB_findOrAdd_162
              unfold hB_findOrAdd_167
              have lpu74 : ∀ (n : Nat), ∀ (a_2u74 : Int32) (a_4u74 : Int32) (a_7u74 : Int32) (a_8u74 : Int32) (a_9u74 : Int32) (a_10u74 : Int32) (Zu74 : St), INV Zu74 → Fr YC Qv30 X Zu74 → (0 ≤ a_2u74.toInt ∧ a_2u74.toInt ≤ 4) → (0 ≤ a_4u74.toInt ∧ a_4u74.toInt + a_2u74.toInt ≤ 4) → (0 ≤ a_7u74.toInt ∧ a_7u74.toInt ≤ 511) → (0 ≤ a_8u74.toInt ∧ a_8u74.toInt ≤ 1548) → (0 ≤ a_10u74.toInt ∧ a_10u74.toInt ≤ 5) → (5 - a_10u74.toInt).toNat < n → ok (hB_findOrAdd_172 n a_2u74 33 a_4u74 a_7u74 a_8u74 a_9u74 a_10u74 Zu74) (fun r Y => (Fr YC Qv30 X Y ∧ INV Y)) := by
                intro n
                unfold hB_findOrAdd_172
                refine lp_indN (P := fun (n : Nat) (r_u74 : Int32 → Nat → Int32 → Int32 → Int32 → Int32 → Int32 → St → Option (Int32 × St)) => ∀ (a_2u74 : Int32) (a_4u74 : Int32) (a_7u74 : Int32) (a_8u74 : Int32) (a_9u74 : Int32) (a_10u74 : Int32) (Zu74 : St), INV Zu74 → Fr YC Qv30 X Zu74 → (0 ≤ a_2u74.toInt ∧ a_2u74.toInt ≤ 4) → (0 ≤ a_4u74.toInt ∧ a_4u74.toInt + a_2u74.toInt ≤ 4) → (0 ≤ a_7u74.toInt ∧ a_7u74.toInt ≤ 511) → (0 ≤ a_8u74.toInt ∧ a_8u74.toInt ≤ 1548) → (0 ≤ a_10u74.toInt ∧ a_10u74.toInt ≤ 5) → (5 - a_10u74.toInt).toNat < n → ok (r_u74 a_2u74 33 a_4u74 a_7u74 a_8u74 a_9u74 a_10u74 Zu74) (fun r Y => (Fr YC Qv30 X Y ∧ INV Y))) ?_ ?_ n
                · intro a_2u74 a_4u74 a_7u74 a_8u74 a_9u74 a_10u74 Zu74 hIu74 hFu74 u74_0 u74_1 u74_2 u74_3 u74_4  hm; exact absurd hm (Nat.not_lt_zero _)
                · intro n r_u74 ih_u74 a_2u74 a_4u74 a_7u74 a_8u74 a_9u74 a_10u74 Zu74 hIu74 hFu74 u74_0 u74_1 u74_2 u74_3 u74_4  hmu74
                  unfold hB_findOrAdd_172_s
                  refine ok.ite (fun c75 => ?_) (fun c75 => ?_)
                  · skip
                    refine ok.ck (show 0 ≤ a_8u74.toInt ∧ a_8u74.toInt < ((1549 : Nat) : Int) from by omega) ?_
                    refine ok.wI (L := [6000]) hIu74 (show True from trivial) (show (6000 : Nat) ∈ [6000] from by decide) (by decide) (fun Z76 hIZ76 hFZ76 hkZ76 hoZ76 => ?_)
                    refine ok.ck (show 0 ≤ a_7u74.toInt ∧ a_7u74.toInt < ((512 : Nat) : Int) from by omega) ?_
                    refine ok.letE (v1 := (Zu74.1 31 (ix a_7u74))) (hFZ76.1 31 (ix a_7u74) (show (6200 : Nat) ∉ [6000] from by decide)) ?_
                    have g77 : -1 ≤ (Zu74.1 31 (ix a_7u74)).toInt ∧ (Zu74.1 31 (ix a_7u74)).toInt ≤ 1548 := hIu74.1 31 (ix a_7u74)
                    refine ok.ck (show 0 ≤ a_8u74.toInt ∧ a_8u74.toInt < ((1549 : Nat) : Int) from by omega) ?_
                    refine ok.wI (L := [6400]) hIZ76 (show -1 ≤ (Zu74.1 31 (ix a_7u74)).toInt ∧ (Zu74.1 31 (ix a_7u74)).toInt ≤ 1548 from by omega) (show (6400 : Nat) ∈ [6400] from by decide) (by decide) (fun Z78 hIZ78 hFZ78 hkZ78 hoZ78 => ?_)
                    refine ok.ck (show 0 ≤ a_7u74.toInt ∧ a_7u74.toInt < ((512 : Nat) : Int) from by omega) ?_
                    refine ok.wI (L := [6200]) hIZ78 (show -1 ≤ a_8u74.toInt ∧ a_8u74.toInt ≤ 1548 from by omega) (show (6200 : Nat) ∈ [6200] from by decide) (by decide) (fun Z79 hIZ79 hFZ79 hkZ79 hoZ79 => ?_)
                    exact ok.ret ⟨((((Fr.rf.tr hFu74 (fun _ q => q)).tr hFZ76 (by decide)).tr hFZ78 (by decide)).tr hFZ79 (by decide)), hIZ79⟩
                  · skip
                    refine ok.mul (show _ ≤ a_8u74.toInt * (5 : Int) ∧ a_8u74.toInt * (5 : Int) ≤ _ from by omega) (fun x19 hx19 => ?_)
                    have hx19 : x19.toInt = a_8u74.toInt * (5 : Int) := hx19
                    refine ok.add (show _ ≤ x19.toInt + a_10u74.toInt ∧ x19.toInt + a_10u74.toInt ≤ _ from by omega) (fun x20 hx20 => ?_)
                    have hx20 : x20.toInt = x19.toInt + a_10u74.toInt := hx20
                    refine ok.add (show _ ≤ a_4u74.toInt + a_10u74.toInt ∧ a_4u74.toInt + a_10u74.toInt ≤ _ from by omega) (fun x21 hx21 => ?_)
                    have hx21 : x21.toInt = a_4u74.toInt + a_10u74.toInt := hx21
                    refine ok.ck (show 0 ≤ x21.toInt ∧ x21.toInt < ((4 : Nat) : Int) from by omega) ?_
                    refine ok.letE (v1 := (X.1 33 (ix x21))) (hFu74.1 33 (ix x21) n6600_Qv30) ?_
                    refine ok.ck (show 0 ≤ x20.toInt ∧ x20.toInt < ((7745 : Nat) : Int) from by omega) ?_
                    refine ok.wI (L := [5600]) hIu74 (show True from trivial) (show (5600 : Nat) ∈ [5600] from by decide) (by decide) (fun Z80 hIZ80 hFZ80 hkZ80 hoZ80 => ?_)
                    refine ok.ite (fun c81 => ?_) (fun c81 => ?_)
                    · skip
                      have g82 := i32_le a_9u74
                      refine ok.add (show _ ≤ a_4u74.toInt + a_10u74.toInt ∧ a_4u74.toInt + a_10u74.toInt ≤ _ from by omega) (fun x25 hx25 => ?_)
                      have hx25 : x25.toInt = a_4u74.toInt + a_10u74.toInt := hx25
                      refine ok.ck (show 0 ≤ x25.toInt ∧ x25.toInt < ((4 : Nat) : Int) from by omega) ?_
                      refine ok.letE (v1 := (X.1 33 (ix x25))) ((hFZ80.1 33 (ix x25) (show (6600 : Nat) ∉ [5600] from by decide)).trans (hFu74.1 33 (ix x25) n6600_Qv30)) ?_
                      refine ok.bd (v_hB_hasAny hIZ80) ?_
                      rintro x27 _ rfl
                      refine ok.ite (fun c84 => ?_) (fun c84 => ?_)
                      · skip
                        have g85 := i32_le x27
                        unfold hB_findOrAdd_221
                        refine ok.inc (by decide) (show _ ≤ a_10u74.toInt + (1) ∧ a_10u74.toInt + (1) ≤ _ from by omega) (fun x24 hx24 => ?_)
                        have hx24 : x24.toInt = a_10u74.toInt + (1) := hx24
                        exact ih_u74 a_2u74 a_4u74 a_7u74 a_8u74 (0 : Int32) x24 Z80 hIZ80 ((Fr.rf.tr hFu74 (fun _ q => q)).tr hFZ80 (by decide)) (show 0 ≤ a_2u74.toInt ∧ a_2u74.toInt ≤ 4 from by omega) (show 0 ≤ a_4u74.toInt ∧ a_4u74.toInt + a_2u74.toInt ≤ 4 from by omega) (show 0 ≤ a_7u74.toInt ∧ a_7u74.toInt ≤ 511 from by omega) (show 0 ≤ a_8u74.toInt ∧ a_8u74.toInt ≤ 1548 from by omega) (show 0 ≤ x24.toInt ∧ x24.toInt ≤ 5 from by omega) (show (5 - x24.toInt).toNat < _ from by omega)
                      · skip
                        unfold hB_findOrAdd_216
                        unfold hB_findOrAdd_221
                        refine ok.inc (by decide) (show _ ≤ a_10u74.toInt + (1) ∧ a_10u74.toInt + (1) ≤ _ from by omega) (fun x24 hx24 => ?_)
                        have hx24 : x24.toInt = a_10u74.toInt + (1) := hx24
                        exact ih_u74 a_2u74 a_4u74 a_7u74 a_8u74 (1 : Int32) x24 Z80 hIZ80 ((Fr.rf.tr hFu74 (fun _ q => q)).tr hFZ80 (by decide)) (show 0 ≤ a_2u74.toInt ∧ a_2u74.toInt ≤ 4 from by omega) (show 0 ≤ a_4u74.toInt ∧ a_4u74.toInt + a_2u74.toInt ≤ 4 from by omega) (show 0 ≤ a_7u74.toInt ∧ a_7u74.toInt ≤ 511 from by omega) (show 0 ≤ a_8u74.toInt ∧ a_8u74.toInt ≤ 1548 from by omega) (show 0 ≤ x24.toInt ∧ x24.toInt ≤ 5 from by omega) (show (5 - x24.toInt).toNat < _ from by omega)
                    · skip
                      unfold hB_findOrAdd_216
                      unfold hB_findOrAdd_221
                      refine ok.inc (by decide) (show _ ≤ a_10u74.toInt + (1) ∧ a_10u74.toInt + (1) ≤ _ from by omega) (fun x24 hx24 => ?_)
                      have hx24 : x24.toInt = a_10u74.toInt + (1) := hx24
                      exact ih_u74 a_2u74 a_4u74 a_7u74 a_8u74 (1 : Int32) x24 Z80 hIZ80 ((Fr.rf.tr hFu74 (fun _ q => q)).tr hFZ80 (by decide)) (show 0 ≤ a_2u74.toInt ∧ a_2u74.toInt ≤ 4 from by omega) (show 0 ≤ a_4u74.toInt ∧ a_4u74.toInt + a_2u74.toInt ≤ 4 from by omega) (show 0 ≤ a_7u74.toInt ∧ a_7u74.toInt ≤ 511 from by omega) (show 0 ≤ a_8u74.toInt ∧ a_8u74.toInt ≤ 1548 from by omega) (show 0 ≤ x24.toInt ∧ x24.toInt ≤ 5 from by omega) (show (5 - x24.toInt).toNat < _ from by omega)
              exact lpu74 BIG a_2u3 a_4u3 a_7u3 (Zu3.1 25 0) (1 : Int32) (0 : Int32) Z72 hIZ72 ((((((Fr.rf.tr hFu3 (fun _ q => q)).tr hFZ68 (by decide)).tr hFZ69 (by decide)).tr hFZ70 (by decide)).tr hFZ71 (by decide)).tr hFZ72 (by decide)) (show 0 ≤ a_2u3.toInt ∧ a_2u3.toInt ≤ 4 from by omega) (show 0 ≤ a_4u3.toInt ∧ a_4u3.toInt + a_2u3.toInt ≤ 4 from by omega) (show 0 ≤ a_7u3.toInt ∧ a_7u3.toInt ≤ 511 from by omega) (show 0 ≤ (Zu3.1 25 0).toInt ∧ (Zu3.1 25 0).toInt ≤ 1548 from by omega) (show 0 ≤ (0 : Int) ∧ (0 : Int) ≤ 5 from by omega) (show (5 - (0 : Int)).toNat < BIG from ltBIG (show _ < 100000 from by omega))
            · skip
              refine ok.ite (fun c86 => ?_) (fun c86 => ?_)
              · skip
                unfold hB_findOrAdd_166
                unfold hB_findOrAdd_167
                have lpu87 : ∀ (n : Nat), ∀ (a_2u87 : Int32) (a_4u87 : Int32) (a_7u87 : Int32) (a_8u87 : Int32) (a_9u87 : Int32) (a_10u87 : Int32) (Zu87 : St), INV Zu87 → Fr YC Qv30 X Zu87 → (0 ≤ a_2u87.toInt ∧ a_2u87.toInt ≤ 4) → (0 ≤ a_4u87.toInt ∧ a_4u87.toInt + a_2u87.toInt ≤ 4) → (0 ≤ a_7u87.toInt ∧ a_7u87.toInt ≤ 511) → (0 ≤ a_8u87.toInt ∧ a_8u87.toInt ≤ 1548) → (0 ≤ a_10u87.toInt ∧ a_10u87.toInt ≤ 5) → (5 - a_10u87.toInt).toNat < n → ok (hB_findOrAdd_172 n a_2u87 33 a_4u87 a_7u87 a_8u87 a_9u87 a_10u87 Zu87) (fun r Y => (Fr YC Qv30 X Y ∧ INV Y)) := by
                  intro n
                  unfold hB_findOrAdd_172
                  refine lp_indN (P := fun (n : Nat) (r_u87 : Int32 → Nat → Int32 → Int32 → Int32 → Int32 → Int32 → St → Option (Int32 × St)) => ∀ (a_2u87 : Int32) (a_4u87 : Int32) (a_7u87 : Int32) (a_8u87 : Int32) (a_9u87 : Int32) (a_10u87 : Int32) (Zu87 : St), INV Zu87 → Fr YC Qv30 X Zu87 → (0 ≤ a_2u87.toInt ∧ a_2u87.toInt ≤ 4) → (0 ≤ a_4u87.toInt ∧ a_4u87.toInt + a_2u87.toInt ≤ 4) → (0 ≤ a_7u87.toInt ∧ a_7u87.toInt ≤ 511) → (0 ≤ a_8u87.toInt ∧ a_8u87.toInt ≤ 1548) → (0 ≤ a_10u87.toInt ∧ a_10u87.toInt ≤ 5) → (5 - a_10u87.toInt).toNat < n → ok (r_u87 a_2u87 33 a_4u87 a_7u87 a_8u87 a_9u87 a_10u87 Zu87) (fun r Y => (Fr YC Qv30 X Y ∧ INV Y))) ?_ ?_ n
                  · intro a_2u87 a_4u87 a_7u87 a_8u87 a_9u87 a_10u87 Zu87 hIu87 hFu87 u87_0 u87_1 u87_2 u87_3 u87_4  hm; exact absurd hm (Nat.not_lt_zero _)
                  · intro n r_u87 ih_u87 a_2u87 a_4u87 a_7u87 a_8u87 a_9u87 a_10u87 Zu87 hIu87 hFu87 u87_0 u87_1 u87_2 u87_3 u87_4  hmu87
                    unfold hB_findOrAdd_172_s
                    refine ok.ite (fun c88 => ?_) (fun c88 => ?_)
                    · skip
                      refine ok.ck (show 0 ≤ a_8u87.toInt ∧ a_8u87.toInt < ((1549 : Nat) : Int) from by omega) ?_
                      refine ok.wI (L := [6000]) hIu87 (show True from trivial) (show (6000 : Nat) ∈ [6000] from by decide) (by decide) (fun Z89 hIZ89 hFZ89 hkZ89 hoZ89 => ?_)
                      refine ok.ck (show 0 ≤ a_7u87.toInt ∧ a_7u87.toInt < ((512 : Nat) : Int) from by omega) ?_
                      refine ok.letE (v1 := (Zu87.1 31 (ix a_7u87))) (hFZ89.1 31 (ix a_7u87) (show (6200 : Nat) ∉ [6000] from by decide)) ?_
                      have g90 : -1 ≤ (Zu87.1 31 (ix a_7u87)).toInt ∧ (Zu87.1 31 (ix a_7u87)).toInt ≤ 1548 := hIu87.1 31 (ix a_7u87)
                      refine ok.ck (show 0 ≤ a_8u87.toInt ∧ a_8u87.toInt < ((1549 : Nat) : Int) from by omega) ?_
                      refine ok.wI (L := [6400]) hIZ89 (show -1 ≤ (Zu87.1 31 (ix a_7u87)).toInt ∧ (Zu87.1 31 (ix a_7u87)).toInt ≤ 1548 from by omega) (show (6400 : Nat) ∈ [6400] from by decide) (by decide) (fun Z91 hIZ91 hFZ91 hkZ91 hoZ91 => ?_)
                      refine ok.ck (show 0 ≤ a_7u87.toInt ∧ a_7u87.toInt < ((512 : Nat) : Int) from by omega) ?_
                      refine ok.wI (L := [6200]) hIZ91 (show -1 ≤ a_8u87.toInt ∧ a_8u87.toInt ≤ 1548 from by omega) (show (6200 : Nat) ∈ [6200] from by decide) (by decide) (fun Z92 hIZ92 hFZ92 hkZ92 hoZ92 => ?_)
                      exact ok.ret ⟨((((Fr.rf.tr hFu87 (fun _ q => q)).tr hFZ89 (by decide)).tr hFZ91 (by decide)).tr hFZ92 (by decide)), hIZ92⟩
                    · skip
                      refine ok.mul (show _ ≤ a_8u87.toInt * (5 : Int) ∧ a_8u87.toInt * (5 : Int) ≤ _ from by omega) (fun x19 hx19 => ?_)
                      have hx19 : x19.toInt = a_8u87.toInt * (5 : Int) := hx19
                      refine ok.add (show _ ≤ x19.toInt + a_10u87.toInt ∧ x19.toInt + a_10u87.toInt ≤ _ from by omega) (fun x20 hx20 => ?_)
                      have hx20 : x20.toInt = x19.toInt + a_10u87.toInt := hx20
                      refine ok.add (show _ ≤ a_4u87.toInt + a_10u87.toInt ∧ a_4u87.toInt + a_10u87.toInt ≤ _ from by omega) (fun x21 hx21 => ?_)
                      have hx21 : x21.toInt = a_4u87.toInt + a_10u87.toInt := hx21
                      refine ok.ck (show 0 ≤ x21.toInt ∧ x21.toInt < ((4 : Nat) : Int) from by omega) ?_
                      refine ok.letE (v1 := (X.1 33 (ix x21))) (hFu87.1 33 (ix x21) n6600_Qv30) ?_
                      refine ok.ck (show 0 ≤ x20.toInt ∧ x20.toInt < ((7745 : Nat) : Int) from by omega) ?_
                      refine ok.wI (L := [5600]) hIu87 (show True from trivial) (show (5600 : Nat) ∈ [5600] from by decide) (by decide) (fun Z93 hIZ93 hFZ93 hkZ93 hoZ93 => ?_)
                      refine ok.ite (fun c94 => ?_) (fun c94 => ?_)
                      · skip
                        have g95 := i32_le a_9u87
                        refine ok.add (show _ ≤ a_4u87.toInt + a_10u87.toInt ∧ a_4u87.toInt + a_10u87.toInt ≤ _ from by omega) (fun x25 hx25 => ?_)
                        have hx25 : x25.toInt = a_4u87.toInt + a_10u87.toInt := hx25
                        refine ok.ck (show 0 ≤ x25.toInt ∧ x25.toInt < ((4 : Nat) : Int) from by omega) ?_
                        refine ok.letE (v1 := (X.1 33 (ix x25))) ((hFZ93.1 33 (ix x25) (show (6600 : Nat) ∉ [5600] from by decide)).trans (hFu87.1 33 (ix x25) n6600_Qv30)) ?_
                        refine ok.bd (v_hB_hasAny hIZ93) ?_
                        rintro x27 _ rfl
                        refine ok.ite (fun c97 => ?_) (fun c97 => ?_)
                        · skip
                          have g98 := i32_le x27
                          unfold hB_findOrAdd_221
                          refine ok.inc (by decide) (show _ ≤ a_10u87.toInt + (1) ∧ a_10u87.toInt + (1) ≤ _ from by omega) (fun x24 hx24 => ?_)
                          have hx24 : x24.toInt = a_10u87.toInt + (1) := hx24
                          exact ih_u87 a_2u87 a_4u87 a_7u87 a_8u87 (0 : Int32) x24 Z93 hIZ93 ((Fr.rf.tr hFu87 (fun _ q => q)).tr hFZ93 (by decide)) (show 0 ≤ a_2u87.toInt ∧ a_2u87.toInt ≤ 4 from by omega) (show 0 ≤ a_4u87.toInt ∧ a_4u87.toInt + a_2u87.toInt ≤ 4 from by omega) (show 0 ≤ a_7u87.toInt ∧ a_7u87.toInt ≤ 511 from by omega) (show 0 ≤ a_8u87.toInt ∧ a_8u87.toInt ≤ 1548 from by omega) (show 0 ≤ x24.toInt ∧ x24.toInt ≤ 5 from by omega) (show (5 - x24.toInt).toNat < _ from by omega)
                        · skip
                          unfold hB_findOrAdd_216
                          unfold hB_findOrAdd_221
                          refine ok.inc (by decide) (show _ ≤ a_10u87.toInt + (1) ∧ a_10u87.toInt + (1) ≤ _ from by omega) (fun x24 hx24 => ?_)
                          have hx24 : x24.toInt = a_10u87.toInt + (1) := hx24
                          exact ih_u87 a_2u87 a_4u87 a_7u87 a_8u87 (1 : Int32) x24 Z93 hIZ93 ((Fr.rf.tr hFu87 (fun _ q => q)).tr hFZ93 (by decide)) (show 0 ≤ a_2u87.toInt ∧ a_2u87.toInt ≤ 4 from by omega) (show 0 ≤ a_4u87.toInt ∧ a_4u87.toInt + a_2u87.toInt ≤ 4 from by omega) (show 0 ≤ a_7u87.toInt ∧ a_7u87.toInt ≤ 511 from by omega) (show 0 ≤ a_8u87.toInt ∧ a_8u87.toInt ≤ 1548 from by omega) (show 0 ≤ x24.toInt ∧ x24.toInt ≤ 5 from by omega) (show (5 - x24.toInt).toNat < _ from by omega)
                      · skip
                        unfold hB_findOrAdd_216
                        unfold hB_findOrAdd_221
                        refine ok.inc (by decide) (show _ ≤ a_10u87.toInt + (1) ∧ a_10u87.toInt + (1) ≤ _ from by omega) (fun x24 hx24 => ?_)
                        have hx24 : x24.toInt = a_10u87.toInt + (1) := hx24
                        exact ih_u87 a_2u87 a_4u87 a_7u87 a_8u87 (1 : Int32) x24 Z93 hIZ93 ((Fr.rf.tr hFu87 (fun _ q => q)).tr hFZ93 (by decide)) (show 0 ≤ a_2u87.toInt ∧ a_2u87.toInt ≤ 4 from by omega) (show 0 ≤ a_4u87.toInt ∧ a_4u87.toInt + a_2u87.toInt ≤ 4 from by omega) (show 0 ≤ a_7u87.toInt ∧ a_7u87.toInt ≤ 511 from by omega) (show 0 ≤ a_8u87.toInt ∧ a_8u87.toInt ≤ 1548 from by omega) (show 0 ≤ x24.toInt ∧ x24.toInt ≤ 5 from by omega) (show (5 - x24.toInt).toNat < _ from by omega)
                exact lpu87 BIG a_2u3 a_4u3 a_7u3 (Zu3.1 25 0) (0 : Int32) (0 : Int32) Z72 hIZ72 ((((((Fr.rf.tr hFu3 (fun _ q => q)).tr hFZ68 (by decide)).tr hFZ69 (by decide)).tr hFZ70 (by decide)).tr hFZ71 (by decide)).tr hFZ72 (by decide)) (show 0 ≤ a_2u3.toInt ∧ a_2u3.toInt ≤ 4 from by omega) (show 0 ≤ a_4u3.toInt ∧ a_4u3.toInt + a_2u3.toInt ≤ 4 from by omega) (show 0 ≤ a_7u3.toInt ∧ a_7u3.toInt ≤ 511 from by omega) (show 0 ≤ (Zu3.1 25 0).toInt ∧ (Zu3.1 25 0).toInt ≤ 1548 from by omega) (show 0 ≤ (0 : Int) ∧ (0 : Int) ≤ 5 from by omega) (show (5 - (0 : Int)).toNat < BIG from ltBIG (show _ < 100000 from by omega))
              · skip
                refine ok.bd (v_hB_hasAny hIZ72) ?_
                rintro x29 _ rfl
                refine ok.ite (fun c100 => ?_) (fun c100 => ?_)
                · skip
                  have g101 := i32_le x29
                  unfold hB_findOrAdd_166
                  unfold hB_findOrAdd_167
                  have lpu102 : ∀ (n : Nat), ∀ (a_2u102 : Int32) (a_4u102 : Int32) (a_7u102 : Int32) (a_8u102 : Int32) (a_9u102 : Int32) (a_10u102 : Int32) (Zu102 : St), INV Zu102 → Fr YC Qv30 X Zu102 → (0 ≤ a_2u102.toInt ∧ a_2u102.toInt ≤ 4) → (0 ≤ a_4u102.toInt ∧ a_4u102.toInt + a_2u102.toInt ≤ 4) → (0 ≤ a_7u102.toInt ∧ a_7u102.toInt ≤ 511) → (0 ≤ a_8u102.toInt ∧ a_8u102.toInt ≤ 1548) → (0 ≤ a_10u102.toInt ∧ a_10u102.toInt ≤ 5) → (5 - a_10u102.toInt).toNat < n → ok (hB_findOrAdd_172 n a_2u102 33 a_4u102 a_7u102 a_8u102 a_9u102 a_10u102 Zu102) (fun r Y => (Fr YC Qv30 X Y ∧ INV Y)) := by
                    intro n
                    unfold hB_findOrAdd_172
                    refine lp_indN (P := fun (n : Nat) (r_u102 : Int32 → Nat → Int32 → Int32 → Int32 → Int32 → Int32 → St → Option (Int32 × St)) => ∀ (a_2u102 : Int32) (a_4u102 : Int32) (a_7u102 : Int32) (a_8u102 : Int32) (a_9u102 : Int32) (a_10u102 : Int32) (Zu102 : St), INV Zu102 → Fr YC Qv30 X Zu102 → (0 ≤ a_2u102.toInt ∧ a_2u102.toInt ≤ 4) → (0 ≤ a_4u102.toInt ∧ a_4u102.toInt + a_2u102.toInt ≤ 4) → (0 ≤ a_7u102.toInt ∧ a_7u102.toInt ≤ 511) → (0 ≤ a_8u102.toInt ∧ a_8u102.toInt ≤ 1548) → (0 ≤ a_10u102.toInt ∧ a_10u102.toInt ≤ 5) → (5 - a_10u102.toInt).toNat < n → ok (r_u102 a_2u102 33 a_4u102 a_7u102 a_8u102 a_9u102 a_10u102 Zu102) (fun r Y => (Fr YC Qv30 X Y ∧ INV Y))) ?_ ?_ n
                    · intro a_2u102 a_4u102 a_7u102 a_8u102 a_9u102 a_10u102 Zu102 hIu102 hFu102 u102_0 u102_1 u102_2 u102_3 u102_4  hm; exact absurd hm (Nat.not_lt_zero _)
                    · intro n r_u102 ih_u102 a_2u102 a_4u102 a_7u102 a_8u102 a_9u102 a_10u102 Zu102 hIu102 hFu102 u102_0 u102_1 u102_2 u102_3 u102_4  hmu102
                      unfold hB_findOrAdd_172_s
                      refine ok.ite (fun c103 => ?_) (fun c103 => ?_)
                      · skip
                        refine ok.ck (show 0 ≤ a_8u102.toInt ∧ a_8u102.toInt < ((1549 : Nat) : Int) from by omega) ?_
                        refine ok.wI (L := [6000]) hIu102 (show True from trivial) (show (6000 : Nat) ∈ [6000] from by decide) (by decide) (fun Z104 hIZ104 hFZ104 hkZ104 hoZ104 => ?_)
                        refine ok.ck (show 0 ≤ a_7u102.toInt ∧ a_7u102.toInt < ((512 : Nat) : Int) from by omega) ?_
                        refine ok.letE (v1 := (Zu102.1 31 (ix a_7u102))) (hFZ104.1 31 (ix a_7u102) (show (6200 : Nat) ∉ [6000] from by decide)) ?_
                        have g105 : -1 ≤ (Zu102.1 31 (ix a_7u102)).toInt ∧ (Zu102.1 31 (ix a_7u102)).toInt ≤ 1548 := hIu102.1 31 (ix a_7u102)
                        refine ok.ck (show 0 ≤ a_8u102.toInt ∧ a_8u102.toInt < ((1549 : Nat) : Int) from by omega) ?_
                        refine ok.wI (L := [6400]) hIZ104 (show -1 ≤ (Zu102.1 31 (ix a_7u102)).toInt ∧ (Zu102.1 31 (ix a_7u102)).toInt ≤ 1548 from by omega) (show (6400 : Nat) ∈ [6400] from by decide) (by decide) (fun Z106 hIZ106 hFZ106 hkZ106 hoZ106 => ?_)
                        refine ok.ck (show 0 ≤ a_7u102.toInt ∧ a_7u102.toInt < ((512 : Nat) : Int) from by omega) ?_
                        refine ok.wI (L := [6200]) hIZ106 (show -1 ≤ a_8u102.toInt ∧ a_8u102.toInt ≤ 1548 from by omega) (show (6200 : Nat) ∈ [6200] from by decide) (by decide) (fun Z107 hIZ107 hFZ107 hkZ107 hoZ107 => ?_)
                        exact ok.ret ⟨((((Fr.rf.tr hFu102 (fun _ q => q)).tr hFZ104 (by decide)).tr hFZ106 (by decide)).tr hFZ107 (by decide)), hIZ107⟩
                      · skip
                        refine ok.mul (show _ ≤ a_8u102.toInt * (5 : Int) ∧ a_8u102.toInt * (5 : Int) ≤ _ from by omega) (fun x19 hx19 => ?_)
                        have hx19 : x19.toInt = a_8u102.toInt * (5 : Int) := hx19
                        refine ok.add (show _ ≤ x19.toInt + a_10u102.toInt ∧ x19.toInt + a_10u102.toInt ≤ _ from by omega) (fun x20 hx20 => ?_)
                        have hx20 : x20.toInt = x19.toInt + a_10u102.toInt := hx20
                        refine ok.add (show _ ≤ a_4u102.toInt + a_10u102.toInt ∧ a_4u102.toInt + a_10u102.toInt ≤ _ from by omega) (fun x21 hx21 => ?_)
                        have hx21 : x21.toInt = a_4u102.toInt + a_10u102.toInt := hx21
                        refine ok.ck (show 0 ≤ x21.toInt ∧ x21.toInt < ((4 : Nat) : Int) from by omega) ?_
                        refine ok.letE (v1 := (X.1 33 (ix x21))) (hFu102.1 33 (ix x21) n6600_Qv30) ?_
                        refine ok.ck (show 0 ≤ x20.toInt ∧ x20.toInt < ((7745 : Nat) : Int) from by omega) ?_
                        refine ok.wI (L := [5600]) hIu102 (show True from trivial) (show (5600 : Nat) ∈ [5600] from by decide) (by decide) (fun Z108 hIZ108 hFZ108 hkZ108 hoZ108 => ?_)
                        refine ok.ite (fun c109 => ?_) (fun c109 => ?_)
                        · skip
                          have g110 := i32_le a_9u102
                          refine ok.add (show _ ≤ a_4u102.toInt + a_10u102.toInt ∧ a_4u102.toInt + a_10u102.toInt ≤ _ from by omega) (fun x25 hx25 => ?_)
                          have hx25 : x25.toInt = a_4u102.toInt + a_10u102.toInt := hx25
                          refine ok.ck (show 0 ≤ x25.toInt ∧ x25.toInt < ((4 : Nat) : Int) from by omega) ?_
                          refine ok.letE (v1 := (X.1 33 (ix x25))) ((hFZ108.1 33 (ix x25) (show (6600 : Nat) ∉ [5600] from by decide)).trans (hFu102.1 33 (ix x25) n6600_Qv30)) ?_
                          refine ok.bd (v_hB_hasAny hIZ108) ?_
                          rintro x27 _ rfl
                          refine ok.ite (fun c112 => ?_) (fun c112 => ?_)
                          · skip
                            have g113 := i32_le x27
                            unfold hB_findOrAdd_221
                            refine ok.inc (by decide) (show _ ≤ a_10u102.toInt + (1) ∧ a_10u102.toInt + (1) ≤ _ from by omega) (fun x24 hx24 => ?_)
                            have hx24 : x24.toInt = a_10u102.toInt + (1) := hx24
                            exact ih_u102 a_2u102 a_4u102 a_7u102 a_8u102 (0 : Int32) x24 Z108 hIZ108 ((Fr.rf.tr hFu102 (fun _ q => q)).tr hFZ108 (by decide)) (show 0 ≤ a_2u102.toInt ∧ a_2u102.toInt ≤ 4 from by omega) (show 0 ≤ a_4u102.toInt ∧ a_4u102.toInt + a_2u102.toInt ≤ 4 from by omega) (show 0 ≤ a_7u102.toInt ∧ a_7u102.toInt ≤ 511 from by omega) (show 0 ≤ a_8u102.toInt ∧ a_8u102.toInt ≤ 1548 from by omega) (show 0 ≤ x24.toInt ∧ x24.toInt ≤ 5 from by omega) (show (5 - x24.toInt).toNat < _ from by omega)
                          · skip
                            unfold hB_findOrAdd_216
                            unfold hB_findOrAdd_221
                            refine ok.inc (by decide) (show _ ≤ a_10u102.toInt + (1) ∧ a_10u102.toInt + (1) ≤ _ from by omega) (fun x24 hx24 => ?_)
                            have hx24 : x24.toInt = a_10u102.toInt + (1) := hx24
                            exact ih_u102 a_2u102 a_4u102 a_7u102 a_8u102 (1 : Int32) x24 Z108 hIZ108 ((Fr.rf.tr hFu102 (fun _ q => q)).tr hFZ108 (by decide)) (show 0 ≤ a_2u102.toInt ∧ a_2u102.toInt ≤ 4 from by omega) (show 0 ≤ a_4u102.toInt ∧ a_4u102.toInt + a_2u102.toInt ≤ 4 from by omega) (show 0 ≤ a_7u102.toInt ∧ a_7u102.toInt ≤ 511 from by omega) (show 0 ≤ a_8u102.toInt ∧ a_8u102.toInt ≤ 1548 from by omega) (show 0 ≤ x24.toInt ∧ x24.toInt ≤ 5 from by omega) (show (5 - x24.toInt).toNat < _ from by omega)
                        · skip
                          unfold hB_findOrAdd_216
                          unfold hB_findOrAdd_221
                          refine ok.inc (by decide) (show _ ≤ a_10u102.toInt + (1) ∧ a_10u102.toInt + (1) ≤ _ from by omega) (fun x24 hx24 => ?_)
                          have hx24 : x24.toInt = a_10u102.toInt + (1) := hx24
                          exact ih_u102 a_2u102 a_4u102 a_7u102 a_8u102 (1 : Int32) x24 Z108 hIZ108 ((Fr.rf.tr hFu102 (fun _ q => q)).tr hFZ108 (by decide)) (show 0 ≤ a_2u102.toInt ∧ a_2u102.toInt ≤ 4 from by omega) (show 0 ≤ a_4u102.toInt ∧ a_4u102.toInt + a_2u102.toInt ≤ 4 from by omega) (show 0 ≤ a_7u102.toInt ∧ a_7u102.toInt ≤ 511 from by omega) (show 0 ≤ a_8u102.toInt ∧ a_8u102.toInt ≤ 1548 from by omega) (show 0 ≤ x24.toInt ∧ x24.toInt ≤ 5 from by omega) (show (5 - x24.toInt).toNat < _ from by omega)
                  exact lpu102 BIG a_2u3 a_4u3 a_7u3 (Zu3.1 25 0) (0 : Int32) (0 : Int32) Z72 hIZ72 ((((((Fr.rf.tr hFu3 (fun _ q => q)).tr hFZ68 (by decide)).tr hFZ69 (by decide)).tr hFZ70 (by decide)).tr hFZ71 (by decide)).tr hFZ72 (by decide)) (show 0 ≤ a_2u3.toInt ∧ a_2u3.toInt ≤ 4 from by omega) (show 0 ≤ a_4u3.toInt ∧ a_4u3.toInt + a_2u3.toInt ≤ 4 from by omega) (show 0 ≤ a_7u3.toInt ∧ a_7u3.toInt ≤ 511 from by omega) (show 0 ≤ (Zu3.1 25 0).toInt ∧ (Zu3.1 25 0).toInt ≤ 1548 from by omega) (show 0 ≤ (0 : Int) ∧ (0 : Int) ≤ 5 from by omega) (show (5 - (0 : Int)).toNat < BIG from ltBIG (show _ < 100000 from by omega))
                · skip
                  unfold hB_findOrAdd_162
                  unfold hB_findOrAdd_167
                  have lpu114 : ∀ (n : Nat), ∀ (a_2u114 : Int32) (a_4u114 : Int32) (a_7u114 : Int32) (a_8u114 : Int32) (a_9u114 : Int32) (a_10u114 : Int32) (Zu114 : St), INV Zu114 → Fr YC Qv30 X Zu114 → (0 ≤ a_2u114.toInt ∧ a_2u114.toInt ≤ 4) → (0 ≤ a_4u114.toInt ∧ a_4u114.toInt + a_2u114.toInt ≤ 4) → (0 ≤ a_7u114.toInt ∧ a_7u114.toInt ≤ 511) → (0 ≤ a_8u114.toInt ∧ a_8u114.toInt ≤ 1548) → (0 ≤ a_10u114.toInt ∧ a_10u114.toInt ≤ 5) → (5 - a_10u114.toInt).toNat < n → ok (hB_findOrAdd_172 n a_2u114 33 a_4u114 a_7u114 a_8u114 a_9u114 a_10u114 Zu114) (fun r Y => (Fr YC Qv30 X Y ∧ INV Y)) := by
                    intro n
                    unfold hB_findOrAdd_172
                    refine lp_indN (P := fun (n : Nat) (r_u114 : Int32 → Nat → Int32 → Int32 → Int32 → Int32 → Int32 → St → Option (Int32 × St)) => ∀ (a_2u114 : Int32) (a_4u114 : Int32) (a_7u114 : Int32) (a_8u114 : Int32) (a_9u114 : Int32) (a_10u114 : Int32) (Zu114 : St), INV Zu114 → Fr YC Qv30 X Zu114 → (0 ≤ a_2u114.toInt ∧ a_2u114.toInt ≤ 4) → (0 ≤ a_4u114.toInt ∧ a_4u114.toInt + a_2u114.toInt ≤ 4) → (0 ≤ a_7u114.toInt ∧ a_7u114.toInt ≤ 511) → (0 ≤ a_8u114.toInt ∧ a_8u114.toInt ≤ 1548) → (0 ≤ a_10u114.toInt ∧ a_10u114.toInt ≤ 5) → (5 - a_10u114.toInt).toNat < n → ok (r_u114 a_2u114 33 a_4u114 a_7u114 a_8u114 a_9u114 a_10u114 Zu114) (fun r Y => (Fr YC Qv30 X Y ∧ INV Y))) ?_ ?_ n
                    · intro a_2u114 a_4u114 a_7u114 a_8u114 a_9u114 a_10u114 Zu114 hIu114 hFu114 u114_0 u114_1 u114_2 u114_3 u114_4  hm; exact absurd hm (Nat.not_lt_zero _)
                    · intro n r_u114 ih_u114 a_2u114 a_4u114 a_7u114 a_8u114 a_9u114 a_10u114 Zu114 hIu114 hFu114 u114_0 u114_1 u114_2 u114_3 u114_4  hmu114
                      unfold hB_findOrAdd_172_s
                      refine ok.ite (fun c115 => ?_) (fun c115 => ?_)
                      · skip
                        refine ok.ck (show 0 ≤ a_8u114.toInt ∧ a_8u114.toInt < ((1549 : Nat) : Int) from by omega) ?_
                        refine ok.wI (L := [6000]) hIu114 (show True from trivial) (show (6000 : Nat) ∈ [6000] from by decide) (by decide) (fun Z116 hIZ116 hFZ116 hkZ116 hoZ116 => ?_)
                        refine ok.ck (show 0 ≤ a_7u114.toInt ∧ a_7u114.toInt < ((512 : Nat) : Int) from by omega) ?_
                        refine ok.letE (v1 := (Zu114.1 31 (ix a_7u114))) (hFZ116.1 31 (ix a_7u114) (show (6200 : Nat) ∉ [6000] from by decide)) ?_
                        have g117 : -1 ≤ (Zu114.1 31 (ix a_7u114)).toInt ∧ (Zu114.1 31 (ix a_7u114)).toInt ≤ 1548 := hIu114.1 31 (ix a_7u114)
                        refine ok.ck (show 0 ≤ a_8u114.toInt ∧ a_8u114.toInt < ((1549 : Nat) : Int) from by omega) ?_
                        refine ok.wI (L := [6400]) hIZ116 (show -1 ≤ (Zu114.1 31 (ix a_7u114)).toInt ∧ (Zu114.1 31 (ix a_7u114)).toInt ≤ 1548 from by omega) (show (6400 : Nat) ∈ [6400] from by decide) (by decide) (fun Z118 hIZ118 hFZ118 hkZ118 hoZ118 => ?_)
                        refine ok.ck (show 0 ≤ a_7u114.toInt ∧ a_7u114.toInt < ((512 : Nat) : Int) from by omega) ?_
                        refine ok.wI (L := [6200]) hIZ118 (show -1 ≤ a_8u114.toInt ∧ a_8u114.toInt ≤ 1548 from by omega) (show (6200 : Nat) ∈ [6200] from by decide) (by decide) (fun Z119 hIZ119 hFZ119 hkZ119 hoZ119 => ?_)
                        exact ok.ret ⟨((((Fr.rf.tr hFu114 (fun _ q => q)).tr hFZ116 (by decide)).tr hFZ118 (by decide)).tr hFZ119 (by decide)), hIZ119⟩
                      · skip
                        refine ok.mul (show _ ≤ a_8u114.toInt * (5 : Int) ∧ a_8u114.toInt * (5 : Int) ≤ _ from by omega) (fun x19 hx19 => ?_)
                        have hx19 : x19.toInt = a_8u114.toInt * (5 : Int) := hx19
                        refine ok.add (show _ ≤ x19.toInt + a_10u114.toInt ∧ x19.toInt + a_10u114.toInt ≤ _ from by omega) (fun x20 hx20 => ?_)
                        have hx20 : x20.toInt = x19.toInt + a_10u114.toInt := hx20
                        refine ok.add (show _ ≤ a_4u114.toInt + a_10u114.toInt ∧ a_4u114.toInt + a_10u114.toInt ≤ _ from by omega) (fun x21 hx21 => ?_)
                        have hx21 : x21.toInt = a_4u114.toInt + a_10u114.toInt := hx21
                        refine ok.ck (show 0 ≤ x21.toInt ∧ x21.toInt < ((4 : Nat) : Int) from by omega) ?_
                        refine ok.letE (v1 := (X.1 33 (ix x21))) (hFu114.1 33 (ix x21) n6600_Qv30) ?_
                        refine ok.ck (show 0 ≤ x20.toInt ∧ x20.toInt < ((7745 : Nat) : Int) from by omega) ?_
                        refine ok.wI (L := [5600]) hIu114 (show True from trivial) (show (5600 : Nat) ∈ [5600] from by decide) (by decide) (fun Z120 hIZ120 hFZ120 hkZ120 hoZ120 => ?_)
                        refine ok.ite (fun c121 => ?_) (fun c121 => ?_)
                        · skip
                          have g122 := i32_le a_9u114
                          refine ok.add (show _ ≤ a_4u114.toInt + a_10u114.toInt ∧ a_4u114.toInt + a_10u114.toInt ≤ _ from by omega) (fun x25 hx25 => ?_)
                          have hx25 : x25.toInt = a_4u114.toInt + a_10u114.toInt := hx25
                          refine ok.ck (show 0 ≤ x25.toInt ∧ x25.toInt < ((4 : Nat) : Int) from by omega) ?_
                          refine ok.letE (v1 := (X.1 33 (ix x25))) ((hFZ120.1 33 (ix x25) (show (6600 : Nat) ∉ [5600] from by decide)).trans (hFu114.1 33 (ix x25) n6600_Qv30)) ?_
                          refine ok.bd (v_hB_hasAny hIZ120) ?_
                          rintro x27 _ rfl
                          refine ok.ite (fun c124 => ?_) (fun c124 => ?_)
                          · skip
                            have g125 := i32_le x27
                            unfold hB_findOrAdd_221
                            refine ok.inc (by decide) (show _ ≤ a_10u114.toInt + (1) ∧ a_10u114.toInt + (1) ≤ _ from by omega) (fun x24 hx24 => ?_)
                            have hx24 : x24.toInt = a_10u114.toInt + (1) := hx24
                            exact ih_u114 a_2u114 a_4u114 a_7u114 a_8u114 (0 : Int32) x24 Z120 hIZ120 ((Fr.rf.tr hFu114 (fun _ q => q)).tr hFZ120 (by decide)) (show 0 ≤ a_2u114.toInt ∧ a_2u114.toInt ≤ 4 from by omega) (show 0 ≤ a_4u114.toInt ∧ a_4u114.toInt + a_2u114.toInt ≤ 4 from by omega) (show 0 ≤ a_7u114.toInt ∧ a_7u114.toInt ≤ 511 from by omega) (show 0 ≤ a_8u114.toInt ∧ a_8u114.toInt ≤ 1548 from by omega) (show 0 ≤ x24.toInt ∧ x24.toInt ≤ 5 from by omega) (show (5 - x24.toInt).toNat < _ from by omega)
                          · skip
                            unfold hB_findOrAdd_216
                            unfold hB_findOrAdd_221
                            refine ok.inc (by decide) (show _ ≤ a_10u114.toInt + (1) ∧ a_10u114.toInt + (1) ≤ _ from by omega) (fun x24 hx24 => ?_)
                            have hx24 : x24.toInt = a_10u114.toInt + (1) := hx24
                            exact ih_u114 a_2u114 a_4u114 a_7u114 a_8u114 (1 : Int32) x24 Z120 hIZ120 ((Fr.rf.tr hFu114 (fun _ q => q)).tr hFZ120 (by decide)) (show 0 ≤ a_2u114.toInt ∧ a_2u114.toInt ≤ 4 from by omega) (show 0 ≤ a_4u114.toInt ∧ a_4u114.toInt + a_2u114.toInt ≤ 4 from by omega) (show 0 ≤ a_7u114.toInt ∧ a_7u114.toInt ≤ 511 from by omega) (show 0 ≤ a_8u114.toInt ∧ a_8u114.toInt ≤ 1548 from by omega) (show 0 ≤ x24.toInt ∧ x24.toInt ≤ 5 from by omega) (show (5 - x24.toInt).toNat < _ from by omega)
                        · skip
                          unfold hB_findOrAdd_216
                          unfold hB_findOrAdd_221
                          refine ok.inc (by decide) (show _ ≤ a_10u114.toInt + (1) ∧ a_10u114.toInt + (1) ≤ _ from by omega) (fun x24 hx24 => ?_)
                          have hx24 : x24.toInt = a_10u114.toInt + (1) := hx24
                          exact ih_u114 a_2u114 a_4u114 a_7u114 a_8u114 (1 : Int32) x24 Z120 hIZ120 ((Fr.rf.tr hFu114 (fun _ q => q)).tr hFZ120 (by decide)) (show 0 ≤ a_2u114.toInt ∧ a_2u114.toInt ≤ 4 from by omega) (show 0 ≤ a_4u114.toInt ∧ a_4u114.toInt + a_2u114.toInt ≤ 4 from by omega) (show 0 ≤ a_7u114.toInt ∧ a_7u114.toInt ≤ 511 from by omega) (show 0 ≤ a_8u114.toInt ∧ a_8u114.toInt ≤ 1548 from by omega) (show 0 ≤ x24.toInt ∧ x24.toInt ≤ 5 from by omega) (show (5 - x24.toInt).toNat < _ from by omega)
                  exact lpu114 BIG a_2u3 a_4u3 a_7u3 (Zu3.1 25 0) (1 : Int32) (0 : Int32) Z72 hIZ72 ((((((Fr.rf.tr hFu3 (fun _ q => q)).tr hFZ68 (by decide)).tr hFZ69 (by decide)).tr hFZ70 (by decide)).tr hFZ71 (by decide)).tr hFZ72 (by decide)) (show 0 ≤ a_2u3.toInt ∧ a_2u3.toInt ≤ 4 from by omega) (show 0 ≤ a_4u3.toInt ∧ a_4u3.toInt + a_2u3.toInt ≤ 4 from by omega) (show 0 ≤ a_7u3.toInt ∧ a_7u3.toInt ≤ 511 from by omega) (show 0 ≤ (Zu3.1 25 0).toInt ∧ (Zu3.1 25 0).toInt ≤ 1548 from by omega) (show 0 ≤ (0 : Int) ∧ (0 : Int) ≤ 5 from by omega) (show (5 - (0 : Int)).toNat < BIG from ltBIG (show _ < 100000 from by omega))
          · skip
            exact ok.ret ⟨(Fr.rf.tr hFu3 (fun _ q => q)), hIu3⟩
        · skip
          refine ok.ck (show 0 ≤ a_8u3.toInt ∧ a_8u3.toInt < ((1549 : Nat) : Int) from by omega) ?_
          refine ok.letE (v1 := (Zu3.1 26 (ix a_8u3))) rfl ?_
          refine ok.ite (fun c126 => ?_) (fun c126 => ?_)
          · skip
            have g127 := i32_le (Zu3.1 26 (ix a_8u3))
            refine ok.bd (v_hB_isSame_33 hIu3 (show 0 ≤ a_8u3.toInt ∧ a_8u3.toInt ≤ 1548 from by omega) (show 0 ≤ a_2u3.toInt ∧ a_2u3.toInt ≤ 4 from by omega) (show 0 ≤ a_4u3.toInt ∧ a_4u3.toInt + a_2u3.toInt ≤ 4 from by omega)) ?_
            rintro x34 _ rfl
            refine ok.ite (fun c129 => ?_) (fun c129 => ?_)
            · skip
              have g130 := i32_le x34
              unfold hB_findOrAdd_62
              refine ok.ck (show 0 ≤ a_8u3.toInt ∧ a_8u3.toInt < ((1549 : Nat) : Int) from by omega) ?_
              refine ok.letE (v1 := (Zu3.1 32 (ix a_8u3))) rfl ?_
              have g131 : -1 ≤ (Zu3.1 32 (ix a_8u3)).toInt ∧ (Zu3.1 32 (ix a_8u3)).toInt ≤ 1548 := hIu3.1 32 (ix a_8u3)
              refine ok.inc (by decide) (show _ ≤ a_9u3.toInt + (1) ∧ a_9u3.toInt + (1) ≤ _ from by omega) (fun x33 hx33 => ?_)
              have hx33 : x33.toInt = a_9u3.toInt + (1) := hx33
              exact ih_u3 a_1u3 a_2u3 a_4u3 a_5u3 a_6u3 a_7u3 (Zu3.1 32 (ix a_8u3)) x33 Zu3 hIu3 (Fr.rf.tr hFu3 (fun _ q => q)) (show 0 ≤ a_1u3.toInt ∧ a_1u3.toInt ≤ 4 from by omega) (show 0 ≤ a_2u3.toInt ∧ a_2u3.toInt ≤ 4 from by omega) (show 0 ≤ a_4u3.toInt ∧ a_4u3.toInt + a_2u3.toInt ≤ 4 from by omega) (show 0 ≤ a_7u3.toInt ∧ a_7u3.toInt ≤ 511 from by omega) (show -1 ≤ (Zu3.1 32 (ix a_8u3)).toInt ∧ (Zu3.1 32 (ix a_8u3)).toInt ≤ 1548 from by omega) (show 0 ≤ x33.toInt ∧ x33.toInt ≤ 1549 from by omega) (show (1550 - x33.toInt).toNat < _ from by omega)
            · skip
              exact ok.ret ⟨(Fr.rf.tr hFu3 (fun _ q => q)), hIu3⟩
          · skip
            unfold hB_findOrAdd_62
            refine ok.ck (show 0 ≤ a_8u3.toInt ∧ a_8u3.toInt < ((1549 : Nat) : Int) from by omega) ?_
            refine ok.letE (v1 := (Zu3.1 32 (ix a_8u3))) rfl ?_
            have g132 : -1 ≤ (Zu3.1 32 (ix a_8u3)).toInt ∧ (Zu3.1 32 (ix a_8u3)).toInt ≤ 1548 := hIu3.1 32 (ix a_8u3)
            refine ok.inc (by decide) (show _ ≤ a_9u3.toInt + (1) ∧ a_9u3.toInt + (1) ≤ _ from by omega) (fun x33 hx33 => ?_)
            have hx33 : x33.toInt = a_9u3.toInt + (1) := hx33
            exact ih_u3 a_1u3 a_2u3 a_4u3 a_5u3 a_6u3 a_7u3 (Zu3.1 32 (ix a_8u3)) x33 Zu3 hIu3 (Fr.rf.tr hFu3 (fun _ q => q)) (show 0 ≤ a_1u3.toInt ∧ a_1u3.toInt ≤ 4 from by omega) (show 0 ≤ a_2u3.toInt ∧ a_2u3.toInt ≤ 4 from by omega) (show 0 ≤ a_4u3.toInt ∧ a_4u3.toInt + a_2u3.toInt ≤ 4 from by omega) (show 0 ≤ a_7u3.toInt ∧ a_7u3.toInt ≤ 511 from by omega) (show -1 ≤ (Zu3.1 32 (ix a_8u3)).toInt ∧ (Zu3.1 32 (ix a_8u3)).toInt ≤ 1548 from by omega) (show 0 ≤ x33.toInt ∧ x33.toInt ≤ 1549 from by omega) (show (1550 - x33.toInt).toNat < _ from by omega)
  exact lpu3 BIG p1 p2 p4 p5 p6 x1 (X.1 31 (ix x1)) (0 : Int32) X hI (Fr.rf : Fr YC Qv30 _ _) (show 0 ≤ p1.toInt ∧ p1.toInt ≤ 4 from by omega) (show 0 ≤ p2.toInt ∧ p2.toInt ≤ 4 from by omega) (show 0 ≤ p4.toInt ∧ p4.toInt + p2.toInt ≤ 4 from by omega) (show 0 ≤ x1.toInt ∧ x1.toInt ≤ 511 from by omega) (show -1 ≤ (X.1 31 (ix x1)).toInt ∧ (X.1 31 (ix x1)).toInt ≤ 1548 from by omega) (show 0 ≤ (0 : Int) ∧ (0 : Int) ≤ 1549 from by omega) (show (1550 - (0 : Int)).toNat < BIG from ltBIG (show _ < 100000 from by omega))
theorem nr_hB_bucketOf {φ : Nat → Nat → Nat} {p0 : Int32} {X : St} (h : X.2.2 = φ) : nr φ (hB_bucketOf p0 X) := by
  unfold hB_bucketOf
  refine nr.lv (fun x1 => ?_)
  refine nr.lv (fun x2 => ?_)
  refine nr.lv (fun x3 => ?_)
  refine nr.lv (fun x4 => ?_)
  refine nr.lv (fun x5 => ?_)
  exact nr.ret h
theorem nr_hB_hasAny {φ : Nat → Nat → Nat} {p1 : Int32} {X : St} (h : X.2.2 = φ) : nr φ (hB_hasAny p1 X) := by
  unfold hB_hasAny
  refine nr.ite ?_ ?_
  · exact nr.ret h
  · refine nr.lv (fun x1 => ?_)
    refine nr.ite ?_ ?_
    · exact nr.ret h
    · refine nr.ck ?_
      refine nr.lv (fun x2 => ?_)
      refine nr.ite ?_ ?_
      · exact nr.ret h
      · exact nr.ret h
theorem nr_hB_findOrAdd_221 {φ : Nat → Nat → Nat} {r172 : Int32 → Nat → Int32 → Int32 → Int32 → Int32 → Int32 → St → Option (Int32 × St)} {a_2 : Int32} {e_3 : Nat} {a_4 : Int32} {a_7 : Int32} {a_8 : Int32} {a_10 : Int32} {b_0 : Int32} {X : St} (hr172 : ∀ (q0 : Int32) (q1 : Nat) (q2 : Int32) (q3 : Int32) (q4 : Int32) (q5 : Int32) (q6 : Int32) (X : St), X.2.2 = φ → nr φ (r172 q0 q1 q2 q3 q4 q5 q6 X)) (h : X.2.2 = φ) : nr φ (hB_findOrAdd_221 r172 a_2 e_3 a_4 a_7 a_8 a_10 b_0 X) := by
  unfold hB_findOrAdd_221
  refine nr.lv (fun x24 => ?_)
  exact hr172 _ _ _ _ _ _ _ _ h
theorem nr_hB_findOrAdd_216 {φ : Nat → Nat → Nat} {r172 : Int32 → Nat → Int32 → Int32 → Int32 → Int32 → Int32 → St → Option (Int32 × St)} {a_2 : Int32} {e_3 : Nat} {a_4 : Int32} {a_7 : Int32} {a_8 : Int32} {a_10 : Int32} {X : St} (hr172 : ∀ (q0 : Int32) (q1 : Nat) (q2 : Int32) (q3 : Int32) (q4 : Int32) (q5 : Int32) (q6 : Int32) (X : St), X.2.2 = φ → nr φ (r172 q0 q1 q2 q3 q4 q5 q6 X)) (h : X.2.2 = φ) : nr φ (hB_findOrAdd_216 r172 a_2 e_3 a_4 a_7 a_8 a_10 X) := by
  unfold hB_findOrAdd_216
  exact nr_hB_findOrAdd_221 hr172 h
theorem nr_hB_findOrAdd_172 {φ : Nat → Nat → Nat} {n : Nat} {a_2 : Int32} {e_3 : Nat} {a_4 : Int32} {a_7 : Int32} {a_8 : Int32} {a_9 : Int32} {a_10 : Int32} {X : St} (h : X.2.2 = φ) : nr φ (hB_findOrAdd_172 n a_2 e_3 a_4 a_7 a_8 a_9 a_10 X) := by
  unfold hB_findOrAdd_172
  refine lp_ind (P := fun (r : Int32 → Nat → Int32 → Int32 → Int32 → Int32 → Int32 → St → Option (Int32 × St)) => ∀ (a_2 : Int32) (e_3 : Nat) (a_4 : Int32) (a_7 : Int32) (a_8 : Int32) (a_9 : Int32) (a_10 : Int32) (X : St), X.2.2 = φ → nr φ (r a_2 e_3 a_4 a_7 a_8 a_9 a_10 X)) ?_ ?_ n a_2 e_3 a_4 a_7 a_8 a_9 a_10 X h
  · intro a_2 e_3 a_4 a_7 a_8 a_9 a_10 X h
    exact nr.none
  · intro r172 hr172 a_2 e_3 a_4 a_7 a_8 a_9 a_10 X h
    unfold hB_findOrAdd_172_s
    refine nr.ite ?_ ?_
    · refine nr.ck ?_
      refine nr.wI h (fun X15 hX15 => ?_)
      refine nr.ck ?_
      refine nr.lv (fun x16 => ?_)
      refine nr.ck ?_
      refine nr.wI hX15 (fun X17 hX17 => ?_)
      refine nr.ck ?_
      refine nr.wI hX17 (fun X18 hX18 => ?_)
      exact nr.ret hX18
    · refine nr.lv (fun x19 => ?_)
      refine nr.lv (fun x20 => ?_)
      refine nr.lv (fun x21 => ?_)
      refine nr.ck ?_
      refine nr.lv (fun x22 => ?_)
      refine nr.ck ?_
      refine nr.wI h (fun X23 hX23 => ?_)
      refine nr.ite ?_ ?_
      · refine nr.lv (fun x25 => ?_)
        refine nr.ck ?_
        refine nr.lv (fun x26 => ?_)
        refine nr.bd (nr_hB_hasAny hX23) (fun x27 X28 hX28 => ?_)
        refine nr.ite ?_ ?_
        · exact nr_hB_findOrAdd_221 hr172 hX28
        · exact nr_hB_findOrAdd_216 hr172 hX28
      · exact nr_hB_findOrAdd_216 hr172 hX23
theorem nr_hB_findOrAdd_167 {φ : Nat → Nat → Nat} {a_2 : Int32} {e_3 : Nat} {a_4 : Int32} {a_7 : Int32} {a_8 : Int32} {b_0 : Int32} {X : St} (h : X.2.2 = φ) : nr φ (hB_findOrAdd_167 a_2 e_3 a_4 a_7 a_8 b_0 X) := by
  unfold hB_findOrAdd_167
  exact nr_hB_findOrAdd_172 h
theorem nr_hB_findOrAdd_162 {φ : Nat → Nat → Nat} {a_2 : Int32} {e_3 : Nat} {a_4 : Int32} {a_7 : Int32} {a_8 : Int32} {X : St} (h : X.2.2 = φ) : nr φ (hB_findOrAdd_162 a_2 e_3 a_4 a_7 a_8 X) := by
  unfold hB_findOrAdd_162
  exact nr_hB_findOrAdd_167 h
theorem nr_hB_findOrAdd_166 {φ : Nat → Nat → Nat} {a_2 : Int32} {e_3 : Nat} {a_4 : Int32} {a_7 : Int32} {a_8 : Int32} {X : St} (h : X.2.2 = φ) : nr φ (hB_findOrAdd_166 a_2 e_3 a_4 a_7 a_8 X) := by
  unfold hB_findOrAdd_166
  exact nr_hB_findOrAdd_167 h
theorem nr_hB_findOrAdd_77 {φ : Nat → Nat → Nat} {a_1 : Int32} {a_2 : Int32} {e_3 : Nat} {a_4 : Int32} {a_5 : Int32} {a_6 : Int32} {a_7 : Int32} {X : St} (h : X.2.2 = φ) : nr φ (hB_findOrAdd_77 a_1 a_2 e_3 a_4 a_5 a_6 a_7 X) := by
  unfold hB_findOrAdd_77
  refine nr.lv (fun x4 => ?_)
  refine nr.ite ?_ ?_
  · refine nr.lv (fun x5 => ?_)
    refine nr.lv (fun x6 => ?_)
    refine nr.lv (fun x7 => ?_)
    refine nr.wI h (fun X8 hX8 => ?_)
    refine nr.ck ?_
    refine nr.wI hX8 (fun X9 hX9 => ?_)
    refine nr.ck ?_
    refine nr.wI hX9 (fun X10 hX10 => ?_)
    refine nr.ck ?_
    refine nr.wI hX10 (fun X11 hX11 => ?_)
    refine nr.lv (fun x12 => ?_)
    refine nr.lv (fun x13 => ?_)
    refine nr.ck ?_
    refine nr.wI hX11 (fun X14 hX14 => ?_)
    refine nr.ite ?_ ?_
    · exact nr_hB_findOrAdd_162 hX14
    · refine nr.ite ?_ ?_
      · exact nr_hB_findOrAdd_166 hX14
      · refine nr.bd (nr_hB_hasAny hX14) (fun x29 X30 hX30 => ?_)
        refine nr.ite ?_ ?_
        · exact nr_hB_findOrAdd_166 hX30
        · exact nr_hB_findOrAdd_162 hX30
  · exact nr.ret h
theorem nr_hB_isSame_30 {φ : Nat → Nat → Nat} {n : Nat} {a_1 : Int32} {a_2 : Int32} {e_3 : Nat} {a_4 : Int32} {a_6 : Int32} {X : St} (h : X.2.2 = φ) : nr φ (hB_isSame_30 n a_1 a_2 e_3 a_4 a_6 X) := by
  unfold hB_isSame_30
  refine lp_ind (P := fun (r : Int32 → Int32 → Nat → Int32 → Int32 → St → Option (Int32 × St)) => ∀ (a_1 : Int32) (a_2 : Int32) (e_3 : Nat) (a_4 : Int32) (a_6 : Int32) (X : St), X.2.2 = φ → nr φ (r a_1 a_2 e_3 a_4 a_6 X)) ?_ ?_ n a_1 a_2 e_3 a_4 a_6 X h
  · intro a_1 a_2 e_3 a_4 a_6 X h
    exact nr.none
  · intro r30 hr30 a_1 a_2 e_3 a_4 a_6 X h
    unfold hB_isSame_30_s
    refine nr.ite ?_ ?_
    · exact nr.ret h
    · refine nr.lv (fun x5 => ?_)
      refine nr.lv (fun x6 => ?_)
      refine nr.ck ?_
      refine nr.lv (fun x7 => ?_)
      refine nr.lv (fun x8 => ?_)
      refine nr.ck ?_
      refine nr.lv (fun x9 => ?_)
      refine nr.ite ?_ ?_
      · refine nr.lv (fun x10 => ?_)
        exact hr30 _ _ _ _ _ _ h
      · exact nr.ret h
theorem nr_hB_isSame {φ : Nat → Nat → Nat} {p1 : Int32} {p2 : Int32} {o3 : Nat} {p4 : Int32} {p5 : Int32} {X : St} (h : X.2.2 = φ) : nr φ (hB_isSame p1 p2 o3 p4 p5 X) := by
  unfold hB_isSame
  refine nr.ck ?_
  refine nr.lv (fun x1 => ?_)
  refine nr.ite ?_ ?_
  · refine nr.lv (fun x2 => ?_)
    refine nr.lv (fun x3 => ?_)
    refine nr.ck ?_
    refine nr.lv (fun x4 => ?_)
    refine nr.ite ?_ ?_
    · exact nr_hB_isSame_30 h
    · exact nr.ret h
  · exact nr.ret h
theorem nr_hB_findOrAdd_62 {φ : Nat → Nat → Nat} {r19 : Int32 → Int32 → Nat → Int32 → Int32 → Int32 → Int32 → Int32 → Int32 → St → Option (Int32 × St)} {a_1 : Int32} {a_2 : Int32} {e_3 : Nat} {a_4 : Int32} {a_5 : Int32} {a_6 : Int32} {a_7 : Int32} {a_8 : Int32} {a_9 : Int32} {X : St} (hr19 : ∀ (q0 : Int32) (q1 : Int32) (q2 : Nat) (q3 : Int32) (q4 : Int32) (q5 : Int32) (q6 : Int32) (q7 : Int32) (q8 : Int32) (X : St), X.2.2 = φ → nr φ (r19 q0 q1 q2 q3 q4 q5 q6 q7 q8 X)) (h : X.2.2 = φ) : nr φ (hB_findOrAdd_62 r19 a_1 a_2 e_3 a_4 a_5 a_6 a_7 a_8 a_9 X) := by
  unfold hB_findOrAdd_62
  refine nr.ck ?_
  refine nr.lv (fun x32 => ?_)
  refine nr.lv (fun x33 => ?_)
  exact hr19 _ _ _ _ _ _ _ _ _ _ h
theorem nr_hB_findOrAdd_19 {φ : Nat → Nat → Nat} {n : Nat} {a_1 : Int32} {a_2 : Int32} {e_3 : Nat} {a_4 : Int32} {a_5 : Int32} {a_6 : Int32} {a_7 : Int32} {a_8 : Int32} {a_9 : Int32} {X : St} (h : X.2.2 = φ) : nr φ (hB_findOrAdd_19 n a_1 a_2 e_3 a_4 a_5 a_6 a_7 a_8 a_9 X) := by
  unfold hB_findOrAdd_19
  refine lp_ind (P := fun (r : Int32 → Int32 → Nat → Int32 → Int32 → Int32 → Int32 → Int32 → Int32 → St → Option (Int32 × St)) => ∀ (a_1 : Int32) (a_2 : Int32) (e_3 : Nat) (a_4 : Int32) (a_5 : Int32) (a_6 : Int32) (a_7 : Int32) (a_8 : Int32) (a_9 : Int32) (X : St), X.2.2 = φ → nr φ (r a_1 a_2 e_3 a_4 a_5 a_6 a_7 a_8 a_9 X)) ?_ ?_ n a_1 a_2 e_3 a_4 a_5 a_6 a_7 a_8 a_9 X h
  · intro a_1 a_2 e_3 a_4 a_5 a_6 a_7 a_8 a_9 X h
    exact nr.none
  · intro r19 hr19 a_1 a_2 e_3 a_4 a_5 a_6 a_7 a_8 a_9 X h
    unfold hB_findOrAdd_19_s
    refine nr.ite ?_ ?_
    · exact nr_hB_findOrAdd_77 h
    · refine nr.ite ?_ ?_
      · exact nr_hB_findOrAdd_77 h
      · refine nr.ck ?_
        refine nr.lv (fun x31 => ?_)
        refine nr.ite ?_ ?_
        · refine nr.bd (nr_hB_isSame h) (fun x34 X35 hX35 => ?_)
          refine nr.ite ?_ ?_
          · exact nr_hB_findOrAdd_62 hr19 hX35
          · exact nr.ret hX35
        · exact nr_hB_findOrAdd_62 hr19 h
theorem nr_hB_findOrAdd {φ : Nat → Nat → Nat} {p1 : Int32} {p2 : Int32} {o3 : Nat} {p4 : Int32} {p5 : Int32} {p6 : Int32} {X : St} (h : X.2.2 = φ) : nr φ (hB_findOrAdd p1 p2 o3 p4 p5 p6 X) := by
  unfold hB_findOrAdd
  refine nr.bd (nr_hB_bucketOf h) (fun x1 X2 hX2 => ?_)
  refine nr.ck ?_
  refine nr.lv (fun x3 => ?_)
  exact nr_hB_findOrAdd_19 hX2
set_option maxHeartbeats 4000000 in
theorem v_hB_codeOf {p1 : Int32} {X : St} (hI : INV X) : ok (hB_codeOf p1 X) (fun r Y => (X = Y)) := by
  unfold hB_codeOf
  refine ok.ite (fun c1 => ?_) (fun c1 => ?_)
  · skip
    have g2 := i32_le p1
    exact ok.ret rfl
  · skip
    have g3 := i32_le p1
    refine ok.letE (v1 := (X.1 25 0)) rfl ?_
    have g4 : 0 ≤ (X.1 25 0).toInt ∧ (X.1 25 0).toInt ≤ 1549 := hI.1 25 0
    refine ok.ite (fun c5 => ?_) (fun c5 => ?_)
    · skip
      exact ok.ret rfl
    · skip
      refine ok.ck (show 0 ≤ p1.toInt ∧ p1.toInt < ((1549 : Nat) : Int) from by omega) ?_
      refine ok.letE (v1 := (X.1 29 (ix p1))) rfl ?_
      exact ok.ret rfl
set_option maxHeartbeats 4000000 in
theorem v_hB_isSame_28 {p1 : Int32} {p2 : Int32} {p4 : Int32} {p5 : Int32} {X : St} (hI : INV X) (h0 : 0 ≤ p1.toInt ∧ p1.toInt ≤ 1548) (h1 : 0 ≤ p2.toInt ∧ p2.toInt ≤ 4) (h2 : 0 ≤ p4.toInt ∧ p4.toInt + p2.toInt ≤ 7745) : ok (hB_isSame p1 p2 28 p4 p5 X) (fun r Y => (X = Y)) := by
  unfold hB_isSame
  refine ok.ck (show 0 ≤ p1.toInt ∧ p1.toInt < ((1549 : Nat) : Int) from by omega) ?_
  refine ok.letE (v1 := (X.1 27 (ix p1))) rfl ?_
  have g1 : 0 ≤ (X.1 27 (ix p1)).toInt ∧ (X.1 27 (ix p1)).toInt ≤ 4 := hI.1 27 (ix p1)
  refine ok.ite (fun c2 => ?_) (fun c2 => ?_)
  · skip
    refine ok.mul (show _ ≤ p1.toInt * (5 : Int) ∧ p1.toInt * (5 : Int) ≤ _ from by omega) (fun x2 hx2 => ?_)
    have hx2 : x2.toInt = p1.toInt * (5 : Int) := hx2
    refine ok.add (show _ ≤ x2.toInt + (4 : Int) ∧ x2.toInt + (4 : Int) ≤ _ from by omega) (fun x3 hx3 => ?_)
    have hx3 : x3.toInt = x2.toInt + (4 : Int) := hx3
    refine ok.ck (show 0 ≤ x3.toInt ∧ x3.toInt < ((7745 : Nat) : Int) from by omega) ?_
    refine ok.letE (v1 := (X.1 28 (ix x3))) rfl ?_
    refine ok.ite (fun c3 => ?_) (fun c3 => ?_)
    · skip
      have lpu4 : ∀ (n : Nat), ∀ (a_1u4 : Int32) (a_2u4 : Int32) (a_4u4 : Int32) (a_6u4 : Int32) (Zu4 : St), INV Zu4 → Fr YC [] X Zu4 → (0 ≤ a_1u4.toInt ∧ a_1u4.toInt ≤ 1548) → (0 ≤ a_2u4.toInt ∧ a_2u4.toInt ≤ 4) → (0 ≤ a_4u4.toInt ∧ a_4u4.toInt + a_2u4.toInt ≤ 7745) → (0 ≤ a_6u4.toInt ∧ a_6u4.toInt ≤ 5) → (5 - a_6u4.toInt).toNat < n → ok (hB_isSame_30 n a_1u4 a_2u4 28 a_4u4 a_6u4 Zu4) (fun r Y => (X = Y)) := by
        intro n
        unfold hB_isSame_30
        refine lp_indN (P := fun (n : Nat) (r_u4 : Int32 → Int32 → Nat → Int32 → Int32 → St → Option (Int32 × St)) => ∀ (a_1u4 : Int32) (a_2u4 : Int32) (a_4u4 : Int32) (a_6u4 : Int32) (Zu4 : St), INV Zu4 → Fr YC [] X Zu4 → (0 ≤ a_1u4.toInt ∧ a_1u4.toInt ≤ 1548) → (0 ≤ a_2u4.toInt ∧ a_2u4.toInt ≤ 4) → (0 ≤ a_4u4.toInt ∧ a_4u4.toInt + a_2u4.toInt ≤ 7745) → (0 ≤ a_6u4.toInt ∧ a_6u4.toInt ≤ 5) → (5 - a_6u4.toInt).toNat < n → ok (r_u4 a_1u4 a_2u4 28 a_4u4 a_6u4 Zu4) (fun r Y => (X = Y))) ?_ ?_ n
        · intro a_1u4 a_2u4 a_4u4 a_6u4 Zu4 hIu4 hFu4 u4_0 u4_1 u4_2 u4_3  hm; exact absurd hm (Nat.not_lt_zero _)
        · intro n r_u4 ih_u4 a_1u4 a_2u4 a_4u4 a_6u4 Zu4 hIu4 hFu4 u4_0 u4_1 u4_2 u4_3  hmu4
          unfold hB_isSame_30_s
          refine ok.ite (fun c5 => ?_) (fun c5 => ?_)
          · skip
            exact ok.ret (Fr.nil hFu4).symm
          · skip
            refine ok.mul (show _ ≤ a_1u4.toInt * (5 : Int) ∧ a_1u4.toInt * (5 : Int) ≤ _ from by omega) (fun x5 hx5 => ?_)
            have hx5 : x5.toInt = a_1u4.toInt * (5 : Int) := hx5
            refine ok.add (show _ ≤ x5.toInt + a_6u4.toInt ∧ x5.toInt + a_6u4.toInt ≤ _ from by omega) (fun x6 hx6 => ?_)
            have hx6 : x6.toInt = x5.toInt + a_6u4.toInt := hx6
            refine ok.ck (show 0 ≤ x6.toInt ∧ x6.toInt < ((7745 : Nat) : Int) from by omega) ?_
            refine ok.letE (v1 := (X.1 28 (ix x6))) (hFu4.1 28 (ix x6) (show (5600 : Nat) ∉ [] from by decide)) ?_
            refine ok.add (show _ ≤ a_4u4.toInt + a_6u4.toInt ∧ a_4u4.toInt + a_6u4.toInt ≤ _ from by omega) (fun x8 hx8 => ?_)
            have hx8 : x8.toInt = a_4u4.toInt + a_6u4.toInt := hx8
            refine ok.ck (show 0 ≤ x8.toInt ∧ x8.toInt < ((7745 : Nat) : Int) from by omega) ?_
            refine ok.letE (v1 := (X.1 28 (ix x8))) (hFu4.1 28 (ix x8) (show (5600 : Nat) ∉ [] from by decide)) ?_
            refine ok.ite (fun c6 => ?_) (fun c6 => ?_)
            · skip
              refine ok.inc (by decide) (show _ ≤ a_6u4.toInt + (1) ∧ a_6u4.toInt + (1) ≤ _ from by omega) (fun x10 hx10 => ?_)
              have hx10 : x10.toInt = a_6u4.toInt + (1) := hx10
              exact ih_u4 a_1u4 a_2u4 a_4u4 x10 Zu4 hIu4 (Fr.rf.tr hFu4 (fun _ q => q)) (show 0 ≤ a_1u4.toInt ∧ a_1u4.toInt ≤ 1548 from by omega) (show 0 ≤ a_2u4.toInt ∧ a_2u4.toInt ≤ 4 from by omega) (show 0 ≤ a_4u4.toInt ∧ a_4u4.toInt + a_2u4.toInt ≤ 7745 from by omega) (show 0 ≤ x10.toInt ∧ x10.toInt ≤ 5 from by omega) (show (5 - x10.toInt).toNat < _ from by omega)
            · skip
              exact ok.ret (Fr.nil hFu4).symm
      exact lpu4 BIG p1 p2 p4 (0 : Int32) X hI (Fr.rf : Fr YC [] _ _) (show 0 ≤ p1.toInt ∧ p1.toInt ≤ 1548 from by omega) (show 0 ≤ p2.toInt ∧ p2.toInt ≤ 4 from by omega) (show 0 ≤ p4.toInt ∧ p4.toInt + p2.toInt ≤ 7745 from by omega) (show 0 ≤ (0 : Int) ∧ (0 : Int) ≤ 5 from by omega) (show (5 - (0 : Int)).toNat < BIG from ltBIG (show _ < 100000 from by omega))
    · skip
      exact ok.ret rfl
  · skip
    exact ok.ret rfl
set_option maxHeartbeats 4000000 in
theorem v_hB_findOrAdd_28 {p1 : Int32} {p2 : Int32} {p4 : Int32} {p5 : Int32} {p6 : Int32} {X : St} (hI : INV X) (h0 : 0 ≤ p1.toInt ∧ p1.toInt ≤ 4) (h1 : 0 ≤ p2.toInt ∧ p2.toInt ≤ 4) (h2 : 0 ≤ p4.toInt ∧ p4.toInt + p2.toInt ≤ 7745) : ok (hB_findOrAdd p1 p2 28 p4 p5 p6 X) (fun r Y => (Fr YC Qv30 X Y ∧ INV Y)) := by
  unfold hB_findOrAdd
  refine ok.bd (v_hB_bucketOf hI) ?_
  rintro x1 _ ⟨rfl, hp1⟩
  have hp1 : 0 ≤ x1.toInt ∧ x1.toInt ≤ 511 := hp1
  refine ok.ck (show 0 ≤ x1.toInt ∧ x1.toInt < ((512 : Nat) : Int) from by omega) ?_
  refine ok.letE (v1 := (X.1 31 (ix x1))) rfl ?_
  have g2 : -1 ≤ (X.1 31 (ix x1)).toInt ∧ (X.1 31 (ix x1)).toInt ≤ 1548 := hI.1 31 (ix x1)
  have lpu3 : ∀ (n : Nat), ∀ (a_1u3 : Int32) (a_2u3 : Int32) (a_4u3 : Int32) (a_5u3 : Int32) (a_6u3 : Int32) (a_7u3 : Int32) (a_8u3 : Int32) (a_9u3 : Int32) (Zu3 : St), INV Zu3 → Fr YC Qv30 X Zu3 → (0 ≤ a_1u3.toInt ∧ a_1u3.toInt ≤ 4) → (0 ≤ a_2u3.toInt ∧ a_2u3.toInt ≤ 4) → (0 ≤ a_4u3.toInt ∧ a_4u3.toInt + a_2u3.toInt ≤ 7745) → (0 ≤ a_7u3.toInt ∧ a_7u3.toInt ≤ 511) → (-1 ≤ a_8u3.toInt ∧ a_8u3.toInt ≤ 1548) → (0 ≤ a_9u3.toInt ∧ a_9u3.toInt ≤ 1549) → (1550 - a_9u3.toInt).toNat < n → ok (hB_findOrAdd_19 n a_1u3 a_2u3 28 a_4u3 a_5u3 a_6u3 a_7u3 a_8u3 a_9u3 Zu3) (fun r Y => (Fr YC Qv30 X Y ∧ INV Y)) := by
    intro n
    unfold hB_findOrAdd_19
    refine lp_indN (P := fun (n : Nat) (r_u3 : Int32 → Int32 → Nat → Int32 → Int32 → Int32 → Int32 → Int32 → Int32 → St → Option (Int32 × St)) => ∀ (a_1u3 : Int32) (a_2u3 : Int32) (a_4u3 : Int32) (a_5u3 : Int32) (a_6u3 : Int32) (a_7u3 : Int32) (a_8u3 : Int32) (a_9u3 : Int32) (Zu3 : St), INV Zu3 → Fr YC Qv30 X Zu3 → (0 ≤ a_1u3.toInt ∧ a_1u3.toInt ≤ 4) → (0 ≤ a_2u3.toInt ∧ a_2u3.toInt ≤ 4) → (0 ≤ a_4u3.toInt ∧ a_4u3.toInt + a_2u3.toInt ≤ 7745) → (0 ≤ a_7u3.toInt ∧ a_7u3.toInt ≤ 511) → (-1 ≤ a_8u3.toInt ∧ a_8u3.toInt ≤ 1548) → (0 ≤ a_9u3.toInt ∧ a_9u3.toInt ≤ 1549) → (1550 - a_9u3.toInt).toNat < n → ok (r_u3 a_1u3 a_2u3 28 a_4u3 a_5u3 a_6u3 a_7u3 a_8u3 a_9u3 Zu3) (fun r Y => (Fr YC Qv30 X Y ∧ INV Y))) ?_ ?_ n
    · intro a_1u3 a_2u3 a_4u3 a_5u3 a_6u3 a_7u3 a_8u3 a_9u3 Zu3 hIu3 hFu3 u3_0 u3_1 u3_2 u3_3 u3_4 u3_5  hm; exact absurd hm (Nat.not_lt_zero _)
    · intro n r_u3 ih_u3 a_1u3 a_2u3 a_4u3 a_5u3 a_6u3 a_7u3 a_8u3 a_9u3 Zu3 hIu3 hFu3 u3_0 u3_1 u3_2 u3_3 u3_4 u3_5  hmu3
      unfold hB_findOrAdd_19_s
      refine ok.ite (fun c4 => ?_) (fun c4 => ?_)
      · skip
        unfold hB_findOrAdd_77
        refine ok.letE (v1 := (Zu3.1 25 0)) rfl ?_
        have g5 : 0 ≤ (Zu3.1 25 0).toInt ∧ (Zu3.1 25 0).toInt ≤ 1549 := hIu3.1 25 0
        refine ok.ite (fun c6 => ?_) (fun c6 => ?_)
        · skip
          refine ok.letE (v1 := (Zu3.1 25 0)) rfl ?_
          refine ok.letE (v1 := (Zu3.1 25 0)) rfl ?_
          refine ok.add (show _ ≤ (Zu3.1 25 0).toInt + (1 : Int) ∧ (Zu3.1 25 0).toInt + (1 : Int) ≤ _ from by omega) (fun x7 hx7 => ?_)
          have hx7 : x7.toInt = (Zu3.1 25 0).toInt + (1 : Int) := hx7
          refine ok.wI (L := [5000]) hIu3 (show 0 ≤ x7.toInt ∧ x7.toInt ≤ 1549 from by omega) (show (5000 : Nat) ∈ [5000] from by decide) (by decide) (fun Z7 hIZ7 hFZ7 hkZ7 hoZ7 => ?_)
          refine ok.ck (show 0 ≤ (Zu3.1 25 0).toInt ∧ (Zu3.1 25 0).toInt < ((1549 : Nat) : Int) from by omega) ?_
          refine ok.wI (L := [5200]) hIZ7 (show True from trivial) (show (5200 : Nat) ∈ [5200] from by decide) (by decide) (fun Z8 hIZ8 hFZ8 hkZ8 hoZ8 => ?_)
          refine ok.ck (show 0 ≤ (Zu3.1 25 0).toInt ∧ (Zu3.1 25 0).toInt < ((1549 : Nat) : Int) from by omega) ?_
          refine ok.wI (L := [5400]) hIZ8 (show 0 ≤ a_2u3.toInt ∧ a_2u3.toInt ≤ 4 from by omega) (show (5400 : Nat) ∈ [5400] from by decide) (by decide) (fun Z9 hIZ9 hFZ9 hkZ9 hoZ9 => ?_)
          refine ok.ck (show 0 ≤ (Zu3.1 25 0).toInt ∧ (Zu3.1 25 0).toInt < ((1549 : Nat) : Int) from by omega) ?_
          refine ok.wI (L := [5800]) hIZ9 (show True from trivial) (show (5800 : Nat) ∈ [5800] from by decide) (by decide) (fun Z10 hIZ10 hFZ10 hkZ10 hoZ10 => ?_)
          refine ok.mul (show _ ≤ (Zu3.1 25 0).toInt * (5 : Int) ∧ (Zu3.1 25 0).toInt * (5 : Int) ≤ _ from by omega) (fun x12 hx12 => ?_)
          have hx12 : x12.toInt = (Zu3.1 25 0).toInt * (5 : Int) := hx12
          refine ok.add (show _ ≤ x12.toInt + (4 : Int) ∧ x12.toInt + (4 : Int) ≤ _ from by omega) (fun x13 hx13 => ?_)
          have hx13 : x13.toInt = x12.toInt + (4 : Int) := hx13
          refine ok.ck (show 0 ≤ x13.toInt ∧ x13.toInt < ((7745 : Nat) : Int) from by omega) ?_
          refine ok.wI (L := [5600]) hIZ10 (show True from trivial) (show (5600 : Nat) ∈ [5600] from by decide) (by decide) (fun Z11 hIZ11 hFZ11 hkZ11 hoZ11 => ?_)
          refine ok.ite (fun c12 => ?_) (fun c12 => ?_)
          · skip
            unfold hB_findOrAdd_162
            unfold hB_findOrAdd_167
            have lpu13 : ∀ (n : Nat), ∀ (a_2u13 : Int32) (a_4u13 : Int32) (a_7u13 : Int32) (a_8u13 : Int32) (a_9u13 : Int32) (a_10u13 : Int32) (Zu13 : St), INV Zu13 → Fr YC Qv30 X Zu13 → (0 ≤ a_2u13.toInt ∧ a_2u13.toInt ≤ 4) → (0 ≤ a_4u13.toInt ∧ a_4u13.toInt + a_2u13.toInt ≤ 7745) → (0 ≤ a_7u13.toInt ∧ a_7u13.toInt ≤ 511) → (0 ≤ a_8u13.toInt ∧ a_8u13.toInt ≤ 1548) → (0 ≤ a_10u13.toInt ∧ a_10u13.toInt ≤ 5) → (5 - a_10u13.toInt).toNat < n → ok (hB_findOrAdd_172 n a_2u13 28 a_4u13 a_7u13 a_8u13 a_9u13 a_10u13 Zu13) (fun r Y => (Fr YC Qv30 X Y ∧ INV Y)) := by
              intro n
              unfold hB_findOrAdd_172
              refine lp_indN (P := fun (n : Nat) (r_u13 : Int32 → Nat → Int32 → Int32 → Int32 → Int32 → Int32 → St → Option (Int32 × St)) => ∀ (a_2u13 : Int32) (a_4u13 : Int32) (a_7u13 : Int32) (a_8u13 : Int32) (a_9u13 : Int32) (a_10u13 : Int32) (Zu13 : St), INV Zu13 → Fr YC Qv30 X Zu13 → (0 ≤ a_2u13.toInt ∧ a_2u13.toInt ≤ 4) → (0 ≤ a_4u13.toInt ∧ a_4u13.toInt + a_2u13.toInt ≤ 7745) → (0 ≤ a_7u13.toInt ∧ a_7u13.toInt ≤ 511) → (0 ≤ a_8u13.toInt ∧ a_8u13.toInt ≤ 1548) → (0 ≤ a_10u13.toInt ∧ a_10u13.toInt ≤ 5) → (5 - a_10u13.toInt).toNat < n → ok (r_u13 a_2u13 28 a_4u13 a_7u13 a_8u13 a_9u13 a_10u13 Zu13) (fun r Y => (Fr YC Qv30 X Y ∧ INV Y))) ?_ ?_ n
              · intro a_2u13 a_4u13 a_7u13 a_8u13 a_9u13 a_10u13 Zu13 hIu13 hFu13 u13_0 u13_1 u13_2 u13_3 u13_4  hm; exact absurd hm (Nat.not_lt_zero _)
              · intro n r_u13 ih_u13 a_2u13 a_4u13 a_7u13 a_8u13 a_9u13 a_10u13 Zu13 hIu13 hFu13 u13_0 u13_1 u13_2 u13_3 u13_4  hmu13
                unfold hB_findOrAdd_172_s
                refine ok.ite (fun c14 => ?_) (fun c14 => ?_)
                · skip
                  refine ok.ck (show 0 ≤ a_8u13.toInt ∧ a_8u13.toInt < ((1549 : Nat) : Int) from by omega) ?_
                  refine ok.wI (L := [6000]) hIu13 (show True from trivial) (show (6000 : Nat) ∈ [6000] from by decide) (by decide) (fun Z15 hIZ15 hFZ15 hkZ15 hoZ15 => ?_)
                  refine ok.ck (show 0 ≤ a_7u13.toInt ∧ a_7u13.toInt < ((512 : Nat) : Int) from by omega) ?_
                  refine ok.letE (v1 := (Zu13.1 31 (ix a_7u13))) (hFZ15.1 31 (ix a_7u13) (show (6200 : Nat) ∉ [6000] from by decide)) ?_
                  have g16 : -1 ≤ (Zu13.1 31 (ix a_7u13)).toInt ∧ (Zu13.1 31 (ix a_7u13)).toInt ≤ 1548 := hIu13.1 31 (ix a_7u13)
                  refine ok.ck (show 0 ≤ a_8u13.toInt ∧ a_8u13.toInt < ((1549 : Nat) : Int) from by omega) ?_
                  refine ok.wI (L := [6400]) hIZ15 (show -1 ≤ (Zu13.1 31 (ix a_7u13)).toInt ∧ (Zu13.1 31 (ix a_7u13)).toInt ≤ 1548 from by omega) (show (6400 : Nat) ∈ [6400] from by decide) (by decide) (fun Z17 hIZ17 hFZ17 hkZ17 hoZ17 => ?_)
                  refine ok.ck (show 0 ≤ a_7u13.toInt ∧ a_7u13.toInt < ((512 : Nat) : Int) from by omega) ?_
                  refine ok.wI (L := [6200]) hIZ17 (show -1 ≤ a_8u13.toInt ∧ a_8u13.toInt ≤ 1548 from by omega) (show (6200 : Nat) ∈ [6200] from by decide) (by decide) (fun Z18 hIZ18 hFZ18 hkZ18 hoZ18 => ?_)
                  exact ok.ret ⟨((((Fr.rf.tr hFu13 (fun _ q => q)).tr hFZ15 (by decide)).tr hFZ17 (by decide)).tr hFZ18 (by decide)), hIZ18⟩
                · skip
                  refine ok.mul (show _ ≤ a_8u13.toInt * (5 : Int) ∧ a_8u13.toInt * (5 : Int) ≤ _ from by omega) (fun x19 hx19 => ?_)
                  have hx19 : x19.toInt = a_8u13.toInt * (5 : Int) := hx19
                  refine ok.add (show _ ≤ x19.toInt + a_10u13.toInt ∧ x19.toInt + a_10u13.toInt ≤ _ from by omega) (fun x20 hx20 => ?_)
                  have hx20 : x20.toInt = x19.toInt + a_10u13.toInt := hx20
                  refine ok.add (show _ ≤ a_4u13.toInt + a_10u13.toInt ∧ a_4u13.toInt + a_10u13.toInt ≤ _ from by omega) (fun x21 hx21 => ?_)
                  have hx21 : x21.toInt = a_4u13.toInt + a_10u13.toInt := hx21
                  refine ok.ck (show 0 ≤ x21.toInt ∧ x21.toInt < ((7745 : Nat) : Int) from by omega) ?_
                  refine ok.letE (v1 := (Zu13.1 28 (ix x21))) rfl ?_
                  refine ok.ck (show 0 ≤ x20.toInt ∧ x20.toInt < ((7745 : Nat) : Int) from by omega) ?_
                  refine ok.wI (L := [5600]) hIu13 (show True from trivial) (show (5600 : Nat) ∈ [5600] from by decide) (by decide) (fun Z19 hIZ19 hFZ19 hkZ19 hoZ19 => ?_)
                  refine ok.ite (fun c20 => ?_) (fun c20 => ?_)
                  · skip
                    have g21 := i32_le a_9u13
                    refine ok.add (show _ ≤ a_4u13.toInt + a_10u13.toInt ∧ a_4u13.toInt + a_10u13.toInt ≤ _ from by omega) (fun x25 hx25 => ?_)
                    have hx25 : x25.toInt = a_4u13.toInt + a_10u13.toInt := hx25
                    refine ok.ck (show 0 ≤ x25.toInt ∧ x25.toInt < ((7745 : Nat) : Int) from by omega) ?_
                    refine ok.letE (v1 := (Z19.1 28 (ix x25))) rfl ?_
                    refine ok.bd (v_hB_hasAny hIZ19) ?_
                    rintro x27 _ rfl
                    refine ok.ite (fun c23 => ?_) (fun c23 => ?_)
                    · skip
                      have g24 := i32_le x27
                      unfold hB_findOrAdd_221
                      refine ok.inc (by decide) (show _ ≤ a_10u13.toInt + (1) ∧ a_10u13.toInt + (1) ≤ _ from by omega) (fun x24 hx24 => ?_)
                      have hx24 : x24.toInt = a_10u13.toInt + (1) := hx24
                      exact ih_u13 a_2u13 a_4u13 a_7u13 a_8u13 (0 : Int32) x24 Z19 hIZ19 ((Fr.rf.tr hFu13 (fun _ q => q)).tr hFZ19 (by decide)) (show 0 ≤ a_2u13.toInt ∧ a_2u13.toInt ≤ 4 from by omega) (show 0 ≤ a_4u13.toInt ∧ a_4u13.toInt + a_2u13.toInt ≤ 7745 from by omega) (show 0 ≤ a_7u13.toInt ∧ a_7u13.toInt ≤ 511 from by omega) (show 0 ≤ a_8u13.toInt ∧ a_8u13.toInt ≤ 1548 from by omega) (show 0 ≤ x24.toInt ∧ x24.toInt ≤ 5 from by omega) (show (5 - x24.toInt).toNat < _ from by omega)
                    · skip
                      unfold hB_findOrAdd_216
                      unfold hB_findOrAdd_221
                      refine ok.inc (by decide) (show _ ≤ a_10u13.toInt + (1) ∧ a_10u13.toInt + (1) ≤ _ from by omega) (fun x24 hx24 => ?_)
                      have hx24 : x24.toInt = a_10u13.toInt + (1) := hx24
                      exact ih_u13 a_2u13 a_4u13 a_7u13 a_8u13 (1 : Int32) x24 Z19 hIZ19 ((Fr.rf.tr hFu13 (fun _ q => q)).tr hFZ19 (by decide)) (show 0 ≤ a_2u13.toInt ∧ a_2u13.toInt ≤ 4 from by omega) (show 0 ≤ a_4u13.toInt ∧ a_4u13.toInt + a_2u13.toInt ≤ 7745 from by omega) (show 0 ≤ a_7u13.toInt ∧ a_7u13.toInt ≤ 511 from by omega) (show 0 ≤ a_8u13.toInt ∧ a_8u13.toInt ≤ 1548 from by omega) (show 0 ≤ x24.toInt ∧ x24.toInt ≤ 5 from by omega) (show (5 - x24.toInt).toNat < _ from by omega)
                  · skip
                    unfold hB_findOrAdd_216
                    unfold hB_findOrAdd_221
                    refine ok.inc (by decide) (show _ ≤ a_10u13.toInt + (1) ∧ a_10u13.toInt + (1) ≤ _ from by omega) (fun x24 hx24 => ?_)
                    have hx24 : x24.toInt = a_10u13.toInt + (1) := hx24
                    exact ih_u13 a_2u13 a_4u13 a_7u13 a_8u13 (1 : Int32) x24 Z19 hIZ19 ((Fr.rf.tr hFu13 (fun _ q => q)).tr hFZ19 (by decide)) (show 0 ≤ a_2u13.toInt ∧ a_2u13.toInt ≤ 4 from by omega) (show 0 ≤ a_4u13.toInt ∧ a_4u13.toInt + a_2u13.toInt ≤ 7745 from by omega) (show 0 ≤ a_7u13.toInt ∧ a_7u13.toInt ≤ 511 from by omega) (show 0 ≤ a_8u13.toInt ∧ a_8u13.toInt ≤ 1548 from by omega) (show 0 ≤ x24.toInt ∧ x24.toInt ≤ 5 from by omega) (show (5 - x24.toInt).toNat < _ from by omega)
            exact lpu13 BIG a_2u3 a_4u3 a_7u3 (Zu3.1 25 0) (1 : Int32) (0 : Int32) Z11 hIZ11 ((((((Fr.rf.tr hFu3 (fun _ q => q)).tr hFZ7 (by decide)).tr hFZ8 (by decide)).tr hFZ9 (by decide)).tr hFZ10 (by decide)).tr hFZ11 (by decide)) (show 0 ≤ a_2u3.toInt ∧ a_2u3.toInt ≤ 4 from by omega) (show 0 ≤ a_4u3.toInt ∧ a_4u3.toInt + a_2u3.toInt ≤ 7745 from by omega) (show 0 ≤ a_7u3.toInt ∧ a_7u3.toInt ≤ 511 from by omega) (show 0 ≤ (Zu3.1 25 0).toInt ∧ (Zu3.1 25 0).toInt ≤ 1548 from by omega) (show 0 ≤ (0 : Int) ∧ (0 : Int) ≤ 5 from by omega) (show (5 - (0 : Int)).toNat < BIG from ltBIG (show _ < 100000 from by omega))
          · skip
            refine ok.ite (fun c25 => ?_) (fun c25 => ?_)
            · skip
              unfold hB_findOrAdd_166
              unfold hB_findOrAdd_167
              have lpu26 : ∀ (n : Nat), ∀ (a_2u26 : Int32) (a_4u26 : Int32) (a_7u26 : Int32) (a_8u26 : Int32) (a_9u26 : Int32) (a_10u26 : Int32) (Zu26 : St), INV Zu26 → Fr YC Qv30 X Zu26 → (0 ≤ a_2u26.toInt ∧ a_2u26.toInt ≤ 4) → (0 ≤ a_4u26.toInt ∧ a_4u26.toInt + a_2u26.toInt ≤ 7745) → (0 ≤ a_7u26.toInt ∧ a_7u26.toInt ≤ 511) → (0 ≤ a_8u26.toInt ∧ a_8u26.toInt ≤ 1548) → (0 ≤ a_10u26.toInt ∧ a_10u26.toInt ≤ 5) → (5 - a_10u26.toInt).toNat < n → ok (hB_findOrAdd_172 n a_2u26 28 a_4u26 a_7u26 a_8u26 a_9u26 a_10u26 Zu26) (fun r Y => (Fr YC Qv30 X Y ∧ INV Y)) := by
                intro n
                unfold hB_findOrAdd_172
                refine lp_indN (P := fun (n : Nat) (r_u26 : Int32 → Nat → Int32 → Int32 → Int32 → Int32 → Int32 → St → Option (Int32 × St)) => ∀ (a_2u26 : Int32) (a_4u26 : Int32) (a_7u26 : Int32) (a_8u26 : Int32) (a_9u26 : Int32) (a_10u26 : Int32) (Zu26 : St), INV Zu26 → Fr YC Qv30 X Zu26 → (0 ≤ a_2u26.toInt ∧ a_2u26.toInt ≤ 4) → (0 ≤ a_4u26.toInt ∧ a_4u26.toInt + a_2u26.toInt ≤ 7745) → (0 ≤ a_7u26.toInt ∧ a_7u26.toInt ≤ 511) → (0 ≤ a_8u26.toInt ∧ a_8u26.toInt ≤ 1548) → (0 ≤ a_10u26.toInt ∧ a_10u26.toInt ≤ 5) → (5 - a_10u26.toInt).toNat < n → ok (r_u26 a_2u26 28 a_4u26 a_7u26 a_8u26 a_9u26 a_10u26 Zu26) (fun r Y => (Fr YC Qv30 X Y ∧ INV Y))) ?_ ?_ n
                · intro a_2u26 a_4u26 a_7u26 a_8u26 a_9u26 a_10u26 Zu26 hIu26 hFu26 u26_0 u26_1 u26_2 u26_3 u26_4  hm; exact absurd hm (Nat.not_lt_zero _)
                · intro n r_u26 ih_u26 a_2u26 a_4u26 a_7u26 a_8u26 a_9u26 a_10u26 Zu26 hIu26 hFu26 u26_0 u26_1 u26_2 u26_3 u26_4  hmu26
                  unfold hB_findOrAdd_172_s
                  refine ok.ite (fun c27 => ?_) (fun c27 => ?_)
                  · skip
                    refine ok.ck (show 0 ≤ a_8u26.toInt ∧ a_8u26.toInt < ((1549 : Nat) : Int) from by omega) ?_
                    refine ok.wI (L := [6000]) hIu26 (show True from trivial) (show (6000 : Nat) ∈ [6000] from by decide) (by decide) (fun Z28 hIZ28 hFZ28 hkZ28 hoZ28 => ?_)
                    refine ok.ck (show 0 ≤ a_7u26.toInt ∧ a_7u26.toInt < ((512 : Nat) : Int) from by omega) ?_
                    refine ok.letE (v1 := (Zu26.1 31 (ix a_7u26))) (hFZ28.1 31 (ix a_7u26) (show (6200 : Nat) ∉ [6000] from by decide)) ?_
                    have g29 : -1 ≤ (Zu26.1 31 (ix a_7u26)).toInt ∧ (Zu26.1 31 (ix a_7u26)).toInt ≤ 1548 := hIu26.1 31 (ix a_7u26)
                    refine ok.ck (show 0 ≤ a_8u26.toInt ∧ a_8u26.toInt < ((1549 : Nat) : Int) from by omega) ?_
                    refine ok.wI (L := [6400]) hIZ28 (show -1 ≤ (Zu26.1 31 (ix a_7u26)).toInt ∧ (Zu26.1 31 (ix a_7u26)).toInt ≤ 1548 from by omega) (show (6400 : Nat) ∈ [6400] from by decide) (by decide) (fun Z30 hIZ30 hFZ30 hkZ30 hoZ30 => ?_)
                    refine ok.ck (show 0 ≤ a_7u26.toInt ∧ a_7u26.toInt < ((512 : Nat) : Int) from by omega) ?_
                    refine ok.wI (L := [6200]) hIZ30 (show -1 ≤ a_8u26.toInt ∧ a_8u26.toInt ≤ 1548 from by omega) (show (6200 : Nat) ∈ [6200] from by decide) (by decide) (fun Z31 hIZ31 hFZ31 hkZ31 hoZ31 => ?_)
                    exact ok.ret ⟨((((Fr.rf.tr hFu26 (fun _ q => q)).tr hFZ28 (by decide)).tr hFZ30 (by decide)).tr hFZ31 (by decide)), hIZ31⟩
                  · skip
                    refine ok.mul (show _ ≤ a_8u26.toInt * (5 : Int) ∧ a_8u26.toInt * (5 : Int) ≤ _ from by omega) (fun x19 hx19 => ?_)
                    have hx19 : x19.toInt = a_8u26.toInt * (5 : Int) := hx19
                    refine ok.add (show _ ≤ x19.toInt + a_10u26.toInt ∧ x19.toInt + a_10u26.toInt ≤ _ from by omega) (fun x20 hx20 => ?_)
                    have hx20 : x20.toInt = x19.toInt + a_10u26.toInt := hx20
                    refine ok.add (show _ ≤ a_4u26.toInt + a_10u26.toInt ∧ a_4u26.toInt + a_10u26.toInt ≤ _ from by omega) (fun x21 hx21 => ?_)
                    have hx21 : x21.toInt = a_4u26.toInt + a_10u26.toInt := hx21
                    refine ok.ck (show 0 ≤ x21.toInt ∧ x21.toInt < ((7745 : Nat) : Int) from by omega) ?_
                    refine ok.letE (v1 := (Zu26.1 28 (ix x21))) rfl ?_
                    refine ok.ck (show 0 ≤ x20.toInt ∧ x20.toInt < ((7745 : Nat) : Int) from by omega) ?_
                    refine ok.wI (L := [5600]) hIu26 (show True from trivial) (show (5600 : Nat) ∈ [5600] from by decide) (by decide) (fun Z32 hIZ32 hFZ32 hkZ32 hoZ32 => ?_)
                    refine ok.ite (fun c33 => ?_) (fun c33 => ?_)
                    · skip
                      have g34 := i32_le a_9u26
                      refine ok.add (show _ ≤ a_4u26.toInt + a_10u26.toInt ∧ a_4u26.toInt + a_10u26.toInt ≤ _ from by omega) (fun x25 hx25 => ?_)
                      have hx25 : x25.toInt = a_4u26.toInt + a_10u26.toInt := hx25
                      refine ok.ck (show 0 ≤ x25.toInt ∧ x25.toInt < ((7745 : Nat) : Int) from by omega) ?_
                      refine ok.letE (v1 := (Z32.1 28 (ix x25))) rfl ?_
                      refine ok.bd (v_hB_hasAny hIZ32) ?_
                      rintro x27 _ rfl
                      refine ok.ite (fun c36 => ?_) (fun c36 => ?_)
                      · skip
                        have g37 := i32_le x27
                        unfold hB_findOrAdd_221
                        refine ok.inc (by decide) (show _ ≤ a_10u26.toInt + (1) ∧ a_10u26.toInt + (1) ≤ _ from by omega) (fun x24 hx24 => ?_)
                        have hx24 : x24.toInt = a_10u26.toInt + (1) := hx24
                        exact ih_u26 a_2u26 a_4u26 a_7u26 a_8u26 (0 : Int32) x24 Z32 hIZ32 ((Fr.rf.tr hFu26 (fun _ q => q)).tr hFZ32 (by decide)) (show 0 ≤ a_2u26.toInt ∧ a_2u26.toInt ≤ 4 from by omega) (show 0 ≤ a_4u26.toInt ∧ a_4u26.toInt + a_2u26.toInt ≤ 7745 from by omega) (show 0 ≤ a_7u26.toInt ∧ a_7u26.toInt ≤ 511 from by omega) (show 0 ≤ a_8u26.toInt ∧ a_8u26.toInt ≤ 1548 from by omega) (show 0 ≤ x24.toInt ∧ x24.toInt ≤ 5 from by omega) (show (5 - x24.toInt).toNat < _ from by omega)
                      · skip
                        unfold hB_findOrAdd_216
                        unfold hB_findOrAdd_221
                        refine ok.inc (by decide) (show _ ≤ a_10u26.toInt + (1) ∧ a_10u26.toInt + (1) ≤ _ from by omega) (fun x24 hx24 => ?_)
                        have hx24 : x24.toInt = a_10u26.toInt + (1) := hx24
                        exact ih_u26 a_2u26 a_4u26 a_7u26 a_8u26 (1 : Int32) x24 Z32 hIZ32 ((Fr.rf.tr hFu26 (fun _ q => q)).tr hFZ32 (by decide)) (show 0 ≤ a_2u26.toInt ∧ a_2u26.toInt ≤ 4 from by omega) (show 0 ≤ a_4u26.toInt ∧ a_4u26.toInt + a_2u26.toInt ≤ 7745 from by omega) (show 0 ≤ a_7u26.toInt ∧ a_7u26.toInt ≤ 511 from by omega) (show 0 ≤ a_8u26.toInt ∧ a_8u26.toInt ≤ 1548 from by omega) (show 0 ≤ x24.toInt ∧ x24.toInt ≤ 5 from by omega) (show (5 - x24.toInt).toNat < _ from by omega)
                    · skip
                      unfold hB_findOrAdd_216
                      unfold hB_findOrAdd_221
                      refine ok.inc (by decide) (show _ ≤ a_10u26.toInt + (1) ∧ a_10u26.toInt + (1) ≤ _ from by omega) (fun x24 hx24 => ?_)
                      have hx24 : x24.toInt = a_10u26.toInt + (1) := hx24
                      exact ih_u26 a_2u26 a_4u26 a_7u26 a_8u26 (1 : Int32) x24 Z32 hIZ32 ((Fr.rf.tr hFu26 (fun _ q => q)).tr hFZ32 (by decide)) (show 0 ≤ a_2u26.toInt ∧ a_2u26.toInt ≤ 4 from by omega) (show 0 ≤ a_4u26.toInt ∧ a_4u26.toInt + a_2u26.toInt ≤ 7745 from by omega) (show 0 ≤ a_7u26.toInt ∧ a_7u26.toInt ≤ 511 from by omega) (show 0 ≤ a_8u26.toInt ∧ a_8u26.toInt ≤ 1548 from by omega) (show 0 ≤ x24.toInt ∧ x24.toInt ≤ 5 from by omega) (show (5 - x24.toInt).toNat < _ from by omega)
              exact lpu26 BIG a_2u3 a_4u3 a_7u3 (Zu3.1 25 0) (0 : Int32) (0 : Int32) Z11 hIZ11 ((((((Fr.rf.tr hFu3 (fun _ q => q)).tr hFZ7 (by decide)).tr hFZ8 (by decide)).tr hFZ9 (by decide)).tr hFZ10 (by decide)).tr hFZ11 (by decide)) (show 0 ≤ a_2u3.toInt ∧ a_2u3.toInt ≤ 4 from by omega) (show 0 ≤ a_4u3.toInt ∧ a_4u3.toInt + a_2u3.toInt ≤ 7745 from by omega) (show 0 ≤ a_7u3.toInt ∧ a_7u3.toInt ≤ 511 from by omega) (show 0 ≤ (Zu3.1 25 0).toInt ∧ (Zu3.1 25 0).toInt ≤ 1548 from by omega) (show 0 ≤ (0 : Int) ∧ (0 : Int) ≤ 5 from by omega) (show (5 - (0 : Int)).toNat < BIG from ltBIG (show _ < 100000 from by omega))
            · skip
              refine ok.bd (v_hB_hasAny hIZ11) ?_
              rintro x29 _ rfl
              refine ok.ite (fun c39 => ?_) (fun c39 => ?_)
              · skip
                have g40 := i32_le x29
                unfold hB_findOrAdd_166
                unfold hB_findOrAdd_167
                have lpu41 : ∀ (n : Nat), ∀ (a_2u41 : Int32) (a_4u41 : Int32) (a_7u41 : Int32) (a_8u41 : Int32) (a_9u41 : Int32) (a_10u41 : Int32) (Zu41 : St), INV Zu41 → Fr YC Qv30 X Zu41 → (0 ≤ a_2u41.toInt ∧ a_2u41.toInt ≤ 4) → (0 ≤ a_4u41.toInt ∧ a_4u41.toInt + a_2u41.toInt ≤ 7745) → (0 ≤ a_7u41.toInt ∧ a_7u41.toInt ≤ 511) → (0 ≤ a_8u41.toInt ∧ a_8u41.toInt ≤ 1548) → (0 ≤ a_10u41.toInt ∧ a_10u41.toInt ≤ 5) → (5 - a_10u41.toInt).toNat < n → ok (hB_findOrAdd_172 n a_2u41 28 a_4u41 a_7u41 a_8u41 a_9u41 a_10u41 Zu41) (fun r Y => (Fr YC Qv30 X Y ∧ INV Y)) := by
                  intro n
                  unfold hB_findOrAdd_172
                  refine lp_indN (P := fun (n : Nat) (r_u41 : Int32 → Nat → Int32 → Int32 → Int32 → Int32 → Int32 → St → Option (Int32 × St)) => ∀ (a_2u41 : Int32) (a_4u41 : Int32) (a_7u41 : Int32) (a_8u41 : Int32) (a_9u41 : Int32) (a_10u41 : Int32) (Zu41 : St), INV Zu41 → Fr YC Qv30 X Zu41 → (0 ≤ a_2u41.toInt ∧ a_2u41.toInt ≤ 4) → (0 ≤ a_4u41.toInt ∧ a_4u41.toInt + a_2u41.toInt ≤ 7745) → (0 ≤ a_7u41.toInt ∧ a_7u41.toInt ≤ 511) → (0 ≤ a_8u41.toInt ∧ a_8u41.toInt ≤ 1548) → (0 ≤ a_10u41.toInt ∧ a_10u41.toInt ≤ 5) → (5 - a_10u41.toInt).toNat < n → ok (r_u41 a_2u41 28 a_4u41 a_7u41 a_8u41 a_9u41 a_10u41 Zu41) (fun r Y => (Fr YC Qv30 X Y ∧ INV Y))) ?_ ?_ n
                  · intro a_2u41 a_4u41 a_7u41 a_8u41 a_9u41 a_10u41 Zu41 hIu41 hFu41 u41_0 u41_1 u41_2 u41_3 u41_4  hm; exact absurd hm (Nat.not_lt_zero _)
                  · intro n r_u41 ih_u41 a_2u41 a_4u41 a_7u41 a_8u41 a_9u41 a_10u41 Zu41 hIu41 hFu41 u41_0 u41_1 u41_2 u41_3 u41_4  hmu41
                    unfold hB_findOrAdd_172_s
                    refine ok.ite (fun c42 => ?_) (fun c42 => ?_)
                    · skip
                      refine ok.ck (show 0 ≤ a_8u41.toInt ∧ a_8u41.toInt < ((1549 : Nat) : Int) from by omega) ?_
                      refine ok.wI (L := [6000]) hIu41 (show True from trivial) (show (6000 : Nat) ∈ [6000] from by decide) (by decide) (fun Z43 hIZ43 hFZ43 hkZ43 hoZ43 => ?_)
                      refine ok.ck (show 0 ≤ a_7u41.toInt ∧ a_7u41.toInt < ((512 : Nat) : Int) from by omega) ?_
                      refine ok.letE (v1 := (Zu41.1 31 (ix a_7u41))) (hFZ43.1 31 (ix a_7u41) (show (6200 : Nat) ∉ [6000] from by decide)) ?_
                      have g44 : -1 ≤ (Zu41.1 31 (ix a_7u41)).toInt ∧ (Zu41.1 31 (ix a_7u41)).toInt ≤ 1548 := hIu41.1 31 (ix a_7u41)
                      refine ok.ck (show 0 ≤ a_8u41.toInt ∧ a_8u41.toInt < ((1549 : Nat) : Int) from by omega) ?_
                      refine ok.wI (L := [6400]) hIZ43 (show -1 ≤ (Zu41.1 31 (ix a_7u41)).toInt ∧ (Zu41.1 31 (ix a_7u41)).toInt ≤ 1548 from by omega) (show (6400 : Nat) ∈ [6400] from by decide) (by decide) (fun Z45 hIZ45 hFZ45 hkZ45 hoZ45 => ?_)
                      refine ok.ck (show 0 ≤ a_7u41.toInt ∧ a_7u41.toInt < ((512 : Nat) : Int) from by omega) ?_
                      refine ok.wI (L := [6200]) hIZ45 (show -1 ≤ a_8u41.toInt ∧ a_8u41.toInt ≤ 1548 from by omega) (show (6200 : Nat) ∈ [6200] from by decide) (by decide) (fun Z46 hIZ46 hFZ46 hkZ46 hoZ46 => ?_)
                      exact ok.ret ⟨((((Fr.rf.tr hFu41 (fun _ q => q)).tr hFZ43 (by decide)).tr hFZ45 (by decide)).tr hFZ46 (by decide)), hIZ46⟩
                    · skip
                      refine ok.mul (show _ ≤ a_8u41.toInt * (5 : Int) ∧ a_8u41.toInt * (5 : Int) ≤ _ from by omega) (fun x19 hx19 => ?_)
                      have hx19 : x19.toInt = a_8u41.toInt * (5 : Int) := hx19
                      refine ok.add (show _ ≤ x19.toInt + a_10u41.toInt ∧ x19.toInt + a_10u41.toInt ≤ _ from by omega) (fun x20 hx20 => ?_)
                      have hx20 : x20.toInt = x19.toInt + a_10u41.toInt := hx20
                      refine ok.add (show _ ≤ a_4u41.toInt + a_10u41.toInt ∧ a_4u41.toInt + a_10u41.toInt ≤ _ from by omega) (fun x21 hx21 => ?_)
                      have hx21 : x21.toInt = a_4u41.toInt + a_10u41.toInt := hx21
                      refine ok.ck (show 0 ≤ x21.toInt ∧ x21.toInt < ((7745 : Nat) : Int) from by omega) ?_
                      refine ok.letE (v1 := (Zu41.1 28 (ix x21))) rfl ?_
                      refine ok.ck (show 0 ≤ x20.toInt ∧ x20.toInt < ((7745 : Nat) : Int) from by omega) ?_
                      refine ok.wI (L := [5600]) hIu41 (show True from trivial) (show (5600 : Nat) ∈ [5600] from by decide) (by decide) (fun Z47 hIZ47 hFZ47 hkZ47 hoZ47 => ?_)
                      refine ok.ite (fun c48 => ?_) (fun c48 => ?_)
                      · skip
                        have g49 := i32_le a_9u41
                        refine ok.add (show _ ≤ a_4u41.toInt + a_10u41.toInt ∧ a_4u41.toInt + a_10u41.toInt ≤ _ from by omega) (fun x25 hx25 => ?_)
                        have hx25 : x25.toInt = a_4u41.toInt + a_10u41.toInt := hx25
                        refine ok.ck (show 0 ≤ x25.toInt ∧ x25.toInt < ((7745 : Nat) : Int) from by omega) ?_
                        refine ok.letE (v1 := (Z47.1 28 (ix x25))) rfl ?_
                        refine ok.bd (v_hB_hasAny hIZ47) ?_
                        rintro x27 _ rfl
                        refine ok.ite (fun c51 => ?_) (fun c51 => ?_)
                        · skip
                          have g52 := i32_le x27
                          unfold hB_findOrAdd_221
                          refine ok.inc (by decide) (show _ ≤ a_10u41.toInt + (1) ∧ a_10u41.toInt + (1) ≤ _ from by omega) (fun x24 hx24 => ?_)
                          have hx24 : x24.toInt = a_10u41.toInt + (1) := hx24
                          exact ih_u41 a_2u41 a_4u41 a_7u41 a_8u41 (0 : Int32) x24 Z47 hIZ47 ((Fr.rf.tr hFu41 (fun _ q => q)).tr hFZ47 (by decide)) (show 0 ≤ a_2u41.toInt ∧ a_2u41.toInt ≤ 4 from by omega) (show 0 ≤ a_4u41.toInt ∧ a_4u41.toInt + a_2u41.toInt ≤ 7745 from by omega) (show 0 ≤ a_7u41.toInt ∧ a_7u41.toInt ≤ 511 from by omega) (show 0 ≤ a_8u41.toInt ∧ a_8u41.toInt ≤ 1548 from by omega) (show 0 ≤ x24.toInt ∧ x24.toInt ≤ 5 from by omega) (show (5 - x24.toInt).toNat < _ from by omega)
                        · skip
                          unfold hB_findOrAdd_216
                          unfold hB_findOrAdd_221
                          refine ok.inc (by decide) (show _ ≤ a_10u41.toInt + (1) ∧ a_10u41.toInt + (1) ≤ _ from by omega) (fun x24 hx24 => ?_)
                          have hx24 : x24.toInt = a_10u41.toInt + (1) := hx24
                          exact ih_u41 a_2u41 a_4u41 a_7u41 a_8u41 (1 : Int32) x24 Z47 hIZ47 ((Fr.rf.tr hFu41 (fun _ q => q)).tr hFZ47 (by decide)) (show 0 ≤ a_2u41.toInt ∧ a_2u41.toInt ≤ 4 from by omega) (show 0 ≤ a_4u41.toInt ∧ a_4u41.toInt + a_2u41.toInt ≤ 7745 from by omega) (show 0 ≤ a_7u41.toInt ∧ a_7u41.toInt ≤ 511 from by omega) (show 0 ≤ a_8u41.toInt ∧ a_8u41.toInt ≤ 1548 from by omega) (show 0 ≤ x24.toInt ∧ x24.toInt ≤ 5 from by omega) (show (5 - x24.toInt).toNat < _ from by omega)
                      · skip
                        unfold hB_findOrAdd_216
                        unfold hB_findOrAdd_221
                        refine ok.inc (by decide) (show _ ≤ a_10u41.toInt + (1) ∧ a_10u41.toInt + (1) ≤ _ from by omega) (fun x24 hx24 => ?_)
                        have hx24 : x24.toInt = a_10u41.toInt + (1) := hx24
                        exact ih_u41 a_2u41 a_4u41 a_7u41 a_8u41 (1 : Int32) x24 Z47 hIZ47 ((Fr.rf.tr hFu41 (fun _ q => q)).tr hFZ47 (by decide)) (show 0 ≤ a_2u41.toInt ∧ a_2u41.toInt ≤ 4 from by omega) (show 0 ≤ a_4u41.toInt ∧ a_4u41.toInt + a_2u41.toInt ≤ 7745 from by omega) (show 0 ≤ a_7u41.toInt ∧ a_7u41.toInt ≤ 511 from by omega) (show 0 ≤ a_8u41.toInt ∧ a_8u41.toInt ≤ 1548 from by omega) (show 0 ≤ x24.toInt ∧ x24.toInt ≤ 5 from by omega) (show (5 - x24.toInt).toNat < _ from by omega)
                exact lpu41 BIG a_2u3 a_4u3 a_7u3 (Zu3.1 25 0) (0 : Int32) (0 : Int32) Z11 hIZ11 ((((((Fr.rf.tr hFu3 (fun _ q => q)).tr hFZ7 (by decide)).tr hFZ8 (by decide)).tr hFZ9 (by decide)).tr hFZ10 (by decide)).tr hFZ11 (by decide)) (show 0 ≤ a_2u3.toInt ∧ a_2u3.toInt ≤ 4 from by omega) (show 0 ≤ a_4u3.toInt ∧ a_4u3.toInt + a_2u3.toInt ≤ 7745 from by omega) (show 0 ≤ a_7u3.toInt ∧ a_7u3.toInt ≤ 511 from by omega) (show 0 ≤ (Zu3.1 25 0).toInt ∧ (Zu3.1 25 0).toInt ≤ 1548 from by omega) (show 0 ≤ (0 : Int) ∧ (0 : Int) ≤ 5 from by omega) (show (5 - (0 : Int)).toNat < BIG from ltBIG (show _ < 100000 from by omega))
              · skip
                unfold hB_findOrAdd_162
                unfold hB_findOrAdd_167
                have lpu53 : ∀ (n : Nat), ∀ (a_2u53 : Int32) (a_4u53 : Int32) (a_7u53 : Int32) (a_8u53 : Int32) (a_9u53 : Int32) (a_10u53 : Int32) (Zu53 : St), INV Zu53 → Fr YC Qv30 X Zu53 → (0 ≤ a_2u53.toInt ∧ a_2u53.toInt ≤ 4) → (0 ≤ a_4u53.toInt ∧ a_4u53.toInt + a_2u53.toInt ≤ 7745) → (0 ≤ a_7u53.toInt ∧ a_7u53.toInt ≤ 511) → (0 ≤ a_8u53.toInt ∧ a_8u53.toInt ≤ 1548) → (0 ≤ a_10u53.toInt ∧ a_10u53.toInt ≤ 5) → (5 - a_10u53.toInt).toNat < n → ok (hB_findOrAdd_172 n a_2u53 28 a_4u53 a_7u53 a_8u53 a_9u53 a_10u53 Zu53) (fun r Y => (Fr YC Qv30 X Y ∧ INV Y)) := by
                  intro n
                  unfold hB_findOrAdd_172
                  refine lp_indN (P := fun (n : Nat) (r_u53 : Int32 → Nat → Int32 → Int32 → Int32 → Int32 → Int32 → St → Option (Int32 × St)) => ∀ (a_2u53 : Int32) (a_4u53 : Int32) (a_7u53 : Int32) (a_8u53 : Int32) (a_9u53 : Int32) (a_10u53 : Int32) (Zu53 : St), INV Zu53 → Fr YC Qv30 X Zu53 → (0 ≤ a_2u53.toInt ∧ a_2u53.toInt ≤ 4) → (0 ≤ a_4u53.toInt ∧ a_4u53.toInt + a_2u53.toInt ≤ 7745) → (0 ≤ a_7u53.toInt ∧ a_7u53.toInt ≤ 511) → (0 ≤ a_8u53.toInt ∧ a_8u53.toInt ≤ 1548) → (0 ≤ a_10u53.toInt ∧ a_10u53.toInt ≤ 5) → (5 - a_10u53.toInt).toNat < n → ok (r_u53 a_2u53 28 a_4u53 a_7u53 a_8u53 a_9u53 a_10u53 Zu53) (fun r Y => (Fr YC Qv30 X Y ∧ INV Y))) ?_ ?_ n
                  · intro a_2u53 a_4u53 a_7u53 a_8u53 a_9u53 a_10u53 Zu53 hIu53 hFu53 u53_0 u53_1 u53_2 u53_3 u53_4  hm; exact absurd hm (Nat.not_lt_zero _)
                  · intro n r_u53 ih_u53 a_2u53 a_4u53 a_7u53 a_8u53 a_9u53 a_10u53 Zu53 hIu53 hFu53 u53_0 u53_1 u53_2 u53_3 u53_4  hmu53
                    unfold hB_findOrAdd_172_s
                    refine ok.ite (fun c54 => ?_) (fun c54 => ?_)
                    · skip
                      refine ok.ck (show 0 ≤ a_8u53.toInt ∧ a_8u53.toInt < ((1549 : Nat) : Int) from by omega) ?_
                      refine ok.wI (L := [6000]) hIu53 (show True from trivial) (show (6000 : Nat) ∈ [6000] from by decide) (by decide) (fun Z55 hIZ55 hFZ55 hkZ55 hoZ55 => ?_)
                      refine ok.ck (show 0 ≤ a_7u53.toInt ∧ a_7u53.toInt < ((512 : Nat) : Int) from by omega) ?_
                      refine ok.letE (v1 := (Zu53.1 31 (ix a_7u53))) (hFZ55.1 31 (ix a_7u53) (show (6200 : Nat) ∉ [6000] from by decide)) ?_
                      have g56 : -1 ≤ (Zu53.1 31 (ix a_7u53)).toInt ∧ (Zu53.1 31 (ix a_7u53)).toInt ≤ 1548 := hIu53.1 31 (ix a_7u53)
                      refine ok.ck (show 0 ≤ a_8u53.toInt ∧ a_8u53.toInt < ((1549 : Nat) : Int) from by omega) ?_
                      refine ok.wI (L := [6400]) hIZ55 (show -1 ≤ (Zu53.1 31 (ix a_7u53)).toInt ∧ (Zu53.1 31 (ix a_7u53)).toInt ≤ 1548 from by omega) (show (6400 : Nat) ∈ [6400] from by decide) (by decide) (fun Z57 hIZ57 hFZ57 hkZ57 hoZ57 => ?_)
                      refine ok.ck (show 0 ≤ a_7u53.toInt ∧ a_7u53.toInt < ((512 : Nat) : Int) from by omega) ?_
                      refine ok.wI (L := [6200]) hIZ57 (show -1 ≤ a_8u53.toInt ∧ a_8u53.toInt ≤ 1548 from by omega) (show (6200 : Nat) ∈ [6200] from by decide) (by decide) (fun Z58 hIZ58 hFZ58 hkZ58 hoZ58 => ?_)
                      exact ok.ret ⟨((((Fr.rf.tr hFu53 (fun _ q => q)).tr hFZ55 (by decide)).tr hFZ57 (by decide)).tr hFZ58 (by decide)), hIZ58⟩
                    · skip
                      refine ok.mul (show _ ≤ a_8u53.toInt * (5 : Int) ∧ a_8u53.toInt * (5 : Int) ≤ _ from by omega) (fun x19 hx19 => ?_)
                      have hx19 : x19.toInt = a_8u53.toInt * (5 : Int) := hx19
                      refine ok.add (show _ ≤ x19.toInt + a_10u53.toInt ∧ x19.toInt + a_10u53.toInt ≤ _ from by omega) (fun x20 hx20 => ?_)
                      have hx20 : x20.toInt = x19.toInt + a_10u53.toInt := hx20
                      refine ok.add (show _ ≤ a_4u53.toInt + a_10u53.toInt ∧ a_4u53.toInt + a_10u53.toInt ≤ _ from by omega) (fun x21 hx21 => ?_)
                      have hx21 : x21.toInt = a_4u53.toInt + a_10u53.toInt := hx21
                      refine ok.ck (show 0 ≤ x21.toInt ∧ x21.toInt < ((7745 : Nat) : Int) from by omega) ?_
                      refine ok.letE (v1 := (Zu53.1 28 (ix x21))) rfl ?_
                      refine ok.ck (show 0 ≤ x20.toInt ∧ x20.toInt < ((7745 : Nat) : Int) from by omega) ?_
                      refine ok.wI (L := [5600]) hIu53 (show True from trivial) (show (5600 : Nat) ∈ [5600] from by decide) (by decide) (fun Z59 hIZ59 hFZ59 hkZ59 hoZ59 => ?_)
                      refine ok.ite (fun c60 => ?_) (fun c60 => ?_)
                      · skip
                        have g61 := i32_le a_9u53
                        refine ok.add (show _ ≤ a_4u53.toInt + a_10u53.toInt ∧ a_4u53.toInt + a_10u53.toInt ≤ _ from by omega) (fun x25 hx25 => ?_)
                        have hx25 : x25.toInt = a_4u53.toInt + a_10u53.toInt := hx25
                        refine ok.ck (show 0 ≤ x25.toInt ∧ x25.toInt < ((7745 : Nat) : Int) from by omega) ?_
                        refine ok.letE (v1 := (Z59.1 28 (ix x25))) rfl ?_
                        refine ok.bd (v_hB_hasAny hIZ59) ?_
                        rintro x27 _ rfl
                        refine ok.ite (fun c63 => ?_) (fun c63 => ?_)
                        · skip
                          have g64 := i32_le x27
                          unfold hB_findOrAdd_221
                          refine ok.inc (by decide) (show _ ≤ a_10u53.toInt + (1) ∧ a_10u53.toInt + (1) ≤ _ from by omega) (fun x24 hx24 => ?_)
                          have hx24 : x24.toInt = a_10u53.toInt + (1) := hx24
                          exact ih_u53 a_2u53 a_4u53 a_7u53 a_8u53 (0 : Int32) x24 Z59 hIZ59 ((Fr.rf.tr hFu53 (fun _ q => q)).tr hFZ59 (by decide)) (show 0 ≤ a_2u53.toInt ∧ a_2u53.toInt ≤ 4 from by omega) (show 0 ≤ a_4u53.toInt ∧ a_4u53.toInt + a_2u53.toInt ≤ 7745 from by omega) (show 0 ≤ a_7u53.toInt ∧ a_7u53.toInt ≤ 511 from by omega) (show 0 ≤ a_8u53.toInt ∧ a_8u53.toInt ≤ 1548 from by omega) (show 0 ≤ x24.toInt ∧ x24.toInt ≤ 5 from by omega) (show (5 - x24.toInt).toNat < _ from by omega)
                        · skip
                          unfold hB_findOrAdd_216
                          unfold hB_findOrAdd_221
                          refine ok.inc (by decide) (show _ ≤ a_10u53.toInt + (1) ∧ a_10u53.toInt + (1) ≤ _ from by omega) (fun x24 hx24 => ?_)
                          have hx24 : x24.toInt = a_10u53.toInt + (1) := hx24
                          exact ih_u53 a_2u53 a_4u53 a_7u53 a_8u53 (1 : Int32) x24 Z59 hIZ59 ((Fr.rf.tr hFu53 (fun _ q => q)).tr hFZ59 (by decide)) (show 0 ≤ a_2u53.toInt ∧ a_2u53.toInt ≤ 4 from by omega) (show 0 ≤ a_4u53.toInt ∧ a_4u53.toInt + a_2u53.toInt ≤ 7745 from by omega) (show 0 ≤ a_7u53.toInt ∧ a_7u53.toInt ≤ 511 from by omega) (show 0 ≤ a_8u53.toInt ∧ a_8u53.toInt ≤ 1548 from by omega) (show 0 ≤ x24.toInt ∧ x24.toInt ≤ 5 from by omega) (show (5 - x24.toInt).toNat < _ from by omega)
                      · skip
                        unfold hB_findOrAdd_216
                        unfold hB_findOrAdd_221
                        refine ok.inc (by decide) (show _ ≤ a_10u53.toInt + (1) ∧ a_10u53.toInt + (1) ≤ _ from by omega) (fun x24 hx24 => ?_)
                        have hx24 : x24.toInt = a_10u53.toInt + (1) := hx24
                        exact ih_u53 a_2u53 a_4u53 a_7u53 a_8u53 (1 : Int32) x24 Z59 hIZ59 ((Fr.rf.tr hFu53 (fun _ q => q)).tr hFZ59 (by decide)) (show 0 ≤ a_2u53.toInt ∧ a_2u53.toInt ≤ 4 from by omega) (show 0 ≤ a_4u53.toInt ∧ a_4u53.toInt + a_2u53.toInt ≤ 7745 from by omega) (show 0 ≤ a_7u53.toInt ∧ a_7u53.toInt ≤ 511 from by omega) (show 0 ≤ a_8u53.toInt ∧ a_8u53.toInt ≤ 1548 from by omega) (show 0 ≤ x24.toInt ∧ x24.toInt ≤ 5 from by omega) (show (5 - x24.toInt).toNat < _ from by omega)
                exact lpu53 BIG a_2u3 a_4u3 a_7u3 (Zu3.1 25 0) (1 : Int32) (0 : Int32) Z11 hIZ11 ((((((Fr.rf.tr hFu3 (fun _ q => q)).tr hFZ7 (by decide)).tr hFZ8 (by decide)).tr hFZ9 (by decide)).tr hFZ10 (by decide)).tr hFZ11 (by decide)) (show 0 ≤ a_2u3.toInt ∧ a_2u3.toInt ≤ 4 from by omega) (show 0 ≤ a_4u3.toInt ∧ a_4u3.toInt + a_2u3.toInt ≤ 7745 from by omega) (show 0 ≤ a_7u3.toInt ∧ a_7u3.toInt ≤ 511 from by omega) (show 0 ≤ (Zu3.1 25 0).toInt ∧ (Zu3.1 25 0).toInt ≤ 1548 from by omega) (show 0 ≤ (0 : Int) ∧ (0 : Int) ≤ 5 from by omega) (show (5 - (0 : Int)).toNat < BIG from ltBIG (show _ < 100000 from by omega))
        · skip
          exact ok.ret ⟨(Fr.rf.tr hFu3 (fun _ q => q)), hIu3⟩
      · skip
        refine ok.ite (fun c65 => ?_) (fun c65 => ?_)
        · skip
          unfold hB_findOrAdd_77
          refine ok.letE (v1 := (Zu3.1 25 0)) rfl ?_
          have g66 : 0 ≤ (Zu3.1 25 0).toInt ∧ (Zu3.1 25 0).toInt ≤ 1549 := hIu3.1 25 0
          refine ok.ite (fun c67 => ?_) (fun c67 => ?_)
          · skip
            refine ok.letE (v1 := (Zu3.1 25 0)) rfl ?_
            refine ok.letE (v1 := (Zu3.1 25 0)) rfl ?_
            refine ok.add (show _ ≤ (Zu3.1 25 0).toInt + (1 : Int) ∧ (Zu3.1 25 0).toInt + (1 : Int) ≤ _ from by omega) (fun x7 hx7 => ?_)
            have hx7 : x7.toInt = (Zu3.1 25 0).toInt + (1 : Int) := hx7
            refine ok.wI (L := [5000]) hIu3 (show 0 ≤ x7.toInt ∧ x7.toInt ≤ 1549 from by omega) (show (5000 : Nat) ∈ [5000] from by decide) (by decide) (fun Z68 hIZ68 hFZ68 hkZ68 hoZ68 => ?_)
            refine ok.ck (show 0 ≤ (Zu3.1 25 0).toInt ∧ (Zu3.1 25 0).toInt < ((1549 : Nat) : Int) from by omega) ?_
            refine ok.wI (L := [5200]) hIZ68 (show True from trivial) (show (5200 : Nat) ∈ [5200] from by decide) (by decide) (fun Z69 hIZ69 hFZ69 hkZ69 hoZ69 => ?_)
            refine ok.ck (show 0 ≤ (Zu3.1 25 0).toInt ∧ (Zu3.1 25 0).toInt < ((1549 : Nat) : Int) from by omega) ?_
            refine ok.wI (L := [5400]) hIZ69 (show 0 ≤ a_2u3.toInt ∧ a_2u3.toInt ≤ 4 from by omega) (show (5400 : Nat) ∈ [5400] from by decide) (by decide) (fun Z70 hIZ70 hFZ70 hkZ70 hoZ70 => ?_)
            refine ok.ck (show 0 ≤ (Zu3.1 25 0).toInt ∧ (Zu3.1 25 0).toInt < ((1549 : Nat) : Int) from by omega) ?_
            refine ok.wI (L := [5800]) hIZ70 (show True from trivial) (show (5800 : Nat) ∈ [5800] from by decide) (by decide) (fun Z71 hIZ71 hFZ71 hkZ71 hoZ71 => ?_)
            refine ok.mul (show _ ≤ (Zu3.1 25 0).toInt * (5 : Int) ∧ (Zu3.1 25 0).toInt * (5 : Int) ≤ _ from by omega) (fun x12 hx12 => ?_)
            have hx12 : x12.toInt = (Zu3.1 25 0).toInt * (5 : Int) := hx12
            refine ok.add (show _ ≤ x12.toInt + (4 : Int) ∧ x12.toInt + (4 : Int) ≤ _ from by omega) (fun x13 hx13 => ?_)
            have hx13 : x13.toInt = x12.toInt + (4 : Int) := hx13
            refine ok.ck (show 0 ≤ x13.toInt ∧ x13.toInt < ((7745 : Nat) : Int) from by omega) ?_
            refine ok.wI (L := [5600]) hIZ71 (show True from trivial) (show (5600 : Nat) ∈ [5600] from by decide) (by decide) (fun Z72 hIZ72 hFZ72 hkZ72 hoZ72 => ?_)
            refine ok.ite (fun c73 => ?_) (fun c73 => ?_)
            · skip
              unfold hB_findOrAdd_162
              unfold hB_findOrAdd_167
              have lpu74 : ∀ (n : Nat), ∀ (a_2u74 : Int32) (a_4u74 : Int32) (a_7u74 : Int32) (a_8u74 : Int32) (a_9u74 : Int32) (a_10u74 : Int32) (Zu74 : St), INV Zu74 → Fr YC Qv30 X Zu74 → (0 ≤ a_2u74.toInt ∧ a_2u74.toInt ≤ 4) → (0 ≤ a_4u74.toInt ∧ a_4u74.toInt + a_2u74.toInt ≤ 7745) → (0 ≤ a_7u74.toInt ∧ a_7u74.toInt ≤ 511) → (0 ≤ a_8u74.toInt ∧ a_8u74.toInt ≤ 1548) → (0 ≤ a_10u74.toInt ∧ a_10u74.toInt ≤ 5) → (5 - a_10u74.toInt).toNat < n → ok (hB_findOrAdd_172 n a_2u74 28 a_4u74 a_7u74 a_8u74 a_9u74 a_10u74 Zu74) (fun r Y => (Fr YC Qv30 X Y ∧ INV Y)) := by
                intro n
                unfold hB_findOrAdd_172
                refine lp_indN (P := fun (n : Nat) (r_u74 : Int32 → Nat → Int32 → Int32 → Int32 → Int32 → Int32 → St → Option (Int32 × St)) => ∀ (a_2u74 : Int32) (a_4u74 : Int32) (a_7u74 : Int32) (a_8u74 : Int32) (a_9u74 : Int32) (a_10u74 : Int32) (Zu74 : St), INV Zu74 → Fr YC Qv30 X Zu74 → (0 ≤ a_2u74.toInt ∧ a_2u74.toInt ≤ 4) → (0 ≤ a_4u74.toInt ∧ a_4u74.toInt + a_2u74.toInt ≤ 7745) → (0 ≤ a_7u74.toInt ∧ a_7u74.toInt ≤ 511) → (0 ≤ a_8u74.toInt ∧ a_8u74.toInt ≤ 1548) → (0 ≤ a_10u74.toInt ∧ a_10u74.toInt ≤ 5) → (5 - a_10u74.toInt).toNat < n → ok (r_u74 a_2u74 28 a_4u74 a_7u74 a_8u74 a_9u74 a_10u74 Zu74) (fun r Y => (Fr YC Qv30 X Y ∧ INV Y))) ?_ ?_ n
                · intro a_2u74 a_4u74 a_7u74 a_8u74 a_9u74 a_10u74 Zu74 hIu74 hFu74 u74_0 u74_1 u74_2 u74_3 u74_4  hm; exact absurd hm (Nat.not_lt_zero _)
                · intro n r_u74 ih_u74 a_2u74 a_4u74 a_7u74 a_8u74 a_9u74 a_10u74 Zu74 hIu74 hFu74 u74_0 u74_1 u74_2 u74_3 u74_4  hmu74
                  unfold hB_findOrAdd_172_s
                  refine ok.ite (fun c75 => ?_) (fun c75 => ?_)
                  · skip
                    refine ok.ck (show 0 ≤ a_8u74.toInt ∧ a_8u74.toInt < ((1549 : Nat) : Int) from by omega) ?_
                    refine ok.wI (L := [6000]) hIu74 (show True from trivial) (show (6000 : Nat) ∈ [6000] from by decide) (by decide) (fun Z76 hIZ76 hFZ76 hkZ76 hoZ76 => ?_)
                    refine ok.ck (show 0 ≤ a_7u74.toInt ∧ a_7u74.toInt < ((512 : Nat) : Int) from by omega) ?_
                    refine ok.letE (v1 := (Zu74.1 31 (ix a_7u74))) (hFZ76.1 31 (ix a_7u74) (show (6200 : Nat) ∉ [6000] from by decide)) ?_
                    have g77 : -1 ≤ (Zu74.1 31 (ix a_7u74)).toInt ∧ (Zu74.1 31 (ix a_7u74)).toInt ≤ 1548 := hIu74.1 31 (ix a_7u74)
                    refine ok.ck (show 0 ≤ a_8u74.toInt ∧ a_8u74.toInt < ((1549 : Nat) : Int) from by omega) ?_
                    refine ok.wI (L := [6400]) hIZ76 (show -1 ≤ (Zu74.1 31 (ix a_7u74)).toInt ∧ (Zu74.1 31 (ix a_7u74)).toInt ≤ 1548 from by omega) (show (6400 : Nat) ∈ [6400] from by decide) (by decide) (fun Z78 hIZ78 hFZ78 hkZ78 hoZ78 => ?_)
                    refine ok.ck (show 0 ≤ a_7u74.toInt ∧ a_7u74.toInt < ((512 : Nat) : Int) from by omega) ?_
                    refine ok.wI (L := [6200]) hIZ78 (show -1 ≤ a_8u74.toInt ∧ a_8u74.toInt ≤ 1548 from by omega) (show (6200 : Nat) ∈ [6200] from by decide) (by decide) (fun Z79 hIZ79 hFZ79 hkZ79 hoZ79 => ?_)
                    exact ok.ret ⟨((((Fr.rf.tr hFu74 (fun _ q => q)).tr hFZ76 (by decide)).tr hFZ78 (by decide)).tr hFZ79 (by decide)), hIZ79⟩
                  · skip
                    refine ok.mul (show _ ≤ a_8u74.toInt * (5 : Int) ∧ a_8u74.toInt * (5 : Int) ≤ _ from by omega) (fun x19 hx19 => ?_)
                    have hx19 : x19.toInt = a_8u74.toInt * (5 : Int) := hx19
                    refine ok.add (show _ ≤ x19.toInt + a_10u74.toInt ∧ x19.toInt + a_10u74.toInt ≤ _ from by omega) (fun x20 hx20 => ?_)
                    have hx20 : x20.toInt = x19.toInt + a_10u74.toInt := hx20
                    refine ok.add (show _ ≤ a_4u74.toInt + a_10u74.toInt ∧ a_4u74.toInt + a_10u74.toInt ≤ _ from by omega) (fun x21 hx21 => ?_)
                    have hx21 : x21.toInt = a_4u74.toInt + a_10u74.toInt := hx21
                    refine ok.ck (show 0 ≤ x21.toInt ∧ x21.toInt < ((7745 : Nat) : Int) from by omega) ?_
                    refine ok.letE (v1 := (Zu74.1 28 (ix x21))) rfl ?_
                    refine ok.ck (show 0 ≤ x20.toInt ∧ x20.toInt < ((7745 : Nat) : Int) from by omega) ?_
                    refine ok.wI (L := [5600]) hIu74 (show True from trivial) (show (5600 : Nat) ∈ [5600] from by decide) (by decide) (fun Z80 hIZ80 hFZ80 hkZ80 hoZ80 => ?_)
                    refine ok.ite (fun c81 => ?_) (fun c81 => ?_)
                    · skip
                      have g82 := i32_le a_9u74
                      refine ok.add (show _ ≤ a_4u74.toInt + a_10u74.toInt ∧ a_4u74.toInt + a_10u74.toInt ≤ _ from by omega) (fun x25 hx25 => ?_)
                      have hx25 : x25.toInt = a_4u74.toInt + a_10u74.toInt := hx25
                      refine ok.ck (show 0 ≤ x25.toInt ∧ x25.toInt < ((7745 : Nat) : Int) from by omega) ?_
                      refine ok.letE (v1 := (Z80.1 28 (ix x25))) rfl ?_
                      refine ok.bd (v_hB_hasAny hIZ80) ?_
                      rintro x27 _ rfl
                      refine ok.ite (fun c84 => ?_) (fun c84 => ?_)
                      · skip
                        have g85 := i32_le x27
                        unfold hB_findOrAdd_221
                        refine ok.inc (by decide) (show _ ≤ a_10u74.toInt + (1) ∧ a_10u74.toInt + (1) ≤ _ from by omega) (fun x24 hx24 => ?_)
                        have hx24 : x24.toInt = a_10u74.toInt + (1) := hx24
                        exact ih_u74 a_2u74 a_4u74 a_7u74 a_8u74 (0 : Int32) x24 Z80 hIZ80 ((Fr.rf.tr hFu74 (fun _ q => q)).tr hFZ80 (by decide)) (show 0 ≤ a_2u74.toInt ∧ a_2u74.toInt ≤ 4 from by omega) (show 0 ≤ a_4u74.toInt ∧ a_4u74.toInt + a_2u74.toInt ≤ 7745 from by omega) (show 0 ≤ a_7u74.toInt ∧ a_7u74.toInt ≤ 511 from by omega) (show 0 ≤ a_8u74.toInt ∧ a_8u74.toInt ≤ 1548 from by omega) (show 0 ≤ x24.toInt ∧ x24.toInt ≤ 5 from by omega) (show (5 - x24.toInt).toNat < _ from by omega)
                      · skip
                        unfold hB_findOrAdd_216
                        unfold hB_findOrAdd_221
                        refine ok.inc (by decide) (show _ ≤ a_10u74.toInt + (1) ∧ a_10u74.toInt + (1) ≤ _ from by omega) (fun x24 hx24 => ?_)
                        have hx24 : x24.toInt = a_10u74.toInt + (1) := hx24
                        exact ih_u74 a_2u74 a_4u74 a_7u74 a_8u74 (1 : Int32) x24 Z80 hIZ80 ((Fr.rf.tr hFu74 (fun _ q => q)).tr hFZ80 (by decide)) (show 0 ≤ a_2u74.toInt ∧ a_2u74.toInt ≤ 4 from by omega) (show 0 ≤ a_4u74.toInt ∧ a_4u74.toInt + a_2u74.toInt ≤ 7745 from by omega) (show 0 ≤ a_7u74.toInt ∧ a_7u74.toInt ≤ 511 from by omega) (show 0 ≤ a_8u74.toInt ∧ a_8u74.toInt ≤ 1548 from by omega) (show 0 ≤ x24.toInt ∧ x24.toInt ≤ 5 from by omega) (show (5 - x24.toInt).toNat < _ from by omega)
                    · skip
                      unfold hB_findOrAdd_216
                      unfold hB_findOrAdd_221
                      refine ok.inc (by decide) (show _ ≤ a_10u74.toInt + (1) ∧ a_10u74.toInt + (1) ≤ _ from by omega) (fun x24 hx24 => ?_)
                      have hx24 : x24.toInt = a_10u74.toInt + (1) := hx24
                      exact ih_u74 a_2u74 a_4u74 a_7u74 a_8u74 (1 : Int32) x24 Z80 hIZ80 ((Fr.rf.tr hFu74 (fun _ q => q)).tr hFZ80 (by decide)) (show 0 ≤ a_2u74.toInt ∧ a_2u74.toInt ≤ 4 from by omega) (show 0 ≤ a_4u74.toInt ∧ a_4u74.toInt + a_2u74.toInt ≤ 7745 from by omega) (show 0 ≤ a_7u74.toInt ∧ a_7u74.toInt ≤ 511 from by omega) (show 0 ≤ a_8u74.toInt ∧ a_8u74.toInt ≤ 1548 from by omega) (show 0 ≤ x24.toInt ∧ x24.toInt ≤ 5 from by omega) (show (5 - x24.toInt).toNat < _ from by omega)
              exact lpu74 BIG a_2u3 a_4u3 a_7u3 (Zu3.1 25 0) (1 : Int32) (0 : Int32) Z72 hIZ72 ((((((Fr.rf.tr hFu3 (fun _ q => q)).tr hFZ68 (by decide)).tr hFZ69 (by decide)).tr hFZ70 (by decide)).tr hFZ71 (by decide)).tr hFZ72 (by decide)) (show 0 ≤ a_2u3.toInt ∧ a_2u3.toInt ≤ 4 from by omega) (show 0 ≤ a_4u3.toInt ∧ a_4u3.toInt + a_2u3.toInt ≤ 7745 from by omega) (show 0 ≤ a_7u3.toInt ∧ a_7u3.toInt ≤ 511 from by omega) (show 0 ≤ (Zu3.1 25 0).toInt ∧ (Zu3.1 25 0).toInt ≤ 1548 from by omega) (show 0 ≤ (0 : Int) ∧ (0 : Int) ≤ 5 from by omega) (show (5 - (0 : Int)).toNat < BIG from ltBIG (show _ < 100000 from by omega))
            · skip
              refine ok.ite (fun c86 => ?_) (fun c86 => ?_)
              · skip
                unfold hB_findOrAdd_166
                unfold hB_findOrAdd_167
                have lpu87 : ∀ (n : Nat), ∀ (a_2u87 : Int32) (a_4u87 : Int32) (a_7u87 : Int32) (a_8u87 : Int32) (a_9u87 : Int32) (a_10u87 : Int32) (Zu87 : St), INV Zu87 → Fr YC Qv30 X Zu87 → (0 ≤ a_2u87.toInt ∧ a_2u87.toInt ≤ 4) → (0 ≤ a_4u87.toInt ∧ a_4u87.toInt + a_2u87.toInt ≤ 7745) → (0 ≤ a_7u87.toInt ∧ a_7u87.toInt ≤ 511) → (0 ≤ a_8u87.toInt ∧ a_8u87.toInt ≤ 1548) → (0 ≤ a_10u87.toInt ∧ a_10u87.toInt ≤ 5) → (5 - a_10u87.toInt).toNat < n → ok (hB_findOrAdd_172 n a_2u87 28 a_4u87 a_7u87 a_8u87 a_9u87 a_10u87 Zu87) (fun r Y => (Fr YC Qv30 X Y ∧ INV Y)) := by
                  intro n
                  unfold hB_findOrAdd_172
                  refine lp_indN (P := fun (n : Nat) (r_u87 : Int32 → Nat → Int32 → Int32 → Int32 → Int32 → Int32 → St → Option (Int32 × St)) => ∀ (a_2u87 : Int32) (a_4u87 : Int32) (a_7u87 : Int32) (a_8u87 : Int32) (a_9u87 : Int32) (a_10u87 : Int32) (Zu87 : St), INV Zu87 → Fr YC Qv30 X Zu87 → (0 ≤ a_2u87.toInt ∧ a_2u87.toInt ≤ 4) → (0 ≤ a_4u87.toInt ∧ a_4u87.toInt + a_2u87.toInt ≤ 7745) → (0 ≤ a_7u87.toInt ∧ a_7u87.toInt ≤ 511) → (0 ≤ a_8u87.toInt ∧ a_8u87.toInt ≤ 1548) → (0 ≤ a_10u87.toInt ∧ a_10u87.toInt ≤ 5) → (5 - a_10u87.toInt).toNat < n → ok (r_u87 a_2u87 28 a_4u87 a_7u87 a_8u87 a_9u87 a_10u87 Zu87) (fun r Y => (Fr YC Qv30 X Y ∧ INV Y))) ?_ ?_ n
                  · intro a_2u87 a_4u87 a_7u87 a_8u87 a_9u87 a_10u87 Zu87 hIu87 hFu87 u87_0 u87_1 u87_2 u87_3 u87_4  hm; exact absurd hm (Nat.not_lt_zero _)
                  · intro n r_u87 ih_u87 a_2u87 a_4u87 a_7u87 a_8u87 a_9u87 a_10u87 Zu87 hIu87 hFu87 u87_0 u87_1 u87_2 u87_3 u87_4  hmu87
                    unfold hB_findOrAdd_172_s
                    refine ok.ite (fun c88 => ?_) (fun c88 => ?_)
                    · skip
                      refine ok.ck (show 0 ≤ a_8u87.toInt ∧ a_8u87.toInt < ((1549 : Nat) : Int) from by omega) ?_
                      refine ok.wI (L := [6000]) hIu87 (show True from trivial) (show (6000 : Nat) ∈ [6000] from by decide) (by decide) (fun Z89 hIZ89 hFZ89 hkZ89 hoZ89 => ?_)
                      refine ok.ck (show 0 ≤ a_7u87.toInt ∧ a_7u87.toInt < ((512 : Nat) : Int) from by omega) ?_
                      refine ok.letE (v1 := (Zu87.1 31 (ix a_7u87))) (hFZ89.1 31 (ix a_7u87) (show (6200 : Nat) ∉ [6000] from by decide)) ?_
                      have g90 : -1 ≤ (Zu87.1 31 (ix a_7u87)).toInt ∧ (Zu87.1 31 (ix a_7u87)).toInt ≤ 1548 := hIu87.1 31 (ix a_7u87)
                      refine ok.ck (show 0 ≤ a_8u87.toInt ∧ a_8u87.toInt < ((1549 : Nat) : Int) from by omega) ?_
                      refine ok.wI (L := [6400]) hIZ89 (show -1 ≤ (Zu87.1 31 (ix a_7u87)).toInt ∧ (Zu87.1 31 (ix a_7u87)).toInt ≤ 1548 from by omega) (show (6400 : Nat) ∈ [6400] from by decide) (by decide) (fun Z91 hIZ91 hFZ91 hkZ91 hoZ91 => ?_)
                      refine ok.ck (show 0 ≤ a_7u87.toInt ∧ a_7u87.toInt < ((512 : Nat) : Int) from by omega) ?_
                      refine ok.wI (L := [6200]) hIZ91 (show -1 ≤ a_8u87.toInt ∧ a_8u87.toInt ≤ 1548 from by omega) (show (6200 : Nat) ∈ [6200] from by decide) (by decide) (fun Z92 hIZ92 hFZ92 hkZ92 hoZ92 => ?_)
                      exact ok.ret ⟨((((Fr.rf.tr hFu87 (fun _ q => q)).tr hFZ89 (by decide)).tr hFZ91 (by decide)).tr hFZ92 (by decide)), hIZ92⟩
                    · skip
                      refine ok.mul (show _ ≤ a_8u87.toInt * (5 : Int) ∧ a_8u87.toInt * (5 : Int) ≤ _ from by omega) (fun x19 hx19 => ?_)
                      have hx19 : x19.toInt = a_8u87.toInt * (5 : Int) := hx19
                      refine ok.add (show _ ≤ x19.toInt + a_10u87.toInt ∧ x19.toInt + a_10u87.toInt ≤ _ from by omega) (fun x20 hx20 => ?_)
                      have hx20 : x20.toInt = x19.toInt + a_10u87.toInt := hx20
                      refine ok.add (show _ ≤ a_4u87.toInt + a_10u87.toInt ∧ a_4u87.toInt + a_10u87.toInt ≤ _ from by omega) (fun x21 hx21 => ?_)
                      have hx21 : x21.toInt = a_4u87.toInt + a_10u87.toInt := hx21
                      refine ok.ck (show 0 ≤ x21.toInt ∧ x21.toInt < ((7745 : Nat) : Int) from by omega) ?_
                      refine ok.letE (v1 := (Zu87.1 28 (ix x21))) rfl ?_
                      refine ok.ck (show 0 ≤ x20.toInt ∧ x20.toInt < ((7745 : Nat) : Int) from by omega) ?_
                      refine ok.wI (L := [5600]) hIu87 (show True from trivial) (show (5600 : Nat) ∈ [5600] from by decide) (by decide) (fun Z93 hIZ93 hFZ93 hkZ93 hoZ93 => ?_)
                      refine ok.ite (fun c94 => ?_) (fun c94 => ?_)
                      · skip
                        have g95 := i32_le a_9u87
                        refine ok.add (show _ ≤ a_4u87.toInt + a_10u87.toInt ∧ a_4u87.toInt + a_10u87.toInt ≤ _ from by omega) (fun x25 hx25 => ?_)
                        have hx25 : x25.toInt = a_4u87.toInt + a_10u87.toInt := hx25
                        refine ok.ck (show 0 ≤ x25.toInt ∧ x25.toInt < ((7745 : Nat) : Int) from by omega) ?_
                        refine ok.letE (v1 := (Z93.1 28 (ix x25))) rfl ?_
                        refine ok.bd (v_hB_hasAny hIZ93) ?_
                        rintro x27 _ rfl
                        refine ok.ite (fun c97 => ?_) (fun c97 => ?_)
                        · skip
                          have g98 := i32_le x27
                          unfold hB_findOrAdd_221
                          refine ok.inc (by decide) (show _ ≤ a_10u87.toInt + (1) ∧ a_10u87.toInt + (1) ≤ _ from by omega) (fun x24 hx24 => ?_)
                          have hx24 : x24.toInt = a_10u87.toInt + (1) := hx24
                          exact ih_u87 a_2u87 a_4u87 a_7u87 a_8u87 (0 : Int32) x24 Z93 hIZ93 ((Fr.rf.tr hFu87 (fun _ q => q)).tr hFZ93 (by decide)) (show 0 ≤ a_2u87.toInt ∧ a_2u87.toInt ≤ 4 from by omega) (show 0 ≤ a_4u87.toInt ∧ a_4u87.toInt + a_2u87.toInt ≤ 7745 from by omega) (show 0 ≤ a_7u87.toInt ∧ a_7u87.toInt ≤ 511 from by omega) (show 0 ≤ a_8u87.toInt ∧ a_8u87.toInt ≤ 1548 from by omega) (show 0 ≤ x24.toInt ∧ x24.toInt ≤ 5 from by omega) (show (5 - x24.toInt).toNat < _ from by omega)
                        · skip
                          unfold hB_findOrAdd_216
                          unfold hB_findOrAdd_221
                          refine ok.inc (by decide) (show _ ≤ a_10u87.toInt + (1) ∧ a_10u87.toInt + (1) ≤ _ from by omega) (fun x24 hx24 => ?_)
                          have hx24 : x24.toInt = a_10u87.toInt + (1) := hx24
                          exact ih_u87 a_2u87 a_4u87 a_7u87 a_8u87 (1 : Int32) x24 Z93 hIZ93 ((Fr.rf.tr hFu87 (fun _ q => q)).tr hFZ93 (by decide)) (show 0 ≤ a_2u87.toInt ∧ a_2u87.toInt ≤ 4 from by omega) (show 0 ≤ a_4u87.toInt ∧ a_4u87.toInt + a_2u87.toInt ≤ 7745 from by omega) (show 0 ≤ a_7u87.toInt ∧ a_7u87.toInt ≤ 511 from by omega) (show 0 ≤ a_8u87.toInt ∧ a_8u87.toInt ≤ 1548 from by omega) (show 0 ≤ x24.toInt ∧ x24.toInt ≤ 5 from by omega) (show (5 - x24.toInt).toNat < _ from by omega)
                      · skip
                        unfold hB_findOrAdd_216
                        unfold hB_findOrAdd_221
                        refine ok.inc (by decide) (show _ ≤ a_10u87.toInt + (1) ∧ a_10u87.toInt + (1) ≤ _ from by omega) (fun x24 hx24 => ?_)
                        have hx24 : x24.toInt = a_10u87.toInt + (1) := hx24
                        exact ih_u87 a_2u87 a_4u87 a_7u87 a_8u87 (1 : Int32) x24 Z93 hIZ93 ((Fr.rf.tr hFu87 (fun _ q => q)).tr hFZ93 (by decide)) (show 0 ≤ a_2u87.toInt ∧ a_2u87.toInt ≤ 4 from by omega) (show 0 ≤ a_4u87.toInt ∧ a_4u87.toInt + a_2u87.toInt ≤ 7745 from by omega) (show 0 ≤ a_7u87.toInt ∧ a_7u87.toInt ≤ 511 from by omega) (show 0 ≤ a_8u87.toInt ∧ a_8u87.toInt ≤ 1548 from by omega) (show 0 ≤ x24.toInt ∧ x24.toInt ≤ 5 from by omega) (show (5 - x24.toInt).toNat < _ from by omega)
                exact lpu87 BIG a_2u3 a_4u3 a_7u3 (Zu3.1 25 0) (0 : Int32) (0 : Int32) Z72 hIZ72 ((((((Fr.rf.tr hFu3 (fun _ q => q)).tr hFZ68 (by decide)).tr hFZ69 (by decide)).tr hFZ70 (by decide)).tr hFZ71 (by decide)).tr hFZ72 (by decide)) (show 0 ≤ a_2u3.toInt ∧ a_2u3.toInt ≤ 4 from by omega) (show 0 ≤ a_4u3.toInt ∧ a_4u3.toInt + a_2u3.toInt ≤ 7745 from by omega) (show 0 ≤ a_7u3.toInt ∧ a_7u3.toInt ≤ 511 from by omega) (show 0 ≤ (Zu3.1 25 0).toInt ∧ (Zu3.1 25 0).toInt ≤ 1548 from by omega) (show 0 ≤ (0 : Int) ∧ (0 : Int) ≤ 5 from by omega) (show (5 - (0 : Int)).toNat < BIG from ltBIG (show _ < 100000 from by omega))
              · skip
                refine ok.bd (v_hB_hasAny hIZ72) ?_
                rintro x29 _ rfl
                refine ok.ite (fun c100 => ?_) (fun c100 => ?_)
                · skip
                  have g101 := i32_le x29
                  unfold hB_findOrAdd_166
                  unfold hB_findOrAdd_167
                  have lpu102 : ∀ (n : Nat), ∀ (a_2u102 : Int32) (a_4u102 : Int32) (a_7u102 : Int32) (a_8u102 : Int32) (a_9u102 : Int32) (a_10u102 : Int32) (Zu102 : St), INV Zu102 → Fr YC Qv30 X Zu102 → (0 ≤ a_2u102.toInt ∧ a_2u102.toInt ≤ 4) → (0 ≤ a_4u102.toInt ∧ a_4u102.toInt + a_2u102.toInt ≤ 7745) → (0 ≤ a_7u102.toInt ∧ a_7u102.toInt ≤ 511) → (0 ≤ a_8u102.toInt ∧ a_8u102.toInt ≤ 1548) → (0 ≤ a_10u102.toInt ∧ a_10u102.toInt ≤ 5) → (5 - a_10u102.toInt).toNat < n → ok (hB_findOrAdd_172 n a_2u102 28 a_4u102 a_7u102 a_8u102 a_9u102 a_10u102 Zu102) (fun r Y => (Fr YC Qv30 X Y ∧ INV Y)) := by
                    intro n
                    unfold hB_findOrAdd_172
                    refine lp_indN (P := fun (n : Nat) (r_u102 : Int32 → Nat → Int32 → Int32 → Int32 → Int32 → Int32 → St → Option (Int32 × St)) => ∀ (a_2u102 : Int32) (a_4u102 : Int32) (a_7u102 : Int32) (a_8u102 : Int32) (a_9u102 : Int32) (a_10u102 : Int32) (Zu102 : St), INV Zu102 → Fr YC Qv30 X Zu102 → (0 ≤ a_2u102.toInt ∧ a_2u102.toInt ≤ 4) → (0 ≤ a_4u102.toInt ∧ a_4u102.toInt + a_2u102.toInt ≤ 7745) → (0 ≤ a_7u102.toInt ∧ a_7u102.toInt ≤ 511) → (0 ≤ a_8u102.toInt ∧ a_8u102.toInt ≤ 1548) → (0 ≤ a_10u102.toInt ∧ a_10u102.toInt ≤ 5) → (5 - a_10u102.toInt).toNat < n → ok (r_u102 a_2u102 28 a_4u102 a_7u102 a_8u102 a_9u102 a_10u102 Zu102) (fun r Y => (Fr YC Qv30 X Y ∧ INV Y))) ?_ ?_ n
                    · intro a_2u102 a_4u102 a_7u102 a_8u102 a_9u102 a_10u102 Zu102 hIu102 hFu102 u102_0 u102_1 u102_2 u102_3 u102_4  hm; exact absurd hm (Nat.not_lt_zero _)
                    · intro n r_u102 ih_u102 a_2u102 a_4u102 a_7u102 a_8u102 a_9u102 a_10u102 Zu102 hIu102 hFu102 u102_0 u102_1 u102_2 u102_3 u102_4  hmu102
                      unfold hB_findOrAdd_172_s
                      refine ok.ite (fun c103 => ?_) (fun c103 => ?_)
                      · skip
                        refine ok.ck (show 0 ≤ a_8u102.toInt ∧ a_8u102.toInt < ((1549 : Nat) : Int) from by omega) ?_
                        refine ok.wI (L := [6000]) hIu102 (show True from trivial) (show (6000 : Nat) ∈ [6000] from by decide) (by decide) (fun Z104 hIZ104 hFZ104 hkZ104 hoZ104 => ?_)
                        refine ok.ck (show 0 ≤ a_7u102.toInt ∧ a_7u102.toInt < ((512 : Nat) : Int) from by omega) ?_
                        refine ok.letE (v1 := (Zu102.1 31 (ix a_7u102))) (hFZ104.1 31 (ix a_7u102) (show (6200 : Nat) ∉ [6000] from by decide)) ?_
                        have g105 : -1 ≤ (Zu102.1 31 (ix a_7u102)).toInt ∧ (Zu102.1 31 (ix a_7u102)).toInt ≤ 1548 := hIu102.1 31 (ix a_7u102)
                        refine ok.ck (show 0 ≤ a_8u102.toInt ∧ a_8u102.toInt < ((1549 : Nat) : Int) from by omega) ?_
                        refine ok.wI (L := [6400]) hIZ104 (show -1 ≤ (Zu102.1 31 (ix a_7u102)).toInt ∧ (Zu102.1 31 (ix a_7u102)).toInt ≤ 1548 from by omega) (show (6400 : Nat) ∈ [6400] from by decide) (by decide) (fun Z106 hIZ106 hFZ106 hkZ106 hoZ106 => ?_)
                        refine ok.ck (show 0 ≤ a_7u102.toInt ∧ a_7u102.toInt < ((512 : Nat) : Int) from by omega) ?_
                        refine ok.wI (L := [6200]) hIZ106 (show -1 ≤ a_8u102.toInt ∧ a_8u102.toInt ≤ 1548 from by omega) (show (6200 : Nat) ∈ [6200] from by decide) (by decide) (fun Z107 hIZ107 hFZ107 hkZ107 hoZ107 => ?_)
                        exact ok.ret ⟨((((Fr.rf.tr hFu102 (fun _ q => q)).tr hFZ104 (by decide)).tr hFZ106 (by decide)).tr hFZ107 (by decide)), hIZ107⟩
                      · skip
                        refine ok.mul (show _ ≤ a_8u102.toInt * (5 : Int) ∧ a_8u102.toInt * (5 : Int) ≤ _ from by omega) (fun x19 hx19 => ?_)
                        have hx19 : x19.toInt = a_8u102.toInt * (5 : Int) := hx19
                        refine ok.add (show _ ≤ x19.toInt + a_10u102.toInt ∧ x19.toInt + a_10u102.toInt ≤ _ from by omega) (fun x20 hx20 => ?_)
                        have hx20 : x20.toInt = x19.toInt + a_10u102.toInt := hx20
                        refine ok.add (show _ ≤ a_4u102.toInt + a_10u102.toInt ∧ a_4u102.toInt + a_10u102.toInt ≤ _ from by omega) (fun x21 hx21 => ?_)
                        have hx21 : x21.toInt = a_4u102.toInt + a_10u102.toInt := hx21
                        refine ok.ck (show 0 ≤ x21.toInt ∧ x21.toInt < ((7745 : Nat) : Int) from by omega) ?_
                        refine ok.letE (v1 := (Zu102.1 28 (ix x21))) rfl ?_
                        refine ok.ck (show 0 ≤ x20.toInt ∧ x20.toInt < ((7745 : Nat) : Int) from by omega) ?_
                        refine ok.wI (L := [5600]) hIu102 (show True from trivial) (show (5600 : Nat) ∈ [5600] from by decide) (by decide) (fun Z108 hIZ108 hFZ108 hkZ108 hoZ108 => ?_)
                        refine ok.ite (fun c109 => ?_) (fun c109 => ?_)
                        · skip
                          have g110 := i32_le a_9u102
                          refine ok.add (show _ ≤ a_4u102.toInt + a_10u102.toInt ∧ a_4u102.toInt + a_10u102.toInt ≤ _ from by omega) (fun x25 hx25 => ?_)
                          have hx25 : x25.toInt = a_4u102.toInt + a_10u102.toInt := hx25
                          refine ok.ck (show 0 ≤ x25.toInt ∧ x25.toInt < ((7745 : Nat) : Int) from by omega) ?_
                          refine ok.letE (v1 := (Z108.1 28 (ix x25))) rfl ?_
                          refine ok.bd (v_hB_hasAny hIZ108) ?_
                          rintro x27 _ rfl
                          refine ok.ite (fun c112 => ?_) (fun c112 => ?_)
                          · skip
                            have g113 := i32_le x27
                            unfold hB_findOrAdd_221
                            refine ok.inc (by decide) (show _ ≤ a_10u102.toInt + (1) ∧ a_10u102.toInt + (1) ≤ _ from by omega) (fun x24 hx24 => ?_)
                            have hx24 : x24.toInt = a_10u102.toInt + (1) := hx24
                            exact ih_u102 a_2u102 a_4u102 a_7u102 a_8u102 (0 : Int32) x24 Z108 hIZ108 ((Fr.rf.tr hFu102 (fun _ q => q)).tr hFZ108 (by decide)) (show 0 ≤ a_2u102.toInt ∧ a_2u102.toInt ≤ 4 from by omega) (show 0 ≤ a_4u102.toInt ∧ a_4u102.toInt + a_2u102.toInt ≤ 7745 from by omega) (show 0 ≤ a_7u102.toInt ∧ a_7u102.toInt ≤ 511 from by omega) (show 0 ≤ a_8u102.toInt ∧ a_8u102.toInt ≤ 1548 from by omega) (show 0 ≤ x24.toInt ∧ x24.toInt ≤ 5 from by omega) (show (5 - x24.toInt).toNat < _ from by omega)
                          · skip
                            unfold hB_findOrAdd_216
                            unfold hB_findOrAdd_221
                            refine ok.inc (by decide) (show _ ≤ a_10u102.toInt + (1) ∧ a_10u102.toInt + (1) ≤ _ from by omega) (fun x24 hx24 => ?_)
                            have hx24 : x24.toInt = a_10u102.toInt + (1) := hx24
                            exact ih_u102 a_2u102 a_4u102 a_7u102 a_8u102 (1 : Int32) x24 Z108 hIZ108 ((Fr.rf.tr hFu102 (fun _ q => q)).tr hFZ108 (by decide)) (show 0 ≤ a_2u102.toInt ∧ a_2u102.toInt ≤ 4 from by omega) (show 0 ≤ a_4u102.toInt ∧ a_4u102.toInt + a_2u102.toInt ≤ 7745 from by omega) (show 0 ≤ a_7u102.toInt ∧ a_7u102.toInt ≤ 511 from by omega) (show 0 ≤ a_8u102.toInt ∧ a_8u102.toInt ≤ 1548 from by omega) (show 0 ≤ x24.toInt ∧ x24.toInt ≤ 5 from by omega) (show (5 - x24.toInt).toNat < _ from by omega)
                        · skip
                          unfold hB_findOrAdd_216
                          unfold hB_findOrAdd_221
                          refine ok.inc (by decide) (show _ ≤ a_10u102.toInt + (1) ∧ a_10u102.toInt + (1) ≤ _ from by omega) (fun x24 hx24 => ?_)
                          have hx24 : x24.toInt = a_10u102.toInt + (1) := hx24
                          exact ih_u102 a_2u102 a_4u102 a_7u102 a_8u102 (1 : Int32) x24 Z108 hIZ108 ((Fr.rf.tr hFu102 (fun _ q => q)).tr hFZ108 (by decide)) (show 0 ≤ a_2u102.toInt ∧ a_2u102.toInt ≤ 4 from by omega) (show 0 ≤ a_4u102.toInt ∧ a_4u102.toInt + a_2u102.toInt ≤ 7745 from by omega) (show 0 ≤ a_7u102.toInt ∧ a_7u102.toInt ≤ 511 from by omega) (show 0 ≤ a_8u102.toInt ∧ a_8u102.toInt ≤ 1548 from by omega) (show 0 ≤ x24.toInt ∧ x24.toInt ≤ 5 from by omega) (show (5 - x24.toInt).toNat < _ from by omega)
                  exact lpu102 BIG a_2u3 a_4u3 a_7u3 (Zu3.1 25 0) (0 : Int32) (0 : Int32) Z72 hIZ72 ((((((Fr.rf.tr hFu3 (fun _ q => q)).tr hFZ68 (by decide)).tr hFZ69 (by decide)).tr hFZ70 (by decide)).tr hFZ71 (by decide)).tr hFZ72 (by decide)) (show 0 ≤ a_2u3.toInt ∧ a_2u3.toInt ≤ 4 from by omega) (show 0 ≤ a_4u3.toInt ∧ a_4u3.toInt + a_2u3.toInt ≤ 7745 from by omega) (show 0 ≤ a_7u3.toInt ∧ a_7u3.toInt ≤ 511 from by omega) (show 0 ≤ (Zu3.1 25 0).toInt ∧ (Zu3.1 25 0).toInt ≤ 1548 from by omega) (show 0 ≤ (0 : Int) ∧ (0 : Int) ≤ 5 from by omega) (show (5 - (0 : Int)).toNat < BIG from ltBIG (show _ < 100000 from by omega))
                · skip
                  unfold hB_findOrAdd_162
                  unfold hB_findOrAdd_167
                  have lpu114 : ∀ (n : Nat), ∀ (a_2u114 : Int32) (a_4u114 : Int32) (a_7u114 : Int32) (a_8u114 : Int32) (a_9u114 : Int32) (a_10u114 : Int32) (Zu114 : St), INV Zu114 → Fr YC Qv30 X Zu114 → (0 ≤ a_2u114.toInt ∧ a_2u114.toInt ≤ 4) → (0 ≤ a_4u114.toInt ∧ a_4u114.toInt + a_2u114.toInt ≤ 7745) → (0 ≤ a_7u114.toInt ∧ a_7u114.toInt ≤ 511) → (0 ≤ a_8u114.toInt ∧ a_8u114.toInt ≤ 1548) → (0 ≤ a_10u114.toInt ∧ a_10u114.toInt ≤ 5) → (5 - a_10u114.toInt).toNat < n → ok (hB_findOrAdd_172 n a_2u114 28 a_4u114 a_7u114 a_8u114 a_9u114 a_10u114 Zu114) (fun r Y => (Fr YC Qv30 X Y ∧ INV Y)) := by
                    intro n
                    unfold hB_findOrAdd_172
                    refine lp_indN (P := fun (n : Nat) (r_u114 : Int32 → Nat → Int32 → Int32 → Int32 → Int32 → Int32 → St → Option (Int32 × St)) => ∀ (a_2u114 : Int32) (a_4u114 : Int32) (a_7u114 : Int32) (a_8u114 : Int32) (a_9u114 : Int32) (a_10u114 : Int32) (Zu114 : St), INV Zu114 → Fr YC Qv30 X Zu114 → (0 ≤ a_2u114.toInt ∧ a_2u114.toInt ≤ 4) → (0 ≤ a_4u114.toInt ∧ a_4u114.toInt + a_2u114.toInt ≤ 7745) → (0 ≤ a_7u114.toInt ∧ a_7u114.toInt ≤ 511) → (0 ≤ a_8u114.toInt ∧ a_8u114.toInt ≤ 1548) → (0 ≤ a_10u114.toInt ∧ a_10u114.toInt ≤ 5) → (5 - a_10u114.toInt).toNat < n → ok (r_u114 a_2u114 28 a_4u114 a_7u114 a_8u114 a_9u114 a_10u114 Zu114) (fun r Y => (Fr YC Qv30 X Y ∧ INV Y))) ?_ ?_ n
                    · intro a_2u114 a_4u114 a_7u114 a_8u114 a_9u114 a_10u114 Zu114 hIu114 hFu114 u114_0 u114_1 u114_2 u114_3 u114_4  hm; exact absurd hm (Nat.not_lt_zero _)
                    · intro n r_u114 ih_u114 a_2u114 a_4u114 a_7u114 a_8u114 a_9u114 a_10u114 Zu114 hIu114 hFu114 u114_0 u114_1 u114_2 u114_3 u114_4  hmu114
                      unfold hB_findOrAdd_172_s
                      refine ok.ite (fun c115 => ?_) (fun c115 => ?_)
                      · skip
                        refine ok.ck (show 0 ≤ a_8u114.toInt ∧ a_8u114.toInt < ((1549 : Nat) : Int) from by omega) ?_
                        refine ok.wI (L := [6000]) hIu114 (show True from trivial) (show (6000 : Nat) ∈ [6000] from by decide) (by decide) (fun Z116 hIZ116 hFZ116 hkZ116 hoZ116 => ?_)
                        refine ok.ck (show 0 ≤ a_7u114.toInt ∧ a_7u114.toInt < ((512 : Nat) : Int) from by omega) ?_
                        refine ok.letE (v1 := (Zu114.1 31 (ix a_7u114))) (hFZ116.1 31 (ix a_7u114) (show (6200 : Nat) ∉ [6000] from by decide)) ?_
                        have g117 : -1 ≤ (Zu114.1 31 (ix a_7u114)).toInt ∧ (Zu114.1 31 (ix a_7u114)).toInt ≤ 1548 := hIu114.1 31 (ix a_7u114)
                        refine ok.ck (show 0 ≤ a_8u114.toInt ∧ a_8u114.toInt < ((1549 : Nat) : Int) from by omega) ?_
                        refine ok.wI (L := [6400]) hIZ116 (show -1 ≤ (Zu114.1 31 (ix a_7u114)).toInt ∧ (Zu114.1 31 (ix a_7u114)).toInt ≤ 1548 from by omega) (show (6400 : Nat) ∈ [6400] from by decide) (by decide) (fun Z118 hIZ118 hFZ118 hkZ118 hoZ118 => ?_)
                        refine ok.ck (show 0 ≤ a_7u114.toInt ∧ a_7u114.toInt < ((512 : Nat) : Int) from by omega) ?_
                        refine ok.wI (L := [6200]) hIZ118 (show -1 ≤ a_8u114.toInt ∧ a_8u114.toInt ≤ 1548 from by omega) (show (6200 : Nat) ∈ [6200] from by decide) (by decide) (fun Z119 hIZ119 hFZ119 hkZ119 hoZ119 => ?_)
                        exact ok.ret ⟨((((Fr.rf.tr hFu114 (fun _ q => q)).tr hFZ116 (by decide)).tr hFZ118 (by decide)).tr hFZ119 (by decide)), hIZ119⟩
                      · skip
                        refine ok.mul (show _ ≤ a_8u114.toInt * (5 : Int) ∧ a_8u114.toInt * (5 : Int) ≤ _ from by omega) (fun x19 hx19 => ?_)
                        have hx19 : x19.toInt = a_8u114.toInt * (5 : Int) := hx19
                        refine ok.add (show _ ≤ x19.toInt + a_10u114.toInt ∧ x19.toInt + a_10u114.toInt ≤ _ from by omega) (fun x20 hx20 => ?_)
                        have hx20 : x20.toInt = x19.toInt + a_10u114.toInt := hx20
                        refine ok.add (show _ ≤ a_4u114.toInt + a_10u114.toInt ∧ a_4u114.toInt + a_10u114.toInt ≤ _ from by omega) (fun x21 hx21 => ?_)
                        have hx21 : x21.toInt = a_4u114.toInt + a_10u114.toInt := hx21
                        refine ok.ck (show 0 ≤ x21.toInt ∧ x21.toInt < ((7745 : Nat) : Int) from by omega) ?_
                        refine ok.letE (v1 := (Zu114.1 28 (ix x21))) rfl ?_
                        refine ok.ck (show 0 ≤ x20.toInt ∧ x20.toInt < ((7745 : Nat) : Int) from by omega) ?_
                        refine ok.wI (L := [5600]) hIu114 (show True from trivial) (show (5600 : Nat) ∈ [5600] from by decide) (by decide) (fun Z120 hIZ120 hFZ120 hkZ120 hoZ120 => ?_)
                        refine ok.ite (fun c121 => ?_) (fun c121 => ?_)
                        · skip
                          have g122 := i32_le a_9u114
                          refine ok.add (show _ ≤ a_4u114.toInt + a_10u114.toInt ∧ a_4u114.toInt + a_10u114.toInt ≤ _ from by omega) (fun x25 hx25 => ?_)
                          have hx25 : x25.toInt = a_4u114.toInt + a_10u114.toInt := hx25
                          refine ok.ck (show 0 ≤ x25.toInt ∧ x25.toInt < ((7745 : Nat) : Int) from by omega) ?_
                          refine ok.letE (v1 := (Z120.1 28 (ix x25))) rfl ?_
                          refine ok.bd (v_hB_hasAny hIZ120) ?_
                          rintro x27 _ rfl
                          refine ok.ite (fun c124 => ?_) (fun c124 => ?_)
                          · skip
                            have g125 := i32_le x27
                            unfold hB_findOrAdd_221
                            refine ok.inc (by decide) (show _ ≤ a_10u114.toInt + (1) ∧ a_10u114.toInt + (1) ≤ _ from by omega) (fun x24 hx24 => ?_)
                            have hx24 : x24.toInt = a_10u114.toInt + (1) := hx24
                            exact ih_u114 a_2u114 a_4u114 a_7u114 a_8u114 (0 : Int32) x24 Z120 hIZ120 ((Fr.rf.tr hFu114 (fun _ q => q)).tr hFZ120 (by decide)) (show 0 ≤ a_2u114.toInt ∧ a_2u114.toInt ≤ 4 from by omega) (show 0 ≤ a_4u114.toInt ∧ a_4u114.toInt + a_2u114.toInt ≤ 7745 from by omega) (show 0 ≤ a_7u114.toInt ∧ a_7u114.toInt ≤ 511 from by omega) (show 0 ≤ a_8u114.toInt ∧ a_8u114.toInt ≤ 1548 from by omega) (show 0 ≤ x24.toInt ∧ x24.toInt ≤ 5 from by omega) (show (5 - x24.toInt).toNat < _ from by omega)
                          · skip
                            unfold hB_findOrAdd_216
                            unfold hB_findOrAdd_221
                            refine ok.inc (by decide) (show _ ≤ a_10u114.toInt + (1) ∧ a_10u114.toInt + (1) ≤ _ from by omega) (fun x24 hx24 => ?_)
                            have hx24 : x24.toInt = a_10u114.toInt + (1) := hx24
                            exact ih_u114 a_2u114 a_4u114 a_7u114 a_8u114 (1 : Int32) x24 Z120 hIZ120 ((Fr.rf.tr hFu114 (fun _ q => q)).tr hFZ120 (by decide)) (show 0 ≤ a_2u114.toInt ∧ a_2u114.toInt ≤ 4 from by omega) (show 0 ≤ a_4u114.toInt ∧ a_4u114.toInt + a_2u114.toInt ≤ 7745 from by omega) (show 0 ≤ a_7u114.toInt ∧ a_7u114.toInt ≤ 511 from by omega) (show 0 ≤ a_8u114.toInt ∧ a_8u114.toInt ≤ 1548 from by omega) (show 0 ≤ x24.toInt ∧ x24.toInt ≤ 5 from by omega) (show (5 - x24.toInt).toNat < _ from by omega)
                        · skip
                          unfold hB_findOrAdd_216
                          unfold hB_findOrAdd_221
                          refine ok.inc (by decide) (show _ ≤ a_10u114.toInt + (1) ∧ a_10u114.toInt + (1) ≤ _ from by omega) (fun x24 hx24 => ?_)
                          have hx24 : x24.toInt = a_10u114.toInt + (1) := hx24
                          exact ih_u114 a_2u114 a_4u114 a_7u114 a_8u114 (1 : Int32) x24 Z120 hIZ120 ((Fr.rf.tr hFu114 (fun _ q => q)).tr hFZ120 (by decide)) (show 0 ≤ a_2u114.toInt ∧ a_2u114.toInt ≤ 4 from by omega) (show 0 ≤ a_4u114.toInt ∧ a_4u114.toInt + a_2u114.toInt ≤ 7745 from by omega) (show 0 ≤ a_7u114.toInt ∧ a_7u114.toInt ≤ 511 from by omega) (show 0 ≤ a_8u114.toInt ∧ a_8u114.toInt ≤ 1548 from by omega) (show 0 ≤ x24.toInt ∧ x24.toInt ≤ 5 from by omega) (show (5 - x24.toInt).toNat < _ from by omega)
                  exact lpu114 BIG a_2u3 a_4u3 a_7u3 (Zu3.1 25 0) (1 : Int32) (0 : Int32) Z72 hIZ72 ((((((Fr.rf.tr hFu3 (fun _ q => q)).tr hFZ68 (by decide)).tr hFZ69 (by decide)).tr hFZ70 (by decide)).tr hFZ71 (by decide)).tr hFZ72 (by decide)) (show 0 ≤ a_2u3.toInt ∧ a_2u3.toInt ≤ 4 from by omega) (show 0 ≤ a_4u3.toInt ∧ a_4u3.toInt + a_2u3.toInt ≤ 7745 from by omega) (show 0 ≤ a_7u3.toInt ∧ a_7u3.toInt ≤ 511 from by omega) (show 0 ≤ (Zu3.1 25 0).toInt ∧ (Zu3.1 25 0).toInt ≤ 1548 from by omega) (show 0 ≤ (0 : Int) ∧ (0 : Int) ≤ 5 from by omega) (show (5 - (0 : Int)).toNat < BIG from ltBIG (show _ < 100000 from by omega))
          · skip
            exact ok.ret ⟨(Fr.rf.tr hFu3 (fun _ q => q)), hIu3⟩
        · skip
          refine ok.ck (show 0 ≤ a_8u3.toInt ∧ a_8u3.toInt < ((1549 : Nat) : Int) from by omega) ?_
          refine ok.letE (v1 := (Zu3.1 26 (ix a_8u3))) rfl ?_
          refine ok.ite (fun c126 => ?_) (fun c126 => ?_)
          · skip
            have g127 := i32_le (Zu3.1 26 (ix a_8u3))
            refine ok.bd (v_hB_isSame_28 hIu3 (show 0 ≤ a_8u3.toInt ∧ a_8u3.toInt ≤ 1548 from by omega) (show 0 ≤ a_2u3.toInt ∧ a_2u3.toInt ≤ 4 from by omega) (show 0 ≤ a_4u3.toInt ∧ a_4u3.toInt + a_2u3.toInt ≤ 7745 from by omega)) ?_
            rintro x34 _ rfl
            refine ok.ite (fun c129 => ?_) (fun c129 => ?_)
            · skip
              have g130 := i32_le x34
              unfold hB_findOrAdd_62
              refine ok.ck (show 0 ≤ a_8u3.toInt ∧ a_8u3.toInt < ((1549 : Nat) : Int) from by omega) ?_
              refine ok.letE (v1 := (Zu3.1 32 (ix a_8u3))) rfl ?_
              have g131 : -1 ≤ (Zu3.1 32 (ix a_8u3)).toInt ∧ (Zu3.1 32 (ix a_8u3)).toInt ≤ 1548 := hIu3.1 32 (ix a_8u3)
              refine ok.inc (by decide) (show _ ≤ a_9u3.toInt + (1) ∧ a_9u3.toInt + (1) ≤ _ from by omega) (fun x33 hx33 => ?_)
              have hx33 : x33.toInt = a_9u3.toInt + (1) := hx33
              exact ih_u3 a_1u3 a_2u3 a_4u3 a_5u3 a_6u3 a_7u3 (Zu3.1 32 (ix a_8u3)) x33 Zu3 hIu3 (Fr.rf.tr hFu3 (fun _ q => q)) (show 0 ≤ a_1u3.toInt ∧ a_1u3.toInt ≤ 4 from by omega) (show 0 ≤ a_2u3.toInt ∧ a_2u3.toInt ≤ 4 from by omega) (show 0 ≤ a_4u3.toInt ∧ a_4u3.toInt + a_2u3.toInt ≤ 7745 from by omega) (show 0 ≤ a_7u3.toInt ∧ a_7u3.toInt ≤ 511 from by omega) (show -1 ≤ (Zu3.1 32 (ix a_8u3)).toInt ∧ (Zu3.1 32 (ix a_8u3)).toInt ≤ 1548 from by omega) (show 0 ≤ x33.toInt ∧ x33.toInt ≤ 1549 from by omega) (show (1550 - x33.toInt).toNat < _ from by omega)
            · skip
              exact ok.ret ⟨(Fr.rf.tr hFu3 (fun _ q => q)), hIu3⟩
          · skip
            unfold hB_findOrAdd_62
            refine ok.ck (show 0 ≤ a_8u3.toInt ∧ a_8u3.toInt < ((1549 : Nat) : Int) from by omega) ?_
            refine ok.letE (v1 := (Zu3.1 32 (ix a_8u3))) rfl ?_
            have g132 : -1 ≤ (Zu3.1 32 (ix a_8u3)).toInt ∧ (Zu3.1 32 (ix a_8u3)).toInt ≤ 1548 := hIu3.1 32 (ix a_8u3)
            refine ok.inc (by decide) (show _ ≤ a_9u3.toInt + (1) ∧ a_9u3.toInt + (1) ≤ _ from by omega) (fun x33 hx33 => ?_)
            have hx33 : x33.toInt = a_9u3.toInt + (1) := hx33
            exact ih_u3 a_1u3 a_2u3 a_4u3 a_5u3 a_6u3 a_7u3 (Zu3.1 32 (ix a_8u3)) x33 Zu3 hIu3 (Fr.rf.tr hFu3 (fun _ q => q)) (show 0 ≤ a_1u3.toInt ∧ a_1u3.toInt ≤ 4 from by omega) (show 0 ≤ a_2u3.toInt ∧ a_2u3.toInt ≤ 4 from by omega) (show 0 ≤ a_4u3.toInt ∧ a_4u3.toInt + a_2u3.toInt ≤ 7745 from by omega) (show 0 ≤ a_7u3.toInt ∧ a_7u3.toInt ≤ 511 from by omega) (show -1 ≤ (Zu3.1 32 (ix a_8u3)).toInt ∧ (Zu3.1 32 (ix a_8u3)).toInt ≤ 1548 from by omega) (show 0 ≤ x33.toInt ∧ x33.toInt ≤ 1549 from by omega) (show (1550 - x33.toInt).toNat < _ from by omega)
  exact lpu3 BIG p1 p2 p4 p5 p6 x1 (X.1 31 (ix x1)) (0 : Int32) X hI (Fr.rf : Fr YC Qv30 _ _) (show 0 ≤ p1.toInt ∧ p1.toInt ≤ 4 from by omega) (show 0 ≤ p2.toInt ∧ p2.toInt ≤ 4 from by omega) (show 0 ≤ p4.toInt ∧ p4.toInt + p2.toInt ≤ 7745 from by omega) (show 0 ≤ x1.toInt ∧ x1.toInt ≤ 511 from by omega) (show -1 ≤ (X.1 31 (ix x1)).toInt ∧ (X.1 31 (ix x1)).toInt ≤ 1548 from by omega) (show 0 ≤ (0 : Int) ∧ (0 : Int) ≤ 1549 from by omega) (show (1550 - (0 : Int)).toNat < BIG from ltBIG (show _ < 100000 from by omega))
set_option maxHeartbeats 4000000 in
theorem v_hB_rowOf {p1 : Int32} {X : St} (hI : INV X) : ok (hB_rowOf p1 X) (fun r Y => (Fr YC Qv30 X Y ∧ INV Y)) := by
  unfold hB_rowOf
  refine ok.bd (v_hB_codeOf hI) ?_
  rintro x1 _ rfl
  refine ok.any (fun x3 => ?_)
  refine ok.any (fun x4 => ?_)
  refine ok.bd (v_hB_findOrAdd_28 hI (show 0 ≤ (3 : Int) ∧ (3 : Int) ≤ 4 from by omega) (show 0 ≤ (0 : Int) ∧ (0 : Int) ≤ 4 from by omega) (show 0 ≤ (0 : Int) ∧ (0 : Int) + (0 : Int) ≤ 7745 from by omega)) ?_
  rintro x5 Z3 ⟨hFZ3, hIZ3⟩
  exact ok.ret ⟨(Fr.rf.tr hFZ3 (fun _ q => q)), hIZ3⟩
theorem nr_hB_codeOf {φ : Nat → Nat → Nat} {p1 : Int32} {X : St} (h : X.2.2 = φ) : nr φ (hB_codeOf p1 X) := by
  unfold hB_codeOf
  refine nr.ite ?_ ?_
  · exact nr.ret h
  · refine nr.lv (fun x1 => ?_)
    refine nr.ite ?_ ?_
    · exact nr.ret h
    · refine nr.ck ?_
      refine nr.lv (fun x2 => ?_)
      exact nr.ret h
theorem nr_hB_rowOf {φ : Nat → Nat → Nat} {p1 : Int32} {X : St} (h : X.2.2 = φ) : nr φ (hB_rowOf p1 X) := by
  unfold hB_rowOf
  refine nr.bd (nr_hB_codeOf h) (fun x1 X2 hX2 => ?_)
  refine nr.lv (fun x3 => ?_)
  refine nr.lv (fun x4 => ?_)
  refine nr.bd (nr_hB_findOrAdd hX2) (fun x5 X6 hX6 => ?_)
  exact nr.ret hX6
set_option maxHeartbeats 4000000 in
theorem v_hB_functionOf_33 {p2 : Int32} {p3 : Int32} {p4 : Int32} {X : St} (hI : INV X) : ok (hB_functionOf 33 p2 p3 p4 X) (fun r Y => (Fr YC Qv30 X Y ∧ INV Y)) := by
  unfold hB_functionOf
  refine ok.ite (fun c1 => ?_) (fun c1 => ?_)
  · skip
    have g2 := i32_le p3
    exact ok.ret ⟨(Fr.rf : Fr YC Qv30 _ _), hI⟩
  · skip
    have g3 := i32_le p3
    refine ok.ite (fun c4 => ?_) (fun c4 => ?_)
    · skip
      exact ok.ret ⟨(Fr.rf : Fr YC Qv30 _ _), hI⟩
    · skip
      refine ok.ite (fun c5 => ?_) (fun c5 => ?_)
      · skip
        have g6 := i32_le p2
        exact ok.ret ⟨(Fr.rf : Fr YC Qv30 _ _), hI⟩
      · skip
        have g7 := i32_le p2
        refine ok.letE (v1 := (4 : Int32)) (by decide) ?_
        refine ok.sub (show _ ≤ (4 : Int) - p3.toInt ∧ (4 : Int) - p3.toInt ≤ _ from by omega) (fun x2 hx2 => ?_)
        have hx2 : x2.toInt = (4 : Int) - p3.toInt := hx2
        refine ok.ite (fun c8 => ?_) (fun c8 => ?_)
        · skip
          refine ok.add (show _ ≤ (7 : Int) + p3.toInt ∧ (7 : Int) + p3.toInt ≤ _ from by omega) (fun x3 hx3 => ?_)
          have hx3 : x3.toInt = (7 : Int) + p3.toInt := hx3
          have lpu9 : ∀ (n : Nat), ∀ (a_2u9 : Int32) (a_3u9 : Int32) (a_4u9 : Int32) (a_5u9 : Int32) (a_6u9 : Int32) (Zu9 : St), INV Zu9 → Fr YC Qv30 X Zu9 → (0 ≤ a_3u9.toInt ∧ a_3u9.toInt ≤ 4) → (0 ≤ a_2u9.toInt ∧ a_2u9.toInt + a_3u9.toInt ≤ 4) → (0 ≤ a_6u9.toInt ∧ a_6u9.toInt ≤ 5) → (5 - a_6u9.toInt).toNat < n → ok (hB_functionOf_32 n 33 a_2u9 a_3u9 a_4u9 a_5u9 a_6u9 Zu9) (fun r Y => (Fr YC Qv30 X Y ∧ INV Y)) := by
            intro n
            unfold hB_functionOf_32
            refine lp_indN (P := fun (n : Nat) (r_u9 : Nat → Int32 → Int32 → Int32 → Int32 → Int32 → St → Option (Int32 × St)) => ∀ (a_2u9 : Int32) (a_3u9 : Int32) (a_4u9 : Int32) (a_5u9 : Int32) (a_6u9 : Int32) (Zu9 : St), INV Zu9 → Fr YC Qv30 X Zu9 → (0 ≤ a_3u9.toInt ∧ a_3u9.toInt ≤ 4) → (0 ≤ a_2u9.toInt ∧ a_2u9.toInt + a_3u9.toInt ≤ 4) → (0 ≤ a_6u9.toInt ∧ a_6u9.toInt ≤ 5) → (5 - a_6u9.toInt).toNat < n → ok (r_u9 33 a_2u9 a_3u9 a_4u9 a_5u9 a_6u9 Zu9) (fun r Y => (Fr YC Qv30 X Y ∧ INV Y))) ?_ ?_ n
            · intro a_2u9 a_3u9 a_4u9 a_5u9 a_6u9 Zu9 hIu9 hFu9 u9_0 u9_1 u9_2  hm; exact absurd hm (Nat.not_lt_zero _)
            · intro n r_u9 ih_u9 a_2u9 a_3u9 a_4u9 a_5u9 a_6u9 Zu9 hIu9 hFu9 u9_0 u9_1 u9_2  hmu9
              unfold hB_functionOf_32_s
              refine ok.ite (fun c10 => ?_) (fun c10 => ?_)
              · skip
                refine ok.any (fun x4 => ?_)
                refine ok.bd (v_hB_codeOf hIu9) ?_
                rintro x5 _ rfl
                refine ok.any (fun x7 => ?_)
                refine ok.bd (v_hB_findOrAdd_33 hIu9 (show 0 ≤ (4 : Int) ∧ (4 : Int) ≤ 4 from by omega) (show 0 ≤ a_3u9.toInt ∧ a_3u9.toInt ≤ 4 from by omega) (show 0 ≤ a_2u9.toInt ∧ a_2u9.toInt + a_3u9.toInt ≤ 4 from by omega)) ?_
                rintro x8 Z13 ⟨hFZ13, hIZ13⟩
                exact ok.ret ⟨((Fr.rf.tr hFu9 (fun _ q => q)).tr hFZ13 (fun _ q => q)), hIZ13⟩
              · skip
                refine ok.any (fun x10 => ?_)
                refine ok.add (show _ ≤ a_2u9.toInt + a_6u9.toInt ∧ a_2u9.toInt + a_6u9.toInt ≤ _ from by omega) (fun x11 hx11 => ?_)
                have hx11 : x11.toInt = a_2u9.toInt + a_6u9.toInt := hx11
                refine ok.ck (show 0 ≤ x11.toInt ∧ x11.toInt < ((4 : Nat) : Int) from by omega) ?_
                refine ok.letE (v1 := (X.1 33 (ix x11))) (hFu9.1 33 (ix x11) n6600_Qv30) ?_
                refine ok.bd (v_hB_codeOf hIu9) ?_
                rintro x13 _ rfl
                refine ok.any (fun x15 => ?_)
                refine ok.inc (by decide) (show _ ≤ a_6u9.toInt + (1) ∧ a_6u9.toInt + (1) ≤ _ from by omega) (fun x16 hx16 => ?_)
                have hx16 : x16.toInt = a_6u9.toInt + (1) := hx16
                exact ih_u9 a_2u9 a_3u9 a_4u9 x15 x16 Zu9 hIu9 (Fr.rf.tr hFu9 (fun _ q => q)) (show 0 ≤ a_3u9.toInt ∧ a_3u9.toInt ≤ 4 from by omega) (show 0 ≤ a_2u9.toInt ∧ a_2u9.toInt + a_3u9.toInt ≤ 4 from by omega) (show 0 ≤ x16.toInt ∧ x16.toInt ≤ 5 from by omega) (show (5 - x16.toInt).toNat < _ from by omega)
          exact lpu9 BIG p2 p3 p4 x3 (0 : Int32) X hI (Fr.rf : Fr YC Qv30 _ _) (show 0 ≤ p3.toInt ∧ p3.toInt ≤ 4 from by omega) (show 0 ≤ p2.toInt ∧ p2.toInt + p3.toInt ≤ 4 from by omega) (show 0 ≤ (0 : Int) ∧ (0 : Int) ≤ 5 from by omega) (show (5 - (0 : Int)).toNat < BIG from ltBIG (show _ < 100000 from by omega))
        · skip
          exact ok.ret ⟨(Fr.rf : Fr YC Qv30 _ _), hI⟩
theorem nr_hB_functionOf_32 {φ : Nat → Nat → Nat} {n : Nat} {e_1 : Nat} {a_2 : Int32} {a_3 : Int32} {a_4 : Int32} {a_5 : Int32} {a_6 : Int32} {X : St} (h : X.2.2 = φ) : nr φ (hB_functionOf_32 n e_1 a_2 a_3 a_4 a_5 a_6 X) := by
  unfold hB_functionOf_32
  refine lp_ind (P := fun (r : Nat → Int32 → Int32 → Int32 → Int32 → Int32 → St → Option (Int32 × St)) => ∀ (e_1 : Nat) (a_2 : Int32) (a_3 : Int32) (a_4 : Int32) (a_5 : Int32) (a_6 : Int32) (X : St), X.2.2 = φ → nr φ (r e_1 a_2 a_3 a_4 a_5 a_6 X)) ?_ ?_ n e_1 a_2 a_3 a_4 a_5 a_6 X h
  · intro e_1 a_2 a_3 a_4 a_5 a_6 X h
    exact nr.none
  · intro r32 hr32 e_1 a_2 a_3 a_4 a_5 a_6 X h
    unfold hB_functionOf_32_s
    refine nr.ite ?_ ?_
    · refine nr.lv (fun x4 => ?_)
      refine nr.bd (nr_hB_codeOf h) (fun x5 X6 hX6 => ?_)
      refine nr.lv (fun x7 => ?_)
      refine nr.bd (nr_hB_findOrAdd hX6) (fun x8 X9 hX9 => ?_)
      exact nr.ret hX9
    · refine nr.lv (fun x10 => ?_)
      refine nr.lv (fun x11 => ?_)
      refine nr.ck ?_
      refine nr.lv (fun x12 => ?_)
      refine nr.bd (nr_hB_codeOf h) (fun x13 X14 hX14 => ?_)
      refine nr.lv (fun x15 => ?_)
      refine nr.lv (fun x16 => ?_)
      exact hr32 _ _ _ _ _ _ _ hX14
theorem nr_hB_functionOf {φ : Nat → Nat → Nat} {o1 : Nat} {p2 : Int32} {p3 : Int32} {p4 : Int32} {X : St} (h : X.2.2 = φ) : nr φ (hB_functionOf o1 p2 p3 p4 X) := by
  unfold hB_functionOf
  refine nr.ite ?_ ?_
  · exact nr.ret h
  · refine nr.ite ?_ ?_
    · exact nr.ret h
    · refine nr.ite ?_ ?_
      · exact nr.ret h
      · refine nr.lv (fun x1 => ?_)
        refine nr.lv (fun x2 => ?_)
        refine nr.ite ?_ ?_
        · refine nr.lv (fun x3 => ?_)
          exact nr_hB_functionOf_32 h
        · exact nr.ret h
set_option maxHeartbeats 4000000 in
theorem o_ctor_C_25 {f : Nat → Nat} {X : St} (h : CI 3 f X) : okN (ctor_C_25 X) (CI 3 f) := by
  unfold ctor_C_25
  refine okN.z h (by decide) (by decide) (fun X2 hX2 => ?_)
  refine okN.z hX2 (by decide) (by decide) (fun X9 hX9 => ?_)
  refine okN.z hX9 (by decide) (by decide) (fun X16 hX16 => ?_)
  refine okN.z hX16 (by decide) (by decide) (fun X23 hX23 => ?_)
  refine okN.z hX23 (by decide) (by decide) (fun X30 hX30 => ?_)
  refine okN.z hX30 (by decide) (by decide) (fun X37 hX37 => ?_)
  refine okN.z hX37 (by decide) (by decide) (fun X44 hX44 => ?_)
  refine okN.wI hX44 (show 0 ≤ ((0 : Int32)).toInt ∧ ((0 : Int32)).toInt ≤ 1549 from by decide) (by decide) (by decide) (fun X50 hX50 => ?_)
  refine okN.bd (L := [6200]) hX50 (ok.mono (v_hfB_fill_31 hX50.1 (by decide)) (fun _ _ q => q)) (nr_hfB_fill rfl) ⟨(show (1 : Nat) ∉ [6200] from by decide), (show (401 : Nat) ∉ [6200] from by decide), (show (406 : Nat) ∉ [6200] from by decide), (show (3800 : Nat) ∉ [6200] from by decide)⟩ (fun _ X52 hX52 => ?_)
  refine okN.z hX52 (by decide) (by decide) (fun X54 hX54 => ?_)
  refine okN.wI hX54 (show True from trivial) (by decide) (by decide) (fun X60 hX60 => ?_)
  refine okN.wI hX60 (show True from trivial) (by decide) (by decide) (fun X61 hX61 => ?_)
  refine okN.wI hX61 (show True from trivial) (by decide) (by decide) (fun X62 hX62 => ?_)
  refine okN.wI hX62 (show True from trivial) (by decide) (by decide) (fun X63 hX63 => ?_)
  refine okN.bd (L := Qv30) hX63 (ok.mono (v_hB_findOrAdd_33 hX63.1 (by decide) (by decide) (by decide)) (fun _ _ q => q)) (nr_hB_findOrAdd rfl) ⟨(show (1 : Nat) ∉ Qv30 from by decide), (show (401 : Nat) ∉ Qv30 from by decide), (show (406 : Nat) ∉ Qv30 from by decide), (show (3800 : Nat) ∉ Qv30 from by decide)⟩ (fun _ X65 hX65 => ?_)
  refine okN.bd (L := Qv30) hX65 (ok.mono (v_hB_findOrAdd_33 hX65.1 (by decide) (by decide) (by decide)) (fun _ _ q => q)) (nr_hB_findOrAdd rfl) ⟨(show (1 : Nat) ∉ Qv30 from by decide), (show (401 : Nat) ∉ Qv30 from by decide), (show (406 : Nat) ∉ Qv30 from by decide), (show (3800 : Nat) ∉ Qv30 from by decide)⟩ (fun _ X67 hX67 => ?_)
  refine okN.bd (L := Qv30) hX67 (ok.mono (v_hB_findOrAdd_33 hX67.1 (by decide) (by decide) (by decide)) (fun _ _ q => q)) (nr_hB_findOrAdd rfl) ⟨(show (1 : Nat) ∉ Qv30 from by decide), (show (401 : Nat) ∉ Qv30 from by decide), (show (406 : Nat) ∉ Qv30 from by decide), (show (3800 : Nat) ∉ Qv30 from by decide)⟩ (fun _ X69 hX69 => ?_)
  refine okN.bd (L := Qv30) hX69 (ok.mono (v_hB_rowOf hX69.1) (fun _ _ q => q)) (nr_hB_rowOf rfl) ⟨(show (1 : Nat) ∉ Qv30 from by decide), (show (401 : Nat) ∉ Qv30 from by decide), (show (406 : Nat) ∉ Qv30 from by decide), (show (3800 : Nat) ∉ Qv30 from by decide)⟩ (fun _ X71 hX71 => ?_)
  refine okN.bd (L := Qv30) hX71 (ok.mono (v_hB_functionOf_33 hX71.1) (fun _ _ q => q)) (nr_hB_functionOf rfl) ⟨(show (1 : Nat) ∉ Qv30 from by decide), (show (401 : Nat) ∉ Qv30 from by decide), (show (406 : Nat) ∉ Qv30 from by decide), (show (3800 : Nat) ∉ Qv30 from by decide)⟩ (fun _ X73 hX73 => ?_)
  refine okN.bd (L := Qv30) hX73 (ok.mono (v_hB_functionOf_33 hX73.1) (fun _ _ q => q)) (nr_hB_functionOf rfl) ⟨(show (1 : Nat) ∉ Qv30 from by decide), (show (401 : Nat) ∉ Qv30 from by decide), (show (406 : Nat) ∉ Qv30 from by decide), (show (3800 : Nat) ∉ Qv30 from by decide)⟩ (fun _ X75 hX75 => ?_)
  refine okN.bd (L := Qv30) hX75 (ok.mono (v_hB_functionOf_33 hX75.1) (fun _ _ q => q)) (nr_hB_functionOf rfl) ⟨(show (1 : Nat) ∉ Qv30 from by decide), (show (401 : Nat) ∉ Qv30 from by decide), (show (406 : Nat) ∉ Qv30 from by decide), (show (3800 : Nat) ∉ Qv30 from by decide)⟩ (fun _ X77 hX77 => ?_)
  refine okN.bd (L := Qv30) hX77 (ok.mono (v_hB_functionOf_33 hX77.1) (fun _ _ q => q)) (nr_hB_functionOf rfl) ⟨(show (1 : Nat) ∉ Qv30 from by decide), (show (401 : Nat) ∉ Qv30 from by decide), (show (406 : Nat) ∉ Qv30 from by decide), (show (3800 : Nat) ∉ Qv30 from by decide)⟩ (fun _ X79 hX79 => ?_)
  refine okN.bd (L := Qv30) hX79 (ok.mono (v_hB_functionOf_33 hX79.1) (fun _ _ q => q)) (nr_hB_functionOf rfl) ⟨(show (1 : Nat) ∉ Qv30 from by decide), (show (401 : Nat) ∉ Qv30 from by decide), (show (406 : Nat) ∉ Qv30 from by decide), (show (3800 : Nat) ∉ Qv30 from by decide)⟩ (fun _ X81 hX81 => ?_)
  exact okN.ret hX81
set_option maxHeartbeats 4000000 in
theorem o_ctor_C_24 {f : Nat → Nat} {X : St} (h : CI 3 f X) : okN (ctor_C_24 X) (CI 3 f) := by
  unfold ctor_C_24
  refine okN.z h (by decide) (by decide) (fun X2 hX2 => ?_)
  refine okN.bN (o_ctor_C_25 hX2) (fun X11 hX11 => ?_)
  refine okN.wI hX11 (show 0 ≤ ((0 : Int32)).toInt ∧ ((0 : Int32)).toInt ≤ 40 from by decide) (by decide) (by decide) (fun X14 hX14 => ?_)
  refine okN.wI hX14 (show -1 ≤ ((-1 : Int32)).toInt ∧ ((-1 : Int32)).toInt ≤ 39 from by decide) (by decide) (by decide) (fun X15 hX15 => ?_)
  refine okN.z hX15 (by decide) (by decide) (fun X17 hX17 => ?_)
  refine okN.z hX17 (by decide) (by decide) (fun X24 hX24 => ?_)
  refine okN.z hX24 (by decide) (by decide) (fun X31 hX31 => ?_)
  refine okN.z hX31 (by decide) (by decide) (fun X38 hX38 => ?_)
  refine okN.z hX38 (by decide) (by decide) (fun X45 hX45 => ?_)
  refine okN.z hX45 (by decide) (by decide) (fun X52 hX52 => ?_)
  refine okN.z hX52 (by decide) (by decide) (fun X59 hX59 => ?_)
  refine okN.z hX59 (by decide) (by decide) (fun X66 hX66 => ?_)
  refine okN.wI hX66 (show True from trivial) (by decide) (by decide) (fun X72 hX72 => ?_)
  refine okN.z hX72 (by decide) (by decide) (fun X74 hX74 => ?_)
  refine okN.z hX74 (by decide) (by decide) (fun X81 hX81 => ?_)
  refine okN.z hX81 (by decide) (by decide) (fun X88 hX88 => ?_)
  refine okN.z hX88 (by decide) (by decide) (fun X95 hX95 => ?_)
  refine okN.wI hX95 (show 0 ≤ ((0 : Int32)).toInt ∧ ((0 : Int32)).toInt ≤ 9080 from by decide) (by decide) (by decide) (fun X101 hX101 => ?_)
  exact okN.ret hX101
set_option maxHeartbeats 4000000 in
theorem o_ctor_C_47 {f : Nat → Nat} {X : St} (h : CI 25 f X) : okN (ctor_C_47 X) (CI 49 f) := by
  unfold ctor_C_47
  refine okN.z h (by decide) (by decide) (fun X2 hX2 => ?_)
  refine okN.wR (d := 49) hX2 (by decide) (by decide) (fun X8 hX8 => ?_)
  refine okN.wI hX8 (show 0 ≤ ((0 : Int32)).toInt ∧ ((0 : Int32)).toInt ≤ 3000 from by decide) (by decide) (by decide) (fun X9 hX9 => ?_)
  refine okN.wI hX9 (show 0 ≤ ((0 : Int32)).toInt ∧ ((0 : Int32)).toInt ≤ 3000 from by decide) (by decide) (by decide) (fun X10 hX10 => ?_)
  refine okN.wI hX10 (show True from trivial) (by decide) (by decide) (fun X11 hX11 => ?_)
  refine okN.wI hX11 (show 0 ≤ ((0 : Int32)).toInt ∧ ((0 : Int32)).toInt ≤ 3000 from by decide) (by decide) (by decide) (fun X12 hX12 => ?_)
  refine okN.wL hX12 (fun X13 hX13 => ?_)
  refine okN.wI hX13 (show True from trivial) (by decide) (by decide) (fun X14 hX14 => ?_)
  refine okN.wL hX14 (fun X15 hX15 => ?_)
  exact okN.ret hX15
set_option maxHeartbeats 4000000 in
theorem o_ctor_C_46 {f : Nat → Nat} {X : St} (h : CI 25 f X) : okN (ctor_C_46 X) (CI 49 f) := by
  unfold ctor_C_46
  refine okN.z h (by decide) (by decide) (fun X2 hX2 => ?_)
  refine okN.bN (o_ctor_C_47 hX2) (fun X11 hX11 => ?_)
  refine okN.wR (d := 49) hX11 (by decide) (by decide) (fun X14 hX14 => ?_)
  refine okN.wI hX14 (show 0 ≤ ((0 : Int32)).toInt ∧ ((0 : Int32)).toInt ≤ 60 from by decide) (by decide) (by decide) (fun X15 hX15 => ?_)
  refine okN.wI hX15 (show True from trivial) (by decide) (by decide) (fun X16 hX16 => ?_)
  refine okN.wI hX16 (show True from trivial) (by decide) (by decide) (fun X17 hX17 => ?_)
  refine okN.z hX17 (by decide) (by decide) (fun X19 hX19 => ?_)
  refine okN.z hX19 (by decide) (by decide) (fun X26 hX26 => ?_)
  refine okN.wI hX26 (show 0 ≤ ((0 : Int32)).toInt ∧ ((0 : Int32)).toInt ≤ 44 from by decide) (by decide) (by decide) (fun X32 hX32 => ?_)
  refine okN.z hX32 (by decide) (by decide) (fun X34 hX34 => ?_)
  refine okN.z hX34 (by decide) (by decide) (fun X41 hX41 => ?_)
  refine okN.z hX41 (by decide) (by decide) (fun X48 hX48 => ?_)
  refine okN.wI hX48 (show 0 ≤ ((0 : Int32)).toInt ∧ ((0 : Int32)).toInt ≤ 126 from by decide) (by decide) (by decide) (fun X54 hX54 => ?_)
  refine okN.z hX54 (by decide) (by decide) (fun X56 hX56 => ?_)
  refine okN.wI hX56 (show 0 ≤ ((0 : Int32)).toInt ∧ ((0 : Int32)).toInt ≤ 164 from by decide) (by decide) (by decide) (fun X62 hX62 => ?_)
  exact okN.ret hX62
set_option maxHeartbeats 4000000 in
theorem o_ctor_C_55 {f : Nat → Nat} {X : St} (h : CI 49 f X) : okN (ctor_C_55 X) (CI 49 f) := by
  unfold ctor_C_55
  refine okN.z h (by decide) (by decide) (fun X2 hX2 => ?_)
  refine okN.z hX2 (by decide) (by decide) (fun X9 hX9 => ?_)
  refine okN.z hX9 (by decide) (by decide) (fun X16 hX16 => ?_)
  refine okN.z hX16 (by decide) (by decide) (fun X23 hX23 => ?_)
  refine okN.z hX23 (by decide) (by decide) (fun X30 hX30 => ?_)
  refine okN.wI hX30 (show 0 ≤ ((0 : Int32)).toInt ∧ ((0 : Int32)).toInt ≤ 3000 from by decide) (by decide) (by decide) (fun X36 hX36 => ?_)
  exact okN.ret hX36
set_option maxHeartbeats 4000000 in
theorem o_ctor_C_61 {f : Nat → Nat} {X : St} (h : CI 49 f X) : okN (ctor_C_61 X) (CI 49 f) := by
  unfold ctor_C_61
  refine okN.wR (d := 49) h (by decide) (by decide) (fun X1 hX1 => ?_)
  refine okN.wR (d := 49) hX1 (by decide) (by decide) (fun X2 hX2 => ?_)
  refine okN.wR (d := 49) hX2 (by decide) (by decide) (fun X3 hX3 => ?_)
  refine okN.wI hX3 (show 0 ≤ ((0 : Int32)).toInt ∧ ((0 : Int32)).toInt ≤ 39 from by decide) (by decide) (by decide) (fun X4 hX4 => ?_)
  refine okN.wI hX4 (show True from trivial) (by decide) (by decide) (fun X5 hX5 => ?_)
  refine okN.wI hX5 (show True from trivial) (by decide) (by decide) (fun X6 hX6 => ?_)
  refine okN.z hX6 (by decide) (by decide) (fun X8 hX8 => ?_)
  refine okN.z hX8 (by decide) (by decide) (fun X15 hX15 => ?_)
  refine okN.z hX15 (by decide) (by decide) (fun X22 hX22 => ?_)
  refine okN.z hX22 (by decide) (by decide) (fun X29 hX29 => ?_)
  refine okN.z hX29 (by decide) (by decide) (fun X36 hX36 => ?_)
  refine okN.z hX36 (by decide) (by decide) (fun X43 hX43 => ?_)
  refine okN.z hX43 (by decide) (by decide) (fun X50 hX50 => ?_)
  refine okN.z hX50 (by decide) (by decide) (fun X57 hX57 => ?_)
  refine okN.wI hX57 (show 0 ≤ ((0 : Int32)).toInt ∧ ((0 : Int32)).toInt ≤ 3000 from by decide) (by decide) (by decide) (fun X63 hX63 => ?_)
  exact okN.ret hX63
set_option maxHeartbeats 4000000 in
theorem o_ctor_C_71 {f : Nat → Nat} {X : St} (h : CI 49 f X) : okN (ctor_C_71 X) (CI 49 f) := by
  unfold ctor_C_71
  refine okN.wI h (show 0 ≤ ((0 : Int32)).toInt ∧ ((0 : Int32)).toInt ≤ 1000 from by decide) (by decide) (by decide) (fun X1 hX1 => ?_)
  refine okN.wI hX1 (show 0 ≤ ((0 : Int32)).toInt ∧ ((0 : Int32)).toInt ≤ 4000 from by decide) (by decide) (by decide) (fun X2 hX2 => ?_)
  refine okN.wI hX2 (show 0 ≤ ((0 : Int32)).toInt ∧ ((0 : Int32)).toInt ≤ 1000 from by decide) (by decide) (by decide) (fun X3 hX3 => ?_)
  refine okN.z hX3 (by decide) (by decide) (fun X5 hX5 => ?_)
  refine okN.z hX5 (by decide) (by decide) (fun X12 hX12 => ?_)
  refine okN.z hX12 (by decide) (by decide) (fun X19 hX19 => ?_)
  refine okN.z hX19 (by decide) (by decide) (fun X26 hX26 => ?_)
  refine okN.z hX26 (by decide) (by decide) (fun X33 hX33 => ?_)
  refine okN.z hX33 (by decide) (by decide) (fun X40 hX40 => ?_)
  refine okN.z hX40 (by decide) (by decide) (fun X47 hX47 => ?_)
  refine okN.z hX47 (by decide) (by decide) (fun X54 hX54 => ?_)
  refine okN.z hX54 (by decide) (by decide) (fun X61 hX61 => ?_)
  refine okN.z hX61 (by decide) (by decide) (fun X68 hX68 => ?_)
  exact okN.ret hX68
set_option maxHeartbeats 4000000 in
theorem o_ctor_C_70 {f : Nat → Nat} {X : St} (h : CI 49 f X) : okN (ctor_C_70 X) (CI 49 f) := by
  unfold ctor_C_70
  refine okN.wR (d := 49) h (by decide) (by decide) (fun X1 hX1 => ?_)
  refine okN.z hX1 (by decide) (by decide) (fun X3 hX3 => ?_)
  refine okN.bN (o_ctor_C_71 hX3) (fun X12 hX12 => ?_)
  refine okN.wR (d := 49) hX12 (by decide) (by decide) (fun X15 hX15 => ?_)
  refine okN.wI hX15 (show True from trivial) (by decide) (by decide) (fun X16 hX16 => ?_)
  refine okN.wI hX16 (show True from trivial) (by decide) (by decide) (fun X17 hX17 => ?_)
  refine okN.wI hX17 (show True from trivial) (by decide) (by decide) (fun X18 hX18 => ?_)
  refine okN.wI hX18 (show True from trivial) (by decide) (by decide) (fun X19 hX19 => ?_)
  refine okN.wI hX19 (show True from trivial) (by decide) (by decide) (fun X20 hX20 => ?_)
  refine okN.wI hX20 (show True from trivial) (by decide) (by decide) (fun X21 hX21 => ?_)
  refine okN.wI hX21 (show True from trivial) (by decide) (by decide) (fun X22 hX22 => ?_)
  refine okN.wI hX22 (show True from trivial) (by decide) (by decide) (fun X23 hX23 => ?_)
  refine okN.wI hX23 (show 0 ≤ ((0 : Int32)).toInt ∧ ((0 : Int32)).toInt ≤ 100 from by decide) (by decide) (by decide) (fun X24 hX24 => ?_)
  refine okN.z hX24 (by decide) (by decide) (fun X26 hX26 => ?_)
  refine okN.z hX26 (by decide) (by decide) (fun X33 hX33 => ?_)
  refine okN.z hX33 (by decide) (by decide) (fun X40 hX40 => ?_)
  refine okN.wI hX40 (show 0 ≤ ((0 : Int32)).toInt ∧ ((0 : Int32)).toInt ≤ 20002 from by decide) (by decide) (by decide) (fun X46 hX46 => ?_)
  refine okN.z hX46 (by decide) (by decide) (fun X48 hX48 => ?_)
  refine okN.z hX48 (by decide) (by decide) (fun X55 hX55 => ?_)
  refine okN.wI hX55 (show 0 ≤ ((0 : Int32)).toInt ∧ ((0 : Int32)).toInt ≤ 200 from by decide) (by decide) (by decide) (fun X61 hX61 => ?_)
  refine okN.z hX61 (by decide) (by decide) (fun X63 hX63 => ?_)
  exact okN.ret hX63
set_option maxHeartbeats 4000000 in
theorem o_ctor_C {f : Nat → Nat} {X : St} (h : CI 0 f X) : okN (ctor_C X) (CI 49 (fun j => if j = 2 then 25 else (fun j => if j = 9 then 3 else f j) j)) := by
  unfold ctor_C
  refine okN.z h (by decide) (by decide) (fun X2 hX2 => ?_)
  refine okN.wI hX2 (show 0 ≤ ((0 : Int32)).toInt ∧ ((0 : Int32)).toInt ≤ 3000 from by decide) (by decide) (by decide) (fun X8 hX8 => ?_)
  refine okN.z hX8 (by decide) (by decide) (fun X10 hX10 => ?_)
  refine okN.bN (o_ctor_C_2 hX10) (fun X19 hX19 => ?_)
  refine okN.wR0 (d := 3) hX19 (by decide) (fun X22 hX22 => ?_)
  refine okN.z hX22 (by decide) (by decide) (fun X24 hX24 => ?_)
  refine okN.bN (o_ctor_C_24 hX24) (fun X33 hX33 => ?_)
  refine okN.wR0 (d := 25) hX33 (by decide) (fun X36 hX36 => ?_)
  refine okN.wI hX36 (show True from trivial) (by decide) (by decide) (fun X37 hX37 => ?_)
  refine okN.wI hX37 (show True from trivial) (by decide) (by decide) (fun X38 hX38 => ?_)
  refine okN.wI hX38 (show True from trivial) (by decide) (by decide) (fun X39 hX39 => ?_)
  refine okN.z hX39 (by decide) (by decide) (fun X41 hX41 => ?_)
  refine okN.bN (o_ctor_C_46 hX41) (fun X50 hX50 => ?_)
  refine okN.z hX50 (by decide) (by decide) (fun X54 hX54 => ?_)
  refine okN.bN (o_ctor_C_55 hX54) (fun X63 hX63 => ?_)
  refine okN.z hX63 (by decide) (by decide) (fun X67 hX67 => ?_)
  refine okN.bN (o_ctor_C_61 hX67) (fun X76 hX76 => ?_)
  refine okN.z hX76 (by decide) (by decide) (fun X80 hX80 => ?_)
  refine okN.bN (o_ctor_C_70 hX80) (fun X89 hX89 => ?_)
  refine okN.wI hX89 (show True from trivial) (by decide) (by decide) (fun X92 hX92 => ?_)
  refine okN.wI hX92 (show True from trivial) (by decide) (by decide) (fun X93 hX93 => ?_)
  exact okN.ret hX93
theorem CI_Z0 : CI 0 (fun _ => 0) Z0 := ⟨⟨fun e k => OKC0 e k, fun r => (show (0 : Int) + 0 ≤ 4000 from by decide)⟩, fun _ _ => Nat.le_refl 0, rfl, rfl, rfl, rfl, rfl⟩
/-- the class as it is made -/
theorem ctor_C_ok : okN (ctor_C Z0) (fun X => JC X ∧ (X.1 0 1).toInt = 0) := by
  refine okN.mono (o_ctor_C CI_Z0) ?_
  rintro X ⟨hI, -, hf, h01, h21, h26, h19⟩
  refine ⟨⟨hI, Or.inl ⟨by rw [hf]; rfl, by rw [hf]; rfl, fun j hj => ?_, fun k hk => ?_⟩⟩, h01⟩
  · rw [h26] at hj
    omega
  · rw [h21] at hk
    obtain rfl : k = 0 := by omega
    rw [h19, h26]
    exact Int.le_refl _
