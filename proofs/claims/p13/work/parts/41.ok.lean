/-! the pure part: a function answers, and what holds then -/
def ok {ρ : Type} (F : Option (ρ × St)) (Q : ρ → St → Prop) : Prop := ∃ r X, F = some (r, X) ∧ Q r X
section OK
variable {ρ ρ1 τ : Type} {Q : ρ → St → Prop} {A B : Option (ρ × St)}
theorem ok.ret {r : ρ} {X : St} (h : Q r X) : ok (some (r, X)) Q := ⟨r, X, rfl, h⟩
theorem ok.ite {c : Prop} [Decidable c] (h1 : c → ok A Q) (h2 : ¬ c → ok B Q) : ok (if c then A else B) Q := by
  by_cases h : c
  · rw [if_pos h]; exact h1 h
  · rw [if_neg h]; exact h2 h
theorem ok.ck {c : Prop} [Decidable c] (hc : c) (h : ok A Q) : ok (chk c A) Q := by
  show ok (if c then A else none) Q
  rw [if_pos hc]; exact h
theorem ok.letV {v : τ} {K : τ → Option (ρ × St)} (h : ok (K v) Q) : ok (letV v K) Q := h
theorem ok.letE {v v1 : τ} {K : τ → Option (ρ × St)} (e : v = v1) (h : ok (K v1) Q) : ok (_root_.Jvm.Pilot.CBlameCourtLaw_law_r8381_f30dd1.letV v K) Q := by
  subst e; exact h
theorem ok.any {v : τ} {K : τ → Option (ρ × St)} (h : ∀ z, ok (K z) Q) : ok (_root_.Jvm.Pilot.CBlameCourtLaw_law_r8381_f30dd1.letV v K) Q := h v
theorem ok.eqv {v : τ} {K : τ → Option (ρ × St)} (h : ∀ z, z = v → ok (K z) Q) : ok (_root_.Jvm.Pilot.CBlameCourtLaw_law_r8381_f30dd1.letV v K) Q := h v rfl
theorem ok.add {x y : Int32} {K : Int32 → Option (ρ × St)} (hb : -2147483648 ≤ x.toInt + y.toInt ∧ x.toInt + y.toInt ≤ 2147483647) (h : ∀ z : Int32, z.toInt = x.toInt + y.toInt → ok (K z) Q) : ok (_root_.Jvm.Pilot.CBlameCourtLaw_law_r8381_f30dd1.letV (x + y) K) Q := h _ (ti_add hb.1 hb.2)
theorem ok.sub {x y : Int32} {K : Int32 → Option (ρ × St)} (hb : -2147483648 ≤ x.toInt - y.toInt ∧ x.toInt - y.toInt ≤ 2147483647) (h : ∀ z : Int32, z.toInt = x.toInt - y.toInt → ok (K z) Q) : ok (_root_.Jvm.Pilot.CBlameCourtLaw_law_r8381_f30dd1.letV (x - y) K) Q := h _ (ti_sub hb.1 hb.2)
theorem ok.mul {x y : Int32} {K : Int32 → Option (ρ × St)} (hb : -2147483648 ≤ x.toInt * y.toInt ∧ x.toInt * y.toInt ≤ 2147483647) (h : ∀ z : Int32, z.toInt = x.toInt * y.toInt → ok (K z) Q) : ok (_root_.Jvm.Pilot.CBlameCourtLaw_law_r8381_f30dd1.letV (x * y) K) Q := h _ (ti_mul hb.1 hb.2)
theorem ok.inc {x : Int32} {c : Int} {K : Int32 → Option (ρ × St)} (hc : (Int32.ofInt c).toInt = c) (hb : -2147483648 ≤ x.toInt + c ∧ x.toInt + c ≤ 2147483647) (h : ∀ z : Int32, z.toInt = x.toInt + c → ok (K z) Q) : ok (_root_.Jvm.Pilot.CBlameCourtLaw_law_r8381_f30dd1.letV (x + Int32.ofInt c) K) Q := h _ (by rw [ti_add (by rw [hc]; exact hb.1) (by rw [hc]; exact hb.2), hc])
theorem ok.bd {G : Option (ρ1 × St)} {K : ρ1 → St → Option (ρ × St)} {R : ρ1 → St → Prop} (hG : ok G R) (h : ∀ r X, R r X → ok (K r X) Q) : ok (bnd G K) Q := by
  obtain ⟨r, X, e, hr⟩ := hG
  subst e
  exact h r X hr
theorem ok.mono {R : ρ → St → Prop} (hA : ok A R) (h : ∀ r X, R r X → Q r X) : ok A Q := by
  obtain ⟨r, X, e, hr⟩ := hA
  exact ⟨r, X, e, h r X hr⟩
end OK
theorem ltBIG {a : Nat} (h : a < 100000) : a < BIG := Nat.lt_of_lt_of_le h (by decide)
def cod (Y : List Ent) (e k : Nat) : Nat := if (eY Y e).1 = 0 then e * 200 + k else e * 200
/-- all but what L tells stays -/
def Fr (Y : List Ent) (L : List Nat) (X X1 : St) : Prop := (∀ e k, cod Y e k ∉ L → X1.1 e k = X.1 e k) ∧ (∀ e k, cod Y e k ∉ L → X1.2.1 e k = X.2.1 e k) ∧ (∀ e k, cod Y e k ∉ L → X1.2.2 e k = X.2.2 e k)
section FRS
variable {Y : List Ent} {L L1 : List Nat} {X X1 X2 : St}
theorem Fr.rf : Fr Y L X X := ⟨fun _ _ _ => rfl, fun _ _ _ => rfl, fun _ _ _ => rfl⟩
theorem Fr.nil (h : Fr Y [] X X1) : X1 = X := Prod.ext (funext (fun e => funext (fun k => h.1 e k List.not_mem_nil))) (Prod.ext (funext (fun e => funext (fun k => h.2.1 e k List.not_mem_nil))) (funext (fun e => funext (fun k => h.2.2 e k List.not_mem_nil))))
theorem Fr.tr (h : Fr Y L X X1) (g : Fr Y L1 X1 X2) (hs : ∀ k ∈ L1, k ∈ L) : Fr Y L X X2 := ⟨fun e k hk => (g.1 e k (fun q => hk (hs _ q))).trans (h.1 e k hk), fun e k hk => (g.2.1 e k (fun q => hk (hs _ q))).trans (h.2.1 e k hk), fun e k hk => (g.2.2 e k (fun q => hk (hs _ q))).trans (h.2.2 e k hk)⟩
theorem uA_off {T : Type} {α : Nat → Nat → T} {e j k : Nat} {f : Nat → T} (h : ¬ (j = e ∧ f k ≠ α e k)) : uA α e f j k = α j k := by
  by_cases q : j = e
  · subst q
    rw [uA_at]
    exact Classical.byContradiction (fun g => h ⟨rfl, g⟩)
  · rw [uA_ne _ _ _ q]
theorem Fr.wI (h : Fr Y L X X1) (e k : Nat) (v : Int32) (hk : cod Y e k ∈ L) : Fr Y L X (_root_.Jvm.Pilot.CBlameCourtLaw_law_r8381_f30dd1.wI X1 e k v) := ⟨fun j i hj => by
  refine (uA_off ?_).trans (h.1 j i hj)
  rintro ⟨rfl, q⟩
  apply q
  show (if i = k then v else X1.1 j i) = _
  rw [if_neg]
  rintro rfl
  exact hj hk, h.2.1, h.2.2⟩
theorem Fr.wL (h : Fr Y L X X1) (e k : Nat) (v : Int64) (hk : cod Y e k ∈ L) : Fr Y L X (_root_.Jvm.Pilot.CBlameCourtLaw_law_r8381_f30dd1.wL X1 e k v) := ⟨h.1, fun j i hj => by
  refine (uA_off ?_).trans (h.2.1 j i hj)
  rintro ⟨rfl, q⟩
  apply q
  show (if i = k then v else X1.2.1 j i) = _
  rw [if_neg]
  rintro rfl
  exact hj hk, h.2.2⟩
theorem Fr.wR (h : Fr Y L X X1) (e k : Nat) (v : Nat) (hk : cod Y e k ∈ L) : Fr Y L X (_root_.Jvm.Pilot.CBlameCourtLaw_law_r8381_f30dd1.wR X1 e k v) := ⟨h.1, h.2.1, fun j i hj => by
  refine (uA_off ?_).trans (h.2.2 j i hj)
  rintro ⟨rfl, q⟩
  apply q
  show (if i = k then v else X1.2.2 j i) = _
  rw [if_neg]
  rintro rfl
  exact hj hk⟩
end FRS
set_option maxHeartbeats 4000000 in
set_option maxRecDepth 100000 in
theorem s_f_in (p0 : Int32) (p1 : Int32) (p2 : Int32) (X : St) : ok (f_in p0 p1 p2 X) (fun r X1 => Fr YR [] X X1 ∧ ((r.toInt = 1 ∧ p1.toInt ≤ p0.toInt ∧ p0.toInt ≤ p2.toInt) ∨ (r.toInt = 0 ∧ (p0.toInt < p1.toInt ∨ p2.toInt < p0.toInt)))) := by
  unfold f_in
  refine ok.ite (fun c1 => ?_) (fun c1 => ?_)
  · skip
    exact ok.ret ⟨Fr.rf, (show ((0 : Int) = 1 ∧ p1.toInt ≤ p0.toInt ∧ p0.toInt ≤ p2.toInt) ∨ ((0 : Int) = 0 ∧ (p0.toInt < p1.toInt ∨ p2.toInt < p0.toInt)) from by omega)⟩
  · skip
    refine ok.ite (fun c2 => ?_) (fun c2 => ?_)
    · skip
      exact ok.ret ⟨Fr.rf, (show ((0 : Int) = 1 ∧ p1.toInt ≤ p0.toInt ∧ p0.toInt ≤ p2.toInt) ∨ ((0 : Int) = 0 ∧ (p0.toInt < p1.toInt ∨ p2.toInt < p0.toInt)) from by omega)⟩
    · skip
      exact ok.ret ⟨Fr.rf, (show ((1 : Int) = 1 ∧ p1.toInt ≤ p0.toInt ∧ p0.toInt ≤ p2.toInt) ∨ ((1 : Int) = 0 ∧ (p0.toInt < p1.toInt ∨ p2.toInt < p0.toInt)) from by omega)⟩
set_option maxHeartbeats 4000000 in
set_option maxRecDepth 100000 in
theorem s0_f_letterOf (p0 : Int32) (X : St) : ok (f_letterOf p0 X) (fun r X1 => Fr YR [] X X1 ∧ (0 ≤ r.toInt ∧ r.toInt ≤ 52 ∧ (r.toInt = 0 ∨ 65 ≤ p0.toInt))) := by
  unfold f_letterOf
  refine ok.bd (s_f_in _ _ _ _) ?_
  rintro x1 X_2 ⟨hFh1, hh1⟩
  obtain rfl : X = X_2 := (Fr.nil hFh1).symm
  have hh1 : ((x1.toInt = 1 ∧ (97 : Int) ≤ p0.toInt ∧ p0.toInt ≤ (122 : Int)) ∨ (x1.toInt = 0 ∧ (p0.toInt < (97 : Int) ∨ (122 : Int) < p0.toInt))) := hh1
  refine ok.ite (fun c3 => ?_) (fun c3 => ?_)
  · skip
    refine ok.bd (s_f_in _ _ _ _) ?_
    rintro x3 X_5 ⟨hFh4, hh4⟩
    obtain rfl : X = X_5 := (Fr.nil hFh4).symm
    have hh4 : ((x3.toInt = 1 ∧ (65 : Int) ≤ p0.toInt ∧ p0.toInt ≤ (90 : Int)) ∨ (x3.toInt = 0 ∧ (p0.toInt < (65 : Int) ∨ (90 : Int) < p0.toInt))) := hh4
    refine ok.ite (fun c6 => ?_) (fun c6 => ?_)
    · skip
      exact ok.ret ⟨Fr.rf, (show 0 ≤ (0 : Int) ∧ (0 : Int) ≤ 52 ∧ ((0 : Int) = 0 ∨ 65 ≤ p0.toInt) from by omega)⟩
    · skip
      refine ok.sub (show _ ≤ p0.toInt - (38 : Int) ∧ p0.toInt - (38 : Int) ≤ _ from by omega) (fun x5 hx5 => ?_)
      have hx5 : x5.toInt = p0.toInt - (38 : Int) := hx5
      exact ok.ret ⟨Fr.rf, (show 0 ≤ x5.toInt ∧ x5.toInt ≤ 52 ∧ (x5.toInt = 0 ∨ 65 ≤ p0.toInt) from by omega)⟩
  · skip
    refine ok.sub (show _ ≤ p0.toInt - (96 : Int) ∧ p0.toInt - (96 : Int) ≤ _ from by omega) (fun x6 hx6 => ?_)
    have hx6 : x6.toInt = p0.toInt - (96 : Int) := hx6
    exact ok.ret ⟨Fr.rf, (show 0 ≤ x6.toInt ∧ x6.toInt ≤ 52 ∧ (x6.toInt = 0 ∨ 65 ≤ p0.toInt) from by omega)⟩
theorem in_pure (a b c : Int32) : ∃ r, ∀ X, f_in a b c X = some (r, X) := by
  unfold f_in
  by_cases h1 : a.toInt < b.toInt
  · exact ⟨0, fun X => by rw [if_pos h1]⟩
  · by_cases h2 : c.toInt < a.toInt
    · exact ⟨0, fun X => by rw [if_neg h1, if_pos h2]⟩
    · exact ⟨1, fun X => by rw [if_neg h1, if_neg h2]⟩
theorem letter_pure (x : Int32) : ∃ r, ∀ X, f_letterOf x X = some (r, X) := by
  obtain ⟨r1, h1⟩ := in_pure x 97 122
  obtain ⟨r2, h2⟩ := in_pure x 65 90
  by_cases c1 : r1.toInt = 0
  · by_cases c2 : r2.toInt = 0
    · exact ⟨0, fun X => by unfold f_letterOf; rw [h1]; show (if r1.toInt = 0 then _ else _) = _; rw [if_pos c1, h2]; show (if r2.toInt = 0 then _ else _) = _; rw [if_pos c2]⟩
    · exact ⟨x - 38, fun X => by unfold f_letterOf; rw [h1]; show (if r1.toInt = 0 then _ else _) = _; rw [if_pos c1, h2]; show (if r2.toInt = 0 then _ else _) = _; rw [if_neg c2]; rfl⟩
  · exact ⟨x - 96, fun X => by unfold f_letterOf; rw [h1]; show (if r1.toInt = 0 then _ else _) = _; rw [if_neg c1]; rfl⟩
noncomputable def letF (x : Int32) : Int32 := Classical.choose (letter_pure x)
theorem letF_eq (x : Int32) (X : St) : f_letterOf x X = some (letF x, X) := Classical.choose_spec (letter_pure x) X
theorem s_f_letterOf (p0 : Int32) (X : St) : ok (f_letterOf p0 X) (fun r X1 => Fr YR [] X X1 ∧ (r.toInt = (letF p0).toInt ∧ 0 ≤ r.toInt ∧ r.toInt ≤ 52 ∧ (r.toInt = 0 ∨ 65 ≤ p0.toInt))) := by
  obtain ⟨r, X1, e, -, h⟩ := s0_f_letterOf p0 X
  have e2 := letF_eq p0 X
  rw [e] at e2
  injection e2 with e2
  injection e2 with e3 e4
  subst e3
  subst e4
  exact ⟨_, _, e, Fr.rf, rfl, h⟩
set_option maxHeartbeats 4000000 in
set_option maxRecDepth 100000 in
theorem s_f_put (p1 : Int32) (X : St) (hy0 : 0 ≤ (X.1 0 0).toInt ∧ (X.1 0 0).toInt ≤ 2996) : ok (f_put p1 X) (fun r X1 => Fr YR [0, 200] X X1 ∧ ((X1.1 0 0).toInt = (X.1 0 0).toInt + 4)) := by
  unfold f_put
  refine ok.letE (v1 := (X.1 0 0)) rfl ?_
  refine ok.any (fun x2 => ?_)
  refine ok.any (fun x3 => ?_)
  refine ok.ck (show 0 ≤ (X.1 0 0).toInt ∧ (X.1 0 0).toInt < ((3000 : Nat) : Int) from by omega) ?_
  refine ok.letV ?_
  refine ok.letE (v1 := (X.1 0 0)) rfl ?_
  refine ok.add (show _ ≤ (X.1 0 0).toInt + (1 : Int) ∧ (X.1 0 0).toInt + (1 : Int) ≤ _ from by omega) (fun x6 hx6 => ?_)
  have hx6 : x6.toInt = (X.1 0 0).toInt + (1 : Int) := hx6
  refine ok.any (fun x7 => ?_)
  refine ok.any (fun x8 => ?_)
  refine ok.ck (show 0 ≤ x6.toInt ∧ x6.toInt < ((3000 : Nat) : Int) from by omega) ?_
  refine ok.letV ?_
  refine ok.letE (v1 := (X.1 0 0)) rfl ?_
  refine ok.add (show _ ≤ (X.1 0 0).toInt + (2 : Int) ∧ (X.1 0 0).toInt + (2 : Int) ≤ _ from by omega) (fun x11 hx11 => ?_)
  have hx11 : x11.toInt = (X.1 0 0).toInt + (2 : Int) := hx11
  refine ok.any (fun x12 => ?_)
  refine ok.any (fun x13 => ?_)
  refine ok.ck (show 0 ≤ x11.toInt ∧ x11.toInt < ((3000 : Nat) : Int) from by omega) ?_
  refine ok.letV ?_
  refine ok.letE (v1 := (X.1 0 0)) rfl ?_
  refine ok.add (show _ ≤ (X.1 0 0).toInt + (3 : Int) ∧ (X.1 0 0).toInt + (3 : Int) ≤ _ from by omega) (fun x16 hx16 => ?_)
  have hx16 : x16.toInt = (X.1 0 0).toInt + (3 : Int) := hx16
  refine ok.any (fun x17 => ?_)
  refine ok.ck (show 0 ≤ x16.toInt ∧ x16.toInt < ((3000 : Nat) : Int) from by omega) ?_
  refine ok.letV ?_
  refine ok.letE (v1 := (X.1 0 0)) rfl ?_
  refine ok.add (show _ ≤ (X.1 0 0).toInt + (4 : Int) ∧ (X.1 0 0).toInt + (4 : Int) ≤ _ from by omega) (fun x20 hx20 => ?_)
  have hx20 : x20.toInt = (X.1 0 0).toInt + (4 : Int) := hx20
  refine ok.letV ?_
  exact ok.ret ⟨(((((Fr.rf.wI 1 (ix (X.1 0 0)) _ (show (200 : Nat) ∈ [0, 200] from by decide)).wI 1 (ix x6) _ (show (200 : Nat) ∈ [0, 200] from by decide)).wI 1 (ix x11) _ (show (200 : Nat) ∈ [0, 200] from by decide)).wI 1 (ix x16) _ (show (200 : Nat) ∈ [0, 200] from by decide)).wI 0 0 _ (show (0 : Nat) ∈ [0, 200] from by decide)), (show x20.toInt = (X.1 0 0).toInt + 4 from by omega)⟩
set_option maxHeartbeats 4000000 in
set_option maxRecDepth 100000 in
theorem s_f_feed (p1 : Int32) (p2 : Int32) (p3 : Int32) (p4 : Int32) (p5 : Int32) (X : St) (hy0 : 0 ≤ (X.1 0 0).toInt ∧ (X.1 0 0).toInt ≤ 3000) : ok (f_feed p1 p2 p3 p4 p5 X) (fun r X1 => Fr YR [0, 200] X X1 ∧ (((X1.1 0 0).toInt = (X.1 0 0).toInt + 20 ∧ (X.1 0 0).toInt ≤ 2980 ∧ r.toInt = (X1.1 0 0).toInt) ∨ ((X1.1 0 0).toInt = (X.1 0 0).toInt ∧ 2980 < (X.1 0 0).toInt ∧ r.toInt = -1))) := by
  unfold f_feed
  refine ok.letE (v1 := (X.1 0 0)) rfl ?_
  refine ok.add (show _ ≤ (X.1 0 0).toInt + (20 : Int) ∧ (X.1 0 0).toInt + (20 : Int) ≤ _ from by omega) (fun x2 hx2 => ?_)
  have hx2 : x2.toInt = (X.1 0 0).toInt + (20 : Int) := hx2
  refine ok.ite (fun c1 => ?_) (fun c1 => ?_)
  · skip
    refine ok.bd (s_f_put _ _ (show 0 ≤ (X.1 0 0).toInt ∧ (X.1 0 0).toInt ≤ 2996 from by omega)) ?_
    rintro r_4 X_3 ⟨hFh2, hh2⟩
    have hh2 : ((X_3.1 0 0).toInt = (X.1 0 0).toInt + 4) := hh2
    refine ok.bd (s_f_put _ _ (show 0 ≤ (X_3.1 0 0).toInt ∧ (X_3.1 0 0).toInt ≤ 2996 from by omega)) ?_
    rintro r_7 X_6 ⟨hFh5, hh5⟩
    have hh5 : ((X_6.1 0 0).toInt = (X_3.1 0 0).toInt + 4) := hh5
    refine ok.bd (s_f_put _ _ (show 0 ≤ (X_6.1 0 0).toInt ∧ (X_6.1 0 0).toInt ≤ 2996 from by omega)) ?_
    rintro r_10 X_9 ⟨hFh8, hh8⟩
    have hh8 : ((X_9.1 0 0).toInt = (X_6.1 0 0).toInt + 4) := hh8
    refine ok.bd (s_f_put _ _ (show 0 ≤ (X_9.1 0 0).toInt ∧ (X_9.1 0 0).toInt ≤ 2996 from by omega)) ?_
    rintro r_13 X_12 ⟨hFh11, hh11⟩
    have hh11 : ((X_12.1 0 0).toInt = (X_9.1 0 0).toInt + 4) := hh11
    refine ok.bd (s_f_put _ _ (show 0 ≤ (X_12.1 0 0).toInt ∧ (X_12.1 0 0).toInt ≤ 2996 from by omega)) ?_
    rintro r_16 X_15 ⟨hFh14, hh14⟩
    have hh14 : ((X_15.1 0 0).toInt = (X_12.1 0 0).toInt + 4) := hh14
    refine ok.letE (v1 := (X_15.1 0 0)) rfl ?_
    exact ok.ret ⟨(((((Fr.rf.tr hFh2 (by decide)).tr hFh5 (by decide)).tr hFh8 (by decide)).tr hFh11 (by decide)).tr hFh14 (by decide)), (show ((X_15.1 0 0).toInt = (X.1 0 0).toInt + 20 ∧ (X.1 0 0).toInt ≤ 2980 ∧ (X_15.1 0 0).toInt = (X_15.1 0 0).toInt) ∨ ((X_15.1 0 0).toInt = (X.1 0 0).toInt ∧ 2980 < (X.1 0 0).toInt ∧ (X_15.1 0 0).toInt = -1) from by omega)⟩
  · skip
    exact ok.ret ⟨Fr.rf, (show ((X.1 0 0).toInt = (X.1 0 0).toInt + 20 ∧ (X.1 0 0).toInt ≤ 2980 ∧ (-1 : Int) = (X.1 0 0).toInt) ∨ ((X.1 0 0).toInt = (X.1 0 0).toInt ∧ 2980 < (X.1 0 0).toInt ∧ (-1 : Int) = -1) from by omega)⟩
set_option maxHeartbeats 4000000 in
set_option maxRecDepth 100000 in
theorem s_f_end (p1 : Int32) (X : St) (hy0 : 0 ≤ (X.1 0 0).toInt ∧ (X.1 0 0).toInt ≤ 3000) : ok (f_end p1 X) (fun r X1 => Fr YR [0] X X1 ∧ (((X1.1 0 0).toInt = p1.toInt ∧ 0 ≤ p1.toInt ∧ p1.toInt ≤ (X.1 0 0).toInt ∧ r.toInt = p1.toInt) ∨ ((X1.1 0 0).toInt = (X.1 0 0).toInt ∧ (p1.toInt < 0 ∨ (X.1 0 0).toInt < p1.toInt) ∧ r.toInt = -1))) := by
  unfold f_end
  refine ok.letE (v1 := (X.1 0 0)) rfl ?_
  refine ok.bd (s_f_in _ _ _ _) ?_
  rintro x2 X_2 ⟨hFh1, hh1⟩
  obtain rfl : X = X_2 := (Fr.nil hFh1).symm
  have hh1 : ((x2.toInt = 1 ∧ (0 : Int) ≤ p1.toInt ∧ p1.toInt ≤ (X.1 0 0).toInt) ∨ (x2.toInt = 0 ∧ (p1.toInt < (0 : Int) ∨ (X.1 0 0).toInt < p1.toInt))) := hh1
  refine ok.ite (fun c3 => ?_) (fun c3 => ?_)
  · skip
    exact ok.ret ⟨Fr.rf, (show ((X.1 0 0).toInt = p1.toInt ∧ 0 ≤ p1.toInt ∧ p1.toInt ≤ (X.1 0 0).toInt ∧ (-1 : Int) = p1.toInt) ∨ ((X.1 0 0).toInt = (X.1 0 0).toInt ∧ (p1.toInt < 0 ∨ (X.1 0 0).toInt < p1.toInt) ∧ (-1 : Int) = -1) from by omega)⟩
  · skip
    refine ok.letV ?_
    exact ok.ret ⟨(Fr.rf.wI 0 0 _ (show (0 : Nat) ∈ [0] from by decide)), (show (p1.toInt = p1.toInt ∧ 0 ≤ p1.toInt ∧ p1.toInt ≤ (X.1 0 0).toInt ∧ p1.toInt = p1.toInt) ∨ (p1.toInt = (X.1 0 0).toInt ∧ (p1.toInt < 0 ∨ (X.1 0 0).toInt < p1.toInt) ∧ p1.toInt = -1) from by omega)⟩
set_option maxHeartbeats 4000000 in
set_option maxRecDepth 100000 in
theorem s_f_isWell (X : St) : ok (f_isWell X) (fun r X1 => Fr YR [] X X1 ∧ ((r.toInt = 1 ∧ (X.1 0 9).toInt = 0) ∨ (r.toInt = 0 ∧ ¬ (X.1 0 9).toInt = 0))) := by
  unfold f_isWell
  refine ok.letE (v1 := (X.1 0 9)) rfl ?_
  refine ok.ite (fun c1 => ?_) (fun c1 => ?_)
  · skip
    exact ok.ret ⟨Fr.rf, (show ((1 : Int) = 1 ∧ (X.1 0 9).toInt = 0) ∨ ((1 : Int) = 0 ∧ ¬ (X.1 0 9).toInt = 0) from by omega)⟩
  · skip
    exact ok.ret ⟨Fr.rf, (show ((0 : Int) = 1 ∧ (X.1 0 9).toInt = 0) ∨ ((0 : Int) = 0 ∧ ¬ (X.1 0 9).toInt = 0) from by omega)⟩
set_option maxHeartbeats 4000000 in
set_option maxRecDepth 100000 in
theorem s_f_fails (p1 : Int32) (p2 : Int32) (X : St) : ok (f_fails p1 p2 X) (fun r X1 => Fr YR [9, 10] X X1 ∧ (((X.1 0 9).toInt = 0 ∧ (X1.1 0 9).toInt = p1.toInt) ∨ (¬ (X.1 0 9).toInt = 0 ∧ (X1.1 0 9).toInt = (X.1 0 9).toInt))) := by
  unfold f_fails
  refine ok.letE (v1 := (X.1 0 9)) rfl ?_
  refine ok.ite (fun c1 => ?_) (fun c1 => ?_)
  · skip
    refine ok.letV ?_
    refine ok.letV ?_
    exact ok.ret ⟨((Fr.rf.wI 0 9 _ (show (9 : Nat) ∈ [9, 10] from by decide)).wI 0 10 _ (show (10 : Nat) ∈ [9, 10] from by decide)), (show ((X.1 0 9).toInt = 0 ∧ p1.toInt = p1.toInt) ∨ (¬ (X.1 0 9).toInt = 0 ∧ p1.toInt = (X.1 0 9).toInt) from by omega)⟩
  · skip
    exact ok.ret ⟨Fr.rf, (show ((X.1 0 9).toInt = 0 ∧ (X.1 0 9).toInt = p1.toInt) ∨ (¬ (X.1 0 9).toInt = 0 ∧ (X.1 0 9).toInt = (X.1 0 9).toInt) from by omega)⟩
set_option maxHeartbeats 4000000 in
set_option maxRecDepth 100000 in
theorem s_f_stray (X : St) : ok (f_stray X) (fun r X1 => Fr YR [9, 10] X X1 ∧ (¬ (X1.1 0 9).toInt = 0)) := by
  unfold f_stray
  refine ok.letE (v1 := (X.1 0 6)) rfl ?_
  refine ok.bd (s_f_fails _ _ _) ?_
  rintro r_3 X_2 ⟨hFh1, hh1⟩
  have hh1 : (((X.1 0 9).toInt = 0 ∧ (X_2.1 0 9).toInt = (1 : Int)) ∨ (¬ (X.1 0 9).toInt = 0 ∧ (X_2.1 0 9).toInt = (X.1 0 9).toInt)) := hh1
  exact ok.ret ⟨(Fr.rf.tr hFh1 (by decide)), (show ¬ (X_2.1 0 9).toInt = 0 from by omega)⟩
set_option maxHeartbeats 4000000 in
set_option maxRecDepth 100000 in
theorem s_f_isSign (p1 : Int32) (X : St) : ok (f_isSign p1 X) (fun r X1 => Fr YR [] X X1 ∧ ((r.toInt = 1 ∧ (X.1 0 9).toInt = 0 ∧ (X.1 0 7).toInt = 4) ∨ r.toInt = 0)) := by
  unfold f_isSign
  refine ok.bd (s_f_isWell  _) ?_
  rintro x1 X_2 ⟨hFh1, hh1⟩
  obtain rfl : X = X_2 := (Fr.nil hFh1).symm
  have hh1 : ((x1.toInt = 1 ∧ (X.1 0 9).toInt = 0) ∨ (x1.toInt = 0 ∧ ¬ (X.1 0 9).toInt = 0)) := hh1
  refine ok.ite (fun c3 => ?_) (fun c3 => ?_)
  · skip
    exact ok.ret ⟨Fr.rf, (show ((0 : Int) = 1 ∧ (X.1 0 9).toInt = 0 ∧ (X.1 0 7).toInt = 4) ∨ (0 : Int) = 0 from by omega)⟩
  · skip
    refine ok.letE (v1 := (X.1 0 7)) rfl ?_
    refine ok.ite (fun c4 => ?_) (fun c4 => ?_)
    · skip
      refine ok.any (fun y4 => ?_)
      refine ok.any (fun y5 => ?_)
      refine ok.any (fun x6 => ?_)
      refine ok.ite (fun c5 => ?_) (fun c5 => ?_)
      · skip
        exact ok.ret ⟨Fr.rf, (show ((1 : Int) = 1 ∧ (X.1 0 9).toInt = 0 ∧ (X.1 0 7).toInt = 4) ∨ (1 : Int) = 0 from by omega)⟩
      · skip
        exact ok.ret ⟨Fr.rf, (show ((0 : Int) = 1 ∧ (X.1 0 9).toInt = 0 ∧ (X.1 0 7).toInt = 4) ∨ (0 : Int) = 0 from by omega)⟩
    · skip
      exact ok.ret ⟨Fr.rf, (show ((0 : Int) = 1 ∧ (X.1 0 9).toInt = 0 ∧ (X.1 0 7).toInt = 4) ∨ (0 : Int) = 0 from by omega)⟩
set_option maxHeartbeats 4000000 in
set_option maxRecDepth 100000 in
theorem s_f_isWord (p1 : Int32) (X : St) : ok (f_isWord p1 X) (fun r X1 => Fr YR [] X X1 ∧ ((r.toInt = 1 ∧ (X.1 0 9).toInt = 0 ∧ (X.1 0 7).toInt = 2) ∨ r.toInt = 0)) := by
  unfold f_isWord
  refine ok.bd (s_f_isWell  _) ?_
  rintro x1 X_2 ⟨hFh1, hh1⟩
  obtain rfl : X = X_2 := (Fr.nil hFh1).symm
  have hh1 : ((x1.toInt = 1 ∧ (X.1 0 9).toInt = 0) ∨ (x1.toInt = 0 ∧ ¬ (X.1 0 9).toInt = 0)) := hh1
  refine ok.ite (fun c3 => ?_) (fun c3 => ?_)
  · skip
    exact ok.ret ⟨Fr.rf, (show ((0 : Int) = 1 ∧ (X.1 0 9).toInt = 0 ∧ (X.1 0 7).toInt = 2) ∨ (0 : Int) = 0 from by omega)⟩
  · skip
    refine ok.letE (v1 := (X.1 0 7)) rfl ?_
    refine ok.ite (fun c4 => ?_) (fun c4 => ?_)
    · skip
      refine ok.any (fun y4 => ?_)
      refine ok.any (fun y5 => ?_)
      refine ok.any (fun x6 => ?_)
      refine ok.ite (fun c5 => ?_) (fun c5 => ?_)
      · skip
        exact ok.ret ⟨Fr.rf, (show ((1 : Int) = 1 ∧ (X.1 0 9).toInt = 0 ∧ (X.1 0 7).toInt = 2) ∨ (1 : Int) = 0 from by omega)⟩
      · skip
        exact ok.ret ⟨Fr.rf, (show ((0 : Int) = 1 ∧ (X.1 0 9).toInt = 0 ∧ (X.1 0 7).toInt = 2) ∨ (0 : Int) = 0 from by omega)⟩
    · skip
      exact ok.ret ⟨Fr.rf, (show ((0 : Int) = 1 ∧ (X.1 0 9).toInt = 0 ∧ (X.1 0 7).toInt = 2) ∨ (0 : Int) = 0 from by omega)⟩
