/-! stretches of code and their orders -/
def AOL (X : St) (nr : Int → Int) (c : List Ins) : Nat → Bool → Nat → List SE → List Ins → Prop
  | _, _, _, _, [] => True
  | j, b, s, S, a :: d => (AO X nr c j b s S a ∧ NQ a S) ∧ AOL X nr c (j + 1) (decide (a.1 = 34)) (s + wgt b a) (sh1 j a S) d
/-- the code d stands at j -/
def ATc (c : List Ins) (j : Nat) (b : Bool) (s : Nat) (d : List Ins) : Prop := ∃ l1 l2, c = l1 ++ (d ++ l2) ∧ l1.length = j ∧ w34 false l1 = b ∧ owt false l1 = s
/-- a stretch of code, and what it makes of the stack -/
def SGm (X : St) (nr : Int → Int) (c : List Ins) (j : Nat) (b : Bool) (s : Nat) (S : List SE) (d : List Ins) (b1 : Bool) (s1 : Nat) (S1 : List SE) : Prop := AOL X nr c j b s S d ∧ w34 b d = b1 ∧ s + owt b d = s1 ∧ shl j S d = S1
section ATS
variable {X : St} {nr : Int → Int} {c d e : List Ins} {j : Nat} {b b1 b2 : Bool} {s s1 s2 : Nat} {S S1 S2 : List SE} {a : Ins}
theorem w34_app : ∀ (d : List Ins) (b : Bool), w34 b (d ++ e) = w34 (w34 b d) e
  | [], _ => rfl
  | a :: d, _ => w34_app d (decide (a.1 = 34))
theorem owt_app : ∀ (d : List Ins) (b : Bool), owt b (d ++ e) = owt b d + owt (w34 b d) e
  | [], _ => (Nat.zero_add _).symm
  | a :: d, b => by
    show wgt b a + owt (decide (a.1 = 34)) (d ++ e) = wgt b a + owt (decide (a.1 = 34)) d + _
    rw [owt_app d, Nat.add_assoc]
    rfl
theorem shl_app : ∀ (d : List Ins) (j : Nat) (S : List SE), shl j S (d ++ e) = shl (j + d.length) (shl j S d) e
  | [], _, _ => rfl
  | a :: d, j, S => by
    show shl (j + 1) (sh1 j a S) (d ++ e) = shl (j + (d.length + 1)) (shl (j + 1) (sh1 j a S) d) e
    rw [shl_app d, show j + 1 + d.length = j + (d.length + 1) by omega]
theorem AOL_app : ∀ (d : List Ins) (j : Nat) (b : Bool) (s : Nat) (S : List SE), AOL X nr c j b s S (d ++ e) ↔ AOL X nr c j b s S d ∧ AOL X nr c (j + d.length) (w34 b d) (s + owt b d) (shl j S d) e
  | [], _, _, _, _ => ⟨fun h => ⟨trivial, h⟩, fun h => h.2⟩
  | a :: d, j, b, s, S => by
    show _ ∧ AOL X nr c (j + 1) (decide (a.1 = 34)) (s + wgt b a) (sh1 j a S) (d ++ e) ↔ (_ ∧ AOL X nr c (j + 1) (decide (a.1 = 34)) (s + wgt b a) (sh1 j a S) d) ∧ AOL X nr c (j + (d.length + 1)) (w34 (decide (a.1 = 34)) d) (s + (wgt b a + owt (decide (a.1 = 34)) d)) (shl (j + 1) (sh1 j a S) d) e
    rw [AOL_app d, show j + 1 + d.length = j + (d.length + 1) by omega, show s + wgt b a + owt (decide (a.1 = 34)) d = s + (wgt b a + owt (decide (a.1 = 34)) d) by omega]
    exact ⟨fun ⟨a, b, c⟩ => ⟨⟨a, b⟩, c⟩, fun ⟨⟨a, b⟩, c⟩ => ⟨a, b, c⟩⟩
theorem ATc.app (h : ATc c j b s (d ++ e)) : ATc c j b s d ∧ ATc c (j + d.length) (w34 b d) (s + owt b d) e := by
  obtain ⟨l1, l2, h1, h2, h3, h4⟩ := h
  refine ⟨⟨l1, e ++ l2, by rw [h1, List.append_assoc], h2, h3, h4⟩, l1 ++ d, l2, by rw [h1, List.append_assoc, List.append_assoc], by rw [List.length_append, h2], by rw [w34_app, h3], by rw [owt_app, h3, h4]⟩
theorem ATc.cons (h : ATc c j b s (a :: d)) : ATc c (j + 1) (decide (a.1 = 34)) (s + wgt b a) d := (ATc.app (d := [a]) (e := d) h).2
theorem ATc.opl (h : ATc c j b s d) : _root_.Jvm.Pilot.CBlameCourtLaw_law_r8381_f30dd1.opl c j = s := by
  obtain ⟨l1, l2, h1, h2, h3, h4⟩ := h
  unfold _root_.Jvm.Pilot.CBlameCourtLaw_law_r8381_f30dd1.opl
  rw [h1, ← h2, List.take_left, h4]
theorem ATc.get (h : ATc c j b s (a :: d)) : c[j]? = some a := by
  obtain ⟨l1, l2, h1, h2, h3, h4⟩ := h
  rw [h1, ← h2, List.getElem?_append_right (Nat.le_refl _), Nat.sub_self]
  rfl
theorem ATc.pl (h : ATc c j b s (a :: d)) : plc c j = a.2.2.1 := plc_at h.get
theorem SGm.nil : SGm X nr c j b s S [] b s S := ⟨trivial, rfl, rfl, rfl⟩
theorem SGm.app (h : SGm X nr c j b s S d b1 s1 S1) (g : SGm X nr c (j + d.length) b1 s1 S1 e b2 s2 S2) : SGm X nr c j b s S (d ++ e) b2 s2 S2 := by
  obtain ⟨h1, h2, h3, h4⟩ := h
  obtain ⟨g1, g2, g3, g4⟩ := g
  refine ⟨(AOL_app d j b s S).mpr ⟨h1, by rw [h2, h3, h4]; exact g1⟩, by rw [w34_app, h2]; exact g2, by rw [owt_app, h2, ← Nat.add_assoc, h3]; exact g3, by rw [shl_app, h4]; exact g4⟩
theorem SGm.cons (h : AO X nr c j b s S a) (h0 : NQ a S) (h1 : decide (a.1 = 34) = b1) (h2 : s + wgt b a = s1) (h3 : sh1 j a S = S1) (g : SGm X nr c (j + 1) b1 s1 S1 d b2 s2 S2) : SGm X nr c j b s S (a :: d) b2 s2 S2 := by
  subst h1 h2 h3
  obtain ⟨g1, g2, g3, g4⟩ := g
  refine ⟨⟨⟨h, h0⟩, g1⟩, g2, ?_, g4⟩
  rw [← g3]
  show s + (wgt b a + owt (decide (a.1 = 34)) d) = _
  omega
theorem ATc.sg (h : ATc c j b s (d ++ e)) (g : SGm X nr c j b s S d b1 s1 S1) : ATc c (j + d.length) b1 s1 e := by
  have := h.app.2
  rw [g.2.1, g.2.2.1] at this
  exact this
theorem ATc.first {k : Nat} {p : Int} (h : ATc c j b s ((0, 1 + (k : Int), p, []) :: d)) : ATc c (j + 1) false (s + k + 1) d := by
  have g := h.cons
  have e1 : s + wgt b ((0, 1 + (k : Int), p, []) : Ins) = s + k + 1 := by
    show s + (1 + (k : Int)).toNat = _
    omega
  rw [e1] at g
  exact g
theorem SGm.first {k t : Nat} {p : Int} (hk : ∀ m, m < k → ∃ n, OA X (s + m) 0 n ∧ iv X 21 n = p) (h : OA X (s + k) 0 t) (hp : iv X 21 t = p) (g : SGm X nr c (j + 1) false (s + k + 1) S d b2 s2 S2) : SGm X nr c j b s S ((0, 1 + (k : Int), p, []) :: d) b2 s2 S2 := by
  refine SGm.cons (AO.i0 ⟨by omega, fun m hm => ?_⟩) ⟨Nat.zero_le _, fun z => absurd z (by show ¬ (27 : Int) ≤ 0; decide)⟩ rfl ?_ rfl g
  · by_cases e : m = k
    · rw [e]; exact ⟨t, h, hp⟩
    · exact hk m (by omega)
  · show s + (1 + (k : Int)).toNat = _
    omega

theorem SGm.i1 {n : Nat} {x p : Int} {kd : List Int} (h : OA X s 1 n ∧ iv X 26 n = x ∧ iv X 21 n = p) (g : SGm X nr c (j + 1) false (s + 1) ((none, none, 0) :: S) d b2 s2 S2) : SGm X nr c j b s S ((1, x, p, kd) :: d) b2 s2 S2 := SGm.cons (AO.i1 h) ⟨Nat.zero_le _, fun z => absurd z (by show ¬ (27 : Int) ≤ 1; decide)⟩ rfl rfl rfl g
theorem SGm.i2 {n : Nat} {x p : Int} {kd : List Int} (h : OA X s 2 n ∧ iv X 26 n = x ∧ iv X 21 n = p ∧ (x = 0 ∨ x = 1)) (g : SGm X nr c (j + 1) false (s + 1) ((none, none, 0) :: S) d b2 s2 S2) : SGm X nr c j b s S ((2, x, p, kd) :: d) b2 s2 S2 := SGm.cons (AO.i2 h) ⟨Nat.zero_le _, fun z => absurd z (by show ¬ (27 : Int) ≤ 2; decide)⟩ rfl rfl rfl g
theorem SGm.i3 {n : Nat} {x p : Int} {kd : List Int} (h : OA X s 3 n ∧ iv X 26 n = x ∧ iv X 21 n = p) (g : SGm X nr c (j + 1) false (s + 1) ((none, none, 0) :: S) d b2 s2 S2) : SGm X nr c j b s S ((3, x, p, kd) :: d) b2 s2 S2 := SGm.cons (AO.i3 h) ⟨Nat.zero_le _, fun z => absurd z (by show ¬ (27 : Int) ≤ 3; decide)⟩ rfl rfl rfl g
theorem SGm.i4 {n : Nat} {x p : Int} {kd : List Int} (h : OA X s 4 n ∧ iv X 26 n = nr p ∧ iv X 21 n = p) (g : SGm X nr c (j + 1) false (s + 1) ((none, none, 0) :: S) d b2 s2 S2) : SGm X nr c j b s S ((4, x, p, kd) :: d) b2 s2 S2 := SGm.cons (AO.i4 h) ⟨Nat.zero_le _, fun z => absurd z (by show ¬ (27 : Int) ≤ 4; decide)⟩ rfl rfl rfl g
theorem SGm.i5a {n : Nat} {x p : Int} {kd : List Int} (h : OA X s 13 n ∧ iv X 26 n = x) (g : SGm X nr c (j + 1) false (s + 1) (S.drop 1) d b2 s2 S2) (hn : NQ ((5, x, p, kd) : Ins) S := by exact ⟨(by show 1 ≤ List.length _; simp only [List.length_cons, sfm_len, stk_len, sas_len, List.length_append, List.length_replicate]; omega), fun z => absurd z (by show ¬ (27 : Int) ≤ 5; decide)⟩) : SGm X nr c j true s S ((5, x, p, kd) :: d) b2 s2 S2 := SGm.cons (AO.i5 (Or.inl ⟨rfl, h⟩)) hn rfl rfl rfl g
theorem SGm.i5b {n : Nat} {x p : Int} {kd : List Int} (h : OA X s 12 n ∧ iv X 25 n = -1 ∧ OA X (s + 1) 13 n ∧ iv X 26 n = x) (g : SGm X nr c (j + 1) false (s + 2) (S.drop 1) d b2 s2 S2) (hn : NQ ((5, x, p, kd) : Ins) S := by exact ⟨(by show 1 ≤ List.length _; simp only [List.length_cons, sfm_len, stk_len, sas_len, List.length_append, List.length_replicate]; omega), fun z => absurd z (by show ¬ (27 : Int) ≤ 5; decide)⟩) : SGm X nr c j false s S ((5, x, p, kd) :: d) b2 s2 S2 := SGm.cons (AO.i5 (Or.inr ⟨rfl, h⟩)) hn rfl rfl rfl g
theorem SGm.i6 {n : Nat} {x p : Int} {kd : List Int} (h : OA X s 15 n ∧ iv X 46 n = opl c x.toNat ∧ ∃ (m : Nat) (a1 : Ins), x = (m : Int) ∧ c[m]? = some a1) (g : SGm X nr c (j + 1) false (s + 1) (S.drop 1) d b2 s2 S2) (hn : NQ ((6, x, p, kd) : Ins) S := by exact ⟨(by show 1 ≤ List.length _; simp only [List.length_cons, sfm_len, stk_len, sas_len, List.length_append, List.length_replicate]; omega), fun z => absurd z (by show ¬ (27 : Int) ≤ 6; decide)⟩) : SGm X nr c j b s S ((6, x, p, kd) :: d) b2 s2 S2 := SGm.cons (AO.i6 h) hn rfl rfl rfl g
theorem SGm.i7 {n : Nat} {x p : Int} {kd : List Int} (h : OA X s 16 n ∧ iv X 47 n = opl c x.toNat + 1 ∧ ∃ (m : Nat) (a1 : Ins), x = (m : Int) ∧ c[m]? = some a1 ∧ a1.1 = 8) (g : SGm X nr c (j + 1) false (s + 1) (S) d b2 s2 S2) : SGm X nr c j b s S ((7, x, p, kd) :: d) b2 s2 S2 := SGm.cons (AO.i7 h) ⟨Nat.zero_le _, fun z => absurd z (by show ¬ (27 : Int) ≤ 7; decide)⟩ rfl rfl rfl g
theorem SGm.i8 {n : Nat} {x p : Int} {kd : List Int} (h : OA X s 17 n ∧ iv X 21 n = p ∧ ∃ (S1 : List SE) (j1 j2 : Nat), S = (some j2, none, 0) :: (some j1, none, 0) :: S1 ∧ GAT X c (ix (X.1 24 n)) j1 ∧ GAT X c (ix (X.1 25 n)) j2) (g : SGm X nr c (j + 1) false (s + 1) ((none, none, 0) :: S.drop 2) d b2 s2 S2) (hn : NQ ((8, x, p, kd) : Ins) S := by exact ⟨(by show 2 ≤ List.length _; simp only [List.length_cons, sfm_len, stk_len, sas_len, List.length_append, List.length_replicate]; omega), fun z => absurd z (by show ¬ (27 : Int) ≤ 8; decide)⟩) : SGm X nr c j b s S ((8, x, p, kd) :: d) b2 s2 S2 := SGm.cons (AO.i8 h) hn rfl rfl rfl g
theorem SGm.i9 {n : Nat} {x p : Int} {kd : List Int} (h : OA X s 29 n) (g : SGm X nr c (j + 1) false (s + 1) (S.drop 1) d b2 s2 S2) (hn : NQ ((9, x, p, kd) : Ins) S := by exact ⟨(by show 1 ≤ List.length _; simp only [List.length_cons, sfm_len, stk_len, sas_len, List.length_append, List.length_replicate]; omega), fun z => absurd z (by show ¬ (27 : Int) ≤ 9; decide)⟩) : SGm X nr c j b s S ((9, x, p, kd) :: d) b2 s2 S2 := SGm.cons (AO.i9 h) hn rfl rfl rfl g
theorem SGm.i11 {n : Nat} {x p : Int} {kd : List Int} (h : OA X s 19 n ∧ iv X 21 n = p) (g : SGm X nr c (j + 1) false (s + 1) ((none, none, 0) :: S.drop 2) d b2 s2 S2) (hn : NQ ((11, x, p, kd) : Ins) S := by exact ⟨(by show 2 ≤ List.length _; simp only [List.length_cons, sfm_len, stk_len, sas_len, List.length_append, List.length_replicate]; omega), fun z => absurd z (by show ¬ (27 : Int) ≤ 11; decide)⟩) : SGm X nr c j b s S ((11, x, p, kd) :: d) b2 s2 S2 := SGm.cons (AO.i11 h) hn rfl rfl rfl g
theorem SGm.i12 {n : Nat} {x p : Int} {kd : List Int} (h : OA X s 20 n ∧ iv X 21 n = p) (g : SGm X nr c (j + 1) false (s + 1) ((none, none, 0) :: S.drop 1) d b2 s2 S2) (hn : NQ ((12, x, p, kd) : Ins) S := by exact ⟨(by show 1 ≤ List.length _; simp only [List.length_cons, sfm_len, stk_len, sas_len, List.length_append, List.length_replicate]; omega), fun z => absurd z (by show ¬ (27 : Int) ≤ 12; decide)⟩) : SGm X nr c j b s S ((12, x, p, kd) :: d) b2 s2 S2 := SGm.cons (AO.i12 h) hn rfl rfl rfl g
theorem SGm.i13 {n : Nat} {x p : Int} {kd : List Int} (h : OA X s 21 n ∧ iv X 21 n = p) (g : SGm X nr c (j + 1) false (s + 1) ((none, none, 0) :: S.drop 1) d b2 s2 S2) (hn : NQ ((13, x, p, kd) : Ins) S := by exact ⟨(by show 1 ≤ List.length _; simp only [List.length_cons, sfm_len, stk_len, sas_len, List.length_append, List.length_replicate]; omega), fun z => absurd z (by show ¬ (27 : Int) ≤ 13; decide)⟩) : SGm X nr c j b s S ((13, x, p, kd) :: d) b2 s2 S2 := SGm.cons (AO.i13 h) hn rfl rfl rfl g
theorem SGm.i14 {n : Nat} {x p : Int} {kd : List Int} (h : OA X s 26 n ∧ iv X 22 n = p ∧ FM S 1 1) (g : SGm X nr c (j + 1) false (s + 1) ((none, none, 0) :: S.drop 2) d b2 s2 S2) (hn : NQ ((14, x, p, kd) : Ins) S := by exact ⟨(by show 2 ≤ List.length _; simp only [List.length_cons, sfm_len, stk_len, sas_len, List.length_append, List.length_replicate]; omega), fun z => absurd z (by show ¬ (27 : Int) ≤ 14; decide)⟩) : SGm X nr c j b s S ((14, x, p, kd) :: d) b2 s2 S2 := SGm.cons (AO.i14 h) hn rfl rfl rfl g
theorem SGm.i15 {n : Nat} {x p : Int} {kd : List Int} (h : OA X s 27 n ∧ iv X 22 n = p ∧ FM S 2 1) (g : SGm X nr c (j + 1) false (s + 1) ((none, none, 0) :: S.drop 3) d b2 s2 S2) (hn : NQ ((15, x, p, kd) : Ins) S := by exact ⟨(by show 3 ≤ List.length _; simp only [List.length_cons, sfm_len, stk_len, sas_len, List.length_append, List.length_replicate]; omega), fun z => absurd z (by show ¬ (27 : Int) ≤ 15; decide)⟩) : SGm X nr c j b s S ((15, x, p, kd) :: d) b2 s2 S2 := SGm.cons (AO.i15 h) hn rfl rfl rfl g
theorem SGm.i17 {n : Nat} {x p : Int} {kd : List Int} (h : OA X s 31 n) (g : SGm X nr c (j + 1) false (s + 1) (S.drop 1) d b2 s2 S2) (hn : NQ ((17, x, p, kd) : Ins) S := by exact ⟨(by show 1 ≤ List.length _; simp only [List.length_cons, sfm_len, stk_len, sas_len, List.length_append, List.length_replicate]; omega), fun z => absurd z (by show ¬ (27 : Int) ≤ 17; decide)⟩) : SGm X nr c j b s S ((17, x, p, kd) :: d) b2 s2 S2 := SGm.cons (AO.i17 h) hn rfl rfl rfl g
theorem SGm.i18 {n : Nat} {x p : Int} {kd : List Int} (h : OA X s 22 n ∧ iv X 21 n = p) (g : SGm X nr c (j + 1) false (s + 1) ((none, none, 0) :: S.drop 1) d b2 s2 S2) (hn : NQ ((18, x, p, kd) : Ins) S := by exact ⟨(by show 1 ≤ List.length _; simp only [List.length_cons, sfm_len, stk_len, sas_len, List.length_append, List.length_replicate]; omega), fun z => absurd z (by show ¬ (27 : Int) ≤ 18; decide)⟩) : SGm X nr c j b s S ((18, x, p, kd) :: d) b2 s2 S2 := SGm.cons (AO.i18 h) hn rfl rfl rfl g
theorem SGm.i19 {n : Nat} {x p : Int} {kd : List Int} (h : OA X s 23 n ∧ iv X 21 n = p) (g : SGm X nr c (j + 1) false (s + 1) ((none, none, 0) :: S.drop 1) d b2 s2 S2) (hn : NQ ((19, x, p, kd) : Ins) S := by exact ⟨(by show 1 ≤ List.length _; simp only [List.length_cons, sfm_len, stk_len, sas_len, List.length_append, List.length_replicate]; omega), fun z => absurd z (by show ¬ (27 : Int) ≤ 19; decide)⟩) : SGm X nr c j b s S ((19, x, p, kd) :: d) b2 s2 S2 := SGm.cons (AO.i19 h) hn rfl rfl rfl g
theorem SGm.i27 {n : Nat} {x p : Int} {kd : List Int} (h : OA X s 5 n ∧ iv X 21 n = p) (g : SGm X nr c (j + 1) false (s + 1) (S) d b2 s2 S2) (hn : NQ ((27, x, p, kd) : Ins) S := by exact ⟨(by show 1 ≤ List.length _; simp only [List.length_cons, sfm_len, stk_len, sas_len, List.length_append, List.length_replicate]; omega), fun _ => ⟨_, rfl, rfl⟩⟩) : SGm X nr c j b s S ((27, x, p, kd) :: d) b2 s2 S2 := SGm.cons (AO.i27 h) hn rfl rfl rfl g
theorem SGm.i28 {n : Nat} {x p : Int} {kd : List Int} (h : OA X s 6 n ∧ iv X 21 n = p) (g : SGm X nr c (j + 1) false (s + 1) (S) d b2 s2 S2) (hn : NQ ((28, x, p, kd) : Ins) S := by exact ⟨(by show 1 ≤ List.length _; simp only [List.length_cons, sfm_len, stk_len, sas_len, List.length_append, List.length_replicate]; omega), fun _ => ⟨_, rfl, rfl⟩⟩) : SGm X nr c j b s S ((28, x, p, kd) :: d) b2 s2 S2 := SGm.cons (AO.i28 h) hn rfl rfl rfl g
theorem SGm.i29 {n : Nat} {x p : Int} {kd : List Int} (h : (OA X s 8 n ∧ iv X 22 n = p) ∨ (OA X s 9 n ∧ iv X 21 n = p)) (g : SGm X nr c (j + 1) false (s + 1) (sfm 1 S) d b2 s2 S2) (hn : NQ ((29, x, p, kd) : Ins) S := by exact ⟨(by show 1 ≤ List.length _; simp only [List.length_cons, sfm_len, stk_len, sas_len, List.length_append, List.length_replicate]; omega), fun _ => ⟨_, rfl, rfl⟩⟩) : SGm X nr c j b s S ((29, x, p, kd) :: d) b2 s2 S2 := SGm.cons (AO.i29 h) hn rfl rfl rfl g
theorem SGm.i30 {n : Nat} {x p : Int} {kd : List Int} (h : OA X s 7 n ∧ iv X 22 n = p ∧ iv X 27 n = x ∧ ¬ iv X 20 (ix (X.1 23 n)) = 3) (g : SGm X nr c (j + 1) false (s + 1) (stk none (2 + x.toNat) S) d b2 s2 S2) (hn : NQ ((30, x, p, kd) : Ins) S := by exact ⟨(by show 1 ≤ List.length _; simp only [List.length_cons, sfm_len, stk_len, sas_len, List.length_append, List.length_replicate]; omega), fun _ => ⟨_, rfl, rfl⟩⟩) : SGm X nr c j b s S ((30, x, p, kd) :: d) b2 s2 S2 := SGm.cons (AO.i30 h) hn rfl rfl rfl g
theorem SGm.i31 {n : Nat} {x p : Int} {kd : List Int} (h : OA X s 7 n ∧ iv X 22 n = p ∧ iv X 27 n = x ∧ iv X 20 (ix (X.1 23 n)) = 3 ∧ iv X 26 (ix (X.1 23 n)) = nr (plc c (j - 1)) ∧ 1 ≤ j ∧ ∃ a1, c[j - 1]? = some a1 ∧ a1.1 = 4) (g : SGm X nr c (j + 1) false (s + 1) (stk (some (j - 1)) (2 + x.toNat) S) d b2 s2 S2) (hn : NQ ((31, x, p, kd) : Ins) S := by exact ⟨(by show 1 ≤ List.length _; simp only [List.length_cons, sfm_len, stk_len, sas_len, List.length_append, List.length_replicate]; omega), fun _ => ⟨_, rfl, rfl⟩⟩) : SGm X nr c j b s S ((31, x, p, kd) :: d) b2 s2 S2 := SGm.cons (AO.i31 h) hn rfl rfl rfl g
theorem SGm.i32 {n : Nat} {x p : Int} {kd : List Int} (h : OA X s 10 n ∧ iv X 21 n = p ∧ iv X 42 s = 8 * x ∧ 0 ≤ x ∧ ∃ (m : Nat) (q : Option Nat) (t : Option Nat) (h : Nat), iv X 51 n = (m : Int) ∧ S[x.toNat + 1]? = some (q, t, 2 + h) ∧ x.toNat < h ∧ ((iv X 20 (ix (X.1 23 m)) = 3 ∧ ∃ t1 a1, t = some t1 ∧ iv X 26 (ix (X.1 23 m)) = nr (plc c t1) ∧ c[t1]? = some a1 ∧ a1.1 = 4) ∨ (¬ iv X 20 (ix (X.1 23 m)) = 3 ∧ t = none))) (g : SGm X nr c (j + 1) false (s + 1) (S) d b2 s2 S2) (hn : NQ ((32, x, p, kd) : Ins) S := by exact ⟨(by show Int.toNat _ + 2 ≤ List.length _; simp only [List.length_cons, sfm_len, stk_len, sas_len, List.length_append, List.length_replicate]; omega), fun _ => ⟨_, rfl, rfl⟩⟩) : SGm X nr c j b s S ((32, x, p, kd) :: d) b2 s2 S2 := SGm.cons (AO.i32 h) hn rfl rfl rfl g
theorem SGm.i33 {n : Nat} {x p : Int} {kd : List Int} (h : OA X s 11 n ∧ iv X 21 (ix (X.1 25 n)) = p ∧ FM S 2 1) (g : SGm X nr c (j + 1) false (s + 1) (S) d b2 s2 S2) (hn : NQ ((33, x, p, kd) : Ins) S := by exact ⟨(by show 3 ≤ List.length _; simp only [List.length_cons, sfm_len, stk_len, sas_len, List.length_append, List.length_replicate]; omega), fun _ => ⟨_, rfl, rfl⟩⟩) : SGm X nr c j b s S ((33, x, p, kd) :: d) b2 s2 S2 := SGm.cons (AO.i33 h) hn rfl rfl rfl g
theorem SGm.i34 {n : Nat} {x p : Int} {kd : List Int} (h : OA X s 12 n ∧ iv X 21 (ix (X.1 23 n)) = p ∧ ∃ k : Nat, iv X 25 n = (k : Int) ∧ KD X k kd) (g : SGm X nr c (j + 1) true (s + 1) (S) d b2 s2 S2) (hn : NQ ((34, x, p, kd) : Ins) S := by exact ⟨(by show 1 ≤ List.length _; simp only [List.length_cons, sfm_len, stk_len, sas_len, List.length_append, List.length_replicate]; omega), fun _ => ⟨_, rfl, rfl⟩⟩) : SGm X nr c j b s S ((34, x, p, kd) :: d) b2 s2 S2 := SGm.cons (AO.i34 h) hn rfl rfl rfl g
theorem SGm.i35 {n : Nat} {x p : Int} {kd : List Int} (h : OA X s 30 n ∧ x = (n : Int) ∧ iv X 21 (ix (X.1 18 n)) = p) (g : SGm X nr c (j + 1) false (s + 1) (S) d b2 s2 S2) (hn : NQ ((35, x, p, kd) : Ins) S := by exact ⟨(by show 1 ≤ List.length _; simp only [List.length_cons, sfm_len, stk_len, sas_len, List.length_append, List.length_replicate]; omega), fun _ => ⟨_, rfl, rfl⟩⟩) : SGm X nr c j b s S ((35, x, p, kd) :: d) b2 s2 S2 := SGm.cons (AO.i35 h) hn rfl rfl rfl g
theorem SGm.i36 {n : Nat} {x p : Int} {kd : List Int} (h : OA X s 14 n ∧ iv X 21 n = p ∧ GAT X c n j) (g : SGm X nr c (j + 1) false (s + 1) (sas (some j) S) d b2 s2 S2) (hn : NQ ((36, x, p, kd) : Ins) S := by exact ⟨(by show 1 ≤ List.length _; simp only [List.length_cons, sfm_len, stk_len, sas_len, List.length_append, List.length_replicate]; omega), fun _ => ⟨_, rfl, rfl⟩⟩) : SGm X nr c j b s S ((36, x, p, kd) :: d) b2 s2 S2 := SGm.cons (AO.i36 h) hn rfl rfl rfl g
theorem SGm.i20 {n : Nat} {o x p : Int} {kd : List Int} (ho : 20 ≤ o ∧ o ≤ 26) (h : OA X s (if o ≤ 21 then 25 else 24) n ∧ iv X 22 n = p ∧ opc (iv X 26 n) = o) (g : SGm X nr c (j + 1) false (s + 1) ((none, none, 0) :: S.drop 2) d b2 s2 S2) (hn : 2 ≤ S.length := by show 2 ≤ List.length _; simp only [List.length_cons, sfm_len, stk_len, sas_len, List.length_append, List.length_replicate]; omega) : SGm X nr c j b s S ((o, x, p, kd) :: d) b2 s2 S2 := by
  have n27 : ¬ (27 : Int) ≤ o := by omega
  have cs : o = 20 ∨ o = 21 ∨ o = 22 ∨ o = 23 ∨ o = 24 ∨ o = 25 ∨ o = 26 := by omega
  rcases cs with e | e | e | e | e | e | e
  all_goals (subst e; exact SGm.cons (AO.i20 ho h) ⟨hn, fun z => absurd z n27⟩ rfl rfl rfl g)
theorem SGm.i10 {n : Nat} {m : Nat} {p : Int} {kd : List Int} (h : OA X s 18 n ∧ iv X 21 n = p ∧ iv X 27 n = (m : Int) ∧ ∃ (S1 : List SE) (us : List (Nat × Nat)), (m : Int) = (us.length : Int) ∧ S = us.reverse.map (fun w => ((some w.2, none, 0) : SE)) ++ S1 ∧ ECH X c (iv X 24 n) us) (g : SGm X nr c (j + 1) false (s + 1) ((none, none, 0) :: S.drop m) d b2 s2 S2) (hn : m ≤ S.length) : SGm X nr c j b s S ((10, (m : Int), p, kd) :: d) b2 s2 S2 := SGm.cons (AO.i10 h) ⟨hn, fun z => absurd z (by show ¬ (27 : Int) ≤ 10; decide)⟩ rfl rfl rfl g
theorem SGm.i16 {n : Nat} {m : Nat} {p : Int} {kd : List Int} (h : OA X s 28 n ∧ iv X 22 n = p ∧ iv X 27 n = (m : Int) ∧ 0 ≤ (m : Int) ∧ FM S (m : Int).toNat (2 + (m : Int).toNat)) (g : SGm X nr c (j + 1) false (s + 1) ((none, none, 0) :: S.drop (m + 1)) d b2 s2 S2) (hn : m + 1 ≤ S.length) : SGm X nr c j b s S ((16, (m : Int), p, kd) :: d) b2 s2 S2 := SGm.cons (AO.i16 h) ⟨hn, fun z => absurd z (by show ¬ (27 : Int) ≤ 16; decide)⟩ rfl rfl rfl g
end ATS
