/-! rows that a run makes -/
def NEWR (X Y : St) (n r : Int32) : Prop := Fr YR [33, 34, 35, 12800, 13000, 13200] X Y ∧ ((X.1 0 33).toInt < 1000 ∧ (X.1 0 34).toInt + n.toInt ≤ 4000) ∧ (r.toInt = (X.1 0 33).toInt ∧ (Y.1 0 33).toInt = (X.1 0 33).toInt + 1 ∧ (Y.1 0 34).toInt = (X.1 0 34).toInt + n.toInt) ∧ (¬ wrp Y (ix (X.1 0 33)) ∧ Y.1 65 (ix (X.1 0 33)) = X.1 0 34 ∧ Y.1 66 (ix (X.1 0 33)) = n) ∧ ∀ j, j ≠ ix (X.1 0 33) → Y.1 64 j = X.1 64 j ∧ Y.1 65 j = X.1 65 j ∧ Y.1 66 j = X.1 66 j
theorem new_row {u : Bool} {X Y Z : St} {G : Nat → Int32} {n r e : Int32} (hH : HP u X G) (hT : KT X) (hN : NEWR X Y n r) (hF : Fr YR [31, 12000, 12200, 14800, 15000] Y Z) (hn0 : 0 ≤ n.toInt) (hold : ∀ c : Nat, (c : Int) < (X.1 0 34).toInt → Z.1 74 c = X.1 74 c ∧ Z.1 75 c = X.1 75 c) (hnew : ∀ c : Nat, (X.1 0 34).toInt ≤ (c : Int) → (c : Int) < (X.1 0 34).toInt + n.toInt → VV u X G e (Z.1 74 c) (Z.1 75 c)) (he : u = true → e = 2) : ∃ G1, HX X Z G G1 ∧ HP u Z G1 ∧ RV Z r ∧ EK Z G1 r = e := by
  obtain ⟨n1, ⟨n2, n3⟩, ⟨n4, n5, n6⟩, ⟨n7, n8, n9⟩, n10⟩ := hN
  have hth := hH.1.1
  have eT := ixc hth
  have er : ix r = ix (X.1 0 33) := by
    have := ixc (z := r) (by omega)
    omega
  obtain ⟨G1, g1, g2⟩ : ∃ G1 : Nat → Int32, G1 (ix (X.1 0 33)) = e ∧ ∀ j, j ≠ ix (X.1 0 33) → G1 j = G j := ⟨fun j => if j = ix (X.1 0 33) then e else G j, if_pos rfl, fun j hj => if_neg hj⟩
  have hXZ : Fr YR [31, 33, 34, 35, 12000, 12200, 12800, 13000, 13200, 14800, 15000] X Z := (n1.mono (by decide)).tr hF (by decide)
  have hK : KX X Z := KX.fr hXZ (by decide)
  have z33 : Z.1 0 33 = Y.1 0 33 := hF.1 0 33 (by decide)
  have z34 : Z.1 0 34 = Y.1 0 34 := hF.1 0 34 (by decide)
  have z64 : ∀ j, Z.1 64 j = Y.1 64 j := fun j => hF.1 64 j (show (12800 : Nat) ∉ [31, 12000, 12200, 14800, 15000] from by decide)
  have z65 : ∀ j, Z.1 65 j = Y.1 65 j := fun j => hF.1 65 j (show (13000 : Nat) ∉ [31, 12000, 12200, 14800, 15000] from by decide)
  have z66 : ∀ j, Z.1 66 j = Y.1 66 j := fun j => hF.1 66 j (show (13200 : Nat) ∉ [31, 12000, 12200, 14800, 15000] from by decide)
  have hX : HX X Z G G1 := by
    refine ⟨hK, by rw [z33]; omega, fun t ht => ?_, fun i => ⟨hXZ.1 15 i (show (3000 : Nat) ∉ [31, 33, 34, 35, 12000, 12200, 12800, 13000, 13200, 14800, 15000] from by decide), hXZ.1 16 i (show (3200 : Nat) ∉ [31, 33, 34, 35, 12000, 12200, 12800, 13000, 13200, 14800, 15000] from by decide), hXZ.1 17 i (show (3400 : Nat) ∉ [31, 33, 34, 35, 12000, 12200, 12800, 13000, 13200, 14800, 15000] from by decide), hXZ.1 19 i (show (3800 : Nat) ∉ [31, 33, 34, 35, 12000, 12200, 12800, 13000, 13200, 14800, 15000] from by decide)⟩, hXZ.1 0 18 (by decide)⟩
    have hne : t ≠ ix (X.1 0 33) := by omega
    obtain ⟨c1, c2, c3⟩ := n10 t hne
    exact ⟨⟨(z64 t).trans c1, (z65 t).trans c2, (z66 t).trans c3⟩, ⟨hXZ.1 67 t (show (13400 : Nat) ∉ [31, 33, 34, 35, 12000, 12200, 12800, 13000, 13200, 14800, 15000] from by decide), hXZ.1 68 t (show (13600 : Nat) ∉ [31, 33, 34, 35, 12000, 12200, 12800, 13000, 13200, 14800, 15000] from by decide), hXZ.1 69 t (show (13800 : Nat) ∉ [31, 33, 34, 35, 12000, 12200, 12800, 13000, 13200, 14800, 15000] from by decide), hXZ.1 70 t (show (14000 : Nat) ∉ [31, 33, 34, 35, 12000, 12200, 12800, 13000, 13200, 14800, 15000] from by decide), hXZ.1 71 t (show (14200 : Nat) ∉ [31, 33, 34, 35, 12000, 12200, 12800, 13000, 13200, 14800, 15000] from by decide), hXZ.1 73 t (show (14600 : Nat) ∉ [31, 33, 34, 35, 12000, 12200, 12800, 13000, 13200, 14800, 15000] from by decide)⟩, g2 t hne⟩
  have hnw : ¬ wrp Z (ix (X.1 0 33)) := by
    unfold wrp
    rw [z64]
    exact n7
  refine ⟨G1, hX, ?_, ⟨by omega, by rw [z33]; omega, fun q => ?_⟩, ?_⟩
  · refine hH.hx hT hX (by rw [z33]; omega) (by rw [z34]; have := hH.1.2.2.1; omega) hold (fun t t1 t2 => ?_)
    have ht : t = ix (X.1 0 33) := by
      rw [z33] at t2
      omega
    subst ht
    refine ⟨fun _ => ?_, fun q => absurd q hnw⟩
    unfold RAW
    rw [z65, z66, n8, n9, z34, g1]
    refine ⟨hH.1.2.2.1, hn0, by omega, he, fun j hj hjw => ?_, fun c c1 c2 => (hnew c c1 c2).hx hT hX⟩
    have hj1 : (j : Int) < (X.1 0 33).toInt := by omega
    obtain ⟨⟨j4, j5, j6⟩, -⟩ := hX.2.2.1 j hj1
    have hjx : ¬ wrp X j := by
      unfold wrp at hjw ⊢
      rw [j4] at hjw
      exact hjw
    rw [j5, j6]
    exact ((hH.2 j hj1).1 hjx).2.2.1
  · rw [er] at q
    exact absurd q hnw
  · unfold EK
    rw [er, if_pos (Classical.byContradiction hnw), g1]
set_option maxHeartbeats 4000000 in
theorem r_row {u : Bool} {X : St} {G : Nat → Int32} {p1 p2 : Int32} (hH : HP u X G) (hn : 0 ≤ p1.toInt ∧ p1.toInt ≤ 1000) : ok (f_row p1 p2 X) (fun r Y => Fr YR [33, 34, 35, 43, 44, 12800, 13000, 13200] X Y ∧ (0 ≤ (Y.1 0 43).toInt ∨ NEWR X Y p1 r)) := by
  have h33 := hH.1
  unfold f_row
  refine ok.letE (v1 := (X.1 0 34)) rfl ?_
  refine ok.add (show _ ≤ (X.1 0 34).toInt + p1.toInt ∧ (X.1 0 34).toInt + p1.toInt ≤ _ from by omega) (fun x2 hx2 => ?_)
  have hx2 : x2.toInt = (X.1 0 34).toInt + p1.toInt := hx2
  refine ok.ite (fun c1 => ?_) (fun c1 => ?_)
  · skip
    unfold f_row_22
    refine ok.bd r_ends ?_
    rintro r_2 E3 ⟨hFh4, hh4, -⟩
    exact ok.ret ⟨(Fr.rf.tr hFh4 (by decide)), Or.inl (hh4 (by decide))⟩
  · skip
    refine ok.letE (v1 := (X.1 0 33)) rfl ?_
    refine ok.ite (fun c5 => ?_) (fun c5 => ?_)
    · skip
      unfold f_row_22
      refine ok.bd r_ends ?_
      rintro r_6 E7 ⟨hFh8, hh8, -⟩
      exact ok.ret ⟨(Fr.rf.tr hFh8 (by decide)), Or.inl (hh8 (by decide))⟩
    · skip
      refine ok.letE (v1 := (X.1 0 33)) rfl ?_
      refine ok.ck (show 0 ≤ (X.1 0 33).toInt ∧ (X.1 0 33).toInt < ((1000 : Nat) : Int) from by omega) ?_
      refine ok.letV ?_
      refine ok.letE (v1 := (X.1 0 33)) rfl ?_
      refine ok.letE (v1 := (X.1 0 34)) rfl ?_
      refine ok.ck (show 0 ≤ (X.1 0 33).toInt ∧ (X.1 0 33).toInt < ((1000 : Nat) : Int) from by omega) ?_
      refine ok.letV ?_
      refine ok.letE (v1 := (X.1 0 33)) rfl ?_
      refine ok.ck (show 0 ≤ (X.1 0 33).toInt ∧ (X.1 0 33).toInt < ((1000 : Nat) : Int) from by omega) ?_
      refine ok.letV ?_
      refine ok.letE (v1 := (X.1 0 34)) rfl ?_
      refine ok.add (show _ ≤ (X.1 0 34).toInt + p1.toInt ∧ (X.1 0 34).toInt + p1.toInt ≤ _ from by omega) (fun x13 hx13 => ?_)
      have hx13 : x13.toInt = (X.1 0 34).toInt + p1.toInt := hx13
      refine ok.letV ?_
      refine ok.letE (v1 := (X.1 0 33)) rfl ?_
      refine ok.add (show _ ≤ (X.1 0 33).toInt + (1 : Int) ∧ (X.1 0 33).toInt + (1 : Int) ≤ _ from by omega) (fun x16 hx16 => ?_)
      have hx16 : x16.toInt = (X.1 0 33).toInt + (1 : Int) := hx16
      refine ok.letV ?_
      refine ok.letE (v1 := (X.1 0 35)) rfl ?_
      refine ok.any (fun x19 => ?_)
      refine ok.letV ?_
      refine ok.letE (v1 := x16) rfl ?_
      refine ok.sub (show _ ≤ x16.toInt - (1 : Int) ∧ x16.toInt - (1 : Int) ≤ _ from by omega) (fun x22 hx22 => ?_)
      have hx22 : x22.toInt = x16.toInt - (1 : Int) := hx22
      refine ok.ret ⟨((((((Fr.rf.wI 64 (ix (X.1 0 33)) _ (show (12800 : Nat) ∈ [33, 34, 35, 43, 44, 12800, 13000, 13200] from by decide)).wI 65 (ix (X.1 0 33)) _ (show (13000 : Nat) ∈ [33, 34, 35, 43, 44, 12800, 13000, 13200] from by decide)).wI 66 (ix (X.1 0 33)) _ (show (13200 : Nat) ∈ [33, 34, 35, 43, 44, 12800, 13000, 13200] from by decide)).wI 0 34 _ (show (34 : Nat) ∈ [33, 34, 35, 43, 44, 12800, 13000, 13200] from by decide)).wI 0 33 _ (show (33 : Nat) ∈ [33, 34, 35, 43, 44, 12800, 13000, 13200] from by decide)).wI 0 35 _ (show (35 : Nat) ∈ [33, 34, 35, 43, 44, 12800, 13000, 13200] from by decide)), Or.inr ?_⟩
      refine ⟨((((((Fr.rf.wI 64 (ix (X.1 0 33)) _ (show (12800 : Nat) ∈ [33, 34, 35, 12800, 13000, 13200] from by decide)).wI 65 (ix (X.1 0 33)) _ (show (13000 : Nat) ∈ [33, 34, 35, 12800, 13000, 13200] from by decide)).wI 66 (ix (X.1 0 33)) _ (show (13200 : Nat) ∈ [33, 34, 35, 12800, 13000, 13200] from by decide)).wI 0 34 _ (show (34 : Nat) ∈ [33, 34, 35, 12800, 13000, 13200] from by decide)).wI 0 33 _ (show (33 : Nat) ∈ [33, 34, 35, 12800, 13000, 13200] from by decide)).wI 0 35 _ (show (35 : Nat) ∈ [33, 34, 35, 12800, 13000, 13200] from by decide)), ⟨by omega, by omega⟩, ⟨by omega, ?_, ?_⟩, ⟨?_, ?_, ?_⟩, fun j hj => ⟨?_, ?_, ?_⟩⟩
      · rw [wI_ne _ 0 _ _ 0 _ (by rintro ⟨-, a_⟩; exact absurd a_ (by decide)), wI_at]
        exact hx16
      · rw [wI_ne _ 0 _ _ 0 _ (by rintro ⟨-, a_⟩; exact absurd a_ (by decide)), wI_ne _ 0 _ _ 0 _ (by rintro ⟨-, a_⟩; exact absurd a_ (by decide)), wI_at]
        exact hx13
      · unfold wrp
        rw [wI_ne _ 0 _ _ 64 _ (by rintro ⟨a_, -⟩; exact absurd a_ (by decide)), wI_ne _ 0 _ _ 64 _ (by rintro ⟨a_, -⟩; exact absurd a_ (by decide)), wI_ne _ 0 _ _ 64 _ (by rintro ⟨a_, -⟩; exact absurd a_ (by decide)), wI_ne _ 66 _ _ 64 _ (by rintro ⟨a_, -⟩; exact absurd a_ (by decide)), wI_ne _ 65 _ _ 64 _ (by rintro ⟨a_, -⟩; exact absurd a_ (by decide)), wI_at]
        decide
      · rw [wI_ne _ 0 _ _ 65 _ (by rintro ⟨a_, -⟩; exact absurd a_ (by decide)), wI_ne _ 0 _ _ 65 _ (by rintro ⟨a_, -⟩; exact absurd a_ (by decide)), wI_ne _ 0 _ _ 65 _ (by rintro ⟨a_, -⟩; exact absurd a_ (by decide)), wI_ne _ 66 _ _ 65 _ (by rintro ⟨a_, -⟩; exact absurd a_ (by decide)), wI_at]
      · rw [wI_ne _ 0 _ _ 66 _ (by rintro ⟨a_, -⟩; exact absurd a_ (by decide)), wI_ne _ 0 _ _ 66 _ (by rintro ⟨a_, -⟩; exact absurd a_ (by decide)), wI_ne _ 0 _ _ 66 _ (by rintro ⟨a_, -⟩; exact absurd a_ (by decide)), wI_at]
      · rw [wI_ne _ 0 _ _ 64 _ (by rintro ⟨a_, -⟩; exact absurd a_ (by decide)), wI_ne _ 0 _ _ 64 _ (by rintro ⟨a_, -⟩; exact absurd a_ (by decide)), wI_ne _ 0 _ _ 64 _ (by rintro ⟨a_, -⟩; exact absurd a_ (by decide)), wI_ne _ 66 _ _ 64 _ (by rintro ⟨a_, -⟩; exact absurd a_ (by decide)), wI_ne _ 65 _ _ 64 _ (by rintro ⟨a_, -⟩; exact absurd a_ (by decide)), wI_ne _ 64 _ _ 64 _ (by rintro ⟨-, a_⟩; exact hj a_)]
      · rw [wI_ne _ 0 _ _ 65 _ (by rintro ⟨a_, -⟩; exact absurd a_ (by decide)), wI_ne _ 0 _ _ 65 _ (by rintro ⟨a_, -⟩; exact absurd a_ (by decide)), wI_ne _ 0 _ _ 65 _ (by rintro ⟨a_, -⟩; exact absurd a_ (by decide)), wI_ne _ 66 _ _ 65 _ (by rintro ⟨a_, -⟩; exact absurd a_ (by decide)), wI_ne _ 65 _ _ 65 _ (by rintro ⟨-, a_⟩; exact hj a_), wI_ne _ 64 _ _ 65 _ (by rintro ⟨a_, -⟩; exact absurd a_ (by decide))]
      · rw [wI_ne _ 0 _ _ 66 _ (by rintro ⟨a_, -⟩; exact absurd a_ (by decide)), wI_ne _ 0 _ _ 66 _ (by rintro ⟨a_, -⟩; exact absurd a_ (by decide)), wI_ne _ 0 _ _ 66 _ (by rintro ⟨a_, -⟩; exact absurd a_ (by decide)), wI_ne _ 66 _ _ 66 _ (by rintro ⟨-, a_⟩; exact hj a_), wI_ne _ 65 _ _ 66 _ (by rintro ⟨a_, -⟩; exact absurd a_ (by decide)), wI_ne _ 64 _ _ 66 _ (by rintro ⟨a_, -⟩; exact absurd a_ (by decide))]
/-- a row's elements, from the stack -/
theorem row_fill {X : St} {a2 a3 : Int32} {m n fr tp0 : Nat} (ha2 : a2.toInt = (n : Int)) (hn : n < 3100) (ha3 : 0 ≤ a3.toInt ∧ a3.toInt < 1000) (hm : (X.1 27 n).toInt = (m : Int)) (hfr : (X.1 65 (ix a3)).toInt = (fr : Int)) (hb : fr + m ≤ 4000) (htp : (X.1 0 31).toInt = (tp0 : Int)) (htb : tp0 + m ≤ 20000) : ∀ (d i : Nat) (Z : St) (a4 : Int32) (N : Nat), i + d = m → d < N → a4.toInt = (i : Int) → Fr YR [14800, 15000] X Z → (∀ c, c < fr ∨ fr + i ≤ c → Z.1 74 c = X.1 74 c ∧ Z.1 75 c = X.1 75 c) → (∀ j, j < i → Z.1 74 (fr + j) = X.1 60 (tp0 + j) ∧ Z.1 75 (fr + j) = X.1 61 (tp0 + j)) → ok (f_works_98 N a2 a3 a4 Z) (fun _ Y => ∃ V, Fr YR [14800, 15000] X V ∧ (∀ c, c < fr ∨ fr + m ≤ c → V.1 74 c = X.1 74 c ∧ V.1 75 c = X.1 75 c) ∧ (∀ j, j < m → V.1 74 (fr + j) = X.1 60 (tp0 + j) ∧ V.1 75 (fr + j) = X.1 61 (tp0 + j)) ∧ Fr YR [31, 12000, 12200] V Y ∧ (Y.1 0 31).toInt = (tp0 : Int) + 1 ∧ Y.1 60 tp0 = 3 ∧ Y.1 61 tp0 = a3 ∧ ∀ j, j ≠ tp0 → Y.1 60 j = V.1 60 j ∧ Y.1 61 j = V.1 61 j) := by
  have e2 := ixn ha2
  have e3 := ixc ha3.1
  have h2 : 0 ≤ a2.toInt ∧ a2.toInt < ((3100 : Nat) : Int) := by omega
  have h3 : 0 ≤ a3.toInt ∧ a3.toInt < ((1000 : Nat) : Int) := by omega
  intro d
  induction d with
  | zero =>
    intro i Z a4 N hi hN ha hF ho hc
    obtain ⟨N, rfl⟩ : ∃ k, N = k + 1 := ⟨N - 1, by omega⟩
    obtain rfl : i = m := by omega
    show ok (f_works_98_s (f_works_98 N) a2 a3 a4 Z) _
    unfold f_works_98_s
    refine ok.ck h2 (ok.letE (v1 := X.1 27 n) (by rw [e2]; exact hF.1 27 n (show (5400 : Nat) ∉ [14800, 15000] from by decide)) ?_)
    refine ok.ite (fun _ => ?_) (fun c => absurd (show (X.1 27 n).toInt ≤ a4.toInt by omega) c)
    refine ok.bd (r_value (i := tp0) (by rw [hF.1 0 31 (by decide)]; exact htp) (by omega)) ?_
    rintro r Y ⟨y1, y2, y3, y4, y5⟩
    exact ok.ret ⟨Z, hF, ho, hc, y1, y2, y3, y4, y5⟩
  | succ d ih =>
    intro i Z a4 N hi hN ha hF ho hc
    obtain ⟨N, rfl⟩ : ∃ k, N = k + 1 := ⟨N - 1, by omega⟩
    show ok (f_works_98_s (f_works_98 N) a2 a3 a4 Z) _
    unfold f_works_98_s
    refine ok.ck h2 (ok.letE (v1 := X.1 27 n) (by rw [e2]; exact hF.1 27 n (show (5400 : Nat) ∉ [14800, 15000] from by decide)) ?_)
    refine ok.ite (fun c => absurd c (by omega)) (fun _ => ?_)
    have z65 : Z.1 65 (ix a3) = X.1 65 (ix a3) := hF.1 65 _ (show (13000 : Nat) ∉ [14800, 15000] from by decide)
    have z31 : Z.1 0 31 = X.1 0 31 := hF.1 0 31 (by decide)
    refine ok.ck h3 (ok.letE (v1 := X.1 65 (ix a3)) z65 (ok.add (by omega) (fun x15 hx15 => ?_)))
    refine ok.letE (v1 := X.1 0 31) z31 (ok.add (by omega) (fun x17 hx17 => ?_))
    have i15 : ix x15 = fr + i := ixn (by omega)
    have i17 : ix x17 = tp0 + i := ixn (by omega)
    have b15 : 0 ≤ x15.toInt ∧ x15.toInt < ((4000 : Nat) : Int) := by omega
    have b17 : 0 ≤ x17.toInt ∧ x17.toInt < ((20400 : Nat) : Int) := by omega
    refine ok.ck b17 (ok.letE (v1 := X.1 60 (tp0 + i)) (by rw [i17]; exact hF.1 60 _ (show (12000 : Nat) ∉ [14800, 15000] from by decide)) (ok.ck b15 (ok.letV ?_)))
    rw [i15]
    have hF1 : Fr YR [14800, 15000] X (wI Z 74 (fr + i) (X.1 60 (tp0 + i))) := hF.wI 74 _ _ (show (14800 : Nat) ∈ [14800, 15000] from by decide)
    have p74 : (wI Z 74 (fr + i) (X.1 60 (tp0 + i))).1 74 (fr + i) = X.1 60 (tp0 + i) := wI_at _ _ _ _
    have q74 : ∀ c, c ≠ fr + i → (wI Z 74 (fr + i) (X.1 60 (tp0 + i))).1 74 c = Z.1 74 c := fun c hcn => wI_ne _ _ _ _ _ _ (fun g => hcn g.2)
    have q75 : ∀ c, (wI Z 74 (fr + i) (X.1 60 (tp0 + i))).1 75 c = Z.1 75 c := fun c => wI_ne _ _ _ _ _ _ (fun g => absurd g.1 (by decide))
    obtain ⟨V1, hV1⟩ : ∃ V : St, wI Z 74 (fr + i) (X.1 60 (tp0 + i)) = V := ⟨_, rfl⟩
    rw [hV1] at hF1 p74 q74 q75 ⊢
    refine ok.ck h3 (ok.letE (v1 := X.1 65 (ix a3)) (hF1.1 65 _ (show (13000 : Nat) ∉ [14800, 15000] from by decide)) (ok.add (by omega) (fun x21 hx21 => ?_)))
    refine ok.letE (v1 := X.1 0 31) (hF1.1 0 31 (by decide)) (ok.add (by omega) (fun x23 hx23 => ?_))
    have i21 : ix x21 = fr + i := ixn (by omega)
    have i23 : ix x23 = tp0 + i := ixn (by omega)
    have b21 : 0 ≤ x21.toInt ∧ x21.toInt < ((4000 : Nat) : Int) := by omega
    have b23 : 0 ≤ x23.toInt ∧ x23.toInt < ((20400 : Nat) : Int) := by omega
    refine ok.ck b23 (ok.letE (v1 := X.1 61 (tp0 + i)) (by rw [i23]; exact hF1.1 61 _ (show (12200 : Nat) ∉ [14800, 15000] from by decide)) (ok.ck b21 (ok.letV ?_)))
    rw [i21]
    have hF2 : Fr YR [14800, 15000] X (wI V1 75 (fr + i) (X.1 61 (tp0 + i))) := hF1.wI 75 _ _ (show (15000 : Nat) ∈ [14800, 15000] from by decide)
    have p75 : (wI V1 75 (fr + i) (X.1 61 (tp0 + i))).1 75 (fr + i) = X.1 61 (tp0 + i) := wI_at _ _ _ _
    have r75 : ∀ c, c ≠ fr + i → (wI V1 75 (fr + i) (X.1 61 (tp0 + i))).1 75 c = V1.1 75 c := fun c hcn => wI_ne _ _ _ _ _ _ (fun g => hcn g.2)
    have r74 : ∀ c, (wI V1 75 (fr + i) (X.1 61 (tp0 + i))).1 74 c = V1.1 74 c := fun c => wI_ne _ _ _ _ _ _ (fun g => absurd g.1 (by decide))
    obtain ⟨V2, hV2⟩ : ∃ V : St, wI V1 75 (fr + i) (X.1 61 (tp0 + i)) = V := ⟨_, rfl⟩
    rw [hV2] at hF2 p75 r75 r74 ⊢
    refine ok.inc (by decide) (by omega) (fun x26 hx26 => ?_)
    refine ih (i + 1) V2 x26 N (by omega) (by omega) (by omega) hF2 (fun c hcc => ?_) (fun j hj => ?_)
    · obtain ⟨w1, w2⟩ := ho c (by omega)
      rw [r74, q74 c (by omega), r75 c (by omega), q75]
      exact ⟨w1, w2⟩
    · by_cases g : j = i
      · subst g
        rw [r74, p74, p75]
        exact ⟨rfl, rfl⟩
      · obtain ⟨w1, w2⟩ := hc j (by omega)
        rw [r74, q74 _ (by omega), r75 _ (by omega), q75]
        exact ⟨w1, w2⟩
/-- a row's elements, all alike -/
theorem make_fill {X : St} {a2 a3 : Int32} {m fr tp0 : Nat} (ha2 : a2.toInt = (m : Int)) (ha3 : 0 ≤ a3.toInt ∧ a3.toInt < 1000) (hfr : (X.1 65 (ix a3)).toInt = (fr : Int)) (hb : fr + m ≤ 4000) (htp : (X.1 0 31).toInt = (tp0 : Int) + 2) (htb : tp0 + 2 ≤ 20000) : ∀ (d i : Nat) (Z : St) (a4 : Int32) (N : Nat), i + d = m → d < N → a4.toInt = (i : Int) → Fr YR [14800, 15000] X Z → (∀ c, c < fr ∨ fr + i ≤ c → Z.1 74 c = X.1 74 c ∧ Z.1 75 c = X.1 75 c) → (∀ j, j < i → Z.1 74 (fr + j) = X.1 60 (tp0 + 1) ∧ Z.1 75 (fr + j) = X.1 61 (tp0 + 1)) → ok (f_makes_58 N a2 a3 a4 Z) (fun _ Y => ∃ V, Fr YR [14800, 15000] X V ∧ (∀ c, c < fr ∨ fr + m ≤ c → V.1 74 c = X.1 74 c ∧ V.1 75 c = X.1 75 c) ∧ (∀ j, j < m → V.1 74 (fr + j) = X.1 60 (tp0 + 1) ∧ V.1 75 (fr + j) = X.1 61 (tp0 + 1)) ∧ Fr YR [31, 12000, 12200] V Y ∧ (Y.1 0 31).toInt = (tp0 : Int) + 1 ∧ Y.1 60 tp0 = 3 ∧ Y.1 61 tp0 = a3 ∧ ∀ j, j ≠ tp0 → Y.1 60 j = V.1 60 j ∧ Y.1 61 j = V.1 61 j) := by
  have e3 := ixc ha3.1
  have h3 : 0 ≤ a3.toInt ∧ a3.toInt < ((1000 : Nat) : Int) := by omega
  have z1 : (1 : Int32).toInt = 1 := rfl
  have z2 : (2 : Int32).toInt = 2 := rfl
  intro d
  induction d with
  | zero =>
    intro i Z a4 N hi hN ha hF ho hc
    obtain ⟨N, rfl⟩ : ∃ k, N = k + 1 := ⟨N - 1, by omega⟩
    obtain rfl : i = m := by omega
    have z31 : Z.1 0 31 = X.1 0 31 := hF.1 0 31 (by decide)
    show ok (f_makes_58_s (f_makes_58 N) a2 a3 a4 Z) _
    unfold f_makes_58_s
    refine ok.ite (fun _ => ?_) (fun c => absurd (show a2.toInt ≤ a4.toInt by omega) c)
    refine ok.letE (v1 := X.1 0 31) z31 (ok.sub (by rw [z2]; omega) (fun x hx => ok.letV ?_))
    rw [z2] at hx
    have hFw : Fr YR [31, 12000, 12200] Z (wI Z 0 31 x) := Fr.rf.wI 0 31 _ (show (31 : Nat) ∈ [31, 12000, 12200] from by decide)
    have w31 : (wI Z 0 31 x).1 0 31 = x := wI_at _ _ _ _
    have w60 : ∀ j, (wI Z 0 31 x).1 60 j = Z.1 60 j := fun j => wI_ne _ _ _ _ _ _ (fun g => absurd g.1 (by decide))
    have w61 : ∀ j, (wI Z 0 31 x).1 61 j = Z.1 61 j := fun j => wI_ne _ _ _ _ _ _ (fun g => absurd g.1 (by decide))
    obtain ⟨V, hV⟩ : ∃ V : St, wI Z 0 31 x = V := ⟨_, rfl⟩
    rw [hV] at hFw w31 w60 w61 ⊢
    refine ok.bd (r_value (i := tp0) (by rw [w31]; omega) (by omega)) ?_
    rintro r Y ⟨y1, y2, y3, y4, y5⟩
    exact ok.ret ⟨Z, hF, ho, hc, hFw.tr y1 (fun _ q => q), y2, y3, y4, fun j hj => ⟨(y5 j hj).1.trans (w60 j), (y5 j hj).2.trans (w61 j)⟩⟩
  | succ d ih =>
    intro i Z a4 N hi hN ha hF ho hc
    obtain ⟨N, rfl⟩ : ∃ k, N = k + 1 := ⟨N - 1, by omega⟩
    show ok (f_makes_58_s (f_makes_58 N) a2 a3 a4 Z) _
    unfold f_makes_58_s
    refine ok.ite (fun c => absurd c (by omega)) (fun _ => ?_)
    have z65 : Z.1 65 (ix a3) = X.1 65 (ix a3) := hF.1 65 _ (show (13000 : Nat) ∉ [14800, 15000] from by decide)
    have z31 : Z.1 0 31 = X.1 0 31 := hF.1 0 31 (by decide)
    refine ok.ck h3 (ok.letE (v1 := X.1 65 (ix a3)) z65 (ok.add (by omega) (fun x15 hx15 => ?_)))
    refine ok.letE (v1 := X.1 0 31) z31 (ok.sub (by rw [z1]; omega) (fun x17 hx17 => ?_))
    rw [z1] at hx17
    have i15 : ix x15 = fr + i := ixn (by omega)
    have i17 : ix x17 = tp0 + 1 := ixn (by omega)
    have b15 : 0 ≤ x15.toInt ∧ x15.toInt < ((4000 : Nat) : Int) := by omega
    have b17 : 0 ≤ x17.toInt ∧ x17.toInt < ((20400 : Nat) : Int) := by omega
    refine ok.ck b17 (ok.letE (v1 := X.1 60 (tp0 + 1)) (by rw [i17]; exact hF.1 60 _ (show (12000 : Nat) ∉ [14800, 15000] from by decide)) (ok.ck b15 (ok.letV ?_)))
    rw [i15]
    have hF1 : Fr YR [14800, 15000] X (wI Z 74 (fr + i) (X.1 60 (tp0 + 1))) := hF.wI 74 _ _ (show (14800 : Nat) ∈ [14800, 15000] from by decide)
    have p74 : (wI Z 74 (fr + i) (X.1 60 (tp0 + 1))).1 74 (fr + i) = X.1 60 (tp0 + 1) := wI_at _ _ _ _
    have q74 : ∀ c, c ≠ fr + i → (wI Z 74 (fr + i) (X.1 60 (tp0 + 1))).1 74 c = Z.1 74 c := fun c hcn => wI_ne _ _ _ _ _ _ (fun g => hcn g.2)
    have q75 : ∀ c, (wI Z 74 (fr + i) (X.1 60 (tp0 + 1))).1 75 c = Z.1 75 c := fun c => wI_ne _ _ _ _ _ _ (fun g => absurd g.1 (by decide))
    obtain ⟨V1, hV1⟩ : ∃ V : St, wI Z 74 (fr + i) (X.1 60 (tp0 + 1)) = V := ⟨_, rfl⟩
    rw [hV1] at hF1 p74 q74 q75 ⊢
    refine ok.ck h3 (ok.letE (v1 := X.1 65 (ix a3)) (hF1.1 65 _ (show (13000 : Nat) ∉ [14800, 15000] from by decide)) (ok.add (by omega) (fun x21 hx21 => ?_)))
    refine ok.letE (v1 := X.1 0 31) (hF1.1 0 31 (by decide)) (ok.sub (by rw [z1]; omega) (fun x23 hx23 => ?_))
    rw [z1] at hx23
    have i21 : ix x21 = fr + i := ixn (by omega)
    have i23 : ix x23 = tp0 + 1 := ixn (by omega)
    have b21 : 0 ≤ x21.toInt ∧ x21.toInt < ((4000 : Nat) : Int) := by omega
    have b23 : 0 ≤ x23.toInt ∧ x23.toInt < ((20400 : Nat) : Int) := by omega
    refine ok.ck b23 (ok.letE (v1 := X.1 61 (tp0 + 1)) (by rw [i23]; exact hF1.1 61 _ (show (12200 : Nat) ∉ [14800, 15000] from by decide)) (ok.ck b21 (ok.letV ?_)))
    rw [i21]
    have hF2 : Fr YR [14800, 15000] X (wI V1 75 (fr + i) (X.1 61 (tp0 + 1))) := hF1.wI 75 _ _ (show (15000 : Nat) ∈ [14800, 15000] from by decide)
    have p75 : (wI V1 75 (fr + i) (X.1 61 (tp0 + 1))).1 75 (fr + i) = X.1 61 (tp0 + 1) := wI_at _ _ _ _
    have r75 : ∀ c, c ≠ fr + i → (wI V1 75 (fr + i) (X.1 61 (tp0 + 1))).1 75 c = V1.1 75 c := fun c hcn => wI_ne _ _ _ _ _ _ (fun g => hcn g.2)
    have r74 : ∀ c, (wI V1 75 (fr + i) (X.1 61 (tp0 + 1))).1 74 c = V1.1 74 c := fun c => wI_ne _ _ _ _ _ _ (fun g => absurd g.1 (by decide))
    obtain ⟨V2, hV2⟩ : ∃ V : St, wI V1 75 (fr + i) (X.1 61 (tp0 + 1)) = V := ⟨_, rfl⟩
    rw [hV2] at hF2 p75 r75 r74 ⊢
    refine ok.inc (by decide) (by omega) (fun x26 hx26 => ?_)
    refine ih (i + 1) V2 x26 N (by omega) (by omega) (by omega) hF2 (fun c hcc => ?_) (fun j hj => ?_)
    · obtain ⟨w1, w2⟩ := ho c (by omega)
      rw [r74, q74 c (by omega), r75 c (by omega), q75]
      exact ⟨w1, w2⟩
    · by_cases g : j = i
      · subst g
        rw [r74, p74, p75]
        exact ⟨rfl, rfl⟩
      · obtain ⟨w1, w2⟩ := hc j (by omega)
        rw [r74, q74 _ (by omega), r75 _ (by omega), q75]
        exact ⟨w1, w2⟩
