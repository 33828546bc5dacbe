/-! a new kind -/
def NK (Y Z : St) (L0 f : Int32) (i : Int) : Prop := Fr YR [15, 1400, 1600, 1800] Y Z ∧ (Z.1 0 15).toInt = L0.toInt + i ∧ (∀ j : Nat, (j : Int) < L0.toInt → Z.1 9 j = Y.1 9 j) ∧ (∀ j : Nat, (j : Int) < i → Z.1 9 (ix L0 + j) = Y.1 10 (ix f + j))
theorem NK.w {Y Z : St} {L0 f : Int32} {i : Int} (h : NK Y Z L0 f i) (e k : Nat) (v : Int32) (he : e = 7 ∨ e = 8) : NK Y (wI Z e k v) L0 f i := by
  have q0 : ∀ j, (wI Z e k v).1 0 j = Z.1 0 j := fun j => wI_ne _ _ _ _ _ _ (by rintro ⟨q, -⟩; omega)
  have q9 : ∀ j, (wI Z e k v).1 9 j = Z.1 9 j := fun j => wI_ne _ _ _ _ _ _ (by rintro ⟨q, -⟩; omega)
  refine ⟨?_, by rw [q0]; exact h.2.1, fun j hj => by rw [q9]; exact h.2.2.1 j hj, fun j hj => by rw [q9]; exact h.2.2.2 j hj⟩
  rcases he with rfl | rfl
  · exact h.1.wI 7 k v (show (1400 : Nat) ∈ [15, 1400, 1600, 1800] from by decide)
  · exact h.1.wI 8 k v (show (1600 : Nat) ∈ [15, 1400, 1600, 1800] from by decide)
theorem NK.st {Y Z : St} {L0 f i x13 x17 : Int32} {i1 : Int} (h : NK Y Z L0 f i.toInt) (hL : 0 ≤ L0.toInt) (hf : 0 ≤ f.toInt) (hi : 0 ≤ i.toInt) (h13 : x13.toInt = f.toInt + i.toInt) (h17 : x17.toInt = (Z.1 0 15).toInt + 1) (h1 : i1 = i.toInt + 1) : NK Y (wI (wI Z 9 (ix (Z.1 0 15)) (Z.1 10 (ix x13))) 0 15 x17) L0 f i1 := by
  subst h1
  have hz := h.2.1
  have q9 : ∀ j, (wI (wI Z 9 (ix (Z.1 0 15)) (Z.1 10 (ix x13))) 0 15 x17).1 9 j = (wI Z 9 (ix (Z.1 0 15)) (Z.1 10 (ix x13))).1 9 j := fun j => wI_ne _ _ _ _ _ _ (by rintro ⟨q, -⟩; omega)
  have hx := ix_add hL hi (c := Z.1 0 15) hz
  have hxc := ixc hL
  have hxi := ixc hi
  refine ⟨(h.1.wI 9 _ _ (show (1800 : Nat) ∈ [15, 1400, 1600, 1800] from by decide)).wI 0 15 _ (show (15 : Nat) ∈ [15, 1400, 1600, 1800] from by decide), ?_, fun j hj => ?_, fun j hj => ?_⟩
  · rw [wI_at, h17]
    omega
  · rw [q9, wI_ne _ _ _ _ _ _ (by rintro ⟨-, q⟩; omega)]
    exact h.2.2.1 j hj
  · rw [q9]
    by_cases g : (j : Int) < i.toInt
    · rw [wI_ne _ _ _ _ _ _ (by rintro ⟨-, q⟩; omega)]
      exact h.2.2.2 j g
    · have hj2 : j = ix i := by omega
      subst hj2
      rw [← hx, wI_at, ix_add hf hi h13]
      exact h.1.1 10 _ (show (2000 : Nat) ∉ [15, 1400, 1600, 1800] from by decide)
theorem k_fill {s f n K L0 : Int32} {Y : St} (hK : 0 ≤ K.toInt ∧ K.toInt < 6000) (hL : 0 ≤ L0.toInt ∧ L0.toInt + n.toInt ≤ 20000) (hf : 0 ≤ f.toInt ∧ f.toInt + n.toInt ≤ 3100) (hg : ∀ j : Nat, (j : Int) < n.toInt → 0 ≤ (Y.1 10 (ix f + j)).toInt ∧ (Y.1 10 (ix f + j)).toInt < 6000) :
    ∀ (m : Nat) (a5 i : Int32) (Z : St), 0 ≤ i.toInt → i.toInt ≤ n.toInt → (n.toInt - i.toInt).toNat < m → NK Y Z L0 f i.toInt → ok (f_kindOf_212 m s f n K a5 i Z) (fun r X1 => r = K ∧ NK Y X1 L0 f n.toInt) := by
  intro m
  unfold f_kindOf_212
  refine lp_indN (P := fun (m : Nat) (r : Int32 → Int32 → Int32 → Int32 → Int32 → Int32 → St → Option (Int32 × St)) => ∀ (a5 i : Int32) (Z : St), 0 ≤ i.toInt → i.toInt ≤ n.toInt → (n.toInt - i.toInt).toNat < m → NK Y Z L0 f i.toInt → ok (r s f n K a5 i Z) (fun r X1 => r = K ∧ NK Y X1 L0 f n.toInt)) ?_ ?_ m
  · intro a5 i Z _ _ hm; exact absurd hm (Nat.not_lt_zero _)
  · intro m r ih a5 i Z hi hin hm hN
    unfold f_kindOf_212_s
    refine ok.ite (fun c => ?_) (fun c => ?_)
    · refine ok.ck (show 0 ≤ K.toInt ∧ K.toInt < ((6000 : Nat) : Int) from hK) (ok.letV (ok.ret ⟨rfl, ?_⟩))
      have e : i.toInt = n.toInt := by omega
      rw [e] at hN
      exact hN.w 7 _ _ (Or.inl rfl)
    · refine ok.letV ?_
      obtain ⟨x13, e13, h13⟩ : ∃ x : Int32, f + i = x ∧ x.toInt = f.toInt + i.toInt := ⟨_, rfl, ti_add (by omega) (by omega)⟩
      rw [e13]
      refine ok.letV (ok.ck (show 0 ≤ x13.toInt ∧ x13.toInt < ((3100 : Nat) : Int) by omega) (ok.letV ?_))
      have hz := hN.2.1
      refine ok.ck (show 0 ≤ (Z.1 0 15).toInt ∧ (Z.1 0 15).toInt < ((20000 : Nat) : Int) by omega) (ok.letV (ok.letV ?_))
      obtain ⟨x17, e17, h17⟩ : ∃ x : Int32, Z.1 0 15 + (1 : Int32) = x ∧ x.toInt = (Z.1 0 15).toInt + 1 := ⟨_, rfl, ti_add (by rw [show (1 : Int32).toInt = 1 from rfl]; omega) (by rw [show (1 : Int32).toInt = 1 from rfl]; omega)⟩
      have er : (wI Z 9 (ix (Z.1 0 15)) (Z.1 10 (ix x13))).1 0 15 = Z.1 0 15 := wI_ne _ _ _ _ _ _ (by rintro ⟨q, -⟩; omega)
      rw [er, e17]
      refine ok.letV (ok.letV (ok.ck (show 0 ≤ K.toInt ∧ K.toInt < ((6000 : Nat) : Int) from hK) (ok.letV ?_)))
      obtain ⟨i1, ei1, hi1⟩ : ∃ i1 : Int32, i + Int32.ofInt 1 = i1 ∧ i1.toInt = i.toInt + 1 := ti_inc (by omega) (by decide)
      have hN2 : NK Y (wI (wI Z 9 (ix (Z.1 0 15)) (Z.1 10 (ix x13))) 0 15 x17) L0 f i1.toInt := hN.st hL.1 hf.1 hi h13 h17 hi1
      have g1 : (wI (wI Z 9 (ix (Z.1 0 15)) (Z.1 10 (ix x13))) 0 15 x17).1 10 (ix x13) = Y.1 10 (ix f + ix i) := by
        rw [wI_ne _ _ _ _ _ _ (by rintro ⟨q, -⟩; omega), wI_ne _ _ _ _ _ _ (by rintro ⟨q, -⟩; omega), ix_add hf.1 hi h13]
        exact hN.1.1 10 _ (show (2000 : Nat) ∉ [15, 1400, 1600, 1800] from by decide)
      have g2 := hg (ix i) (by have := ixc hi; omega)
      rw [← g1] at g2
      have fin : ∀ (b : Int32) (W : St), NK Y W L0 f i1.toInt → W.1 10 (ix x13) = (wI (wI Z 9 (ix (Z.1 0 15)) (Z.1 10 (ix x13))) 0 15 x17).1 10 (ix x13) → ok (f_kindOf_284 r s f n K a5 i b K W) (fun r X1 => r = K ∧ NK Y X1 L0 f n.toInt) := by
        intro b W hW hW2
        have hW8 := hW.w 8 (ix K) (vp_nar .boolean b) (Or.inr rfl)
        have f15 : ∀ (b0 : Int32), ok (f_kindOf_315 r s f n K i b0 (wI W 8 (ix K) (vp_nar .boolean b))) (fun r X1 => r = K ∧ NK Y X1 L0 f n.toInt) := by
          intro b0
          unfold f_kindOf_315
          rw [ei1]
          exact ok.letV (ih b0 i1 _ (by omega) (by omega) (by omega) hW8)
        unfold f_kindOf_284
        refine ok.ck (show 0 ≤ K.toInt ∧ K.toInt < ((6000 : Nat) : Int) from hK) (ok.letV ?_)
        refine ok.ite (fun _ => ?_) (fun _ => f15 _)
        rw [e13]
        have e10 : (wI W 8 (ix K) (vp_nar .boolean b)).1 10 (ix x13) = W.1 10 (ix x13) := wI_ne _ _ _ _ _ _ (by rintro ⟨q, -⟩; omega)
        refine ok.letV (ok.letV (ok.ck (show 0 ≤ x13.toInt ∧ x13.toInt < ((3100 : Nat) : Int) by omega) (ok.letV ?_)))
        rw [e10, hW2]
        exact ok.ck (show 0 ≤ _ ∧ _ < ((6000 : Nat) : Int) from g2) (ok.letV (ok.letV (f15 _)))
      refine ok.ite (fun _ => ?_) (fun _ => ?_)
      · refine ok.letV (ok.ck (show 0 ≤ x13.toInt ∧ x13.toInt < ((3100 : Nat) : Int) by omega) (ok.letV ?_))
        refine ok.ck (show 0 ≤ _ ∧ _ < ((6000 : Nat) : Int) from g2) (ok.letV ?_)
        refine ok.ite (fun _ => fin _ _ hN2 rfl) (fun _ => ?_)
        unfold f_kindOf_279
        exact fin _ _ hN2 rfl
      · unfold f_kindOf_279
        exact fin _ _ hN2 rfl
def NEWK (X X1 : St) (s f n : Int32) : Prop := Fr YR [13, 15, 800, 1000, 1200, 1400, 1600, 1800] X X1 ∧ (X1.1 0 13).toInt = (X.1 0 13).toInt + 1 ∧ (X1.1 0 15).toInt = (X.1 0 15).toInt + n.toInt ∧ (∀ j, j ≠ ix (X.1 0 13) → X1.1 4 j = X.1 4 j ∧ X1.1 5 j = X.1 5 j ∧ X1.1 6 j = X.1 6 j) ∧ X1.1 4 (ix (X.1 0 13)) = s ∧ X1.1 5 (ix (X.1 0 13)) = n ∧ X1.1 6 (ix (X.1 0 13)) = X.1 0 15 ∧ (∀ j : Nat, (j : Int) < (X.1 0 15).toInt → X1.1 9 j = X.1 9 j) ∧ (∀ j : Nat, (j : Int) < n.toInt → X1.1 9 (ix (X.1 0 15) + j) = X.1 10 (ix f + j))
theorem Fr.mono {Y : List Ent} {L L1 : List Nat} {X X1 : St} (h : Fr Y L X X1) (hs : ∀ k ∈ L, k ∈ L1) : Fr Y L1 X X1 := ⟨fun e k hk => h.1 e k (fun q => hk (hs _ q)), fun e k hk => h.2.1 e k (fun q => hk (hs _ q)), fun e k hk => h.2.2 e k (fun q => hk (hs _ q))⟩
theorem k_new {s f n : Int32} {X : St} (h0 : 0 ≤ (X.1 0 13).toInt ∧ (X.1 0 13).toInt ≤ 5999) (hl : 0 ≤ (X.1 0 15).toInt ∧ (X.1 0 15).toInt + n.toInt ≤ 20000) (hn : 0 ≤ n.toInt) (hf : 0 ≤ f.toInt ∧ f.toInt + n.toInt ≤ 3100) (h4 : s.toInt = 4 → 1 ≤ n.toInt) (hg : ∀ j : Nat, (j : Int) < n.toInt → 0 ≤ (X.1 10 (ix f + j)).toInt ∧ (X.1 10 (ix f + j)).toInt < 6000) : ok (kNew s f n X) (fun r X1 => r = X.1 0 13 ∧ NEWK X X1 s f n) := by
  unfold kNew
  refine ok.letV (ok.letV ?_)
  obtain ⟨x4, e4, h4x⟩ : ∃ x : Int32, X.1 0 13 + (1 : Int32) = x ∧ x.toInt = (X.1 0 13).toInt + 1 := ⟨_, rfl, ti_add (by rw [show (1 : Int32).toInt = 1 from rfl]; omega) (by rw [show (1 : Int32).toInt = 1 from rfl]; omega)⟩
  rw [e4]
  have hc : inR (X.1 0 13) 6000 := ⟨h0.1, show (X.1 0 13).toInt < ((6000 : Nat) : Int) by omega⟩
  refine ok.letV (ok.letV (ok.ck hc (ok.letV (ok.ck hc (ok.letV (ok.letV (ok.ck hc (ok.letV ?_))))))))
  obtain ⟨Y, hY⟩ : ∃ Y : St, wI (wI (wI (wI X 0 13 x4) 4 (ix (X.1 0 13)) s) 5 (ix (X.1 0 13)) n) 6 (ix (X.1 0 13)) ((wI (wI (wI X 0 13 x4) 4 (ix (X.1 0 13)) s) 5 (ix (X.1 0 13)) n).1 0 15) = Y := ⟨_, rfl⟩
  rw [hY]
  have e15 : (wI (wI (wI X 0 13 x4) 4 (ix (X.1 0 13)) s) 5 (ix (X.1 0 13)) n).1 0 15 = X.1 0 15 := rfl
  rw [e15] at hY
  have y13 : Y.1 0 13 = x4 := by rw [← hY]; rfl
  have y15 : Y.1 0 15 = X.1 0 15 := by rw [← hY]; rfl
  have y9 : ∀ j, Y.1 9 j = X.1 9 j := fun j => by rw [← hY]; rfl
  have y10 : ∀ j, Y.1 10 j = X.1 10 j := fun j => by rw [← hY]; rfl
  have y4 : ∀ j, Y.1 4 j = (wI X 4 (ix (X.1 0 13)) s).1 4 j := fun j => by rw [← hY]; rfl
  have y5 : ∀ j, Y.1 5 j = (wI X 5 (ix (X.1 0 13)) n).1 5 j := fun j => by rw [← hY]; rfl
  have y6 : ∀ j, Y.1 6 j = (wI X 6 (ix (X.1 0 13)) (X.1 0 15)).1 6 j := fun j => by rw [← hY]; rfl
  have hFY : Fr YR [13, 15, 800, 1000, 1200, 1400, 1600, 1800] X Y := by
    rw [← hY]
    exact ((((Fr.rf.wI 0 13 _ (show (13 : Nat) ∈ [13, 15, 800, 1000, 1200, 1400, 1600, 1800] from by decide)).wI 4 _ _ (show (800 : Nat) ∈ [13, 15, 800, 1000, 1200, 1400, 1600, 1800] from by decide)).wI 5 _ _ (show (1000 : Nat) ∈ [13, 15, 800, 1000, 1200, 1400, 1600, 1800] from by decide)).wI 6 _ _ (show (1200 : Nat) ∈ [13, 15, 800, 1000, 1200, 1400, 1600, 1800] from by decide))
  clear hY
  have tail : ∀ (b : Int32), ok (f_kindOf_168 s f n (X.1 0 13) b (X.1 0 13) Y) (fun r X1 => r = X.1 0 13 ∧ NEWK X X1 s f n) := by
    intro b
    have hN : NK Y (wI Y 8 (ix (X.1 0 13)) (vp_nar .boolean b)) (X.1 0 15) f (0 : Int32).toInt := by
      refine NK.w ⟨Fr.rf, ?_, fun j _ => rfl, fun j hj => ?_⟩ 8 _ _ (Or.inr rfl)
      · rw [y15, show (0 : Int32).toInt = 0 from rfl]; omega
      · rw [show (0 : Int32).toInt = 0 from rfl] at hj; omega
    have f207 : ∀ b0 : Int32, ok (f_kindOf_207 s f n (X.1 0 13) b0 (wI Y 8 (ix (X.1 0 13)) (vp_nar .boolean b))) (fun r X1 => r = X.1 0 13 ∧ NEWK X X1 s f n) := by
      intro b0
      unfold f_kindOf_207
      refine (k_fill (K := X.1 0 13) (L0 := X.1 0 15) (Y := Y) ⟨h0.1, by omega⟩ hl hf (fun j hj => by rw [y10]; exact hg j hj) BIG b0 (0 : Int32) _ (by decide) (by rw [show (0 : Int32).toInt = 0 from rfl]; exact hn) (Nat.lt_of_le_of_lt (show (n.toInt - (0 : Int32).toInt).toNat ≤ 3100 by rw [show (0 : Int32).toInt = 0 from rfl]; omega) (by decide)) hN).mono ?_
      rintro r X1 ⟨hr, hF, hl1, ha, hb⟩
      refine ⟨hr, hFY.tr hF (by decide), ?_, hl1, fun j hj => ⟨?_, ?_, ?_⟩, ?_, ?_, ?_, fun j hj => ?_, fun j hj => ?_⟩
      · rw [hF.1 0 13 (show (13 : Nat) ∉ [15, 1400, 1600, 1800] from by decide), y13]; exact h4x
      · rw [hF.1 4 j (show (800 : Nat) ∉ [15, 1400, 1600, 1800] from by decide), y4, wI_ne _ _ _ _ _ _ (fun q => hj q.2)]
      · rw [hF.1 5 j (show (1000 : Nat) ∉ [15, 1400, 1600, 1800] from by decide), y5, wI_ne _ _ _ _ _ _ (fun q => hj q.2)]
      · rw [hF.1 6 j (show (1200 : Nat) ∉ [15, 1400, 1600, 1800] from by decide), y6, wI_ne _ _ _ _ _ _ (fun q => hj q.2)]
      · rw [hF.1 4 _ (show (800 : Nat) ∉ [15, 1400, 1600, 1800] from by decide), y4, wI_at]
      · rw [hF.1 5 _ (show (1000 : Nat) ∉ [15, 1400, 1600, 1800] from by decide), y5, wI_at]
      · rw [hF.1 6 _ (show (1200 : Nat) ∉ [15, 1400, 1600, 1800] from by decide), y6, wI_at]
      · rw [ha j hj, y9]
      · rw [hb j hj, y10]
    unfold f_kindOf_168
    refine ok.ck hc (ok.letV (ok.ite (fun c => ?_) (fun c => ?_)))
    · have g0 := hg 0 (by have := h4 c; omega)
      rw [Nat.add_zero] at g0
      have e10 : (wI Y 8 (ix (X.1 0 13)) (vp_nar .boolean b)).1 10 (ix f) = X.1 10 (ix f) := by
        rw [wI_ne _ _ _ _ _ _ (by rintro ⟨q, -⟩; omega), y10]
      have h41 := h4 c
      refine ok.ck (show 0 ≤ f.toInt ∧ f.toInt < ((3100 : Nat) : Int) by omega) (ok.letV ?_)
      rw [e10]
      exact ok.ck (show 0 ≤ _ ∧ _ < ((6000 : Nat) : Int) from g0) (ok.letV (ok.letV (ok.letV (f207 _))))
    · exact ok.ite (fun _ => ok.letV (ok.letV (f207 _))) (fun _ => f207 _)
  exact ok.ite (fun _ => tail _) (fun _ => tail _)
def KOF (X X1 : St) (s f n r : Int32) : Prop := (0 ≤ r.toInt ∧ r.toInt < (X.1 0 13).toInt ∧ sameK X (ix r) s f n ∧ (∀ j : Nat, (j : Int) < r.toInt → ¬ sameK X j s f n) ∧ X1 = X) ∨ ((∀ j : Nat, (j : Int) < (X.1 0 13).toInt → ¬ sameK X j s f n) ∧ r = X.1 0 13 ∧ NEWK X X1 s f n)
theorem s_kindOf {s f n : Int32} {X : St} (hT : KT X) (hc : (X.1 0 13).toInt ≤ 5999) (hl : (X.1 0 15).toInt + n.toInt ≤ 20000) (hf : 0 ≤ f.toInt ∧ f.toInt + n.toInt ≤ 3100) (hS : KS s.toInt n.toInt) (hg : ∀ j : Nat, (j : Int) < n.toInt → 0 ≤ (X.1 10 (ix f + j)).toInt ∧ (X.1 10 (ix f + j)).toInt < (X.1 0 13).toInt) : ok (f_kindOf s f n X) (fun r X1 => KOF X X1 s f n r) := by
  have hn : 0 ≤ n.toInt := by rcases hS with h | h | h <;> omega
  have h13 := hT.1
  have h15 := hT.2.1
  refine k_find (Q := fun F => ok F (fun r X1 => KOF X X1 s f n r)) hT (by omega) (by omega) hf (fun k h0 h1 hs hj => ok.ret (Or.inl ⟨h0, h1, hs, hj, rfl⟩)) (fun hno => ?_)
  refine (k_new ⟨h13, hc⟩ ⟨h15, hl⟩ hn hf (fun q => by rcases hS with h | h | h <;> omega) (fun j hj => ⟨(hg j hj).1, by have := (hg j hj).2; omega⟩)).mono ?_
  rintro r X1 ⟨hr, hN⟩
  exact Or.inr ⟨hno, hr, hN⟩
theorem KT_new {X X1 : St} {s f n : Int32} (hT : KT X) (h : NEWK X X1 s f n) (hS : KS s.toInt n.toInt) (hg : ∀ j : Nat, (j : Int) < n.toInt → 0 ≤ (X.1 10 (ix f + j)).toInt ∧ (X.1 10 (ix f + j)).toInt < (X.1 0 13).toInt) : KT X1 := by
  obtain ⟨hF, h13, h15, ho, h4, h5, h6, h9, h9n⟩ := h
  obtain ⟨t1, t2, t3⟩ := hT
  have hn : 0 ≤ n.toInt := by rcases hS with h | h | h <;> omega
  have hx := ixc t1
  have hy := ixc t2
  refine ⟨by omega, by omega, fun k hk => ?_⟩
  by_cases g : k = ix (X.1 0 13)
  · subst g
    unfold KTk
    rw [h4, h5, h6, h15]
    refine ⟨t2, hn, by omega, hS, fun i hi => ?_⟩
    rw [h9n i hi]
    have := hg i hi
    omega
  · obtain ⟨o4, o5, o6⟩ := ho k g
    obtain ⟨a, b, c, d, e⟩ := t3 k (by omega)
    unfold KTk
    rw [o4, o5, o6, h15]
    refine ⟨a, b, by omega, d, fun i hi => ?_⟩
    have := ixc a
    rw [h9 _ (by omega)]
    exact e i hi
/-- the kinds of X stand in X1 as they were -/
def KX (X X1 : St) : Prop := (X.1 0 13).toInt ≤ (X1.1 0 13).toInt ∧ (X.1 0 15).toInt ≤ (X1.1 0 15).toInt ∧ (∀ j : Nat, (j : Int) < (X.1 0 13).toInt → X1.1 4 j = X.1 4 j ∧ X1.1 5 j = X.1 5 j ∧ X1.1 6 j = X.1 6 j) ∧ (∀ j : Nat, (j : Int) < (X.1 0 15).toInt → X1.1 9 j = X.1 9 j)
theorem KX.rf {X : St} : KX X X := ⟨Int.le_refl _, Int.le_refl _, fun _ _ => ⟨rfl, rfl, rfl⟩, fun _ _ => rfl⟩
theorem KX.tr {X X1 X2 : St} (h : KX X X1) (g : KX X1 X2) : KX X X2 := ⟨Int.le_trans h.1 g.1, Int.le_trans h.2.1 g.2.1, fun j hj => by
  obtain ⟨a, b, c⟩ := h.2.2.1 j hj
  obtain ⟨d, e, f⟩ := g.2.2.1 j (Int.lt_of_lt_of_le hj h.1)
  exact ⟨d.trans a, e.trans b, f.trans c⟩, fun j hj => (g.2.2.2 j (Int.lt_of_lt_of_le hj h.2.1)).trans (h.2.2.2 j hj)⟩
theorem KX.fr {X X1 : St} {L : List Nat} (h : Fr YR L X X1) (hl : 13 ∉ L ∧ 15 ∉ L ∧ 800 ∉ L ∧ 1000 ∉ L ∧ 1200 ∉ L ∧ 1800 ∉ L) : KX X X1 := ⟨by rw [h.1 0 13 hl.1]; exact Int.le_refl _, by rw [h.1 0 15 hl.2.1]; exact Int.le_refl _, fun j _ => ⟨h.1 4 j hl.2.2.1, h.1 5 j hl.2.2.2.1, h.1 6 j hl.2.2.2.2.1⟩, fun j _ => h.1 9 j hl.2.2.2.2.2⟩
theorem KX.new {X X1 : St} {s f n : Int32} (hT : KT X) (hn : 0 ≤ n.toInt) (h : NEWK X X1 s f n) : KX X X1 := by
  obtain ⟨hF, h13, h15, ho, h4, h5, h6, h9, h9n⟩ := h
  have hx := ixc hT.1
  exact ⟨by omega, by omega, fun j hj => ho j (by omega), h9⟩
theorem KT.fr {X X1 : St} {L : List Nat} (hT : KT X) (h : Fr YR L X X1) (hl : 13 ∉ L ∧ 15 ∉ L ∧ 800 ∉ L ∧ 1000 ∉ L ∧ 1200 ∉ L ∧ 1800 ∉ L) : KT X1 := by
  have e13 : X1.1 0 13 = X.1 0 13 := h.1 0 13 hl.1
  have e15 : X1.1 0 15 = X.1 0 15 := h.1 0 15 hl.2.1
  refine ⟨by rw [e13]; exact hT.1, by rw [e15]; exact hT.2.1, fun k hk => ?_⟩
  rw [e13] at hk
  have e4 : X1.1 4 k = X.1 4 k := h.1 4 k hl.2.2.1
  have e5 : X1.1 5 k = X.1 5 k := h.1 5 k hl.2.2.2.1
  have e6 : X1.1 6 k = X.1 6 k := h.1 6 k hl.2.2.2.2.1
  obtain ⟨a, b, c, d, e⟩ := hT.2.2 k hk
  unfold KTk
  rw [e4, e5, e6, e15]
  refine ⟨a, b, c, d, fun i hi => ?_⟩
  have e9 : X1.1 9 (ix (X.1 6 k) + i) = X.1 9 (ix (X.1 6 k) + i) := h.1 9 _ hl.2.2.2.2.2
  rw [e9]
  exact e i hi
/-- the kind r of X1 is the one of sort s with n entries, those of X at f -/
def isK (X X1 : St) (s f n r : Int32) : Prop := 0 ≤ r.toInt ∧ r.toInt < (X1.1 0 13).toInt ∧ X1.1 4 (ix r) = s ∧ X1.1 5 (ix r) = n ∧ ∀ i : Nat, (i : Int) < n.toInt → X1.1 9 (ix (X1.1 6 (ix r)) + i) = X.1 10 (ix f + i)
theorem KOF.is {X X1 : St} {s f n r : Int32} (hT : KT X) (h : KOF X X1 s f n r) : isK X X1 s f n r := by
  rcases h with ⟨a, b, c, -, rfl⟩ | ⟨-, rfl, hF, h13, h15, ho, h4, h5, h6, h9, h9n⟩
  · exact ⟨a, b, c⟩
  · refine ⟨hT.1, by omega, h4, h5, ?_⟩
    rw [h6]
    exact h9n
theorem KOF.kx {X X1 : St} {s f n r : Int32} (hT : KT X) (hS : KS s.toInt n.toInt) (h : KOF X X1 s f n r) : KX X X1 := by
  have hn : 0 ≤ n.toInt := by rcases hS with h | h | h <;> omega
  rcases h with ⟨a, b, c, -, rfl⟩ | ⟨-, rfl, hN⟩
  · exact KX.rf
  · exact KX.new hT hn hN
theorem KOF.kt {X X1 : St} {s f n r : Int32} (hT : KT X) (hS : KS s.toInt n.toInt) (hg : ∀ j : Nat, (j : Int) < n.toInt → 0 ≤ (X.1 10 (ix f + j)).toInt ∧ (X.1 10 (ix f + j)).toInt < (X.1 0 13).toInt) (h : KOF X X1 s f n r) : KT X1 := by
  rcases h with ⟨a, b, c, -, rfl⟩ | ⟨-, rfl, hN⟩
  · exact hT
  · exact KT_new hT hN hS hg
theorem KOF.fr {X X1 : St} {s f n r : Int32} (h : KOF X X1 s f n r) : Fr YR [13, 15, 800, 1000, 1200, 1400, 1600, 1800] X X1 := by
  rcases h with ⟨a, b, c, -, rfl⟩ | ⟨-, rfl, hN⟩
  · exact Fr.rf
  · exact hN.1
theorem KOF.num {X X1 : St} {s f n r : Int32} (hS : KS s.toInt n.toInt) (h : KOF X X1 s f n r) : (X1.1 0 13).toInt ≤ (X.1 0 13).toInt + 1 ∧ (X1.1 0 15).toInt ≤ (X.1 0 15).toInt + n.toInt := by
  have hn : 0 ≤ n.toInt := by rcases hS with h | h | h <;> omega
  rcases h with ⟨a, b, c, -, rfl⟩ | ⟨-, rfl, hN⟩
  · omega
  · have := hN.2.1
    have := hN.2.2.1
    omega
