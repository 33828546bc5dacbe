/-! a part called -/
theorem calls_loop {X : St} {lb tp0 m : Nat} (hm : m ≤ 4) (hlb : (X.1 0 32).toInt = (lb : Int)) (hlb2 : lb ≤ 4455) (htp : (X.1 0 31).toInt = ((tp0 + m : Nat) : Int)) (htb : tp0 + m ≤ 20000) : ∀ (k : Nat) (Z : St) (a4 : Int32) (N : Nat), k < N → k ≤ m → a4.toInt = (k : Int) - 1 → Fr YR [31, 12400, 12600] X Z → (Z.1 0 31).toInt = ((tp0 + k : Nat) : Int) → (∀ j, j < lb ∨ lb + m ≤ j → Z.1 62 j = X.1 62 j ∧ Z.1 63 j = X.1 63 j) → (∀ j, k ≤ j → j < m → Z.1 62 (lb + j) = X.1 60 (tp0 + j) ∧ Z.1 63 (lb + j) = X.1 61 (tp0 + j)) → ok (f_calls_92 N a4 Z) (fun _ Y => Fr YR [31, 12400, 12600] X Y ∧ (Y.1 0 31).toInt = (tp0 : Int) ∧ (∀ j, j < lb ∨ lb + m ≤ j → Y.1 62 j = X.1 62 j ∧ Y.1 63 j = X.1 63 j) ∧ ∀ j, j < m → Y.1 62 (lb + j) = X.1 60 (tp0 + j) ∧ Y.1 63 (lb + j) = X.1 61 (tp0 + j)) := by
  have z1 : (1 : Int32).toInt = 1 := rfl
  intro k
  induction k with
  | zero =>
    intro Z a4 N hN hk ha hF h31 ho hd
    obtain ⟨N, rfl⟩ : ∃ k, N = k + 1 := ⟨N - 1, by omega⟩
    show ok (f_calls_92_s (f_calls_92 N) a4 Z) _
    unfold f_calls_92_s
    exact ok.ite (fun _ => ok.ret ⟨hF, h31, ho, fun j hj => hd j (Nat.zero_le _) hj⟩) (fun g => absurd (show a4.toInt < 0 by omega) g)
  | succ k ih =>
    intro Z a4 N hN hk ha hF h31 ho hd
    obtain ⟨N, rfl⟩ : ∃ k, N = k + 1 := ⟨N - 1, by omega⟩
    show ok (f_calls_92_s (f_calls_92 N) a4 Z) _
    unfold f_calls_92_s
    refine ok.ite (fun g => absurd g (by omega)) (fun _ => ?_)
    refine ok.letV (ok.sub (by rw [z1]; omega) (fun x22 hx22 => ok.letV ?_))
    rw [z1] at hx22
    have hF1 : Fr YR [31, 12400, 12600] X (wI Z 0 31 x22) := hF.wI 0 31 _ (show (31 : Nat) ∈ [31, 12400, 12600] from by decide)
    have v31 : (wI Z 0 31 x22).1 0 31 = x22 := wI_at _ _ _ _
    have v62 : ∀ j, (wI Z 0 31 x22).1 62 j = Z.1 62 j := fun j => wI_ne _ _ _ _ _ _ (fun g => absurd g.1 (by decide))
    have v63 : ∀ j, (wI Z 0 31 x22).1 63 j = Z.1 63 j := fun j => wI_ne _ _ _ _ _ _ (fun g => absurd g.1 (by decide))
    obtain ⟨V, hV⟩ : ∃ V : St, wI Z 0 31 x22 = V := ⟨_, rfl⟩
    rw [hV] at hF1 v31 v62 v63 ⊢
    have V32 : V.1 0 32 = X.1 0 32 := hF1.1 0 32 (by decide)
    have e22 : ix x22 = tp0 + k := ixn (by omega)
    have hb22 : 0 ≤ x22.toInt ∧ x22.toInt < ((20400 : Nat) : Int) := by omega
    refine ok.letE (v1 := X.1 0 32) V32 (ok.add (by omega) (fun x25 hx25 => ok.letE (v1 := x22) v31 ?_))
    have e25 : ix x25 = lb + k := ixn (by omega)
    have hb25 : 0 ≤ x25.toInt ∧ x25.toInt < ((5000 : Nat) : Int) := by omega
    refine ok.ck hb22 (ok.letE (v1 := X.1 60 (tp0 + k)) (by rw [e22]; exact hF1.1 60 _ (show (12000 : Nat) ∉ [31, 12400, 12600] from by decide)) (ok.ck hb25 (ok.letV ?_)))
    rw [e25]
    have hF2 : Fr YR [31, 12400, 12600] X (wI V 62 (lb + k) (X.1 60 (tp0 + k))) := hF1.wI 62 _ _ (show (12400 : Nat) ∈ [31, 12400, 12600] from by decide)
    have p62 : (wI V 62 (lb + k) (X.1 60 (tp0 + k))).1 62 (lb + k) = X.1 60 (tp0 + k) := wI_at _ _ _ _
    have q62 : ∀ j, j ≠ lb + k → (wI V 62 (lb + k) (X.1 60 (tp0 + k))).1 62 j = Z.1 62 j := fun j hj => (wI_ne _ _ _ _ _ _ (fun g => hj g.2)).trans (v62 j)
    have q63 : ∀ j, (wI V 62 (lb + k) (X.1 60 (tp0 + k))).1 63 j = Z.1 63 j := fun j => (wI_ne _ _ _ _ _ _ (fun g => absurd g.1 (by decide))).trans (v63 j)
    have q31 : (wI V 62 (lb + k) (X.1 60 (tp0 + k))).1 0 31 = x22 := (wI_ne _ _ _ _ _ _ (fun g => absurd g.1 (by decide))).trans v31
    obtain ⟨V2, hV2⟩ : ∃ V2 : St, wI V 62 (lb + k) (X.1 60 (tp0 + k)) = V2 := ⟨_, rfl⟩
    rw [hV2] at hF2 p62 q62 q63 q31 ⊢
    refine ok.letE (v1 := X.1 0 32) (hF2.1 0 32 (by decide)) (ok.add (by omega) (fun x30 hx30 => ok.letE (v1 := x22) q31 ?_))
    obtain rfl : x30 = x25 := Int32.toInt_inj.mp (by omega)
    refine ok.ck hb22 (ok.letE (v1 := X.1 61 (tp0 + k)) (by rw [e22]; exact hF2.1 61 _ (show (12200 : Nat) ∉ [31, 12400, 12600] from by decide)) (ok.ck hb25 (ok.letV ?_)))
    rw [e25]
    have hF3 : Fr YR [31, 12400, 12600] X (wI V2 63 (lb + k) (X.1 61 (tp0 + k))) := hF2.wI 63 _ _ (show (12600 : Nat) ∈ [31, 12400, 12600] from by decide)
    have p63 : (wI V2 63 (lb + k) (X.1 61 (tp0 + k))).1 63 (lb + k) = X.1 61 (tp0 + k) := wI_at _ _ _ _
    have r63 : ∀ j, j ≠ lb + k → (wI V2 63 (lb + k) (X.1 61 (tp0 + k))).1 63 j = Z.1 63 j := fun j hj => (wI_ne _ _ _ _ _ _ (fun g => hj g.2)).trans (q63 j)
    have r62 : ∀ j, (wI V2 63 (lb + k) (X.1 61 (tp0 + k))).1 62 j = V2.1 62 j := fun j => wI_ne _ _ _ _ _ _ (fun g => absurd g.1 (by decide))
    have r31 : (wI V2 63 (lb + k) (X.1 61 (tp0 + k))).1 0 31 = x22 := (wI_ne _ _ _ _ _ _ (fun g => absurd g.1 (by decide))).trans q31
    obtain ⟨V3, hV3⟩ : ∃ V3 : St, wI V2 63 (lb + k) (X.1 61 (tp0 + k)) = V3 := ⟨_, rfl⟩
    rw [hV3] at hF3 p63 r63 r62 r31 ⊢
    refine ok.inc (by decide) (by omega) (fun x34 hx34 => ?_)
    refine ih V3 x34 N (by omega) (by omega) (by omega) hF3 (by rw [r31]; omega) (fun j hj => ?_) (fun j j1 j2 => ?_)
    · rw [r62, q62 j (by omega), r63 j (by omega)]
      exact ho j hj
    · by_cases g : j = k
      · subst g
        rw [r62, p62, p63]
        exact ⟨rfl, rfl⟩
      · rw [r62, q62 _ (by omega), r63 _ (by omega)]
        exact hd j (by omega) j2
/-- what calls() leaves: a frame -/
def CALQ (X Y : St) (back : Int32) (b c tp0 m : Nat) : Prop := (Y.1 0 38).toInt = (c : Int) + 1 ∧ c < 100 ∧ (Y.1 0 37).toInt = (b : Int) + 1 ∧ (Y.1 0 32).toInt = ((45 * c : Nat) : Int) ∧ (Y.1 0 31).toInt = (tp0 : Int) ∧ ((Y.1 76 b).toInt = -1 ∧ Y.1 77 b = back ∧ Y.1 78 b = X.1 0 32) ∧ (∀ j, j ≠ b → Y.1 76 j = X.1 76 j ∧ Y.1 77 j = X.1 77 j ∧ Y.1 78 j = X.1 78 j) ∧ (∀ j, j < 45 * c ∨ 45 * c + m ≤ j → Y.1 62 j = X.1 62 j ∧ Y.1 63 j = X.1 63 j) ∧ ∀ j, j < m → Y.1 62 (45 * c + j) = X.1 60 (tp0 + j) ∧ Y.1 63 (45 * c + j) = X.1 61 (tp0 + j)
set_option maxHeartbeats 4000000 in
theorem r_calls {X : St} {p1 p2 p3 : Int32} {b c tp0 m : Nat} (hp : 0 ≤ p1.toInt ∧ p1.toInt ≤ 40) (hm : (X.1 15 (ix p1)).toInt = (m : Int)) (hm4 : m ≤ 4) (h38 : (X.1 0 38).toInt = (c : Int)) (hc : c ≤ 100) (h37 : (X.1 0 37).toInt = (b : Int)) (hb : b < 2300) (htp : (X.1 0 31).toInt = ((tp0 + m : Nat) : Int)) (htb : tp0 + m ≤ 20000) : ok (f_calls p1 p2 p3 X) (fun _ Y => (Fr YR [43, 44] X Y ∧ 0 ≤ (Y.1 0 43).toInt) ∨ (Fr YR [31, 32, 37, 38, 12400, 12600, 15200, 15400, 15600] X Y ∧ CALQ X Y p2 b c tp0 m)) := by
  have z1 : (1 : Int32).toInt = 1 := rfl
  have z45 : (45 : Int32).toInt = 45 := rfl
  have zm : (-1 : Int32).toInt = -1 := rfl
  have e37 := ixn h37
  have hb37 : 0 ≤ (X.1 0 37).toInt ∧ (X.1 0 37).toInt < ((2300 : Nat) : Int) := by omega
  have hbp : 0 ≤ p1.toInt ∧ p1.toInt < ((41 : Nat) : Int) := by omega
  unfold f_calls
  refine ok.letV (ok.ite (fun c0 => ?_) (fun c0 => ?_))
  · refine ok.bd r_ends ?_
    rintro r E ⟨hE, hE2, -⟩
    exact ok.ret (Or.inl ⟨hE, hE2 (by decide)⟩)
  · refine ok.letV (ok.add (by rw [z1]; omega) (fun x3 hx3 => ok.letV ?_))
    rw [z1] at hx3
    refine ok.letE (v1 := X.1 0 37) rfl (ok.ck hb37 (ok.letV (ok.letE (v1 := X.1 0 37) rfl (ok.ck hb37 (ok.letV (ok.letE (v1 := X.1 0 37) rfl (ok.letE (v1 := X.1 0 32) rfl (ok.ck hb37 (ok.letV ?_)))))))))
    refine ok.letE (v1 := X.1 0 37) rfl (ok.add (by rw [z1]; omega) (fun x13 hx13 => ok.letV ?_))
    rw [z1] at hx13
    rw [e37]
    refine ok.letE (v1 := x3) (by rw [wI_ne _ 0 _ _ 0 _ (by rintro ⟨-, a_⟩; exact absurd a_ (by decide)), wI_ne _ 78 _ _ 0 _ (by rintro ⟨a_, -⟩; exact absurd a_ (by decide)), wI_ne _ 77 _ _ 0 _ (by rintro ⟨a_, -⟩; exact absurd a_ (by decide)), wI_ne _ 76 _ _ 0 _ (by rintro ⟨a_, -⟩; exact absurd a_ (by decide)), wI_at]) (ok.sub (by rw [z1]; omega) (fun x16 hx16 => ok.mul (by rw [z45]; omega) (fun x17 hx17 => ok.letV ?_)))
    rw [z1] at hx16
    rw [z45] at hx17
    have hF : Fr YR [31, 32, 37, 38, 12400, 12600, 15200, 15400, 15600] X (wI (wI (wI (wI (wI (wI X 0 38 x3) 76 b (-1)) 77 b p2) 78 b (X.1 0 32)) 0 37 x13) 0 32 x17) := ((((((Fr.rf.wI 0 38 _ (show (38 : Nat) ∈ [31, 32, 37, 38, 12400, 12600, 15200, 15400, 15600] from by decide)).wI 76 b _ (show (15200 : Nat) ∈ [31, 32, 37, 38, 12400, 12600, 15200, 15400, 15600] from by decide)).wI 77 b _ (show (15400 : Nat) ∈ [31, 32, 37, 38, 12400, 12600, 15200, 15400, 15600] from by decide)).wI 78 b _ (show (15600 : Nat) ∈ [31, 32, 37, 38, 12400, 12600, 15200, 15400, 15600] from by decide)).wI 0 37 _ (show (37 : Nat) ∈ [31, 32, 37, 38, 12400, 12600, 15200, 15400, 15600] from by decide)).wI 0 32 _ (show (32 : Nat) ∈ [31, 32, 37, 38, 12400, 12600, 15200, 15400, 15600] from by decide))
    have g38 : (wI (wI (wI (wI (wI (wI X 0 38 x3) 76 b (-1)) 77 b p2) 78 b (X.1 0 32)) 0 37 x13) 0 32 x17).1 0 38 = x3 := by rw [wI_ne _ 0 _ _ 0 _ (by rintro ⟨-, a_⟩; exact absurd a_ (by decide)), wI_ne _ 0 _ _ 0 _ (by rintro ⟨-, a_⟩; exact absurd a_ (by decide)), wI_ne _ 78 _ _ 0 _ (by rintro ⟨a_, -⟩; exact absurd a_ (by decide)), wI_ne _ 77 _ _ 0 _ (by rintro ⟨a_, -⟩; exact absurd a_ (by decide)), wI_ne _ 76 _ _ 0 _ (by rintro ⟨a_, -⟩; exact absurd a_ (by decide)), wI_at]
    have g37 : (wI (wI (wI (wI (wI (wI X 0 38 x3) 76 b (-1)) 77 b p2) 78 b (X.1 0 32)) 0 37 x13) 0 32 x17).1 0 37 = x13 := by rw [wI_ne _ 0 _ _ 0 _ (by rintro ⟨-, a_⟩; exact absurd a_ (by decide)), wI_at]
    have g32 : (wI (wI (wI (wI (wI (wI X 0 38 x3) 76 b (-1)) 77 b p2) 78 b (X.1 0 32)) 0 37 x13) 0 32 x17).1 0 32 = x17 := by rw [wI_at]
    have g31 : (wI (wI (wI (wI (wI (wI X 0 38 x3) 76 b (-1)) 77 b p2) 78 b (X.1 0 32)) 0 37 x13) 0 32 x17).1 0 31 = X.1 0 31 := by rw [wI_ne _ 0 _ _ 0 _ (by rintro ⟨-, a_⟩; exact absurd a_ (by decide)), wI_ne _ 0 _ _ 0 _ (by rintro ⟨-, a_⟩; exact absurd a_ (by decide)), wI_ne _ 78 _ _ 0 _ (by rintro ⟨a_, -⟩; exact absurd a_ (by decide)), wI_ne _ 77 _ _ 0 _ (by rintro ⟨a_, -⟩; exact absurd a_ (by decide)), wI_ne _ 76 _ _ 0 _ (by rintro ⟨a_, -⟩; exact absurd a_ (by decide)), wI_ne _ 0 _ _ 0 _ (by rintro ⟨-, a_⟩; exact absurd a_ (by decide))]
    have g76 : (wI (wI (wI (wI (wI (wI X 0 38 x3) 76 b (-1)) 77 b p2) 78 b (X.1 0 32)) 0 37 x13) 0 32 x17).1 76 b = -1 := by rw [wI_ne _ 0 _ _ 76 _ (by rintro ⟨a_, -⟩; exact absurd a_ (by decide)), wI_ne _ 0 _ _ 76 _ (by rintro ⟨a_, -⟩; exact absurd a_ (by decide)), wI_ne _ 78 _ _ 76 _ (by rintro ⟨a_, -⟩; exact absurd a_ (by decide)), wI_ne _ 77 _ _ 76 _ (by rintro ⟨a_, -⟩; exact absurd a_ (by decide)), wI_at]
    have g77 : (wI (wI (wI (wI (wI (wI X 0 38 x3) 76 b (-1)) 77 b p2) 78 b (X.1 0 32)) 0 37 x13) 0 32 x17).1 77 b = p2 := by rw [wI_ne _ 0 _ _ 77 _ (by rintro ⟨a_, -⟩; exact absurd a_ (by decide)), wI_ne _ 0 _ _ 77 _ (by rintro ⟨a_, -⟩; exact absurd a_ (by decide)), wI_ne _ 78 _ _ 77 _ (by rintro ⟨a_, -⟩; exact absurd a_ (by decide)), wI_at]
    have g78 : (wI (wI (wI (wI (wI (wI X 0 38 x3) 76 b (-1)) 77 b p2) 78 b (X.1 0 32)) 0 37 x13) 0 32 x17).1 78 b = X.1 0 32 := by rw [wI_ne _ 0 _ _ 78 _ (by rintro ⟨a_, -⟩; exact absurd a_ (by decide)), wI_ne _ 0 _ _ 78 _ (by rintro ⟨a_, -⟩; exact absurd a_ (by decide)), wI_at]
    have n76 : ∀ j, j ≠ b → (wI (wI (wI (wI (wI (wI X 0 38 x3) 76 b (-1)) 77 b p2) 78 b (X.1 0 32)) 0 37 x13) 0 32 x17).1 76 j = X.1 76 j := fun j hj => by rw [wI_ne _ 0 _ _ 76 _ (by rintro ⟨a_, -⟩; exact absurd a_ (by decide)), wI_ne _ 0 _ _ 76 _ (by rintro ⟨a_, -⟩; exact absurd a_ (by decide)), wI_ne _ 78 _ _ 76 _ (by rintro ⟨a_, -⟩; exact absurd a_ (by decide)), wI_ne _ 77 _ _ 76 _ (by rintro ⟨a_, -⟩; exact absurd a_ (by decide)), wI_ne _ 76 _ _ 76 _ (by rintro ⟨-, a_⟩; exact hj a_), wI_ne _ 0 _ _ 76 _ (by rintro ⟨a_, -⟩; exact absurd a_ (by decide))]
    have n77 : ∀ j, j ≠ b → (wI (wI (wI (wI (wI (wI X 0 38 x3) 76 b (-1)) 77 b p2) 78 b (X.1 0 32)) 0 37 x13) 0 32 x17).1 77 j = X.1 77 j := fun j hj => by rw [wI_ne _ 0 _ _ 77 _ (by rintro ⟨a_, -⟩; exact absurd a_ (by decide)), wI_ne _ 0 _ _ 77 _ (by rintro ⟨a_, -⟩; exact absurd a_ (by decide)), wI_ne _ 78 _ _ 77 _ (by rintro ⟨a_, -⟩; exact absurd a_ (by decide)), wI_ne _ 77 _ _ 77 _ (by rintro ⟨-, a_⟩; exact hj a_), wI_ne _ 76 _ _ 77 _ (by rintro ⟨a_, -⟩; exact absurd a_ (by decide)), wI_ne _ 0 _ _ 77 _ (by rintro ⟨a_, -⟩; exact absurd a_ (by decide))]
    have n78 : ∀ j, j ≠ b → (wI (wI (wI (wI (wI (wI X 0 38 x3) 76 b (-1)) 77 b p2) 78 b (X.1 0 32)) 0 37 x13) 0 32 x17).1 78 j = X.1 78 j := fun j hj => by rw [wI_ne _ 0 _ _ 78 _ (by rintro ⟨a_, -⟩; exact absurd a_ (by decide)), wI_ne _ 0 _ _ 78 _ (by rintro ⟨a_, -⟩; exact absurd a_ (by decide)), wI_ne _ 78 _ _ 78 _ (by rintro ⟨-, a_⟩; exact hj a_), wI_ne _ 77 _ _ 78 _ (by rintro ⟨a_, -⟩; exact absurd a_ (by decide)), wI_ne _ 76 _ _ 78 _ (by rintro ⟨a_, -⟩; exact absurd a_ (by decide)), wI_ne _ 0 _ _ 78 _ (by rintro ⟨a_, -⟩; exact absurd a_ (by decide))]
    have n62 : ∀ j, (wI (wI (wI (wI (wI (wI X 0 38 x3) 76 b (-1)) 77 b p2) 78 b (X.1 0 32)) 0 37 x13) 0 32 x17).1 62 j = X.1 62 j := fun j => by rw [wI_ne _ 0 _ _ 62 _ (by rintro ⟨a_, -⟩; exact absurd a_ (by decide)), wI_ne _ 0 _ _ 62 _ (by rintro ⟨a_, -⟩; exact absurd a_ (by decide)), wI_ne _ 78 _ _ 62 _ (by rintro ⟨a_, -⟩; exact absurd a_ (by decide)), wI_ne _ 77 _ _ 62 _ (by rintro ⟨a_, -⟩; exact absurd a_ (by decide)), wI_ne _ 76 _ _ 62 _ (by rintro ⟨a_, -⟩; exact absurd a_ (by decide)), wI_ne _ 0 _ _ 62 _ (by rintro ⟨a_, -⟩; exact absurd a_ (by decide))]
    have n63 : ∀ j, (wI (wI (wI (wI (wI (wI X 0 38 x3) 76 b (-1)) 77 b p2) 78 b (X.1 0 32)) 0 37 x13) 0 32 x17).1 63 j = X.1 63 j := fun j => by rw [wI_ne _ 0 _ _ 63 _ (by rintro ⟨a_, -⟩; exact absurd a_ (by decide)), wI_ne _ 0 _ _ 63 _ (by rintro ⟨a_, -⟩; exact absurd a_ (by decide)), wI_ne _ 78 _ _ 63 _ (by rintro ⟨a_, -⟩; exact absurd a_ (by decide)), wI_ne _ 77 _ _ 63 _ (by rintro ⟨a_, -⟩; exact absurd a_ (by decide)), wI_ne _ 76 _ _ 63 _ (by rintro ⟨a_, -⟩; exact absurd a_ (by decide)), wI_ne _ 0 _ _ 63 _ (by rintro ⟨a_, -⟩; exact absurd a_ (by decide))]
    obtain ⟨V, hV⟩ : ∃ V : St, wI (wI (wI (wI (wI (wI X 0 38 x3) 76 b (-1)) 77 b p2) 78 b (X.1 0 32)) 0 37 x13) 0 32 x17 = V := ⟨_, rfl⟩
    rw [hV] at hF g38 g37 g32 g31 g76 g77 g78 n76 n77 n78 n62 n63 ⊢
    refine ok.ck hbp (ok.letE (v1 := X.1 15 (ix p1)) (hF.1 15 _ (show (3000 : Nat) ∉ [31, 32, 37, 38, 12400, 12600, 15200, 15400, 15600] from by decide)) (ok.sub (by rw [z1]; omega) (fun x20 hx20 => ?_)))
    rw [z1] at hx20
    refine (calls_loop (X := V) (lb := 45 * c) (tp0 := tp0) (m := m) hm4 (by rw [g32]; omega) (by omega) (by rw [g31]; exact htp) htb m V x20 BIG (ltBIG (by omega)) (Nat.le_refl _) (by omega) Fr.rf (by rw [g31]; exact htp) (fun j _ => ⟨rfl, rfl⟩) (fun j j1 j2 => by omega)).mono ?_
    rintro r Y ⟨y1, y2, y3, y4⟩
    have q76 : ∀ j, Y.1 76 j = V.1 76 j := fun j => y1.1 76 j (show (15200 : Nat) ∉ [31, 12400, 12600] from by decide)
    have q77 : ∀ j, Y.1 77 j = V.1 77 j := fun j => y1.1 77 j (show (15400 : Nat) ∉ [31, 12400, 12600] from by decide)
    have q78 : ∀ j, Y.1 78 j = V.1 78 j := fun j => y1.1 78 j (show (15600 : Nat) ∉ [31, 12400, 12600] from by decide)
    have q60 : ∀ j, V.1 60 j = X.1 60 j := fun j => hF.1 60 j (show (12000 : Nat) ∉ [31, 32, 37, 38, 12400, 12600, 15200, 15400, 15600] from by decide)
    have q61 : ∀ j, V.1 61 j = X.1 61 j := fun j => hF.1 61 j (show (12200 : Nat) ∉ [31, 32, 37, 38, 12400, 12600, 15200, 15400, 15600] from by decide)
    refine Or.inr ⟨hF.tr (y1.mono (by decide)) (fun _ q => q), ?_, by omega, ?_, ?_, y2, ⟨by rw [q76, g76]; rfl, by rw [q77, g77], by rw [q78, g78]⟩, fun j hj => ⟨by rw [q76, n76 j hj], by rw [q77, n77 j hj], by rw [q78, n78 j hj]⟩, fun j hj => ?_, fun j hj => ?_⟩
    · rw [y1.1 0 38 (by decide), g38]
      omega
    · rw [y1.1 0 37 (by decide), g37]
      omega
    · rw [y1.1 0 32 (by decide), g32]
      omega
    · obtain ⟨w1, w2⟩ := y3 j hj
      exact ⟨w1.trans (n62 j), w2.trans (n63 j)⟩
    · obtain ⟨w1, w2⟩ := y4 j hj
      exact ⟨w1.trans (q60 _), w2.trans (q61 _)⟩
