/-! the reference's tokens -/
def BY (b : Int32) (c : Int) : Prop := (0 ≤ b.toInt ∧ b.toInt ≤ 127 ∧ c = b.toInt) ∨ (-128 ≤ b.toInt ∧ b.toInt < 0 ∧ c = b.toInt + 256)
theorem BY.lt {b : Int32} {c : Int} (h : BY b c) : isLt b.toInt = isLt c := by
  rcases h with ⟨_, _, h⟩ | ⟨h1, h2, h3⟩
  · rw [h]
  · rw [show isLt b.toInt = false from nb.mpr (fun g => by have := (isLt_iff _).mp g; omega), show isLt c = false from nb.mpr (fun g => by have := (isLt_iff _).mp g; omega)]
theorem BY.eq {b : Int32} {c k : Int} (h : BY b c) (hk : 0 ≤ k ∧ k ≤ 127) : b.toInt = k ↔ c = k := by
  rcases h with ⟨_, _, h⟩ | ⟨h1, h2, h3⟩ <;> omega
theorem BY.rg {b : Int32} {c lo hi : Int} (h : BY b c) (h1 : 0 ≤ lo) (h2 : hi ≤ 127) : (lo ≤ b.toInt ∧ b.toInt ≤ hi) ↔ (lo ≤ c ∧ c ≤ hi) := by
  rcases h with ⟨_, _, h⟩ | ⟨h1, h2, h3⟩ <;> omega
/-- the text in the reference's rows -/
def TXR (ch : Tx) (n : Nat) (X : St) : Prop := TXT ch n ∧ (X.1 0 1).toInt = n ∧ ∀ i, i < n → BY (X.1 2 i) (ch i)
/-- only the cells of the token change -/
def TRF (X Y : St) : Prop := (∀ e k, ¬ (e = 0 ∧ 5 ≤ k ∧ k ≤ 8) → Y.1 e k = X.1 e k) ∧ (∀ e k, ¬ (e = 0 ∧ k = 47) → Y.2.1 e k = X.2.1 e k) ∧ Y.2.2 = X.2.2
section RTK
variable {ch : Tx} {n : Nat} {X Y Z : St}
theorem TRF.rf : TRF X X := ⟨fun _ _ _ => rfl, fun _ _ _ => rfl, rfl⟩
theorem TRF.tr (h : TRF X Y) (g : TRF Y Z) : TRF X Z := ⟨fun e k q => (g.1 e k q).trans (h.1 e k q), fun e k q => (g.2.1 e k q).trans (h.2.1 e k q), g.2.2.trans h.2.2⟩
theorem TRF.wI (h : TRF X Y) (k : Nat) (v : Int32) (hk : 5 ≤ k ∧ k ≤ 8) : TRF X (_root_.Jvm.Pilot.CBlameCourtLaw_law_r8381_f30dd1.wI Y 0 k v) :=
  ⟨fun e j q => (wI_ne _ _ _ _ _ _ (fun g => q (by omega))).trans (h.1 e j q), h.2.1, h.2.2⟩
theorem TRF.wL (h : TRF X Y) (v : Int64) : TRF X (_root_.Jvm.Pilot.CBlameCourtLaw_law_r8381_f30dd1.wL Y 0 47 v) :=
  ⟨h.1, fun e j q => (wL_ne _ _ _ _ _ _ q).trans (h.2.1 e j q), h.2.2⟩
theorem TXR.fr (h : TXR ch n X) (g : TRF X Y) : TXR ch n Y := ⟨h.1, by rw [g.1 0 1 (by omega)]; exact h.2.1, fun i hi => by rw [g.1 2 i (by omega)]; exact h.2.2 i hi⟩
theorem r_in (p lo hi : Int32) (X : St) : pw (f_in p lo hi X) (fun r Y => Y = X ∧ ((r.toInt = 0 ∧ ¬ (lo.toInt ≤ p.toInt ∧ p.toInt ≤ hi.toInt)) ∨ (¬ r.toInt = 0 ∧ lo.toInt ≤ p.toInt ∧ p.toInt ≤ hi.toInt))) := by
  unfold f_in
  refine pw_ite (fun c => pw_ret ⟨rfl, Or.inl ⟨by decide, by omega⟩⟩) (fun c => pw_ite (fun c1 => pw_ret ⟨rfl, Or.inl ⟨by decide, by omega⟩⟩) (fun c1 => pw_ret ⟨rfl, Or.inr ⟨by decide, by omega⟩⟩))
theorem r_letterOf {p : Int32} {c : Int} (h : BY p c) (X : St) : pw (f_letterOf p X) (fun r Y => Y = X ∧ ((isLt c = true ∧ r.toInt = (f6 c : Int) ∧ 0 < r.toInt) ∨ (isLt c = false ∧ r.toInt = 0))) := by
  have l97 : (97 : Int32).toInt = 97 := by decide
  have l122 : (122 : Int32).toInt = 122 := by decide
  have l65 : (65 : Int32).toInt = 65 := by decide
  have l90 : (90 : Int32).toInt = 90 := by decide
  have l96 : (96 : Int32).toInt = 96 := by decide
  have l38 : (38 : Int32).toInt = 38 := by decide
  unfold f_letterOf
  refine pw_bd (r_in _ _ _ _) ?_
  rintro x1 X2 ⟨rfl, h1⟩
  rw [l97, l122, h.rg (by decide) (by decide)] at h1
  refine pw_ite (fun c1 => ?_) (fun c1 => ?_)
  · refine pw_bd (r_in _ _ _ _) ?_
    rintro x3 X4 ⟨rfl, h3⟩
    rw [l65, l90, h.rg (by decide) (by decide)] at h3
    refine pw_ite (fun c2 => ?_) (fun c2 => ?_)
    · refine pw_ret ⟨rfl, Or.inr ⟨nb.mpr (fun g => ?_), by decide⟩⟩
      have := (isLt_iff _).mp g
      omega
    · refine pw_let ?_
      have hc : 65 ≤ c ∧ c ≤ 90 := by omega
      have hp : p.toInt = c := by
        rcases h with ⟨_, _, h⟩ | ⟨_, _, h⟩ <;> omega
      have hr : (p - 38).toInt = c - 38 := by rw [ti_sub (by rw [hp, l38]; omega) (by rw [hp, l38]; omega), hp, l38]
      refine pw_ret ⟨rfl, Or.inl ⟨(isLt_iff _).mpr (Or.inr hc), ?_, by omega⟩⟩
      rw [hr]
      unfold f6
      rw [if_neg (by omega)]
      omega
  · refine pw_let ?_
    have hc : 97 ≤ c ∧ c ≤ 122 := by omega
    have hp : p.toInt = c := by
      rcases h with ⟨_, _, h⟩ | ⟨_, _, h⟩ <;> omega
    have hr : (p - 96).toInt = c - 96 := by rw [ti_sub (by rw [hp, l96]; omega) (by rw [hp, l96]; omega), hp, l96]
    refine pw_ret ⟨rfl, Or.inl ⟨(isLt_iff _).mpr (Or.inl hc), ?_, by omega⟩⟩
    rw [hr]
    unfold f6
    rw [if_pos (by omega)]
    omega
theorem wt_no : ∀ (ws : List Nm) (k : Int) (l : Nm), (∀ w ∈ ws, ¬ l = w) → wt ws k l = 258 := by
  intro ws
  induction ws with
  | nil => exact fun _ _ _ => rfl
  | cons w ws ih =>
    intro k l h
    show (if l = w then k else wt ws (k + 1) l) = 258
    rw [if_neg (h w List.mem_cons_self)]
    exact ih _ _ (fun v hv => h v (List.mem_cons_of_mem _ hv))
theorem WL_5 : ∀ w ∈ WL, w.length ≤ 5 := by decide
theorem WL_6 : ∀ w ∈ WL, p6 w ∈ [4199572, 49492, 590, 582, 5275982, 1361093, 5317957, 100975813, 57687, 5019269, 273191828, 37780, 1622087, 5017, 398] := by decide
/-- a keyword's number, or none -/
def wR_ (l : Nm) (r : Int) : Prop := (wt WL 261 l = 258 ∧ r = -1) ∨ (261 ≤ wt WL 261 l ∧ wt WL 261 l ≤ 275 ∧ r = wt WL 261 l - 261)
theorem r_wordOf {l : Nm} (hl : LT l) (h5 : l.length ≤ 5) (X : St) : pw (f_wordOf (lN (p6 l)) X) (fun r Y => Y = X ∧ wR_ l r.toInt) := by
  have hp := pkr_lt (B := 64) (f := f6) (G := fun x => isLt x = true) (fun _ hx => (f6_in hx).2) l hl
  have hp2 : 64 ^ l.length ≤ 64 ^ 5 := Nat.pow_le_pow_right (by decide) h5
  have hp3 : (64 : Nat) ^ 5 = 1073741824 := by decide
  have hp4 : p6 l < 1073741824 := by
    show pkr 64 f6 l < 1073741824
    omega
  have hL : (lN (p6 l)).toInt = (p6 l : Int) := pk_lT (by omega)
  have h2 : ((lN (p6 l)).toInt32).toInt = (p6 l : Int) := by
    rw [lN_i]
    exact Int32.toInt_ofNat_of_lt (by omega)
  have hit : ∀ (w : Nm) (k : Int32) (v : Int), w ∈ WL → p6 l = p6 w → k.toInt = v → wt WL 261 w = 261 + v → 0 ≤ v → v ≤ 14 → pw (some (k, X)) (fun r Y => Y = X ∧ wR_ l r.toInt) := by
    intro w k v hw he hk hv h0 h14
    have e := p6_inj hl (WL_lt w hw).1 he
    refine pw_ret ⟨rfl, Or.inr ?_⟩
    rw [e, hv, hk]
    omega
  unfold f_wordOf
  refine pw_let ?_
  refine pw_pos ((cmpL _ _).mpr (by rw [hL]; have : (2000000000 : Int64).toInt = 2000000000 := (by decide); omega)) ?_
  refine pw_let ?_
  rw [h2]
  refine pw_ite (fun c => hit [110, 102] 14 14 (by decide) (by have : p6 [110, 102] = 398 := (by decide); omega) (by decide) (by decide) (by decide) (by decide)) (fun c1 => ?_)
  refine pw_ite (fun c => hit [102, 105] 3 3 (by decide) (by have : p6 [102, 105] = 582 := (by decide); omega) (by decide) (by decide) (by decide) (by decide)) (fun c2 => ?_)
  refine pw_ite (fun c => hit [110, 105] 2 2 (by decide) (by have : p6 [110, 105] = 590 := (by decide); omega) (by decide) (by decide) (by decide) (by decide)) (fun c3 => ?_)
  refine pw_ite (fun c => hit [121, 110, 97] 13 13 (by decide) (by have : p6 [121, 110, 97] = 5017 := (by decide); omega) (by decide) (by decide) (by decide) (by decide)) (fun c4 => ?_)
  refine pw_ite (fun c => hit [116, 110, 105] 11 11 (by decide) (by have : p6 [116, 110, 105] = 37780 := (by decide); omega) (by decide) (by decide) (by decide) (by decide)) (fun c5 => ?_)
  refine pw_ite (fun c => hit [116, 101, 108] 1 1 (by decide) (by have : p6 [116, 101, 108] = 49492 := (by decide); omega) (by decide) (by decide) (by decide) (by decide)) (fun c6 => ?_)
  refine pw_ite (fun c => hit [119, 101, 110] 8 8 (by decide) (by have : p6 [119, 101, 110] = 57687 := (by decide); omega) (by decide) (by decide) (by decide) (by decide)) (fun c7 => ?_)
  refine pw_ite (fun c => hit [101, 115, 108, 101] 5 5 (by decide) (by have : p6 [101, 115, 108, 101] = 1361093 := (by decide); omega) (by decide) (by decide) (by decide) (by decide)) (fun c8 => ?_)
  refine pw_ite (fun c => hit [103, 97, 108, 102] 12 12 (by decide) (by have : p6 [103, 97, 108, 102] = 1622087 := (by decide); omega) (by decide) (by decide) (by decide) (by decide)) (fun c9 => ?_)
  refine pw_ite (fun c => hit [116, 114, 97, 112] 0 0 (by decide) (by have : p6 [116, 114, 97, 112] = 4199572 := (by decide); omega) (by decide) (by decide) (by decide) (by decide)) (fun c10 => ?_)
  refine pw_ite (fun c => hit [101, 122, 105, 115] 9 9 (by decide) (by have : p6 [101, 122, 105, 115] = 5019269 := (by decide); omega) (by decide) (by decide) (by decide) (by decide)) (fun c11 => ?_)
  refine pw_ite (fun c => hit [110, 101, 104, 116] 4 4 (by decide) (by have : p6 [110, 101, 104, 116] = 5275982 := (by decide); omega) (by decide) (by decide) (by decide) (by decide)) (fun c12 => ?_)
  refine pw_ite (fun c => hit [101, 117, 114, 116] 6 6 (by decide) (by have : p6 [101, 117, 114, 116] = 5317957 := (by decide); omega) (by decide) (by decide) (by decide) (by decide)) (fun c13 => ?_)
  refine pw_ite (fun c => hit [101, 115, 108, 97, 102] 7 7 (by decide) (by have : p6 [101, 115, 108, 97, 102] = 100975813 := (by decide); omega) (by decide) (by decide) (by decide) (by decide)) (fun c14 => ?_)
  refine pw_ite (fun c => hit [116, 110, 105, 114, 112] 10 10 (by decide) (by have : p6 [116, 110, 105, 114, 112] = 273191828 := (by decide); omega) (by decide) (by decide) (by decide) (by decide)) (fun c15 => ?_)
  refine pw_ret ⟨rfl, Or.inl ⟨wt_no _ _ _ (fun w hw g => ?_), by decide⟩⟩
  have h := WL_6 w hw
  rw [← g] at h
  simp only [List.mem_cons, List.not_mem_nil, or_false] at h
  omega
/-- the token that stands in the reference's cells is that from q on -/
def TKR (ch : Tx) (X : St) (q : Nat) : Prop := (X.1 0 5).toInt = nx ch q ∧ (X.1 0 6).toInt = pl ch q ∧
  ((ty ch q = 257 ∧ (X.1 0 7).toInt = 0) ∨ (ty ch q = 258 ∧ (X.1 0 7).toInt = 1 ∧ X.2.1 0 47 = lN (p6 (nm ch q)) ∧ (X.1 0 8).toInt = (nm ch q).length) ∨
   (261 ≤ ty ch q ∧ ty ch q ≤ 275 ∧ (X.1 0 7).toInt = 2 ∧ (X.2.1 0 47).toInt = ty ch q - 261) ∨
   (ty ch q = 259 ∧ (X.1 0 7).toInt = 3 ∧ ((num ch q < 2147483648 ∧ (X.2.1 0 47).toInt = num ch q) ∨ (num ch q = 2147483648 ∧ 2147483648 ≤ (X.2.1 0 47).toInt))) ∨
   (ty ch q = 260 ∧ (X.1 0 7).toInt = 5) ∨ (ty ch q = 256 ∧ (X.1 0 7).toInt = 4 ∧ (X.2.1 0 47).toInt = 1000) ∨
   (33 ≤ ty ch q ∧ ty ch q ≤ 125 ∧ (X.1 0 7).toInt = 4 ∧ (X.2.1 0 47).toInt = ty ch q))
/-- a word's end -/
theorem r_name96 {X0 : St} {p k : Nat} (hF : TRF X0 X) (h6 : X.1 0 6 = X0.1 0 6) (h5 : (X.1 0 5).toInt = ((p + k : Nat) : Int)) (h8 : (X.1 0 8).toInt = (k : Int)) (hl : LT (nmr ch p k)) (hL : k ≤ 8 → X.2.1 0 47 = lN (p6 (nmr ch p k))) : pw (f_name_96 X) (fun _ Y => TRF X0 Y ∧ Y.1 0 6 = X0.1 0 6 ∧ (Y.1 0 5).toInt = ((p + k : Nat) : Int) ∧ ((8 < k ∧ (Y.1 0 7).toInt = 5) ∨ (k ≤ 8 ∧ wt WL 261 (nmr ch p k) = 258 ∧ (Y.1 0 7).toInt = 1 ∧ Y.2.1 0 47 = lN (p6 (nmr ch p k)) ∧ (Y.1 0 8).toInt = (k : Int)) ∨ (k ≤ 8 ∧ 261 ≤ wt WL 261 (nmr ch p k) ∧ wt WL 261 (nmr ch p k) ≤ 275 ∧ (Y.1 0 7).toInt = 2 ∧ (Y.2.1 0 47).toInt = wt WL 261 (nmr ch p k) - 261))) := by
  have hlen := nmr_len ch p k
  have l139 : ∀ (a b : Int32), ((a.toInt < 0 ∧ ((8 < k ∧ b.toInt = 5) ∨ (k ≤ 8 ∧ wt WL 261 (nmr ch p k) = 258 ∧ b.toInt = 1))) ∨ (0 ≤ a.toInt ∧ k ≤ 8 ∧ 261 ≤ wt WL 261 (nmr ch p k) ∧ wt WL 261 (nmr ch p k) ≤ 275 ∧ b.toInt = 2 ∧ a.toInt = wt WL 261 (nmr ch p k) - 261)) → pw (f_name_139 a b X) (fun _ Y => TRF X0 Y ∧ Y.1 0 6 = X0.1 0 6 ∧ (Y.1 0 5).toInt = ((p + k : Nat) : Int) ∧ ((8 < k ∧ (Y.1 0 7).toInt = 5) ∨ (k ≤ 8 ∧ wt WL 261 (nmr ch p k) = 258 ∧ (Y.1 0 7).toInt = 1 ∧ Y.2.1 0 47 = lN (p6 (nmr ch p k)) ∧ (Y.1 0 8).toInt = (k : Int)) ∨ (k ≤ 8 ∧ 261 ≤ wt WL 261 (nmr ch p k) ∧ wt WL 261 (nmr ch p k) ≤ 275 ∧ (Y.1 0 7).toInt = 2 ∧ (Y.2.1 0 47).toInt = wt WL 261 (nmr ch p k) - 261))) := by
    intro a b hab
    unfold f_name_139
    refine pw_eq (fun X9 e9 => ?_)
    have F9 : TRF X0 X9 := by rw [e9]; exact hF.wI 7 _ (by decide)
    have c6 : X9.1 0 6 = X0.1 0 6 := by rw [e9, wI_ne _ _ _ _ _ _ (by decide), h6]
    have c5 : (X9.1 0 5).toInt = ((p + k : Nat) : Int) := by rw [e9, wI_ne _ _ _ _ _ _ (by decide), h5]
    have c8 : (X9.1 0 8).toInt = (k : Int) := by rw [e9, wI_ne _ _ _ _ _ _ (by decide), h8]
    have c7 : X9.1 0 7 = b := by rw [e9, wI_at]
    have cL : X9.2.1 0 47 = X.2.1 0 47 := by rw [e9]; rfl
    have fin : ∀ m : Int64, ((k ≤ 8 ∧ wt WL 261 (nmr ch p k) = 258) → m = lN (p6 (nmr ch p k))) → (0 ≤ a.toInt → m.toInt = a.toInt) → pw (f_name_156 m X9) (fun _ Y => TRF X0 Y ∧ Y.1 0 6 = X0.1 0 6 ∧ (Y.1 0 5).toInt = ((p + k : Nat) : Int) ∧ ((8 < k ∧ (Y.1 0 7).toInt = 5) ∨ (k ≤ 8 ∧ wt WL 261 (nmr ch p k) = 258 ∧ (Y.1 0 7).toInt = 1 ∧ Y.2.1 0 47 = lN (p6 (nmr ch p k)) ∧ (Y.1 0 8).toInt = (k : Int)) ∨ (k ≤ 8 ∧ 261 ≤ wt WL 261 (nmr ch p k) ∧ wt WL 261 (nmr ch p k) ≤ 275 ∧ (Y.1 0 7).toInt = 2 ∧ (Y.2.1 0 47).toInt = wt WL 261 (nmr ch p k) - 261))) := by
      intro m m1 m2
      unfold f_name_156
      refine pw_eq (fun X11 e11 => ?_)
      have cI : ∀ i, X11.1 0 i = X9.1 0 i := fun i => by rw [e11]; rfl
      have cM : X11.2.1 0 47 = m := by rw [e11, wL_at]
      refine pw_ret ⟨by rw [e11]; exact F9.wL _, by rw [cI]; exact c6, by rw [cI]; exact c5, ?_⟩
      rw [cI, cI, c7, cM, c8]
      rcases hab with ⟨a1, ⟨a2, a3⟩ | ⟨a2, a3, a4⟩⟩ | ⟨a1, a2, a3, a4, a5, a6⟩
      · exact Or.inl ⟨a2, a3⟩
      · exact Or.inr (Or.inl ⟨a2, a3, a4, m1 ⟨a2, a3⟩, rfl⟩)
      · exact Or.inr (Or.inr ⟨a2, a3, a4, a5, by rw [m2 a1, a6]⟩)
    refine pw_ite (fun c => ?_) (fun c => ?_)
    · refine pw_let ?_
      exact fin _ (fun g => by rw [cL]; exact hL g.1) (fun g => by omega)
    · refine pw_let ?_
      refine fin _ (fun g => ?_) (fun _ => Int32.toInt_toInt64 _)
      rcases hab with ⟨a1, _⟩ | ⟨a1, a2, a3, a4, a5, a6⟩ <;> omega
  have l115 : ∀ b : Int32, ((k ≤ 8 → wR_ (nmr ch p k) b.toInt) ∧ (8 < k → b.toInt = -1)) → pw (f_name_115 b X) (fun _ Y => TRF X0 Y ∧ Y.1 0 6 = X0.1 0 6 ∧ (Y.1 0 5).toInt = ((p + k : Nat) : Int) ∧ ((8 < k ∧ (Y.1 0 7).toInt = 5) ∨ (k ≤ 8 ∧ wt WL 261 (nmr ch p k) = 258 ∧ (Y.1 0 7).toInt = 1 ∧ Y.2.1 0 47 = lN (p6 (nmr ch p k)) ∧ (Y.1 0 8).toInt = (k : Int)) ∨ (k ≤ 8 ∧ 261 ≤ wt WL 261 (nmr ch p k) ∧ wt WL 261 (nmr ch p k) ≤ 275 ∧ (Y.1 0 7).toInt = 2 ∧ (Y.2.1 0 47).toInt = wt WL 261 (nmr ch p k) - 261))) := by
    intro b ⟨hb1, hb2⟩
    unfold f_name_115
    refine pw_ite (fun c => ?_) (fun c => ?_)
    · refine pw_let ?_
      rw [h8]
      refine pw_ite (fun c1 => l139 b 1 (Or.inl ⟨c, Or.inr ⟨by omega, ?_, by decide⟩⟩)) (fun c1 => l139 b 5 (Or.inl ⟨c, Or.inl ⟨by omega, by decide⟩⟩))
      rcases hb1 (by omega) with h | h
      · exact h.1
      · omega
    · have hk : k ≤ 8 := by
        rcases Nat.lt_or_ge 8 k with g | g
        · have := hb2 g; omega
        · exact g
      rcases hb1 hk with h | h
      · omega
      · exact l139 b 2 (Or.inr ⟨by omega, hk, h.1, h.2.1, by decide, h.2.2⟩)
  unfold f_name_96
  refine pw_let ?_
  rw [h8]
  refine pw_ite (fun c => ?_) (fun c => ?_)
  · refine pw_let ?_
    rw [hL (by omega)]
    refine pw_bd (r_wordOf hl (by omega) X) ?_
    rintro x6 X7 ⟨rfl, h⟩
    exact l115 x6 ⟨fun _ => h, fun g => by omega⟩
  · refine l115 (-1) ⟨fun _ => Or.inl ⟨wt_no _ _ _ (fun w hw g => ?_), by decide⟩, fun _ => by decide⟩
    have := WL_5 w hw
    rw [← g, hlen] at this
    omega
theorem r_name {X0 : St} (hT : TXR ch n X0) {p : Nat} (h5 : (X0.1 0 5).toInt = p) (hpn : p ≤ n) (h0 : X0.2.1 0 47 = 0) : pw (f_name X0) (fun _ Y => TRF X0 Y ∧ Y.1 0 6 = X0.1 0 6 ∧ (Y.1 0 5).toInt = (RN isLt ch p : Int) ∧ ((8 < RN isLt ch p - p ∧ (Y.1 0 7).toInt = 5) ∨ (RN isLt ch p - p ≤ 8 ∧ wt WL 261 (nmr ch p (RN isLt ch p - p)) = 258 ∧ (Y.1 0 7).toInt = 1 ∧ Y.2.1 0 47 = lN (p6 (nmr ch p (RN isLt ch p - p))) ∧ (Y.1 0 8).toInt = ((RN isLt ch p - p : Nat) : Int)) ∨ (RN isLt ch p - p ≤ 8 ∧ 261 ≤ wt WL 261 (nmr ch p (RN isLt ch p - p)) ∧ wt WL 261 (nmr ch p (RN isLt ch p - p)) ≤ 275 ∧ (Y.1 0 7).toInt = 2 ∧ (Y.2.1 0 47).toInt = wt WL 261 (nmr ch p (RN isLt ch p - p)) - 261))) := by
  have hn := hT.1.1
  have hno : isLt (-1) = false := by decide
  have loop : ∀ N (X : St) (k : Nat), TRF X0 X → X.1 0 6 = X0.1 0 6 → (X.1 0 5).toInt = ((p + k : Nat) : Int) → (X.1 0 8).toInt = (k : Int) → p + k ≤ n → (∀ i, p ≤ i → i < p + k → isLt (ch i) = true) → (k ≤ 8 → X.2.1 0 47 = lN (p6 (nmr ch p k))) → pw (f_name_5 N X) (fun _ Y => TRF X0 Y ∧ Y.1 0 6 = X0.1 0 6 ∧ (Y.1 0 5).toInt = (RN isLt ch p : Int) ∧ ((8 < RN isLt ch p - p ∧ (Y.1 0 7).toInt = 5) ∨ (RN isLt ch p - p ≤ 8 ∧ wt WL 261 (nmr ch p (RN isLt ch p - p)) = 258 ∧ (Y.1 0 7).toInt = 1 ∧ Y.2.1 0 47 = lN (p6 (nmr ch p (RN isLt ch p - p))) ∧ (Y.1 0 8).toInt = ((RN isLt ch p - p : Nat) : Int)) ∨ (RN isLt ch p - p ≤ 8 ∧ 261 ≤ wt WL 261 (nmr ch p (RN isLt ch p - p)) ∧ wt WL 261 (nmr ch p (RN isLt ch p - p)) ≤ 275 ∧ (Y.1 0 7).toInt = 2 ∧ (Y.2.1 0 47).toInt = wt WL 261 (nmr ch p (RN isLt ch p - p)) - 261))) := by
    intro N
    unfold f_name_5
    refine lp_ind (P := fun (r : St → Option (Int32 × St)) => ∀ (X : St) (k : Nat), TRF X0 X → X.1 0 6 = X0.1 0 6 → (X.1 0 5).toInt = ((p + k : Nat) : Int) → (X.1 0 8).toInt = (k : Int) → p + k ≤ n → (∀ i, p ≤ i → i < p + k → isLt (ch i) = true) → (k ≤ 8 → X.2.1 0 47 = lN (p6 (nmr ch p k))) → pw (r X) (fun _ Y => TRF X0 Y ∧ Y.1 0 6 = X0.1 0 6 ∧ (Y.1 0 5).toInt = (RN isLt ch p : Int) ∧ ((8 < RN isLt ch p - p ∧ (Y.1 0 7).toInt = 5) ∨ (RN isLt ch p - p ≤ 8 ∧ wt WL 261 (nmr ch p (RN isLt ch p - p)) = 258 ∧ (Y.1 0 7).toInt = 1 ∧ Y.2.1 0 47 = lN (p6 (nmr ch p (RN isLt ch p - p))) ∧ (Y.1 0 8).toInt = ((RN isLt ch p - p : Nat) : Int)) ∨ (RN isLt ch p - p ≤ 8 ∧ 261 ≤ wt WL 261 (nmr ch p (RN isLt ch p - p)) ∧ wt WL 261 (nmr ch p (RN isLt ch p - p)) ≤ 275 ∧ (Y.1 0 7).toInt = 2 ∧ (Y.2.1 0 47).toInt = wt WL 261 (nmr ch p (RN isLt ch p - p)) - 261)))) (fun _ _ _ _ _ _ _ _ _ => pw_none) (fun r ih X k hF g6 g5 g8 hk hw hL => ?_) N
    have hX := hT.fr hF
    have hl : LT (nmr ch p k) := nmr_all k hw
    have out : isLt (ch (p + k)) = false → pw (f_name_96 X) (fun _ Y => TRF X0 Y ∧ Y.1 0 6 = X0.1 0 6 ∧ (Y.1 0 5).toInt = (RN isLt ch p : Int) ∧ ((8 < RN isLt ch p - p ∧ (Y.1 0 7).toInt = 5) ∨ (RN isLt ch p - p ≤ 8 ∧ wt WL 261 (nmr ch p (RN isLt ch p - p)) = 258 ∧ (Y.1 0 7).toInt = 1 ∧ Y.2.1 0 47 = lN (p6 (nmr ch p (RN isLt ch p - p))) ∧ (Y.1 0 8).toInt = ((RN isLt ch p - p : Nat) : Int)) ∨ (RN isLt ch p - p ≤ 8 ∧ 261 ≤ wt WL 261 (nmr ch p (RN isLt ch p - p)) ∧ wt WL 261 (nmr ch p (RN isLt ch p - p)) ≤ 275 ∧ (Y.1 0 7).toInt = 2 ∧ (Y.2.1 0 47).toInt = wt WL 261 (nmr ch p (RN isLt ch p - p)) - 261))) := by
      intro hx
      have e := RN_is hT.1 hno (Nat.le_add_right p k) hw hx
      have e2 : RN isLt ch p - p = k := by omega
      rw [e2]
      refine pw_mono (r_name96 hF g6 g5 g8 hl hL) ?_
      rintro _ Y ⟨a, b, c, d⟩
      exact ⟨a, b, by rw [c, e], d⟩
    unfold f_name_5_s
    refine pw_let ?_
    refine pw_let ?_
    refine pw_ite (fun c => ?_) (fun c => ?_)
    · rw [hX.2.1] at c
      refine out ?_
      rw [hT.1.2.1 _ (by omega)]
      exact hno
    · rw [hX.2.1] at c
      have hkn : p + k < n := by omega
      have hby := hX.2.2 _ hkn
      refine pw_let ?_
      refine pw_ck (fun _ => ?_)
      refine pw_let ?_
      rw [ixn g5]
      refine pw_bd (r_letterOf hby X) ?_
      rintro x15 X16 ⟨rfl, hz⟩
      refine pw_ite (fun c1 => out (by rcases hz with h | h; omega; exact h.1)) (fun c1 => ?_)
      obtain ⟨hlet, hval, -⟩ : isLt (ch (p + k)) = true ∧ x15.toInt = (f6 (ch (p + k)) : Int) ∧ 0 < x15.toInt := by
        rcases hz with h | h
        · exact h
        · omega
      have f64 := (f6_in hlet).2
      have go : ∀ m : Int64, (k + 1 ≤ 8 → m = lN (p6 (nmr ch p (k + 1)))) → pw (f_name_70 r m X16) (fun _ Y => TRF X0 Y ∧ Y.1 0 6 = X0.1 0 6 ∧ (Y.1 0 5).toInt = (RN isLt ch p : Int) ∧ ((8 < RN isLt ch p - p ∧ (Y.1 0 7).toInt = 5) ∨ (RN isLt ch p - p ≤ 8 ∧ wt WL 261 (nmr ch p (RN isLt ch p - p)) = 258 ∧ (Y.1 0 7).toInt = 1 ∧ Y.2.1 0 47 = lN (p6 (nmr ch p (RN isLt ch p - p))) ∧ (Y.1 0 8).toInt = ((RN isLt ch p - p : Nat) : Int)) ∨ (RN isLt ch p - p ≤ 8 ∧ 261 ≤ wt WL 261 (nmr ch p (RN isLt ch p - p)) ∧ wt WL 261 (nmr ch p (RN isLt ch p - p)) ≤ 275 ∧ (Y.1 0 7).toInt = 2 ∧ (Y.2.1 0 47).toInt = wt WL 261 (nmr ch p (RN isLt ch p - p)) - 261))) := by
        intro m hm
        unfold f_name_70
        refine pw_eq (fun X19 e19 => ?_)
        refine pw_let ?_
        refine pw_eq (fun x21 e21 => ?_)
        refine pw_eq (fun X22 e22 => ?_)
        refine pw_let ?_
        refine pw_eq (fun x24 e24 => ?_)
        refine pw_eq (fun X25 e25 => ?_)
        have l1 : (1 : Int32).toInt = 1 := by decide
        have c19 : ∀ i, X19.1 0 i = X16.1 0 i := fun i => by rw [e19]; rfl
        have v21 : x21.toInt = (k : Int) + 1 := by rw [e21, c19, ti_add (by rw [g8, l1]; omega) (by rw [g8, l1]; omega), g8, l1]
        have c22 : (X22.1 0 5).toInt = ((p + k : Nat) : Int) := by rw [e22, wI_ne _ _ _ _ _ _ (by decide), c19]; exact g5
        have v24 : x24.toInt = ((p + k : Nat) : Int) + 1 := by rw [e24, ti_add (by rw [c22, l1]; omega) (by rw [c22, l1]; omega), c22, l1]
        refine ih X25 (k + 1) ?_ ?_ ?_ ?_ (by omega) (fun i i1 i2 => ?_) (fun h8 => ?_)
        · rw [e25, e22, e19]; exact ((hF.wL _).wI 8 _ (by decide)).wI 5 _ (by decide)
        · rw [e25, wI_ne _ _ _ _ _ _ (by decide), e22, wI_ne _ _ _ _ _ _ (by decide), c19]; exact g6
        · rw [e25, wI_at, v24]; omega
        · rw [e25, wI_ne _ _ _ _ _ _ (by decide), e22, wI_at, v21]; omega
        · by_cases e : i = p + k
          · rw [e]; exact hlet
          · exact hw i i1 (by omega)
        · rw [e25, e22]
          show X19.2.1 0 47 = _
          rw [e19, wL_at]
          exact hm h8
      refine pw_let ?_
      rw [g8]
      refine pw_ite (fun c2 => ?_) (fun c2 => ?_)
      · refine pw_let ?_
        exact go _ (fun g => by omega)
      · have hb := p6_lt hl (by rw [nmr_len]; omega)
        refine pw_let ?_
        refine pw_let ?_
        refine pw_let ?_
        refine pw_ck (fun _ => ?_)
        refine pw_let ?_
        rw [ixn g5]
        refine pw_bd (r_letterOf hby X16) ?_
        rintro x30 X31 ⟨rfl, hz2⟩
        have hv2 : x30.toInt = (f6 (ch (p + k)) : Int) := by
          rcases hz2 with h | h
          · exact h.2.1
          · rw [hlet] at h
            exact absurd h.1 (by decide)
        refine pw_let ?_
        refine pw_let ?_
        refine go _ (fun g => ?_)
        have e30 : x30 = nI (f6 (ch (p + k))) := nIi hv2 (by omega)
        rw [e30, nI_l (by omega), hL (by omega)]
        show lN 64 * lN (p6 (nmr ch p k)) + lN (f6 (ch (p + k))) = lN (p6 (nmr ch p (k + 1)))
        rw [lN_mul, lN_add]
        congr 1
        show 64 * p6 (nmr ch p k) + f6 (ch (p + k)) = f6 (ch (p + k)) + 64 * p6 (nmr ch p k)
        omega
  unfold f_name
  refine pw_eq (fun X1 e1 => ?_)
  refine loop BIG X1 0 (by rw [e1]; exact TRF.rf.wI 8 _ (by decide)) ?_ ?_ ?_ hpn (fun i i1 i2 => absurd i2 (by omega)) (fun _ => ?_)
  · rw [e1, wI_ne _ _ _ _ _ _ (by decide)]
  · rw [e1, wI_ne _ _ _ _ _ _ (by decide)]; exact h5
  · rw [e1, wI_at]; decide
  · rw [e1]; exact h0
def NV (v : Int) (y : Int64) : Prop := (v < 2147483648 ∧ y.toInt = v) ∨ (v = 2147483648 ∧ 2147483648 ≤ y.toInt)
theorem r_digits {X0 : St} (hT : TXR ch n X0) {p : Nat} (hp0 : (X0.1 0 5).toInt = p) (hpn : p ≤ n) (h0 : X0.2.1 0 47 = 0) : pw (f_next_122 BIG X0) (fun _ Y => TRF X0 Y ∧ Y.1 0 6 = X0.1 0 6 ∧ Y.1 0 7 = X0.1 0 7 ∧ (Y.1 0 5).toInt = (RN isDg ch p : Int) ∧ NV (nvr ch p (RN isDg ch p - p)) (Y.2.1 0 47)) := by
  have hn := hT.1.1
  have hno : isDg (-1) = false := by decide
  have loop : ∀ N (X : St) (k : Nat), TRF X0 X → X.1 0 6 = X0.1 0 6 → X.1 0 7 = X0.1 0 7 → (X.1 0 5).toInt = ((p + k : Nat) : Int) → p + k ≤ n → (∀ i, p ≤ i → i < p + k → isDg (ch i) = true) → NV (nvr ch p k) (X.2.1 0 47) → pw (f_next_122 N X) (fun _ Y => TRF X0 Y ∧ Y.1 0 6 = X0.1 0 6 ∧ Y.1 0 7 = X0.1 0 7 ∧ (Y.1 0 5).toInt = (RN isDg ch p : Int) ∧ NV (nvr ch p (RN isDg ch p - p)) (Y.2.1 0 47)) := by
    intro N
    unfold f_next_122
    refine lp_ind (P := fun (r : St → Option (Int32 × St)) => ∀ (X : St) (k : Nat), TRF X0 X → X.1 0 6 = X0.1 0 6 → X.1 0 7 = X0.1 0 7 → (X.1 0 5).toInt = ((p + k : Nat) : Int) → p + k ≤ n → (∀ i, p ≤ i → i < p + k → isDg (ch i) = true) → NV (nvr ch p k) (X.2.1 0 47) → pw (r X) (fun _ Y => TRF X0 Y ∧ Y.1 0 6 = X0.1 0 6 ∧ Y.1 0 7 = X0.1 0 7 ∧ (Y.1 0 5).toInt = (RN isDg ch p : Int) ∧ NV (nvr ch p (RN isDg ch p - p)) (Y.2.1 0 47))) (fun _ _ _ _ _ _ _ _ _ => pw_none) (fun r ih X k hF g6 g7 g5 hk hw hL => ?_) N
    have hX := hT.fr hF
    have hin := nvr_in (ch := ch) k (fun i a b => (isDg_iff _).mp (hw i a b))
    have out : isDg (ch (p + k)) = false → pw (some ((0 : Int32), X)) (fun _ Y => TRF X0 Y ∧ Y.1 0 6 = X0.1 0 6 ∧ Y.1 0 7 = X0.1 0 7 ∧ (Y.1 0 5).toInt = (RN isDg ch p : Int) ∧ NV (nvr ch p (RN isDg ch p - p)) (Y.2.1 0 47)) := by
      intro hx
      have e := RN_is hT.1 hno (Nat.le_add_right p k) hw hx
      have e2 : RN isDg ch p - p = k := by omega
      rw [e2]
      exact pw_ret ⟨hF, g6, g7, by rw [g5, e], hL⟩
    unfold f_next_122_s
    refine pw_let ?_
    refine pw_let ?_
    refine pw_ite (fun c => ?_) (fun c => ?_)
    · rw [hX.2.1] at c
      refine out ?_
      rw [hT.1.2.1 _ (by omega)]
      exact hno
    · rw [hX.2.1] at c
      have hkn : p + k < n := by omega
      have hby := hX.2.2 _ hkn
      refine pw_let ?_
      refine pw_ck (fun _ => ?_)
      refine pw_let ?_
      rw [ixn g5]
      refine pw_bd (r_in _ _ _ _) ?_
      rintro x20 X21 ⟨rfl, hz⟩
      have l48 : (48 : Int32).toInt = 48 := by decide
      have l57 : (57 : Int32).toInt = 57 := by decide
      rw [l48, l57, hby.rg (by decide) (by decide)] at hz
      refine pw_ite (fun c1 => out (nb.mpr (fun g => by have := (isDg_iff _).mp g; omega))) (fun c1 => ?_)
      have hdig : 48 ≤ ch (p + k) ∧ ch (p + k) ≤ 57 := by omega
      have hbv : (X21.1 2 (p + k)).toInt = ch (p + k) := by
        rcases hby with ⟨_, _, h⟩ | ⟨_, _, h⟩ <;> omega
      have step : nvr ch p (k + 1) = (if 2147483648 < 10 * nvr ch p k + (ch (p + k) - 48) then (2147483648 : Int) else 10 * nvr ch p k + (ch (p + k) - 48)) := rfl
      have go : ∀ m : Int64, NV (nvr ch p (k + 1)) m → pw (f_next_194 r m X21) (fun _ Y => TRF X0 Y ∧ Y.1 0 6 = X0.1 0 6 ∧ Y.1 0 7 = X0.1 0 7 ∧ (Y.1 0 5).toInt = (RN isDg ch p : Int) ∧ NV (nvr ch p (RN isDg ch p - p)) (Y.2.1 0 47)) := by
        intro m hm
        unfold f_next_194
        refine pw_eq (fun X31 e31 => ?_)
        refine pw_let ?_
        refine pw_eq (fun x33 e33 => ?_)
        refine pw_eq (fun X34 e34 => ?_)
        have l1 : (1 : Int32).toInt = 1 := by decide
        have c31 : ∀ i, X31.1 0 i = X21.1 0 i := fun i => by rw [e31]; rfl
        have v33 : x33.toInt = ((p + k : Nat) : Int) + 1 := by rw [e33, c31, ti_add (by rw [g5, l1]; omega) (by rw [g5, l1]; omega), g5, l1]
        refine ih X34 (k + 1) ?_ ?_ ?_ ?_ (by omega) (fun i i1 i2 => ?_) ?_
        · rw [e34, e31]; exact (hF.wL _).wI 5 _ (by decide)
        · rw [e34, wI_ne _ _ _ _ _ _ (by decide), c31]; exact g6
        · rw [e34, wI_ne _ _ _ _ _ _ (by decide), c31]; exact g7
        · rw [e34, wI_at, v33]; omega
        · by_cases e : i = p + k
          · rw [e]; exact (isDg_iff _).mpr hdig
          · exact hw i i1 (by omega)
        · rw [e34]
          show NV _ (X31.2.1 0 47)
          rw [e31, wL_at]
          exact hm
      have lmx : (2147483647 : Int64).toInt = 2147483647 := by decide
      have l10 : (10 : Int64).toInt = 10 := by decide
      have l48' : (48 : Int64).toInt = 48 := by decide
      refine pw_let ?_
      refine pw_let ?_
      refine pw_ite (fun c2 => ?_) (fun c2 => ?_)
      · rw [cmpL, lmx] at c2
        obtain ⟨hv1, hv2⟩ : nvr ch p k < 2147483648 ∧ (X21.2.1 0 47).toInt = nvr ch p k := by
          rcases hL with h | h
          · exact h
          · omega
        refine pw_let ?_
        refine pw_eq (fun y25 e25 => ?_)
        refine pw_let ?_
        refine pw_ck (fun _ => ?_)
        refine pw_let ?_
        rw [ixn g5]
        refine pw_eq (fun y28 e28 => ?_)
        refine pw_eq (fun y29 e29 => ?_)
        refine pw_eq (fun y30 e30 => ?_)
        have v25 : y25.toInt = 10 * nvr ch p k := by rw [e25, tl_mul (by rw [l10, hv2]; omega) (by rw [l10, hv2]; omega), l10, hv2]
        have v28 : y28.toInt = ch (p + k) := by rw [e28, Int32.toInt_toInt64, hbv]
        have v29 : y29.toInt = 10 * nvr ch p k + ch (p + k) := by rw [e29, tl_add (by rw [v25, v28]; omega) (by rw [v25, v28]; omega), v25, v28]
        have v30 : y30.toInt = 10 * nvr ch p k + ch (p + k) - 48 := by rw [e30, tl_sub (by rw [v29, l48']; omega) (by rw [v29, l48']; omega), v29, l48']
        refine go _ ?_
        unfold NV
        rw [step, v30]
        by_cases g : 2147483648 < 10 * nvr ch p k + (ch (p + k) - 48)
        · rw [if_pos g]; exact Or.inr ⟨rfl, by omega⟩
        · rw [if_neg g]; omega
      · rw [cmpL, lmx] at c2
        obtain ⟨hv1, hv2⟩ : nvr ch p k = 2147483648 ∧ 2147483648 ≤ (X21.2.1 0 47).toInt := by
          rcases hL with h | h
          · omega
          · exact h
        refine pw_let ?_
        refine go _ ?_
        unfold NV
        rw [step, hv1, if_pos (by omega)]
        exact Or.inr ⟨rfl, hv2⟩
  refine loop BIG X0 0 TRF.rf rfl rfl hp0 hpn (fun i i1 i2 => absurd i2 (by omega)) ?_
  rw [h0]
  have v0 : nvr ch p 0 = 0 := rfl
  exact Or.inl ⟨by rw [v0]; decide, by rw [v0]; decide⟩
theorem r_sign {X0 : St} (hT : TXR ch n X0) {p : Nat} (hp0 : (X0.1 0 5).toInt = p) (hpn : p < n) {z : Int32} (hz : z = X0.1 2 p) : pw (f_sign z X0) (fun _ Y => TRF X0 Y ∧ Y.1 0 6 = X0.1 0 6 ∧ (Y.1 0 5).toInt = (((if ch p = 58 ∧ ch (p + 1) = 61 then p + 2 else p + 1) : Nat) : Int) ∧ ((ch p = 58 ∧ ch (p + 1) = 61 ∧ (Y.1 0 7).toInt = 4 ∧ (Y.2.1 0 47).toInt = 1000) ∨ (¬ (ch p = 58 ∧ ch (p + 1) = 61) ∧ isSg (ch p) = true ∧ (Y.1 0 7).toInt = 4 ∧ (Y.2.1 0 47).toInt = ch p) ∨ (¬ (ch p = 58 ∧ ch (p + 1) = 61) ∧ isSg (ch p) = false ∧ (Y.1 0 7).toInt = 5))) := by
  have hn := hT.1.1
  have hby : BY z (ch p) := by rw [hz]; exact hT.2.2 p hpn
  unfold f_sign
  refine pw_eq (fun X1 e1 => ?_)
  refine pw_eq (fun y2 e2 => ?_)
  refine pw_eq (fun X3 e3 => ?_)
  refine pw_let ?_
  refine pw_eq (fun x5 e5 => ?_)
  refine pw_eq (fun X6 e6 => ?_)
  have l1 : (1 : Int32).toInt = 1 := by decide
  have c3 : (X3.1 0 5).toInt = p := by
    rw [e3]
    show (X1.1 0 5).toInt = p
    rw [e1, wI_ne _ _ _ _ _ _ (by decide)]; exact hp0
  have v5 : x5.toInt = (p : Int) + 1 := by rw [e5, ti_add (by rw [c3, l1]; omega) (by rw [c3, l1]; omega), c3, l1]
  have F6 : TRF X0 X6 := by rw [e6, e3, e1]; exact ((TRF.rf.wI 7 _ (by decide)).wL _).wI 5 _ (by decide)
  have c5 : (X6.1 0 5).toInt = (p : Int) + 1 := by rw [e6, wI_at, v5]
  have c6 : X6.1 0 6 = X0.1 0 6 := by
    rw [e6, wI_ne _ _ _ _ _ _ (by decide), e3]
    show X1.1 0 6 = X0.1 0 6
    rw [e1, wI_ne _ _ _ _ _ _ (by decide)]
  have c7 : (X6.1 0 7).toInt = 4 := by
    rw [e6, wI_ne _ _ _ _ _ _ (by decide), e3]
    show (X1.1 0 7).toInt = 4
    rw [e1, wI_at]; decide
  have cL : (X6.2.1 0 47).toInt = z.toInt := by
    rw [e6]
    show (X3.2.1 0 47).toInt = z.toInt
    rw [e3, wL_at, e2, Int32.toInt_toInt64]
  have hT6 := hT.fr F6
  have l70 : ¬ (ch p = 58 ∧ ch (p + 1) = 61) → pw (f_sign_70 z X6) (fun _ Y => TRF X0 Y ∧ Y.1 0 6 = X0.1 0 6 ∧ (Y.1 0 5).toInt = (((if ch p = 58 ∧ ch (p + 1) = 61 then p + 2 else p + 1) : Nat) : Int) ∧ ((ch p = 58 ∧ ch (p + 1) = 61 ∧ (Y.1 0 7).toInt = 4 ∧ (Y.2.1 0 47).toInt = 1000) ∨ (¬ (ch p = 58 ∧ ch (p + 1) = 61) ∧ isSg (ch p) = true ∧ (Y.1 0 7).toInt = 4 ∧ (Y.2.1 0 47).toInt = ch p) ∨ (¬ (ch p = 58 ∧ ch (p + 1) = 61) ∧ isSg (ch p) = false ∧ (Y.1 0 7).toInt = 5))) := by
    intro hno
    rw [if_neg hno]
    have yes : ∀ v : Int, 0 ≤ v → v ≤ 127 → z.toInt = v → isSg v = true → pw (some ((0 : Int32), X6)) (fun _ Y => TRF X0 Y ∧ Y.1 0 6 = X0.1 0 6 ∧ (Y.1 0 5).toInt = ((p + 1 : Nat) : Int) ∧ ((ch p = 58 ∧ ch (p + 1) = 61 ∧ (Y.1 0 7).toInt = 4 ∧ (Y.2.1 0 47).toInt = 1000) ∨ (¬ (ch p = 58 ∧ ch (p + 1) = 61) ∧ isSg (ch p) = true ∧ (Y.1 0 7).toInt = 4 ∧ (Y.2.1 0 47).toInt = ch p) ∨ (¬ (ch p = 58 ∧ ch (p + 1) = 61) ∧ isSg (ch p) = false ∧ (Y.1 0 7).toInt = 5))) := by
      intro v h1 h2 h3 h4
      have h5 := (hby.eq ⟨h1, h2⟩).mp h3
      exact pw_ret ⟨F6, c6, by rw [c5]; omega, Or.inr (Or.inl ⟨hno, by rw [h5]; exact h4, c7, by rw [cL, h3, h5]⟩)⟩
    unfold f_sign_70
    refine pw_ite (fun c => yes 33 (by decide) (by decide) c (by decide)) (fun k1 => ?_)
    refine pw_ite (fun c => yes 37 (by decide) (by decide) c (by decide)) (fun k2 => ?_)
    refine pw_ite (fun c => yes 40 (by decide) (by decide) c (by decide)) (fun k3 => ?_)
    refine pw_ite (fun c => yes 41 (by decide) (by decide) c (by decide)) (fun k4 => ?_)
    refine pw_ite (fun c => yes 42 (by decide) (by decide) c (by decide)) (fun k5 => ?_)
    refine pw_ite (fun c => yes 43 (by decide) (by decide) c (by decide)) (fun k6 => ?_)
    refine pw_ite (fun c => yes 44 (by decide) (by decide) c (by decide)) (fun k7 => ?_)
    refine pw_ite (fun c => yes 45 (by decide) (by decide) c (by decide)) (fun k8 => ?_)
    refine pw_ite (fun c => yes 47 (by decide) (by decide) c (by decide)) (fun k9 => ?_)
    refine pw_ite (fun c => yes 58 (by decide) (by decide) c (by decide)) (fun k10 => ?_)
    refine pw_ite (fun c => yes 59 (by decide) (by decide) c (by decide)) (fun k11 => ?_)
    refine pw_ite (fun c => yes 60 (by decide) (by decide) c (by decide)) (fun k12 => ?_)
    refine pw_ite (fun c => yes 61 (by decide) (by decide) c (by decide)) (fun k13 => ?_)
    refine pw_ite (fun c => yes 91 (by decide) (by decide) c (by decide)) (fun k14 => ?_)
    refine pw_ite (fun c => yes 93 (by decide) (by decide) c (by decide)) (fun k15 => ?_)
    refine pw_ite (fun c => yes 123 (by decide) (by decide) c (by decide)) (fun k16 => ?_)
    refine pw_ite (fun c => yes 125 (by decide) (by decide) c (by decide)) (fun k17 => ?_)
    refine pw_eq (fun X24 e24 => ?_)
    refine pw_ret ⟨by rw [e24]; exact F6.wI 7 _ (by decide), ?_, ?_, Or.inr (Or.inr ⟨hno, nb.mpr (fun g => ?_), ?_⟩)⟩
    · rw [e24, wI_ne _ _ _ _ _ _ (by decide)]; exact c6
    · rw [e24, wI_ne _ _ _ _ _ _ (by decide), c5]; omega
    · have h := (isSg_iff _).mp g
      have hz2 : z.toInt = ch p := by
        rcases hby with ⟨_, _, h⟩ | ⟨_, _, h⟩ <;> omega
      omega
    · rw [e24, wI_at]; decide
  refine pw_ite (fun c => ?_) (fun c => l70 (fun g => c ((hby.eq (by decide)).mpr g.1)))
  have hc58 := (hby.eq (k := 58) (by decide)).mp c
  refine pw_let ?_
  refine pw_let ?_
  refine pw_ite (fun c1 => l70 (fun g => ?_)) (fun c1 => ?_)
  · rw [hT6.2.1, c5] at c1
    have := hT.1.2.1 (p + 1) (by omega)
    omega
  · rw [hT6.2.1, c5] at c1
    refine pw_let ?_
    refine pw_ck (fun _ => ?_)
    refine pw_let ?_
    have hix : ix (X6.1 0 5) = p + 1 := ixn (by rw [c5]; omega)
    rw [hix]
    have hby1 := hT6.2.2 (p + 1) (by omega)
    refine pw_ite (fun c2 => ?_) (fun c2 => l70 (fun g => c2 ((hby1.eq (by decide)).mpr g.2)))
    have hc61 := (hby1.eq (k := 61) (by decide)).mp c2
    refine pw_eq (fun X29 e29 => ?_)
    refine pw_let ?_
    refine pw_eq (fun x31 e31 => ?_)
    refine pw_eq (fun X32 e32 => ?_)
    have c29 : ∀ i, X29.1 0 i = X6.1 0 i := fun i => by rw [e29]; rfl
    have v31 : x31.toInt = (p : Int) + 2 := by
      rw [e31, c29, ti_add (by rw [c5, l1]; omega) (by rw [c5, l1]; omega), c5, l1]
      omega
    rw [if_pos ⟨hc58, hc61⟩]
    refine pw_ret ⟨by rw [e32, e29]; exact (F6.wL _).wI 5 _ (by decide), ?_, ?_, Or.inl ⟨hc58, hc61, ?_, ?_⟩⟩
    · rw [e32, wI_ne _ _ _ _ _ _ (by decide), c29]; exact c6
    · rw [e32, wI_at, v31]; omega
    · rw [e32, wI_ne _ _ _ _ _ _ (by decide), c29]; exact c7
    · rw [e32]
      show (X29.2.1 0 47).toInt = 1000
      rw [e29, wL_at]; decide
theorem r_next52 (hT : TXR ch n X) {q : Nat} (h5 : (X.1 0 5).toInt = pl ch q) (hq : pl ch q ≤ n) : pw (f_next_52 X) (fun _ Y => TRF X Y ∧ TKR ch Y q) := by
  have hn := hT.1.1
  unfold f_next_52
  refine pw_let ?_
  refine pw_eq (fun X4 e4 => ?_)
  refine pw_eq (fun X5 e5 => ?_)
  have F5 : TRF X X5 := by rw [e5, e4]; exact (TRF.rf.wI 6 _ (by decide)).wL _
  have c : ∀ i, X5.1 0 i = X4.1 0 i := fun i => by rw [e5]; rfl
  have c5 : (X5.1 0 5).toInt = pl ch q := by rw [c, e4, wI_ne _ _ _ _ _ _ (by decide)]; exact h5
  have c6 : (X5.1 0 6).toInt = pl ch q := by rw [c, e4, wI_at]; exact h5
  have cL : X5.2.1 0 47 = 0 := by rw [e5, wL_at]
  have hT5 := hT.fr F5
  refine pw_let ?_
  refine pw_let ?_
  rw [c5, hT5.2.1]
  refine pw_ite (fun k => ?_) (fun k => ?_)
  · have h0 : ch (pl ch q) < 0 := by rw [hT.1.2.1 _ (by omega)]; decide
    have ht : ty ch q = 257 := (ty_end hT.1).mpr h0
    refine pw_eq (fun X37 e37 => ?_)
    refine pw_ret ⟨by rw [e37]; exact F5.wI 7 _ (by decide), ?_, ?_, Or.inl ⟨ht, ?_⟩⟩
    · rw [e37, wI_ne _ _ _ _ _ _ (by decide), c5]
      unfold nx
      rw [if_pos h0]
    · rw [e37, wI_ne _ _ _ _ _ _ (by decide), c6]
    · rw [e37, wI_at]; decide
  · have hpn : pl ch q < n := by omega
    have hby := hT5.2.2 _ hpn
    have hch := hT.1.2.2 _ hpn
    have h0 : ¬ ch (pl ch q) < 0 := by omega
    refine pw_let ?_
    refine pw_ck (fun _ => ?_)
    refine pw_let ?_
    have hix : ix (X5.1 0 5) = pl ch q := ixn c5
    rw [hix]
    refine pw_bd (r_letterOf hby X5) ?_
    rintro x10 X11 ⟨rfl, hz⟩
    refine pw_ite (fun k1 => ?_) (fun k1 => ?_)
    · have h1 : ¬ isLt (ch (pl ch q)) = true := by
        rcases hz with h | h
        · omega
        · exact nb.mp h.1
      refine pw_bd (r_in _ _ _ _) ?_
      rintro x12 X13 ⟨rfl, hd⟩
      have l48 : (48 : Int32).toInt = 48 := by decide
      have l57 : (57 : Int32).toInt = 57 := by decide
      rw [l48, l57, hby.rg (by decide) (by decide)] at hd
      refine pw_ite (fun k2 => ?_) (fun k2 => ?_)
      · have h2 : ¬ isDg (ch (pl ch q)) = true := fun g => by have := (isDg_iff _).mp g; omega
        refine pw_bd (r_sign hT5 c5 hpn rfl) ?_
        rintro _ Y ⟨gF, g6, g5, g7⟩
        have ht : ty ch q = (if ch (pl ch q) = 58 ∧ ch (pl ch q + 1) = 61 then 256 else if isSg (ch (pl ch q)) = true then ch (pl ch q) else 260) := by
          unfold ty
          rw [if_neg h0, if_neg h1, if_neg h2]
        refine pw_ret ⟨F5.tr gF, ?_, by rw [g6, c6], ?_⟩
        · rw [g5]
          unfold nx
          rw [if_neg h0, if_neg h1, if_neg h2]
        · rcases g7 with ⟨a, b, d, f⟩ | ⟨a, b, d, f⟩ | ⟨a, b, d⟩
          · rw [if_pos ⟨a, b⟩] at ht
            exact Or.inr (Or.inr (Or.inr (Or.inr (Or.inr (Or.inl ⟨ht, d, f⟩)))))
          · rw [if_neg a, if_pos b] at ht
            have := (isSg_iff _).mp b
            exact Or.inr (Or.inr (Or.inr (Or.inr (Or.inr (Or.inr ⟨by omega, by omega, d, by rw [f, ht]⟩)))))
          · rw [if_neg a, if_neg (nb.mp b)] at ht
            exact Or.inr (Or.inr (Or.inr (Or.inr (Or.inl ⟨ht, d⟩))))
      · have h2 : isDg (ch (pl ch q)) = true := (isDg_iff _).mpr (by omega)
        have ht : ty ch q = 259 := by
          unfold ty
          rw [if_neg h0, if_neg h1, if_pos h2]
        refine pw_eq (fun X15 e15 => ?_)
        have F15 : TRF X13 X15 := by rw [e15]; exact TRF.rf.wI 7 _ (by decide)
        refine pw_mono (r_digits (hT5.fr F15) (p := pl ch q) (by rw [e15, wI_ne _ _ _ _ _ _ (by decide)]; exact c5) hq (by rw [e15]; exact cL)) ?_
        rintro _ Y ⟨gF, g6, g7, g5, gv⟩
        refine ⟨(F5.tr F15).tr gF, ?_, ?_, Or.inr (Or.inr (Or.inr (Or.inl ⟨ht, ?_, gv⟩)))⟩
        · rw [g5]
          unfold nx
          rw [if_neg h0, if_neg h1, if_pos h2]
          rfl
        · rw [g6, e15, wI_ne _ _ _ _ _ _ (by decide), c6]
        · rw [g7, e15, wI_at]; decide
    · have h1 : isLt (ch (pl ch q)) = true := by
        rcases hz with h | h
        · exact h.1
        · omega
      have ht : ty ch q = (if 8 < le ch q - pl ch q then 260 else wt WL 261 (nm ch q)) := by
        unfold ty
        rw [if_neg h0, if_pos h1]
      refine pw_bd (r_name hT5 c5 hq cL) ?_
      rintro _ Y ⟨gF, g6, g5, g7⟩
      refine pw_ret ⟨F5.tr gF, ?_, by rw [g6, c6], ?_⟩
      · rw [g5]
        unfold nx
        rw [if_neg h0, if_pos h1]
        rfl
      · have hlen : (nm ch q).length = le ch q - pl ch q := nmr_len _ _ _
        rcases g7 with ⟨a, b⟩ | ⟨a, b, d, f, g⟩ | ⟨a, b, d, f, g⟩
        · rw [if_pos (show 8 < le ch q - pl ch q from a)] at ht
          exact Or.inr (Or.inr (Or.inr (Or.inr (Or.inl ⟨ht, b⟩))))
        · rw [if_neg (show ¬ 8 < le ch q - pl ch q from Nat.not_lt.mpr a)] at ht
          exact Or.inr (Or.inl ⟨by rw [ht]; exact b, d, f, by rw [hlen]; exact g⟩)
        · rw [if_neg (show ¬ 8 < le ch q - pl ch q from Nat.not_lt.mpr a)] at ht
          exact Or.inr (Or.inr (Or.inl ⟨by rw [ht]; exact b, by rw [ht]; exact d, f, by rw [ht]; exact g⟩))
theorem r_next (hT : TXR ch n X) {q : Nat} (h5 : (X.1 0 5).toInt = q) (hq : q ≤ n) : pw (f_next X) (fun _ Y => TRF X Y ∧ TKR ch Y q) := by
  have hn := hT.1.1
  have hno : isBl (-1) = false := by decide
  have loop : ∀ N (Y : St) (b : Nat), TRF X Y → (Y.1 0 5).toInt = b → q ≤ b → b ≤ n → (∀ i, q ≤ i → i < b → isBl (ch i) = true) → pw (f_next_0 N Y) (fun _ Z => TRF X Z ∧ TKR ch Z q) := by
    intro N
    unfold f_next_0
    refine lp_ind (P := fun (r : St → Option (Int32 × St)) => ∀ (Y : St) (b : Nat), TRF X Y → (Y.1 0 5).toInt = b → q ≤ b → b ≤ n → (∀ i, q ≤ i → i < b → isBl (ch i) = true) → pw (r Y) (fun _ Z => TRF X Z ∧ TKR ch Z q)) (fun _ _ _ _ _ _ _ => pw_none) (fun r ih Y b hF h5 hqb hb hw => ?_) N
    have hY := hT.fr hF
    have out : isBl (ch b) = false → pw (f_next_52 Y) (fun _ Z => TRF X Z ∧ TKR ch Z q) := by
      intro hx
      have e : b = pl ch q := RN_is hT.1 hno hqb hw hx
      refine pw_mono (r_next52 hY (q := q) (by rw [h5, e]) (by omega)) ?_
      rintro _ Z ⟨a, b⟩
      exact ⟨hF.tr a, b⟩
    have go : isBl (ch b) = true → b < n → pw (f_next_39 r Y) (fun _ Z => TRF X Z ∧ TKR ch Z q) := by
      intro hx hbn
      unfold f_next_39
      refine pw_let ?_
      refine pw_eq (fun x41 e41 => ?_)
      refine pw_eq (fun X42 e42 => ?_)
      have l1 : (1 : Int32).toInt = 1 := by decide
      have v41 : x41.toInt = (b : Int) + 1 := by rw [e41, ti_add (by rw [h5, l1]; omega) (by rw [h5, l1]; omega), h5, l1]
      refine ih X42 (b + 1) (by rw [e42]; exact hF.wI 5 _ (by decide)) (by rw [e42, wI_at, v41]; omega) (by omega) (by omega) (fun i i1 i2 => ?_)
      by_cases e : i = b
      · rw [e]; exact hx
      · exact hw i i1 (by omega)
    unfold f_next_0_s
    refine pw_let ?_
    refine pw_let ?_
    rw [h5, hY.2.1]
    refine pw_ite (fun c => out (by rw [hT.1.2.1 _ (by omega)]; exact hno)) (fun c => ?_)
    have hby := hY.2.2 b (by omega)
    refine pw_let ?_
    refine pw_ck (fun _ => ?_)
    refine pw_let ?_
    rw [ixn h5]
    refine pw_ite (fun c1 => go ((isBl_iff _).mpr (Or.inl ((hby.eq (by decide)).mp c1))) (by omega)) (fun c1 => ?_)
    refine pw_let ?_
    refine pw_ck (fun _ => ?_)
    refine pw_let ?_
    rw [ixn h5]
    refine pw_ite (fun c2 => go ((isBl_iff _).mpr (Or.inr ((hby.eq (by decide)).mp c2))) (by omega)) (fun c2 => out (nb.mpr (fun g => ?_)))
    rcases (isBl_iff _).mp g with g | g
    · exact c1 ((hby.eq (by decide)).mpr g)
    · exact c2 ((hby.eq (by decide)).mpr g)
  unfold f_next
  exact loop BIG X q TRF.rf h5 (Nat.le_refl q) hq (fun i i1 i2 => absurd i2 (by omega))
end RTK
