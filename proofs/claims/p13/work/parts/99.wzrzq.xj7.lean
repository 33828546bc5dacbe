/-! the reference: judge(), and what runs leave of a program -/
def N7 : List Nat := [1, 2, 3, 14, 16, 18, 25, 400, 600, 2200, 2400, 2600, 2800, 3000, 3200, 3400, 3600, 3800, 4000, 4200, 4400, 4600, 4800, 5000, 5200, 5400, 5600, 5800]
def N8 : List Nat := [1, 13, 14, 15, 16, 18, 25, 400, 800, 1000, 1200, 1800, 2200, 2400, 2600, 2800, 3000, 3200, 3400, 3600, 3800, 4000, 4200, 4400, 4600, 4800, 5000, 5200, 5400, 5600, 5800]
section XJ7S
variable {ch : Tx} {n N : Nat} {X Y Z W : St} {ps : List Pt} {c : List Ins} {told : Nat → Bool} {L : List Nat}
theorem pw_ok {ρ : Type} {A : Option (ρ × St)} {R : ρ → St → Prop} (h : ok A R) : pw A R := by
  obtain ⟨r, V, e, q⟩ := h
  intro r1 V1 e1
  rw [e] at e1
  have e2 := Option.some.inj e1
  have e3 : r = r1 := congrArg Prod.fst e2
  have e4 : V = V1 := congrArg Prod.snd e2
  rw [← e3, ← e4]
  exact q
theorem tx_ne {e k : Nat} (h : ¬ (e = 0 ∧ (k = 13 ∨ k = 15))) : (TX X).1 e k = X.1 e k := by
  unfold TX
  rw [wI_ne _ _ _ _ _ _ (by omega), wI_ne _ _ _ _ _ _ (by omega)]
theorem R7.tx (h : R7 X Y) : RDk (TX X) (TX Y) := by
  obtain ⟨a, b, c, d⟩ := h
  refine ⟨fun e k q => ?_, fun k => b k, fun k q => ?_, fun k q => ?_⟩
  · by_cases z : e = 0 ∧ k = 13
    · rw [z.1, z.2, TX.c13, TX.c13]
      exact a 0 14 (by omega)
    · by_cases z2 : e = 0 ∧ k = 15
      · rw [z2.1, z2.2, TX.c15, TX.c15]
        exact a 0 16 (by omega)
      · rw [tx_ne (by omega), tx_ne (by omega)]
        exact a e k (by omega)
  · rw [TX.c13] at q
    obtain ⟨x, y, z⟩ := c k q
    rw [tx_ne (by omega), tx_ne (by omega), tx_ne (by omega), tx_ne (by omega), tx_ne (by omega), tx_ne (by omega)]
    exact ⟨x, y, z⟩
  · rw [TX.c15] at q
    rw [tx_ne (by omega), tx_ne (by omega)]
    exact d k q
theorem R7.of (hF : Fr YR L X Y) (hl : ∀ x ∈ N7, x ∉ L) (hK : KX (TX X) Y) : R7k X Y := by
  have n : ∀ x, x ∈ N7 → x ∉ L := fun x hx => hl x hx
  obtain ⟨_, _, k3, k4⟩ := hK
  refine ⟨⟨fun e k q => ?_, fun k => ⟨hF.2.1 11 k (show (2200 : Nat) ∉ L from n _ (by decide)), hF.2.1 29 k (show (5800 : Nat) ∉ L from n _ (by decide))⟩, fun k q => ?_, fun k q => ?_⟩, fun k => hF.1 19 k (show (3800 : Nat) ∉ L from n _ (by decide))⟩
  · have rw_ : ∀ e, e = 2 ∨ e = 3 ∨ (11 ≤ e ∧ e ≤ 18) ∨ (20 ≤ e ∧ e ≤ 28) → ∀ k, Y.1 e k = X.1 e k := by
      intro e he k
      have c1 : e = 2 ∨ e = 3 ∨ e = 11 ∨ e = 12 ∨ e = 13 ∨ e = 14 ∨ e = 15 ∨ e = 16 ∨ e = 17 ∨ e = 18 ∨ (20 ≤ e ∧ e ≤ 28) := by
        rcases he with z | z | z | z
        · exact Or.inl z
        · exact Or.inr (Or.inl z)
        · omega
        · omega
      rcases c1 with z | z | z | z | z | z | z | z | z | z | z
      · subst z; exact hF.1 2 k (show (400 : Nat) ∉ L from n _ (by decide))
      · subst z; exact hF.1 3 k (show (600 : Nat) ∉ L from n _ (by decide))
      · subst z; exact hF.1 11 k (show (2200 : Nat) ∉ L from n _ (by decide))
      · subst z; exact hF.1 12 k (show (2400 : Nat) ∉ L from n _ (by decide))
      · subst z; exact hF.1 13 k (show (2600 : Nat) ∉ L from n _ (by decide))
      · subst z; exact hF.1 14 k (show (2800 : Nat) ∉ L from n _ (by decide))
      · subst z; exact hF.1 15 k (show (3000 : Nat) ∉ L from n _ (by decide))
      · subst z; exact hF.1 16 k (show (3200 : Nat) ∉ L from n _ (by decide))
      · subst z; exact hF.1 17 k (show (3400 : Nat) ∉ L from n _ (by decide))
      · subst z; exact hF.1 18 k (show (3600 : Nat) ∉ L from n _ (by decide))
      · have c2 : e = 20 ∨ e = 21 ∨ e = 22 ∨ e = 23 ∨ e = 24 ∨ e = 25 ∨ e = 26 ∨ e = 27 ∨ e = 28 := by omega
        rcases c2 with z | z | z | z | z | z | z | z | z
        · subst z; exact hF.1 20 k (show (4000 : Nat) ∉ L from n _ (by decide))
        · subst z; exact hF.1 21 k (show (4200 : Nat) ∉ L from n _ (by decide))
        · subst z; exact hF.1 22 k (show (4400 : Nat) ∉ L from n _ (by decide))
        · subst z; exact hF.1 23 k (show (4600 : Nat) ∉ L from n _ (by decide))
        · subst z; exact hF.1 24 k (show (4800 : Nat) ∉ L from n _ (by decide))
        · subst z; exact hF.1 25 k (show (5000 : Nat) ∉ L from n _ (by decide))
        · subst z; exact hF.1 26 k (show (5200 : Nat) ∉ L from n _ (by decide))
        · subst z; exact hF.1 27 k (show (5400 : Nat) ∉ L from n _ (by decide))
        · subst z; exact hF.1 28 k (show (5600 : Nat) ∉ L from n _ (by decide))
    rcases q with ⟨z, y⟩ | q
    · subst z
      rcases y with y | y | y | y | y | y | y
      · subst y; exact hF.1 0 1 (show (1 : Nat) ∉ L from n _ (by decide))
      · subst y; exact hF.1 0 2 (show (2 : Nat) ∉ L from n _ (by decide))
      · subst y; exact hF.1 0 3 (show (3 : Nat) ∉ L from n _ (by decide))
      · subst y; exact hF.1 0 14 (show (14 : Nat) ∉ L from n _ (by decide))
      · subst y; exact hF.1 0 16 (show (16 : Nat) ∉ L from n _ (by decide))
      · subst y; exact hF.1 0 18 (show (18 : Nat) ∉ L from n _ (by decide))
      · subst y; exact hF.1 0 25 (show (25 : Nat) ∉ L from n _ (by decide))
    · exact rw_ e q k
  · rw [← TX.c13] at q
    obtain ⟨x, y, z⟩ := k3 k q
    rw [tx_ne (by omega)] at x y z
    exact ⟨x, y, z⟩
  · rw [← TX.c15] at q
    have := k4 k q
    rw [tx_ne (by omega)] at this
    exact this
theorem RDk.of (hF : Fr YR L X Y) (hl : ∀ x ∈ N8, x ∉ L) : RDk X Y ∧ ∀ k, Y.1 19 k = X.1 19 k := by
  have n : ∀ x, x ∈ N8 → x ∉ L := fun x hx => hl x hx
  refine ⟨⟨fun e k q => ?_, fun k => ⟨hF.2.1 11 k (show (2200 : Nat) ∉ L from n _ (by decide)), hF.2.1 29 k (show (5800 : Nat) ∉ L from n _ (by decide))⟩, fun k _ => ⟨hF.1 4 k (show (800 : Nat) ∉ L from n _ (by decide)), hF.1 5 k (show (1000 : Nat) ∉ L from n _ (by decide)), hF.1 6 k (show (1200 : Nat) ∉ L from n _ (by decide))⟩, fun k _ => hF.1 9 k (show (1800 : Nat) ∉ L from n _ (by decide))⟩, fun k => hF.1 19 k (show (3800 : Nat) ∉ L from n _ (by decide))⟩
  have rw_ : ∀ e, e = 2 ∨ (11 ≤ e ∧ e ≤ 18) ∨ (20 ≤ e ∧ e ≤ 28) → ∀ k, Y.1 e k = X.1 e k := by
    intro e he k
    have c1 : e = 2 ∨ e = 11 ∨ e = 12 ∨ e = 13 ∨ e = 14 ∨ e = 15 ∨ e = 16 ∨ e = 17 ∨ e = 18 ∨ (20 ≤ e ∧ e ≤ 28) := by
      rcases he with z | z | z
      · exact Or.inl z
      · omega
      · omega
    rcases c1 with z | z | z | z | z | z | z | z | z | z
    · subst z; exact hF.1 2 k (show (400 : Nat) ∉ L from n _ (by decide))
    · subst z; exact hF.1 11 k (show (2200 : Nat) ∉ L from n _ (by decide))
    · subst z; exact hF.1 12 k (show (2400 : Nat) ∉ L from n _ (by decide))
    · subst z; exact hF.1 13 k (show (2600 : Nat) ∉ L from n _ (by decide))
    · subst z; exact hF.1 14 k (show (2800 : Nat) ∉ L from n _ (by decide))
    · subst z; exact hF.1 15 k (show (3000 : Nat) ∉ L from n _ (by decide))
    · subst z; exact hF.1 16 k (show (3200 : Nat) ∉ L from n _ (by decide))
    · subst z; exact hF.1 17 k (show (3400 : Nat) ∉ L from n _ (by decide))
    · subst z; exact hF.1 18 k (show (3600 : Nat) ∉ L from n _ (by decide))
    · have c2 : e = 20 ∨ e = 21 ∨ e = 22 ∨ e = 23 ∨ e = 24 ∨ e = 25 ∨ e = 26 ∨ e = 27 ∨ e = 28 := by omega
      rcases c2 with z | z | z | z | z | z | z | z | z
      · subst z; exact hF.1 20 k (show (4000 : Nat) ∉ L from n _ (by decide))
      · subst z; exact hF.1 21 k (show (4200 : Nat) ∉ L from n _ (by decide))
      · subst z; exact hF.1 22 k (show (4400 : Nat) ∉ L from n _ (by decide))
      · subst z; exact hF.1 23 k (show (4600 : Nat) ∉ L from n _ (by decide))
      · subst z; exact hF.1 24 k (show (4800 : Nat) ∉ L from n _ (by decide))
      · subst z; exact hF.1 25 k (show (5000 : Nat) ∉ L from n _ (by decide))
      · subst z; exact hF.1 26 k (show (5200 : Nat) ∉ L from n _ (by decide))
      · subst z; exact hF.1 27 k (show (5400 : Nat) ∉ L from n _ (by decide))
      · subst z; exact hF.1 28 k (show (5600 : Nat) ∉ L from n _ (by decide))
  rcases q with ⟨z, y⟩ | q
  · subst z
    rcases y with y | y | y | y
    · subst y; exact hF.1 0 1 (show (1 : Nat) ∉ L from n _ (by decide))
    · have c3 : k = 13 ∨ k = 14 ∨ k = 15 ∨ k = 16 := by omega
      rcases c3 with y | y | y | y
      · subst y; exact hF.1 0 13 (show (13 : Nat) ∉ L from n _ (by decide))
      · subst y; exact hF.1 0 14 (show (14 : Nat) ∉ L from n _ (by decide))
      · subst y; exact hF.1 0 15 (show (15 : Nat) ∉ L from n _ (by decide))
      · subst y; exact hF.1 0 16 (show (16 : Nat) ∉ L from n _ (by decide))
    · subst y; exact hF.1 0 18 (show (18 : Nat) ∉ L from n _ (by decide))
    · subst y; exact hF.1 0 25 (show (25 : Nat) ∉ L from n _ (by decide))
  · exact rw_ e q k
/-- the state in which judges() compiles -/
def JX7 (X : St) : St := wI (wI (wI (TX X) 0 9 0) 0 10 (-1)) 0 28 0
theorem x_comp7 (hJ : PGM X) (hR : RDs ch n ps c N (TX X)) : ∃ (r : Int32) (X8 : St) (po : Nat → Nat), f_compiles (JX7 X) = some (r, X8) ∧ RDs ch n ps c N X8 ∧ CDq X8 po ps.length ∧ (X8.1 0 26).toInt = (po ps.length : Int) ∧ (X8.1 0 9).toInt = 0 ∧ (X8.1 0 28).toInt = 0 ∧ ∀ k, X8.1 19 k = X.1 19 k := by
  obtain ⟨⟨g1, g2, ⟨gF, gA, ⟨gN, gK⟩, gM, gm⟩⟩, ⟨g4, g5, g6, g7⟩, -⟩ := hJ
  have t18 : (TX X).1 0 18 = X.1 0 18 := TX.fr.1 0 18 (by decide)
  have t19 : (TX X).1 0 19 = X.1 0 19 := TX.fr.1 0 19 (by decide)
  have hF7 : Fr YR [9, 10, 28] (TX X) (JX7 X) := ((Fr.rf.wI 0 9 _ (show (9 : Nat) ∈ [9, 10, 28] from by decide)).wI 0 10 _ (show (10 : Nat) ∈ [9, 10, 28] from by decide)).wI 0 28 _ (show (28 : Nat) ∈ [9, 10, 28] from by decide)
  have a7 : ALLP (JX7 X) := gA.fr g1 hF7 (by decide) (fun i _ => hF7.1 26 i (show (5200 : Nat) ∉ [9, 10, 28] from by decide))
  have s18 : (JX7 X).1 0 18 = X.1 0 18 := (hF7.1 0 18 (by decide)).trans t18
  have s19 : (JX7 X).1 0 19 = X.1 0 19 := (hF7.1 0 19 (by decide)).trans t19
  obtain ⟨r, X8, hc, hF8, lo, po, l0, lP, lm, p0, pP, p5, hC, h43⟩ := t_f_compiles (X := JX7 X) a7 (by rw [s18]; exact ⟨g4, g5⟩) (by rw [s19]; rw [t19] at gN; exact ⟨g6, gN⟩)
  have hFt : Fr YR [9, 10, 28, 26, 27, 8000, 8200, 8400, 8600, 8800, 9000, 9200, 9400, 9600, 9800, 10000, 10200] (TX X) X8 := (hF7.mono (by decide)).tr hF8 (by decide)
  obtain ⟨k1, k2⟩ := RDk.of hFt (by decide)
  have R8 := hR.fr k1
  have e18 : ix (X8.1 0 18) = ps.length := ixn R8.2.1.1
  rw [e18] at hC pP
  have c9 : ((JX7 X).1 0 9).toInt = 0 := by
    unfold JX7
    rw [wI_ne _ _ _ _ _ _ (by omega), wI_ne _ _ _ _ _ _ (by omega), wI_at]
    rfl
  have c28 : ((JX7 X).1 0 28).toInt = 0 := by
    unfold JX7
    rw [wI_at]
    rfl
  refine ⟨r, X8, po, hc, R8, ⟨p0, fun p hp => ?_⟩, pP, by rw [hF8.1 0 9 (by decide)]; exact c9, by rw [hF8.1 0 28 (by decide)]; exact c28, fun k => (k2 k).trans (tx_ne (by omega))⟩
  obtain ⟨q1, q2, e, q3, q4, q5, q6⟩ := hC p hp
  exact ⟨q1, q2, lo p, lo (p + 1), e, q3, q4, q5, q6⟩
/-- the code of the parts, for the class -/
theorem x_cpc (hJ : JM X) (h3 : ¬ (X.1 0 3).toInt = 0) (hR : RDs ch n ps c N (TX X)) (hn : sNames ch ps c) (hW : PWd ps) (h34 : ∀ a ∈ c, a.1 = 34 → WKd 40 a.2.2.2) (hl : ps.length ≤ 40) : ∃ (W : St) (po : Nat → Nat), CPC ch W ps c po := by
  obtain ⟨r, X8, po, _, R8, hC, h26, _, _, _⟩ := x_comp7 (hJ.2.1 h3).1 hR
  have := (R8.jpre (told := fun k => decide (¬ (X8.1 19 k).toInt = 0)) hn hW h34 (fun k _ => by simp) hl hC h26).2
  exact ⟨X8, po, hW, hl, this⟩
theorem x_judges7 (hJ : PGM X) (hR : RDs ch n ps c N (TX X)) (hn : sNames ch ps c) (hW : PWd ps) (h34 : ∀ a ∈ c, a.1 = 34 → WKd 40 a.2.2.2) (hl : ps.length ≤ 40) (ht : ∀ k, k < ps.length → ((X.1 19 k).toInt = 0 ↔ ¬ told k = true)) : pw (f_judges X) (fun _ Y => ∃ (X8 : St) (rr : Sum (List JG × List Bool) (Int × Int)), JALL ch ps told c ps.length 0 ([], []) rr ∧ RJf X8 Y rr) := by
  obtain ⟨r, X8, po, hc, R8, hC, h26, h9, h28, h19⟩ := x_comp7 hJ hR
  have hp := (R8.jpre (told := told) hn hW h34 (fun k hk => by rw [h19]; exact ht k hk) hl hC h26).1
  unfold f_judges
  refine pw_eq (fun x1 e1 => pw_eq (fun X2 e2 => pw_eq (fun x3 e3 => pw_eq (fun X4 e4 => pw_eq (fun X5 e5 => pw_eq (fun X6 e6 => pw_eq (fun X7 e7 => ?_)))))))
  have q4 : X4 = TX X := by
    rw [e4, e3, e2, e1, wI_ne _ _ _ _ _ _ (by omega)]
    rfl
  have q7 : X7 = JX7 X := by
    rw [e7, e6, e5, q4]
    rfl
  rw [q7]
  refine pw_bd (R := fun _ Y => Y = X8) (fun r1 Y1 z => ?_) (fun _ Y hY => ?_)
  · rw [hc] at z
    exact (congrArg Prod.snd (Option.some.inj z)).symm
  · rw [hY]
    exact pw_mono (x_judges37 hp R8 h9 h28) (fun _ Y2 ⟨rr, a, b⟩ => ⟨X8, rr, a, b⟩)
theorem x_judge7 (hJ : JM X) (h3 : ¬ (X.1 0 3).toInt = 0) (hR : RDs ch n ps c N (TX X)) (hn : sNames ch ps c) (hW : PWd ps) (h34 : ∀ a ∈ c, a.1 = 34 → WKd 40 a.2.2.2) (hl : ps.length ≤ 40) (ht : ∀ k, k < ps.length → ((X.1 19 k).toInt = 0 ↔ ¬ told k = true)) : pw (f_judge X) (fun r _ => JAq ch ps told c r) := by
  unfold f_judge
  refine pw_let (pw_neg h3 (pw_bd (x_judges7 (hJ.2.1 h3).1 hR hn hW h34 hl ht) ?_))
  rintro _ X2 ⟨X8, rr, q1, q2⟩
  refine pw_eq (fun x3 e3 => pw_eq (fun X4 e4 => pw_eq (fun x5 e5 => pw_eq (fun X6 e6 => pw_eq (fun x7 e7 => ?_)))))
  have r6 : ∀ k, ¬ k = 11 → ¬ k = 12 → X6.1 0 k = X2.1 0 k := fun k z1 z2 => by rw [e6, wI_ne _ _ _ _ _ _ (by omega), e4, wI_ne _ _ _ _ _ _ (by omega)]
  have v7 : x7 = X2.1 0 4 := by rw [e7, r6 4 (by omega) (by omega)]
  cases rr with
  | inl G =>
    have q2 : RG X8 X2 G.1 ∧ (X2.1 0 4).toInt = 1 := q2
    refine pw_neg (by rw [v7, q2.2]; decide) (pw_eq (fun x8 e8 => pw_ret ⟨_, q1, Or.inl ⟨G, rfl, ?_⟩⟩))
    rw [e8, r6 28 (by omega) (by omega)]
    exact q2.1.2.2.1
  | inr f =>
    have q2 : RJB X8 X2 ∧ (X2.1 0 9).toInt = f.1 ∧ (X2.1 0 10).toInt = f.2 ∧ ¬ f.1 = 0 ∧ (X2.1 0 4).toInt = 0 := q2
    exact pw_pos (by rw [v7]; exact q2.2.2.2.2) (pw_ret ⟨_, q1, Or.inr ⟨f, rfl, by decide⟩⟩)
/-- judge() leaves the program -/
theorem k_judge (h : JM X) : pw (f_judge X) (fun _ Y => R7k X Y) := by
  unfold f_judge
  refine pw_let (pw_ite (fun _ => pw_ret R7k.rf) (fun c => ?_))
  refine pw_bd (pw_ok (m_judges (h.2.1 c).1)) ?_
  rintro r Y ⟨a, ⟨b1, b2, b3⟩, d, e, f⟩
  have k0 : R7k X Y := R7.of a (by decide) b2
  refine pw_let (pw_eq (fun X4 e4 => pw_let (pw_eq (fun X6 e6 => pw_let ?_))))
  have k6 : R7k X X6 := by
    rw [e6, e4]
    exact ⟨(k0.1.wr (Or.inr (Or.inr ⟨rfl, by decide⟩))).wr (Or.inr (Or.inr ⟨rfl, by decide⟩)), fun k => by rw [wI_ne _ _ _ _ _ _ (by omega), wI_ne _ _ _ _ _ _ (by omega)]; exact k0.2 k⟩
  exact pw_ite (fun _ => pw_ret k6) (fun _ => pw_let (pw_ret k6))
theorem k_go {u : Bool} (h : JM X) (h3 : ¬ (X.1 0 3).toInt = 0) (hF : Fr YR [26, 27, 39, 42, 8000, 8200, 8400, 8600, 8800, 9000, 9200, 9400, 9600, 9800, 10000, 10200] X Z) (hR : ∃ po PTs, RUNC u Z po PTs) (h39 : 0 ≤ (Z.1 0 39).toInt ∧ (Z.1 0 39).toInt ≤ 20000) (h42 : u = true ↔ (Z.1 0 42).toInt = 0) : pw (f_starts (Z.1 0 25) Z) (fun _ Y => R7k X Y) := by
  obtain ⟨po, PTs, hR⟩ := hR
  obtain ⟨⟨⟨g1, g2, g3⟩, g4, g5, g6, g7⟩, -⟩ := h.2.1 h3
  have hK : KX X Z := KX.fr hF (by decide)
  have hKT : KX (TX X) Z := g5.tr hK
  have hTZ : KT Z := g6.fr hF (by decide)
  obtain ⟨m1, m2, m3⟩ := g3.2.2.2.2
  rw [TX.fr.1 0 25 (by decide)] at m1 m2 m3
  rw [TX.fr.1 0 18 (by decide)] at m2
  rw [TX.fr.1 15 _ (show (3000 : Nat) ∉ [13, 15] from by decide)] at m3
  have z28 : Z.1 0 28 = X.1 0 28 := hF.1 0 28 (by decide)
  have z25 : Z.1 0 25 = X.1 0 25 := hF.1 0 25 (by decide)
  have z18 : Z.1 0 18 = X.1 0 18 := hF.1 0 18 (by decide)
  refine pw_mono (pw_ok (r_starts (u := u) hTZ (g2.kx hKT) (g7.pot (POT.fr g6 hF (by decide))) hR h39 (by rw [z28]; have := h.1.2.2.2; omega) h42 (by rw [z25, z18]; exact ⟨m1, m2⟩) (by rw [z25, hF.1 15 _ (show (3000 : Nat) ∉ [26, 27, 39, 42, 8000, 8200, 8400, 8600, 8800, 9000, 9200, 9400, 9600, 9800, 10000, 10200] from by decide)]; exact m3))) ?_
  rintro r Y ⟨p1, p2, p3⟩
  have hXY : Fr YR [13, 15, 26, 27, 31, 32, 33, 34, 35, 36, 37, 38, 39, 40, 41, 42, 43, 44, 45, 46, 800, 1000, 1200, 1400, 1600, 1800, 2000, 8000, 8200, 8400, 8600, 8800, 9000, 9200, 9400, 9600, 9800, 10000, 10200, 12000, 12200, 12400, 12600, 12800, 13000, 13200, 13400, 13600, 13800, 14000, 14200, 14400, 14600, 14800, 15000, 15200, 15400, 15600, 15800, 16000, 16200] X Y := (hF.mono (by decide)).tr p1.1 (by decide)
  exact R7.of hXY (by decide) (hKT.tr p1.2.2.1)
theorem k_run (h : JM X) (p1 : Int32) : pw (f_run p1 X) (fun _ Y => R7k X Y) := by
  unfold f_run
  refine pw_let (pw_ite (fun _ => pw_ret R7k.rf) (fun c => pw_bd (pw_ok (s_f_in _ _ _ _)) ?_))
  rintro r0 X' ⟨hF0, hin⟩
  obtain rfl : X = X' := (Fr.nil hF0).symm
  have hin : (r0.toInt = 1 ∧ 0 ≤ p1.toInt ∧ p1.toInt ≤ 20000) ∨ (r0.toInt = 0 ∧ (p1.toInt < 0 ∨ 20000 < p1.toInt)) := hin
  refine pw_ite (fun _ => pw_ret R7k.rf) (fun c2 => pw_let (pw_let ?_))
  have h3 : ¬ (X.1 0 3).toInt = 0 := fun q => c (h.2.2.1 q).1
  obtain ⟨j1, j2, j3⟩ := h.2.2.2.1 c
  have hF : Fr YR [39, 42] X (wI (wI X 0 39 p1) 0 42 1) := (Fr.rf.wI 0 39 _ (show (39 : Nat) ∈ [39, 42] from by decide)).wI 0 42 _ (show (42 : Nat) ∈ [39, 42] from by decide)
  have v42 : (wI (wI X 0 39 p1) 0 42 1).1 0 42 = 1 := wI_at _ _ _ _
  have v39 : (wI (wI X 0 39 p1) 0 42 1).1 0 39 = p1 := by rw [wI_ne _ 0 _ _ 0 _ (by decide), wI_at]
  obtain ⟨Z, hZ⟩ : ∃ Z : St, wI (wI X 0 39 p1) 0 42 1 = Z := ⟨_, rfl⟩
  rw [hZ] at hF v42 v39 ⊢
  have hP := (h.2.1 h3).1
  have hK : KX X Z := KX.fr hF (by decide)
  have hJZ : JUD Z := j1.to hP.2.2.2.1 hF hK (by decide) (by decide) (by decide)
  exact pw_let (pw_bd (k_go (u := false) h h3 (hF.mono (by decide)) (hJZ.run (hP.1.2.1.kx (hP.2.2.1.tr hK)) (hP.pgr.fr hF (by decide))) (by rw [v39]; omega) (by rw [v42]; decide)) (fun _ Y hY => pw_ret hY))
theorem k_untold {p1 : Int32} (h : JM X) (h3 : ¬ (X.1 0 3).toInt = 0) (hp : 0 ≤ p1.toInt ∧ p1.toInt ≤ 20000) (hF : Fr YR [26, 27, 39, 42, 8000, 8200, 8400, 8600, 8800, 9000, 9200, 9400, 9600, 9800, 10000, 10200] X Z) (hC : CODP Z) : pw (f_runUntold_31 p1 Z) (fun _ Y => R7k X Y) := by
  have hP := (h.2.1 h3).1
  unfold f_runUntold_31
  refine pw_let (pw_let ?_)
  have hG : Fr YR [39, 42] Z (wI (wI Z 0 39 p1) 0 42 0) := (Fr.rf.wI 0 39 _ (show (39 : Nat) ∈ [39, 42] from by decide)).wI 0 42 _ (show (42 : Nat) ∈ [39, 42] from by decide)
  have v42 : (wI (wI Z 0 39 p1) 0 42 0).1 0 42 = 0 := wI_at _ _ _ _
  have v39 : (wI (wI Z 0 39 p1) 0 42 0).1 0 39 = p1 := by rw [wI_ne _ 0 _ _ 0 _ (by decide), wI_at]
  obtain ⟨W, hW⟩ : ∃ W : St, wI (wI Z 0 39 p1) 0 42 0 = W := ⟨_, rfl⟩
  rw [hW] at hG v42 v39 ⊢
  have hXW : Fr YR [26, 27, 39, 42, 8000, 8200, 8400, 8600, 8800, 9000, 9200, 9400, 9600, 9800, 10000, 10200] X W := hF.tr hG (by decide)
  have hCW : CODP W := by
    obtain ⟨lo, po, a, b, c, d⟩ := hC
    unfold CODP
    rw [hG.1 0 18 (by decide), hG.1 0 19 (by decide)]
    exact ⟨lo, po, a, b, c, d.fr hG (by decide)⟩
  exact pw_let (pw_bd (k_go (u := true) h h3 hXW (hCW.run (hP.pgr.fr hXW (by decide))) (by rw [v39]; exact hp) (by rw [v42]; decide)) (fun _ Y hY => pw_ret hY))
theorem k_runUntold (h : JM X) (p1 : Int32) : pw (f_runUntold p1 X) (fun _ Y => R7k X Y) := by
  unfold f_runUntold
  refine pw_let (pw_ite (fun _ => pw_ret R7k.rf) (fun c => pw_bd (pw_ok (s_f_in _ _ _ _)) ?_))
  rintro r0 X' ⟨hF0, hin⟩
  obtain rfl : X = X' := (Fr.nil hF0).symm
  have hin : (r0.toInt = 1 ∧ 0 ≤ p1.toInt ∧ p1.toInt ≤ 20000) ∨ (r0.toInt = 0 ∧ (p1.toInt < 0 ∨ 20000 < p1.toInt)) := hin
  refine pw_ite (fun _ => pw_ret R7k.rf) (fun c2 => pw_let (pw_ite (fun c4 => ?_) (fun c4 => ?_)))
  · obtain ⟨⟨g1, g2, g3⟩, ⟨g4, g5, g6, g7⟩, gk, gt, gb⟩ := (h.2.1 c).1
    have hF : Fr YR [13, 15] (TX X) X := TX.fr.sy
    have hA : ALLP X := g3.2.1.ns g1 gt gk (hF.1 0 1 (by decide)) (hF.1 0 18 (by decide)) (hF.1 0 19 (by decide)) (fun i => ⟨hF.1 12 i (show (2400 : Nat) ∉ [13, 15] from by decide), hF.1 13 i (show (2600 : Nat) ∉ [13, 15] from by decide), hF.1 15 i (show (3000 : Nat) ∉ [13, 15] from by decide), hF.1 16 i (show (3200 : Nat) ∉ [13, 15] from by decide), hF.1 17 i (show (3400 : Nat) ∉ [13, 15] from by decide), hF.1 18 i (show (3600 : Nat) ∉ [13, 15] from by decide)⟩) (fun n lo hi i _ _ => ⟨hF.1 20 i (show (4000 : Nat) ∉ [13, 15] from by decide), hF.1 23 i (show (4600 : Nat) ∉ [13, 15] from by decide), hF.1 24 i (show (4800 : Nat) ∉ [13, 15] from by decide), hF.1 25 i (show (5000 : Nat) ∉ [13, 15] from by decide), Or.inr (hF.1 26 i (show (5200 : Nat) ∉ [13, 15] from by decide)), hF.1 27 i (show (5400 : Nat) ∉ [13, 15] from by decide), fun _ => hF.1 28 i (show (5600 : Nat) ∉ [13, 15] from by decide)⟩)
    have h19 : (X.1 0 19).toInt ≤ 3000 := by
      have := g3.2.2.1.1
      rw [TX.fr.1 0 19 (by decide)] at this
      exact this
    refine pw_bd (pw_ok (t_f_compiles hA ⟨g4, g5⟩ ⟨g6, h19⟩)) ?_
    rintro r Z ⟨hZ, hC⟩
    exact k_untold h c (by omega) (hZ.mono (by decide)) hC.codp
  · obtain ⟨j1, j2, j3⟩ := h.2.2.2.1 c4
    exact k_untold h c (by omega) Fr.rf j1.codp
end XJ7S
