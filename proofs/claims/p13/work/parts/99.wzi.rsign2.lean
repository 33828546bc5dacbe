/-! the reference works waiting signs off -/
def wlast (lv : Int) : Option Wt → List Wt → Option Wt
  | a, [] => a
  | a, w :: ws => if lvl w.1 < lv then a else wlast lv (some w) ws
/-- the node in hand: a sign's, the last one worked off -/
def HDq (Y : St) (t : Nat) (cn : Int → Int) : Option Wt → Prop
  | none => ¬ (Y.1 20 t).toInt = 14
  | some w => (Y.1 26 t).toInt = w.1 ∧ ((Y.1 20 t).toInt = if lvl w.1 = 1 then 15 else 14) ∧ (2 ≤ lvl w.1 → (Y.1 39 t).toInt = cn (lvl w.1))
def SGq (ch : Tx) (n : Nat) (X Y : St) (q : Nat) (o : Int) (sc : List Nm) (j N N1 : Nat) (cn : Int → Int) (c0 : List Ins) (f : Nat) (c : List Ins) (ws : List Wt) (d : Option Wt) (t : Nat) : Prop := (XS ch n Y q o sc (j + 1 + ws.length) N1 ∧ NMr ch Y N1 c ∧ KP X Y (j + 1) N sc.length) ∧ WTq Y (j + 1) N N1 cn ws ∧ ((Y.1 0 24).toInt = (t : Int) ∧ N ≤ t ∧ t < N1) ∧ HDq Y t cn d ∧ (¬ (Y.1 35 j).toInt = 15 ∧ ¬ (Y.1 35 j).toInt = 16) ∧ SGo ch Y (j + 1) c0 N N1 f c ws t
/-- sums, products and a comparison that wait -/
def WAq (a s p : Int) (A B C : List Wt) : Prop := ((A = [] ∧ p = 0) ∨ ∃ w : Wt, A = [w] ∧ lvl w.1 = 3 ∧ 1 ≤ p) ∧ ((B = [] ∧ s = 0) ∨ ∃ w : Wt, B = [w] ∧ lvl w.1 = 2 ∧ 1 ≤ s) ∧ ((C = [] ∧ a = 0) ∨ ∃ w : Wt, C = [w] ∧ lvl w.1 = 1 ∧ a = 1)
section RSIGN2
variable {ch : Tx} {n q : Nat} {X Y Z X0 : St} {o : Int} {sc : List Nm} {j N N1 s N0 : Nat} {Q : Int32 → St → Prop} {c c0 c1 : List Ins} {cn : Int → Int}
theorem XS.tp (h : XS ch n Y q o sc (j + 1) N) {x2 : Int32} (e2 : x2 = Y.1 0 22 - (1 : Int32)) : x2.toInt = (j : Int) ∧ ix x2 = j := by
  have l1 : (1 : Int32).toInt = 1 := by decide
  have h22 := (h.fe (by omega))
  have v2 : x2.toInt = ((j : Nat) : Int) := by
    rw [e2, ti_sub (by rw [h22, l1]; omega) (by rw [h22, l1]; have := Int32.toInt_lt (Y.1 0 22); omega), h22, l1]
    omega
  exact ⟨v2, ixn v2⟩
theorem x_sec {p1 : Int32} {lv : Int} (hp : p1.toInt = lv) : ∀ (ws : List Wt) (d : Option Wt) (f : Nat) (c : List Ins) (M t : Nat) (Y : St), SGq ch n X Y q o sc j N N1 cn c0 f c ws d t → pw (f_second_0 M p1 Y) (fun _ Z => ∃ t1, SGq ch n X Z q o sc j N N1 cn c0 (sPop lv ws f c).2.1 (sPop lv ws f c).2.2 (wpop lv ws) (wlast lv d ws) t1) := by
  have st : ∀ M, f_second_0 (M + 1) = f_second_0_s (f_second_0 M) := by
    intro M
    unfold f_second_0
    exact lp_succ _ _ _
  intro ws
  induction ws with
  | nil =>
    intro d f c M t Y h
    cases M with
    | zero => exact pw_none
    | succ M =>
      rw [st]
      unfold f_second_0_s
      have g : XS ch n Y q o sc (j + 1) N1 := h.1.1
      refine pw_let (pw_eq (fun x2 e2 => ?_))
      rw [(g.tp e2).2]
      refine pw_ck (fun _ => pw_let (pw_neg h.2.2.2.2.1.2 (pw_ret ?_)))
      exact ⟨t, h⟩
  | cons w ws ih =>
    intro d f c M t Y h
    cases M with
    | zero => exact pw_none
    | succ M =>
      rw [st]
      unfold f_second_0_s
      obtain ⟨⟨g, m, k⟩, ⟨⟨w35, t', w36, h1, h2, w26, wl, w20, w39⟩, W⟩, hh, hd, hb, hs⟩ := h
      have g : XS ch n Y q o sc (j + 1 + ws.length + 1) N1 := g
      refine pw_let (pw_eq (fun x2 e2 => ?_))
      rw [(g.tp e2).2]
      refine pw_ck (fun _ => pw_let (pw_pos w35 ?_))
      refine pw_let (pw_eq (fun x5 e5 => ?_))
      rw [(g.tp e5).2]
      refine pw_ck (fun _ => pw_let ?_)
      rw [ixn w36]
      refine pw_ck (fun _ => pw_let (pw_let ?_))
      refine pw_bd (x_lev _ Y w.1 (by rw [Int32.toInt_toInt64]; exact w26)) ?_
      rintro x9 X10 ⟨e10, h9⟩
      rw [e10]
      refine pw_ite (fun c9 => ?_) (fun c9 => ?_)
      · have cc : lvl w.1 < lv := by omega
        have ew : wpop lv (w :: ws) = w :: ws := by rw [wpop, if_pos cc]
        have el : wlast lv d (w :: ws) = d := by rw [wlast, if_pos cc]
        have ep : sPop lv (w :: ws) f c = (w :: ws, f, c) := by rw [sPop, if_pos cc]
        rw [ew, el, ep]
        exact pw_ret ⟨t, ⟨g, m, k⟩, ⟨⟨w35, t', w36, h1, h2, w26, wl, w20, w39⟩, W⟩, hh, hd, hb, hs⟩
      · have cc : ¬ lvl w.1 < lv := by omega
        have ew : wpop lv (w :: ws) = wpop lv ws := by rw [wpop, if_neg cc]
        have el : wlast lv d (w :: ws) = wlast lv (some w) ws := by rw [wlast, if_neg cc]
        have ep : sPop lv (w :: ws) f c = sPop lv ws w.2.2 (addx ((c ++ [(27, 0, plc c f, [])]) ++ [(opc w.1, 0, w.2.1, [])]) w.2.2 1) := by rw [sPop, if_neg cc]
        rw [ew, el, ep]
        refine pw_let (pw_eq (fun x12 e12 => ?_))
        have v12 := g.tp e12
        refine pw_eq (fun X13 e13 => ?_)
        have g13 : XS ch n X13 q o sc (j + 1 + ws.length) N1 := by rw [e13]; exact g.w22 v12.1
        refine pw_let ?_
        rw [ixn (g13.fe (by omega))]
        have z36 : X13.1 36 (j + 1 + ws.length) = Y.1 36 (j + 1 + ws.length) := by rw [e13, wI_ne _ _ _ _ _ _ (by omega)]
        refine pw_ck (fun _ => pw_let ?_)
        rw [z36, ixn w36]
        refine pw_let ?_
        refine pw_ck (fun _ => pw_eq (fun X17 e17 => pw_eq (fun X18 e18 => ?_)))
        have r18 : ∀ e k, 20 ≤ e → ¬ e = 24 → X18.1 e k = Y.1 e k := fun e k he h24 => by rw [e18, wI_ne _ _ _ _ _ _ (by omega), e17, wI_ne _ _ _ _ _ _ (by omega), e13, wI_ne _ _ _ _ _ _ (by omega)]
        have c24 : X18.1 0 24 = Y.1 36 (j + 1 + ws.length) := by rw [e18, wI_at]
        have n18 : ∀ e k, 20 ≤ e ∧ e ≤ 28 → ¬ (e = 24 ∧ k = t') → X18.1 e k = Y.1 e k := fun e k he hn => by rw [e18, wI_ne _ _ _ _ _ _ (by omega), e17, wI_ne _ _ _ _ _ _ (by omega), e13, wI_ne _ _ _ _ _ _ (by omega)]
        have kg : KGq Y X18 := KGq.of (fun e k q => by rw [e18, wI_ne _ _ _ _ _ _ (by omega), e17, wI_ne _ _ _ _ _ _ (by omega), e13, wI_ne _ _ _ _ _ _ (by omega)])
        have i24 : iv X18 24 t' = (t : Int) := by unfold iv; rw [e18, wI_ne _ _ _ _ _ _ (by omega), e17, wI_at, e13, wI_ne _ _ _ _ _ _ (by omega)]; exact hh.1
        refine ih (some w) w.2.2 (addx ((c ++ [(27, 0, plc c f, [])]) ++ [(opc w.1, 0, w.2.1, [])]) w.2.2 1) M t' X18 ⟨⟨?_, ?_, ?_⟩, WTq.fr ws W (Nat.le_refl _) (fun k _ => ⟨r18 35 k (by omega) (by omega), r18 36 k (by omega) (by omega)⟩) (fun k _ _ => ⟨r18 20 k (by omega) (by omega), r18 26 k (by omega) (by omega), r18 39 k (by omega) (by omega)⟩), ⟨by rw [c24]; exact w36, h1, h2⟩, ⟨by rw [r18 26 _ (by omega) (by omega)]; exact w26, by rw [r18 20 _ (by omega) (by omega)]; exact w20, fun z => by rw [r18 39 _ (by omega) (by omega)]; exact w39 z⟩, by rw [r18 35 _ (by omega) (by omega)]; exact hb, hs.pop w36 h2 g.kj kg n18 (fun k => by rw [e18, e17, e13]; rfl) (fun k => r18 36 k (by omega) (by omega)) i24 w26 w20 wl⟩
        · rw [e18, e17]; exact (g13.wI (by omega)).wI (by omega)
        · rw [e18, e17, e13]; exact (((m.wI (by omega)).wI (by omega)).wI (by omega)).cd (fun p => NPl.addx.trans ((NPl.snoc (opc_4 _)).trans (NPl.snoc (show ¬ (27 : Int) = 4 by decide))))
        · rw [e18, e17, e13]; exact ((k.wI (by unfold KPs; omega)).wI (by unfold KPs; omega)).wI (by unfold KPs; omega)
variable {a sm p : Int} {A B C : List Wt}
theorem WAq.w3 (h : WAq a sm p A B C) : wpop 3 (A ++ (B ++ C)) = B ++ C ∧ wlast 3 none (A ++ (B ++ C)) = A.head? := by
  obtain ⟨(⟨rfl, hp⟩ | ⟨w3, rfl, h3, hp⟩), (⟨rfl, hs⟩ | ⟨w2, rfl, h2, hs⟩), (⟨rfl, hc⟩ | ⟨w1, rfl, h1, hc⟩)⟩ := h <;> constructor <;> simp [wpop, wlast, *]
theorem WAq.w2 (h : WAq a sm p A B C) : wpop 2 (A ++ (B ++ C)) = C ∧ wlast 2 none (A ++ (B ++ C)) = (B.head?).or A.head? := by
  obtain ⟨(⟨rfl, hp⟩ | ⟨w3, rfl, h3, hp⟩), (⟨rfl, hs⟩ | ⟨w2, rfl, h2, hs⟩), (⟨rfl, hc⟩ | ⟨w1, rfl, h1, hc⟩)⟩ := h <;> constructor <;> simp [wpop, wlast, *]
theorem WAq.w1 (h : WAq a sm p A B C) : wpop 1 (A ++ (B ++ C)) = [] := by
  obtain ⟨(⟨rfl, hp⟩ | ⟨w3, rfl, h3, hp⟩), (⟨rfl, hs⟩ | ⟨w2, rfl, h2, hs⟩), (⟨rfl, hc⟩ | ⟨w1, rfl, h1, hc⟩)⟩ := h <;> simp [wpop, *]
theorem WAq.low (h : WAq a sm p A B C) : WAq a 0 0 [] [] C := ⟨Or.inl ⟨rfl, rfl⟩, Or.inl ⟨rfl, rfl⟩, h.2.2⟩
/-- where an expression ends, the signs are worked off -/
def CEq (ch : Tx) (n : Nat) (X : St) (o : Int) (sc : List Nm) (j N : Nat) (c0 : List Ins) (Q : Int32 → St → Prop) (a : Out) : Prop := ∀ Z, ER ch n X o sc (j + 1) N c0 a Z → prE Z Q
theorem SGo.fin {f t : Nat} (h : SGo ch Y j c0 N N1 f c [] t) : ∃ d, c = c0 ++ d ∧ OM ch Y N N1 t c0.length d := by
  obtain ⟨P, lo, e, ⟨h1, h2⟩, h3, h4, h5⟩ := h
  rw [h1] at h3 h5
  rw [h2] at h5
  exact ⟨e, h3, h5⟩
theorem sg_end {ws : List Wt} {d : Option Wt} {t f : Nat} (h : SGq ch n X Y q o sc j N N1 cn c0 f c ws d t) (hw : wpop 1 ws = []) (H : CEq ch n X o sc j N c0 Q (q, (sPop 1 ws f c).2.2)) : pw (f_signs_144 Y) (fun _ Z => pr Z Q) := by
  unfold f_signs_144 f_second
  refine pw_bd (x_sec (show (1 : Int32).toInt = 1 by decide) ws d f c BIG t Y h) ?_
  rintro _ Z ⟨t1, ⟨g, m, k⟩, W, hh, hd, hb, hs⟩
  rw [hw] at g hs
  have E : prE Z Q := H Z ⟨N1, t1, g, m, k, hh.1, hh.2.1, hh.2.2, hs.fin⟩
  exact pw_bd E (fun _ V hV => pw_ret hV)
end RSIGN2
