/-! the reference's signs between operands -/
section RSIGN
variable {ch : Tx} {n q : Nat} {X Y Z X0 : St} {o : Int} {sc : List Nm} {j N s N0 : Nat} {Q : Int32 → St → Prop} {c c0 c1 : List Ins}
theorem x_lev (v : Int64) (X : St) (s : Int) (h : v.toInt = s) : pw (f_levelOf v X) (fun r Y => Y = X ∧ r.toInt = lvl s) := by
  have L : ∀ w : Int64, (lg_cmp v w).toInt = 0 ↔ s = w.toInt := fun w => by rw [cmp0, ← Int64.toInt_inj, h]
  have k42 : (42 : Int64).toInt = 42 := by decide
  have k47 : (47 : Int64).toInt = 47 := by decide
  have k37 : (37 : Int64).toInt = 37 := by decide
  have k43 : (43 : Int64).toInt = 43 := by decide
  have k45 : (45 : Int64).toInt = 45 := by decide
  have k60 : (60 : Int64).toInt = 60 := by decide
  have k61 : (61 : Int64).toInt = 61 := by decide
  have r3 : (3 : Int32).toInt = 3 := by decide
  have r2 : (2 : Int32).toInt = 2 := by decide
  have r1 : (1 : Int32).toInt = 1 := by decide
  unfold f_levelOf
  refine pw_let (pw_ite (fun d => pw_ret ⟨rfl, by rw [(L _).mp d, k42, r3]; decide⟩) (fun d1 => ?_))
  refine pw_let (pw_ite (fun d => pw_ret ⟨rfl, by rw [(L _).mp d, k47, r3]; decide⟩) (fun d2 => ?_))
  refine pw_let (pw_ite (fun d => pw_ret ⟨rfl, by rw [(L _).mp d, k37, r3]; decide⟩) (fun d3 => ?_))
  refine pw_let (pw_ite (fun d => pw_ret ⟨rfl, by rw [(L _).mp d, k43, r2]; decide⟩) (fun d4 => ?_))
  refine pw_let (pw_ite (fun d => pw_ret ⟨rfl, by rw [(L _).mp d, k45, r2]; decide⟩) (fun d5 => ?_))
  refine pw_let (pw_ite (fun d => pw_ret ⟨rfl, by rw [(L _).mp d, k60, r1]; decide⟩) (fun d6 => ?_))
  refine pw_let (pw_ite (fun d => pw_ret ⟨rfl, by rw [(L _).mp d, k61, r1]; decide⟩) (fun d7 => pw_ret ⟨rfl, ?_⟩))
  rw [L] at d1 d2 d3 d4 d5 d6 d7
  unfold lvl
  rw [if_neg (by omega), if_neg (by omega), if_neg (by omega)]
  rfl
/-- the signs that wait, worked off down to a level -/
def wpop (lv : Int) : List Wt → List Wt
  | [] => []
  | w :: ws => if lvl w.1 < lv then w :: ws else wpop lv ws
theorem sPop_1 (lv : Int) : ∀ (ws : List Wt) (f : Nat) (c : List Ins), (sPop lv ws f c).1 = wpop lv ws := by
  intro ws
  induction ws with
  | nil => intro f c; rfl
  | cons w ws ih =>
    intro f c
    rw [sPop, wpop]
    by_cases g : lvl w.1 < lv
    · rw [if_pos g, if_pos g]
    · rw [if_neg g, if_neg g]
      exact ih _ _
theorem opc_4 (s : Int) : ¬ opc s = 4 := by
  unfold opc
  repeat' split
  all_goals decide
theorem sPop_n (lv : Int) : ∀ (ws : List Wt) (f : Nat) (c : List Ins) (p : Int), NPl (sPop lv ws f c).2.2 p ↔ NPl c p := by
  intro ws
  induction ws with
  | nil => intro f c p; exact Iff.rfl
  | cons w ws ih =>
    intro f c p
    rw [sPop]
    by_cases g : lvl w.1 < lv
    · rw [if_pos g]
    · rw [if_neg g]
      exact (ih _ _ p).trans (NPl.addx.trans ((NPl.snoc (opc_4 _)).trans (NPl.snoc (show ¬ (27 : Int) = 4 by decide))))
/-- their frames and nodes; cn: how many of that level in a row -/
def WTq (Y : St) (j N N1 : Nat) (cn : Int → Int) : List Wt → Prop
  | [] => True
  | w :: ws => ((Y.1 35 (j + ws.length)).toInt = 16 ∧ ∃ t : Nat, (Y.1 36 (j + ws.length)).toInt = (t : Int) ∧ N ≤ t ∧ t < N1 ∧ (Y.1 26 t).toInt = w.1 ∧ 1 ≤ lvl w.1 ∧ ((Y.1 20 t).toInt = if lvl w.1 = 1 then 15 else 14) ∧ (2 ≤ lvl w.1 → (Y.1 39 t).toInt = cn (lvl w.1))) ∧ WTq Y j N N1 cn ws
theorem WTq.fr {N1 N2 : Nat} {cn : Int → Int} : ∀ (ws : List Wt), WTq Y j N N1 cn ws → N1 ≤ N2 → (∀ k, k < j + ws.length → Z.1 35 k = Y.1 35 k ∧ Z.1 36 k = Y.1 36 k) → (∀ k, N ≤ k → k < N1 → Z.1 20 k = Y.1 20 k ∧ Z.1 26 k = Y.1 26 k ∧ Z.1 39 k = Y.1 39 k) → WTq Z j N N2 cn ws := by
  intro ws
  induction ws with
  | nil => exact fun _ _ _ _ => trivial
  | cons w ws ih =>
    rintro ⟨⟨a, t, b, h1, h2, d, e, f, g⟩, h⟩ hN hf hn
    have hl : (w :: ws).length = ws.length + 1 := rfl
    obtain ⟨f1, f2⟩ := hf (j + ws.length) (by omega)
    obtain ⟨n1, n2, n3⟩ := hn t h1 h2
    exact ⟨⟨by rw [f1]; exact a, t, by rw [f2]; exact b, h1, by omega, by rw [n2]; exact d, e, by rw [n1]; exact f, fun z => by rw [n3]; exact g z⟩, ih h hN (fun k hk => hf k (by omega)) hn⟩
/-- their left operands, and the code that stands ahead of what is in hand -/
def WTo (ch : Tx) (Y : St) (j : Nat) (c0 : List Ins) (N : Nat) : List Wt → List Ins → Nat → Prop
  | [], P, lo => P = c0 ∧ lo = N
  | w :: ws, P, lo => ∃ (P1 : List Ins) (l1 t u : Nat) (e : List Ins), WTo ch Y j c0 N ws P1 l1 ∧ N ≤ l1 ∧ (Y.1 36 (j + ws.length)).toInt = (t : Int) ∧ lo = t + 1 ∧ iv Y 23 t = (u : Int) ∧ OM ch Y l1 t u P1.length e ∧ iv Y 21 t = plh e ∧ iv Y 22 t = w.2.1 ∧ w.2.2 = P1.length ∧ P = P1 ++ (e ++ [(27, 0, plh e, [])])
theorem WTo.nn : ∀ (ws : List Wt) (P : List Ins) (lo : Nat), WTo ch Y j c0 N ws P lo → N ≤ lo := by
  intro ws P lo h
  cases ws with
  | nil => exact Nat.le_of_eq h.2.symm
  | cons w ws =>
    obtain ⟨P1, l1, t, u, e, _, h1, _, h2, _, h3, _⟩ := h
    have := h3.bd
    omega
theorem WTo.fr (hX : KJq Y) (hk : KGq Y Z) : ∀ (ws : List Wt) (P : List Ins) (lo : Nat), WTo ch Y j c0 N ws P lo → (∀ e k, 20 ≤ e ∧ e ≤ 28 → k < lo → Z.1 e k = Y.1 e k) → (∀ k, k < lo → Z.2.1 29 k = Y.2.1 29 k) → (∀ k, k < j + ws.length → Z.1 36 k = Y.1 36 k) → WTo ch Z j c0 N ws P lo := by
  intro ws
  induction ws with
  | nil => exact fun _ _ h _ _ _ => h
  | cons w ws ih =>
    rintro P lo ⟨P1, l1, t, u, e, h, h0, h1, h2, h3, h4, h5, h6, h7, h8⟩ g1 g2 g3
    have hl : (w :: ws).length = ws.length + 1 := rfl
    have hb := h4.bd
    have gi : ∀ a, 20 ≤ a ∧ a ≤ 28 → iv Z a t = iv Y a t := fun a ha => by unfold iv; rw [g1 a t ha (by omega)]
    exact ⟨P1, l1, t, u, e, ih P1 l1 h (fun a k ha hk2 => g1 a k ha (by omega)) (fun k hk2 => g2 k (by omega)) (fun k hk2 => g3 k (by omega)), h0, by rw [g3 _ (by omega)]; exact h1, h2, by rw [gi 23 (by omega)]; exact h3, h4.cg ⟨fun a k ha _ hk2 _ => g1 a k ha (by omega), fun k _ hk2 => g2 k (by omega), KDk.oj hX hk.1⟩, by rw [gi 21 (by omega)]; exact h5, by rw [gi 22 (by omega)]; exact h6, h7, h8⟩
/-- what is in hand, and its code -/
def SGo (ch : Tx) (Y : St) (j : Nat) (c0 : List Ins) (N N1 f : Nat) (c : List Ins) (ws : List Wt) (t : Nat) : Prop := ∃ (P : List Ins) (lo : Nat) (e : List Ins), WTo ch Y j c0 N ws P lo ∧ c = P ++ e ∧ f = P.length ∧ OM ch Y lo N1 t P.length e
theorem stp_app (e l : List Ins) (h : ¬ e = []) : addx (e ++ l) 0 1 = stp e ++ l := by
  cases e with
  | nil => exact absurd rfl h
  | cons a e => rfl
/-- a sign that waits is worked off -/
theorem SGo.pop {N1 f t t' : Nat} {w : Wt} {ws : List Wt} (h : SGo ch Y j c0 N N1 f c (w :: ws) t) (h36 : (Y.1 36 (j + ws.length)).toInt = (t' : Int)) (ht : t' < N1) (hX : KJq Y) (hk : KGq Y Z) (g1 : ∀ e k, 20 ≤ e ∧ e ≤ 28 → ¬ (e = 24 ∧ k = t') → Z.1 e k = Y.1 e k) (g2 : ∀ k, Z.2.1 29 k = Y.2.1 29 k) (g3 : ∀ k, Z.1 36 k = Y.1 36 k) (h24 : iv Z 24 t' = (t : Int)) (h26 : iv Y 26 t' = w.1) (h20 : iv Y 20 t' = if lvl w.1 = 1 then 15 else 14) (hl : 1 ≤ lvl w.1) : SGo ch Z j c0 N N1 w.2.2 (addx ((c ++ [(27, 0, plc c f, [])]) ++ [(opc w.1, 0, w.2.1, [])]) w.2.2 1) ws t' := by
  obtain ⟨P, lo, ec, ⟨P1, l1, t2, u, e, h0, hN, q1, q2, q3, q4, q5, q6, q7, q8⟩, hc, hf, ho⟩ := h
  have et : t2 = t' := by omega
  rw [et] at q1 q2 q3 q4 q5 q6
  have hb := q4.bd
  have gi : ∀ a, 20 ≤ a ∧ a ≤ 28 → ¬ a = 24 → iv Z a t' = iv Y a t' := fun a ha hn => by unfold iv; rw [g1 a t' ha (by omega)]
  have o1 : OM ch Z l1 t' u P1.length e := q4.cg ⟨fun a k ha _ hk2 _ => g1 a k ha (by omega), fun k _ _ => g2 k, KDk.oj hX hk.1⟩
  have o2 : OM ch Z (t' + 1) N1 t P.length ec := by
    rw [q2] at ho
    exact ho.cg ⟨fun a k ha hk1 hk2 _ => g1 a k ha (by omega), fun k _ _ => g2 k, KDk.oj hX hk.1⟩
  have lp : P.length = P1.length + e.length + 1 := by
    rw [q8, List.length_append, List.length_append, List.length_singleton]
    omega
  have pc : plc c f = plh ec := by rw [hc, hf, plc_app]
  refine ⟨P1, l1, stp e ++ (27, 0, plh e, []) :: (ec ++ [(27, 0, plh ec, []), (opc w.1, 0, w.2.1, [])]), WTo.fr hX hk ws P1 l1 h0 (fun a k ha hk2 => g1 a k ha (by omega)) (fun k _ => g2 k) (fun k _ => g3 k), ?_, q7, OM.in ⟨by omega, by omega, by rw [plh_stp _ _ q4.ne, gi 21 (by omega) (by omega)]; exact q5.symm, Or.inr (Or.inr (Or.inr (Or.inl (Or.inr ⟨?_, ?_, u, t, e, ec, ?_, h24, o1, ?_, ?_⟩))))⟩⟩
  · rw [pc, q7, hc, q8]
    have : ((P1 ++ (e ++ [((27, 0, plh e, []) : Ins)])) ++ ec ++ [((27, 0, plh ec, []) : Ins)]) ++ [((opc w.1, 0, w.2.1, []) : Ins)] = P1 ++ (e ++ ((27, 0, plh e, []) :: (ec ++ [((27, 0, plh ec, []) : Ins), (opc w.1, 0, w.2.1, [])]))) := by
      simp only [List.append_assoc, List.cons_append, List.nil_append]
    rw [this, addx_app, stp_app _ _ q4.ne]
  · rw [gi 20 (by omega) (by omega), gi 26 (by omega) (by omega), h26]
    exact h20
  · rw [gi 26 (by omega) (by omega), h26]
    exact hl
  · rw [gi 23 (by omega) (by omega)]
    exact q3
  · rw [← lp]
    exact o2
  · rw [gi 26 (by omega) (by omega), gi 22 (by omega) (by omega), h26, q6]
end RSIGN
