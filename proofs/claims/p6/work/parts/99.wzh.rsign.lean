/-! the reference's signs between operands -/
section RSIGN
variable {ch : Tx} {n q : Nat} {X Y Z X0 : St} {o : Int} {sc : List Nm} {j N s N0 : Nat} {Q : Int32 → St → Prop} {c c1 : List Ins}
theorem x_lev (v : Int64) (X : St) (s : Int) (h : v.toInt = s) : pw (f_levelOf v X) (fun r Y => Y = X ∧ r.toInt = lvl s) := by
  have L : ∀ w : Int64, (lg_cmp v w).toInt = 0 ↔ s = w.toInt := fun w => by rw [cmp0, ← Int64.toInt_inj, h]
  have k42 : (42 : Int64).toInt = 42 := by decide
  have k47 : (47 : Int64).toInt = 47 := by decide
  have k37 : (37 : Int64).toInt = 37 := by decide
  have k43 : (43 : Int64).toInt = 43 := by decide
  have k45 : (45 : Int64).toInt = 45 := by decide
  have k60 : (60 : Int64).toInt = 60 := by decide
  have k61 : (61 : Int64).toInt = 61 := by decide
  have r3 : (3 : Int32).toInt = 3 := by decide
  have r2 : (2 : Int32).toInt = 2 := by decide
  have r1 : (1 : Int32).toInt = 1 := by decide
  unfold f_levelOf
  refine pw_let (pw_ite (fun d => pw_ret ⟨rfl, by rw [(L _).mp d, k42, r3]; decide⟩) (fun d1 => ?_))
  refine pw_let (pw_ite (fun d => pw_ret ⟨rfl, by rw [(L _).mp d, k47, r3]; decide⟩) (fun d2 => ?_))
  refine pw_let (pw_ite (fun d => pw_ret ⟨rfl, by rw [(L _).mp d, k37, r3]; decide⟩) (fun d3 => ?_))
  refine pw_let (pw_ite (fun d => pw_ret ⟨rfl, by rw [(L _).mp d, k43, r2]; decide⟩) (fun d4 => ?_))
  refine pw_let (pw_ite (fun d => pw_ret ⟨rfl, by rw [(L _).mp d, k45, r2]; decide⟩) (fun d5 => ?_))
  refine pw_let (pw_ite (fun d => pw_ret ⟨rfl, by rw [(L _).mp d, k60, r1]; decide⟩) (fun d6 => ?_))
  refine pw_let (pw_ite (fun d => pw_ret ⟨rfl, by rw [(L _).mp d, k61, r1]; decide⟩) (fun d7 => pw_ret ⟨rfl, ?_⟩))
  rw [L] at d1 d2 d3 d4 d5 d6 d7
  unfold lvl
  rw [if_neg (by omega), if_neg (by omega), if_neg (by omega)]
  rfl
/-- the signs that wait, worked off down to a level -/
def wpop (lv : Int) : List Wt → List Wt
  | [] => []
  | w :: ws => if lvl w.1 < lv then w :: ws else wpop lv ws
theorem sPop_1 (lv : Int) : ∀ (ws : List Wt) (f : Nat) (c : List Ins), (sPop lv ws f c).1 = wpop lv ws := by
  intro ws
  induction ws with
  | nil => intro f c; rfl
  | cons w ws ih =>
    intro f c
    rw [sPop, wpop]
    by_cases g : lvl w.1 < lv
    · rw [if_pos g, if_pos g]
    · rw [if_neg g, if_neg g]
      exact ih _ _
theorem opc_4 (s : Int) : ¬ opc s = 4 := by
  unfold opc
  repeat' split
  all_goals decide
theorem sPop_n (lv : Int) : ∀ (ws : List Wt) (f : Nat) (c : List Ins) (p : Int), NPl (sPop lv ws f c).2.2 p ↔ NPl c p := by
  intro ws
  induction ws with
  | nil => intro f c p; exact Iff.rfl
  | cons w ws ih =>
    intro f c p
    rw [sPop]
    by_cases g : lvl w.1 < lv
    · rw [if_pos g]
    · rw [if_neg g]
      exact (ih _ _ p).trans (NPl.addx.trans ((NPl.snoc (opc_4 _)).trans (NPl.snoc (show ¬ (27 : Int) = 4 by decide))))
/-- their frames and nodes; cn: how many of that level in a row -/
def WTq (Y : St) (j N N1 : Nat) (cn : Int → Int) : List Wt → Prop
  | [] => True
  | w :: ws => ((Y.1 35 (j + ws.length)).toInt = 16 ∧ ∃ t : Nat, (Y.1 36 (j + ws.length)).toInt = (t : Int) ∧ N ≤ t ∧ t < N1 ∧ (Y.1 26 t).toInt = w.1 ∧ 1 ≤ lvl w.1 ∧ ((Y.1 20 t).toInt = if lvl w.1 = 1 then 15 else 14) ∧ (2 ≤ lvl w.1 → (Y.1 39 t).toInt = cn (lvl w.1))) ∧ WTq Y j N N1 cn ws
theorem WTq.fr {N1 N2 : Nat} {cn : Int → Int} : ∀ (ws : List Wt), WTq Y j N N1 cn ws → N1 ≤ N2 → (∀ k, k < j + ws.length → Z.1 35 k = Y.1 35 k ∧ Z.1 36 k = Y.1 36 k) → (∀ k, N ≤ k → k < N1 → Z.1 20 k = Y.1 20 k ∧ Z.1 26 k = Y.1 26 k ∧ Z.1 39 k = Y.1 39 k) → WTq Z j N N2 cn ws := by
  intro ws
  induction ws with
  | nil => exact fun _ _ _ _ => trivial
  | cons w ws ih =>
    rintro ⟨⟨a, t, b, h1, h2, d, e, f, g⟩, h⟩ hN hf hn
    have hl : (w :: ws).length = ws.length + 1 := rfl
    obtain ⟨f1, f2⟩ := hf (j + ws.length) (by omega)
    obtain ⟨n1, n2, n3⟩ := hn t h1 h2
    exact ⟨⟨by rw [f1]; exact a, t, by rw [f2]; exact b, h1, by omega, by rw [n2]; exact d, e, by rw [n1]; exact f, fun z => by rw [n3]; exact g z⟩, ih h hN (fun k hk => hf k (by omega)) hn⟩
end RSIGN
