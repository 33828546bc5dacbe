/-! the reference reads an operand with all that stands before and behind it -/
theorem su_all {ch : Tx} {n : Nat} {o : Int} {P : PFn} {E : EF} (hE : SEq ch n (o + 1) E) (hn : NBq ch E) (hO : MOE ch E) (hP : SPq ch n o P) : SUq ch n o (sU ch P E) := by
  intro sc q c j N X Q h hm hM ho ho40 H
  refine pr_1 h hm ?_
  unfold sU at H
  refine b_operand hE hn hO hP h hm hM ⟨ho, ho40⟩ ⟨fun y => H.p y, fun n45 y => (H.q n45).p y, fun n45 n33 => ((H.q n45).q n33).b.m (fun a H => ?_)⟩
  rintro Y ⟨N1, t, gY, mY, kY, hY, h1, h2, hOM⟩ hmode hk
  rw [ixn hY] at hk
  exact b_suf hE hn ⟨ho, ho40⟩ rfl 41 0 a.1 t N1 a.2 Y ⟨gY, hmode, mY, kY, hY, ⟨h1, h2⟩, hk.1.2.2, Or.inr ⟨hk.1.1, hk.1.2.1, rfl⟩, hOM⟩ rfl (by omega) (fun e => absurd e hk.1.1) (fun _ => hk.2.trans decide_eq_true_iff.symm) H
