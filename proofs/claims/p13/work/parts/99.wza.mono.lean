/-! what the text's reading takes it leaves behind -/
section MONO
variable {ch : Tx} {n : Nat}
theorem HH.t {α : Type} {C : α → Prop} {a : α} (h : C a) : HH True C (some a) := ⟨fun _ => trivial, fun b e => by rw [← Option.some.inj e]; exact h⟩
theorem HH.z {α : Type} {C : α → Prop} : HH True C (none : Option α) := ⟨fun _ => trivial, fun b e => absurd e.symm (Option.some_ne_none _)⟩
theorem HH.f {α : Type} {D : Prop} {C : α → Prop} {c : Prop} [Decidable c] {A B : Option α} (h1 : c → HH D C A) (h2 : ¬ c → HH D C B) : HH D C (if c then A else B) := by
  by_cases g : c
  · rw [if_pos g]; exact h1 g
  · rw [if_neg g]; exact h2 g
theorem mv_en (hT : TXT ch n) {t o : Int} {q : Nat} (ht : ¬ t = 257) : HH True (fun q1 => pl ch q + 1 ≤ pl ch q1) (sEnter ch t o q) := HH.f (fun g => HH.f (fun _ => HH.t (pl_nx hT (by omega))) (fun _ => HH.z)) (fun _ => HH.z)
theorem mv_wa (hT : TXT ch n) {t : Int} {q : Nat} (ht : ¬ t = 257) : HH True (fun q1 => pl ch q + 1 ≤ pl ch q1) (sWant ch t q) := HH.f (fun g => HH.t (pl_nx hT (by omega))) (fun _ => HH.z)
theorem mv_kl (hT : TXT ch n) {sk : Nat → Option (Nat × List Int)} (h : ∀ q, HH True (fun a => pl ch q + 1 ≤ pl ch a.1) (sk q)) : ∀ j q, HH True (fun a => pl ch q + 1 ≤ pl ch a.1) (sKL ch sk j q) := by
  intro j
  induction j with
  | zero => intro q; rw [sKL]; exact HH.z
  | succ j ih =>
    intro q
    rw [sKL]
    refine HH.j ((h q).m (fun r hr => HH.f (fun g => HH.j ((ih (nx ch r.1)).m (fun s hs => HH.t ?_))) (fun _ => HH.t hr)))
    have := pl_nx hT (q := r.1) (by omega)
    show pl ch q + 1 ≤ pl ch s.1
    omega
theorem mv_k (hT : TXT ch n) : ∀ m o q, HH True (fun a => pl ch q + 1 ≤ pl ch a.1) (sK ch m o q) := by
  intro m
  induction m with
  | zero => intro o q; rw [sK]; exact HH.z
  | succ m ih =>
    intro o q
    rw [sK]
    refine HH.f (fun g => ?_) (fun _ => HH.f (fun g => ?_) (fun _ => HH.f (fun g => HH.t (pl_nx hT (by omega))) (fun _ => HH.z)))
    · refine HH.j ((mv_en hT (by decide)).m (fun q1 h1 => HH.j ((mv_en hT (by decide)).m (fun q2 h2 => ?_))))
      refine HH.j (HH.m (C := fun s : Nat × List (List Int) => pl ch q2 ≤ pl ch s.1) (HH.f (fun _ => HH.t (Nat.le_refl _)) (fun _ => (mv_kl hT (ih (o + 2)) 4 q2).m (fun s hs => by omega))) (fun s hs => ?_))
      exact HH.j ((mv_wa hT (by decide)).m (fun q3 h3 => HH.j ((ih _ _).m (fun g hg => HH.t (show pl ch q + 1 ≤ pl ch g.1 by omega)))))
    · exact HH.j ((mv_en hT (by decide)).m (fun q1 h1 => HH.j ((ih _ _).m (fun r hr => HH.j ((mv_wa hT (by decide)).m (fun q2 h2 => HH.t (show pl ch q + 1 ≤ pl ch q2 by omega)))))))
theorem mv_co (hT : TXT ch n) (o : Int) (q : Nat) : HH True (fun a => pl ch q ≤ pl ch a.1) (sColon ch o q) := by
  unfold sColon
  refine HH.f (fun g => HH.j ((mv_k hT _ _ _).m (fun r hr => HH.t ?_))) (fun _ => HH.t (Nat.le_refl _))
  have := pl_nx hT (q := q) (by omega)
  show pl ch q ≤ pl ch r.1
  omega
def MOE (ch : Tx) (E : EF) : Prop := ∀ o sc q c, HH True (fun a => pl ch q + 1 ≤ pl ch a.1) (E o sc q c)
theorem mv_c1 (hT : TXT ch n) {U : Nat → List Ins → Option Out} (h : ∀ q c, HH True (fun a => pl ch q + 1 ≤ pl ch a.1) (U q c)) : ∀ k sums prods cmp f ws q c, HH True (fun a => pl ch q ≤ pl ch a.1) (sC1 ch U k sums prods cmp f ws q c) := by
  intro k
  induction k with
  | zero => intro sums prods cmp f ws q c; rw [sC1]; exact HH.t (Nat.le_refl _)
  | succ k ih =>
    intro sums prods cmp f ws q c
    rw [sC1]
    refine HH.f (fun _ => HH.t (Nat.le_refl _)) (fun g => HH.f (fun _ => HH.z) (fun _ => HH.j ((h _ _).m (fun r hr => (ih _ _ _ _ _ _ _).m (fun a ha => ?_)))))
    have h257 : ¬ ty ch q = 257 := fun e => g (Or.inl (by rw [e]; decide))
    have := pl_nx hT h257
    omega
section RECM
variable {P : PFn} {E : EF}
theorem mv_l1 (hT : TXT ch n) (hE : MOE ch E) {o : Int} {sc : List Nm} {cl ask : Int} (hc : ¬ cl = 257) : ∀ k i q c, HH True (fun b => pl ch q + 1 ≤ pl ch b.2.1) (sList1 ch E o sc cl ask k i q c) := by
  intro k
  induction k with
  | zero => intro i q c; rw [sList1]; exact HH.j ((mv_wa hT hc).m (fun q1 h1 => HH.t h1))
  | succ k ih =>
    intro i q c
    rw [sList1]
    refine HH.f (fun _ => HH.j ((mv_wa hT hc).m (fun q1 h1 => HH.t h1))) (fun _ => HH.f (fun _ => HH.z) (fun _ => HH.j ((hE _ _ _ _).m (fun r hr => HH.f (fun g => ?_) (fun _ => HH.j ((mv_wa hT hc).m (fun q1 h1 => HH.t (show pl ch q + 1 ≤ pl ch q1 by omega))))))))
    have := pl_nx hT (q := r.1) (by omega)
    exact (ih _ _ _).m (fun b hb => by omega)
theorem mv_li (hT : TXT ch n) (hE : MOE ch E) {o : Int} {sc : List Nm} {cl ask : Int} {most q : Nat} {c : List Ins} (hc : ¬ cl = 257) (hq : ¬ ty ch q = 257) : HH True (fun b => pl ch q + 1 ≤ pl ch b.2.1) (sList ch E o sc cl most ask q c) := by
  unfold sList
  exact HH.j ((mv_en hT hq).m (fun q1 h1 => (mv_l1 hT hE hc _ _ _ _).m (fun b hb => by omega)))
theorem mv_b1 (hT : TXT ch n) (hE : MOE ch E) {o : Int} {sc : List Nm} : ∀ k q c, HH True (fun b => pl ch q + 1 ≤ pl ch b.1) (sBlock1 ch E o sc k q c) := by
  intro k
  induction k with
  | zero => intro q c; rw [sBlock1]; exact HH.j ((mv_wa hT (by decide)).m (fun q1 h1 => HH.t h1))
  | succ k ih =>
    intro q c
    rw [sBlock1]
    refine HH.f (fun g => HH.j ((hE _ _ _ _).m (fun r hr => ?_))) (fun _ => HH.j ((mv_wa hT (by decide)).m (fun q1 h1 => HH.t h1)))
    have := pl_nx hT (q := q) (by omega)
    exact (ih _ _).m (fun b hb => by omega)
theorem mv_call (hT : TXT ch n) (hE : MOE ch E) {o : Int} {sc : List Nm} {ask : Int} {q : Nat} {c : List Ins} (hq : ¬ ty ch q = 257) : HH True (fun b => pl ch q + 1 ≤ pl ch b.1) (sCall ch E o sc ask q c) := by
  unfold sCall
  exact HH.j ((mv_li hT hE (by decide) hq).m (fun r hr => HH.t hr))
theorem mv_place (hT : TXT ch n) (hE : MOE ch E) {o : Int} {sc : List Nm} {q : Nat} {c : List Ins} : HH True (fun b => pl ch q + 1 ≤ pl ch b.2.1) (sPlace ch E o sc q c) := by
  unfold sPlace
  refine HH.j ((mv_en hT (by decide)).m (fun q1 h1 => HH.j ((hE _ _ _ _).m (fun r hr => HH.j ((mv_wa hT (by decide)).m (fun q2 h2 => HH.f (fun _ => ?_) (fun _ => HH.t (show pl ch q + 1 ≤ pl ch q2 by omega))))))))
  exact HH.j ((mv_en hT (by decide)).m (fun q3 h3 => HH.j ((hE _ _ _ _).m (fun s hs => HH.t (show pl ch q + 1 ≤ pl ch s.1 by omega)))))
theorem mv_u1 (hT : TXT ch n) (hE : MOE ch E) {o : Int} {sc : List Nm} {named : Bool} {f : Nat} : ∀ k st q c, HH True (fun b => pl ch q ≤ pl ch b.1) (sU1 ch E o sc named f k st q c) := by
  intro k
  induction k with
  | zero => intro st q c; rw [sU1]; exact HH.t (Nat.le_refl _)
  | succ k ih =>
    intro st q c
    rw [sU1]
    refine HH.f (fun g => HH.f (fun _ => HH.z) (fun _ => HH.f (fun g1 => ?_) (fun _ => ?_))) (fun _ => HH.t (Nat.le_refl _))
    · exact HH.j ((mv_call hT hE (by omega)).m (fun r hr => (ih _ _ _).m (fun b hb => by omega)))
    · exact HH.j ((mv_place hT hE).m (fun r hr => (ih _ _ _).m (fun b hb => by omega)))
theorem mv_b (hT : TXT ch n) (hE : MOE ch E) {o : Int} {sc : List Nm} {q : Nat} {c : List Ins} : HH True (fun b => pl ch q + 1 ≤ pl ch b.1) (sB ch E o sc q c) := by
  unfold sB
  refine HH.f (fun g => ?_) (fun _ => HH.f (fun g => ?_) (fun _ => HH.f (fun g => ?_) (fun _ => HH.f (fun g => ?_) (fun _ => HH.f (fun g => ?_) (fun _ => HH.f (fun g => HH.t (pl_nx hT (by omega))) (fun _ => HH.f (fun g => HH.t (pl_nx hT (by omega))) (fun _ => HH.f (fun g => ?_) (fun _ => HH.f (fun g => ?_) (fun _ => HH.f (fun g => ?_) (fun _ => HH.z))))))))))
  · exact HH.j ((mv_en hT (by decide)).m (fun q1 h1 => HH.j ((hE _ _ _ _).m (fun r hr => HH.j ((mv_wa hT (by decide)).m (fun q2 h2 => HH.t (show pl ch q + 1 ≤ pl ch q2 by omega)))))))
  · exact HH.j ((mv_li hT hE (by decide) (by omega)).m (fun r hr => HH.t hr))
  · unfold sBlock
    exact HH.j ((mv_en hT (by decide)).m (fun q1 h1 => HH.j ((hE _ _ _ _).m (fun r hr => (mv_b1 hT hE _ _ _).m (fun b hb => by omega)))))
  · exact HH.t (pl_nx hT (by omega))
  · exact HH.f (fun _ => HH.t (pl_nx hT (by omega))) (fun _ => HH.z)
  · have hx := pl_nx hT (q := q) (by omega)
    exact HH.j ((mv_en hT (by decide)).m (fun q1 h1 => HH.j ((hE _ _ _ _).m (fun r hr => HH.j ((mv_wa hT (by decide)).m (fun q2 h2 => HH.j ((hE _ _ _ _).m (fun s hs => HH.j ((mv_wa hT (by decide)).m (fun q3 h3 => HH.t (show pl ch q + 1 ≤ pl ch q3 by omega)))))))))))
  · have hx := pl_nx hT (q := q) (by omega)
    exact HH.j ((mv_en hT (by decide)).m (fun q1 h1 => HH.j ((hE _ _ _ _).m (fun r hr => HH.j ((mv_wa hT (by decide)).m (fun q2 h2 => HH.t (show pl ch q + 1 ≤ pl ch q2 by omega)))))))
  · have hx := pl_nx hT (q := q) (by omega)
    exact HH.j ((mv_en hT (by decide)).m (fun q1 h1 => HH.j ((hE _ _ _ _).m (fun r hr => HH.j ((mv_wa hT (by decide)).m (fun q2 h2 => HH.t (show pl ch q + 1 ≤ pl ch q2 by omega)))))))
def MOP (ch : Tx) (P : PFn) : Prop := ∀ a b o sc q c, HH True (fun x => pl ch q + 1 ≤ pl ch x.1) (P a b o sc q c)
theorem mv_u (hT : TXT ch n) (hE : MOE ch E) (hP : MOP ch P) {o : Int} {sc : List Nm} {q : Nat} {c : List Ins} : HH True (fun b => pl ch q + 1 ≤ pl ch b.1) (sU ch P E o sc q c) := by
  unfold sU
  exact HH.f (fun _ => hP _ _ _ _ _ _) (fun _ => HH.f (fun _ => hP _ _ _ _ _ _) (fun _ => HH.j ((mv_b hT hE).m (fun r hr => (mv_u1 hT hE _ _ _ _).m (fun b hb => by omega)))))
theorem mv_e1 (hT : TXT ch n) (hE : MOE ch E) (hP : MOP ch P) : MOE ch (sE1 ch P E) := by
  intro o sc q c
  unfold sE1
  refine HH.f (fun _ => ?_) (fun _ => HH.f (fun _ => ?_) (fun _ => ?_))
  · unfold sLet
    exact HH.j ((mv_en hT (by decide)).m (fun q1 h1 => HH.j ((mv_wa hT (by decide)).m (fun q2 h2 => HH.j ((mv_co hT _ _).m (fun kq hk => HH.j ((mv_wa hT (by decide)).m (fun q3 h3 => HH.j ((hE _ _ _ _).m (fun r hr => HH.j ((mv_wa hT (by decide)).m (fun q4 h4 => (hE _ _ _ _).m (fun a ha => by omega)))))))))))))
  · unfold sIf
    exact HH.j ((mv_en hT (by decide)).m (fun q1 h1 => HH.j ((hE _ _ _ _).m (fun r hr => HH.j ((mv_wa hT (by decide)).m (fun q2 h2 => HH.j ((hE _ _ _ _).m (fun s hs => HH.j ((mv_wa hT (by decide)).m (fun q3 h3 => HH.j ((hE _ _ _ _).m (fun t ht => HH.t (show pl ch q + 1 ≤ pl ch t.1 by omega)))))))))))))
  · unfold sC
    exact HH.j ((mv_u hT hE hP).m (fun r hr => (mv_c1 hT (fun _ _ => mv_u hT hE hP) _ _ _ _ _ _ _ _).m (fun a ha => by omega)))
theorem mv_pre (hT : TXT ch n) (hE : MOE ch E) (hP : MOP ch P) : MOP ch (sPre ch P E) := by
  intro a b o sc q c
  unfold sPre
  have hen : HH True (fun q1 => pl ch q ≤ pl ch q1) (sEnter ch (ty ch q) o q) := by
    by_cases h : ty ch q = 257
    · refine HH.f (fun _ => HH.f (fun _ => HH.t ?_) (fun _ => HH.z)) (fun _ => HH.z)
      unfold nx
      rw [if_pos ((ty_end hT).mp h), pl_pl hT]
      exact Nat.le_refl _
    · exact (mv_en hT h).m (fun q1 h1 => by omega)
  exact HH.j (hen.m (fun q1 h1 => HH.j ((mv_u hT hE hP).m (fun r hr => HH.t (show pl ch q + 1 ≤ pl ch r.1 by omega)))))
end RECM
theorem mv_ep (hT : TXT ch n) : ∀ m, MOP ch (sEP ch m).1 ∧ MOE ch (sEP ch m).2 := by
  intro m
  induction m with
  | zero => exact ⟨fun _ _ _ _ _ _ => HH.z, fun _ _ _ _ => HH.z⟩
  | succ m ih => exact ⟨mv_pre hT ih.2 ih.1, mv_e1 hT ih.2 ih.1⟩
end MONO
