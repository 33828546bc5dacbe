/-! the reference's kinds against the text's -/
def XSC : List Nat := [1, 5, 6, 7, 8, 9, 19, 20, 21, 22, 47, 400, 6000]
section RKIND
variable {ch : Tx} {n q : Nat} {X Y Z X0 : St} {o : Int} {sc : List Nm} {j N s : Nat}
theorem XS.fq {L : List Nat} (h : XS ch n X q o sc j N) (g : fq L X Y) (hL : ∀ c ∈ XSC, c ∉ L) (hK : KJq Y) : XS ch n Y q o sc j N := by
  have i0 : ∀ k, k ∈ XSC → Y.1 0 k = X.1 0 k := fun k hk => g.1 0 k (hL k hk)
  have l0 : Y.2.1 0 47 = X.2.1 0 47 := g.2.1 0 47 (hL 47 (by decide))
  have r2 : ∀ k, Y.1 2 k = X.1 2 k := fun k => g.1 2 k (hL 400 (by decide))
  have r30 : ∀ k, Y.2.1 30 k = X.2.1 30 k := fun k => g.2.1 30 k (hL 6000 (by decide))
  obtain ⟨⟨⟨a, b, d⟩, ⟨t5, t6, t⟩, f, w⟩, x21, ⟨x20, hs⟩, ⟨x22, _⟩, x19⟩ := h
  refine ⟨⟨⟨a, by rw [i0 1 (by decide)]; exact b, fun i hi => by rw [r2]; exact d i hi⟩, ⟨by rw [i0 5 (by decide)]; exact t5, by rw [i0 6 (by decide)]; exact t6, ?_⟩, f, by rw [i0 9 (by decide)]; exact w⟩, by rw [i0 21 (by decide)]; exact x21, ⟨by rw [i0 20 (by decide)]; exact x20, SCR.up (m := sc.length) (fun k _ => r30 k) sc (Nat.le_refl _) hs⟩, ⟨by rw [i0 22 (by decide)]; exact x22, hK⟩, by rw [i0 19 (by decide)]; exact x19⟩
  rw [i0 7 (by decide), i0 8 (by decide), l0]
  exact t
/-- another cell of the object itself -/
theorem XS.wz (h : XS ch n X q o sc j N) {k : Nat} {v : Int32} (g : k ∉ XSC ∧ ¬ k = 13 ∧ ¬ k = 15) : XS ch n (_root_.Jvm.Pilot.CBlameCourtLaw_law_r8381_f30dd1.wI X 0 k v) q o sc j N :=
  h.fq (L := [k]) ⟨fun e i hi => wI_ne _ _ _ _ _ _ (fun q => hi (by rw [q.1, q.2]; exact List.mem_singleton.mpr rfl)), fun _ _ _ => rfl, rfl⟩ (fun c hc hk => g.1 (by rw [← List.mem_singleton.mp hk]; exact hc)) (h.2.2.2.1.2.cg (fun e i q => wI_ne _ _ _ _ _ _ (by omega)))
theorem TNq.c (h : TNq X Y) (k : Nat) (hk : ¬ (k = 5 ∨ k = 6 ∨ k = 7 ∨ k = 8 ∨ k = 21)) : Y.1 0 k = X.1 0 k := h.1 0 k (fun g => hk g.2)
theorem TNq.r (h : TNq X Y) (e k : Nat) (he : ¬ e = 0) : Y.1 e k = X.1 e k := h.1 e k (fun g => he g.1)
theorem x_plain (h : XS ch n X q o sc j N) : pw (f_plainKind X) (fun r Y => ((272 ≤ ty ch q ∧ ty ch q ≤ 274) ∧ r.toInt = ty ch q - 272 ∧ XS ch n Y (nx ch q) o sc j N ∧ TNq X Y) ∨ (¬ (272 ≤ ty ch q ∧ ty ch q ≤ 274) ∧ wrX Y)) := by
  have yes : ∀ (b : Int32), b.toInt = ty ch q - 272 → (272 ≤ ty ch q ∧ ty ch q ≤ 274) → pw (f_plainKind_40 b X) (fun r Y => ((272 ≤ ty ch q ∧ ty ch q ≤ 274) ∧ r.toInt = ty ch q - 272 ∧ XS ch n Y (nx ch q) o sc j N ∧ TNq X Y) ∨ (¬ (272 ≤ ty ch q ∧ ty ch q ≤ 274) ∧ wrX Y)) := by
    intro b hb ht
    unfold f_plainKind_40
    refine pw_pos (by omega) ?_
    exact pw_bd (x_next h) (fun _ Y g => pw_ret (Or.inl ⟨ht, hb, g⟩))
  have l11 : (11 : Int32).toInt = 11 := by decide
  have l12 : (12 : Int32).toInt = 12 := by decide
  have l13 : (13 : Int32).toInt = 13 := by decide
  unfold f_plainKind
  refine pw_bd (q_isWord h.1 (by decide)) ?_
  rintro x1 X2 ⟨rfl, h1⟩
  rw [l11] at h1
  refine pw_ite (fun c1 => ?_) (fun c1 => yes 0 (by rw [show (0 : Int32).toInt = 0 from rfl]; omega) (by omega))
  refine pw_bd (q_isWord h.1 (by decide)) ?_
  rintro x3 X4 ⟨rfl, h3⟩
  rw [l12] at h3
  refine pw_ite (fun c3 => ?_) (fun c3 => yes 1 (by rw [show (1 : Int32).toInt = 1 from rfl]; omega) (by omega))
  refine pw_bd (q_isWord h.1 (by decide)) ?_
  rintro x5 X6 ⟨rfl, h5⟩
  rw [l13] at h5
  refine pw_ite (fun c5 => ?_) (fun c5 => yes 2 (by rw [show (2 : Int32).toInt = 2 from rfl]; omega) (by omega))
  unfold f_plainKind_40
  refine pw_neg (by decide) ?_
  exact pw_bd (q_stray _) (fun _ Y d => pw_ret (Or.inr ⟨by omega, d⟩))
/-- a fifth kind -/
theorem x_fifth (h : XS ch n X q o sc j N) (p1 : Int32) : pw (f_fifth p1 X) (fun _ Y => (Y = X ∧ ¬ (p1.toInt = 4 ∧ bgK (ty ch q) = true)) ∨ ((p1.toInt = 4 ∧ bgK (ty ch q) = true) ∧ wrX Y)) := by
  have bk : bgK (ty ch q) = true ↔ (ty ch q = 91 ∨ (272 ≤ ty ch q ∧ ty ch q ≤ 275)) := by unfold bgK; exact decide_eq_true_iff
  have l4 : (4 : Int32).toInt = 4 := by decide
  have c50 : ∀ b : Int32, (b.toInt = 0 ↔ ¬ bgK (ty ch q) = true) → pw (f_fifth_50 p1 b X) (fun _ Y => (Y = X ∧ ¬ (p1.toInt = 4 ∧ bgK (ty ch q) = true)) ∨ ((p1.toInt = 4 ∧ bgK (ty ch q) = true) ∧ wrX Y)) := by
    intro b hb
    unfold f_fifth_50
    refine pw_ite (fun c => ?_) (fun c => pw_ret (Or.inl ⟨rfl, fun g => c g.1⟩))
    refine pw_ite (fun c1 => pw_ret (Or.inl ⟨rfl, fun g => hb.mp c1 g.2⟩)) (fun c1 => ?_)
    · refine pw_let ?_
      exact pw_bd (q_fails X (by decide)) (fun _ Y d => pw_ret (Or.inr ⟨⟨c, Classical.byContradiction (fun z => c1 (hb.mpr z))⟩, d⟩))
  have l91 : (91 : Int32).toInt = 91 := by decide
  have l11 : (11 : Int32).toInt = 11 := by decide
  have l12 : (12 : Int32).toInt = 12 := by decide
  have l13 : (13 : Int32).toInt = 13 := by decide
  have l14 : (14 : Int32).toInt = 14 := by decide
  have c45 : bgK (ty ch q) = true → pw (f_fifth_45 p1 X) (fun _ Y => (Y = X ∧ ¬ (p1.toInt = 4 ∧ bgK (ty ch q) = true)) ∨ ((p1.toInt = 4 ∧ bgK (ty ch q) = true) ∧ wrX Y)) := fun g => c50 1 ⟨fun z => absurd z (by decide), fun z => absurd g z⟩
  unfold f_fifth
  refine pw_bd (q_isSign h.1 (by decide)) ?_
  rintro x1 X2 ⟨rfl, h1⟩
  rw [l91] at h1
  refine pw_ite (fun c1 => ?_) (fun c1 => c45 (bk.mpr (by omega)))
  refine pw_bd (q_isWord h.1 (by decide)) ?_
  rintro x5 X6 ⟨rfl, h5⟩
  rw [l14] at h5
  refine pw_ite (fun c5 => ?_) (fun c5 => c45 (bk.mpr (by omega)))
  refine pw_bd (q_isWord h.1 (by decide)) ?_
  rintro x7 X8 ⟨rfl, h7⟩
  rw [l11] at h7
  refine pw_ite (fun c7 => ?_) (fun c7 => c45 (bk.mpr (by omega)))
  refine pw_bd (q_isWord h.1 (by decide)) ?_
  rintro x9 X10 ⟨rfl, h9⟩
  rw [l12] at h9
  refine pw_ite (fun c9 => ?_) (fun c9 => c45 (bk.mpr (by omega)))
  refine pw_bd (q_isWord h.1 (by decide)) ?_
  rintro x11 X12 ⟨rfl, h11⟩
  rw [l13] at h11
  refine pw_ite (fun c11 => ?_) (fun c11 => c45 (bk.mpr (by omega)))
  refine c50 0 ⟨fun _ g => ?_, fun _ => rfl⟩
  have g := bk.mp g
  omega
def prK (a1 a2 a3 : Int32) (Y : St) (Q : Int32 → St → Prop) : Prop := ∀ M, pw (f_kind_11 M a1 a2 a3 Y) Q
theorem prK_st {a1 a2 a3 : Int32} {Q : Int32 → St → Prop} (h : ∀ M, pw (f_kind_11_s (f_kind_11 M) a1 a2 a3 Y) Q) : prK a1 a2 a3 Y Q := by
  intro M
  cases M with
  | zero => exact pw_none
  | succ M => exact h M
theorem prK_dd {a1 a2 a3 : Int32} {Q : Int32 → St → Prop} (h : wrX Y) (hQ : ∀ r Z, wrX Z → Q r Z) : prK a1 a2 a3 Y Q := fun M => pw_mono (uw_kind_11 M a1 a2 a3 Y h) hQ
end RKIND
