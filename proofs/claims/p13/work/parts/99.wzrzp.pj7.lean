/-! both sides hold the same program -/
/-- the codes of a program's rows -/
def PN (f : Nat) : List Nat := (List.range 21).map (fun k => f * 200 + k) ++ ((List.range 21).map (fun k => (f + 1) * 200 + k) ++ (List.range 20).map (fun k => (f + 2 + k) * 200))
/-- a call that leaves both programs -/
def C7 (X Y : St) : Prop := Y.1 0 3 = X.1 0 3 ∧ (Y.2.2 0 9 = X.2.2 0 9 ∧ Y.2.2 0 2 = X.2.2 0 2) ∧ PGS 2 X Y ∧ PGS 24 X Y
/-- the program that both hold -/
def PJ2 (e f : Nat) (XC XR : St) : Prop := (XC.2.2 0 9 = e + 1 ∧ XC.2.2 0 2 = f + 1) ∧ (TOK (e + 1) XC ∧ TOK (f + 1) XC) ∧ (((XC.1 0 3).toInt = 0 ∧ (XR.1 0 3).toInt = 0) ∨ (¬ (XC.1 0 3).toInt = 0 ∧ ¬ (XR.1 0 3).toInt = 0 ∧ ∃ (ch : Tx) (n : Nat) (ps : List Pt) (c : List Ins) (told : Nat → Bool), PG7 ch n ps c told XR ∧ CP7 e ch ps told c XC ∧ (PWd ps ∧ ∀ a ∈ c, a.1 = 34 → WKd 40 a.2.2.2) ∧ ps.length ≤ 40))
def PJo (XC XR : St) : Prop := ∃ e f, ((e = 2 ∧ f = 24) ∨ (e = 24 ∧ f = 2)) ∧ PJ2 e f XC XR
section PJ7S
variable {e f n : Nat} {ch : Tx} {ps : List Pt} {c : List Ins} {told : Nat → Bool} {X Y X1 XC XR : St} {L : List Nat} {r r1 p1 p2 : Int32}
theorem PGS.rf : PGS f X X := ⟨fun _ _ _ _ => rfl, fun _ => rfl⟩
theorem PGS.of (hf : f = 2 ∨ f = 24) (hF : Fr YC L X Y) (hl : ∀ x ∈ PN f, x ∉ L) : PGS f X Y := by
  have hY : ∀ i, i < 22 → ((eY YC (f + i)).1 = 0 ↔ i ≤ 1) := by
    rcases hf with h | h <;> rw [h] <;> decide +kernel
  have hm : ∀ j k, f ≤ j ∧ j ≤ f + 21 → (j ≤ f + 1 → k ≤ 20) → cod YC j k ∈ PN f := by
    rintro j k ⟨h1, h2⟩ h3
    obtain ⟨i, rfl⟩ : ∃ i, j = f + i := ⟨j - f, by omega⟩
    have hy := hY i (by omega)
    unfold cod PN
    by_cases z : i ≤ 1
    · rw [if_pos (hy.mpr z)]
      have h4 := h3 (by omega)
      rcases (show i = 0 ∨ i = 1 from by omega) with q | q
      · rw [q]
        exact List.mem_append_left _ (List.mem_map.mpr ⟨k, List.mem_range.mpr (by omega), rfl⟩)
      · rw [q]
        exact List.mem_append_right _ (List.mem_append_left _ (List.mem_map.mpr ⟨k, List.mem_range.mpr (by omega), rfl⟩))
    · rw [if_neg (fun q => z (hy.mp q))]
      exact List.mem_append_right _ (List.mem_append_right _ (List.mem_map.mpr ⟨i - 2, List.mem_range.mpr (by omega), by rw [show f + 2 + (i - 2) = f + i from by omega]⟩))
  exact ⟨fun j k h1 h2 => hF.1 j k (hl _ (hm j k h1 h2)), fun k => hF.2.1 (f + 10) k (hl _ (hm (f + 10) k ⟨by omega, by omega⟩ (fun z => by omega)))⟩
theorem C7.rf : C7 X X := ⟨rfl, ⟨rfl, rfl⟩, PGS.rf, PGS.rf⟩
theorem C7.of (hF : Fr YC L X Y) (hl : ∀ x ∈ (3 : Nat) :: 9 :: 2 :: (PN 2 ++ PN 24), x ∉ L) : C7 X Y :=
  ⟨hF.1 0 3 (show (3 : Nat) ∉ L from hl _ (List.mem_cons_self ..)), ⟨hF.2.2 0 9 (show (9 : Nat) ∉ L from hl _ (List.mem_cons_of_mem _ (List.mem_cons_self ..))), hF.2.2 0 2 (show (2 : Nat) ∉ L from hl _ (List.mem_cons_of_mem _ (List.mem_cons_of_mem _ (List.mem_cons_self ..))))⟩, PGS.of (Or.inl rfl) hF (fun x hx => hl x (List.mem_cons_of_mem _ (List.mem_cons_of_mem _ (List.mem_cons_of_mem _ (List.mem_append_left _ hx))))), PGS.of (Or.inr rfl) hF (fun x hx => hl x (List.mem_cons_of_mem _ (List.mem_cons_of_mem _ (List.mem_cons_of_mem _ (List.mem_append_right _ hx)))))⟩
theorem C7.pgs (h : C7 X Y) (hf : f = 2 ∨ f = 24) : PGS f X Y := by
  rcases hf with g | g
  · rw [g]; exact h.2.2.1
  · rw [g]; exact h.2.2.2
theorem TOK.pgs (h : TOK (f + 1) X) (g : PGS f X Y) : TOK (f + 1) Y := by
  obtain ⟨ks, h1, h2⟩ := h
  exact ⟨ks, h1.cg (fun j k q1 q2 q3 => g.1 j k ⟨by omega, by omega⟩ (fun z => by have := q3 (by omega); omega)), h2⟩
theorem TOK.rows {o : Nat} (h : TOK o X) (g : ∀ j k, o ≤ j ∧ j ≤ o + 7 → Y.1 j k = X.1 j k) : TOK o Y := by
  obtain ⟨ks, h1, h2⟩ := h
  exact ⟨ks, h1.cg (fun j k q1 q2 _ => g j k ⟨q1, q2⟩), h2⟩
theorem PJ2.kp (he : (e = 2 ∧ f = 24) ∨ (e = 24 ∧ f = 2)) (h : PJ2 e f XC XR) (g : C7 XC X) (r : R7k XR X1) : PJ2 e f X X1 := by
  obtain ⟨⟨a1, a2⟩, ⟨b1, b2⟩, d⟩ := h
  have ge : PGS e XC X := g.pgs (he.elim (fun z => Or.inl z.1) (fun z => Or.inr z.1))
  have gf : PGS f XC X := g.pgs (he.elim (fun z => Or.inr z.2) (fun z => Or.inl z.2))
  refine ⟨⟨by rw [g.2.1.1]; exact a1, by rw [g.2.1.2]; exact a2⟩, ⟨b1.pgs ge, b2.pgs gf⟩, ?_⟩
  rw [g.1, r.1.1 0 3 (by omega)]
  rcases d with d | ⟨d1, d2, ch, n, ps, c, told, d3, d4, d5⟩
  · exact Or.inl d
  · exact Or.inr ⟨d1, d2, ch, n, ps, c, told, d3.kp r, d4.fr ge.1, d5⟩
theorem PJo.kp (h : PJo XC XR) (g : C7 XC X) (r : R7k XR X1) : PJo X X1 := by
  obtain ⟨e, f, he, h⟩ := h
  exact ⟨e, f, he, h.kp he g r⟩
/-- a part of the class's program -/
def iP (e : Nat) (p1 : Int32) (X : St) : Prop := ¬ (X.1 0 3).toInt = 0 ∧ 0 ≤ p1.toInt ∧ p1.toInt < (X.1 e 1).toInt
theorem l_tell7 (he : e = 2 ∨ e = 24) (r9 : X.2.2 0 9 = e + 1) : pw (g_Court_tell p1 p2 X) (fun _ Y => (¬ iP e p1 X ∧ Y = X) ∨ (iP e p1 X ∧ Y = wI (wI X (e + 16) (ix p1) (vp_nar .boolean p2)) 0 4 0)) := by
  have l0 : (0 : Int32).toInt = 0 := by decide
  have l1 : ¬ (1 : Int32).toInt = 0 := by decide
  have hk : kY YC e 3 - 3 = e + 16 := by
    rcases he with h | h <;> rw [h] <;> decide +kernel
  unfold g_Court_tell
  refine pw_bd (R := fun r Y => Y = X ∧ ((r = 1 ∧ iP e p1 X) ∨ (r = 0 ∧ ¬ iP e p1 X))) ?_ ?_
  · unfold g_Court_isPart
    refine pw_let (pw_ite (fun c => pw_ret ⟨rfl, Or.inr ⟨rfl, fun z => z.1 c⟩⟩) (fun c => pw_ite (fun c1 => pw_ret ⟨rfl, Or.inr ⟨rfl, fun z => absurd z.2.1 (by omega)⟩⟩) (fun c1 => ?_)))
    refine pw_ck (fun _ => pw_to (w := e) (by rw [r9]; rfl) (pw_let ?_))
    exact pw_ite (fun c2 => pw_ret ⟨rfl, Or.inr ⟨rfl, fun z => absurd z.2.2 (by omega)⟩⟩) (fun c2 => pw_ret ⟨rfl, Or.inl ⟨rfl, c, by omega, by omega⟩⟩)
  · rintro x1 X2 ⟨e2, h⟩
    rw [e2]
    refine pw_ite (fun c => ?_) (fun c => ?_)
    · rcases h with ⟨h, _⟩ | h
      · rw [h] at c
        exact absurd c l1
      · exact pw_ret (Or.inl ⟨h.2, rfl⟩)
    · rcases h with h | ⟨h, _⟩
      · refine pw_ck (fun _ => pw_to (w := e) (by rw [r9]; rfl) (pw_to hk (pw_ck (fun _ => pw_let (pw_let (pw_ret (Or.inr ⟨h.2, rfl⟩)))))))
      · rw [h] at c
        exact absurd l0 c
/-- a part of the reference's program -/
def iR (p1 : Int32) (X : St) : Prop := ¬ (X.1 0 3).toInt = 0 ∧ 0 ≤ p1.toInt ∧ p1.toInt < (X.1 0 18).toInt
theorem x_tell7 (hp : ¬ (X.1 0 3).toInt = 0 → 0 ≤ (X.1 0 18).toInt ∧ (X.1 0 18).toInt ≤ 100) : pw (f_tell p1 p2 X) (fun _ Y => (¬ iR p1 X ∧ Y = X) ∨ (iR p1 X ∧ Y = _root_.Jvm.Pilot.CBlameCourtLaw_law_r8381_f30dd1.wI (_root_.Jvm.Pilot.CBlameCourtLaw_law_r8381_f30dd1.wI X 19 (ix p1) (vp_nar .boolean p2)) 0 4 0)) := by
  have l1 : (1 : Int32).toInt = 1 := by decide
  have l0 : (0 : Int32).toInt = 0 := by decide
  unfold f_tell
  refine pw_let (pw_ite (fun c => pw_ret (Or.inl ⟨fun z => z.1 c, rfl⟩)) (fun c => ?_))
  have hp := hp c
  refine pw_let (pw_eq (fun x3 e3 => ?_))
  have v3 : x3.toInt = (X.1 0 18).toInt - 1 := by rw [e3, ti_sub (by rw [l1]; omega) (by rw [l1]; omega), l1]
  refine pw_bd (R := fun r Y => Y = X ∧ ((r.toInt = 1 ∧ iR p1 X) ∨ (r.toInt = 0 ∧ ¬ iR p1 X))) ?_ ?_
  · unfold f_in
    rw [l0]
    refine pw_ite (fun h1 => pw_ret ⟨rfl, Or.inr ⟨l0, fun z => absurd z.2.1 (by omega)⟩⟩) (fun h1 => ?_)
    exact pw_ite (fun h2 => pw_ret ⟨rfl, Or.inr ⟨l0, fun z => absurd z.2.2 (by omega)⟩⟩) (fun h2 => pw_ret ⟨rfl, Or.inl ⟨l1, c, by omega, by omega⟩⟩)
  · rintro x4 X5 ⟨e5, h⟩
    rw [e5]
    refine pw_ite (fun c4 => ?_) (fun c4 => ?_)
    · rcases h with h | h
      · omega
      · exact pw_ret (Or.inl ⟨h.2, rfl⟩)
    · rcases h with h | h
      · exact pw_ck (fun _ => pw_let (pw_let (pw_ret (Or.inr ⟨h.2, rfl⟩))))
      · omega
theorem PG7.prt (h : PG7 ch n ps c told X) : (X.1 0 18).toInt = (ps.length : Int) := by
  obtain ⟨_, _, _, _, ⟨N, hR⟩, _⟩ := h
  have := hR.2.1.1
  rw [tx7_ne (by omega)] at this
  exact this
theorem CP7.prt (h : CP7 e ch ps told c X) : (X.1 e 1).toInt = (ps.length : Int) := by
  obtain ⟨m, kt, ksP, _, h2, _⟩ := h
  exact h2.2.2.1
theorem PG7.tell {p : Nat} {v : Int32} {b : Bool} (h : PG7 ch n ps c told X) (hv : v.toInt = 0 ↔ ¬ b = true) : PG7 ch n ps c (fun k => if k = p then b else told k) (_root_.Jvm.Pilot.CBlameCourtLaw_law_r8381_f30dd1.wI (_root_.Jvm.Pilot.CBlameCourtLaw_law_r8381_f30dd1.wI X 19 p v) 0 4 0) := by
  have g : R7 X (_root_.Jvm.Pilot.CBlameCourtLaw_law_r8381_f30dd1.wI (_root_.Jvm.Pilot.CBlameCourtLaw_law_r8381_f30dd1.wI X 19 p v) 0 4 0) := (R7.rf.wr (Or.inr (Or.inl rfl))).wr (Or.inr (Or.inr ⟨rfl, by decide⟩))
  obtain ⟨a, b1, d, e1, ⟨N, f1⟩, i⟩ := h
  refine ⟨a, by rw [g.1 0 2 (by omega)]; exact b1, fun k hk => by rw [g.1 3 k (by omega)]; exact d k hk, e1, ⟨N, f1.fr g.tx7⟩, fun k hk => ?_⟩
  rw [wI_ne _ _ _ _ _ _ (by omega)]
  show _ ↔ ¬ (if k = p then b else told k) = true
  by_cases z : k = p
  · rw [if_pos z, z, wI_at]
    exact hv
  · rw [if_neg z, wI_ne _ _ _ _ _ _ (by omega)]
    exact i k hk
/-- both tell the same -/
theorem PJ2.tell (he : (e = 2 ∧ f = 24) ∨ (e = 24 ∧ f = 2)) (h : PJ2 e f XC XR) (hv : p2 = 0 ∨ p2 = 1) (a : (¬ iP e p1 XC ∧ X = XC) ∨ (iP e p1 XC ∧ X = wI (wI XC (e + 16) (ix p1) (vp_nar .boolean p2)) 0 4 0)) (b : (¬ iR p1 XR ∧ X1 = XR) ∨ (iR p1 XR ∧ X1 = _root_.Jvm.Pilot.CBlameCourtLaw_law_r8381_f30dd1.wI (_root_.Jvm.Pilot.CBlameCourtLaw_law_r8381_f30dd1.wI XR 19 (ix p1) (vp_nar .boolean p2)) 0 4 0)) : PJ2 e f X X1 := by
  have h0 := h
  obtain ⟨⟨a1, a2⟩, ⟨b1, b2⟩, d⟩ := h
  rcases d with ⟨d1, d2⟩ | ⟨d1, d2, ch, n, ps, c, told, d3, d4, d5⟩
  · rcases a with ⟨_, a⟩ | ⟨a, _⟩
    · rcases b with ⟨_, b⟩ | ⟨b, _⟩
      · rw [a, b]; exact h0
      · exact absurd d2 b.1
    · exact absurd d1 a.1
  · have q : iP e p1 XC ↔ iR p1 XR := by
      unfold iP iR
      rw [d3.prt, d4.prt]
      exact ⟨fun z => ⟨d2, z.2⟩, fun z => ⟨d1, z.2⟩⟩
    rcases a with ⟨z, a⟩ | ⟨z, a⟩
    · rcases b with ⟨_, b⟩ | ⟨b, _⟩
      · rw [a, b]; exact h0
      · exact absurd (q.mpr b) z
    · rcases b with ⟨b, _⟩ | ⟨_, b⟩
      · exact absurd (q.mp z) b
      · have hb : (vp_nar .boolean p2).toInt = 0 ↔ ¬ (decide (p2 = 1)) = true := by
          rcases hv with g | g <;> rw [g] <;> decide
        have w0 : ∀ j k, ¬ j = 0 → ¬ j = e + 16 → X.1 j k = XC.1 j k := fun j k z1 z2 => by rw [a, wI_ne _ _ _ _ _ _ (by omega), wI_ne _ _ _ _ _ _ (by omega)]
        refine ⟨⟨by rw [a]; exact a1, by rw [a]; exact a2⟩, ⟨b1.rows (fun j k z1 => w0 j k (by omega) (by omega)), b2.rows (fun j k z1 => w0 j k (by omega) (by omega))⟩, Or.inr ⟨?_, ?_, ch, n, ps, c, _, by rw [b]; exact d3.tell hb, ?_, d5⟩⟩
        · rw [a, wI_ne _ _ _ _ _ _ (by omega), wI_ne _ _ _ _ _ _ (by omega)]
          exact d1
        · rw [b, wI_ne _ _ _ _ _ _ (by omega), wI_ne _ _ _ _ _ _ (by omega)]
          exact d2
        · rw [a]
          exact (d4.tell hb).fr (fun j k z1 _ => wI_ne _ _ _ _ _ _ (by omega))
/-- where there is no program, nothing is judged -/
theorem l_judge0 (h3 : (X.1 0 3).toInt = 0) : pw (g_Court_judge X) (fun r Y => r = -1 ∧ C7 X Y) := by
  unfold g_Court_judge
  refine pw_eq (fun X1 e1 => pw_eq (fun X2 e2 => pw_eq (fun X3 e3 => pw_eq (fun x4 e4 => ?_))))
  have k3 : ∀ j k, ¬ (j = 0 ∧ (k = 4 ∨ k = 7 ∨ k = 8)) → X3.1 j k = X.1 j k := fun j k z => by rw [e3, wI_ne _ _ _ _ _ _ (by omega), e2, wI_ne _ _ _ _ _ _ (by omega), e1, wI_ne _ _ _ _ _ _ (by omega)]
  have s3 : X3.2 = X.2 := by rw [e3, e2, e1]; rfl
  refine pw_pos (by rw [e4, k3 0 3 (by omega)]; exact h3) (pw_ret ⟨rfl, k3 0 3 (by omega), by rw [s3]; exact ⟨rfl, rfl⟩, ⟨fun j k _ _ => k3 j k (by omega), fun k => by rw [s3]⟩, ⟨fun j k _ _ => k3 j k (by omega), fun k => by rw [s3]⟩⟩)
theorem x_judge0 (h3 : (X.1 0 3).toInt = 0) : pw (f_judge X) (fun r Y => r = -1 ∧ Y = X) := by
  unfold f_judge
  exact pw_let (pw_pos h3 (pw_ret ⟨rfl, rfl⟩))
/-- both read the same -/
theorem PJ2.read (he : (e = 2 ∧ f = 24) ∨ (e = 24 ∧ f = 2)) (h : PJ2 e f XC XR) (a : RC7 ch f e XC r X) (b : RDx ch n XR r1 X1) : PJo X X1 := by
  obtain ⟨⟨a1, a2⟩, ⟨b1, b2⟩, d⟩ := h
  obtain ⟨a3, t, g⟩ := a
  rcases a3 with ⟨ps, c, q1, q2, _, q3, q4, q5⟩ | ⟨q1, _, q3, q4⟩
  · refine ⟨f, e, he.elim (fun z => Or.inr ⟨z.2, z.1⟩) (fun z => Or.inl ⟨z.2, z.1⟩), q4, ⟨t, b1.pgs g⟩, Or.inr ⟨q3, ?_⟩⟩
    rcases b with ⟨ps1, c1, y1, y2, _, y3, y4⟩ | ⟨y1, _⟩
    · rw [q1] at y1
      have ee := Option.some.inj y1
      have ep : ps = ps1 := congrArg Prod.fst ee
      have ec : c = c1 := congrArg Prod.snd ee
      rw [← ep, ← ec] at y4
      have hl : ps.length ≤ 40 := q5.1.2.1
      obtain ⟨N, hR⟩ := y4.2.2.2.2.1
      obtain ⟨z1, z2⟩ := q5.cp hR.2.2.2.2.2.2.2.2
      exact ⟨y3, ch, n, ps, c, _, y4, z1, z2, hl⟩
    · exact absurd q2 (y1 ps c q1)
  · refine ⟨e, f, he, q4, ⟨b1.pgs g, t⟩, ?_⟩
    rcases b with ⟨ps1, c1, y1, y2, _⟩ | ⟨_, _, y3, y4⟩
    · exact absurd y2 (q1 ps1 c1 y1)
    · rw [q3, y3]
      rcases d with d | ⟨d1, d2, ch1, n1, ps, c, told, d3, d4, d5⟩
      · exact Or.inl d
      · exact Or.inr ⟨d1, d2, ch1, n1, ps, c, told, y4 ch1 n1 ps c told d2 d3, d4.fr g.1, d5⟩
end PJ7S
