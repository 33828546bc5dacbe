/-! both sides hold the same guards -/
/-- judged on both sides or on none; the guards -/
def J8 (e : Nat) (ch : Tx) (ps : List Pt) (c : List Ins) (told : Nat → Bool) (XC XR : St) : Prop := ((XC.1 0 4).toInt = 0 ∧ (XR.1 0 4).toInt = 0) ∨ (¬ (XC.1 0 4).toInt = 0 ∧ ¬ (XR.1 0 4).toInt = 0 ∧ ∃ G : List JG × List Bool, JALL ch ps told c ps.length 0 ([], []) (Sum.inl G) ∧ G8C e XC G.1 ∧ G8R XR G.1)
/-- the program, and the guards -/
def PJ8 (e f : Nat) (XC XR : St) : Prop := (XC.2.2 0 9 = e + 1 ∧ XC.2.2 0 2 = f + 1) ∧ (TOK (e + 1) XC ∧ TOK (f + 1) XC) ∧ (((XC.1 0 3).toInt = 0 ∧ (XR.1 0 3).toInt = 0 ∧ (XC.1 0 4).toInt = 0 ∧ (XR.1 0 4).toInt = 0 ∧ (XR.1 0 18).toInt = 0) ∨ (¬ (XC.1 0 3).toInt = 0 ∧ ¬ (XR.1 0 3).toInt = 0 ∧ ∃ (ch : Tx) (n : Nat) (ps : List Pt) (c : List Ins) (told : Nat → Bool), PG7 ch n ps c told XR ∧ CP7 e ch ps told c XC ∧ (PWd ps ∧ ∀ a ∈ c, a.1 = 34 → WKd 40 a.2.2.2) ∧ ps.length ≤ 40 ∧ KVa True XR ∧ J8 e ch ps c told XC XR))
def PJo8 (XC XR : St) : Prop := ∃ e f, ((e = 2 ∧ f = 24) ∨ (e = 24 ∧ f = 2)) ∧ PJ8 e f XC XR
section PJ8S
variable {e f n : Nat} {ch : Tx} {ps : List Pt} {c : List Ins} {told : Nat → Bool} {X Y X1 XC XR : St} {L : List Nat} {r r1 p1 p2 : Int32}
theorem C8.of (hF : Fr YC L X Y) (hl : ∀ x ∈ ([4, 11005, 11200, 11400, 11600, 11800, 12000, 12400] : List Nat), x ∉ L) : C8 X Y := by
  refine ⟨hF.1 0 4 (show (4 : Nat) ∉ L from hl _ (by decide)), hF.1 55 5 (show (11005 : Nat) ∉ L from hl _ (by decide)), fun i k q => ?_⟩
  rcases (show i = 56 ∨ i = 57 ∨ i = 58 ∨ i = 59 ∨ i = 60 ∨ i = 62 from by omega) with z | z | z | z | z | z
  · rw [z]; exact hF.1 56 k (show (11200 : Nat) ∉ L from hl _ (by decide))
  · rw [z]; exact hF.1 57 k (show (11400 : Nat) ∉ L from hl _ (by decide))
  · rw [z]; exact hF.1 58 k (show (11600 : Nat) ∉ L from hl _ (by decide))
  · rw [z]; exact hF.1 59 k (show (11800 : Nat) ∉ L from hl _ (by decide))
  · rw [z]; exact hF.1 60 k (show (12000 : Nat) ∉ L from hl _ (by decide))
  · rw [z]; exact hF.1 62 k (show (12400 : Nat) ∉ L from hl _ (by decide))
theorem PJ8.kp (he : (e = 2 ∧ f = 24) ∨ (e = 24 ∧ f = 2)) (h : PJ8 e f XC XR) (g : C7 XC X ∧ C8 XC X) (r : R7k XR X1 ∧ R8k XR X1) (v : KVa True XR → KVa True X1) : PJ8 e f X X1 := by
  obtain ⟨g, g8⟩ := g
  obtain ⟨r, r8⟩ := r
  obtain ⟨⟨a1, a2⟩, ⟨b1, b2⟩, d⟩ := h
  have ge : PGS e XC X := g.pgs (he.elim (fun z => Or.inl z.1) (fun z => Or.inr z.1))
  have gf : PGS f XC X := g.pgs (he.elim (fun z => Or.inr z.2) (fun z => Or.inl z.2))
  refine ⟨⟨by rw [g.2.1.1]; exact a1, by rw [g.2.1.2]; exact a2⟩, ⟨b1.pgs ge, b2.pgs gf⟩, ?_⟩
  rw [g.1, r.1.1 0 3 (by omega), g8.1, r8.1, r.1.1 0 18 (by omega)]
  rcases d with d | ⟨d1, d2, ch, n, ps, c, told, d3, d4, d5, d6, d7, d8⟩
  · exact Or.inl d
  · refine Or.inr ⟨d1, d2, ch, n, ps, c, told, d3.kp r, d4.fr ge.1, d5, d6, v d7, ?_⟩
    unfold J8
    rw [g8.1, r8.1]
    rcases d8 with d8 | ⟨z1, z2, G, z3, z4, z5⟩
    · exact Or.inl d8
    · exact Or.inr ⟨z1, z2, G, z3, z4.kp g8 ge, z5.kp d7 r8⟩
theorem PJo8.kp (h : PJo8 XC XR) (g : C7 XC X ∧ C8 XC X) (r : R7k XR X1 ∧ R8k XR X1) (v : KVa True XR → KVa True X1) : PJo8 X X1 := by
  obtain ⟨e, f, he, h⟩ := h
  exact ⟨e, f, he, h.kp he g r v⟩
/-- both tell the same -/
theorem PJ8.tell (he : (e = 2 ∧ f = 24) ∨ (e = 24 ∧ f = 2)) (h : PJ8 e f XC XR) (hv : p2 = 0 ∨ p2 = 1) (a : (¬ iP e p1 XC ∧ X = XC) ∨ (iP e p1 XC ∧ X = wI (wI XC (e + 16) (ix p1) (vp_nar .boolean p2)) 0 4 0)) (b : (¬ iR p1 XR ∧ X1 = XR) ∨ (iR p1 XR ∧ X1 = _root_.Jvm.Pilot.CBlameCourtLaw_law_r8381_f30dd1.wI (_root_.Jvm.Pilot.CBlameCourtLaw_law_r8381_f30dd1.wI XR 19 (ix p1) (vp_nar .boolean p2)) 0 4 0)) : PJ8 e f X X1 := by
  have h0 := h
  obtain ⟨⟨a1, a2⟩, ⟨b1, b2⟩, d⟩ := h
  rcases d with ⟨d1, d2, d0⟩ | ⟨d1, d2, ch, n, ps, c, told, d3, d4, d5, d6, d7, d8⟩
  · rcases a with ⟨_, a⟩ | ⟨a, _⟩
    · rcases b with ⟨_, b⟩ | ⟨b, _⟩
      · rw [a, b]; exact h0
      · exact absurd d2 b.1
    · exact absurd d1 a.1
  · have q : iP e p1 XC ↔ iR p1 XR := by
      unfold iP iR
      rw [d3.prt, d4.prt]
      exact ⟨fun z => ⟨d2, z.2⟩, fun z => ⟨d1, z.2⟩⟩
    rcases a with ⟨z, a⟩ | ⟨z, a⟩
    · rcases b with ⟨_, b⟩ | ⟨b, _⟩
      · rw [a, b]; exact h0
      · exact absurd (q.mpr b) z
    · rcases b with ⟨b, _⟩ | ⟨_, b⟩
      · exact absurd (q.mp z) b
      · have hb : (vp_nar .boolean p2).toInt = 0 ↔ ¬ (decide (p2 = 1)) = true := by
          rcases hv with g | g <;> rw [g] <;> decide
        have w0 : ∀ j k, ¬ j = 0 → ¬ j = e + 16 → X.1 j k = XC.1 j k := fun j k z1 z2 => by rw [a, wI_ne _ _ _ _ _ _ (by omega), wI_ne _ _ _ _ _ _ (by omega)]
        refine ⟨⟨by rw [a]; exact a1, by rw [a]; exact a2⟩, ⟨b1.rows (fun j k z1 => w0 j k (by omega) (by omega)), b2.rows (fun j k z1 => w0 j k (by omega) (by omega))⟩, Or.inr ⟨?_, ?_, ch, n, ps, c, _, by rw [b]; exact d3.tell hb, ?_, d5, d6, ?_, Or.inl ⟨?_, ?_⟩⟩⟩
        · rw [a, wI_ne _ _ _ _ _ _ (by omega), wI_ne _ _ _ _ _ _ (by omega)]
          exact d1
        · rw [b, wI_ne _ _ _ _ _ _ (by omega), wI_ne _ _ _ _ _ _ (by omega)]
          exact d2
        · rw [a]
          exact (d4.tell hb).fr (fun j k z1 _ => wI_ne _ _ _ _ _ _ (by omega))
        · rw [b]
          exact KVa_w (KVa_w d7 (by omega)) (by omega)
        · rw [a, wI_at]; decide
        · rw [b, wI_at]; decide
/-- both read the same -/
theorem PJ8.read (he : (e = 2 ∧ f = 24) ∨ (e = 24 ∧ f = 2)) (a1 : XC.2.2 0 9 = e + 1) (a2 : XC.2.2 0 2 = f + 1) (b1 : TOK (e + 1) XC) (d : ((XC.1 0 3).toInt = 0 ∧ (XR.1 0 3).toInt = 0 ∧ (XC.1 0 4).toInt = 0 ∧ (XR.1 0 4).toInt = 0 ∧ (XR.1 0 18).toInt = 0) ∨ (¬ (XC.1 0 3).toInt = 0 ∧ ¬ (XR.1 0 3).toInt = 0 ∧ ∃ n0, PG7 ch n0 ps c told XR ∧ CP7 e ch ps told c XC ∧ (PWd ps ∧ ∀ a ∈ c, a.1 = 34 → WKd 40 a.2.2.2) ∧ ps.length ≤ 40 ∧ KVa True XR ∧ J8 e ch ps c told XC XR)) {ch0 : Tx} (a : RC7 ch0 f e XC r X) (b : RDx ch0 n XR r1 X1) (a8 : ((X.1 0 4).toInt = 0 ∧ X.2.2 0 9 = f + 1) ∨ (C8 XC X ∧ X.2.2 0 9 = XC.2.2 0 9)) (b8 : RD8 ch ps c told XR r1 X1) (hM : (X1.1 0 3).toInt = 0 → (X1.1 0 4).toInt = 0) : PJo8 X X1 := by
  obtain ⟨a3, t, g⟩ := a
  rcases a3 with ⟨ps2, c2, q1, q2, _, q3, q4, q5⟩ | ⟨q1, _, q3, q4⟩
  · have z4 : (X.1 0 4).toInt = 0 := by
      rcases a8 with z | z
      · exact z.1
      · have := q4.1
        have := z.2
        omega
    refine ⟨f, e, he.elim (fun z => Or.inr ⟨z.2, z.1⟩) (fun z => Or.inl ⟨z.2, z.1⟩), q4, ⟨t, b1.pgs g⟩, Or.inr ⟨q3, ?_⟩⟩
    rcases b with ⟨ps1, c1, y1, y2, yl, y3, y4⟩ | ⟨y1, _⟩
    · rw [q1] at y1
      have ee := Option.some.inj y1
      have ep : ps2 = ps1 := congrArg Prod.fst ee
      have ec : c2 = c1 := congrArg Prod.snd ee
      rw [← ep, ← ec] at y4
      have hl : ps2.length ≤ 40 := q5.1.2.1
      obtain ⟨N, hR⟩ := y4.2.2.2.2.1
      obtain ⟨z1, z2⟩ := q5.cp hR.2.2.2.2.2.2.2.2
      rcases b8 with ⟨_, v1, v2⟩ | ⟨v0, _⟩
      · exact ⟨y3, ch0, n, ps2, c2, _, y4, z1, z2, hl, v1, Or.inl ⟨z4, v2⟩⟩
      · rw [v0] at yl
        exact absurd yl (by omega)
    · exact absurd q2 (y1 ps2 c2 q1)
  · have z8 : C8 XC X := by
      rcases a8 with z | z
      · have := q4.1
        have := z.2
        omega
      · exact z.1
    refine ⟨e, f, he, q4, ⟨b1.pgs g, t⟩, ?_⟩
    rcases b with ⟨ps1, c1, y1, y2, _⟩ | ⟨_, ym, y3, y4⟩
    · exact absurd y2 (q1 ps1 c1 y1)
    · rcases b8 with ⟨v0, _⟩ | ⟨_, b18, b8⟩
      · exact absurd ym v0
      · rw [q3, y3]
        rw [y3] at hM
        rcases d with ⟨d1, d2, d3, _⟩ | ⟨d1, d2, n0, d3, d4, d5, d6, d7, d8⟩
        · exact Or.inl ⟨d1, d2, by rw [z8.1]; exact d3, hM d2, b18 d2⟩
        · obtain ⟨v1, v2, v3⟩ := b8 d2
          refine Or.inr ⟨d1, d2, ch, n0, ps, c, told, y4 ch n0 ps c told d2 d3, d4.fr g.1, d5, d6, v1, ?_⟩
          rcases d8 with ⟨z1, z2⟩ | ⟨z1, z2, G, z3, z5, z6⟩
          · exact Or.inl ⟨by rw [z8.1]; exact z1, v2 z2⟩
          · obtain ⟨rr, w1, w2⟩ := v3 z2
            have ew := JALL.det _ _ _ _ _ w1 z3
            rw [ew] at w2
            rcases w2 with ⟨G1, x1, x2, x3⟩ | ⟨ff, x1, _⟩
            · have eG : G = G1 := Sum.inl.inj x1
              rw [← eG] at x3
              exact Or.inr ⟨by rw [z8.1]; exact z1, x2, G, z3, z5.kp z8 g, x3⟩
            · exact absurd x1 (by simp)
/-- both judge the same -/
theorem J8.of {rr rr1 : Sum (List JG × List Bool) (Int × Int)} (h1 : JALL ch ps told c ps.length 0 ([], []) rr) (h2 : J8C e X rr) (h3 : JALL ch ps told c ps.length 0 ([], []) rr1) (h4 : J8R X1 rr1) : J8 e ch ps c told X X1 := by
  have ew := JALL.det _ _ _ _ _ h3 h1
  rw [ew] at h4
  rcases h2 with ⟨G, x1, x2, x3⟩ | ⟨ff, x1, x2⟩
  · rcases h4 with ⟨G1, y1, y2, y3⟩ | ⟨ff, y1, _⟩
    · rw [x1] at y1
      have eG : G = G1 := Sum.inl.inj y1
      rw [← eG] at y3
      rw [x1] at h1
      exact Or.inr ⟨x2, y2, G, h1, x3, y3⟩
    · rw [x1] at y1
      exact absurd y1 (by simp)
  · rcases h4 with ⟨G1, y1, _⟩ | ⟨ff, y1, y2⟩
    · rw [x1] at y1
      exact absurd y1 (by simp)
    · exact Or.inl ⟨x2, y2⟩
/-- both tell the same of a guard -/
theorem J8.guard (he : e = 2 ∨ e = 24) (r9 : XC.2.2 0 9 = e + 1) (h : J8 e ch ps c told XC XR) (hT : KT XR) (hV : KVa True XR) (hb : (XR.1 0 28).toInt ≤ 12000) : ∃ Q : Int32 → Prop, pw (g_Court_guard p1 p2 XC) (fun r _ => Q r) ∧ pw (f_guard p1 p2 XR) (fun r _ => Q r) ∧ ∀ r r1, Q r → Q r1 → r = r1 := by
  rcases h with ⟨z1, z2⟩ | ⟨z1, z2, G, _, z4, z5⟩
  · exact ⟨fun r => r = -1, l_guard0 z1, x_guard0 z2, fun r r1 q1 q2 => q1.trans q2.symm⟩
  · exact ⟨fun r => gan G.1 p1 p2 r, l_guard8 he r9 z1 z4, x_guard8 z2 hT hV hb z5, fun r r1 q1 q2 => q1.one q2⟩
end PJ8S
