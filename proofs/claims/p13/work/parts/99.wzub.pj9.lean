/-! both sides hold the same guards, names and places -/
/-- judged on both sides or on none; the guards -/
def J9 (e : Nat) (ch : Tx) (ps : List Pt) (c : List Ins) (told : Nat → Bool) (XC XR : St) : Prop := PTS e XC ps ∧ (((XC.1 0 4).toInt = 0 ∧ (XR.1 0 4).toInt = 0) ∨ (¬ (XC.1 0 4).toInt = 0 ∧ ¬ (XR.1 0 4).toInt = 0 ∧ ∃ G : List JG × List Bool, JALL ch ps told c ps.length 0 ([], []) (Sum.inl G) ∧ G9C e XC G ∧ G9R XR G))
/-- the program, and the guards -/
def PJ9 (e f : Nat) (XC XR : St) : Prop := (XC.2.2 0 9 = e + 1 ∧ XC.2.2 0 2 = f + 1) ∧ (TOK (e + 1) XC ∧ TOK (f + 1) XC) ∧ (((XC.1 0 3).toInt = 0 ∧ (XR.1 0 3).toInt = 0 ∧ (XC.1 0 4).toInt = 0 ∧ (XR.1 0 4).toInt = 0 ∧ (XR.1 0 18).toInt = 0) ∨ (¬ (XC.1 0 3).toInt = 0 ∧ ¬ (XR.1 0 3).toInt = 0 ∧ ∃ (ch : Tx) (n : Nat) (ps : List Pt) (c : List Ins) (told : Nat → Bool), PG7 ch n ps c told XR ∧ CP7 e ch ps told c XC ∧ (PWd ps ∧ ∀ a ∈ c, a.1 = 34 → WKd 40 a.2.2.2) ∧ ps.length ≤ 40 ∧ KVa True XR ∧ J9 e ch ps c told XC XR))
def PJo9 (XC XR : St) : Prop := ∃ e f, ((e = 2 ∧ f = 24) ∨ (e = 24 ∧ f = 2)) ∧ PJ9 e f XC XR
section PJ9S
variable {e f n : Nat} {ch : Tx} {ps : List Pt} {c : List Ins} {told : Nat → Bool} {X Y X1 XC XR : St} {L : List Nat} {r r1 p1 p2 : Int32}
theorem PTS.pgs (h : PTS e X ps) (g : PGS e X Y) : PTS e Y ps := h.fr (fun j k hj _ => g.1 j k (by omega) (by omega)) (fun k _ => g.2 k)
theorem PJ9.kp (he : (e = 2 ∧ f = 24) ∨ (e = 24 ∧ f = 2)) (h : PJ9 e f XC XR) (g : C7 XC X ∧ C8 XC X) (r : R7k XR X1 ∧ R8k XR X1) (v : KVa True XR → KVa True X1) : PJ9 e f X X1 := by
  obtain ⟨g, g8⟩ := g
  obtain ⟨r, r8⟩ := r
  obtain ⟨⟨a1, a2⟩, ⟨b1, b2⟩, d⟩ := h
  have ge : PGS e XC X := g.pgs (he.elim (fun z => Or.inl z.1) (fun z => Or.inr z.1))
  have gf : PGS f XC X := g.pgs (he.elim (fun z => Or.inr z.2) (fun z => Or.inl z.2))
  refine ⟨⟨by rw [g.2.1.1]; exact a1, by rw [g.2.1.2]; exact a2⟩, ⟨b1.pgs ge, b2.pgs gf⟩, ?_⟩
  rw [g.1, r.1.1 0 3 (by omega), g8.1, r8.1, r.1.1 0 18 (by omega)]
  rcases d with d | ⟨d1, d2, ch, n, ps, c, told, d3, d4, d5, d6, d7, d8⟩
  · exact Or.inl d
  · refine Or.inr ⟨d1, d2, ch, n, ps, c, told, d3.kp r, d4.fr ge.1, d5, d6, v d7, ?_⟩
    refine ⟨d8.1.pgs ge, ?_⟩
    rw [g8.1, r8.1]
    rcases d8.2 with d8 | ⟨z1, z2, G, z3, z4, z5⟩
    · exact Or.inl d8
    · exact Or.inr ⟨z1, z2, G, z3, z4.kp g8 ge, z5.kp d7 r8⟩
theorem PJo9.kp (h : PJo9 XC XR) (g : C7 XC X ∧ C8 XC X) (r : R7k XR X1 ∧ R8k XR X1) (v : KVa True XR → KVa True X1) : PJo9 X X1 := by
  obtain ⟨e, f, he, h⟩ := h
  exact ⟨e, f, he, h.kp he g r v⟩
/-- both tell the same -/
theorem PJ9.tell (he : (e = 2 ∧ f = 24) ∨ (e = 24 ∧ f = 2)) (h : PJ9 e f XC XR) (hv : p2 = 0 ∨ p2 = 1) (a : (¬ iP e p1 XC ∧ X = XC) ∨ (iP e p1 XC ∧ X = wI (wI XC (e + 16) (ix p1) (vp_nar .boolean p2)) 0 4 0)) (b : (¬ iR p1 XR ∧ X1 = XR) ∨ (iR p1 XR ∧ X1 = _root_.Jvm.Pilot.CBlameCourtLaw_law_r8381_f30dd1.wI (_root_.Jvm.Pilot.CBlameCourtLaw_law_r8381_f30dd1.wI XR 19 (ix p1) (vp_nar .boolean p2)) 0 4 0)) : PJ9 e f X X1 := by
  have h0 := h
  obtain ⟨⟨a1, a2⟩, ⟨b1, b2⟩, d⟩ := h
  rcases d with ⟨d1, d2, d0⟩ | ⟨d1, d2, ch, n, ps, c, told, d3, d4, d5, d6, d7, d8⟩
  · rcases a with ⟨_, a⟩ | ⟨a, _⟩
    · rcases b with ⟨_, b⟩ | ⟨b, _⟩
      · rw [a, b]; exact h0
      · exact absurd d2 b.1
    · exact absurd d1 a.1
  · have q : iP e p1 XC ↔ iR p1 XR := by
      unfold iP iR
      rw [d3.prt, d4.prt]
      exact ⟨fun z => ⟨d2, z.2⟩, fun z => ⟨d1, z.2⟩⟩
    rcases a with ⟨z, a⟩ | ⟨z, a⟩
    · rcases b with ⟨_, b⟩ | ⟨b, _⟩
      · rw [a, b]; exact h0
      · exact absurd (q.mpr b) z
    · rcases b with ⟨b, _⟩ | ⟨_, b⟩
      · exact absurd (q.mp z) b
      · have hb : (vp_nar .boolean p2).toInt = 0 ↔ ¬ (decide (p2 = 1)) = true := by
          rcases hv with g | g <;> rw [g] <;> decide
        have w0 : ∀ j k, ¬ j = 0 → ¬ j = e + 16 → X.1 j k = XC.1 j k := fun j k z1 z2 => by rw [a, wI_ne _ _ _ _ _ _ (by omega), wI_ne _ _ _ _ _ _ (by omega)]
        refine ⟨⟨by rw [a]; exact a1, by rw [a]; exact a2⟩, ⟨b1.rows (fun j k z1 => w0 j k (by omega) (by omega)), b2.rows (fun j k z1 => w0 j k (by omega) (by omega))⟩, Or.inr ⟨?_, ?_, ch, n, ps, c, _, by rw [b]; exact d3.tell hb, ?_, d5, d6, ?_, ?_, Or.inl ⟨?_, ?_⟩⟩⟩
        · rw [a, wI_ne _ _ _ _ _ _ (by omega), wI_ne _ _ _ _ _ _ (by omega)]
          exact d1
        · rw [b, wI_ne _ _ _ _ _ _ (by omega), wI_ne _ _ _ _ _ _ (by omega)]
          exact d2
        · rw [a]
          exact (d4.tell hb).fr (fun j k z1 _ => wI_ne _ _ _ _ _ _ (by omega))
        · rw [b]
          exact KVa_w (KVa_w d7 (by omega)) (by omega)
        · exact d8.1.fr (fun j k hj _ => w0 j k (by omega) (by omega)) (fun k _ => by rw [a]; rfl)
        · rw [a, wI_at]; decide
        · rw [b, wI_at]; decide
/-- both read the same -/
theorem PJ9.read (he : (e = 2 ∧ f = 24) ∨ (e = 24 ∧ f = 2)) (a1 : XC.2.2 0 9 = e + 1) (a2 : XC.2.2 0 2 = f + 1) (b1 : TOK (e + 1) XC) (d : ((XC.1 0 3).toInt = 0 ∧ (XR.1 0 3).toInt = 0 ∧ (XC.1 0 4).toInt = 0 ∧ (XR.1 0 4).toInt = 0 ∧ (XR.1 0 18).toInt = 0) ∨ (¬ (XC.1 0 3).toInt = 0 ∧ ¬ (XR.1 0 3).toInt = 0 ∧ ∃ n0, PG7 ch n0 ps c told XR ∧ CP7 e ch ps told c XC ∧ (PWd ps ∧ ∀ a ∈ c, a.1 = 34 → WKd 40 a.2.2.2) ∧ ps.length ≤ 40 ∧ KVa True XR ∧ J9 e ch ps c told XC XR)) {ch0 : Tx} (a : RC7 ch0 f e XC r X) (b : RDx ch0 n XR r1 X1) (a8 : ((X.1 0 4).toInt = 0 ∧ X.2.2 0 9 = f + 1) ∨ (C8 XC X ∧ X.2.2 0 9 = XC.2.2 0 9)) (b8 : RD9 ch ps c told XR r1 X1) (hM : (X1.1 0 3).toInt = 0 → (X1.1 0 4).toInt = 0) : PJo9 X X1 := by
  obtain ⟨a3, t, g⟩ := a
  rcases a3 with ⟨ps2, c2, q1, q2, _, q3, q4, q5⟩ | ⟨q1, _, q3, q4⟩
  · have z4 : (X.1 0 4).toInt = 0 := by
      rcases a8 with z | z
      · exact z.1
      · have := q4.1
        have := z.2
        omega
    refine ⟨f, e, he.elim (fun z => Or.inr ⟨z.2, z.1⟩) (fun z => Or.inl ⟨z.2, z.1⟩), q4, ⟨t, b1.pgs g⟩, Or.inr ⟨q3, ?_⟩⟩
    rcases b with ⟨ps1, c1, y1, y2, yl, y3, y4⟩ | ⟨y1, _⟩
    · rw [q1] at y1
      have ee := Option.some.inj y1
      have ep : ps2 = ps1 := congrArg Prod.fst ee
      have ec : c2 = c1 := congrArg Prod.snd ee
      rw [← ep, ← ec] at y4
      have hl : ps2.length ≤ 40 := q5.1.2.1
      obtain ⟨N, hR⟩ := y4.2.2.2.2.1
      obtain ⟨z1, z2⟩ := q5.cp hR.2.2.2.2.2.2.2.2
      rcases b8 with ⟨_, v1, v2⟩ | ⟨v0, _⟩
      · exact ⟨y3, ch0, n, ps2, c2, _, y4, z1, z2, hl, v1, q5.1.2.2.1, Or.inl ⟨z4, v2⟩⟩
      · rw [v0] at yl
        exact absurd yl (by omega)
    · exact absurd q2 (y1 ps2 c2 q1)
  · have z8 : C8 XC X := by
      rcases a8 with z | z
      · have := q4.1
        have := z.2
        omega
      · exact z.1
    refine ⟨e, f, he, q4, ⟨b1.pgs g, t⟩, ?_⟩
    rcases b with ⟨ps1, c1, y1, y2, _⟩ | ⟨_, ym, y3, y4⟩
    · exact absurd y2 (q1 ps1 c1 y1)
    · rcases b8 with ⟨v0, _⟩ | ⟨_, b18, b8⟩
      · exact absurd ym v0
      · rw [q3, y3]
        rw [y3] at hM
        rcases d with ⟨d1, d2, d3, _⟩ | ⟨d1, d2, n0, d3, d4, d5, d6, d7, d8⟩
        · exact Or.inl ⟨d1, d2, by rw [z8.1]; exact d3, hM d2, b18 d2⟩
        · obtain ⟨v1, v2, v3⟩ := b8 d2
          refine Or.inr ⟨d1, d2, ch, n0, ps, c, told, y4 ch n0 ps c told d2 d3, d4.fr g.1, d5, d6, v1, d8.1.pgs g, ?_⟩
          rcases d8.2 with ⟨z1, z2⟩ | ⟨z1, z2, G, z3, z5, z6⟩
          · exact Or.inl ⟨by rw [z8.1]; exact z1, v2 z2⟩
          · obtain ⟨rr, w1, w2⟩ := v3 z2
            have ew := JALL.det _ _ _ _ _ w1 z3
            rw [ew] at w2
            rcases w2 with ⟨G1, x1, x2, x3⟩ | ⟨ff, x1, _⟩
            · have eG : G = G1 := Sum.inl.inj x1
              rw [← eG] at x3
              exact Or.inr ⟨by rw [z8.1]; exact z1, x2, G, z3, z5.kp z8 g, x3⟩
            · exact absurd x1 (by simp)
/-- both judge the same -/
theorem J9.of (hp : PTS e X ps) {rr rr1 : Sum (List JG × List Bool) (Int × Int)} (h1 : JALL ch ps told c ps.length 0 ([], []) rr) (h2 : J9C e X rr) (h3 : JALL ch ps told c ps.length 0 ([], []) rr1) (h4 : J9R X1 rr1) : J9 e ch ps c told X X1 := by
  have ew := JALL.det _ _ _ _ _ h3 h1
  rw [ew] at h4
  rcases h2 with ⟨G, x1, x2, x3⟩ | ⟨ff, x1, x2⟩
  · rcases h4 with ⟨G1, y1, y2, y3⟩ | ⟨ff, y1, _⟩
    · rw [x1] at y1
      have eG : G = G1 := Sum.inl.inj y1
      rw [← eG] at y3
      rw [x1] at h1
      exact ⟨hp, Or.inr ⟨x2, y2, G, h1, x3, y3⟩⟩
    · rw [x1] at y1
      exact absurd y1 (by simp)
  · rcases h4 with ⟨G1, y1, _⟩ | ⟨ff, y1, y2⟩
    · rw [x1] at y1
      exact absurd y1 (by simp)
    · exact ⟨hp, Or.inl ⟨x2, y2⟩⟩
/-- part()'s answer -/
def paq (ps : List Pt) (told : Nat → Bool) (B : Option (List Bool)) (p1 p2 r : Int32) : Prop := (¬ (0 ≤ p1.toInt ∧ p1.toInt < (ps.length : Int)) → r = -1) ∧ ∀ p : Pt, 0 ≤ p1.toInt → ps[ix p1]? = some p → (p2.toInt = 0 → r = if told (ix p1) = true then 1 else 0) ∧ (p2.toInt = 1 → r.toInt = (p.2.2.2.1.length : Int)) ∧ (p2.toInt = 2 → r.toInt = (p.2.2.1.length : Int)) ∧ (p2.toInt = 3 → (B = none → r = -1) ∧ ∀ l b, B = some l → l[ix p1]? = some b → r = if b = true then 1 else 0) ∧ (p2.toInt = 4 → r.toInt = (p.1 : Int)) ∧ (p2.toInt < 0 ∨ 4 < p2.toInt → (¬ (100 ≤ p2.toInt ∧ p2.toInt < 100 + (p.2.2.1.length : Int)) → r = -1) ∧ ∀ i : Nat, p2.toInt = 100 + (i : Int) → ∀ x, p.2.2.1[p.2.2.1.length - 1 - i]? = some x → i < p.2.2.1.length → r.toInt = x)
theorem paq.one {B : Option (List Bool)} (hB : ∀ l, B = some l → l.length = ps.length) (h : paq ps told B p1 p2 r) (h1 : paq ps told B p1 p2 r1) : r = r1 := by
  by_cases c : 0 ≤ p1.toInt ∧ p1.toInt < (ps.length : Int)
  · have e := ixc c.1
    have hl : ix p1 < ps.length := by omega
    obtain ⟨a0, a1, a2, a3, a4, a5⟩ := h.2 _ c.1 (List.getElem?_eq_getElem hl)
    obtain ⟨b0, b1, b2, b3, b4, b5⟩ := h1.2 _ c.1 (List.getElem?_eq_getElem hl)
    by_cases c0 : p2.toInt = 0
    · exact (a0 c0).trans (b0 c0).symm
    by_cases c1 : p2.toInt = 1
    · exact Int32.toInt_inj.mp ((a1 c1).trans (b1 c1).symm)
    by_cases c2 : p2.toInt = 2
    · exact Int32.toInt_inj.mp ((a2 c2).trans (b2 c2).symm)
    by_cases c3 : p2.toInt = 3
    · cases hb : B with
      | none => exact ((a3 c3).1 hb).trans ((b3 c3).1 hb).symm
      | some l =>
        have ll := hB l hb
        have hx : l[ix p1]? = some l[ix p1] := List.getElem?_eq_getElem (by omega)
        exact ((a3 c3).2 l _ hb hx).trans ((b3 c3).2 l _ hb hx).symm
    by_cases c4 : p2.toInt = 4
    · exact Int32.toInt_inj.mp ((a4 c4).trans (b4 c4).symm)
    · have cc : p2.toInt < 0 ∨ 4 < p2.toInt := by omega
      obtain ⟨u1, u2⟩ := a5 cc
      obtain ⟨v1, v2⟩ := b5 cc
      by_cases c5 : 100 ≤ p2.toInt ∧ p2.toInt < 100 + ((ps[ix p1].2.2.1.length : Nat) : Int)
      · obtain ⟨i, hi⟩ : ∃ i : Nat, p2.toInt = 100 + (i : Int) := ⟨(p2.toInt - 100).toNat, by omega⟩
        have hil : i < ps[ix p1].2.2.1.length := by omega
        have hx : ps[ix p1].2.2.1[ps[ix p1].2.2.1.length - 1 - i]? = some (ps[ix p1].2.2.1[ps[ix p1].2.2.1.length - 1 - i]'(by omega)) := List.getElem?_eq_getElem (by omega)
        exact Int32.toInt_inj.mp ((u2 i hi _ hx hil).trans (v2 i hi _ hx hil).symm)
      · exact (u1 c5).trans (v1 c5).symm
  · exact (h.1 c).trans (h1.1 c).symm
/-- any in parts, where they are judged -/
def ANo (X : St) (q : Int) (row : Nat) (B : Option (List Bool)) : Prop := (q = 0 → B = none) ∧ (¬ q = 0 → ∃ l, B = some l ∧ ∀ k b, l[k]? = some b → ((X.1 row k).toInt = 0 ↔ b = false))
theorem x_part9 {N : Nat} {B : Option (List Bool)} (h3 : ¬ (X.1 0 3).toInt = 0) (hT : TXT ch n) (h2 : ∀ i, i < n → BY (X.1 2 i) (ch i)) (h18 : (X.1 0 18).toInt = (ps.length : Int)) (hl : ps.length ≤ 40) (ht : ∀ k, k < ps.length → ((X.1 19 k).toInt = 0 ↔ ¬ told k = true)) (hP : ∀ k p, ps[k]? = some p → (X.1 15 k).toInt = (p.2.2.2.1.length : Int) ∧ MDa X k (p.1, p.2.1, p.2.2.1.length) ∧ LT p.2.2.1 ∧ p.2.2.1.length ≤ 8 ∧ NPo ch p) (hB : ANo X (X.1 0 4).toInt 57 B) (hBl : ∀ l, B = some l → l.length = ps.length) : pw (f_part_II_I p1 p2 X) (fun r _ => paq ps told B p1 p2 r) := by
  have l1 : (1 : Int32).toInt = 1 := by decide
  have l0 : (0 : Int32).toInt = 0 := by decide
  have l99 : (99 : Int32).toInt = 99 := by decide
  have l100 : (100 : Int32).toInt = 100 := by decide
  have hin : ∀ (a b c : Int32), pw (f_in a b c X) (fun r Y => Y = X ∧ ((r.toInt = 1 ∧ b.toInt ≤ a.toInt ∧ a.toInt ≤ c.toInt) ∨ (r.toInt = 0 ∧ ¬ (b.toInt ≤ a.toInt ∧ a.toInt ≤ c.toInt)))) := fun a b c => by
    unfold f_in
    exact pw_ite (fun z1 => pw_ret ⟨rfl, Or.inr ⟨l0, by omega⟩⟩) (fun z1 => pw_ite (fun z2 => pw_ret ⟨rfl, Or.inr ⟨l0, by omega⟩⟩) (fun z2 => pw_ret ⟨rfl, Or.inl ⟨l1, by omega, by omega⟩⟩))
  unfold f_part_II_I
  refine pw_let (pw_neg h3 (pw_let (pw_eq (fun x3 e3 => ?_))))
  have v3 : x3.toInt = (ps.length : Int) - 1 := by rw [e3, ti_sub (by rw [l1]; omega) (by rw [l1]; omega), l1, h18]
  refine pw_bd (hin p1 0 x3) ?_
  rintro x4 X5 ⟨e5, h⟩
  rw [e5]
  rw [l0, v3] at h
  refine pw_ite (fun c4 => ?_) (fun c4 => ?_)
  · have hn : ¬ (0 ≤ p1.toInt ∧ p1.toInt < (ps.length : Int)) := by omega
    refine pw_ret ⟨fun _ => rfl, fun p q0 q1 => ?_⟩
    have := (List.getElem?_eq_some_iff.mp q1).1
    have := ixc q0
    exact absurd hn (by omega)
  · have h0 : 0 ≤ p1.toInt := by omega
    have hlt : p1.toInt < (ps.length : Int) := by omega
    have ei := ixc h0
    obtain ⟨p, hp⟩ : ∃ p, ps[ix p1]? = some p := ⟨_, List.getElem?_eq_getElem (by omega)⟩
    obtain ⟨a15, ⟨a14, a12, a13⟩, aL, a8, aN⟩ := hP _ _ hp
    have a14 : (X.1 14 (ix p1)).toInt = (p.1 : Int) := a14
    have a12 : (X.1 12 (ix p1)).toInt = (p.2.1 : Int) := a12
    have a13 : (X.1 13 (ix p1)).toInt = (p.2.2.1.length : Int) := a13
    have mk : ∀ rr : Int32, ((p2.toInt = 0 → rr = if told (ix p1) = true then 1 else 0) ∧ (p2.toInt = 1 → rr.toInt = (p.2.2.2.1.length : Int)) ∧ (p2.toInt = 2 → rr.toInt = (p.2.2.1.length : Int)) ∧ (p2.toInt = 3 → (B = none → rr = -1) ∧ ∀ l b, B = some l → l[ix p1]? = some b → rr = if b = true then 1 else 0) ∧ (p2.toInt = 4 → rr.toInt = (p.1 : Int)) ∧ (p2.toInt < 0 ∨ 4 < p2.toInt → (¬ (100 ≤ p2.toInt ∧ p2.toInt < 100 + (p.2.2.1.length : Int)) → rr = -1) ∧ ∀ i : Nat, p2.toInt = 100 + (i : Int) → ∀ x, p.2.2.1[p.2.2.1.length - 1 - i]? = some x → i < p.2.2.1.length → rr.toInt = x)) → paq ps told B p1 p2 rr := fun rr z => ⟨fun c => absurd ⟨h0, hlt⟩ c, fun q2 _ hq => by
      rw [hp] at hq
      rw [← Option.some.inj hq]
      exact z⟩
    have nz : ∀ {A : Int} {Q : Prop}, ¬ p2.toInt = A → p2.toInt = A → Q := fun a b => absurd b a
    have no5 : ∀ {Q : Prop} {A : Int}, 0 ≤ A → A ≤ 4 → p2.toInt = A → (p2.toInt < 0 ∨ 4 < p2.toInt) → Q := fun a b c d => absurd d (by omega)
    refine pw_ite (fun c0 => ?_) (fun c0 => ?_)
    · have hk := ht (ix p1) (by omega)
      refine pw_ck (fun _ => pw_let (pw_ite (fun c7 => pw_ret (mk _ ⟨fun _ => ?_, fun z => nz (by omega) z, fun z => nz (by omega) z, fun z => nz (by omega) z, fun z => nz (by omega) z, fun z => no5 (by omega) (by omega) c0 z⟩)) (fun c7 => pw_ret (mk _ ⟨fun _ => ?_, fun z => nz (by omega) z, fun z => nz (by omega) z, fun z => nz (by omega) z, fun z => nz (by omega) z, fun z => no5 (by omega) (by omega) c0 z⟩))))
      · rw [if_neg (hk.mp c7)]
      · rw [if_pos (Classical.byContradiction (fun y => c7 (hk.mpr y)))]
    refine pw_ite (fun c1 => pw_ck (fun _ => pw_let (pw_ret (mk _ ⟨fun z => nz c0 z, fun _ => a15, fun z => nz (by omega) z, fun z => nz (by omega) z, fun z => nz (by omega) z, fun z => no5 (by omega) (by omega) c1 z⟩)))) (fun c1 => ?_)
    refine pw_ite (fun c2 => pw_ck (fun _ => pw_let (pw_ret (mk _ ⟨fun z => nz c0 z, fun z => nz c1 z, fun _ => a13, fun z => nz (by omega) z, fun z => nz (by omega) z, fun z => no5 (by omega) (by omega) c2 z⟩)))) (fun c2 => ?_)
    refine pw_ite (fun c3 => ?_) (fun c3 => ?_)
    · refine pw_let (pw_ite (fun c13 => pw_ret (mk _ ⟨fun z => nz c0 z, fun z => nz c1 z, fun z => nz c2 z, fun _ => ⟨fun _ => rfl, fun l b hb => ?_⟩, fun z => nz (by omega) z, fun z => no5 (by omega) (by omega) c3 z⟩)) (fun c13 => ?_))
      · rw [hB.1 c13] at hb
        exact absurd hb.symm (Option.some_ne_none _)
      · obtain ⟨lb, hb1, hb2⟩ := hB.2 c13
        have go : ∀ rr : Int32, (∀ b, lb[ix p1]? = some b → rr = if b = true then 1 else 0) → paq ps told B p1 p2 rr := fun rr hr => mk _ ⟨fun z => nz c0 z, fun z => nz c1 z, fun z => nz c2 z, fun _ => ⟨fun hb => by rw [hb1] at hb; exact absurd hb (Option.some_ne_none _), fun l b hb hx => by
          rw [hb1] at hb
          rw [← Option.some.inj hb] at hx
          exact hr b hx⟩, fun z => nz (by omega) z, fun z => no5 (by omega) (by omega) c3 z⟩
        refine pw_ck (fun _ => pw_let (pw_ite (fun c14 => pw_ret (go _ (fun b hb => ?_))) (fun c14 => pw_ret (go _ (fun b hb => ?_)))))
        · rw [(hb2 _ _ hb).mp c14]
          rfl
        · cases b with
          | false => exact absurd ((hb2 _ _ hb).mpr rfl) c14
          | true => rfl
    refine pw_ite (fun c5 => pw_ck (fun _ => pw_let (pw_ret (mk _ ⟨fun z => nz c0 z, fun z => nz c1 z, fun z => nz c2 z, fun z => nz c3 z, fun _ => a14, fun z => no5 (by omega) (by omega) c5 z⟩)))) (fun c5 => ?_)
    refine pw_ck (fun _ => pw_let (pw_eq (fun x18 e18 => ?_)))
    have v18 : x18.toInt = 99 + (p.2.2.1.length : Int) := by rw [e18, ti_add (by rw [a13, l99]; omega) (by rw [a13, l99]; omega), a13, l99]
    refine pw_bd (hin p2 100 x18) ?_
    rintro x19 X20 ⟨e20, hh⟩
    rw [e20]
    rw [l100, v18] at hh
    refine pw_ite (fun c19 => pw_ret (mk _ ⟨fun z => nz c0 z, fun z => nz c1 z, fun z => nz c2 z, fun z => nz c3 z, fun z => nz c5 z, fun _ => ⟨fun _ => rfl, fun i hi x hx hil => absurd hil (by omega)⟩⟩)) (fun c19 => ?_)
    have hr : 100 ≤ p2.toInt ∧ p2.toInt < 100 + (p.2.2.1.length : Int) := by omega
    obtain ⟨i, hi⟩ : ∃ i : Nat, p2.toInt = 100 + (i : Int) := ⟨(p2.toInt - 100).toNat, by omega⟩
    have hx : p.2.2.1[p.2.2.1.length - 1 - i]? = some (ch (p.2.1 + i)) := by
      have := nmr_at (ch := ch) p.2.1 p.2.2.1.length i (by omega)
      rw [← aN] at this
      exact this
    have hlt2 := (isLt_iff _).mp (aL _ (List.mem_of_getElem? hx))
    have hin2 : p.2.1 + i < n := Classical.byContradiction (fun z => by
      have := hT.2.1 (p.2.1 + i) (by omega)
      omega)
    have hn := hT.1
    refine pw_ck (fun _ => pw_eq (fun x21 e21 => pw_eq (fun x22 e22 => pw_eq (fun x23 e23 => pw_ck (fun _ => pw_eq (fun x24 e24 => pw_ret (mk _ ⟨fun z => nz c0 z, fun z => nz c1 z, fun z => nz c2 z, fun z => nz c3 z, fun z => nz c5 z, fun _ => ⟨fun z => absurd hr z, fun i2 hi2 x hx2 _ => ?_⟩⟩)))))))
    have ei2 : i2 = i := by omega
    rw [ei2, hx] at hx2
    have v21 : x21.toInt = (p.2.1 : Int) := by rw [e21]; exact a12
    have v22 : x22.toInt = (p.2.1 : Int) + p2.toInt := by rw [e22, ti_add (by rw [v21]; omega) (by rw [v21]; omega), v21]
    have v23 : x23.toInt = ((p.2.1 + i : Nat) : Int) := by rw [e23, ti_sub (by rw [v22, l100]; omega) (by rw [v22, l100]; omega), v22, l100]; omega
    rw [e24, ixn v23, ← Option.some.inj hx2]
    rcases h2 _ hin2 with ⟨_, _, y⟩ | ⟨_, y1, y2⟩
    · exact y.symm
    · omega
theorem x_part0 (h3 : (X.1 0 3).toInt = 0) : pw (f_part_II_I p1 p2 X) (fun r _ => r = -1) := by
  unfold f_part_II_I
  exact pw_let (pw_pos h3 (pw_ret rfl))
theorem l_part9 {B : Option (List Bool)} (he : e = 2 ∨ e = 24) (r9 : X.2.2 0 9 = e + 1) (h3 : ¬ (X.1 0 3).toInt = 0) (h1 : (X.1 e 1).toInt = (ps.length : Int)) (hl : ps.length ≤ 40) (ht : ∀ k, k < ps.length → ((X.1 (e + 16) k).toInt = 0 ↔ ¬ told k = true)) (hP : PTS e X ps) (hB : ANo X (X.1 0 4).toInt 62 B) : pw (g_Court_part p1 p2 X) (fun r _ => paq ps told B p1 p2 r) := by
  have l1 : (1 : Int32).toInt = 1 := by decide
  have l0 : (0 : Int32).toInt = 0 := by decide
  have l8 : (8 : Int32).toInt = 8 := by decide
  have l100 : (100 : Int32).toInt = 100 := by decide
  obtain ⟨k3, _, k7, k8, k9, k10, _, _⟩ := kYq he
  have q9 : X.2.2 0 9 - 1 = e := by rw [r9]; rfl
  unfold g_Court_part
  refine pw_bd (R := fun r Y => Y = X ∧ ((r = 1 ∧ 0 ≤ p1.toInt ∧ p1.toInt < (ps.length : Int)) ∨ (r = 0 ∧ ¬ (0 ≤ p1.toInt ∧ p1.toInt < (ps.length : Int))))) ?_ ?_
  · clear k3 k7 k8 k9 k10
    unfold g_Court_isPart
    refine pw_let (pw_neg h3 (pw_ite (fun c1 => pw_ret ⟨rfl, Or.inr ⟨rfl, by omega⟩⟩) (fun c1 => ?_)))
    refine pw_ck (fun _ => pw_to q9 (pw_let ?_))
    rw [h1]
    exact pw_ite (fun c2 => pw_ret ⟨rfl, Or.inr ⟨rfl, by omega⟩⟩) (fun c2 => pw_ret ⟨rfl, Or.inl ⟨rfl, by omega, by omega⟩⟩)
  rintro x1 X2 ⟨e2, h⟩
  rw [e2]
  refine pw_ite (fun c4 => ?_) (fun c4 => ?_)
  · rcases h with ⟨h, _⟩ | ⟨_, hn⟩
    · rw [h] at c4
      exact absurd c4 (by decide)
    · clear k3 k7 k8 k9 k10
      refine pw_ret ⟨fun _ => rfl, fun p q0 q1 => ?_⟩
      have := (List.getElem?_eq_some_iff.mp q1).1
      have := ixc q0
      exact absurd hn (by omega)
  · have hb : 0 ≤ p1.toInt ∧ p1.toInt < (ps.length : Int) := by
      rcases h with ⟨_, h⟩ | ⟨h, _⟩
      · exact h
      · rw [h] at c4
        exact absurd l0 c4
    clear h
    obtain ⟨h0, hlt⟩ := hb
    have ei := ixc h0
    have hip : ix p1 < ps.length := by clear k3 k7 k8 k9 k10; omega
    obtain ⟨p, hp⟩ : ∃ p, ps[ix p1]? = some p := ⟨_, List.getElem?_eq_getElem hip⟩
    obtain ⟨⟨a10, aL, a8⟩, a11, a12, a13, _⟩ := hP _ _ hp
    have hk := ht (ix p1) hip
    have mk : ∀ rr : Int32, ((p2.toInt = 0 → rr = if told (ix p1) = true then 1 else 0) ∧ (p2.toInt = 1 → rr.toInt = (p.2.2.2.1.length : Int)) ∧ (p2.toInt = 2 → rr.toInt = (p.2.2.1.length : Int)) ∧ (p2.toInt = 3 → (B = none → rr = -1) ∧ ∀ l b, B = some l → l[ix p1]? = some b → rr = if b = true then 1 else 0) ∧ (p2.toInt = 4 → rr.toInt = (p.1 : Int)) ∧ (p2.toInt < 0 ∨ 4 < p2.toInt → (¬ (100 ≤ p2.toInt ∧ p2.toInt < 100 + (p.2.2.1.length : Int)) → rr = -1) ∧ ∀ i : Nat, p2.toInt = 100 + (i : Int) → ∀ x, p.2.2.1[p.2.2.1.length - 1 - i]? = some x → i < p.2.2.1.length → rr.toInt = x)) → paq ps told B p1 p2 rr := fun rr z => ⟨fun c => absurd ⟨h0, hlt⟩ c, fun q2 _ hq => by
      rw [hp] at hq
      rw [← Option.some.inj hq]
      exact z⟩
    have nz : ∀ {A : Int} {Q : Prop}, ¬ p2.toInt = A → p2.toInt = A → Q := fun a b => absurd b a
    have n2 : ∀ {A C : Int} {Q : Prop}, p2.toInt = A → ¬ A = C → p2.toInt = C → Q := fun a b c => absurd (a.symm.trans c) b
    have no5 : ∀ {Q : Prop} {A : Int}, p2.toInt = A → (0 ≤ A ∧ A ≤ 4) → (p2.toInt < 0 ∨ 4 < p2.toInt) → Q := fun a b d => absurd d (by clear k3 k7 k8 k9 k10; omega)
    refine pw_ite (fun c0 => ?_) (fun c0 => ?_)
    · refine pw_ck (fun _ => pw_to q9 (pw_to k3 (pw_ck (fun _ => pw_let (pw_ite (fun c7 => pw_ret (mk _ ⟨fun _ => ?_, fun z => n2 c0 (by decide) z, fun z => n2 c0 (by decide) z, fun z => n2 c0 (by decide) z, fun z => n2 c0 (by decide) z, fun z => no5 c0 (by decide) z⟩)) (fun c7 => pw_ret (mk _ ⟨fun _ => ?_, fun z => n2 c0 (by decide) z, fun z => n2 c0 (by decide) z, fun z => n2 c0 (by decide) z, fun z => n2 c0 (by decide) z, fun z => no5 c0 (by decide) z⟩)))))))
      · rw [if_neg (hk.mp c7)]
      · rw [if_pos (Classical.byContradiction (fun y => c7 (hk.mpr y)))]
    refine pw_ite (fun c1 => pw_ck (fun _ => pw_to q9 (pw_to k10 (pw_ck (fun _ => pw_let (pw_ret (mk _ ⟨fun z => nz c0 z, fun _ => a13, fun z => n2 c1 (by decide) z, fun z => n2 c1 (by decide) z, fun z => n2 c1 (by decide) z, fun z => no5 c1 (by decide) z⟩))))))) (fun c1 => ?_)
    refine pw_ite (fun c2 => pw_ck (fun _ => pw_to q9 (pw_to k8 (pw_ck (fun _ => pw_let (pw_ret (mk _ ⟨fun z => nz c0 z, fun z => nz c1 z, fun _ => a11, fun z => n2 c2 (by decide) z, fun z => n2 c2 (by decide) z, fun z => no5 c2 (by decide) z⟩))))))) (fun c2 => ?_)
    refine pw_ite (fun c3 => ?_) (fun c3 => ?_)
    · refine pw_let (pw_ite (fun c13 => pw_ret (mk _ ⟨fun z => nz c0 z, fun z => nz c1 z, fun z => nz c2 z, fun _ => ⟨fun _ => rfl, fun l b hb => ?_⟩, fun z => n2 c3 (by decide) z, fun z => no5 c3 (by decide) z⟩)) (fun c13 => ?_))
      · rw [hB.1 c13] at hb
        exact absurd hb.symm (Option.some_ne_none _)
      · obtain ⟨lb, hb1, hb2⟩ := hB.2 c13
        have go : ∀ rr : Int32, (∀ b, lb[ix p1]? = some b → rr = if b = true then 1 else 0) → paq ps told B p1 p2 rr := fun rr hr => mk _ ⟨fun z => nz c0 z, fun z => nz c1 z, fun z => nz c2 z, fun _ => ⟨fun hb => by rw [hb1] at hb; exact absurd hb (Option.some_ne_none _), fun l b hb hx => by
          rw [hb1] at hb
          rw [← Option.some.inj hb] at hx
          exact hr b hx⟩, fun z => n2 c3 (by decide) z, fun z => no5 c3 (by decide) z⟩
        refine pw_ck (fun _ => pw_let (pw_ite (fun c14 => pw_ret (go _ (fun b hb => ?_))) (fun c14 => pw_ret (go _ (fun b hb => ?_)))))
        · rw [(hb2 _ _ hb).mp c14]
          rfl
        · cases b with
          | false => exact absurd ((hb2 _ _ hb).mpr rfl) c14
          | true => rfl
    refine pw_ite (fun c5 => pw_ck (fun _ => pw_to q9 (pw_to k9 (pw_ck (fun _ => pw_let (pw_ret (mk _ ⟨fun z => nz c0 z, fun z => nz c1 z, fun z => nz c2 z, fun z => nz c3 z, fun _ => a12, fun z => no5 c5 (by decide) z⟩))))))) (fun c5 => ?_)
    have oth : ∀ rr : Int32, ((¬ (100 ≤ p2.toInt ∧ p2.toInt < 100 + (p.2.2.1.length : Int)) → rr = -1) ∧ ∀ i : Nat, p2.toInt = 100 + (i : Int) → ∀ x, p.2.2.1[p.2.2.1.length - 1 - i]? = some x → i < p.2.2.1.length → rr.toInt = x) → paq ps told B p1 p2 rr := fun rr z => mk rr ⟨fun y => nz c0 y, fun y => nz c1 y, fun y => nz c2 y, fun y => nz c3 y, fun y => nz c5 y, fun _ => z⟩
    refine pw_ck (fun _ => pw_to q9 (pw_eq (fun x23 e23 => pw_bd (R := fun r _ => paq ps told B p1 p2 r) ?_ (fun _ _ hr => pw_ret hr))))
    have b2 := p2.toInt_lt
    have b2l := p2.le_toInt
    have v23 : (x23.toInt = p2.toInt - 100 ∧ -2147483548 ≤ p2.toInt) ∨ (2147483000 ≤ x23.toInt ∧ p2.toInt < -2147483548) := by
      clear k3 k7 k8 k9 k10
      by_cases z : -2147483548 ≤ p2.toInt
      · exact Or.inl ⟨by rw [e23, ti_sub (by rw [l100]; omega) (by rw [l100]; omega), l100], z⟩
      · refine Or.inr ⟨?_, by omega⟩
        rw [e23, Int32.toInt_sub, l100, Int.bmod_def]
        split <;> omega
    unfold g_Program_letterOf
    refine pw_ite (fun c6 => pw_ret (oth _ ⟨fun _ => rfl, fun i hi => absurd c6 (by clear k3 k7 k8 k9 k10; omega)⟩)) (fun c6 => ?_)
    refine pw_to k8 (pw_ck (fun _ => pw_let ?_))
    rw [a11]
    refine pw_ite (fun c7 => ?_) (fun c7 => pw_ret (oth _ ⟨fun _ => rfl, fun i hi x hx hil => absurd c7 (by clear k3 k7 k8 k9 k10; omega)⟩))
    have w23 : x23.toInt = p2.toInt - 100 := by clear k3 k7 k8 k9 k10; omega
    refine pw_to k7 (pw_ck (fun _ => pw_eq (fun y4 e4 => pw_to k8 (pw_ck (fun _ => pw_eq (fun x6 e6 => pw_eq (fun x7 e7 => pw_eq (fun x8 e8 => pw_eq (fun x9 e9 => pw_eq (fun y10 e10 => pw_eq (fun x11 e11 => pw_eq (fun x12 e12 => pw_ret (oth _ ⟨fun z => ?_, fun i hi x hx hil => ?_⟩)))))))))))))
    · exact absurd z (by clear k3 k7 k8 k9 k10; omega)
    · clear k3 k7 k8 k9 k10
      have v6 : x6.toInt = (p.2.2.1.length : Int) := by rw [e6]; exact a11
      have v7 : x7.toInt = (p.2.2.1.length : Int) - 1 := by rw [e7, ti_sub (by rw [v6, l1]; omega) (by rw [v6, l1]; omega), v6, l1]
      have v8 : x8.toInt = (p.2.2.1.length : Int) - 1 - i := by rw [e8, ti_sub (by rw [v7, w23]; omega) (by rw [v7, w23]; omega), v7, w23]; omega
      have v9 : x9.toInt = 8 * ((p.2.2.1.length - 1 - i : Nat) : Int) := by rw [e9, ti_mul (by rw [l8, v8]; omega) (by rw [l8, v8]; omega), l8, v8]; omega
      rw [e12, e11, e10, e4, a10]
      exact byte_at aL a8 v9 hx
theorem l_part0 (h3 : (X.1 0 3).toInt = 0) : pw (g_Court_part p1 p2 X) (fun r _ => r = -1) := by
  have l0 : (0 : Int32).toInt = 0 := by decide
  unfold g_Court_part
  refine pw_bd (R := fun r Y => r = 0) ?_ (fun x1 X2 hx => pw_pos (by rw [hx]; exact l0) (pw_ret rfl))
  unfold g_Court_isPart
  exact pw_let (pw_pos h3 (pw_ret rfl))
/-- both tell the same of a part -/
theorem PJ9.part (he : (e = 2 ∧ f = 24) ∨ (e = 24 ∧ f = 2)) (h : PJ9 e f XC XR) : ∃ Q : Int32 → Prop, pw (g_Court_part p1 p2 XC) (fun r _ => Q r) ∧ pw (f_part_II_I p1 p2 XR) (fun r _ => Q r) ∧ ∀ r r1, Q r → Q r1 → r = r1 := by
  have he1 : e = 2 ∨ e = 24 := he.elim (fun z => Or.inl z.1) (fun z => Or.inr z.1)
  obtain ⟨⟨a1, a2⟩, _, d⟩ := h
  rcases d with ⟨d1, d2, _⟩ | ⟨d1, d2, ch, n, ps, c, told, d3, d4, d5, d6, d7, d8, d9⟩
  · exact ⟨fun r => r = -1, l_part0 d1, x_part0 d2, fun r r1 q1 q2 => q1.trans q2.symm⟩
  · have d30 := d3
    obtain ⟨hT, _, _, ⟨hs, _⟩, ⟨N, hR⟩, ht⟩ := d30
    obtain ⟨r1, r2, r3, _⟩ := hR
    have np := sParts_np (ch := ch) 41 [] 0 [] ps c (fun p hp => absurd hp List.not_mem_nil) hs
    have ct : ∀ k, k < ps.length → ((XC.1 (e + 16) k).toInt = 0 ↔ ¬ told k = true) := by
      obtain ⟨_, _, _, b1, _⟩ := d4
      exact b1.2.1
    have c1 := d4.prt
    have rows : ∀ k p, ps[k]? = some p → (XR.1 15 k).toInt = (p.2.2.2.1.length : Int) ∧ MDa XR k (p.1, p.2.1, p.2.2.1.length) ∧ LT p.2.2.1 ∧ p.2.2.1.length ≤ 8 ∧ NPo ch p := fun k p hk => by
      obtain ⟨⟨_, u1, u2⟩, _, u3⟩ := r2.2 k p hk
      obtain ⟨_, _, _, ⟨m1, m2, m3⟩, _⟩ := r3.2 k p hk
      rw [tx7_ne (by omega)] at u3 m1 m2 m3
      exact ⟨u3, ⟨m1, m2, m3⟩, u1, u2, np p (List.mem_of_getElem? hk)⟩
    have t2 : ∀ i, i < n → BY (XR.1 2 i) (ch i) := fun i hi => by
      have := r1.2.2 i hi
      rw [tx7_ne (by omega)] at this
      exact this
    obtain ⟨B, b1, b2, b3⟩ : ∃ B : Option (List Bool), ANo XC (XC.1 0 4).toInt 62 B ∧ ANo XR (XR.1 0 4).toInt 57 B ∧ ∀ l, B = some l → l.length = ps.length := by
      rcases d9 with ⟨z1, z2⟩ | ⟨z1, z2, G, z3, z4, z5⟩
      · exact ⟨none, ⟨fun _ => rfl, fun z => absurd z1 z⟩, ⟨fun _ => rfl, fun z => absurd z2 z⟩, fun l hl => absurd hl.symm (Option.some_ne_none _)⟩
      · refine ⟨some G.2, ⟨fun z => absurd z z1, fun _ => ⟨G.2, rfl, z4.2⟩⟩, ⟨fun z => absurd z z2, fun _ => ⟨G.2, rfl, z5.2⟩⟩, fun l hl => ?_⟩
        have := JALL.len _ _ _ _ _ z3 rfl
        rw [← Option.some.inj hl, this]
        exact Nat.zero_add _
    exact ⟨fun r => paq ps told B p1 p2 r, l_part9 he1 a1 d1 c1 d6 ct d8 b1, x_part9 (N := N) d2 hT t2 d3.prt d6 ht rows b2 b3, fun r r1 q1 q2 => q1.one b3 q2⟩
end PJ9S
