/-! both sides hold all that a run needs -/
def J10 (e : Nat) (ch : Tx) (ps : List Pt) (c : List Ins) (told : Nat → Bool) (XC XR : St) : Prop := ((XC.1 0 4).toInt = 0 ∧ (XR.1 0 4).toInt = 0) ∨ (¬ (XC.1 0 4).toInt = 0 ∧ ¬ (XR.1 0 4).toInt = 0 ∧ ∃ G : List JG × List Bool, JALL ch ps told c ps.length 0 ([], []) (Sum.inl G) ∧ J10C e c XC (Sum.inl G) ∧ J10R ch ps c XR (Sum.inl G))
def PJ10 (e f : Nat) (XC XR : St) : Prop := (XC.2.2 0 9 = e + 1 ∧ XC.2.2 0 2 = f + 1) ∧ (TOK (e + 1) XC ∧ TOK (f + 1) XC) ∧ (((XC.1 0 3).toInt = 0 ∧ (XR.1 0 3).toInt = 0 ∧ (XC.1 0 4).toInt = 0 ∧ (XR.1 0 4).toInt = 0 ∧ (XR.1 0 18).toInt = 0) ∨ (¬ (XC.1 0 3).toInt = 0 ∧ ¬ (XR.1 0 3).toInt = 0 ∧ ∃ (ch : Tx) (n : Nat) (ps : List Pt) (c : List Ins) (told : Nat → Bool), PG7 ch n ps c told XR ∧ CP7 e ch ps told c XC ∧ (PWd ps ∧ ∀ a ∈ c, a.1 = 34 → WKd 40 a.2.2.2) ∧ ps.length ≤ 40 ∧ KVa True XR ∧ (SC10 e ps c XC ∧ psx ps c 0 = 0) ∧ J10 e ch ps c told XC XR))
def PJo10 (XC XR : St) : Prop := ∃ e f, ((e = 2 ∧ f = 24) ∨ (e = 24 ∧ f = 2)) ∧ PJ10 e f XC XR
/-- what other calls keep of the reference -/
def RK10 (X Y : St) : Prop := Y.1 0 4 = X.1 0 4 ∧ (¬ (X.1 0 4).toInt = 0 → R10 X Y)
section PJ10S
variable {e f n N : Nat} {ch : Tx} {ps : List Pt} {c : List Ins} {told : Nat → Bool} {X Y X1 XC XR : St} {L : List Nat} {r r1 p1 p2 : Int32} {rr : Sum (List JG × List Bool) (Int × Int)}
theorem psx_zero (h : PBq ch X ps c N) : psx ps c 0 = 0 := by
  unfold psx
  cases hp : ps[0]? with
  | none =>
    have h0 : ps = [] := by
      cases ps with
      | nil => rfl
      | cons a l => exact nomatch hp
    simp [h0, h.1 h0]
  | some p =>
    have := (h.2 0 p hp).2.2.2.2 rfl
    simp [this]
theorem SC10.pgs (h : SC10 e ps c X) (g : PGS e X Y) : SC10 e ps c Y := by
  obtain ⟨a, ⟨k, b1, b2⟩, d⟩ := h
  exact ⟨by rw [g.1 e 6 (by omega) (by omega)]; exact a, ⟨k, b1, by rw [g.1 e 2 (by omega) (by omega)]; exact b2⟩, d⟩
theorem J10C.kp (he : e = 2 ∨ e = 24) (h : J10C e c X rr) (g : C8 X Y) (p : PGS e X Y) : J10C e c Y rr := by
  rcases h with ⟨G, a, b, ⟨d1, ks, k1, k2, k3⟩, l1, l2⟩ | ⟨ff, a, b⟩
  · exact Or.inl ⟨G, a, by rw [g.1]; exact b, ⟨by rw [g.2.1]; exact d1, ks, k1.cg (fun j k q1 q2 _ => p.1 j k (by omega) (by omega)), k2, fun i G1 hG => (k3 i G1 hG).cg (fun j hj => g.2.2 j i (Or.inl hj))⟩, l1, fun jj q1 q2 => by rw [p.1 (e + 20) jj (by omega) (by omega)]; exact l2 jj q1 q2⟩
  · exact Or.inr ⟨ff, a, by rw [g.1]; exact b⟩
theorem PJ10.kp (he : (e = 2 ∧ f = 24) ∨ (e = 24 ∧ f = 2)) (h : PJ10 e f XC XR) (g : C7 XC X ∧ C8 XC X) (r : R7k XR X1 ∧ RK10 XR X1) (v : KVa True XR → KVa True X1) : PJ10 e f X X1 := by
  obtain ⟨g, g8⟩ := g
  obtain ⟨r, r8⟩ := r
  obtain ⟨⟨a1, a2⟩, ⟨b1, b2⟩, d⟩ := h
  have ge : PGS e XC X := g.pgs (he.elim (fun z => Or.inl z.1) (fun z => Or.inr z.1))
  have gf : PGS f XC X := g.pgs (he.elim (fun z => Or.inr z.2) (fun z => Or.inl z.2))
  refine ⟨⟨by rw [g.2.1.1]; exact a1, by rw [g.2.1.2]; exact a2⟩, ⟨b1.pgs ge, b2.pgs gf⟩, ?_⟩
  rw [g.1, r.1.1 0 3 (by omega), g8.1, r8.1, r.1.1 0 18 (by omega)]
  rcases d with d | ⟨d1, d2, ch, n, ps, c, told, d3, d4, d5, d6, d7, d9, d8⟩
  · exact Or.inl d
  · refine Or.inr ⟨d1, d2, ch, n, ps, c, told, d3.kp r, d4.fr ge.1, d5, d6, v d7, ⟨d9.1.pgs ge, d9.2⟩, ?_⟩
    unfold J10
    rw [g8.1, r8.1]
    rcases d8 with d8 | ⟨z1, z2, G, z3, z4, z5⟩
    · exact Or.inl d8
    · exact Or.inr ⟨z1, z2, G, z3, z4.kp (he.elim (fun z => Or.inl z.1) (fun z => Or.inr z.1)) g8 ge, z5.kp (r8.2 z2)⟩
theorem PJo10.kp (h : PJo10 XC XR) (g : C7 XC X ∧ C8 XC X) (r : R7k XR X1 ∧ RK10 XR X1) (v : KVa True XR → KVa True X1) : PJo10 X X1 := by
  obtain ⟨e, f, he, h⟩ := h
  exact ⟨e, f, he, h.kp he g r v⟩
/-- both tell the same -/
theorem PJ10.tell (he : (e = 2 ∧ f = 24) ∨ (e = 24 ∧ f = 2)) (h : PJ10 e f XC XR) (hv : p2 = 0 ∨ p2 = 1) (a : (¬ iP e p1 XC ∧ X = XC) ∨ (iP e p1 XC ∧ X = wI (wI XC (e + 16) (ix p1) (vp_nar .boolean p2)) 0 4 0)) (b : (¬ iR p1 XR ∧ X1 = XR) ∨ (iR p1 XR ∧ X1 = _root_.Jvm.Pilot.CBlameCourtLaw_law_r8381_f30dd1.wI (_root_.Jvm.Pilot.CBlameCourtLaw_law_r8381_f30dd1.wI XR 19 (ix p1) (vp_nar .boolean p2)) 0 4 0)) : PJ10 e f X X1 := by
  have h0 := h
  obtain ⟨⟨a1, a2⟩, ⟨b1, b2⟩, d⟩ := h
  rcases d with ⟨d1, d2, d0⟩ | ⟨d1, d2, ch, n, ps, c, told, d3, d4, d5, d6, d7, d9, d8⟩
  · rcases a with ⟨_, a⟩ | ⟨a, _⟩
    · rcases b with ⟨_, b⟩ | ⟨b, _⟩
      · rw [a, b]; exact h0
      · exact absurd d2 b.1
    · exact absurd d1 a.1
  · have q : iP e p1 XC ↔ iR p1 XR := by
      unfold iP iR
      rw [d3.prt, d4.prt]
      exact ⟨fun z => ⟨d2, z.2⟩, fun z => ⟨d1, z.2⟩⟩
    rcases a with ⟨z, a⟩ | ⟨z, a⟩
    · rcases b with ⟨_, b⟩ | ⟨b, _⟩
      · rw [a, b]; exact h0
      · exact absurd (q.mpr b) z
    · rcases b with ⟨b, _⟩ | ⟨_, b⟩
      · exact absurd (q.mp z) b
      · have hb : (vp_nar .boolean p2).toInt = 0 ↔ ¬ (decide (p2 = 1)) = true := by
          rcases hv with g | g <;> rw [g] <;> decide
        have w0 : ∀ j k, ¬ j = 0 → ¬ j = e + 16 → X.1 j k = XC.1 j k := fun j k z1 z2 => by rw [a, wI_ne _ _ _ _ _ _ (by omega), wI_ne _ _ _ _ _ _ (by omega)]
        refine ⟨⟨by rw [a]; exact a1, by rw [a]; exact a2⟩, ⟨b1.rows (fun j k z1 => w0 j k (by omega) (by omega)), b2.rows (fun j k z1 => w0 j k (by omega) (by omega))⟩, Or.inr ⟨?_, ?_, ch, n, ps, c, _, by rw [b]; exact d3.tell hb, ?_, d5, d6, ?_, ⟨?_, d9.2⟩, Or.inl ⟨?_, ?_⟩⟩⟩
        · rw [a, wI_ne _ _ _ _ _ _ (by omega), wI_ne _ _ _ _ _ _ (by omega)]
          exact d1
        · rw [b, wI_ne _ _ _ _ _ _ (by omega), wI_ne _ _ _ _ _ _ (by omega)]
          exact d2
        · rw [a]
          exact (d4.tell hb).fr (fun j k z1 _ => wI_ne _ _ _ _ _ _ (by omega))
        · rw [b]
          exact KVa_w (KVa_w d7 (by omega)) (by omega)
        · obtain ⟨⟨y1, ⟨k, y2, y3⟩, y4⟩, _⟩ := d9
          exact ⟨by rw [w0 e 6 (by omega) (by omega)]; exact y1, ⟨k, y2, by rw [w0 e 2 (by omega) (by omega)]; exact y3⟩, y4⟩
        · rw [a, wI_at]; decide
        · rw [b, wI_at]; decide
/-- both read the same -/
theorem PJ10.read (he : (e = 2 ∧ f = 24) ∨ (e = 24 ∧ f = 2)) (a1 : XC.2.2 0 9 = e + 1) (a2 : XC.2.2 0 2 = f + 1) (b1 : TOK (e + 1) XC) (d : ((XC.1 0 3).toInt = 0 ∧ (XR.1 0 3).toInt = 0 ∧ (XC.1 0 4).toInt = 0 ∧ (XR.1 0 4).toInt = 0 ∧ (XR.1 0 18).toInt = 0) ∨ (¬ (XC.1 0 3).toInt = 0 ∧ ¬ (XR.1 0 3).toInt = 0 ∧ ∃ n0, PG7 ch n0 ps c told XR ∧ CP7 e ch ps told c XC ∧ (PWd ps ∧ ∀ a ∈ c, a.1 = 34 → WKd 40 a.2.2.2) ∧ ps.length ≤ 40 ∧ KVa True XR ∧ (SC10 e ps c XC ∧ psx ps c 0 = 0) ∧ J10 e ch ps c told XC XR)) {ch0 : Tx} (a : RC10 ch0 f e XC r X) (b : RDx ch0 n XR r1 X1) (a8 : ((X.1 0 4).toInt = 0 ∧ X.2.2 0 9 = f + 1) ∨ (C8 XC X ∧ X.2.2 0 9 = XC.2.2 0 9)) (b8 : RD10 ch ps c told XR r1 X1) (hM : (X1.1 0 3).toInt = 0 → (X1.1 0 4).toInt = 0) : PJo10 X X1 := by
  obtain ⟨a3, t, g⟩ := a
  rcases a3 with ⟨ps2, c2, q1, q2, _, q3, q4, q5, q6⟩ | ⟨q1, _, q3, q4⟩
  · have z4 : (X.1 0 4).toInt = 0 := by
      rcases a8 with z | z
      · exact z.1
      · have := q4.1
        have := z.2
        omega
    refine ⟨f, e, he.elim (fun z => Or.inr ⟨z.2, z.1⟩) (fun z => Or.inl ⟨z.2, z.1⟩), q4, ⟨t, b1.pgs g⟩, Or.inr ⟨q3, ?_⟩⟩
    rcases b with ⟨ps1, c1, y1, y2, yl, y3, y4⟩ | ⟨y1, _⟩
    · rw [q1] at y1
      have ee := Option.some.inj y1
      have ep : ps2 = ps1 := congrArg Prod.fst ee
      have ec : c2 = c1 := congrArg Prod.snd ee
      rw [← ep, ← ec] at y4
      have hl : ps2.length ≤ 40 := q5.1.2.1
      obtain ⟨N, hR⟩ := y4.2.2.2.2.1
      obtain ⟨z1, z2⟩ := q5.cp hR.2.2.2.2.2.2.2.2
      rcases b8 with ⟨_, v1, v2⟩ | ⟨v0, _⟩
      · exact ⟨y3, ch0, n, ps2, c2, _, y4, z1, z2, hl, v1, ⟨q6, psx_zero hR.2.2.1⟩, Or.inl ⟨z4, v2⟩⟩
      · rw [v0] at yl
        exact absurd yl (by omega)
    · exact absurd q2 (y1 ps2 c2 q1)
  · have z8 : C8 XC X := by
      rcases a8 with z | z
      · have := q4.1
        have := z.2
        omega
      · exact z.1
    refine ⟨e, f, he, q4, ⟨b1.pgs g, t⟩, ?_⟩
    rcases b with ⟨ps1, c1, y1, y2, _⟩ | ⟨_, ym, y3, y4⟩
    · exact absurd y2 (q1 ps1 c1 y1)
    · rcases b8 with ⟨v0, _⟩ | ⟨_, b18, b8⟩
      · exact absurd ym v0
      · rw [q3, y3]
        rw [y3] at hM
        rcases d with ⟨d1, d2, d3, _⟩ | ⟨d1, d2, n0, d3, d4, d5, d6, d7, d9, d8⟩
        · exact Or.inl ⟨d1, d2, by rw [z8.1]; exact d3, hM d2, b18 d2⟩
        · obtain ⟨v1, v2, v3⟩ := b8 d2
          refine Or.inr ⟨d1, d2, ch, n0, ps, c, told, y4 ch n0 ps c told d2 d3, d4.fr g.1, d5, d6, v1, ⟨d9.1.pgs g, d9.2⟩, ?_⟩
          rcases d8 with ⟨z1, z2⟩ | ⟨z1, z2, G, z3, z5, z6⟩
          · exact Or.inl ⟨by rw [z8.1]; exact z1, v2 z2⟩
          · obtain ⟨rr, w1, w2⟩ := v3 z2
            have ew := JALL.det _ _ _ _ _ w1 z3
            rw [ew] at w2
            have w2k := w2
            rcases w2 with ⟨G1, x1, x2, x3⟩ | ⟨ff, x1, _⟩
            · exact Or.inr ⟨by rw [z8.1]; exact z1, x2, G, z3, z5.kp (he.elim (fun z => Or.inl z.1) (fun z => Or.inr z.1)) z8 g, w2k⟩
            · exact absurd x1 (by simp)
/-- both judge the same -/
theorem J10.of {rr rr1 : Sum (List JG × List Bool) (Int × Int)} (h1 : JALL ch ps told c ps.length 0 ([], []) rr) (h2 : J10C e c X rr) (h3 : JALL ch ps told c ps.length 0 ([], []) rr1) (h4 : J10R ch ps c X1 rr1) : J10 e ch ps c told X X1 := by
  have ew := JALL.det _ _ _ _ _ h3 h1
  rw [ew] at h4
  cases rr with
  | inl G =>
    have g2 : ¬ (X.1 0 4).toInt = 0 := by
      rcases h2 with ⟨G1, a, b, _⟩ | ⟨ff, a, b⟩
      · exact b
      · exact nomatch a
    have g4 : ¬ (X1.1 0 4).toInt = 0 := by
      rcases h4 with ⟨G1, a, b, _⟩ | ⟨ff, a, b⟩
      · exact b
      · exact nomatch a
    exact Or.inr ⟨g2, g4, G, h1, h2, h4⟩
  | inr ff =>
    refine Or.inl ⟨?_, ?_⟩
    · rcases h2 with ⟨G1, a, b, _⟩ | ⟨ff, a, b⟩
      · exact nomatch a
      · exact b
    · rcases h4 with ⟨G1, a, b, _⟩ | ⟨ff, a, b⟩
      · exact nomatch a
      · exact b
/-- both answer a run the same -/
theorem PJ10.run (he : (e = 2 ∧ f = 24) ∨ (e = 24 ∧ f = 2)) (hM : JM XR) (h : PJ10 e f XC XR) : pw (f_run p1 XR) (fun z Z1 => pw (g_Court_run p1 XC) (fun z1 V1 => z1 = z ∧ RNQ XR XC z Z1 V1)) := by
  have he1 : e = 2 ∨ e = 24 := he.elim (fun z => Or.inl z.1) (fun z => Or.inr z.1)
  obtain ⟨⟨a1, a2⟩, _, d⟩ := h
  have off : (XC.1 0 4).toInt = 0 → (XR.1 0 4).toInt = 0 → pw (f_run p1 XR) (fun z Z1 => pw (g_Court_run p1 XC) (fun z1 V1 => z1 = z ∧ RNQ XR XC z Z1 V1)) := fun z1 z2 => by
    unfold f_run
    refine pw_let (pw_pos z2 (pw_ret ?_))
    unfold g_Court_run
    exact pw_let (pw_pos z1 (pw_ret ⟨rfl, Or.inl ⟨rfl, rfl, rfl⟩⟩))
  rcases d with ⟨_, _, d3, d4, _⟩ | ⟨d1, d2, ch, n, ps, c, told, d3, d4, d5, d6, d7, d9, d8⟩
  · exact off d3 d4
  rcases d8 with ⟨z1, z2⟩ | ⟨z1, z2, G, z3, z4, z5⟩
  · exact off z1 z2
  · obtain ⟨⟨y1, ⟨k, y2, y3⟩, y4⟩, y5⟩ := d9
    refine n_run he1 hM z5 z4 z3 d4 a1 y1 ?_ y5 d6 (by omega)
    obtain ⟨N, hR⟩ := d3.2.2.2.2.1
    obtain ⟨k1, k2, k3⟩ := hR.2.2.2.2.2.2.1
    rw [tx7_ne (by omega)] at k3
    rw [y2] at k2
    refine Int32.toInt_inj.mp ?_
    rw [y3, k3, Option.some.inj k2]
end PJ10S
