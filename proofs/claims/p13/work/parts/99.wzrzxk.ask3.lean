/-! the whole of an asking -/
theorem pw_all {ρ ι : Type} {F : Option (ρ × St)} {Q : ι → ρ → St → Prop} (h : ∀ i, pw F (Q i)) : pw F (fun z X => ∀ i, Q i z X) := fun z X e i => h i z X e
section ASK3S
variable {X Y Z X1 Y1 X2 Y2 : St} {r r1 r2 : Nat → Int32} {s w k k1 a b p g t p1 p2 ai b0 : Int32} {y y1 : Int64} {ks : List (List Int)} {e c m n i j : Nat} {d d1 : List Int} {u : Bool} {G : Nat → Int32}
/-- rows or functions with any in them, and what is asked or given -/
theorem n_askV {zr : Int32} {dr : List Int} (h : APR e X Y r ks c y) (hi : ix p1 = c) (g1 : fq Lw19 X X1) (g2 : KJq X1 ∧ KU X1 ∧ KXq X X1) (kd : KR X ks k a d) (hz : KTo X1 zr dr) (hs : sot d = sot dr ∧ ((sot d = 3 ∧ (X.1 60 c).toInt = 3) ∨ (sot d = 4 ∧ tkn d = tkn dr ∧ (X.1 60 c).toInt = 4))) (hg : 0 ≤ g.toInt ∧ g.toInt ≤ 39) (ht : 0 ≤ t.toInt ∧ t.toInt ≤ 39) (N : Nat) : pw (f_asks_9 N p1 g t p k zr (1 : Int32) X1) (fun _ X2 => ∀ q : Int32 × Int32 × Nat, KC ks q.1 dr → q.2.1.toInt < 3 → pw (g_Running_ask_10 q.2.2 y g t p a q.1 q.2.1 Y) (fun y1 Y1 => ASQ X Y r ks c y1 X2 Y1)) := by
  obtain ⟨h1, h2, h3, h4⟩ := h.fq g1 g2
  refine pw_all (fun q => pw_im (fun hk => pw_im (fun ha => ?_)))
  exact pw_mono (n_ask2 (p := p) h1 hi (kd.kx h.1.2.1.1 g2.2.2) ⟨hz, hk⟩ (by rw [h4]; exact hs) hg ht ha q.2.2 N) (fun _ X2 q2 => pw_mono q2 (fun y1 Y1 q3 => q3.pre h2 CF.rf g2.2.2 h3))
theorem n_askW {zr : Int32} {dr : List Int} (h : APR e X Y r ks c y) (hi : ix p1 = c) (g1 : fq Lw19 X X1) (g2 : KJq X1 ∧ KU X1 ∧ KXq X X1) (kd : KR X ks k a d) (hz : KTo X1 zr dr) (hs : sot dr = sot d ∧ ((sot dr = 3 ∧ (X.1 60 c).toInt = 3) ∨ (sot dr = 4 ∧ tkn dr = tkn d ∧ (X.1 60 c).toInt = 4))) (hg : 0 ≤ g.toInt ∧ g.toInt ≤ 39) (ht : 0 ≤ t.toInt ∧ t.toInt ≤ 39) (N : Nat) : pw (f_asks_9 N p1 g t p zr k (1 : Int32) X1) (fun _ X2 => ∀ q : Int32 × Int32 × Nat, KC ks q.1 dr → q.2.1.toInt < 3 → pw (g_Running_ask_10 q.2.2 y g t p q.1 a q.2.1 Y) (fun y1 Y1 => ASQ X Y r ks c y1 X2 Y1)) := by
  obtain ⟨h1, h2, h3, h4⟩ := h.fq g1 g2
  refine pw_all (fun q => pw_im (fun hk => pw_im (fun ha => ?_)))
  exact pw_mono (n_ask2 (p := p) h1 hi ⟨hz, hk⟩ (kd.kx h.1.2.1.1 g2.2.2) (by rw [h4]; exact hs) hg ht ha q.2.2 N) (fun _ X2 q2 => pw_mono q2 (fun y1 Y1 q3 => q3.pre h2 CF.rf g2.2.2 h3))
/-- what stands behind the count: to any -/
theorem n_askA (h : APR e X Y r ks c y) (hi : ix p1 = c) (kd : KR X ks k a d) (h2 : k1.toInt = 2) (hw : 0 ≤ sot d ∧ sot d ≤ 4 ∧ tkn d ≤ 4) (hty : (sot d = 3 → (X.1 60 c).toInt = 3) ∧ (sot d = 4 → (X.1 60 c).toInt = 4)) (hg : 0 ≤ g.toInt ∧ g.toInt ≤ 39) (ht : 0 ≤ t.toInt ∧ t.toInt ≤ 39) (fl : Int32) (hf : (sot d ≤ 2 ∧ fl = 0) ∨ (3 ≤ sot d ∧ fl = 1)) (N : Nat) : pw (f_asks_60 (f_asks_9 N) p1 g t p k k1 fl X) (fun _ X2 => (¬ sot d = 3 → ¬ sot d = 4 → ASQ X Y r ks c y X2 Y) ∧ ∀ (z a2 : Int32) (M1 : Nat), ((sot d = 3 ∧ z = 3) ∨ (sot d = 4 ∧ z.toInt = 4 + (tkn d : Int) ∧ tkn d ≤ 4)) → a2.toInt < 3 → pw (g_Running_ask_10 M1 y g t p a z a2 Y) (fun y1 Y1 => ASQ X Y r ks c y1 X2 Y1)) := by
  have l1 : (1 : Int32).toInt = 1 := by decide
  have h0 := h
  obtain ⟨hB, hS, hO, hH, hv⟩ := h
  obtain ⟨w1, w2⟩ := kd.1.srt
  have hJ := hB.2.1.1
  have hU := hB.2.1.2
  unfold f_asks_60
  refine pw_ck (fun _ => pw_eq (fun x23 e23 => pw_ite (fun c4 => pw_bd (n_row2 hJ hU) ?_) (fun c4 => pw_ck (fun _ => pw_eq (fun x24 e24 => pw_ite (fun c5 => pw_ck (fun _ => pw_eq (fun x25 e25 => pw_eq (fun x26 e26 => pw_bd (n_anyF (n := tkn d) hJ hU ?_ (by omega)) ?_)))) (fun c5 => ?_))))))
  · rintro z V ⟨v1, v2, v3⟩
    have s3 : sot d = 3 := by rw [← e23] at w1; omega
    have ef : fl = 1 := (hf.resolve_left (fun q => by omega)).2
    unfold f_asks_110
    rw [ef]
    have t3 : tkn d = tkn ([4, 3] : List Int) := tkn_3 s3
    refine pw_mono (n_askV (p := p) h0 hi v1 v2 kd v3 ⟨s3, Or.inl ⟨s3, hty.1 s3⟩⟩ hg ht N) (fun _ X2 q => ⟨fun n3 => absurd s3 n3, fun zz a2 M1 hz ha => ?_⟩)
    rcases hz with ⟨_, hz⟩ | ⟨hz, _⟩
    · exact q (zz, a2, M1) (by rw [hz]; exact (KC.pl hB.2.2.1.2).2.2.2) ha
    · omega
  · have s4 : sot d = 4 := by rw [← e24] at w1; omega
    rw [← e25, cps4 s4] at w2
    have := x25.toInt_lt
    rw [e26, ti_sub (by rw [l1]; omega) (by rw [l1]; omega), l1]
    omega
  · rintro z V ⟨v1, v2, v3⟩
    have s4 : sot d = 4 := by rw [← e24] at w1; omega
    have ef : fl = 1 := (hf.resolve_left (fun q => by omega)).2
    unfold f_asks_110
    rw [ef]
    obtain ⟨a1, a2⟩ := sot_anf (tkn d)
    refine pw_mono (n_askV (p := p) h0 hi v1 v2 kd v3 ⟨by rw [a1]; exact s4, Or.inr ⟨s4, a2.symm, hty.2 s4⟩⟩ hg ht N) (fun _ X2 q => ⟨fun _ n4 => absurd s4 n4, fun zz a2 M1 hz ha => ?_⟩)
    rcases hz with ⟨hz, _⟩ | ⟨_, hz, hz4⟩
    · omega
    · exact q (zz, a2, M1) (KC.an hB.2.2.1.2 hz4 hz) ha
  · have s2 : sot d ≤ 2 := by
      rw [e23] at c4
      rw [e24] at c5
      omega
    have ef : fl = 0 := (hf.resolve_right (fun q => by omega)).2
    unfold f_asks_110
    rw [ef]
    refine pw_mono (n_ask0 N) (fun _ X2 e2 => ?_)
    rw [e2]
    exact ⟨fun _ _ => ASQ.id hB hS hO hH hv, fun z a2 M1 hz _ => by omega⟩
/-- what stands behind the look: from any -/
theorem n_askB (h : APR e X Y r ks c y) (hi : ix p1 = c) (kd1 : KR X ks k1 b d1) (hw : 0 ≤ sot d1 ∧ sot d1 ≤ 4 ∧ tkn d1 ≤ 4) (h2 : ¬ sot d1 = 2) (hs : (X.1 60 c).toInt = sot d1) (hg : 0 ≤ g.toInt ∧ g.toInt ≤ 39) (ht : 0 ≤ t.toInt ∧ t.toInt ≤ 39) (N : Nat) : pw (f_asks_144 (f_asks_9 N) p1 g t p k k1 X) (fun _ X2 => (¬ sot d1 = 3 → ¬ sot d1 = 4 → ASQ X Y r ks c y X2 Y) ∧ ∀ (z a2 : Int32) (M1 : Nat), ((sot d1 = 3 ∧ z = 3) ∨ (sot d1 = 4 ∧ z.toInt = 4 + (tkn d1 : Int) ∧ tkn d1 ≤ 4)) → a2.toInt < 3 → pw (g_Running_ask_10 M1 y g t p z b a2 Y) (fun y1 Y1 => ASQ X Y r ks c y1 X2 Y1)) := by
  have l1 : (1 : Int32).toInt = 1 := by decide
  have h0 := h
  obtain ⟨hB, hS, hO, hH, hv⟩ := h
  obtain ⟨w1, w2⟩ := kd1.1.srt
  have hJ := hB.2.1.1
  have hU := hB.2.1.2
  unfold f_asks_144
  refine pw_ck (fun _ => pw_eq (fun x9 e9 => pw_ite (fun c3 => ?_) (fun c3 => pw_bd (n_isOn1 hO) ?_)))
  · have s2 : sot d1 ≤ 2 := by rw [← e9] at w1; omega
    unfold f_asks_166 f_asks_167
    refine pw_ck (fun _ => pw_eq (fun x10 e10 => pw_neg (by rw [e10]; omega) (pw_ck (fun _ => pw_eq (fun x11 e11 => pw_neg (by rw [e11]; omega) ?_)))))
    unfold f_asks_217
    refine pw_mono (n_ask0 N) (fun _ X2 e2 => ?_)
    rw [e2]
    exact ⟨fun _ _ => ASQ.id hB hS hO hH hv, fun z a2 M1 hz _ => by omega⟩
  · rintro z18 X19 ⟨e19, e18⟩
    rw [e19, e18]
    refine pw_neg (by decide) ?_
    unfold f_asks_167
    refine pw_ck (fun _ => pw_eq (fun x10 e10 => pw_ite (fun c4 => pw_bd (n_row2 hJ hU) ?_) (fun c4 => pw_ck (fun _ => pw_eq (fun x11 e11 => pw_ite (fun c5 => pw_ck (fun _ => pw_eq (fun x12 e12 => pw_eq (fun x13 e13 => pw_bd (n_anyF (n := tkn d1) hJ hU ?_ (by omega)) ?_)))) (fun c5 => ?_))))))
    · rintro z V ⟨v1, v2, v3⟩
      have s3 : sot d1 = 3 := by rw [← e10] at w1; omega
      unfold f_asks_217
      refine pw_mono (n_askW (p := p) h0 hi v1 v2 kd1 v3 ⟨s3.symm, Or.inl ⟨rfl, by omega⟩⟩ hg ht N) (fun _ X2 q => ⟨fun n3 => absurd s3 n3, fun zz a2 M1 hz ha => ?_⟩)
      rcases hz with ⟨_, hz⟩ | ⟨hz, _⟩
      · exact q (zz, a2, M1) (by rw [hz]; exact (KC.pl hB.2.2.1.2).2.2.2) ha
      · omega
    · have s4 : sot d1 = 4 := by rw [← e11] at w1; omega
      rw [← e12, cps4 s4] at w2
      have := x12.toInt_lt
      rw [e13, ti_sub (by rw [l1]; omega) (by rw [l1]; omega), l1]
      omega
    · rintro z V ⟨v1, v2, v3⟩
      have s4 : sot d1 = 4 := by rw [← e11] at w1; omega
      unfold f_asks_217
      obtain ⟨a1, a2⟩ := sot_anf (tkn d1)
      refine pw_mono (n_askW (p := p) h0 hi v1 v2 kd1 v3 ⟨by rw [a1]; exact s4.symm, Or.inr ⟨a1, a2, by omega⟩⟩ hg ht N) (fun _ X2 q => ⟨fun _ n4 => absurd s4 n4, fun zz a2 M1 hz ha => ?_⟩)
      rcases hz with ⟨hz, _⟩ | ⟨_, hz, hz4⟩
      · omega
      · exact q (zz, a2, M1) (KC.an hB.2.2.1.2 hz4 hz) ha
    · exfalso
      rw [e9] at c3
      rw [e10] at c4
      rw [e11] at c5
      omega
end ASK3S
