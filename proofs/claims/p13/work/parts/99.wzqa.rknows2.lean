/-! the reference looks up the names used -/
section RKNOWS2
variable {ch : Tx} {n q : Nat} {X Y Z X0 : St} {o : Int} {sc : List Nm} {j N N1 s N0 m : Nat} {Q : Int32 → St → Prop} {c c1 : List Ins} {ps : List Pt} {l : Nm}
/-- all parts told once, all names known -/
def NG1 (ps : List Pt) : Prop := ∀ k, k < ps.length → partOf (nmsOf ps) ((nmsOf ps).getD k []) = some k
def NG2 (ch : Tx) (ps : List Pt) (c : List Ins) : Prop := ∀ p, NPl c p → ¬ partOf (nmsOf ps) (nm ch p.toNat) = none
/-- what a node names is looked up -/
def RSm (ch : Tx) (ps : List Pt) (Z : St) (m : Nat) : Prop := (Z.1 20 m).toInt = 3 → ∀ p, (nm ch (Int.toNat p)).length ≤ 8 → Z.2.1 29 m = lN (p6 (nm ch p.toNat)) → ∃ k : Nat, partOf (nmsOf ps) (nm ch p.toNat) = some k ∧ (Z.1 26 m).toInt = (k : Int) ∧ k < ps.length
/-- only row 26 changes, at names of parts -/
def KNw (X Y : St) : Prop := (∀ e k, ¬ e = 26 → ¬ (e = 0 ∧ (k = 9 ∨ k = 10)) → Y.1 e k = X.1 e k) ∧ (∀ k, ¬ (X.1 20 k).toInt = 3 → Y.1 26 k = X.1 26 k) ∧ Y.2 = X.2
theorem KNw.rf : KNw X X := ⟨fun _ _ _ _ => rfl, fun _ _ => rfl, rfl⟩
theorem KNw.tr (h : KNw X Y) (g : KNw Y Z) : KNw X Z := ⟨fun e k a b => (g.1 e k a b).trans (h.1 e k a b), fun k hk => (g.2.1 k (by rw [h.1 20 k (by omega) (by omega)]; exact hk)).trans (h.2.1 k hk), g.2.2.trans h.2.2⟩
theorem PLk.lt {v : Int32} (hT : TXT ch n) (h : PLk ch v) : v.toInt < (n : Int) := by
  have := ch_in hT h.2
  have := ixc h.1
  omega
theorem x_knows60 (hk : ps.length ≤ 41) : ∀ (M i : Nat) (a1 a2 a3 : Int32) (Z : St), a3.toInt = (i : Int) → RX ch n Z q → (Z.1 0 19).toInt = (N : Int) → NMr ch Z N c → PAq ch Z ps → ((a2.toInt = 0 ∧ a1.toInt = (n : Int) + 1 ∧ NG1 ps ∧ ∀ m, m < i → m < N → RSm ch ps Z m) ∨ (1 ≤ a2.toInt ∧ ¬ (NG1 ps ∧ NG2 ch ps c))) → pw (f_knows_60 M a1 a2 a3 Z) (fun _ Y => ((NG1 ps ∧ NG2 ch ps c) ∧ RX ch n Y q ∧ PAq ch Y ps ∧ KNw Z Y ∧ ∀ m, m < N → RSm ch ps Y m) ∨ (¬ (NG1 ps ∧ NG2 ch ps c) ∧ wrX Y)) := by
  have l1 : (Int32.ofInt 1).toInt = 1 := by decide
  have l6 : (6 : Int32).toInt = 6 := by decide
  intro M
  induction M with
  | zero => exact fun _ _ _ _ _ _ _ _ _ _ _ => pw_none
  | succ M ih =>
    intro i a1 a2 a3 Z h3 hR h19 hM hP inv
    have hT := hR.1.1
    have e : f_knows_60 (M + 1) = f_knows_60_s (f_knows_60 M) := by
      unfold f_knows_60
      exact lp_succ _ _ _
    rw [e]
    unfold f_knows_60_s
    refine pw_let (pw_ite (fun c4 => ?_) (fun c4 => ?_))
    · rcases inv with ⟨i1, i2, i3, i4⟩ | ⟨i1, i2⟩
      · refine pw_pos (by omega) (pw_ret (Or.inl ⟨⟨i3, fun p hp => ?_⟩, hR, hP, KNw.rf, fun m hm => i4 m (by omega) hm⟩))
        obtain ⟨m, hm, hk3, hn, hlen⟩ := hM.2 p hp
        obtain ⟨k, hk, _⟩ := i4 m (by omega) hm hk3 p hlen hn
        rw [hk]
        exact fun z => Option.some_ne_none _ z
      · refine pw_neg (by omega) ?_
        exact pw_bd (q_fails Z (by omega)) (fun _ _ d => pw_ret (Or.inr ⟨i2, d⟩))
    · refine pw_ck (fun hc => ?_)
      have hc2 := hc.2
      refine pw_let ?_
      rw [ixn h3]
      have stepv : (a3 + Int32.ofInt 1).toInt = ((i + 1 : Nat) : Int) := by rw [ti_add (by rw [h3, l1]; omega) (by rw [h3, l1]; omega), h3, l1]; omega
      refine pw_ite (fun c6 => ?_) (fun c6 => ?_)
      · obtain ⟨⟨p0, hp0, hn0, hlen0⟩, hplk⟩ := hM.1 i (by omega) c6
        refine pw_ck (fun _ => pw_let ?_)
        refine pw_bd (x_partOf (l := nm ch p0.toNat) hP hk ⟨nm_lt hT _, hlen0⟩ hn0) ?_
        rintro x8 X9 ⟨e9, h8⟩
        rw [e9]
        refine pw_ck (fun _ => pw_eq (fun X10 e10 => ?_))
        have at10 : X10.1 26 i = x8 := by rw [e10, wI_at]
        refine pw_ck (fun _ => pw_let ?_)
        rw [at10]
        have g10 : RX ch n X10 q := by rw [e10]; exact hR.wI (by omega)
        have n10 : (X10.1 0 19).toInt = (N : Int) := by rw [e10, wI_ne _ _ _ _ _ _ (by omega)]; exact h19
        have m10 : NMr ch X10 N c := by rw [e10]; exact hM.wI (by omega)
        have p10 : PAq ch X10 ps := hP.sp (by rw [e10]; exact SPt.wI (by omega))
        have r20 : ∀ m, X10.1 20 m = Z.1 20 m := fun m => by rw [e10, wI_ne _ _ _ _ _ _ (by omega)]
        have r29 : X10.2 = Z.2 := by rw [e10]; rfl
        have r21 : X10.1 21 i = Z.1 21 i := by rw [e10, wI_ne _ _ _ _ _ _ (by omega)]
        have hlt := hplk.lt hT
        unfold f_knows_126
        have kn10 : KNw Z X10 := ⟨fun e k a b => by rw [e10, wI_ne _ _ _ _ _ _ (by omega)], fun k hk => by
          rw [e10, wI_ne _ _ _ _ _ _ (fun g => hk (by rw [g.2]; exact c6))], by rw [e10]; rfl⟩
        have big : ∀ {F : Option (Int32 × St)}, pw F (fun _ Y => ((NG1 ps ∧ NG2 ch ps c) ∧ RX ch n Y q ∧ PAq ch Y ps ∧ KNw X10 Y ∧ ∀ m, m < N → RSm ch ps Y m) ∨ (¬ (NG1 ps ∧ NG2 ch ps c) ∧ wrX Y)) → pw F (fun _ Y => ((NG1 ps ∧ NG2 ch ps c) ∧ RX ch n Y q ∧ PAq ch Y ps ∧ KNw Z Y ∧ ∀ m, m < N → RSm ch ps Y m) ∨ (¬ (NG1 ps ∧ NG2 ch ps c) ∧ wrX Y)) := fun h => pw_mono h (fun _ Y g => g.imp (fun ⟨a, b, d, f, i⟩ => ⟨a, b, d, kn10.tr f, i⟩) (fun g => g))
        refine pw_ite (fun c8 => ?_) (fun c8 => ?_)
        · refine pw_let (big (ih (i + 1) a1 a2 _ X10 stepv g10 n10 m10 p10 ?_))
          rcases inv with ⟨i1, i2, i3, i4⟩ | inv
          · refine Or.inl ⟨i1, i2, i3, fun m hm hmN hk3 p hlen hn => ?_⟩
            rw [r20] at hk3
            rw [r29] at hn
            by_cases em : m = i
            · rw [em, hn0] at hn
              have eq : nm ch p0.toNat = nm ch p.toNat := by
                have := (pk_lEQ (by have := p6_lt (nm_lt hT p0.toNat) hlen0; omega) (by have := p6_lt (nm_lt hT p.toNat) hlen; omega)).mp hn
                exact p6_inj (nm_lt hT _) (nm_lt hT _) this
              rw [← eq, em, at10]
              rcases h8 with ⟨_, h8⟩ | ⟨k, h8, h8b, h8c⟩
              · omega
              · exact ⟨k, h8, h8b, h8c⟩
            · rw [show X10.1 26 m = Z.1 26 m from by rw [e10, wI_ne _ _ _ _ _ _ (by omega)]]
              exact i4 m (by omega) hmN hk3 p hlen hn
          · exact Or.inr inv
        · have no : partOf (nmsOf ps) (nm ch p0.toNat) = none := by
            rcases h8 with ⟨h8, _⟩ | ⟨k, _, h8, _⟩
            · exact h8
            · omega
          have bad : ¬ (NG1 ps ∧ NG2 ch ps c) := fun z => z.2 p0 hp0 no
          refine pw_ck (fun _ => pw_let ?_)
          rw [r21]
          refine pw_ite (fun c13 => ?_) (fun c13 => ?_)
          · refine pw_let (big (ih (i + 1) a1 a2 _ X10 stepv g10 n10 m10 p10 (Or.inr ⟨?_, bad⟩)))
            rcases inv with ⟨i1, i2, _⟩ | inv
            · omega
            · exact inv.1
          · refine pw_ck (fun _ => pw_let (pw_let (big (ih (i + 1) _ _ _ X10 stepv g10 n10 m10 p10 (Or.inr ⟨by omega, bad⟩)))))
      · unfold f_knows_126
        refine pw_let (ih (i + 1) a1 a2 _ Z stepv hR h19 hM hP ?_)
        rcases inv with ⟨i1, i2, i3, i4⟩ | inv
        · refine Or.inl ⟨i1, i2, i3, fun m hm hmN hk3 => ?_⟩
          by_cases em : m = i
          · rw [em] at hk3
            exact absurd hk3 c6
          · exact i4 m (by omega) hmN hk3
        · exact Or.inr inv
end RKNOWS2
