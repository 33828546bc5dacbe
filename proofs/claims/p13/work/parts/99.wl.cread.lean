/-! the class reads a text: parts, names, all of it -/
section CRD
variable {e n : Nat} {ch : Tx} {X0 X Y Z : St} {ps : List Pt} {c : List Ins}
/-- a part in its rows -/
def PTE (e : Nat) (Y : St) (k : Nat) (p : Pt) : Prop := (Y.2.1 (e + 10) k = lN (p8 p.2.2.1) ∧ LT p.2.2.1 ∧ p.2.2.1.length ≤ 8) ∧ (Y.1 (e + 11) k).toInt = (p.2.2.1.length : Int) ∧ (Y.1 (e + 12) k).toInt = (p.1 : Int) ∧ (Y.1 (e + 13) k).toInt = (p.2.2.2.1.length : Int) ∧ (Y.1 (e + 17) k).toInt = (p.2.2.2.2.2 : Int)
def PTS (e : Nat) (Y : St) (ps : List Pt) : Prop := ∀ k p, ps[k]? = some p → PTE e Y k p
theorem PTE.fr {k : Nat} {p : Pt} (h : PTE e Y k p) (h1 : ∀ j, (j = e + 11 ∨ j = e + 12 ∨ j = e + 13 ∨ j = e + 17) → Z.1 j k = Y.1 j k) (h2 : Z.2.1 (e + 10) k = Y.2.1 (e + 10) k) : PTE e Z k p := by
  obtain ⟨⟨a, b⟩, c, d, f, g⟩ := h
  exact ⟨⟨h2.trans a, b⟩, by rw [h1 _ (Or.inl rfl)]; exact c, by rw [h1 _ (Or.inr (Or.inl rfl))]; exact d, by rw [h1 _ (Or.inr (Or.inr (Or.inl rfl)))]; exact f, by rw [h1 _ (Or.inr (Or.inr (Or.inr rfl)))]; exact g⟩
theorem PTS.fr (h : PTS e Y ps) (h1 : ∀ j k, (j = e + 11 ∨ j = e + 12 ∨ j = e + 13 ∨ j = e + 17) → k < ps.length → Z.1 j k = Y.1 j k) (h2 : ∀ k, k < ps.length → Z.2.1 (e + 10) k = Y.2.1 (e + 10) k) : PTS e Z ps := fun k p hp => by
  have hk := (List.getElem?_eq_some_iff.mp hp).1
  exact (h k p hp).fr (fun j hj => h1 j k hj hk) (h2 k hk)
theorem nmsOf_at {k : Nat} {p : Pt} (h : ps[k]? = some p) : (nmsOf ps)[k]? = some p.2.2.1 := by
  unfold nmsOf
  rw [List.getElem?_map, h]
  rfl
def kps (ps : List Pt) : Nat := (ps.map (fun p => kpp p.2.2.2.1 + kcn p.2.2.2.2.1)).sum
theorem kps_ap (ps : List Pt) (p : Pt) : kps (ps ++ [p]) = kps ps + kpp p.2.2.2.1 + kcn p.2.2.2.2.1 := by
  unfold kps
  rw [List.map_append, List.sum_append, List.map_cons, List.map_nil, List.sum_cons, List.sum_nil]
  omega
def PWd (ps : List Pt) : Prop := ∀ p ∈ ps, (∀ x ∈ p.2.2.2.1, WKd 39 x.2) ∧ WKd 40 p.2.2.2.2.1 ∧ p.2.2.2.1.length ≤ 4
/-- the parts' kinds stand in the table -/
def PKSq (e : Nat) (Y : St) (ps : List Pt) (ks : List (List Int)) : Prop := ∀ k p, ps[k]? = some p → (∀ i, i < p.2.2.2.1.length → ∃ z : Nat, (Y.1 (e + 14) (4 * k + i)).toInt = (z : Int) ∧ ks[z]? = some (p.2.2.2.1.reverse.getD i ([], [])).2) ∧ ∃ z : Nat, (Y.1 (e + 15) k).toInt = (z : Int) ∧ ks[z]? = some p.2.2.2.2.1
/-- kinds and told parts of a program that has been read -/
def KSq (e : Nat) (Y : St) (ps : List Pt) (c : List Ins) : Prop := PWd ps ∧ (∀ k, k < 40 → (Y.1 (e + 16) k).toInt = 1) ∧ (9 + kps ps + kcs c ≤ 1549 → ∃ ks, (TKS (e + 1) Y ks ∧ (K9 <+: ks ∧ ∀ d ∈ ks, WKd 40 d) ∧ ks.length ≤ 9 + kps ps + kcs c ∧ (Y.1 e 5).toInt = (ks.length : Int)) ∧ (∀ i a, c[i]? = some a → a.1 = 34 → ∃ z : Nat, Y.1 (e + 19) i = Int32.ofInt (a.2.1 + (z : Int)) ∧ ks[z]? = some a.2.2.2) ∧ PKSq e Y ps ks)
theorem KSq.cg (h : KSq e Y ps c) (hk : ∀ j k, (e + 1 ≤ j ∧ j ≤ e + 8) ∨ (e + 14 ≤ j ∧ j ≤ e + 16) ∨ (j = e ∧ k = 5) → Z.1 j k = Y.1 j k) (h19 : ∀ (i : Nat) (a : Ins), c[i]? = some a → a.1 = 34 → Z.1 (e + 19) i = Y.1 (e + 19) i) : KSq e Z ps c := by
  refine ⟨h.1, fun k h1 => by rw [hk _ _ (by omega)]; exact h.2.1 k h1, fun b => ?_⟩
  obtain ⟨ks, ⟨a1, a2, a3, a4⟩, a5, a6⟩ := h.2.2 b
  refine ⟨ks, ⟨a1.cg (fun j k q1 q2 _ => hk j k (by omega)), a2, a3, by rw [hk _ _ (by omega)]; exact a4⟩, fun i a ha h34 => by rw [h19 i a ha h34]; exact a5 i a ha h34, fun k p hp => ?_⟩
  obtain ⟨b1, b2⟩ := a6 k p hp
  exact ⟨fun i hi => by rw [hk _ _ (by omega)]; exact b1 i hi, by rw [hk _ _ (by omega)]; exact b2⟩
/-- .. as its names are looked up -/
def RS (ch : Tx) (n e : Nat) (Y : St) (ps : List Pt) (c : List Ins) (m : Nat) : Prop :=
  ((e = 2 ∨ e = 24) ∧ Y.2.2 46 1 = e + 1 ∧ TXC ch n Y ∧ KSq e Y ps c) ∧ (Y.1 46 3).toInt = 0 ∧ ((Y.1 e 1).toInt = (ps.length : Int) ∧ ps.length ≤ 40 ∧ PTS e Y ps ∧ (Y.1 (e + 17) ps.length).toInt = (c.length : Int) ∧ (Y.1 e 6).toInt = (c.length : Int)) ∧
  (∀ (i : Nat) (a : Ins), c[i]? = some a → (Y.1 (e + 18) i).toInt = a.1 ∧ (Y.1 (e + 21) i).toInt = a.2.2.1 ∧ (a.1 = 4 → 0 ≤ a.2.2.1 ∧ a.2.2.1 ≤ n ∧ ty ch a.2.2.1.toNat = 258)) ∧
  (∀ (i : Nat) (a : Ins), c[i]? = some a → ¬ a.1 = 34 → (a.1 = 4 → i < m → ∃ k : Nat, partOf (nmsOf ps) (nm ch a.2.2.1.toNat) = some k ∧ (Y.1 (e + 19) i).toInt = (k : Int)) ∧ (¬ (a.1 = 4 ∧ i < m) → Y.1 (e + 19) i = Int32.ofInt a.2.1))
theorem RS.pe {m : Nat} (h : RS ch n e Y ps c m) : Y.2.2 46 1 - 1 = e := by rw [h.1.2.1]; rfl
theorem RS.tk {m : Nat} (h : RS ch n e Y ps c m) (g : TKF Y Z) : RS ch n e Z ps c m := by
  obtain ⟨⟨he, hp, hx, hks⟩, h0, ⟨a, b, d, f, f6⟩, h1, h2⟩ := h
  have kk : ∀ j k, ¬ j = 47 → Z.1 j k = Y.1 j k := fun j k a => g.1 j k a
  refine ⟨⟨he, by rw [g.2.2.1]; exact hp, hx.fr g, hks.cg (fun j k _ => g.1 j k (by omega)) (fun i a _ _ => g.1 _ i (by omega))⟩, by rw [kk 46 3 (by decide)]; exact h0, ⟨by rw [kk _ _ (by omega)]; exact a, b, d.fr (fun j k hj _ => kk j k (by omega)) (fun k _ => g.2.1 _ _ (by omega)), by rw [kk _ _ (by omega)]; exact f, by rw [kk _ _ (by omega)]; exact f6⟩, fun i a ha => ?_, fun i a ha => ?_⟩
  · rw [kk _ _ (by omega), kk _ _ (by omega)]; exact h1 i a ha
  · rw [kk _ _ (by omega)]; exact h2 i a ha
theorem l_partOfName {m : Nat} (h : RS ch n e Y ps c m) {l : Nm} (hl : LT l) (h8 : l.length ≤ 8) {y : Int64} (hy : y = lN (p8 l)) : pw (g_Program_partOfName e y Y) (fun r Z => Z = Y ∧ ((∃ k : Nat, partOf (nmsOf ps) l = some k ∧ r.toInt = (k : Int) ∧ k < ps.length) ∨ (partOf (nmsOf ps) l = none ∧ r.toInt = -1))) := by
  have k7 := (kYq h.1.1).2.2.1
  have hpar := h.2.2.1.1
  have loop : ∀ N (a : Int32) (k : Nat), a.toInt = (k : Int) → k ≤ ps.length → partOf (nmsOf ps) l = pof ((nmsOf ps).drop k) l k → pw (g_Program_partOfName_2 N e y a Y) (fun r Z => Z = Y ∧ ((∃ k : Nat, partOf (nmsOf ps) l = some k ∧ r.toInt = (k : Int) ∧ k < ps.length) ∨ (partOf (nmsOf ps) l = none ∧ r.toInt = -1))) := by
    intro N
    unfold g_Program_partOfName_2
    refine lp_ind (P := fun (r : Nat → Int64 → Int32 → St → Option (Int32 × St)) => ∀ (a : Int32) (k : Nat), a.toInt = (k : Int) → k ≤ ps.length → partOf (nmsOf ps) l = pof ((nmsOf ps).drop k) l k → pw (r e y a Y) (fun r Z => Z = Y ∧ ((∃ k : Nat, partOf (nmsOf ps) l = some k ∧ r.toInt = (k : Int) ∧ k < ps.length) ∨ (partOf (nmsOf ps) l = none ∧ r.toInt = -1)))) (fun _ _ _ _ _ => pw_none) (fun r ih a k ha hk hw => ?_) N
    unfold g_Program_partOfName_2_s
    have hlen : (nmsOf ps).length = ps.length := List.length_map _
    refine pw_let ?_
    refine pw_ite (fun c1 => ?_) (fun c1 => ?_)
    · refine pw_ret ⟨rfl, Or.inr ⟨?_, by decide⟩⟩
      rw [hw, List.drop_eq_nil_of_le (by omega)]
      rfl
    · have hkl : k < ps.length := by omega
      have hat := List.getElem?_eq_getElem hkl
      obtain ⟨⟨n1, n2, n3⟩, -⟩ := h.2.2.1.2.2.1 k _ hat
      have hd : (nmsOf ps).drop k = ps[k].2.2.1 :: (nmsOf ps).drop (k + 1) := by
        rw [List.drop_eq_getElem_cons (by omega)]
        congr 1
        have := nmsOf_at hat
        rw [List.getElem?_eq_getElem (by omega)] at this
        exact Option.some.inj this
      rw [hd] at hw
      have hw : partOf (nmsOf ps) l = (if ps[k].2.2.1 = l then some k else pof ((nmsOf ps).drop (k + 1)) l (k + 1)) := hw
      refine pw_to k7 ?_
      refine pw_ck (fun _ => ?_)
      refine pw_let ?_
      refine pw_let ?_
      rw [ixn ha, n1, hy]
      refine pw_ite (fun c2 => ?_) (fun c2 => ?_)
      · have e2 := p8_inj n2 hl ((pk_lEQ (p8_lt n2 n3) (p8_lt hl h8)).mp ((cmp0 _ _).mp c2))
        rw [if_pos e2] at hw
        exact pw_ret ⟨rfl, Or.inl ⟨k, hw, ha, hkl⟩⟩
      · have e2 : ¬ ps[k].2.2.1 = l := fun g => c2 ((cmp0 _ _).mpr (by rw [g]))
        rw [if_neg e2] at hw
        refine pw_let ?_
        exact hy ▸ ih _ (k + 1) (by rw [i1 (by have := h.2.2.1.2.1; omega), ha]; omega) (by omega) hw
  unfold g_Program_partOfName
  exact loop BIG 0 0 (by decide) (Nat.zero_le _) rfl
/-- what a look at all names comes to -/
def RES (ch : Tx) (n e : Nat) (ps : List Pt) (c : List Ins) (Z : St) : Prop := (sNames ch ps c ∧ RS ch n e Z ps c c.length ∧ ∃ k : Nat, partOf (nmsOf ps) MAINr = some k ∧ (Z.1 e 2).toInt = (k : Int)) ∨ (¬ sNames ch ps c ∧ fd Z)
theorem RES.dead {A : Option (Int32 × St)} (h : ¬ sNames ch ps c) (g : pw A (fun _ Z => fd Z)) : pw A (fun _ Z => RES ch n e ps c Z) := pw_mono g (fun _ _ q => Or.inr ⟨h, q⟩)
theorem l_resolveAt {m : Nat} (h : RS ch n e Y ps c m) (hm : m < c.length) {p : Int32} (hp : p.toInt = (m : Int)) : pw (g_Reader_resolveAt p Y) (fun _ Z => RS ch n e Z ps c (m + 1) ∨ (¬ sNames ch ps c ∧ fd Z)) := by
  obtain ⟨k0, k13, k14, k15, k16⟩ := kYp h.1.1
  have he := h.1.1
  have hat := List.getElem?_eq_getElem hm
  obtain ⟨o1, o2, o3⟩ := h.2.2.2.1 m _ hat
  unfold g_Reader_resolveAt
  refine pw_ck (fun _ => ?_)
  refine pw_to h.pe ?_
  refine pw_to k13 ?_
  refine pw_ck (fun _ => ?_)
  refine pw_let ?_
  rw [ixn hp, o1]
  refine pw_ite (fun c1 => ?_) (fun c1 => ?_)
  · obtain ⟨q1, q2, q3⟩ := o3 c1
    refine pw_ck (fun _ => ?_)
    refine pw_to h.pe ?_
    refine pw_to k16 ?_
    refine pw_ck (fun _ => ?_)
    refine pw_let ?_
    have hpl : (Y.1 (e + 21) m).toInt = (c[m].2.2.1.toNat : Int) := by rw [o2]; omega
    refine pw_bd (c_goTo h.1.2.2.1 hpl (by omega)) ?_
    rintro _ X7 ⟨g7, t7⟩
    have h7 := h.tk g7
    refine pw_ck (fun _ => ?_)
    refine pw_to h7.pe ?_
    have hnm := t7.2.2.2.1 q3
    have hwd := ty_word h.1.2.2.1.1 (q := c[m].2.2.1.toNat) (by omega)
    refine pw_let ?_
    refine pw_bd (l_partOfName h7 (nm_lt h.1.2.2.1.1 _) hwd.2.2.1 hnm.1) ?_
    rintro x10 X11 ⟨rfl, hr⟩
    refine pw_ite (fun c2 => ?_) (fun c2 => ?_)
    · have hno : partOf (nmsOf ps) (nm ch c[m].2.2.1.toNat) = none := by
        rcases hr with ⟨k, _, hk, _⟩ | hr
        · omega
        · exact hr.1
      have hs : ¬ sNames ch ps c := fun g => g.2.1 c[m] (List.getElem_mem hm) c1 hno
      refine pw_ck (fun hck1 => ?_)
      refine pw_to h7.pe ?_
      refine pw_eq (fun e16 _ => ?_)
      refine pw_ck (fun _ => ?_)
      refine pw_let ?_
      refine pw_bd (R := fun _ Z => fd Z) ?_ (fun _ X18 d18 => pw_mono (z_Reader_resolveAt_65 d18) (fun _ _ g => Or.inr ⟨hs, g⟩))
      unfold g_Reader_refuseAt
      refine pw_let ?_
      refine pw_ite (fun _ => ?_) (fun g => pw_ret g)
      refine pw_eq (fun X2 e2 => ?_)
      refine pw_eq (fun X3 e3 => ?_)
      refine pw_ret ?_
      rw [e3, e2]
      unfold fd
      rw [wI_ne _ _ _ _ _ _ (by decide), wI_at]
      decide
    · obtain ⟨k, hk1, hk2, hk3⟩ : ∃ k : Nat, partOf (nmsOf ps) (nm ch c[m].2.2.1.toNat) = some k ∧ x10.toInt = (k : Int) ∧ k < ps.length := by
        rcases hr with hr | hr
        · exact hr
        · exact absurd hr.2 c2
      unfold g_Reader_resolveAt_65
      refine pw_ck (fun _ => ?_)
      refine pw_to h7.pe ?_
      refine pw_to k14 ?_
      refine pw_ck (fun _ => ?_)
      rw [ixn hp]
      refine pw_eq (fun X14 e14 => ?_)
      refine pw_ret (Or.inl ?_)
      have kk : ∀ j i, ¬ j = e + 19 → X14.1 j i = X11.1 j i := fun j i a => by rw [e14]; exact wI_ne _ _ _ _ _ _ (fun g => a g.1)
      obtain ⟨⟨-, hpr, hx, hks⟩, h0, ⟨a, b, d, f, f6⟩, h1, h2⟩ := h7
      refine ⟨⟨he, by rw [e14]; exact hpr, hx.cg (fun k => kk _ _ (by omega)) (fun k => kk _ _ (by omega)) (by rw [e14]; rfl), hks.cg (fun j k hj => kk j k (by omega)) (fun i s hs h34 => by
        have hi2 : ¬ i = m := fun g => by
          rw [g, hat] at hs
          rw [← Option.some.inj hs, c1] at h34
          exact absurd h34 (by decide)
        rw [e14, wI_ne _ _ _ _ _ _ (fun g => hi2 g.2)])⟩, by rw [kk _ _ (by omega)]; exact h0, ⟨by rw [kk _ _ (by omega)]; exact a, b, d.fr (fun j k hj _ => kk j k (by omega)) (fun k _ => by rw [e14]; rfl), by rw [kk _ _ (by omega)]; exact f, by rw [kk _ _ (by omega)]; exact f6⟩, fun i s hs => ?_, fun i s hs h34 => ⟨fun h4 hi => ?_, fun hn => ?_⟩⟩
      · rw [kk _ _ (by omega), kk _ _ (by omega)]; exact h1 i s hs
      · by_cases hi2 : i = m
        · rw [hi2] at hs ⊢
          rw [hat] at hs
          have hs := Option.some.inj hs
          rw [← hs]
          exact ⟨k, hk1, by rw [e14, wI_at]; exact hk2⟩
        · obtain ⟨k', g1, g2⟩ := (h2 i s hs h34).1 h4 (by omega)
          exact ⟨k', g1, by rw [e14, wI_ne _ _ _ _ _ _ (fun g => hi2 g.2)]; exact g2⟩
      · have hi2 : ¬ i = m := fun g => hn ⟨by
          rw [g, hat] at hs
          rw [← Option.some.inj hs]
          exact c1, by omega⟩
        rw [e14, wI_ne _ _ _ _ _ _ (fun g => hi2 g.2)]
        exact (h2 i s hs h34).2 (fun g => hn ⟨g.1, by omega⟩)
  · refine pw_ret (Or.inl ⟨h.1, h.2.1, h.2.2.1, h.2.2.2.1, fun i s hs h34 => ⟨fun h4 hi => ?_, fun hn => ?_⟩⟩)
    · have hi2 : ¬ i = m := fun g => c1 (by
        rw [g, hat] at hs
        rw [← Option.some.inj hs] at h4
        exact h4)
      exact (h.2.2.2.2 i s hs h34).1 h4 (by omega)
    · exact (h.2.2.2.2 i s hs h34).2 (fun g => hn ⟨g.1, by omega⟩)
theorem MAIN_is : lN (p8 MAINr) = (1835100526 : Int64) := by decide +kernel
/-- where the parts' code begins -/
def ENTq (ps : List Pt) (c : List Ins) : Prop := ∀ k p, ps[k]? = some p → (k = 0 → p.2.2.2.2.2 = 0) ∧ p.2.2.2.2.2 ≤ c.length ∧ ∀ p', ps[k + 1]? = some p' → p.2.2.2.2.2 ≤ p'.2.2.2.2.2
theorem l_resolve (h : RS ch n e Y ps c 0) (hE : ENTq ps c) (hps : ps = [] → c = []) (hcl : c.length ≤ 9080) {p : Int32} : pw (g_Reader_resolve p Y) (fun _ Z => RES ch n e ps c Z) := by
  have he := h.1.1
  obtain ⟨k3, k4, k7, k8, k9, k10, k11, k12⟩ := kYq he
  -- at the end: main
  have fin : ∀ Y, RS ch n e Y ps c c.length → (∀ k, k < ps.length → partOf (nmsOf ps) ((nmsOf ps).getD k []) = some k) → pw (g_Reader_resolve_93 p Y) (fun _ Z => RES ch n e ps c Z) := by
    intro Y hY hk
    unfold g_Reader_resolve_93
    refine pw_ck (fun _ => ?_)
    refine pw_to hY.pe ?_
    refine pw_ck (fun _ => ?_)
    refine pw_to hY.pe ?_
    refine pw_bd (l_partOfName hY (l := MAINr) (by unfold LT; decide) (by decide) MAIN_is.symm) ?_
    rintro x5 X6 ⟨rfl, hr⟩
    refine pw_eq (fun X7 e7 => ?_)
    have kk : ∀ j i, ¬ (j = e ∧ i = 2) → X7.1 j i = X6.1 j i := fun j i a => by rw [e7]; exact wI_ne _ _ _ _ _ _ a
    have h7 : RS ch n e X7 ps c c.length := by
      obtain ⟨⟨-, hpr, hx, hks⟩, h0, ⟨a, b, d, f, f6⟩, h1, h2⟩ := hY
      refine ⟨⟨he, by rw [e7]; exact hpr, hx.cg (fun k => kk _ _ (by omega)) (fun k => kk _ _ (by omega)) (by rw [e7]; rfl), hks.cg (fun j k hj => kk j k (by omega)) (fun i s _ _ => kk _ _ (by omega))⟩, by rw [kk _ _ (by omega)]; exact h0, ⟨by rw [kk _ _ (by omega)]; exact a, b, d.fr (fun j k hj _ => kk j k (by omega)) (fun k _ => by rw [e7]; rfl), by rw [kk _ _ (by omega)]; exact f, by rw [kk _ _ (by omega)]; exact f6⟩, fun i s hs => ?_, fun i s hs => ?_⟩
      · rw [kk _ _ (by omega), kk _ _ (by omega)]; exact h1 i s hs
      · rw [kk _ _ (by omega)]; exact h2 i s hs
    have all : ∀ a ∈ c, a.1 = 4 → ¬ partOf (nmsOf ps) (nm ch a.2.2.1.toNat) = none := by
      intro a ha h4 hno
      obtain ⟨i, hi, rfl⟩ := List.getElem_of_mem ha
      obtain ⟨k, g1, -⟩ := (h7.2.2.2.2 i _ (List.getElem?_eq_getElem hi) (by omega)).1 h4 hi
      rw [hno] at g1
      exact absurd g1.symm (Option.some_ne_none _)
    refine pw_ck (fun _ => ?_)
    refine pw_to h7.pe ?_
    refine pw_ck (fun _ => ?_)
    refine pw_to h7.pe ?_
    refine pw_let ?_
    have c2 : X7.1 e 2 = x5 := by rw [e7, wI_at]
    rw [c2]
    have bad : ¬ sNames ch ps c → pw (bnd (g_Reader_refuseAt (7 : Int32) p X7) fun _ X13 => some ((0 : Int32), X13)) (fun _ Z => RES ch n e ps c Z) := by
      intro hs
      refine RES.dead hs (pw_bd (R := fun _ Z => fd Z) ?_ (fun _ X13 d => pw_ret d))
      unfold g_Reader_refuseAt
      refine pw_let ?_
      refine pw_ite (fun _ => ?_) (fun g => pw_ret g)
      refine pw_eq (fun X2 e2 => ?_)
      refine pw_eq (fun X3 e3 => ?_)
      refine pw_ret ?_
      rw [e3, e2]
      unfold fd
      rw [wI_ne _ _ _ _ _ _ (by decide), wI_at]
      decide
    rcases hr with ⟨k, g1, g2, g3⟩ | ⟨g1, g2⟩
    · have hat := List.getElem?_eq_getElem g3
      obtain ⟨-, -, -, r4, -⟩ := h7.2.2.1.2.2.1 k _ hat
      have hpar := h7.2.2.1.1
      have hpo : pw (g_Program_paramsOf e x5 X7) (fun r Z => Z = X7 ∧ r.toInt = (ps[k].2.2.2.1.length : Int)) := by
        unfold g_Program_paramsOf
        refine pw_neg (by omega) ?_
        refine pw_let ?_
        refine pw_neg (by omega) ?_
        refine pw_to k10 ?_
        refine pw_ck (fun _ => ?_)
        refine pw_let ?_
        exact pw_ret ⟨rfl, by rw [ixn g2]; exact r4⟩
      refine pw_bd hpo ?_
      rintro x11 X12 ⟨rfl, h11⟩
      have hg : ps.getD k (0, 0, [], [], [], 0) = ps[k] := by rw [List.getD_eq_getElem?_getD, hat]; rfl
      refine pw_ite (fun c3 => ?_) (fun c3 => bad (fun g => ?_))
      · refine pw_ret (Or.inl ⟨⟨hk, all, k, g1, ?_⟩, h7, k, g1, by rw [c2]; exact g2⟩)
        rw [hg]
        exact List.length_eq_zero_iff.mp (by omega)
      · obtain ⟨k', w1, w2⟩ := g.2.2
        rw [g1] at w1
        have w1 := Option.some.inj w1
        rw [← w1, hg] at w2
        rw [w2] at h11
        exact c3 h11
    · have hpo : pw (g_Program_paramsOf e x5 X7) (fun r Z => Z = X7 ∧ r.toInt = -1) := by
        unfold g_Program_paramsOf
        exact pw_pos (by omega) (pw_ret ⟨rfl, by decide⟩)
      refine pw_bd hpo ?_
      rintro x11 X12 ⟨rfl, h11⟩
      refine pw_neg (by omega) ?_
      refine bad (fun g => ?_)
      obtain ⟨k', w1, -⟩ := g.2.2
      rw [g1] at w1
      exact absurd w1.symm (Option.some_ne_none _)
  have deadfin : ∀ Y, fd Y → ¬ sNames ch ps c → pw (g_Reader_resolve_93 p Y) (fun _ Z => RES ch n e ps c Z) := fun Y hd hs => RES.dead hs (z_Reader_resolve_93 hd)
  have outer : ∀ N, (∀ (a2 : Int32) (Y : St), fd Y → ¬ sNames ch ps c → pw (g_Reader_resolve_2 N p a2 Y) (fun _ Z => RES ch n e ps c Z)) ∧ ∀ (a2 : Int32) (Y : St) (k m : Nat), a2.toInt = (k : Int) → k ≤ ps.length → RS ch n e Y ps c m → (∀ q, ps[k]? = some q → m = q.2.2.2.2.2) → (k = ps.length → m = c.length) → (∀ i, i < k → partOf (nmsOf ps) ((nmsOf ps).getD i []) = some i) → pw (g_Reader_resolve_2 N p a2 Y) (fun _ Z => RES ch n e ps c Z) := by
    intro N
    unfold g_Reader_resolve_2
    refine lp_ind (P := fun (r2 : Int32 → Int32 → St → Option (Int32 × St)) => (∀ (a2 : Int32) (Y : St), fd Y → ¬ sNames ch ps c → pw (r2 p a2 Y) (fun _ Z => RES ch n e ps c Z)) ∧ ∀ (a2 : Int32) (Y : St) (k m : Nat), a2.toInt = (k : Int) → k ≤ ps.length → RS ch n e Y ps c m → (∀ q, ps[k]? = some q → m = q.2.2.2.2.2) → (k = ps.length → m = c.length) → (∀ i, i < k → partOf (nmsOf ps) ((nmsOf ps).getD i []) = some i) → pw (r2 p a2 Y) (fun _ Z => RES ch n e ps c Z)) ⟨fun _ _ _ _ => pw_none, fun _ _ _ _ _ _ _ _ _ _ => pw_none⟩ ?_ N
    rintro r2 ⟨zr2, ih⟩
    -- one part's code
    have inner : ∀ N, (∀ (a2 a3 : Int32) (Y : St), fd Y → ¬ sNames ch ps c → pw (g_Reader_resolve_61 r2 N p a2 a3 Y) (fun _ Z => RES ch n e ps c Z)) ∧ ∀ (a2 a3 : Int32) (Y : St) (k m m1 : Nat), a2.toInt = (k : Int) → k < ps.length → a3.toInt = (m : Int) → m ≤ m1 → m1 ≤ c.length → RS ch n e Y ps c m → (Y.1 (e + 17) (k + 1)).toInt = (m1 : Int) → (∀ Y : St, RS ch n e Y ps c m1 → pw (r2 p (a2 + Int32.ofInt 1) Y) (fun _ Z => RES ch n e ps c Z)) → pw (g_Reader_resolve_61 r2 N p a2 a3 Y) (fun _ Z => RES ch n e ps c Z) := by
      intro N
      unfold g_Reader_resolve_61
      refine lp_ind (P := fun (r61 : Int32 → Int32 → Int32 → St → Option (Int32 × St)) => (∀ (a2 a3 : Int32) (Y : St), fd Y → ¬ sNames ch ps c → pw (r61 p a2 a3 Y) (fun _ Z => RES ch n e ps c Z)) ∧ ∀ (a2 a3 : Int32) (Y : St) (k m m1 : Nat), a2.toInt = (k : Int) → k < ps.length → a3.toInt = (m : Int) → m ≤ m1 → m1 ≤ c.length → RS ch n e Y ps c m → (Y.1 (e + 17) (k + 1)).toInt = (m1 : Int) → (∀ Y : St, RS ch n e Y ps c m1 → pw (r2 p (a2 + Int32.ofInt 1) Y) (fun _ Z => RES ch n e ps c Z)) → pw (r61 p a2 a3 Y) (fun _ Z => RES ch n e ps c Z)) ⟨fun _ _ _ _ _ => pw_none, fun _ _ _ _ _ _ _ _ _ _ _ _ _ _ => pw_none⟩ ?_ N
      rintro r61 ⟨zr61, ih61⟩
      refine ⟨fun a2 a3 Y hd hs => ?_, fun a2 a3 Y k m m1 h2 hk h3 hm hm1 hY hrow hnext => ?_⟩
      · unfold g_Reader_resolve_61_s
        refine pw_ck (fun _ => ?_)
        refine pw_let ?_
        refine pw_let ?_
        refine pw_let ?_
        refine pw_ck (fun _ => ?_)
        refine pw_let ?_
        refine pw_ite (fun _ => ?_) (fun _ => ?_)
        · refine pw_let ?_
          exact zr2 _ _ hd hs
        · refine pw_bd (z_Reader_resolveAt hd) (fun _ X29 d29 => ?_)
          refine pw_let ?_
          exact zr61 _ _ _ d29 hs
      · have hlen := hY.2.2.1.2.1
        have l1 : (1 : Int32).toInt = 1 := by decide
        unfold g_Reader_resolve_61_s
        refine pw_ck (fun _ => ?_)
        refine pw_to hY.pe ?_
        refine pw_to k4 ?_
        refine pw_eq (fun x26 e26 => ?_)
        have h26 : x26.toInt = ((k + 1 : Nat) : Int) := by rw [e26, ti_add (by rw [h2, l1]; omega) (by rw [h2, l1]; omega), h2, l1]; omega
        refine pw_ck (fun _ => ?_)
        refine pw_let ?_
        rw [ixn h26, hrow]
        refine pw_ite (fun c1 => ?_) (fun c1 => ?_)
        · refine pw_let ?_
          have : m = m1 := by omega
          rw [this] at hY
          exact hnext Y hY
        · refine pw_bd (l_resolveAt hY (by omega) h3) ?_
          rintro _ X29 (h29 | ⟨hs, hd⟩)
          · refine pw_let ?_
            refine ih61 a2 _ X29 k (m + 1) m1 h2 hk (by rw [i1 (by omega), h3]; omega) (by omega) hm1 h29 ?_ hnext
            rcases Nat.lt_or_ge (k + 1) ps.length with g | g
            · have hat := List.getElem?_eq_getElem g
              have w1 := (h29.2.2.1.2.2.1 _ _ hat).2.2.2.2
              have w2 := (hY.2.2.1.2.2.1 _ _ hat).2.2.2.2
              rw [w1, ← w2, hrow]
            · have : k + 1 = ps.length := by omega
              rw [this] at hrow ⊢
              rw [h29.2.2.1.2.2.2.1, ← hY.2.2.1.2.2.2.1, hrow]
          · refine pw_let ?_
            exact zr61 _ _ _ hd hs
    have mid : ∀ (a2 : Int32) (Y : St) (k m : Nat), a2.toInt = (k : Int) → k < ps.length → RS ch n e Y ps c m → (∀ q, ps[k]? = some q → m = q.2.2.2.2.2) → (∀ i, i < k + 1 → partOf (nmsOf ps) ((nmsOf ps).getD i []) = some i) → pw (g_Reader_resolve_51 r2 p a2 Y) (fun _ Z => RES ch n e ps c Z) := by
      intro a2 Y k m h2 hk hY hm hnames
      have hlen := hY.2.2.1.2.1
      have hat := List.getElem?_eq_getElem hk
      have hent := (hY.2.2.1.2.2.1 k _ hat).2.2.2.2
      have hmm := hm _ hat
      obtain ⟨-, E2, E3⟩ := hE k _ hat
      unfold g_Reader_resolve_51
      refine pw_ck (fun _ => ?_)
      refine pw_to hY.pe ?_
      refine pw_to k4 ?_
      refine pw_ck (fun _ => ?_)
      refine pw_let ?_
      rw [ixn h2]
      rcases Nat.lt_or_ge (k + 1) ps.length with g | g
      · have hat1 := List.getElem?_eq_getElem g
        have hent1 := (hY.2.2.1.2.2.1 _ _ hat1).2.2.2.2
        refine (inner BIG).2 a2 _ Y k m ps[k + 1].2.2.2.2.2 h2 hk (by rw [hent, hmm]) (by rw [hmm]; exact E3 _ hat1) (hE _ _ hat1).2.1 hY hent1 (fun Y' hY' => ?_)
        refine ih _ Y' (k + 1) _ (by rw [i1 (by omega), h2]; omega) (by omega) hY' (fun q hq => ?_) (fun g' => by omega) hnames
        rw [hat1] at hq
        rw [← Option.some.inj hq]
      · have hk1 : k + 1 = ps.length := by omega
        refine (inner BIG).2 a2 _ Y k m c.length h2 hk (by rw [hent, hmm]) (by rw [hmm]; exact E2) (Nat.le_refl _) hY (by rw [hk1]; exact hY.2.2.1.2.2.2.1) (fun Y' hY' => ?_)
        refine ih _ Y' (k + 1) c.length (by rw [i1 (by omega), h2]; omega) (by omega) hY' (fun q hq => ?_) (fun _ => rfl) hnames
        have := (List.getElem?_eq_some_iff.mp hq).1
        omega
    have deadmid : ∀ (a2 : Int32) (Y : St), fd Y → ¬ sNames ch ps c → pw (g_Reader_resolve_51 r2 p a2 Y) (fun _ Z => RES ch n e ps c Z) := by
      intro a2 Y hd hs
      unfold g_Reader_resolve_51
      refine pw_ck (fun _ => ?_)
      refine pw_let ?_
      refine pw_let ?_
      refine pw_ck (fun _ => ?_)
      refine pw_let ?_
      exact (inner BIG).1 _ _ _ hd hs
    refine ⟨fun a2 Y hd hs => ?_, fun a2 Y k m h2 hk hY hm hend hnames => ?_⟩
    · unfold g_Reader_resolve_2_s
      refine pw_ck (fun _ => ?_)
      refine pw_let ?_
      refine pw_let ?_
      refine pw_ite (fun _ => deadfin Y hd hs) (fun _ => ?_)
      refine pw_let ?_
      exact pw_neg hd (deadfin Y hd hs)
    · have hlen := hY.2.2.1.2.1
      have hpar := hY.2.2.1.1
      unfold g_Reader_resolve_2_s
      refine pw_ck (fun _ => ?_)
      refine pw_to hY.pe ?_
      refine pw_let ?_
      refine pw_ite (fun c1 => ?_) (fun c1 => ?_)
      · have hkk : k = ps.length := by omega
        have hmm := hend hkk
        rw [hmm] at hY
        exact fin Y hY (fun i hi => hnames i (by omega))
      · have hkl : k < ps.length := by omega
        have hat := List.getElem?_eq_getElem hkl
        obtain ⟨⟨n1, n2, n3⟩, -⟩ := hY.2.2.1.2.2.1 k _ hat
        have hgd : (nmsOf ps).getD k [] = ps[k].2.2.1 := by rw [List.getD_eq_getElem?_getD, nmsOf_at hat]; rfl
        refine pw_let ?_
        refine pw_pos hY.2.1 ?_
        refine pw_ck (fun _ => ?_)
        refine pw_to hY.pe ?_
        refine pw_ck (fun _ => ?_)
        refine pw_to hY.pe ?_
        refine pw_to k7 ?_
        refine pw_ck (fun _ => ?_)
        refine pw_let ?_
        rw [ixn h2]
        refine pw_bd (l_partOfName hY n2 n3 n1) ?_
        rintro x19 X20 ⟨rfl, hr⟩
        refine pw_ite (fun c2 => ?_) (fun c2 => ?_)
        · have hok : partOf (nmsOf ps) ((nmsOf ps).getD k []) = some k := by
            rw [hgd]
            rcases hr with ⟨k', g1, g2, g3⟩ | ⟨g1, g2⟩
            · rw [g1]
              congr 1
              omega
            · omega
          refine mid a2 X20 k m h2 hkl hY hm (fun i hi => ?_)
          by_cases hik : i = k
          · rw [hik]; exact hok
          · exact hnames i (by omega)
        · have hs : ¬ sNames ch ps c := fun g => by
            have w := g.1 k hkl
            rw [hgd] at w
            rcases hr with ⟨k', g1, g2, g3⟩ | ⟨g1, g2⟩
            · rw [w] at g1
              have := Option.some.inj g1
              omega
            · rw [w] at g1
              exact absurd g1 (Option.some_ne_none _)
          refine pw_ck (fun _ => ?_)
          refine pw_let ?_
          refine pw_bd (R := fun _ Z => fd Z) ?_ (fun _ X32 d => deadmid _ _ d hs)
          unfold g_Reader_refuseAt
          refine pw_let ?_
          refine pw_ite (fun _ => ?_) (fun g => pw_ret g)
          refine pw_eq (fun X2 e2 => ?_)
          refine pw_eq (fun X3 e3 => ?_)
          refine pw_ret ?_
          rw [e3, e2]
          unfold fd
          rw [wI_ne _ _ _ _ _ _ (by decide), wI_at]
          decide
  unfold g_Reader_resolve
  have hm0 : (0 : Int32).toInt = ((0 : Nat) : Int) := by decide
  refine (outer BIG).2 0 Y 0 0 hm0 (Nat.zero_le _) h (fun q hq => ((hE 0 q hq).1 rfl).symm) (fun g => ?_) (fun i hi => absurd hi (Nat.not_lt_zero _))
  rw [hps (List.length_eq_zero_iff.mp g.symm)]
  rfl
theorem pw_bb {ρ ρ1 α β γ : Type} {G : Option (ρ1 × St)} {K : ρ1 → St → Option (ρ × St)} {so : Option α} {f : α → Option γ} {g : γ → Option β} {R : ρ1 → St → α → Prop} {Q : ρ → St → β → Prop} (hG : pw G (fun r Y => PO Y so (R r Y))) (h1 : ∀ r Y a, R r Y a → pw (K r Y) (fun r Y => PO Y ((f a).bind g) (Q r Y))) (h2 : ∀ r Y, fd Y → pw (K r Y) (fun _ Y => fd Y)) : pw (bnd G K) (fun r Y => PO Y ((so.bind f).bind g) (Q r Y)) := by
  rw [Option.bind_assoc]
  exact pw_bo hG h1 h2
/-- a text read to its end -/
def FINq (ch : Tx) (n e : Nat) (Z : St) (so : Option (List Pt × List Ins)) : Prop := PO Z so (fun r => RES ch n e r.1 r.2 Z ∧ r.1.length ≤ 40 ∧ r.2.length ≤ 9080)
theorem ENTq.up {c1 : List Ins} (h : ENTq ps c) (hl : c.length ≤ c1.length) : ENTq ps c1 := fun k p hp => ⟨(h k p hp).1, Nat.le_trans (h k p hp).2.1 hl, (h k p hp).2.2⟩
theorem ENTq.add (h : ENTq ps c) {p : Pt} {c1 : List Ins} (hp : p.2.2.2.2.2 = c.length) (h0 : ps = [] → c = []) (hl : c.length ≤ c1.length) : ENTq (ps ++ [p]) c1 := by
  intro k x hx
  rcases Nat.lt_or_ge k ps.length with g | g
  · rw [List.getElem?_append_left g] at hx
    refine ⟨(h k x hx).1, Nat.le_trans (h k x hx).2.1 hl, fun y hy => ?_⟩
    rcases Nat.lt_or_ge (k + 1) ps.length with g1 | g1
    · rw [List.getElem?_append_left g1] at hy
      exact (h k x hx).2.2 y hy
    · have hk : k + 1 = ps.length := by omega
      rw [hk, List.getElem?_concat_length] at hy
      rw [← Option.some.inj hy, hp]
      exact (h k x hx).2.1
  · have hk : k = ps.length := by
      have := (List.getElem?_eq_some_iff.mp hx).1
      rw [List.length_append] at this
      have h1 : [p].length = 1 := rfl
      omega
    rw [hk, List.getElem?_concat_length] at hx
    rw [← Option.some.inj hx]
    refine ⟨fun g0 => ?_, by rw [hp]; exact hl, fun y hy => ?_⟩
    · rw [hp, h0 (List.length_eq_zero_iff.mp (by omega))]
      rfl
    · have := (List.getElem?_eq_some_iff.mp hy).1
      rw [List.length_append] at this
      have h1 : [p].length = 1 := rfl
      omega
def RCk (e : Nat) (ch : Tx) (n : Nat) (ps : List Pt) (c : List Ins) (Y : St) (q : Nat) : Prop := ∃ ks0, K9 <+: ks0 ∧ RC0 e ch n Y (0, 9 + kps ps, ks0, [], 0) Y q 0 [] c ∧ PWd ps ∧ (∀ k, k < 40 → (Y.1 (e + 16) k).toInt = 1) ∧ (9 + kps ps + kcs c ≤ 1549 → PKSq e Y ps ks0)
theorem l_parts : ∀ N, (∀ (a3 a4 : Int32) (X : St), fd X → pw (g_Reader_readInto_58 N a3 a4 X) (fun _ Y => fd Y)) ∧ ∀ (a3 a4 : Int32) (Y : St) (m q : Nat) (ps : List Pt) (c : List Ins), a4.toInt = (ps.length : Int) → ps.length + m = 41 → 1 ≤ m → RCk e ch n ps c Y q → PTS e Y ps → (Y.1 e 1).toInt = (ps.length : Int) → c.length ≤ 3 * pl ch q → ENTq ps c → (ps = [] → c = []) → pw (g_Reader_readInto_58 N a3 a4 Y) (fun _ Z => FINq ch n e Z (sParts ch m ps q c)) := by
  -- behind the last part
  have e145 : ∀ (a3 : Int32) (Y : St) (q : Nat) (ps : List Pt) (c : List Ins), ps.length ≤ 40 → RCk e ch n ps c Y q → PTS e Y ps → (Y.1 e 1).toInt = (ps.length : Int) → c.length ≤ 3 * pl ch q → ENTq ps c → (ps = [] → c = []) → pw (g_Reader_readInto_145 a3 Y) (fun _ Z => FINq ch n e Z (some (ps, c))) := by
    intro a3 Y q ps c h40 hRk hP hpar hc hE h0
    obtain ⟨ks0, k9_, hR, kw, kt, kp⟩ := hRk
    have he := hR.he
    have hpl := hR.pln
    obtain ⟨k3, k4, k7, k8, k9, k10, k11, k12⟩ := kYq he
    unfold g_Reader_readInto_145
    refine pw_ck (fun _ => ?_)
    refine pw_to hR.pe ?_
    refine pw_to k4 ?_
    refine pw_ck (fun _ => ?_)
    refine pw_to hR.pe ?_
    refine pw_let ?_
    refine pw_ck (fun _ => ?_)
    refine pw_to hR.pe ?_
    refine pw_let ?_
    refine pw_ck (fun _ => ?_)
    rw [ixn hpar]
    refine pw_eq (fun X17 e17 => ?_)
    have hR17 : RC0 e ch n X17 (0, 9 + kps ps, ks0, [], 0) X17 q 0 [] c := by rw [e17]; exact hR.prow1 _ _ _ (by omega)
    refine pw_ck (fun _ => ?_)
    refine pw_to hR17.pe ?_
    refine pw_ck (fun _ => ?_)
    refine pw_to hR17.pe ?_
    refine pw_to (kYp he).1 ?_
    refine pw_let ?_
    refine pw_eq (fun X22 e22 => ?_)
    have hR22 : RC0 e ch n X22 (0, 9 + kps ps, ks0, [], 0) X22 q 0 [] c := by rw [e22]; exact hR17.prow1 _ _ _ (by omega)
    have kk : ∀ j i, ¬ (j = e ∧ i = 5) → ¬ (j = e + 17 ∧ i = ps.length) → X22.1 j i = Y.1 j i := fun j i a b => by rw [e22, wI_ne _ _ _ _ _ _ a, e17, wI_ne _ _ _ _ _ _ b]
    have h22 : RS ch n e X22 ps c 0 := by
      have hKS : KSq e X22 ps c := by
        refine ⟨kw, fun k hk => by rw [kk _ _ (by omega) (by omega)]; exact kt k hk, fun b => ?_⟩
        obtain ⟨ks, a1, a2, a3_, a4, a5⟩ := hR22.1.2.2.2.2.2 b
        refine ⟨ks, ⟨a1, a2, a4, ?_⟩, a5, fun k p hk => ?_⟩
        · have h1 := a1.1.1
          rw [e22, wI_at]
          rw [e22, wI_ne _ _ _ _ _ _ (by omega)] at h1
          exact h1
        · obtain ⟨b1, b2⟩ := kp b k p hk
          refine ⟨fun i hi => ?_, ?_⟩
          · obtain ⟨z, z1, z2⟩ := b1 i hi
            exact ⟨z, by rw [kk _ _ (by omega) (by omega)]; exact z1, pf_at a3_ z2⟩
          · obtain ⟨z, z1, z2⟩ := b2
            exact ⟨z, by rw [kk _ _ (by omega) (by omega)]; exact z1, pf_at a3_ z2⟩
      refine ⟨⟨he, hR22.1.2.1, hR22.1.2.2.1, hKS⟩, hR22.ok, ⟨?_, h40, hP.fr (fun j k hj hk => kk j k (by omega) (by omega)) (fun k _ => by rw [e22, e17]; rfl), ?_, ?_⟩, fun i a ha => ?_, fun i a ha h34 => ⟨fun _ hi => absurd hi (Nat.not_lt_zero _), fun _ => ?_⟩⟩
      · rw [kk _ _ (by omega) (by omega)]; exact hpar
      · rw [e22, wI_ne _ _ _ _ _ _ (by omega), e17, wI_at]; exact hR.len
      · rw [kk _ _ (by omega) (by omega)]; exact hR.len
      · obtain ⟨d1, d2, d3, d4⟩ := hR22.2.2.2.1.2 i a ha
        exact ⟨d1, d3, d4⟩
      · exact (hR22.2.2.2.1.2 i a ha).2.1 h34
    refine pw_let ?_
    refine pw_pos hR22.ok ?_
    refine pw_bd (l_resolve h22 hE h0 (by omega)) (fun _ X24 h24 => pw_ret ?_)
    exact ⟨h24, h40, by show c.length ≤ 9080; omega⟩
  have e127 : ∀ (a3 : Int32) (Y : St) (q : Nat) (ps : List Pt) (c : List Ins), ps.length ≤ 40 → RCk e ch n ps c Y q → PTS e Y ps → (Y.1 e 1).toInt = (ps.length : Int) → c.length ≤ 3 * pl ch q → ENTq ps c → (ps = [] → c = []) → pw (g_Reader_readInto_127 a3 Y) (fun _ Z => FINq ch n e Z (if ty ch q = 257 then some (ps, c) else none)) := by
    intro a3 Y q ps c h40 hRk hP hpar hc hE h0
    have hRk0 := hRk
    obtain ⟨ks0, k9_, hR, kw, kt, kp⟩ := hRk
    unfold g_Reader_readInto_127
    refine pw_let ?_
    rw [hR.ty]
    refine pw_ite (fun c1 => ?_) (fun c1 => ?_)
    · rw [if_pos c1]
      exact e145 a3 Y q ps c h40 hRk0 hP hpar hc hE h0
    · rw [if_neg c1]
      refine pw_bd (f_Reader_refuse Y (by decide)) (fun _ X25 d => ?_)
      exact z_Reader_readInto_145 d
  intro N
  unfold g_Reader_readInto_58
  refine lp_ind (P := fun (r58 : Int32 → Int32 → St → Option (Int32 × St)) => (∀ (a3 a4 : Int32) (X : St), fd X → pw (r58 a3 a4 X) (fun _ Y => fd Y)) ∧ ∀ (a3 a4 : Int32) (Y : St) (m q : Nat) (ps : List Pt) (c : List Ins), a4.toInt = (ps.length : Int) → ps.length + m = 41 → 1 ≤ m → RCk e ch n ps c Y q → PTS e Y ps → (Y.1 e 1).toInt = (ps.length : Int) → c.length ≤ 3 * pl ch q → ENTq ps c → (ps = [] → c = []) → pw (r58 a3 a4 Y) (fun _ Z => FINq ch n e Z (sParts ch m ps q c))) ⟨fun _ _ _ _ => pw_none, fun _ _ _ _ _ _ _ _ _ _ _ _ _ _ _ _ => pw_none⟩ ?_ N
  rintro r58 ⟨zr58, ih⟩
  refine ⟨fun a_3 a_4 X hd => ?_, fun a3 a4 Y m q ps c h4 hm h1m hRk hP hpar hc hE h0 => ?_⟩
  · unfold g_Reader_readInto_58_s
    refine pw_ite (fun _ => ?_) (fun _ => ?_)
    · exact z_Reader_readInto_127 hd
    · refine pw_eq (fun x26 _ => ?_)
      refine pw_ite (fun _ => ?_) (fun _ => ?_)
      · refine pw_ite (fun _ => ?_) (fun _ => ?_)
        · refine pw_bd (z_Reader_takePartName hd) (fun _ X27 dX27 => ?_)
          refine pw_bd (z_Reader_takeParams dX27) (fun _ X28 dX28 => ?_)
          refine pw_bd (z_Reader_takeOwnKind dX28) (fun _ X29 dX29 => ?_)
          refine pw_bd (z_Reader_takeE dX29) (fun x30 X31 dX31 => ?_)
          refine pw_bd (z_Reader_endPart dX31) (fun _ X32 dX32 => ?_)
          exact z_Reader_readInto_121 zr58 dX32
        · refine pw_bd (z_Reader_refuse hd) (fun _ X34 dX34 => ?_)
          exact z_Reader_readInto_121 zr58 dX34
      · exact z_Reader_readInto_127 hd
  · have hRk0 := hRk
    obtain ⟨ks0, k9_, hR, kw, kt, kp⟩ := hRk
    have he := hR.he
    obtain ⟨m, rfl⟩ : ∃ m1, m = m1 + 1 := ⟨m - 1, by omega⟩
    unfold g_Reader_readInto_58_s
    rw [sParts]
    refine pw_neg (by omega) ?_
    refine pw_let ?_
    rw [hR.ty]
    refine pw_ite (fun c1 => ?_) (fun c1 => ?_)
    · rw [if_pos c1]
      refine pw_ite (fun c2 => ?_) (fun c2 => ?_)
      · rw [if_pos (by omega)]
        unfold FINq sPart
        refine pw_bb (l_partName hR h4 c1) ?_ ?_
        · rintro _ X27 q2 ⟨hR27, p1, p2, f1, f2, f3, f4, f5, f6⟩
          -- the scope is emptied as params are read
          have hpn := l_takeParams (k := ps.length) hR27 k9_ h4 (by omega)
          refine pw_bb hpn ?_ ?_
          · rintro _ X28 pr ⟨⟨ks1, y1, hR28, y2, y3⟩, p3, p4, p5, g1, g2, g3, g4⟩
            refine pw_bb (l_takeOwnKind (K := (9 + kps ps + kpp pr.2, ks1, [], 0)) (k := ps.length) hR28 (k9_.trans y1) h4 (by omega)) ?_ ?_
            · rintro _ X29 ow ⟨⟨ks2, y4, hR29, y5, y6⟩, p6, p7, u1, u2, u3, u4⟩
              have hR29 := RC.lb (K := (9 + kps ps + kpp pr.2 + kcn ow.2, ks2, [], 0)) hR29
              refine pw_bb (l_takeE X29 ow.1 0 (pr.2.map Prod.fst) [] c hR29 (by decide) (by decide) (by rw [List.length_map]; omega) (by decide) (by omega)) ?_ ?_
              · rintro x30 X31 r ⟨hR31, h30, hl, w1, w2, w3, w4⟩
                have F := hR31.rf
                refine pw_bb (l_endPart (k := ps.length) hR31 h4 h30 (by omega) (by omega) (by omega)) ?_ ?_
                · rintro _ X32 s ⟨hR32, hls, p8_, p9, v1, v2, v3⟩
                  unfold g_Reader_readInto_121
                  refine pw_let ?_
                  have hpl : (ps ++ [((pl ch q, pl ch (nx ch q), nm ch (nx ch q), pr.2, ow.2, c.length) : Pt)]).length = ps.length + 1 := by rw [List.length_append]; rfl
                  -- rows of all parts
                  have row : ∀ j i, (j = e + 11 ∨ j = e + 12) → X32.1 j i = X27.1 j i := fun j i hj => by
                    rw [v1 j i (by omega) (by omega), F.row he j i (by omega) (by omega), u1 j i (by omega) (by omega) (by omega) (by omega), g1 j i (by omega) (by omega) (by omega) (by omega)]
                  have r16 : ∀ i, X32.1 (e + 16) i = Y.1 (e + 16) i := fun i => by
                    rw [v1 _ i (by omega) (by omega), F.row he _ i (by omega) (by omega), u1 _ i (by omega) (by omega) (by omega) (by omega), g1 _ i (by omega) (by omega) (by omega) (by omega), f1 _ i (by omega) (by omega) (by omega)]
                  have r14 : ∀ i, X32.1 (e + 14) i = X28.1 (e + 14) i := fun i => by
                    rw [v1 _ i (by omega) (by omega), F.row he _ i (by omega) (by omega), u1 _ i (by omega) (by omega) (by omega) (by omega)]
                  have r14o : ∀ i, i < 4 * ps.length → X28.1 (e + 14) i = Y.1 (e + 14) i := fun i hi => by
                    rw [g1 _ i (by omega) (by omega) (by omega) (by omega), f1 _ i (by omega) (by omega) (by omega)]
                  have r15 : ∀ i, X32.1 (e + 15) i = X29.1 (e + 15) i := fun i => by
                    rw [v1 _ i (by omega) (by omega), F.row he _ i (by omega) (by omega)]
                  have r15o : ∀ i, ¬ i = ps.length → X29.1 (e + 15) i = Y.1 (e + 15) i := fun i hi => by
                    rw [u1 _ i (by omega) (by omega) (by omega) (by omega), g1 _ i (by omega) (by omega) (by omega) (by omega), f1 _ i (by omega) (by omega) (by omega)]
                  have hRn : RCk e ch n (ps ++ [((pl ch q, pl ch (nx ch q), nm ch (nx ch q), pr.2, ow.2, c.length) : Pt)]) s.2 X32 s.1 := by
                    have ek : 9 + kps (ps ++ [((pl ch q, pl ch (nx ch q), nm ch (nx ch q), pr.2, ow.2, c.length) : Pt)]) = 9 + kps ps + kpp pr.2 + kcn ow.2 := by rw [kps_ap]; show 9 + (kps ps + kpp pr.2 + kcn ow.2) = _; omega
                    have hlb : kcs c ≤ kcs s.2 := hR32.kq.1.2
                    refine ⟨ks2, k9_.trans (y1.trans y4), ?_, fun x hx => ?_, fun k hk => by rw [r16]; exact kt k hk, fun b => ?_⟩
                    · rw [ek]
                      exact (RC.lu (K := (9 + kps ps + kpp pr.2 + kcn ow.2, ks2, [], 0)) hR32.base (Nat.zero_le _)).r0
                    · rcases List.mem_append.mp hx with g | g
                      · exact kw x g
                      · rw [List.mem_singleton.mp g]
                        exact ⟨y3, y6, p3⟩
                    · rw [ek] at b
                      intro k x hx
                      rcases Nat.lt_or_ge k ps.length with g | g
                      · rw [List.getElem?_append_left g] at hx
                        obtain ⟨b1, z0, b2, b3⟩ := kp (by omega) k x hx
                        have h4l := (kw x (List.mem_of_getElem? hx)).2.2
                        refine ⟨fun i hi => ?_, z0, ?_, pf_at (y1.trans y4) b3⟩
                        · obtain ⟨z, z1, z2⟩ := b1 i hi
                          exact ⟨z, by rw [r14, r14o _ (by omega)]; exact z1, pf_at (y1.trans y4) z2⟩
                        · rw [r15, r15o _ (by omega)]; exact b2
                      · have hk : k = ps.length := by
                          have := (List.getElem?_eq_some_iff.mp hx).1
                          omega
                        rw [hk, List.getElem?_concat_length] at hx
                        rw [hk, ← Option.some.inj hx]
                        refine ⟨fun i hi => ?_, ?_⟩
                        · obtain ⟨z, z1, z2⟩ := y2 (show 9 + kps ps + kpp pr.2 + kcs c ≤ 1549 by omega) i hi
                          exact ⟨z, by rw [r14]; exact z1, pf_at y4 z2⟩
                        · obtain ⟨z, z1, z2⟩ := y5 (show 9 + kps ps + kpp pr.2 + kcn ow.2 + kcs c ≤ 1549 by omega)
                          exact ⟨z, by rw [r15]; exact z1, z2⟩
                  have nam : ∀ i, X32.2.1 (e + 10) i = X27.2.1 (e + 10) i := fun i => by rw [v2, F.nam he, u2, g2]
                  have r13 : ∀ i, X32.1 (e + 13) i = X28.1 (e + 13) i := fun i => by
                    rw [v1 _ i (by omega) (by omega), F.row he _ i (by omega) (by omega), u1 _ i (by omega) (by omega) (by omega) (by omega)]
                  have r17 : ∀ i, X32.1 (e + 17) i = X29.1 (e + 17) i := fun i => by
                    rw [v1 _ i (by omega) (by omega), F.row he _ i (by omega) (by omega)]
                  have hP32 : PTS e X32 (ps ++ [((pl ch q, pl ch (nx ch q), nm ch (nx ch q), pr.2, ow.2, c.length) : Pt)]) := by
                    intro k x hx
                    rcases Nat.lt_or_ge k ps.length with g | g
                    · rw [List.getElem?_append_left g] at hx
                      refine (hP k x hx).fr (fun j hj => ?_) (by rw [nam, f2 k (by omega)])
                      rcases hj with hj | hj | hj | hj
                      · rw [row j k (Or.inl hj), f1 j k (by omega) (by omega) (by omega)]
                      · rw [row j k (Or.inr hj), f1 j k (by omega) (by omega) (by omega)]
                      · rw [hj, r13, g1 _ k (by omega) (by omega) (by omega) (by omega), f1 _ k (by omega) (by omega) (by omega)]
                      · rw [hj, r17, u1 _ k (by omega) (by omega) (by omega) (by omega), g1 _ k (by omega) (by omega) (by omega) (by omega), f1 _ k (by omega) (by omega) (by omega)]
                    · have hk : k = ps.length := by
                        have := (List.getElem?_eq_some_iff.mp hx).1
                        omega
                      rw [hk, List.getElem?_concat_length] at hx
                      rw [hk, ← Option.some.inj hx]
                      refine ⟨by rw [nam]; exact f4, ?_, ?_, ?_, ?_⟩
                      · rw [row _ _ (Or.inl rfl)]; exact f5
                      · rw [row _ _ (Or.inr rfl)]; exact f6
                      · rw [r13]; exact g4
                      · rw [r17]; exact u4
                  refine ih a3 _ X32 m s.1 (ps ++ [((pl ch q, pl ch (nx ch q), nm ch (nx ch q), pr.2, ow.2, c.length) : Pt)]) s.2 (by rw [i1 (by omega), h4, hpl]; omega) (by omega) ?_ hRn hP32 (by rw [v3, hpl]; omega) (by omega) (hE.add rfl h0 (by omega)) (fun g => ?_)
                  · omega
                  · have := congrArg List.length g
                    rw [hpl] at this
                    exact absurd this (Nat.succ_ne_zero _)
                · intro _ X32 hd
                  exact z_Reader_readInto_121 zr58 hd
              · intro x30 X31 hd
                refine pw_bd (z_Reader_endPart hd) (fun _ X32 dX32 => ?_)
                exact z_Reader_readInto_121 zr58 dX32
            · intro _ X29 hd
              refine pw_bd (z_Reader_takeE hd) (fun x30 X31 dX31 => ?_)
              refine pw_bd (z_Reader_endPart dX31) (fun _ X32 dX32 => ?_)
              exact z_Reader_readInto_121 zr58 dX32
          · intro _ X28 hd
            refine pw_bd (z_Reader_takeOwnKind hd) (fun _ X29 dX29 => ?_)
            refine pw_bd (z_Reader_takeE dX29) (fun x30 X31 dX31 => ?_)
            refine pw_bd (z_Reader_endPart dX31) (fun _ X32 dX32 => ?_)
            exact z_Reader_readInto_121 zr58 dX32
        · intro _ X27 hd
          refine pw_bd (z_Reader_takeParams hd) (fun _ X28 dX28 => ?_)
          refine pw_bd (z_Reader_takeOwnKind dX28) (fun _ X29 dX29 => ?_)
          refine pw_bd (z_Reader_takeE dX29) (fun x30 X31 dX31 => ?_)
          refine pw_bd (z_Reader_endPart dX31) (fun _ X32 dX32 => ?_)
          exact z_Reader_readInto_121 zr58 dX32
      · rw [if_neg (by omega)]
        refine pw_bd (f_Reader_refuse Y (by decide)) (fun _ X34 hd => ?_)
        show pw _ (fun _ Z => fd Z)
        exact z_Reader_readInto_121 zr58 hd
    · rw [if_neg c1]
      exact e127 a3 Y q ps c (by omega) hRk0 hP hpar hc hE h0
theorem l_clear {e : Nat} (he : e = 2 ∨ e = 24) (X : St) (hK : ∃ ks, TKS (e + 1) X ks ∧ K9 <+: ks) : pw (g_Program_clear e X) (fun _ Z => Z.2 = X.2 ∧ (∀ j k, ¬ (e ≤ j ∧ j ≤ e + 16) → Z.1 j k = X.1 j k) ∧ (Z.1 e 1).toInt = 0 ∧ (Z.1 e 6).toInt = 0 ∧ TKS (e + 1) Z K9 ∧ ∀ k, k < 40 → (Z.1 (e + 16) k).toInt = 1) := by
  have k3 := (kYq he).1
  unfold g_Program_clear
  refine pw_to (kYp he).1 ?_
  obtain ⟨ks, hT, h9⟩ := hK
  have hcut : pw (g_Kinds_forgetTexts (e + 1) X) (fun _ Y => TKS (e + 1) Y K9) := by
    unfold g_Kinds_forgetTexts
    have h9l : 9 ≤ ks.length := by
      obtain ⟨l, rfl⟩ := h9
      rw [List.length_append]
      show 9 ≤ 9 + l.length
      omega
    refine pw_bd (kk_cutTo (by omega) (m := 9) hT (by decide) (Nat.le_refl _) h9l) (fun _ Y h => pw_ret ?_)
    have : ks.take 9 = K9 := by
      obtain ⟨l, rfl⟩ := h9
      exact List.take_left' (by rfl)
    rw [this] at h
    exact h.1
  refine pw_bd (pw_and (y_Kinds_forgetTexts (o := e + 1) (X0 := X) ⟨rfl, by omega⟩ KFo.rf) hcut) (fun _ X2 hK => ?_)
  obtain ⟨hK, hT2⟩ := hK
  refine pw_eq (fun X3 e3 => ?_)
  refine pw_eq (fun X4 e4 => ?_)
  refine pw_eq (fun X5 e5 => ?_)
  have loop : ∀ N (a : Int32) (Y : St) (m : Nat), a.toInt = (m : Int) → m ≤ 40 → Y.2 = X.2 → (∀ j k, ¬ (e ≤ j ∧ j ≤ e + 16) → Y.1 j k = X.1 j k) → (Y.1 e 1).toInt = 0 → (Y.1 e 6).toInt = 0 → TKS (e + 1) Y K9 → (∀ k, k < m → (Y.1 (e + 16) k).toInt = 1) → pw (g_Program_clear_24 N e a Y) (fun _ Z => Z.2 = X.2 ∧ (∀ j k, ¬ (e ≤ j ∧ j ≤ e + 16) → Z.1 j k = X.1 j k) ∧ (Z.1 e 1).toInt = 0 ∧ (Z.1 e 6).toInt = 0 ∧ TKS (e + 1) Z K9 ∧ ∀ k, k < 40 → (Z.1 (e + 16) k).toInt = 1) := by
    intro N
    unfold g_Program_clear_24
    refine lp_ind (P := fun (r : Nat → Int32 → St → Option (Int32 × St)) => ∀ (a : Int32) (Y : St) (m : Nat), a.toInt = (m : Int) → m ≤ 40 → Y.2 = X.2 → (∀ j k, ¬ (e ≤ j ∧ j ≤ e + 16) → Y.1 j k = X.1 j k) → (Y.1 e 1).toInt = 0 → (Y.1 e 6).toInt = 0 → TKS (e + 1) Y K9 → (∀ k, k < m → (Y.1 (e + 16) k).toInt = 1) → pw (r e a Y) (fun _ Z => Z.2 = X.2 ∧ (∀ j k, ¬ (e ≤ j ∧ j ≤ e + 16) → Z.1 j k = X.1 j k) ∧ (Z.1 e 1).toInt = 0 ∧ (Z.1 e 6).toInt = 0 ∧ TKS (e + 1) Z K9 ∧ ∀ k, k < 40 → (Z.1 (e + 16) k).toInt = 1)) (fun _ _ _ _ _ _ _ _ _ _ _ => pw_none) (fun r ih a Y m ha hm h2 h1 hp hl hk9 ht => ?_) N
    unfold g_Program_clear_24_s
    refine pw_ite (fun c1 => ?_) (fun c1 => ?_)
    · have : m = 40 := by omega
      rw [this] at ht
      exact pw_ret ⟨h2, h1, hp, hl, hk9, ht⟩
    · refine pw_to k3 ?_
      refine pw_ck (fun _ => ?_)
      rw [ixn ha]
      refine pw_eq (fun X7 e7 => ?_)
      refine pw_let ?_
      refine ih _ X7 (m + 1) (by rw [i1 (by omega), ha]; omega) (by omega) (by rw [e7]; exact h2) (fun j k a => ?_) ?_ ?_ (hk9.cg (fun j k q1 q2 _ => by rw [e7, wI_ne _ _ _ _ _ _ (by omega)])) (fun k hk => ?_)
      · rw [e7, wI_ne _ _ _ _ _ _ (by omega)]; exact h1 j k a
      · rw [e7, wI_ne _ _ _ _ _ _ (by omega)]; exact hp
      · rw [e7, wI_ne _ _ _ _ _ _ (by omega)]; exact hl
      · by_cases g : k = m
        · rw [g, e7, wI_at]; decide
        · rw [e7, wI_ne _ _ _ _ _ _ (by omega)]; exact ht k (by omega)
  refine loop BIG 0 X5 0 (by decide) (by decide) ?_ (fun j k a => ?_) ?_ ?_ (hT2.cg (fun j k q1 q2 _ => by rw [e5, wI_ne _ _ _ _ _ _ (by omega), e4, wI_ne _ _ _ _ _ _ (by omega), e3, wI_ne _ _ _ _ _ _ (by omega)])) (fun k hk => absurd hk (Nat.not_lt_zero _))
  · rw [e5, e4, e3]; exact hK.2
  · rw [e5, wI_ne _ _ _ _ _ _ (by omega), e4, wI_ne _ _ _ _ _ _ (by omega), e3, wI_ne _ _ _ _ _ _ (by omega)]
    exact hK.1 j k (by omega)
  · rw [e5, wI_ne _ _ _ _ _ _ (by omega), e4, wI_ne _ _ _ _ _ _ (by omega), e3, wI_at]; decide
  · rw [e5, wI_at]; decide
theorem l_readInto (he : e = 2 ∨ e = 24) (hT : TXT ch n) {p3 : Int32} (hp : p3.toInt = (n : Int)) {X : St} (hb : ∀ i, i < n → (X.1 1 i &&& 255).toInt = ch i) (hK : ∃ ks, TKS (e + 1) X ks ∧ K9 <+: ks) : pw (g_Reader_readInto e 1 p3 X) (fun _ Z => FINq ch n e Z (sParts ch 41 [] 0 [])) := by
  have hn := hT.1
  unfold g_Reader_readInto
  refine pw_eq (fun X1 e1 => ?_)
  have hr1 : X1.2.2 46 1 = e + 1 := by
    rw [e1]
    show uA X.2.2 46 (fun j => if j = 1 then e + 1 else X.2.2 46 j) 46 1 = e + 1
    rw [uA_at]
    rfl
  refine pw_ck (fun _ => ?_)
  refine pw_to (w := e) (by rw [hr1]; rfl) ?_
  refine pw_bd (l_clear he X1 (by
    obtain ⟨ks, h1, h2⟩ := hK
    exact ⟨ks, h1.cg (fun j k q1 q2 _ => by rw [e1]; rfl), h2⟩)) ?_
  rintro _ X3 ⟨c1, c2, c3, c4, c9, c5⟩
  refine pw_eq (fun X4 e4 => ?_)
  refine pw_eq (fun X5 e5 => ?_)
  refine pw_eq (fun X6 e6 => ?_)
  refine pw_eq (fun X7 e7 => ?_)
  refine pw_eq (fun X8 e8 => ?_)
  have k8 : ∀ j k, ¬ j = 46 → X8.1 j k = X3.1 j k := fun j k a => by
    rw [e8, wI_ne _ _ _ _ _ _ (fun g => a g.1), e7, wI_ne _ _ _ _ _ _ (fun g => a g.1), e6, wI_ne _ _ _ _ _ _ (fun g => a g.1), e5, wI_ne _ _ _ _ _ _ (fun g => a g.1), e4, wI_ne _ _ _ _ _ _ (fun g => a g.1)]
  have s8 : X8.2 = X3.2 := by rw [e8, e7, e6, e5, e4]; rfl
  have f3 : (X8.1 46 3).toInt = 0 := by
    rw [e8, wI_ne _ _ _ _ _ _ (by decide), e7, wI_ne _ _ _ _ _ _ (by decide), e6, wI_ne _ _ _ _ _ _ (by decide), e5, wI_ne _ _ _ _ _ _ (by decide), e4, wI_at]; decide
  have f2 : (X8.1 46 2).toInt = 0 := by
    rw [e8, wI_ne _ _ _ _ _ _ (by decide), e7, wI_ne _ _ _ _ _ _ (by decide), e6, wI_at]; decide
  have f5 : (X8.1 46 5).toInt = 0 := by
    rw [e8, wI_ne _ _ _ _ _ _ (by decide), e7, wI_at]; decide
  have f6 : (X8.1 46 6).toInt = 0 := by rw [e8, wI_at]; decide
  -- the text is laid
  have hbeg : pw (g_Tokens_begin 1 p3 X8) (fun _ Z => (∀ j k, ¬ j = 47 → Z.1 j k = X8.1 j k) ∧ (∀ j k, ¬ j = 47 → Z.2.1 j k = X8.2.1 j k) ∧ Z.2.2 46 1 = e + 1 ∧ TXC ch n Z ∧ TKq ch Z 0) := by
    unfold g_Tokens_begin
    refine pw_eq (fun Y1 d1 => ?_)
    refine pw_to (w := (3000 : Int32)) (by decide +kernel) ?_
    refine pw_to (w := p3) (if_neg (fun g => ?_)) ?_
    · have := Int32.lt_iff_toInt_lt.mp g
      have l3 : (3000 : Int32).toInt = 3000 := by decide
      omega
    refine pw_eq (fun Y4 d4 => ?_)
    have r4 : Y4.2.2 47 0 = 2 := by
      rw [d4, d1]
      show uA X8.2.2 47 (fun j => if j = 0 then 1 + 1 else X8.2.2 47 j) 47 0 = 2
      rw [uA_at]
      rfl
    have r46 : Y4.2.2 46 1 = e + 1 := by
      rw [d4, d1]
      show uA X8.2.2 47 (fun j => if j = 0 then 1 + 1 else X8.2.2 47 j) 46 1 = e + 1
      rw [uA_ne _ _ _ (by decide), s8, c1]
      exact hr1
    have g4 : ∀ j k, ¬ j = 47 → Y4.1 j k = X8.1 j k := fun j k a => by
      rw [d4, wI_ne _ _ _ _ _ _ (fun g => a g.1), d1]
      rfl
    have t4 : TXC ch n Y4 := by
      refine ⟨hT, r4, by rw [d4, wI_at]; exact hp, fun i hi => ?_⟩
      rw [g4 1 i (by decide), k8 1 i (by decide), c2 1 i (by omega), e1]
      exact hb i hi
    refine pw_bd (c_goTo t4 (q := 0) (by decide) (Nat.zero_le _)) ?_
    rintro _ Z ⟨g, t⟩
    refine pw_ret ⟨fun j k a => by rw [g.1 j k a, g4 j k a], fun j k a => ?_, by rw [g.2.2.1]; exact r46, t4.fr g, t⟩
    rw [g.2.1 j k a, d4, d1]
    rfl
  refine pw_bd hbeg ?_
  rintro _ X9 ⟨g1, g2, g3, g4, g5⟩
  have t9 : TKS (e + 1) X9 K9 := c9.cg (fun j k q1 q2 _ => by rw [g1 j k (by omega), k8 j k (by omega)])
  have w9 : ∀ d ∈ K9, WKd 40 d := by
    have w1 : ∀ m, WKd m [4, 3] := fun m => (WKd.i3 m).row
    have w2 : ∀ ds : List (List Int), ds.length ≤ 4 → (∀ x ∈ ds, x = [3]) → WKd 40 ((5 + (ds.length : Int)) :: (ds.flatten ++ [3])) := fun ds h1 h2 => WKd.fn h1 (fun x hx => ⟨by decide, by rw [h2 x hx]; exact WKd.i3 _⟩) (WKd.i3 _)
    have rp : ∀ m : Nat, ∀ x ∈ List.replicate m ([3] : List Int), x = [3] := fun m x hx => (List.mem_replicate.mp hx).2
    intro d hd
    unfold K9 at hd
    simp only [List.mem_cons, List.not_mem_nil, or_false] at hd
    rcases hd with rfl | rfl | rfl | rfl | rfl | rfl | rfl | rfl | rfl
    · exact WKd.i1 _
    · exact WKd.i2 _
    · exact WKd.i3 _
    · exact w1 _
    · exact w2 (List.replicate 0 [3]) (by decide) (rp 0)
    · exact w2 (List.replicate 1 [3]) (by decide) (rp 1)
    · exact w2 (List.replicate 2 [3]) (by decide) (rp 2)
    · exact w2 (List.replicate 3 [3]) (by decide) (rp 3)
    · exact w2 (List.replicate 4 [3]) (by decide) (rp 4)
  have q9 : KQ e X9 (9 + kps [], K9, [], 0) [] := ⟨⟨fun i hi => absurd hi List.not_mem_nil, Nat.zero_le _⟩, fun _ => ⟨K9, t9, ⟨List.prefix_rfl, w9⟩, List.prefix_rfl, Nat.le_refl _, fun i a ha => absurd ha (by rw [List.getElem?_nil]; exact fun g => Option.some_ne_none _ g.symm)⟩⟩
  have hR : RC0 e ch n X9 (0, 9 + kps [], K9, [], 0) X9 0 0 [] [] := ⟨⟨he, g3, g4, Nat.zero_le _, q9⟩, ⟨by rw [g1 46 3 (by decide)]; exact f3, g5, by rw [g1 46 2 (by decide)]; exact f2, by rw [g1 46 6 (by decide)]; exact f6⟩, ⟨by rw [g1 46 5 (by decide)]; exact f5, trivial⟩, ⟨by rw [g1 e 6 (by omega), k8 e 6 (by omega)]; exact c4, fun i a ha => absurd ha (by rw [List.getElem?_nil]; exact fun g => Option.some_ne_none _ g.symm)⟩, RF.rf⟩
  have hRk : RCk e ch n [] [] X9 0 := ⟨K9, List.prefix_rfl, hR, fun x hx => absurd hx List.not_mem_nil, fun k hk => by rw [g1 _ _ (by omega), k8 _ _ (by omega)]; exact c5 k hk, fun _ k p hp => absurd hp (by rw [List.getElem?_nil]; exact fun g => Option.some_ne_none _ g.symm)⟩
  refine (l_parts BIG).2 p3 0 X9 41 0 [] [] (by decide) rfl (by decide) hRk (fun k p hp => absurd hp (by rw [List.getElem?_nil]; exact fun g => Option.some_ne_none _ g.symm)) ?_ (Nat.zero_le _) (fun k p hp => absurd hp (by rw [List.getElem?_nil]; exact fun g => Option.some_ne_none _ g.symm)) (fun _ => rfl)
  rw [g1 e 1 (by omega), k8 e 1 (by omega), c3]
  rfl
end CRD
