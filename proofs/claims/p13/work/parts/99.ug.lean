/-! the loop of a run -/
def dd (X : St) (o : Nat) : Int := if (X.1 40 o).toInt = 0 then 0 else 48001
theorem dd0 {X : St} {o : Nat} (h : (X.1 40 o).toInt = 0) : dd X o = 0 := if_pos h
theorem dd1 {X : St} {o : Nat} (h : ¬ (X.1 40 o).toInt = 0) : dd X o = 48001 := if_neg h
theorem dd_le {X : St} {o : Nat} : 0 ≤ dd X o ∧ dd X o ≤ 48001 := by
  by_cases h : (X.1 40 o).toInt = 0
  · rw [dd0 h]; omega
  · rw [dd1 h]; omega
/-- a run at place o of part p, c calls below -/
def RST (u : Bool) (X : St) (G : Nat → Int32) (po : Nat → Nat) (PTs : Nat → Nat → Ty) (p o c b sb : Nat) : Prop := FIN u X G (PTs p o) sb (45 * c) ∧ ((p : Int) < (X.1 0 18).toInt ∧ po p ≤ o ∧ o < po (p + 1)) ∧ ((X.1 0 38).toInt = (c : Int) + 1 ∧ c ≤ 99) ∧ ((X.1 0 37).toInt = (b : Int) ∧ b ≤ 21 * c + 1) ∧ LOW u X G po PTs c b sb (okk u X p) ∧ (((sb + (PTs p o).1 + c : Nat) : Int) ≤ (X.1 0 40).toInt ∧ (LFP X o → ((sb + (PTs p o).1 + c : Nat) : Int) + 1 ≤ (X.1 0 40).toInt))
def GLB (u : Bool) (X : St) (po : Nat → Nat) (PTs : Nat → Nat → Ty) : Prop := RUNC u X po PTs ∧ (0 ≤ (X.1 0 40).toInt ∧ (X.1 0 40).toInt ≤ (X.1 0 39).toInt ∧ (X.1 0 39).toInt ≤ 20000) ∧ (X.1 0 28).toInt ≤ 12000
/-- the value that a run ended with -/
def FINAL (u : Bool) (Y : St) : Prop := ∃ G k, HP u Y G ∧ VV u Y G k (Y.1 60 0) (Y.1 61 0)
def RUNQ (u : Bool) (X Y : St) : Prop := PER [13, 15, 31, 32, 33, 34, 35, 36, 37, 38, 40, 43, 44, 45, 46, 800, 1000, 1200, 1400, 1600, 1800, 2000, 12000, 12200, 12400, 12600, 12800, 13000, 13200, 13400, 13600, 13800, 14000, 14200, 14400, 14600, 14800, 15000, 15200, 15400, 15600, 15800, 16000, 16200] X Y ∧ (0 ≤ (Y.1 0 46).toInt ∧ (Y.1 0 46).toInt ≤ 200) ∧ (0 < (Y.1 0 43).toInt ∨ ((Y.1 0 43).toInt = 0 ∧ FINAL u Y))
theorem RUNQ.tr {u : Bool} {X Y Z : St} {L : List Nat} (hP : PER L X Y) (hL : ∀ k ∈ L, k ∈ [13, 15, 31, 32, 33, 34, 35, 36, 37, 38, 40, 43, 44, 45, 46, 800, 1000, 1200, 1400, 1600, 1800, 2000, 12000, 12200, 12400, 12600, 12800, 13000, 13200, 13400, 13600, 13800, 14000, 14200, 14400, 14600, 14800, 15000, 15200, 15400, 15600, 15800, 16000, 16200]) (h : RUNQ u Y Z) : RUNQ u X Z := ⟨(hP.mono hL).tr h.1 (fun _ q => q), h.2⟩
theorem JW.per {L : List Nat} {X Y : St} (h : PER L X Y) (hL : ∀ k ∈ L, k ∈ [13, 15, 31, 32, 33, 34, 35, 36, 37, 38, 40, 43, 44, 45, 46, 800, 1000, 1200, 1400, 1600, 1800, 2000, 12000, 12200, 12400, 12600, 12800, 13000, 13200, 13400, 13600, 13800, 14000, 14200, 14400, 14600, 14800, 15000, 15200, 15400, 15600, 15800, 16000, 16200]) : JW X Y (fun _ => False) := JW.fr (h.1.mono hL) h.2.2.1 (by decide) _
theorem RUNC.per {u : Bool} {L : List Nat} {X Y : St} {po : Nat → Nat} {PTs : Nat → Nat → Ty} (h : RUNC u X po PTs) (hT : KT X) (hP : PER L X Y) (hL : ∀ k ∈ L, k ∈ [13, 15, 31, 32, 33, 34, 35, 36, 37, 38, 40, 43, 44, 45, 46, 800, 1000, 1200, 1400, 1600, 1800, 2000, 12000, 12200, 12400, 12600, 12800, 13000, 13200, 13400, 13600, 13800, 14000, 14200, 14400, 14600, 14800, 15000, 15200, 15400, 15600, 15800, 16000, 16200]) : RUNC u Y po PTs := h.jw hT (JW.per hP hL) (fun p => (hP.1.mono hL).1 44 p (show (8800 : Nat) ∉ [13, 15, 31, 32, 33, 34, 35, 36, 37, 38, 40, 43, 44, 45, 46, 800, 1000, 1200, 1400, 1600, 1800, 2000, 12000, 12200, 12400, 12600, 12800, 13000, 13200, 13400, 13600, 13800, 14000, 14200, 14400, 14600, 14800, 15000, 15200, 15400, 15600, 15800, 16000, 16200] from by decide))
theorem ret_132 {u : Bool} {X : St} (hT : KT X) (h46 : 0 ≤ (X.1 0 46).toInt ∧ (X.1 0 46).toInt ≤ 200) (h : 0 < (X.1 0 43).toInt ∨ ((X.1 0 43).toInt < 0 ∧ K3 X ∧ FINAL u X)) : ok (f_starts_132 X) (fun _ Y => RUNQ u X Y) := by
  unfold f_starts_132
  refine ok.bd r_isOn ?_
  rintro r X' ⟨rfl, hr⟩
  refine ok.ite (fun c => ok.letV (ok.ret ⟨PER.rf hT, h46, Or.inl (by omega)⟩)) (fun c => ok.letV (ok.letV (ok.ret ?_)))
  rcases h with h | ⟨h, h3, G, k, hH, hV⟩
  · omega
  · have hF : Fr YR [43] X (wI X 0 43 0) := Fr.rf.wI 0 43 _ (show (43 : Nat) ∈ [43] from by decide)
    have v43 : (wI X 0 43 0).1 0 43 = 0 := wI_at _ _ _ _
    obtain ⟨Y, hY⟩ : ∃ Y : St, wI X 0 43 0 = Y := ⟨_, rfl⟩
    rw [hY] at hF v43 ⊢
    have hK : KX X Y := KX.fr hF (by decide)
    refine ⟨(PER.fr hT hF (by decide)).mono (by decide), by rw [hF.1 0 46 (by decide)]; exact h46, Or.inr ⟨by rw [v43]; rfl, G, k, hH.same hT hF hK (by decide) (by decide), ?_⟩⟩
    rw [hF.1 60 0 (show (12000 : Nat) ∉ [43] from by decide), hF.1 61 0 (show (12200 : Nat) ∉ [43] from by decide)]
    exact hV.hx hT (HX.fr hF hK (by decide))
/-- the loop is left -/
theorem loop_off {u : Bool} {X : St} {N : Nat} {o1 : Int32} (hT : KT X) (h46 : 0 ≤ (X.1 0 46).toInt ∧ (X.1 0 46).toInt ≤ 200) (h : 0 < (X.1 0 43).toInt ∨ ((X.1 0 43).toInt < 0 ∧ o1.toInt < 0 ∧ K3 X ∧ FINAL u X)) : ok (f_starts_106 (N + 1) o1 X) (fun _ Y => RUNQ u X Y) := by
  show ok (f_starts_106_s (f_starts_106 N) o1 X) _
  unfold f_starts_106_s
  refine ok.bd r_isOn ?_
  rintro r X' ⟨rfl, hr⟩
  rcases h with h | ⟨h1, h2, h3, h4⟩
  · exact ok.ite (fun c => ret_132 hT h46 (Or.inl h)) (fun c => by omega)
  · exact ok.ite (fun c => by omega) (fun c => ok.ite (fun _ => ret_132 hT h46 (Or.inr ⟨h1, h3, h4⟩)) (fun c2 => absurd h2 c2))
theorem LFP.per {L : List Nat} {X Y : St} (hP : PER L X Y) (hL : ∀ k ∈ L, k ∈ [13, 15, 31, 32, 33, 34, 35, 36, 37, 38, 40, 43, 44, 45, 46, 800, 1000, 1200, 1400, 1600, 1800, 2000, 12000, 12200, 12400, 12600, 12800, 13000, 13200, 13400, 13600, 13800, 14000, 14200, 14400, 14600, 14800, 15000, 15200, 15400, 15600, 15800, 16000, 16200]) {p : Nat} : LFP Y p ↔ LFP X p := LFP.jw (JW.per hP hL)
theorem GLB.per {u : Bool} {L : List Nat} {X Y : St} {po : Nat → Nat} {PTs : Nat → Nat → Ty} (h : GLB u X po PTs) (hT : KT X) (hP : PER L X Y) (hL : ∀ k ∈ L, k ∈ [13, 15, 31, 32, 33, 34, 35, 36, 37, 38, 40, 43, 44, 45, 46, 800, 1000, 1200, 1400, 1600, 1800, 2000, 12000, 12200, 12400, 12600, 12800, 13000, 13200, 13400, 13600, 13800, 14000, 14200, 14400, 14600, 14800, 15000, 15200, 15400, 15600, 15800, 16000, 16200]) (h40 : (X.1 0 40).toInt ≤ (Y.1 0 40).toInt ∧ (Y.1 0 40).toInt ≤ (X.1 0 39).toInt) : GLB u Y po PTs := by
  obtain ⟨a, ⟨b1, b2, b3⟩, c⟩ := h
  have hF := hP.1.mono hL
  exact ⟨a.per hT hP hL, by rw [hF.1 0 39 (by decide)]; omega, by rw [hF.1 0 28 (by decide)]; exact c⟩
theorem okk.per {u : Bool} {L : List Nat} {X Y : St} (hP : PER L X Y) (hL : ∀ k ∈ L, k ∈ [13, 15, 31, 32, 33, 34, 35, 36, 37, 38, 40, 43, 44, 45, 46, 800, 1000, 1200, 1400, 1600, 1800, 2000, 12000, 12200, 12400, 12600, 12800, 13000, 13200, 13400, 13600, 13800, 14000, 14200, 14400, 14600, 14800, 15000, 15200, 15400, 15600, 15800, 16000, 16200]) (p : Nat) : okk u Y p = okk u X p := by
  unfold okk
  rw [(JW.per hP hL).ok p]
/-- the last place of a part, or one that a rule stands at: how many names -/
theorem RUNC.names {u : Bool} {X : St} {po : Nat → Nat} {PTs : Nat → Nat → Ty} (h : RUNC u X po PTs) {p o : Nat} (hp : (p : Int) < (X.1 0 18).toInt) (h1 : po p ≤ o) (h2 : o ≤ po (p + 1) - 1) : (PTs p o).2.2.1 ≤ 44 := by
  obtain ⟨a1, a2, a3, a4, a5, a6, a7, a8, a9⟩ := h.2 p hp
  by_cases g : o < po (p + 1) - 1
  · exact (a5 o h1 g).1
  · rw [show o = po (p + 1) - 1 by omega]
    exact a9
section LOOP
variable {u : Bool} {X : St} {G : Nat → Int32} {po : Nat → Nat} {PTs : Nat → Nat → Ty} {p o c b sb : Nat} {o1 : Int32}
/-- what the next turn meets -/
def NEXT (u : Bool) (X Y : St) (po : Nat → Nat) (PTs : Nat → Nat → Ty) (o c : Nat) (r : Int32) : Prop := PER [13, 15, 31, 32, 33, 34, 35, 36, 37, 38, 40, 43, 44, 45, 46, 800, 1000, 1200, 1400, 1600, 1800, 2000, 12000, 12200, 12400, 12600, 12800, 13000, 13200, 13400, 13600, 13800, 14000, 14200, 14400, 14600, 14800, 15000, 15200, 15400, 15600, 15800, 16000, 16200] X Y ∧ (0 ≤ (Y.1 0 46).toInt ∧ (Y.1 0 46).toInt ≤ 200) ∧ ((Y.1 0 43).toInt < 0 → (r.toInt < 0 ∧ FINAL u Y) ∨ (GLB u Y po PTs ∧ ∃ (G : Nat → Int32) (p2 o2 c2 b2 sb2 : Nat), r.toInt = (o2 : Int) ∧ RST u Y G po PTs p2 o2 c2 b2 sb2 ∧ 48001 * (20000 - (Y.1 0 40).toInt) + 24001 * (c2 : Int) + (24001 - (o2 : Int)) + dd Y o2 < 48001 * (20000 - (X.1 0 40).toInt) + 24001 * (c : Int) + (24001 - (o : Int)) + dd X o))
theorem step_in (h : RST u X G po PTs p o c b sb) (hg : GLB u X po PTs) (ho : o1.toInt = (o : Int)) (hlt : o < po (p + 1) - 1) (h28 : ¬ (X.1 40 o).toInt = 28) : ok (f_does o1 (X.1 41 o) X) (fun r Y => NEXT u X Y po PTs o c r) := by
  obtain ⟨hf, ⟨hp, hp1, hp2⟩, ⟨h38, hc⟩, ⟨h37, hb⟩, hL, hs1, hs2⟩ := h
  obtain ⟨hR, ⟨g1, g2, g3⟩, g4⟩ := id hg
  obtain ⟨a1, a2, a3, a4, a5, a6, a7, a8, a9⟩ := hR.2 p hp
  refine (r_does hf (a5 o hp1 hlt) ho (by omega) rfl g4 (fun q hq => (hR.2 q hq).1.1) ⟨g1, by omega⟩ h28).mono ?_
  rintro r Y ⟨hP, h46, hon⟩
  refine ⟨hP.mono (by decide), h46, fun q => ?_⟩
  obtain ⟨d1, p2, t1, G1, d2, ⟨⟨d3a, d3b, d3c⟩, d3d, d3e⟩, d4, d5, d6, d7, d8, d9⟩ := hon q
  clear hon
  have hT := hf.1.2.1
  have hY := hP.2.1
  have t1e := d3c.1
  have h40 : (X.1 0 40).toInt ≤ (Y.1 0 40).toInt ∧ (Y.1 0 40).toInt ≤ (X.1 0 39).toInt := by
    rcases d1 with ⟨-, d1, dn⟩ | ⟨-, d1⟩
    · omega
    · rw [d1]
      exact ⟨Int.le_refl _, g2⟩
  have hg2 := hg.per hT hP (by decide) h40
  have lf : LFP Y p2 → LFP X p2 := fun z => (LFP.per hP (by decide)).mp z
  have o31 : p2 = po (p + 1) - 1 → ¬ LFP X p2 := by
    rintro rfl z
    unfold LFP at z
    omega
  have grow : ((sb + t1.1 + c : Nat) : Int) ≤ (Y.1 0 40).toInt ∧ (LFP Y p2 → ((sb + t1.1 + c : Nat) : Int) + 1 ≤ (Y.1 0 40).toInt) := by
    rcases d1 with ⟨o0, d1, dn⟩ | ⟨o0, d1⟩
    · have nl : ¬ LFP X o := by
        intro z
        unfold LFP at z
        omega
      rcases d4 with d4 | ⟨d4, -⟩
      · exact ⟨by omega, fun _ => by omega⟩
      · exact absurd d4 nl
    · rw [d1]
      refine ⟨?_, fun z => ?_⟩
      · rcases d4 with d4 | ⟨d4, d4'⟩
        · omega
        · have := hs2 d4
          omega
      · rcases d3e with w | w | w
        · exact absurd (lf z) (o31 w)
        · exact absurd w o0
        · exact absurd (lf z) w
  refine Or.inr ⟨hg2, G1, p, p2, c, b, sb, d2, ⟨?_, ⟨by rw [hP.1.1 0 18 (by decide)]; exact hp, d3a, by omega⟩, ⟨by rw [hP.1.1 0 38 (by decide)]; exact h38, hc⟩, ⟨by rw [hP.1.1 0 37 (by decide)]; exact h37, hb⟩, ?_, ?_⟩, ?_⟩
  · have hs20 := hg2.2.1
    refine ⟨⟨d6, hY, hf.1.2.2.1.kx hP.2.2.1, hf.1.2.2.2.pot hP.2.2.2⟩, ⟨by rw [hP.1.1 0 18 (by decide)]; exact hf.2.1.1, q, by rw [hP.1.1 0 42 (by decide)]; exact hf.2.1.2.2⟩, d7.te d3c, ⟨by rw [← t1e]; exact d8, by omega, by rw [hP.1.1 0 32 (by decide)]; exact hf.2.2.2.1.2.2.1, hf.2.2.2.1.2.2.2.1, hR.names hp d3a d3b⟩, h46⟩
  · rw [okk.per hP (by decide) p]
    exact LOW.hx hT d5 (fun j => (LFP.per hP (by decide)).mp) c b sb _ (fun j _ => ⟨hP.1.1 76 j (show (15200 : Nat) ∉ [13, 15, 31, 33, 34, 35, 36, 40, 43, 44, 45, 46, 800, 1000, 1200, 1400, 1600, 1800, 2000, 12000, 12200, 12400, 12600, 12800, 13000, 13200, 13400, 13600, 13800, 14000, 14200, 14400, 14600, 14800, 15000, 15800, 16000, 16200] from by decide), hP.1.1 77 j (show (15400 : Nat) ∉ [13, 15, 31, 33, 34, 35, 36, 40, 43, 44, 45, 46, 800, 1000, 1200, 1400, 1600, 1800, 2000, 12000, 12200, 12400, 12600, 12800, 13000, 13200, 13400, 13600, 13800, 14000, 14200, 14400, 14600, 14800, 15000, 15800, 16000, 16200] from by decide), hP.1.1 78 j (show (15600 : Nat) ∉ [13, 15, 31, 33, 34, 35, 36, 40, 43, 44, 45, 46, 800, 1000, 1200, 1400, 1600, 1800, 2000, 12000, 12200, 12400, 12600, 12800, 13000, 13200, 13400, 13600, 13800, 14000, 14200, 14400, 14600, 14800, 15000, 15800, 16000, 16200] from by decide)⟩) d9.1 d9.2 hL
  · rw [← t1e]
    exact grow
  · have dl := @dd_le Y p2
    rcases d1 with ⟨o0, d1, dn⟩ | ⟨o0, d1⟩
    · rw [dd0 o0]
      omega
    · rw [dd1 o0, d1]
      omega
theorem step_call (h : RST u X G po PTs p o c b sb) (hg : GLB u X po PTs) (ho : o1.toInt = (o : Int)) (h28 : (X.1 40 o).toInt = 28) : ok (f_does o1 (X.1 41 o) X) (fun r Y => NEXT u X Y po PTs o c r) := by
  obtain ⟨hf, ⟨hp, hp1, hp2⟩, ⟨h38, hc⟩, ⟨h37, hb⟩, hL, hs1, hs2⟩ := h
  obtain ⟨hR, ⟨g1, g2, g3⟩, g4⟩ := id hg
  obtain ⟨a1, a2, a3, a4, a5, a6, a7, a8, a9⟩ := hR.2 p hp
  have hlt : o < po (p + 1) - 1 := by
    by_cases z : o < po (p + 1) - 1
    · exact z
    · have : o = po (p + 1) - 1 := by omega
      rw [this] at h28
      omega
  obtain ⟨hv, op, n, hoa, hn, -, m, hm, hm4, hmt, hk, ha, tn⟩ := (a5 o hp1 hlt).x13 h28
  have eo : ix o1 = o := ixn ho
  have hbo : 0 ≤ o1.toInt ∧ o1.toInt < ((24000 : Nat) : Int) := by omega
  unfold f_does
  refine ok.ck hbo (ok.letE (v1 := X.1 40 o) (by rw [eo]) ?_)
  refine ok.ite (fun z => absurd z (by omega)) (fun _ => ok.ite (fun z => absurd z (by omega)) (fun _ => ok.ite (fun z => absurd z (by omega)) (fun _ => ok.ite (fun z => absurd z (by omega)) (fun _ => ok.ite (fun z => absurd z (by omega)) (fun _ => ok.ite (fun z => absurd z (by omega)) (fun _ => ok.ite (fun z => absurd z (by omega)) (fun _ => ok.ite (fun z => absurd z (by omega)) (fun _ => ok.ite (fun z => absurd z (by omega)) (fun _ => ok.ite (fun z => absurd z (by omega)) (fun _ => ok.ite (fun z => absurd z (by omega)) (fun _ => ok.ite (fun z => absurd z (by omega)) (fun _ => ok.ite (fun z => absurd z (by omega)) (fun _ => ok.ite (fun z => absurd z (by omega)) (fun _ => ok.ite (fun z => absurd z (by omega)) (fun _ => ok.ite (fun z => absurd z (by omega)) (fun _ => ok.ite (fun z => absurd z (by omega)) (fun _ => ok.ite (fun _ => ?_) (fun z => absurd h28 z))))))))))))))))))
  refine ok.bd (r_call hf ho (by omega) hoa.2 hn h38 hc h37 hb hm hm4 hmt hk ha) ?_
  rintro r Y ⟨hP, h46, hon⟩
  refine ok.ret ⟨hP.mono (by decide), by rw [h46]; exact hf.2.2.2.2, fun q => Or.inr ?_⟩
  obtain ⟨p2, n', ⟨⟨e1, e2⟩, ⟨e3, e4⟩, ⟨e5, e6, e7, e8, e9, e10⟩, ⟨f1, f2, f3⟩, f4, f5, f6, f7, f8⟩, hr⟩ := hon q
  clear hon
  have hT := hf.1.2.1
  have hY := hP.2.1
  have y40 : Y.1 0 40 = X.1 0 40 := hP.1.1 0 40 (by decide)
  have hg2 := hg.per hT hP (by decide) (by rw [y40]; exact ⟨Int.le_refl _, g2⟩)
  have lf : ∀ j, LFP Y j → LFP X j := fun j => (LFP.per hP (by decide)).mp
  obtain ⟨k1, k2, k3, k4, k5, k6, k7, k8, k9⟩ := hR.2 p2 e1
  have y18 : Y.1 0 18 = X.1 0 18 := hP.1.1 0 18 (by decide)
  obtain ⟨-, -, -, k4y, -, -, -, -, -⟩ := hg2.1.2 p2 (by rw [y18]; exact e1)
  have k3y : (Y.1 40 (po p2)).toInt = 0 := by
    rw [hP.1.1 40 (po p2) (show (8000 : Nat) ∉ [13, 15, 31, 32, 33, 36, 37, 38, 43, 44, 45, 800, 1000, 1200, 1400, 1600, 1800, 2000, 12200, 12400, 12600, 12800, 13400, 13600, 13800, 14000, 14200, 14400, 14600, 15200, 15400, 15600, 16000] from by decide)]
    exact k3
  have y15 : Y.1 15 p2 = X.1 15 p2 := hP.1.1 15 p2 (show (3000 : Nat) ∉ [13, 15, 31, 32, 33, 36, 37, 38, 43, 44, 45, 800, 1000, 1200, 1400, 1600, 1800, 2000, 12200, 12400, 12600, 12800, 13400, 13600, 13800, 14000, 14200, 14400, 14600, 15200, 15400, 15600, 16000] from by decide)
  have hm2 : ix (Y.1 15 p2) = m := ixn (by rw [y15]; exact e2)
  have nlf2 : ¬ LFP Y (po p2) := by
    intro z
    unfold LFP at z
    omega
  obtain ⟨⟨t1, t2, t3⟩, t4, t5⟩ := tn
  have t30 : (PTs p o).1 - (m + 1) + 1 = (PTs p (o + 1)).1 := t3.1
  have hty : PTs p2 (po p2) = ety u Y p2 := k4y
  refine ⟨hg2, G, p2, po p2, c + 1, b + n' + 1, sb + ((PTs p o).1 - (m + 1)), by rw [hr]; exact k2.1, ⟨?_, ⟨by rw [y18]; exact e1, Nat.le_refl _, by omega⟩, ⟨by omega, by omega⟩, ⟨by rw [e7], by omega⟩, ?_, ?_, fun z => absurd z nlf2⟩, ?_⟩
  · rw [hty]
    refine ⟨⟨e4, hY, hf.1.2.2.1.kx hP.2.2.1, hf.1.2.2.2.pot hP.2.2.2⟩, ⟨by rw [y18]; exact hf.2.1.1, q, by rw [hP.1.1 0 42 (by decide)]; exact hf.2.1.2.2⟩, ⟨fun j hj => absurd hj (Nat.not_lt_zero _), fun j hj => ?_⟩, ⟨e10, by show sb + ((PTs p o).1 - (m + 1)) + 0 ≤ 20000; have := hf.2.2.2.1.2.1; omega, e9, by omega, by show ix (Y.1 15 p2) ≤ 44; omega⟩, by rw [h46]; exact hf.2.2.2.2⟩
    have hj : j < ix (Y.1 15 p2) := hj
    show VV u Y G (pkk u Y p2 j) _ _
    rw [pkk.hx e3 p2 j]
    exact f6 j (by omega)
  · have okp2 : okk u Y p2 = okk u X p2 := okk.per hP (by decide) p2
    rw [okp2]
    have tk : ∀ j, j < (PTs p o).1 - (m + 1) → (PTs p (o + 1)).2.1 j = (PTs p o).2.1 j := fun j hj => by
      rw [t3.2.1 j (by show j < (PTs p o).1 - (m + 1) + 1; omega)]
      exact tup_ne _ _ (show j ≠ (PTs p o).1 - (m + 1) by omega)
    have td : (PTs p (o + 1)).2.1 ((PTs p o).1 - (m + 1)) = ckd u X (tp (PTs p o) m) m := by
      rw [t3.2.1 _ (by show (PTs p o).1 - (m + 1) < (PTs p o).1 - (m + 1) + 1; omega)]
      exact tup_at _ _ _
    have tn44 := hR.names hp t1 t2
    refine ⟨p, o + 1, (PTs p o).1 - (m + 1), n', b, sb, ⟨rfl, e8, rfl⟩, ⟨f1, f2, f3⟩, ⟨by rw [y18]; exact hp, by omega, by omega, fun z => ?_⟩, t30.symm, tn44, ⟨fun j hj => ?_, fun j hj => ?_⟩, by rw [td]; exact f5, ?_⟩
    · rcases t5 with w | w | w
      · have z2 := lf _ z
        rw [w] at z2
        unfold LFP at z2
        omega
      · omega
      · exact w (lf _ z)
    · obtain ⟨s1, s2⟩ := f8 (sb + j) (by omega)
      rw [tk j hj, s1, s2]
      exact (hf.2.2.1.1 j (by omega)).hx hT e3
    · obtain ⟨s1, s2⟩ := f7 (45 * c + j) (by omega)
      rw [t3.2.2.2 j hj, s1, s2]
      have hle : (PTs p (o + 1)).2.2.1 ≤ (PTs p o).2.2.1 := t3.2.2.1
      exact (hf.2.2.1.2 j (by omega)).hx hT e3
    · rw [okk.per hP (by decide) p]
      exact LOW.hx hT e3 lf c b sb _ f4 (fun j hj => f8 j (by omega)) (fun j hj => f7 j (by omega)) hL
  · rw [hty, y40]
    show ((sb + ((PTs p o).1 - (m + 1)) + 0 + (c + 1) : Nat) : Int) ≤ _
    omega
  · rw [dd0 k3y, dd1 (by omega : ¬ (X.1 40 o).toInt = 0), y40]
    omega
theorem step_back (h : RST u X G po PTs p o c b sb) (hg : GLB u X po PTs) (ho : o1.toInt = (o : Int)) (hlast : o = po (p + 1) - 1) : ok (f_does o1 (X.1 41 o) X) (fun r Y => NEXT u X Y po PTs o c r) := by
  obtain ⟨hf, ⟨hp, hp1, hp2⟩, ⟨h38, hc⟩, ⟨h37, hb⟩, hL, hs1, hs2⟩ := h
  obtain ⟨hR, ⟨g1, g2, g3⟩, g4⟩ := id hg
  obtain ⟨a1, a2, a3, a4, a5, a6, a7, a8, a9⟩ := hR.2 p hp
  rw [← hlast] at a6 a7 a8 a9
  have eo : ix o1 = o := ixn ho
  have hbo : 0 ≤ o1.toInt ∧ o1.toInt < ((24000 : Nat) : Int) := by omega
  have hT := hf.1.2.1
  unfold f_does
  refine ok.ck hbo (ok.letE (v1 := X.1 40 o) (by rw [eo]) ?_)
  refine ok.ite (fun z => absurd z (by omega)) (fun _ => ok.ite (fun z => absurd z (by omega)) (fun _ => ok.ite (fun z => absurd z (by omega)) (fun _ => ok.ite (fun z => absurd z (by omega)) (fun _ => ok.ite (fun z => absurd z (by omega)) (fun _ => ok.ite (fun z => absurd z (by omega)) (fun _ => ok.ite (fun z => absurd z (by omega)) (fun _ => ok.ite (fun z => absurd z (by omega)) (fun _ => ok.ite (fun z => absurd z (by omega)) (fun _ => ok.ite (fun z => absurd z (by omega)) (fun _ => ok.ite (fun z => absurd z (by omega)) (fun _ => ok.ite (fun z => absurd z (by omega)) (fun _ => ok.ite (fun z => absurd z (by omega)) (fun _ => ok.ite (fun z => absurd z (by omega)) (fun _ => ok.ite (fun z => absurd z (by omega)) (fun _ => ok.ite (fun z => absurd z (by omega)) (fun _ => ok.ite (fun z => absurd z (by omega)) (fun _ => ok.ite (fun z => absurd z (by omega)) (fun _ => ok.ite (fun z => absurd z (by omega)) (fun _ => ok.ite (fun z => absurd z (by omega)) (fun _ => ok.ite (fun _ => ?_) (fun z => absurd a6 z)))))))))))))))))))))
  rcases c with _ | c
  · obtain ⟨rfl, rfl, l3, l4⟩ := hL
    refine ok.bd (r_back (b := 0) (n := 0) (c := 0) (kc := okk u X p) hf a7 a8 (by omega) (by omega) (by omega) (by omega) (by omega) (fun z => absurd z (by omega)) (fun z => absurd z (by omega)) (fun _ => rfl)) ?_
    rintro r Y ⟨hP, h46, hr, hon⟩
    refine ok.ret ⟨hP.mono (by decide), by rw [h46]; exact hf.2.2.2.2, fun q => Or.inl ⟨by rw [hr, Nat.add_zero]; omega, ?_⟩⟩
    obtain ⟨y1, y2, y3, -⟩ := hon q
    exact ⟨G, _, y2, y3⟩
  · obtain ⟨p2, rp, d, n, b', sb', ⟨rfl, e2, rfl⟩, ⟨e4, e5, e6⟩, ⟨e7, e8, e9, e10⟩, e11, e12, ⟨e13, e14⟩, e15, e16⟩ := hL
    have bd := LOW.bd c b' sb' _ e16
    have hb0 : ¬ b' = 0 := by omega
    refine ok.bd (r_back (b := b') (n := n) (c := c + 1) hf a7 a8 (by omega) (by omega) (by omega) (by omega) e2 (fun _ => bd.2.2) (fun _ => e15) (fun z => absurd z hb0)) ?_
    rintro r Y ⟨hP, h46, hr, hon⟩
    refine ok.ret ⟨hP.mono (by decide), by rw [h46]; exact hf.2.2.2.2, fun q => Or.inr ?_⟩
    obtain ⟨y1, y2, y3, y4, y5, y6, y7⟩ := hon q
    clear hon
    rw [if_neg hb0] at y3
    have y40 : Y.1 0 40 = X.1 0 40 := hP.1.1 0 40 (by decide)
    have y18 : Y.1 0 18 = X.1 0 18 := hP.1.1 0 18 (by decide)
    have y31 : Y.1 0 31 = X.1 0 31 := hP.1.1 0 31 (by decide)
    have hg2 := hg.per hT hP (by decide) (by rw [y40]; exact ⟨Int.le_refl _, g2⟩)
    have lf : ∀ j, LFP Y j → LFP X j := fun j => (LFP.per hP (by decide)).mp
    have y60 : ∀ j, Y.1 60 j = X.1 60 j := fun j => hP.1.1 60 j (show (12000 : Nat) ∉ [13, 15, 32, 33, 36, 37, 38, 43, 44, 45, 800, 1000, 1200, 1400, 1600, 1800, 2000, 12200, 12800, 13400, 13600, 13800, 14000, 14200, 14400, 14600, 16000] from by decide)
    have y62 : ∀ j, Y.1 62 j = X.1 62 j := fun j => hP.1.1 62 j (show (12400 : Nat) ∉ [13, 15, 32, 33, 36, 37, 38, 43, 44, 45, 800, 1000, 1200, 1400, 1600, 1800, 2000, 12200, 12800, 13400, 13600, 13800, 14000, 14200, 14400, 14600, 16000] from by decide)
    have y63 : ∀ j, Y.1 63 j = X.1 63 j := fun j => hP.1.1 63 j (show (12600 : Nat) ∉ [13, 15, 32, 33, 36, 37, 38, 43, 44, 45, 800, 1000, 1200, 1400, 1600, 1800, 2000, 12200, 12800, 13400, 13600, 13800, 14000, 14200, 14400, 14600, 16000] from by decide)
    have y76 : ∀ j, Y.1 76 j = X.1 76 j := fun j => hP.1.1 76 j (show (15200 : Nat) ∉ [13, 15, 32, 33, 36, 37, 38, 43, 44, 45, 800, 1000, 1200, 1400, 1600, 1800, 2000, 12200, 12800, 13400, 13600, 13800, 14000, 14200, 14400, 14600, 16000] from by decide)
    have y77 : ∀ j, Y.1 77 j = X.1 77 j := fun j => hP.1.1 77 j (show (15400 : Nat) ∉ [13, 15, 32, 33, 36, 37, 38, 43, 44, 45, 800, 1000, 1200, 1400, 1600, 1800, 2000, 12200, 12800, 13400, 13600, 13800, 14000, 14200, 14400, 14600, 16000] from by decide)
    have y78 : ∀ j, Y.1 78 j = X.1 78 j := fun j => hP.1.1 78 j (show (15600 : Nat) ∉ [13, 15, 32, 33, 36, 37, 38, 43, 44, 45, 800, 1000, 1200, 1400, 1600, 1800, 2000, 12200, 12800, 13400, 13600, 13800, 14000, 14200, 14400, 14600, 16000] from by decide)
    have t31 := hf.2.2.2.1.1
    rw [a7] at t31 hs1
    refine ⟨hg2, G, p2, rp, c, b', sb', by rw [hr]; exact e5, ⟨?_, ⟨by rw [y18]; exact e7, by omega, by omega⟩, ⟨by omega, by omega⟩, ⟨y4, bd.2.1⟩, ?_, ?_, fun z => absurd (lf _ z) e10⟩, ?_⟩
    · refine ⟨⟨y2, hP.2.1, hf.1.2.2.1.kx hP.2.2.1, hf.1.2.2.2.pot hP.2.2.2⟩, ⟨by rw [y18]; exact hf.2.1.1, q, by rw [hP.1.1 0 42 (by decide)]; exact hf.2.1.2.2⟩, ⟨fun j hj => ?_, fun j hj => ?_⟩, ⟨by rw [y31, e11]; omega, by omega, by rw [y6, e6]; omega, by omega, e12⟩, by rw [h46]; exact hf.2.2.2.2⟩
      · by_cases g : j = d
        · subst g
          exact y3
        · rw [y60, y7 (sb' + j) (by omega)]
          exact (e13 j (by omega)).hx hT y1
      · rw [y62, y63]
        exact (e14 j hj).hx hT y1
    · rw [okk.per hP (by decide) p2]
      exact LOW.hx hT y1 lf c b' sb' _ (fun j _ => ⟨y76 j, y77 j, y78 j⟩) (fun j hj => ⟨y60 j, y7 j (by omega)⟩) (fun j _ => ⟨y62 j, y63 j⟩) e16
    · rw [e11, y40]
      omega
    · have dl := @dd_le Y rp
      rw [dd1 (by omega : ¬ (X.1 40 o).toInt = 0), y40]
      omega
/-- all turns of the loop -/
theorem run_loop : ∀ (M : Nat) (X : St) (G : Nat → Int32) (p o c b sb N : Nat) (o1 : Int32), o1.toInt = (o : Int) → 48001 * (20000 - (X.1 0 40).toInt) + 24001 * (c : Int) + (24001 - (o : Int)) + dd X o ≤ (M : Int) → M < N → RST u X G po PTs p o c b sb → GLB u X po PTs → ok (f_starts_106 N o1 X) (fun _ Y => RUNQ u X Y) := by
  intro M
  induction M with
  | zero =>
    intro X G p o c b sb N o1 ho hm hN h hg
    have h2 := (hg.1.2 p h.2.1.1).2.1
    have := @dd_le X o
    have := hg.2.1
    have := h.2.1
    omega
  | succ M ih =>
    intro X G p o c b sb N o1 ho hm hN h hg
    obtain ⟨N, rfl⟩ : ∃ k, N = k + 1 := ⟨N - 1, by omega⟩
    have h2 := (hg.1.2 p h.2.1.1).2.1
    have h21 := h.2.1
    have eo : ix o1 = o := ixn ho
    have hf := h.1
    have hT := hf.1.2.1
    have hon := hf.2.1.2.1
    have key : ok (f_does o1 (X.1 41 o) X) (fun r Y => NEXT u X Y po PTs o c r) := by
      by_cases g : o = po (p + 1) - 1
      · exact step_back h hg ho g
      · by_cases g2 : (X.1 40 o).toInt = 28
        · exact step_call h hg ho g2
        · exact step_in h hg ho (by omega) g2
    show ok (f_starts_106_s (f_starts_106 N) o1 X) _
    unfold f_starts_106_s
    refine ok.bd r_isOn ?_
    rintro r X' ⟨rfl, hr⟩
    refine ok.ite (fun z => by omega) (fun _ => ok.ite (fun z => by omega) (fun _ => ?_))
    refine ok.ck (show 0 ≤ o1.toInt ∧ o1.toInt < ((24000 : Nat) : Int) by omega) (ok.letE (v1 := X.1 41 o) (by rw [eo]) ?_)
    refine ok.bd (key.nz (z_does (by omega))) ?_
    rintro r2 Y ⟨⟨hP, h46, hY⟩, hnz⟩
    by_cases hony : (Y.1 0 43).toInt < 0
    · rcases hY hony with ⟨q1, q2⟩ | ⟨q1, G2, p2, o2, c2, b2, sb2, q2, q3, q4⟩
      · obtain ⟨N, rfl⟩ : ∃ k, N = k + 1 := ⟨N - 1, by omega⟩
        exact (loop_off hP.2.1 h46 (Or.inr ⟨hony, q1, hf.1.2.2.1.kx hP.2.2.1, q2⟩)).mono (fun _ Z hZ => hZ.tr hP (by decide))
      · exact (ih Y G2 p2 o2 c2 b2 sb2 N r2 q2 (by omega) (by omega) q3 q1).mono (fun _ Z hZ => hZ.tr hP (by decide))
    · obtain ⟨N, rfl⟩ : ∃ k, N = k + 1 := ⟨N - 1, by omega⟩
      exact (loop_off hP.2.1 h46 (Or.inl (by omega))).mono (fun _ Z hZ => hZ.tr hP (by decide))
end LOOP
