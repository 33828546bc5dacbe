/-! a run in step: what both sides hold, what a turn leads to -/
/-- the weights of all parts -/
theorem wts_all {X : St} {po : Nat → Nat} : ∀ P : Nat, (∀ p, p < P → ∃ (lo hi e : Nat), CX X (ix (X.1 18 p)) lo hi (X.1 15 p).toInt (po p) e ∧ OA X e 30 p ∧ OA X (e + 1) 31 p ∧ po (p + 1) = e + 2) → ∃ W : Nat → Nat, ∀ p, p < P → W (po p) = 0 ∧ 1 ≤ W (po (p + 1) - 1) ∧ ∀ o, po p ≤ o → o < po (p + 1) - 1 → WS X W (po p) (po (p + 1) - 1) o := by
  intro P
  induction P with
  | zero => exact fun _ => ⟨fun _ => 0, fun p hp => absurd hp (Nat.not_lt_zero _)⟩
  | succ P ih =>
    intro h
    obtain ⟨W, hW⟩ := ih (fun p hp => h p (by omega))
    have mono : ∀ d p, p + d ≤ P → po p + d ≤ po (p + d) := by
      intro d
      induction d with
      | zero => intro p _; exact Nat.le_refl _
      | succ d ihd =>
        intro p hp
        have := ihd p (by omega)
        obtain ⟨_, _, e, hc, _, _, he⟩ := h (p + d) (by omega)
        have := hc.bd
        have e1 : p + (d + 1) = p + d + 1 := rfl
        rw [e1]
        omega
    obtain ⟨lo, hi, e, hc, h30, _, he⟩ := h P (by omega)
    obtain ⟨h0, V, v1, v2, v3⟩ := (hc.wg 0).tr (WG.one (b := 3) h30 (by decide) (by omega))
    refine ⟨fun q => if q < po P then W q else V q, fun p hp => ?_⟩
    by_cases g : p = P
    · subst g
      have z : ∀ q, po p ≤ q → (if q < po p then W q else V q) = V q := fun q hq => if_neg (by omega)
      have ee : po (p + 1) - 1 = e + 1 := by omega
      refine ⟨(z _ (Nat.le_refl _)).trans v1, ?_, fun o o1 o2 => ?_⟩
      · show 1 ≤ (if po (p + 1) - 1 < po p then W (po (p + 1) - 1) else V (po (p + 1) - 1))
        rw [z _ (by omega), ee, v2]
        decide
      · rw [ee] at o2 ⊢
        exact (v3 o o1 o2).cg ⟨o1, o2⟩ (fun q q1 _ => z q q1) (Nat.le_refl _) (Nat.le_refl _)
    · obtain ⟨w1, w2, w3⟩ := hW p (by omega)
      have m1 : po (p + 1) ≤ po P := by
        have := mono (P - (p + 1)) (p + 1) (by omega)
        rw [show p + 1 + (P - (p + 1)) = P by omega] at this
        omega
      obtain ⟨_, _, e1, hc1, _, _, he1⟩ := h p (by omega)
      have hc1 := hc1.bd
      have z : ∀ q, q < po P → (if q < po P then W q else V q) = W q := fun q hq => if_pos hq
      refine ⟨(z _ (by omega)).trans w1, ?_, fun o o1 o2 => ?_⟩
      · show 1 ≤ (if po (p + 1) - 1 < po P then W (po (p + 1) - 1) else V (po (p + 1) - 1))
        rw [z _ (by omega)]
        exact w2
      · exact (w3 o o1 o2).cg ⟨o1, o2⟩ (fun q _ q2 => z q (by omega)) (Nat.le_refl _) (Nat.le_refl _)
theorem cod_st : ∀ e, 11 ≤ e → e < 60 → ∀ k, cod YR e k = e * 200 := by
  have h : ∀ e : Fin 60, 11 ≤ e.val → ¬ (eY YR e.val).1 = 0 := by decide
  intro e h1 h2 k
  exact if_neg (h ⟨e, h2⟩ h1)
theorem PER.st {L : List Nat} {X Y : St} (h : PER L X Y) (hL : ∀ k ∈ L, k < 2200 ∨ 11999 < k) : ∀ e k, 11 ≤ e → e < 60 → Y.1 e k = X.1 e k := fun e k h1 h2 => h.1.1 e k (by
  rw [cod_st e h1 h2 k]
  intro z
  have := hL _ z
  omega)
/-- what an order within a part leads to -/
def NXI (u : Bool) (X Y : St) (G : Nat → Int32) (po : Nat → Nat) (PTs : Nat → Nat → Ty) (p o c b sb : Nat) (r : Int32) : Prop := PER [13, 15, 31, 33, 34, 35, 36, 40, 43, 44, 45, 46, 800, 1000, 1200, 1400, 1600, 1800, 2000, 12000, 12200, 12400, 12600, 12800, 13000, 13200, 13400, 13600, 13800, 14000, 14200, 14400, 14600, 14800, 15000, 15800, 16000, 16200] X Y ∧ ((Y.1 0 43).toInt < 0 → GLB u Y po PTs ∧ ∃ (G1 : Nat → Int32) (o2 : Nat), r.toInt = (o2 : Int) ∧ RST u Y G1 po PTs p o2 c b sb ∧ HX X Y G G1 ∧ BEL X Y sb (45 * c) ∧ o < o2 ∧ (((X.1 40 o).toInt = 0 ∧ (Y.1 0 40).toInt = (X.1 0 40).toInt + 1) ∨ (¬ (X.1 40 o).toInt = 0 ∧ Y.1 0 40 = X.1 0 40)))
section NXIS
variable {u : Bool} {X : St} {G : Nat → Int32} {po : Nat → Nat} {PTs : Nat → Nat → Ty} {p o c b sb : Nat} {o1 : Int32}
theorem step_in2 (h : RST u X G po PTs p o c b sb) (hg : GLB u X po PTs) (ho : o1.toInt = (o : Int)) (hlt : o < po (p + 1) - 1) (h28 : ¬ (X.1 40 o).toInt = 28) : ok (f_does o1 (X.1 41 o) X) (fun r Y => NXI u X Y G po PTs p o c b sb r) := by
  obtain ⟨hf, ⟨hp, hp1, hp2⟩, ⟨h38, hc⟩, ⟨h37, hb⟩, hL, hs1, hs2⟩ := h
  obtain ⟨hR, ⟨g1, g2, g3⟩, g4⟩ := id hg
  obtain ⟨a1, a2, a3, a4, a5, a6, a7, a8, a9⟩ := hR.2 p hp
  refine (r_does hf (a5 o hp1 hlt) ho (by omega) rfl g4 (fun q hq => (hR.2 q hq).1.1) ⟨g1, by omega⟩ h28).mono ?_
  rintro r Y ⟨hP, h46, hon⟩
  refine ⟨hP, fun q => ?_⟩
  obtain ⟨d1, p2, t1, G1, d2, ⟨⟨d3a, d3b, d3c⟩, d3d, d3e⟩, d4, d5, d6, d7, d8, d9⟩ := hon q
  clear hon
  have hT := hf.1.2.1
  have hY := hP.2.1
  have t1e := d3c.1
  have h40 : (X.1 0 40).toInt ≤ (Y.1 0 40).toInt ∧ (Y.1 0 40).toInt ≤ (X.1 0 39).toInt := by
    rcases d1 with ⟨-, d1, dn⟩ | ⟨-, d1⟩
    · omega
    · rw [d1]
      exact ⟨Int.le_refl _, g2⟩
  have hg2 := hg.per hT hP (by decide) h40
  have lf : LFP Y p2 → LFP X p2 := fun z => (LFP.per hP (by decide)).mp z
  have o31 : p2 = po (p + 1) - 1 → ¬ LFP X p2 := by
    rintro rfl z
    unfold LFP at z
    omega
  have grow : ((sb + t1.1 + c : Nat) : Int) ≤ (Y.1 0 40).toInt ∧ (LFP Y p2 → ((sb + t1.1 + c : Nat) : Int) + 1 ≤ (Y.1 0 40).toInt) := by
    rcases d1 with ⟨o0, d1, dn⟩ | ⟨o0, d1⟩
    · have nl : ¬ LFP X o := by
        intro z
        unfold LFP at z
        omega
      rcases d4 with d4 | ⟨d4, -⟩
      · exact ⟨by omega, fun _ => by omega⟩
      · exact absurd d4 nl
    · rw [d1]
      refine ⟨?_, fun z => ?_⟩
      · rcases d4 with d4 | ⟨d4, d4'⟩
        · omega
        · have := hs2 d4
          omega
      · rcases d3e with w | w | w
        · exact absurd (lf z) (o31 w)
        · exact absurd w o0
        · exact absurd (lf z) w
  refine ⟨hg2, G1, p2, d2, ⟨?_, ⟨by rw [hP.1.1 0 18 (by decide)]; exact hp, d3a, by omega⟩, ⟨by rw [hP.1.1 0 38 (by decide)]; exact h38, hc⟩, ⟨by rw [hP.1.1 0 37 (by decide)]; exact h37, hb⟩, ?_, ?_⟩, d5, d9, d3d, ?_⟩
  · have hs20 := hg2.2.1
    refine ⟨⟨d6, hY, hf.1.2.2.1.kx hP.2.2.1, hf.1.2.2.2.pot hP.2.2.2⟩, ⟨by rw [hP.1.1 0 18 (by decide)]; exact hf.2.1.1, q, by rw [hP.1.1 0 42 (by decide)]; exact hf.2.1.2.2⟩, d7.te d3c, ⟨by rw [← t1e]; exact d8, by omega, by rw [hP.1.1 0 32 (by decide)]; exact hf.2.2.2.1.2.2.1, hf.2.2.2.1.2.2.2.1, hR.names hp d3a d3b⟩, h46⟩
  · rw [okk.per hP (by decide) p]
    exact LOW.hx hT d5 (fun j => (LFP.per hP (by decide)).mp) c b sb _ (fun j _ => ⟨hP.1.1 76 j (show (15200 : Nat) ∉ [13, 15, 31, 33, 34, 35, 36, 40, 43, 44, 45, 46, 800, 1000, 1200, 1400, 1600, 1800, 2000, 12000, 12200, 12400, 12600, 12800, 13000, 13200, 13400, 13600, 13800, 14000, 14200, 14400, 14600, 14800, 15000, 15800, 16000, 16200] from by decide), hP.1.1 77 j (show (15400 : Nat) ∉ [13, 15, 31, 33, 34, 35, 36, 40, 43, 44, 45, 46, 800, 1000, 1200, 1400, 1600, 1800, 2000, 12000, 12200, 12400, 12600, 12800, 13000, 13200, 13400, 13600, 13800, 14000, 14200, 14400, 14600, 14800, 15000, 15800, 16000, 16200] from by decide), hP.1.1 78 j (show (15600 : Nat) ∉ [13, 15, 31, 33, 34, 35, 36, 40, 43, 44, 45, 46, 800, 1000, 1200, 1400, 1600, 1800, 2000, 12000, 12200, 12400, 12600, 12800, 13000, 13200, 13400, 13600, 13800, 14000, 14200, 14400, 14600, 14800, 15000, 15800, 16000, 16200] from by decide)⟩) d9.1 d9.2 hL
  · rw [← t1e]
    exact grow
  · rcases d1 with ⟨o0, d1, _⟩ | ⟨o0, d1⟩
    · exact Or.inl ⟨o0, d1⟩
    · exact Or.inr ⟨o0, d1⟩
end NXIS
/-- both sides go on to the end -/
def ENDS (ks : List (List Int)) (N : Nat) (z : Int32) (X Y : St) (i : Nat) : Prop := pw (f_starts_106 N z X) (fun z X' => ∀ (M : Nat) (a5 : Int32), a5.toInt = (i : Int) → pw (g_Running_runAll_122 M a5 Y) (fun z' Y' => FNr ks z X' z' Y'))
/-- what stays of the tables -/
def TBS (X0 X Y0 Y : St) : Prop := ((∀ e k, 11 ≤ e → e < 60 → X.1 e k = X0.1 e k) ∧ KXq X0 X ∧ X.1 0 18 = X0.1 0 18) ∧ ∀ j k, j < 70 → Y.1 j k = Y0.1 j k
/-- in step: part p, the class at j, the reference at o, c calls below; i turns of the class so far -/
def MRL (u : Bool) (e : Nat) (ks : List (List Int)) (X0 Y0 : St) (po : Nat → Nat) (PTs : Nat → Nat → Ty) (sy sq : Nat → Nat → Nat → Prop) (W : Nat → Nat) (X Y : St) (r G : Nat → Int32) (p j o c b sb T i : Nat) : Prop := RST u X G po PTs p o c b sb ∧ GLB u X po PTs ∧ INS e X Y r ks sb c (sb + (PTs p o).1) (PTs p o).2.2.1 ∧ LWr X Y r po PTs sy W c b sb T ∧ ((Y.1 70 11).toInt = (c : Int) + 1 ∧ (Y.1 70 10).toInt = (j : Int) ∧ (u = true ↔ (Y.1 70 3).toInt = 0)) ∧ PRm e X Y ∧ sq p j o ∧ TBS X0 X Y0 Y ∧ ((i + W o + T : Nat) : Int) ≤ 21 * (X.1 0 40).toInt
def IHN (u : Bool) (e : Nat) (ks : List (List Int)) (X0 Y0 : St) (po : Nat → Nat) (PTs : Nat → Nat → Ty) (sy : Nat → Nat → Nat → Prop) (W : Nat → Nat) (N : Nat) : Prop := ∀ (X Y : St) (r G : Nat → Int32) (p j o c b sb T i : Nat) (o1 : Int32), o1.toInt = (o : Int) → MRL u e ks X0 Y0 po PTs sy sy W X Y r G p j o c b sb T i → ENDS ks N o1 X Y i
section ENS
variable {u : Bool}
variable {X Y Z X0 Y0 X1 Y1 : St} {r r1 G G1 : Nat → Int32} {po W : Nat → Nat} {PTs : Nat → Nat → Ty} {sy sq : Nat → Nat → Nat → Prop} {ks : List (List Int)} {o1 z : Int32} {e i i1 j o p c b sb T N tp nn tp1 nn1 o2 j2 : Nat}
theorem ENDS.zero : ENDS ks 0 z X Y i := pw_none
theorem ENDS.off (hO : OFr X Y) (hS : SCr X Y) : ENDS ks N o1 X Y i := pw_mono (n_endO hO hS N) (fun _ _ h M a5 _ => h M a5)
theorem ENDS.ref {P : Int32 → St → Prop} (hO : ONr X Y) (ho : o1.toInt = (o : Int)) (hd : pw (f_does o1 (X.1 41 o) X) P) (hn : ∀ z X1, P z X1 → ENDS ks N z X1 Y i) : ENDS ks (N + 1) o1 X Y i := n_turn hO ho N (pw_bd hd hn)
theorem ENDS.cls {Q : St → Prop} (he : e = 2 ∨ e = 24) (hr : Y.2.2 70 2 = e + 1) (h4 : ¬ (Y.1 70 4).toInt = 0) (hi2 : i < 1000000) (hj : (Y.1 70 10).toInt = (j : Int)) (hjl : (j : Int) < (Y.1 e 6).toInt) (hw : pw (WRK (Y.1 (e + 18) j) (Y.1 (e + 19) j) (Y.1 (e + 21) j) (Y.1 70 10) (wI Y 70 10 (Y.1 70 10 + 1))) (fun _ Y1 => Q Y1)) (hn : ∀ Y1, Q Y1 → ENDS ks N z X Y1 (i + 1)) : ENDS ks N z X Y i := by
  have all : pw (f_starts_106 N z X) (fun z X' => ∀ Y1, Q Y1 → ∀ (M : Nat) (a5 : Int32), a5.toInt = ((i + 1 : Nat) : Int) → pw (g_Running_runAll_122 M a5 Y1) (fun z' Y' => FNr ks z X' z' Y')) := pw_all (fun Y1 => pw_im (fun q => hn Y1 q))
  refine pw_mono all (fun z X' h M a5 ha => l_turn he hr h4 ha hi2 hj hjl (fun M a5' h5 => pw_bd hw (fun _ Y1 q => h Y1 q M a5' h5)) M)
/-- one turn of each -/
theorem ENDS.both {P : Int32 → St → Prop} {Q : Int32 → St → St → Prop} (hO : ONr X Y) (ho : o1.toInt = (o : Int)) (he : e = 2 ∨ e = 24) (hr : Y.2.2 70 2 = e + 1) (hi2 : i < 1000000) (hj : (Y.1 70 10).toInt = (j : Int)) (hjl : (j : Int) < (Y.1 e 6).toInt) (hd : pw (f_does o1 (X.1 41 o) X) (fun z X1 => P z X1 ∧ pw (WRK (Y.1 (e + 18) j) (Y.1 (e + 19) j) (Y.1 (e + 21) j) (Y.1 70 10) (wI Y 70 10 (Y.1 70 10 + 1))) (fun _ Y1 => Q z X1 Y1))) (hn : ∀ z X1 Y1, P z X1 → Q z X1 Y1 → ENDS ks N z X1 Y1 (i + 1)) : ENDS ks (N + 1) o1 X Y i := ENDS.ref hO ho hd (fun z X1 h => ENDS.cls he hr hO.2.1 hi2 hj hjl h.2 (fun Y1 q => hn z X1 Y1 h.1 q))
theorem wrkP {op x pl h : Int32} (q : op.toInt < 10) : WRK op x pl h Y = g_Running_workPlain op x pl Y := by
  unfold WRK
  rw [if_pos (by omega), if_pos (by omega), if_pos q]
theorem wrkR {op x pl h : Int32} (q : 10 ≤ op.toInt ∧ op.toInt < 18) : WRK op x pl h Y = g_Running_workRowOrCall op x pl Y := by
  unfold WRK
  rw [if_pos (by omega), if_pos (by omega), if_neg (by omega)]
theorem wrkN {op x pl h : Int32} (q : 18 ≤ op.toInt ∧ op.toInt < 27) : WRK op x pl h Y = g_Running_workNumbers op pl Y := by
  unfold WRK
  rw [if_pos (by omega), if_neg (by omega)]
theorem wrkA {op x pl h : Int32} (q : 27 ≤ op.toInt) : WRK op x pl h Y = g_Running_workAsking h Y := by
  unfold WRK
  rw [if_neg (by omega)]
theorem INS.to (h : INS e X Y r ks sb c tp nn) (hx : ∀ e k, ¬ (e = 0 ∧ k = 40) → X1.1 e k = X.1 e k) (hy : ∀ j k, ¬ (j = 70 ∧ (k = 9 ∨ k = 10)) → Y1.1 j k = Y.1 j k) (hl : Y1.2 = Y.2) (hs : Y1.1 70 9 = X1.1 0 40) : INS e X1 Y1 r ks sb c tp nn := by
  obtain ⟨hB, hS, hO, hH, hK, hN⟩ := h
  have hX : HXc X X1 := ⟨fun k q => hx 0 k (by omega), fun e k q => hx e k (by omega)⟩
  have hK' : KXq X X1 := KXq.of (fun e k q => hx e k (by omega))
  obtain ⟨⟨s1, s2, s3, s4⟩, ⟨s5, s6⟩, s7, s8⟩ := hS
  obtain ⟨k1, k2, k3, k4⟩ := hK
  refine ⟨?_, ⟨⟨?_, hs, ?_, ?_⟩, ⟨?_, ?_⟩, fun i hi => ?_, fun g t h1 h2 => ?_⟩, hO.cg (hx 0 43 (by omega)) (hx 0 44 (by omega)) (fun k q => hy 70 k (by omega)), hH.cg hB.2.1.1 hK' hX ⟨fun e k q => hy e k (by omega), fun e k q => by rw [hl]⟩, ⟨?_, ?_, k3, fun i i1 i2 => ?_⟩, fun s hs => ?_⟩
  · obtain ⟨a1, ⟨a2, a3⟩, ⟨a4, a5⟩, a6⟩ := hB
    exact ⟨a1, ⟨a2.cg (fun e k q => hx e k (by omega)), (KGq.of (fun e k q => hx e k (by omega))).2 a3⟩, ⟨a4.cg (fun i k q1 q2 _ => hy i k (by omega)), a5⟩, by rw [hl]; exact a6⟩
  · rw [hy 70 7 (by omega), hx 0 45 (by omega)]; exact s1
  · rw [hy 70 8 (by omega), hx 0 39 (by omega)]; exact s3
  · rw [hy 70 18 (by omega), hx 0 46 (by omega)]; exact s4
  · rw [hy 71 0 (by omega), hx 0 35 (by omega)]; exact s5
  · rw [hy 71 2 (by omega), hx 0 36 (by omega)]; exact s6
  · rw [hx 0 46 (by omega)] at hi
    rw [hy 86 i (by omega), hx 79 i (by omega)]
    exact s7 i hi
  · rw [hy 87 _ (by omega), hx 80 _ (by omega)]
    exact s8 g t h1 h2
  · rw [hx 0 31 (by omega)]; exact k1
  · rw [hy 70 15 (by omega)]; exact k2
  · rw [hx 60 i (by omega), hx 61 i (by omega), hl]
    exact (k4 i i1 i2).up (HG.of hX)
  · rw [hx 62 _ (by omega), hx 63 _ (by omega), hl]
    exact (hN s hs).up (HG.of hX)
theorem INS.w10 {v : Int32} (h : INS e X Y r ks sb c tp nn) : INS e X (wI Y 70 10 v) r ks sb c tp nn := h.to (fun _ _ _ => rfl) (fun j k q => wI_ne _ _ _ _ _ _ (by omega)) rfl (by rw [wI_ne _ _ _ _ _ _ (by omega)]; exact h.2.1.1.2.1)
theorem RBk.cfi (h : RBk e X Y ks) (hx : KJq X1 ∧ KU X1) (g : CFi Y Y1 sb c) : RBk e X1 Y1 ks := by
  obtain ⟨a1, a2, ⟨a3, a4⟩, a5⟩ := h
  exact ⟨a1, hx, ⟨a3.cg (fun i k q1 q2 _ => g.2.1 i k (by omega) (by omega) (by omega) (by omega)), a4⟩, by rw [g.1]; exact a5⟩
/-- the next turn, after an order within a part -/
theorem MRL.next (h : MRL u e ks X0 Y0 po PTs sy sq W X Y r G p j o c b sb T i) (hP : NXI u X X1 G po PTs p o c b sb z) (hQ : OPQ X (wI Y 70 10 (Y.1 70 10 + 1)) r ks sb c tp1 nn1 X1 Y1) (hz : z.toInt = (o2 : Int)) (hj2 : (Y1.1 70 10).toInt = (j2 : Int)) (hsy : o < o2 → o2 < po (p + 1) → sy p j2 o2) (hnn : (PTs p o2).2.2.1 ≤ nn1) (h0 : ¬ (X.1 40 o).toInt = 0) (hW : i1 + W o2 ≤ i + W o) (ih : IHN u e ks X0 Y0 po PTs sy W N) : ENDS ks N z X1 Y1 i1 := by
  obtain ⟨m1, m2, m3, m4, ⟨m5, m6, m7⟩, m8, m9, ⟨⟨t1, t2, t3⟩, t4⟩, m11⟩ := h
  obtain ⟨q1, ⟨q2, q3, q4⟩, q5, q6⟩ := hQ
  obtain ⟨n1, n2⟩ := hP
  rcases q6 with q6 | ⟨q6, r1, q7, q8, q9, q10⟩
  · exact ENDS.off q6 q5
  · obtain ⟨g1, G1, o3, g2, g3, g4, g5, g6, g7⟩ := n2 q6.1.1
    have e3 : o3 = o2 := by omega
    subst e3
    have g7 : X1.1 0 40 = X.1 0 40 := by
      rcases g7 with ⟨w, -⟩ | ⟨-, w⟩
      · exact absurd w h0
      · exact w
    have c1 : CFi Y Y1 sb c := ⟨q1.1, fun j k a b c d => (q1.2.1 j k a b c d).trans (wI_ne _ _ _ _ _ _ (by omega)), q1.2.2⟩
    have hs := g3.1.2.2.2.1.1
    have tpe : tp1 = sb + (PTs p o3).1 := by
      have := q9.1
      omega
    have hx := n1.st (by decide)
    have he := m3.1.1
    refine ih X1 Y1 r1 G1 p j2 o3 c b sb T i1 z g2 ⟨g3, g1, ⟨m3.1.cfi ⟨q2, q3⟩ c1, q5, q6, q8, by rw [← tpe]; exact q9, fun s hs => q10 s (by omega)⟩, ?_, ⟨?_, hj2, ?_⟩, ?_, hsy g6 g3.2.1.2.2, ⟨⟨fun e k h1 h2 => (hx e k h1 h2).trans (t1 e k h1 h2), t2.tr q4, ?_⟩, fun j k hj => (c1.2.1 j k (by omega) (by omega) (by omega) (by omega)).trans (t4 j k hj)⟩, by rw [g7]; omega⟩
    · refine m4.up q7 g4 _ _ _ _ (fun i hi => ⟨n1.1.1 76 i (show (15200 : Nat) ∉ [13, 15, 31, 33, 34, 35, 36, 40, 43, 44, 45, 46, 800, 1000, 1200, 1400, 1600, 1800, 2000, 12000, 12200, 12400, 12600, 12800, 13000, 13200, 13400, 13600, 13800, 14000, 14200, 14400, 14600, 14800, 15000, 15800, 16000, 16200] from by decide), n1.1.1 77 i (show (15400 : Nat) ∉ [13, 15, 31, 33, 34, 35, 36, 40, 43, 44, 45, 46, 800, 1000, 1200, 1400, 1600, 1800, 2000, 12000, 12200, 12400, 12600, 12800, 13000, 13200, 13400, 13600, 13800, 14000, 14200, 14400, 14600, 14800, 15000, 15800, 16000, 16200] from by decide), n1.1.1 78 i (show (15600 : Nat) ∉ [13, 15, 31, 33, 34, 35, 36, 40, 43, 44, 45, 46, 800, 1000, 1200, 1400, 1600, 1800, 2000, 12000, 12200, 12400, 12600, 12800, 13000, 13200, 13400, 13600, 13800, 14000, 14200, 14400, 14600, 14800, 15000, 15800, 16000, 16200] from by decide)⟩) (fun i hi => g5.1 i hi) (fun i hi => g5.2 i hi) (fun i hi => c1.2.2 84 i (by omega) (by omega) (by omega) (by omega)) (fun i hi => c1.2.2 83 i (by omega) (by omega) (by omega) (by omega)) (fun i hi => c1.2.1 82 i (by omega) (by omega) (by omega) (by omega)) 
    · rw [c1.2.1 70 11 (by omega) (by omega) (by omega) (by omega)]
      exact m5
    · rw [c1.2.1 70 3 (by omega) (by omega) (by omega) (by omega)]
      exact m7
    · obtain ⟨⟨p1, p2⟩, p3, p4⟩ := m8
      have x18 : X1.1 0 18 = X.1 0 18 := n1.1.1 0 18 (by decide)
      refine ⟨by rw [x18]; exact ⟨p1, p2⟩, ?_, fun k hk => ?_⟩
      · rw [c1.2.1 e 1 (by omega) (by omega) (by omega) (by omega), x18]
        exact p3
      · rw [x18] at hk
        rw [c1.2.1 (e + 13) k (by omega) (by omega) (by omega) (by omega), hx 15 k (by decide) (by decide)]
        exact p4 k hk
    · rw [← t3]
      exact n1.1.1 0 18 (by decide)
/-- an order within a part that one instruction stands for -/
theorem MRL.go {x pl op : Int32} (h : MRL u e ks X0 Y0 po PTs sy sq W X Y r G p j o c b sb T i) (ho : o1.toInt = (o : Int)) (hlt : o < po (p + 1) - 1) (h28 : ¬ (X.1 40 o).toInt = 28) (h0 : ¬ (X.1 40 o).toInt = 0) (hjl : (j : Int) < (Y.1 e 6).toInt) (hop : Y.1 (e + 18) j = op) (hx : Y.1 (e + 19) j = x) (hpl : Y.1 (e + 21) j = pl) (hd : pw (f_does o1 (X.1 41 o) X) (fun z X1 => pw (WRK op x pl (Y.1 70 10) (wI Y 70 10 (Y.1 70 10 + 1))) (fun _ Y1 => OPQ X (wI Y 70 10 (Y.1 70 10 + 1)) r ks sb c tp1 nn1 X1 Y1 ∧ ∃ o2 j2 : Nat, z.toInt = (o2 : Int) ∧ (Y1.1 70 10).toInt = (j2 : Int) ∧ (o < o2 → o2 < po (p + 1) → sy p j2 o2) ∧ (PTs p o2).2.2.1 ≤ nn1 ∧ W o2 + 1 ≤ W o))) (ih : IHN u e ks X0 Y0 po PTs sy W N) : ENDS ks (N + 1) o1 X Y i := by
  have hh := h
  obtain ⟨m1, m2, m3, m4, ⟨m5, m6, m7⟩, m8, m9, m10, m11⟩ := hh
  subst hop hx hpl
  refine ENDS.both m3.2.2.1 ho m3.1.1 m3.1.2.2.2 (by have := m2.2.1; omega) m6 hjl (pw_and (pw_ok (step_in2 m1 m2 ho hlt h28)) hd) ?_
  rintro z X1 Y1 hP ⟨hQ, o2, j2, q1, q2, q3, q4, q5⟩
  exact h.next hP hQ q1 q2 q3 q4 h0 (by omega) ih
end ENS
