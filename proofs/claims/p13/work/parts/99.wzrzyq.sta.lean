/-! the tables of a run, and what they say of a place in step -/
def STAT (u : Bool) (e : Nat) (ks : List (List Int)) (X0 Y0 : St) (po W : Nat → Nat) (nr : Int → Int) (cd : List Ins) (pst pen : Nat → Nat) : Prop := (KJq X0 ∧ (u = false → (Y0.1 55 5).toInt ≤ 12000) ∧ cd.length ≤ 1000000) ∧ ∀ p : Nat, (p : Int) < (X0.1 0 18).toInt → ((Y0.1 (e + 17) p).toInt = (pst p : Int) ∧ opl cd (pst p) = po p ∧ pst p < pen p ∧ opl cd (pen p) = po (p + 1) ∧ (pen p : Int) ≤ (Y0.1 e 6).toInt) ∧ (W (po p) = 0 ∧ 1 ≤ W (po (p + 1) - 1) ∧ ∀ o, po p ≤ o → o < po (p + 1) - 1 → WS X0 W (po p) (po (p + 1) - 1) o) ∧ ∀ j, pst p ≤ j → j < pen p → ∃ (a : Ins) (b : Bool) (S : List SE), cd[j]? = some a ∧ AO X0 nr cd j b (opl cd j) S a ∧ opl cd (j + 1) = opl cd j + wgt b a ∧ ((Y0.1 (e + 18) j).toInt = a.1 ∧ (Y0.1 (e + 21) j).toInt = a.2.2.1 ∧ (a.1 = 4 → (Y0.1 (e + 19) j).toInt = nr a.2.2.1) ∧ (¬ a.1 = 4 → ¬ a.1 = 34 → Y0.1 (e + 19) j = Int32.ofInt a.2.1)) ∧ (u = false → 27 ≤ a.1 → GNo e ks X0 Y0 (opl cd j) j) ∧ (u = false → a.1 = 5 → b = false → (X0.1 43 (opl cd j)).toInt < 0)
/-- place j of part p stands for what begins at order o -/
def SY (cd : List Ins) (pst pen : Nat → Nat) (p j o : Nat) : Prop := pst p ≤ j ∧ j < pen p ∧ opl cd j = o
section STATS
variable {u : Bool}
variable {X Y Z X0 Y0 X1 Y1 : St} {r r1 G G1 : Nat → Int32} {po W pst pen : Nat → Nat} {PTs : Nat → Nat → Ty} {sq : Nat → Nat → Nat → Prop} {ks : List (List Int)} {o1 z : Int32} {e i j o p c b sb T N tp nn tp1 nn1 o2 j2 K n k : Nat} {nr : Int → Int} {cd : List Ins}
theorem owt_take : ∀ (d : List Ins) (b : Bool) (i k : Nat), i ≤ k → owt b (d.take i) ≤ owt b (d.take k)
  | [], _, _, _, _ => by rw [List.take_nil, List.take_nil]; exact Nat.le_refl _
  | _ :: _, _, 0, _, _ => Nat.zero_le _
  | a :: d, b, i + 1, k, h => by
    obtain ⟨k, rfl⟩ : ∃ m, k = m + 1 := ⟨k - 1, by omega⟩
    show wgt b a + owt (decide (a.1 = 34)) (d.take i) ≤ wgt b a + owt (decide (a.1 = 34)) (d.take k)
    exact Nat.add_le_add_left (owt_take d _ i k (by omega)) _
theorem opl_mono (h : i ≤ k) : opl cd i ≤ opl cd k := owt_take cd false i k h
theorem OA.tb (h : OA X0 o K n) (g : TBS X0 X Y0 Y) : OA X o K n := ⟨by rw [g.1.1 40 o (by omega) (by omega)]; exact h.1, by rw [g.1.1 41 o (by omega) (by omega)]; exact h.2⟩
theorem GNo.tb (h : GNo e ks X0 Y0 o k) (he : e = 2 ∨ e = 24) (hJ : KJq X0) (g : TBS X0 X Y0 Y) : GNo e ks X Y o k := by
  obtain ⟨⟨t1, t2, t3⟩, t4⟩ := g
  unfold GNo
  rw [t1 43 o (by omega) (by omega), t4 (e + 20) k (by omega), t4 55 5 (by omega)]
  rcases h with h | ⟨g, d, d1, h1, h2, h3, ⟨h4, h5⟩, ⟨h6, h7, h8⟩, ⟨h9, h10⟩, h11, h12⟩
  · exact Or.inl h
  · refine Or.inr ⟨g, d, d1, h1, h2, h3, ?_⟩
    rw [t1 53 g (by omega) (by omega), t1 54 g (by omega) (by omega), t1 55 g (by omega) (by omega), t1 56 g (by omega) (by omega), t1 52 g (by omega) (by omega), t4 59 g (by omega), t4 60 g (by omega), t4 57 g (by omega), t4 58 g (by omega), t4 56 g (by omega)]
    exact ⟨⟨h4.kx hJ t2, h5.kx hJ t2⟩, ⟨h6, h7, h8⟩, ⟨h9, h10⟩, h11, h12⟩
/-- the instruction at a place in step -/
theorem MRL.get (hS : STAT u e ks X0 Y0 po W nr cd pst pen) (h : MRL u e ks X0 Y0 po PTs (SY cd pst pen) (SY cd pst pen) W X Y r G p j o c b sb T i) : ∃ (a : Ins) (bb : Bool) (S : List SE), cd[j]? = some a ∧ AO X0 nr cd j bb o S a ∧ (∀ o2, o2 = o + wgt bb a → o2 < po (p + 1) → SY cd pst pen p (j + 1) o2) ∧ (j : Int) < (Y.1 e 6).toInt ∧ ((Y.1 (e + 18) j).toInt = a.1 ∧ (Y.1 (e + 21) j).toInt = a.2.2.1 ∧ (a.1 = 4 → (Y.1 (e + 19) j).toInt = nr a.2.2.1) ∧ (¬ a.1 = 4 → ¬ a.1 = 34 → Y.1 (e + 19) j = Int32.ofInt a.2.1)) ∧ (u = false → 27 ≤ a.1 → GNo e ks X Y o j) ∧ (u = false → a.1 = 5 → bb = false → (X.1 43 o).toInt < 0) ∧ o + wgt bb a ≤ po (p + 1) := by
  obtain ⟨⟨hJ, _, hcl⟩, hS⟩ := hS
  obtain ⟨m1, m2, m3, m4, m5, m8, ⟨y1, y2, y3⟩, m10, m11⟩ := h
  have he := m3.1.1
  have hp : (p : Int) < (X0.1 0 18).toInt := by
    have := m1.2.1.1
    rw [m10.1.2.2] at this
    exact this
  obtain ⟨⟨s1, s2, s3, s4, s5⟩, _, s6⟩ := hS p hp
  obtain ⟨a, bb, S, a1, a2, a3, a4, a5, a6⟩ := s6 j y1 y2
  rw [y3] at a2 a3 a5 a6
  refine ⟨a, bb, S, a1, a2, fun o2 h1 h2 => ?_, ?_, ?_, fun q0 q => (a5 q0 q).tb he hJ m10, fun q0 q1 q2 => ?_, by have := opl_mono (cd := cd) (show j + 1 ≤ pen p by omega); omega⟩
  · by_cases g : j + 1 < pen p
    · exact ⟨by omega, g, by omega⟩
    · have g1 : j + 1 = pen p := by omega
      rw [g1, s4] at a3
      omega
  · rw [m10.2 e 6 (by omega)]
    omega
  · rw [m10.2 (e + 18) j (by omega), m10.2 (e + 21) j (by omega), m10.2 (e + 19) j (by omega)]
    exact a4
  · rw [m10.1.1 43 o (by omega) (by omega)]
    exact a6 q0 q1 q2
/-- a place further on, in the same part -/
theorem MRL.tgt (hS : STAT u e ks X0 Y0 po W nr cd pst pen) (h : MRL u e ks X0 Y0 po PTs (SY cd pst pen) (SY cd pst pen) W X Y r G p j o c b sb T i) (hk : opl cd k = o2) (h1 : o < o2) (h2 : o2 < po (p + 1)) : SY cd pst pen p k o2 := by
  obtain ⟨m1, m2, m3, m4, m5, m8, ⟨y1, y2, y3⟩, m10, m11⟩ := h
  have hp : (p : Int) < (X0.1 0 18).toInt := by
    have := m1.2.1.1
    rw [m10.1.2.2] at this
    exact this
  obtain ⟨⟨s1, s2, s3, s4, s5⟩, -⟩ := hS.2 p hp
  refine ⟨?_, ?_, hk⟩
  · by_cases g : k ≤ j
    · have := opl_mono (cd := cd) g
      omega
    · omega
  · by_cases g : pen p ≤ k
    · have := opl_mono (cd := cd) g
      omega
    · omega
theorem MRL.ws (hS : STAT u e ks X0 Y0 po W nr cd pst pen) (h : MRL u e ks X0 Y0 po PTs (SY cd pst pen) sq W X Y r G p j o c b sb T i) (hlt : o < po (p + 1) - 1) : WS X W (po p) (po (p + 1) - 1) o := by
  obtain ⟨m1, m2, m3, m4, m5, m8, y, m10, m11⟩ := h
  have hp : (p : Int) < (X0.1 0 18).toInt := by
    have := m1.2.1.1
    rw [m10.1.2.2] at this
    exact this
  obtain ⟨op, n, w1, w2⟩ := (hS.2 p hp).2.1.2.2 o m1.2.1.2.1 hlt
  refine ⟨op, n, w1.tb m10, ?_⟩
  rw [m10.1.1 46 n (by omega) (by omega), m10.1.1 47 n (by omega) (by omega)]
  exact w2
/-- a place within a part, where no value is given back -/
theorem MRL.lt (h : MRL u e ks X0 Y0 po PTs (SY cd pst pen) sq W X Y r G p j o c b sb T i) (h31 : ¬ (X.1 40 o).toInt = 31) : o < po (p + 1) - 1 := by
  obtain ⟨m1, m2, _⟩ := h
  obtain ⟨a1, a2, a3, a4, a5, a6, _⟩ := m2.1.2 p m1.2.1.1
  have := m1.2.1.2
  by_cases g : o = po (p + 1) - 1
  · rw [← g] at a6
    exact absurd a6 h31
  · omega
theorem MRL.sr (h : MRL u e ks X0 Y0 po PTs (SY cd pst pen) sq W X Y r G p j o c b sb T i) (h31 : ¬ (X.1 40 o).toInt = 31) : SR u X (PTs p) (po p) (po (p + 1) - 1) o := by
  have hlt := h.lt h31
  obtain ⟨m1, m2, _⟩ := h
  exact (m2.1.2 p m1.2.1.1).2.2.2.2.1 o m1.2.1.2.1 hlt
theorem SR.nms {u : Bool} {PT : Nat → Ty} {s1 e1 : Nat} (h : SR u X PT s1 e1 o) (h1 : ¬ (X.1 40 o).toInt = 13) (h2 : ¬ (X.1 40 o).toInt = 16) : (PT (o + 1)).2.2.1 ≤ (PT o).2.2.1 := by
  obtain ⟨_, op, n, hoa, _, h⟩ := h
  have q := hoa.1
  rcases h with ⟨a, b⟩ | ⟨k, a, c⟩ | ⟨a, b, k, c, f⟩ | ⟨a, b, v, c, d, f, g⟩ | ⟨a, b, d, q, f, g⟩ | ⟨a, q, b, c⟩ | ⟨a, b⟩ | ⟨a, m, r, e1, b, c, d, f, g, i⟩ | ⟨a, b, r, d, f⟩ | ⟨a, b, k, c, d, f⟩ | ⟨a, b, k, c, c2, d⟩ | ⟨a, b, e1, d, g⟩ | ⟨a, b, d, f⟩ | ⟨a, m, b, c, d, f, g, i⟩ | ⟨a, b, c⟩
  · exact b.1.2.2.2.2.1
  · exact c.1.2.2.2.2.1
  · exact f.1.2.2.2.2.1
  · omega
  · exact d.1.2.2.2.2.1
  · omega
  · exact b.1.2.2.2.2.1
  · exact i.1.2.2.2.2.1
  · exact f.1.2.2.2.2.1
  · exact f.1.2.2.2.2.1
  · exact d.1.2.2.2.2.1
  · exact g.1.2.2.2.2.1
  · exact f.1.2.2.2.2.1
  · exact i.1.2.2.2.2.1
  · exact c.1.2.2.2.2.1
/-- an order that the next one follows, one turn of each -/
theorem MRL.go1 {x pl op : Int32} (hS : STAT u e ks X0 Y0 po W nr cd pst pen) (h : MRL u e ks X0 Y0 po PTs (SY cd pst pen) sq W X Y r G p j o c b sb T i) (ho : o1.toInt = (o : Int)) (hK : (X.1 40 o).toInt = (K : Int)) (hk : ¬ K = 0 ∧ ¬ K = 15 ∧ ¬ K = 16 ∧ ¬ K = 28 ∧ ¬ K = 31) (hjl : (j : Int) < (Y.1 e 6).toInt) (hop : Y.1 (e + 18) j = op) (hx : Y.1 (e + 19) j = x) (hpl : Y.1 (e + 21) j = pl) (hsy : o + 1 < po (p + 1) → SY cd pst pen p (j + 1) (o + 1)) (hnn : (PTs p (o + 1)).2.2.1 ≤ nn1) (hd : pw (f_does o1 (X.1 41 o) X) (fun z X1 => z = o1 + 1 ∧ pw (WRK op x pl (Y.1 70 10) (wI Y 70 10 (Y.1 70 10 + 1))) (fun _ Y1 => OPQ X (wI Y 70 10 (Y.1 70 10 + 1)) r ks sb c tp1 nn1 X1 Y1 ∧ Y1.1 70 10 = (wI Y 70 10 (Y.1 70 10 + 1)).1 70 10))) (ih : IHN u e ks X0 Y0 po PTs (SY cd pst pen) W N) : ENDS ks (N + 1) o1 X Y i := by
  have hlt := h.lt (by omega)
  have hw := h.ws hS hlt
  have h24 := (h.2.1.1.2 p h.1.2.1.1).2.1.2.2
  have l1 : (1 : Int32).toInt = 1 := by decide
  have hj := h.2.2.2.2.1.2.1
  have h6 := (Y.1 e 6).toInt_lt
  have zo : (o1 + 1).toInt = ((o + 1 : Nat) : Int) := by rw [ti_add (by rw [ho, l1]; omega) (by rw [ho, l1]; omega), ho, l1]; omega
  have jo : (Y.1 70 10 + 1).toInt = ((j + 1 : Nat) : Int) := by rw [ti_add (by rw [hj, l1]; omega) (by rw [hj, l1]; omega), hj, l1]; omega
  have hWo : W (o + 1) + 1 ≤ W o := by
    obtain ⟨op', n', ⟨w1, _⟩, w2⟩ := hw
    rcases w2 with ⟨q, _⟩ | ⟨q, _⟩ | ⟨q, _⟩ | ⟨_, q⟩
    · omega
    · omega
    · omega
    · exact q
  refine h.go (tp1 := tp1) (nn1 := nn1) ho hlt (by omega) (by omega) hjl hop hx hpl (pw_mono hd ?_) ih
  rintro z X1 ⟨ez, hq⟩
  refine pw_mono hq ?_
  rintro _ Y1 ⟨q1, q2⟩
  exact ⟨q1, o + 1, j + 1, by rw [ez]; exact zo, by rw [q2, wI_at]; exact jo, fun _ => hsy, hnn, hWo⟩
end STATS
