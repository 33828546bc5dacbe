/-! the judge's stack stays well made -/
def JFM (w : SE) (k : List Int) : Prop := (w.2.2 = 1 → sot k = 3) ∧ ∀ n, w.2.2 = 2 + n → sot k = 4 ∧ tkn k = n
def JOK (D : Nat) (S : List SE) (J : JS) : Prop := S.length = J.1.length ∧ (∀ d ∈ J.1, WKd 40 d) ∧ (∀ (i : Nat) (w : SE) (k : List Int), S[i]? = some w → J.1[i]? = some k → JFM w k) ∧ (∀ x : Nat, x < D → ∃ d, J.2.1 x = some d) ∧ ∀ (x : Nat) (d : List Int), J.2.1 x = some d → WKd 40 d
section JOKS
variable {ch : Tx} {ps : List Pt} {told : Nat → Bool} {c : List Ins} {g j D s m : Nat} {S : List SE} {a : Ins} {J J1 : JS} {b : Bool} {X : St} {nr : Int → Int} {k x : List Int} {w w1 : SE} {G : List JG}
theorem JFM.z (h : w.2.2 = 0) : JFM w k := ⟨fun z => by omega, fun n z => by omega⟩
theorem JOK.po (h : JOK D S J) (m : Nat) : JOK D (S.drop m) (jpop m J) := by
  obtain ⟨h1, h2, h3, h4⟩ := h
  refine ⟨by show (S.drop m).length = (J.1.drop m).length; rw [List.length_drop, List.length_drop, h1], fun d hd => h2 d (List.mem_of_mem_drop hd), fun i w k hw hk => ?_, h4⟩
  have hk : (J.1.drop m)[i]? = some k := hk
  rw [List.getElem?_drop] at hw hk
  exact h3 _ _ _ hw hk
theorem JOK.pu (h : JOK D S J) (hx : WKd 40 x) : JOK D ((none, none, 0) :: S) (jpush x J) := by
  obtain ⟨h1, h2, h3, h4⟩ := h
  refine ⟨by show S.length + 1 = J.1.length + 1; rw [h1], fun d hd => ?_, fun i w k hw hk => ?_, h4⟩
  · rcases List.mem_cons.mp hd with e | e
    · rw [e]; exact hx
    · exact h2 d e
  · cases i with
    | zero =>
      have : (none, none, 0) = w := Option.some.inj hw
      exact JFM.z (by rw [← this])
    | succ i => exact h3 i w k hw hk
theorem JOK.gd (h : JOK D S J) : JOK D S (jgd G J) := h
theorem JOK.an (h : JOK D S J) : JOK D S (jany x J) := h
theorem JOK.top {S : List SE} (h : JOK D (w :: S) J) (hk : WKd 40 k) (hf : JFM w1 k) : JOK D (w1 :: S) (jset k J) := by
  obtain ⟨h1, h2, h3, h4⟩ := h
  refine ⟨?_, fun d hd => ?_, fun i w k hw hk => ?_, h4⟩
  · show S.length + 1 = J.1.tail.length + 1
    rw [List.length_tail, ← h1]
    rfl
  · rcases List.mem_cons.mp hd with e | e
    · rw [e]; exact hk
    · exact h2 d (List.mem_of_mem_tail e)
  · cases i with
    | zero =>
      have e1 : w1 = w := Option.some.inj hw
      have e2 : _ = k := Option.some.inj hk
      rw [← e1, ← e2]
      exact hf
    | succ i =>
      refine h3 (i + 1) w k hw ?_
      have hk : J.1.tail[i]? = some k := hk
      rw [List.getElem?_tail] at hk
      exact hk
theorem JOK.hd {S : List SE} (h : JOK D (w :: S) J) : jset (hdK J.1) J = J ∧ WKd 40 (hdK J.1) ∧ J.1[0]? = some (hdK J.1) := by
  obtain ⟨K, r⟩ := J
  cases K with
  | nil => exact absurd h.1 (by show ¬ S.length + 1 = 0; omega)
  | cons d K => exact ⟨rfl, h.2.1 d (List.mem_cons_self ..), rfl⟩
theorem JOK.at (h : JOK D S J) {i : Nat} (hi : i < S.length) : WKd 40 (J.1.getD i [3]) ∧ J.1[i]? = some (J.1.getD i [3]) ∧ ∀ n, FM S i n → (n = 1 → sot (J.1.getD i [3]) = 3) ∧ ∀ q, n = 2 + q → sot (J.1.getD i [3]) = 4 ∧ tkn (J.1.getD i [3]) = q := by
  have hl : i < J.1.length := by rw [← h.1]; exact hi
  have e : J.1[i]? = some (J.1.getD i [3]) := by rw [List.getD_eq_getElem?_getD, List.getElem?_eq_getElem hl]; rfl
  refine ⟨h.2.1 _ (List.mem_of_getElem? e), e, ?_⟩
  rintro n ⟨w, hw, rfl⟩
  have := h.2.2.1 i w _ hw e
  exact ⟨this.1, this.2⟩
theorem wk_fks (hp : PWd ps) {p : Nat} (hg : p < ps.length) : WKd 40 (oks ps told p) ∧ (∀ d ∈ pks ps told p, WKd 39 d) ∧ (pks ps told p).length ≤ 4 ∧ WKd 40 (fks ps told p) ∧ (pks ps told p).length = (ps.getD p (0, 0, [], [], [], 0)).2.2.2.1.length := by
  have hm : ps.getD p (0, 0, [], [], [], 0) ∈ ps := by
    rw [List.getD_eq_getElem?_getD, List.getElem?_eq_getElem hg]
    exact List.getElem_mem hg
  obtain ⟨h1, h2, h3⟩ := hp _ hm
  have a0 : ∀ (m : Nat) (d : List Int), WKd m d → WKd m (askd told p d) := fun m d h => by
    unfold askd
    split
    · exact h
    · exact WKd.i3 m
  have l0 : (pks ps told p).length = (ps.getD p (0, 0, [], [], [], 0)).2.2.2.1.length := by
    unfold pks prs
    rw [List.length_map, List.length_map, List.length_reverse]
  have o0 : WKd 40 (oks ps told p) := a0 40 _ h2
  have p0 : ∀ d ∈ pks ps told p, WKd 39 d := by
    intro d hd
    unfold pks prs at hd
    obtain ⟨d1, hd1, rfl⟩ := List.mem_map.mp hd
    obtain ⟨q, hq, rfl⟩ := List.mem_map.mp hd1
    exact a0 39 _ (h1 q (List.mem_reverse.mp hq))
  exact ⟨o0, p0, by omega, WKd.fn (by omega) (fun e he => ⟨by decide, p0 e he⟩) o0, l0⟩
theorem wk_anf {n : Nat} (h : n ≤ 4) : WKd 40 (anf n) ∧ sot (anf n) = 4 ∧ tkn (anf n) = n := by
  refine ⟨?_, sot_fn n _, len5 n⟩
  have : anf n = (5 + ((List.replicate n ([3] : List Int)).length : Int)) :: ((List.replicate n [3]).flatten ++ [3]) := by
    unfold anf
    rw [List.length_replicate]
    congr 1
    clear h
    induction n with
    | zero => rfl
    | succ n ih =>
      rw [List.replicate_succ, ih, List.replicate_succ, List.flatten_cons, List.append_assoc]
      rfl
  rw [this]
  exact WKd.fn (by rw [List.length_replicate]; exact h) (fun e he => ⟨by decide, by rw [List.eq_of_mem_replicate he]; exact WKd.i3 39⟩) (WKd.i3 40)
theorem nrp_lt (h : 0 < ps.length) (p : Int) : (nrp ch ps p).toNat < ps.length := by
  unfold nrp
  rcases partOf_sp (nmsOf ps) (nm ch p.toNat) with ⟨g, _⟩ | ⟨m, g1, g2, _⟩
  · rw [g]
    show ((0 : Nat) : Int).toNat < _
    omega
  · rw [g1]
    rw [nms_at] at g2
    show ((m : Nat) : Int).toNat < _
    have : m < ps.length := Classical.byContradiction (fun z => by
      rw [List.getElem?_eq_none (by omega)] at g2
      exact absurd g2.symm (Option.some_ne_none _))
    omega
theorem wk_base (h : ∀ d ∈ J.1, WKd 40 d) : WKd 40 (jbase m J.1) := by
  unfold jbase
  rw [List.getLastD_eq_getLast?]
  cases e : (J.1.take m).getLast? with
  | none => exact WKd.i3 40
  | some d => exact h d (List.mem_of_mem_take (List.mem_of_getLast? e))
theorem JOK.mix (h : JOK D S J) (hm : jmix c g m S J k J1) : WKd 40 k ∧ JOK D (S.drop m) J1 := by
  rcases hm with ⟨_, rfl, rfl⟩ | ⟨_, rfl, rfl⟩
  · exact ⟨wk_base h.2.1, h.po m⟩
  · exact ⟨WKd.i3 40, (h.gd).po m⟩
theorem JOK.meet {p t : Int} (h : JOK D S J) (hS : FM S 0 0) (hk : WKd 40 k) (hm : jmeet g j p t k J (Sum.inl J1)) : JOK D S J1 := by
  obtain ⟨w, hw, hz⟩ := hS
  cases S with
  | nil => exact absurd hw.symm (Option.some_ne_none _)
  | cons w0 S =>
    have e : w0 = w := Option.some.inj hw
    rw [← e] at hz
    rcases hm with ⟨_, h1⟩ | ⟨_, _, h1⟩ | ⟨_, _, h1⟩
    · exact absurd h1 (by simp)
    · rw [Sum.inl.inj h1]; exact h
    · rw [Sum.inl.inj h1]; exact JOK.top (h.gd) hk (JFM.z hz)

theorem sh1_0 (e : a.1 = 0) : sh1 j a S = S := by
  obtain ⟨o, x, p, kd⟩ := a
  have e : o = 0 := e
  subst e
  rfl
theorem sh1_7 (e : a.1 = 7) : sh1 j a S = S := by
  obtain ⟨o, x, p, kd⟩ := a
  have e : o = 7 := e
  subst e
  rfl
theorem sh1_27 (e : a.1 = 27) : sh1 j a S = S := by
  obtain ⟨o, x, p, kd⟩ := a
  have e : o = 27 := e
  subst e
  rfl
theorem sh1_28 (e : a.1 = 28) : sh1 j a S = S := by
  obtain ⟨o, x, p, kd⟩ := a
  have e : o = 28 := e
  subst e
  rfl
theorem sh1_32 (e : a.1 = 32) : sh1 j a S = S := by
  obtain ⟨o, x, p, kd⟩ := a
  have e : o = 32 := e
  subst e
  rfl
theorem sh1_33 (e : a.1 = 33) : sh1 j a S = S := by
  obtain ⟨o, x, p, kd⟩ := a
  have e : o = 33 := e
  subst e
  rfl
theorem sh1_34 (e : a.1 = 34) : sh1 j a S = S := by
  obtain ⟨o, x, p, kd⟩ := a
  have e : o = 34 := e
  subst e
  rfl
theorem sh1_35 (e : a.1 = 35) : sh1 j a S = S := by
  obtain ⟨o, x, p, kd⟩ := a
  have e : o = 35 := e
  subst e
  rfl
theorem sh1_29 (e : a.1 = 29) : sh1 j a S = sfm 1 S := by
  obtain ⟨o, x, p, kd⟩ := a
  have e : o = 29 := e
  subst e
  rfl
theorem sh1_30 (e : a.1 = 30) : sh1 j a S = stk none (2 + a.2.1.toNat) S := by
  obtain ⟨o, x, p, kd⟩ := a
  have e : o = 30 := e
  subst e
  rfl
theorem sh1_31 (e : a.1 = 31) : sh1 j a S = stk (some (j - 1)) (2 + a.2.1.toNat) S := by
  obtain ⟨o, x, p, kd⟩ := a
  have e : o = 31 := e
  subst e
  rfl
theorem sh1_36 (e : a.1 = 36) : sh1 j a S = sas (some j) S := by
  obtain ⟨o, x, p, kd⟩ := a
  have e : o = 36 := e
  subst e
  rfl
theorem sh1_10 (e : a.1 = 10) : sh1 j a S = (none, none, 0) :: S.drop a.2.1.toNat := by
  obtain ⟨o, x, p, kd⟩ := a
  have e : o = 10 := e
  subst e
  rfl
theorem sh1_16 (e : a.1 = 16) : sh1 j a S = (none, none, 0) :: S.drop (a.2.1.toNat + 1) := by
  obtain ⟨o, x, p, kd⟩ := a
  have e : o = 16 := e
  subst e
  rfl
theorem sh1_15 (e : a.1 = 15) : sh1 j a S = (none, none, 0) :: S.drop 3 := by
  obtain ⟨o, x, p, kd⟩ := a
  have e : o = 15 := e
  subst e
  rfl
theorem sh1_5 (e : a.1 = 5) : sh1 j a S = S.drop 1 := by
  obtain ⟨o, x, p, kd⟩ := a
  have e : o = 5 := e
  subst e
  rfl
theorem sh1_6 (e : a.1 = 6) : sh1 j a S = S.drop 1 := by
  obtain ⟨o, x, p, kd⟩ := a
  have e : o = 6 := e
  subst e
  rfl
theorem sh1_9 (e : a.1 = 9) : sh1 j a S = S.drop 1 := by
  obtain ⟨o, x, p, kd⟩ := a
  have e : o = 9 := e
  subst e
  rfl
theorem sh1_17 (e : a.1 = 17) : sh1 j a S = S.drop 1 := by
  obtain ⟨o, x, p, kd⟩ := a
  have e : o = 17 := e
  subst e
  rfl
theorem sh1_1 (e : a.1 = 1) : sh1 j a S = (none, none, 0) :: S.drop 0 := by
  obtain ⟨o, x, p, kd⟩ := a
  have e : o = 1 := e
  subst e
  rfl
theorem sh1_2 (e : a.1 = 2) : sh1 j a S = (none, none, 0) :: S.drop 0 := by
  obtain ⟨o, x, p, kd⟩ := a
  have e : o = 2 := e
  subst e
  rfl
theorem sh1_3 (e : a.1 = 3) : sh1 j a S = (none, none, 0) :: S.drop 0 := by
  obtain ⟨o, x, p, kd⟩ := a
  have e : o = 3 := e
  subst e
  rfl
theorem sh1_4 (e : a.1 = 4) : sh1 j a S = (none, none, 0) :: S.drop 0 := by
  obtain ⟨o, x, p, kd⟩ := a
  have e : o = 4 := e
  subst e
  rfl
theorem sh1_8 (e : a.1 = 8) : sh1 j a S = (none, none, 0) :: S.drop 2 := by
  obtain ⟨o, x, p, kd⟩ := a
  have e : o = 8 := e
  subst e
  rfl
theorem sh1_11 (e : a.1 = 11) : sh1 j a S = (none, none, 0) :: S.drop 2 := by
  obtain ⟨o, x, p, kd⟩ := a
  have e : o = 11 := e
  subst e
  rfl
theorem sh1_14 (e : a.1 = 14) : sh1 j a S = (none, none, 0) :: S.drop 2 := by
  obtain ⟨o, x, p, kd⟩ := a
  have e : o = 14 := e
  subst e
  rfl
theorem sh1_20 (e : 20 ≤ a.1 ∧ a.1 ≤ 26) : sh1 j a S = (none, none, 0) :: S.drop 2 := by
  obtain ⟨o, x, p, kd⟩ := a
  have e : 20 ≤ o ∧ o ≤ 26 := e
  have cs : o = 20 ∨ o = 21 ∨ o = 22 ∨ o = 23 ∨ o = 24 ∨ o = 25 ∨ o = 26 := by omega
  rcases cs with e | e | e | e | e | e | e <;> (subst e; rfl)
theorem sh1_12 (e : a.1 = 12) : sh1 j a S = (none, none, 0) :: S.drop 1 := by
  obtain ⟨o, x, p, kd⟩ := a
  have e : o = 12 := e
  subst e
  rfl
theorem sh1_13 (e : a.1 = 13) : sh1 j a S = (none, none, 0) :: S.drop 1 := by
  obtain ⟨o, x, p, kd⟩ := a
  have e : o = 13 := e
  subst e
  rfl
theorem sh1_18 (e : a.1 = 18) : sh1 j a S = (none, none, 0) :: S.drop 1 := by
  obtain ⟨o, x, p, kd⟩ := a
  have e : o = 18 := e
  subst e
  rfl
theorem sh1_19 (e : a.1 = 19) : sh1 j a S = (none, none, 0) :: S.drop 1 := by
  obtain ⟨o, x, p, kd⟩ := a
  have e : o = 19 := e
  subst e
  rfl
theorem ned_8 (e : a.1 = 8) (h : NQ a S) : 2 ≤ S.length := by
  obtain ⟨o, x, p, kd⟩ := a
  have e : o = 8 := e
  subst e
  exact h.1
theorem ned_11 (e : a.1 = 11) (h : NQ a S) : 2 ≤ S.length := by
  obtain ⟨o, x, p, kd⟩ := a
  have e : o = 11 := e
  subst e
  exact h.1
theorem ned_14 (e : a.1 = 14) (h : NQ a S) : 2 ≤ S.length := by
  obtain ⟨o, x, p, kd⟩ := a
  have e : o = 14 := e
  subst e
  exact h.1
theorem ned_20 (e : 20 ≤ a.1 ∧ a.1 ≤ 26) (h : NQ a S) : 2 ≤ S.length := by
  obtain ⟨o, x, p, kd⟩ := a
  have e : 20 ≤ o ∧ o ≤ 26 := e
  have cs : o = 20 ∨ o = 21 ∨ o = 22 ∨ o = 23 ∨ o = 24 ∨ o = 25 ∨ o = 26 := by omega
  rcases cs with e | e | e | e | e | e | e <;> (subst e; exact h.1)
theorem ned_15 (e : a.1 = 15) (h : NQ a S) : 3 ≤ S.length := by
  obtain ⟨o, x, p, kd⟩ := a
  have e : o = 15 := e
  subst e
  exact h.1
theorem ned_10 (e : a.1 = 10) (h : NQ a S) : a.2.1.toNat ≤ S.length := by
  obtain ⟨o, x, p, kd⟩ := a
  have e : o = 10 := e
  subst e
  exact h.1
theorem ned_16 (e : a.1 = 16) (h : NQ a S) : a.2.1.toNat + 1 ≤ S.length := by
  obtain ⟨o, x, p, kd⟩ := a
  have e : o = 16 := e
  subst e
  exact h.1
theorem ned_33 (e : a.1 = 33) (h : NQ a S) : 3 ≤ S.length := by
  obtain ⟨o, x, p, kd⟩ := a
  have e : o = 33 := e
  subst e
  exact h.1
theorem ned_32 (e : a.1 = 32) (h : NQ a S) : a.2.1.toNat + 2 ≤ S.length := by
  obtain ⟨o, x, p, kd⟩ := a
  have e : o = 32 := e
  subst e
  exact h.1
theorem ned_5 (e : a.1 = 5) (h : NQ a S) : 1 ≤ S.length := by
  obtain ⟨o, x, p, kd⟩ := a
  have e : o = 5 := e
  subst e
  exact h.1
theorem ned_6 (e : a.1 = 6) (h : NQ a S) : 1 ≤ S.length := by
  obtain ⟨o, x, p, kd⟩ := a
  have e : o = 6 := e
  subst e
  exact h.1
theorem ned_9 (e : a.1 = 9) (h : NQ a S) : 1 ≤ S.length := by
  obtain ⟨o, x, p, kd⟩ := a
  have e : o = 9 := e
  subst e
  exact h.1
theorem ned_17 (e : a.1 = 17) (h : NQ a S) : 1 ≤ S.length := by
  obtain ⟨o, x, p, kd⟩ := a
  have e : o = 17 := e
  subst e
  exact h.1
theorem ned_12 (e : a.1 = 12) (h : NQ a S) : 1 ≤ S.length := by
  obtain ⟨o, x, p, kd⟩ := a
  have e : o = 12 := e
  subst e
  exact h.1
theorem ned_13 (e : a.1 = 13) (h : NQ a S) : 1 ≤ S.length := by
  obtain ⟨o, x, p, kd⟩ := a
  have e : o = 13 := e
  subst e
  exact h.1
theorem ned_18 (e : a.1 = 18) (h : NQ a S) : 1 ≤ S.length := by
  obtain ⟨o, x, p, kd⟩ := a
  have e : o = 18 := e
  subst e
  exact h.1
theorem ned_19 (e : a.1 = 19) (h : NQ a S) : 1 ≤ S.length := by
  obtain ⟨o, x, p, kd⟩ := a
  have e : o = 19 := e
  subst e
  exact h.1
theorem ned_27 (e : a.1 = 27) (h : NQ a S) : 1 ≤ S.length := by
  obtain ⟨o, x, p, kd⟩ := a
  have e : o = 27 := e
  subst e
  exact h.1
theorem ned_28 (e : a.1 = 28) (h : NQ a S) : 1 ≤ S.length := by
  obtain ⟨o, x, p, kd⟩ := a
  have e : o = 28 := e
  subst e
  exact h.1
theorem ned_29 (e : a.1 = 29) (h : NQ a S) : 1 ≤ S.length := by
  obtain ⟨o, x, p, kd⟩ := a
  have e : o = 29 := e
  subst e
  exact h.1
theorem ned_30 (e : a.1 = 30) (h : NQ a S) : 1 ≤ S.length := by
  obtain ⟨o, x, p, kd⟩ := a
  have e : o = 30 := e
  subst e
  exact h.1
theorem ned_31 (e : a.1 = 31) (h : NQ a S) : 1 ≤ S.length := by
  obtain ⟨o, x, p, kd⟩ := a
  have e : o = 31 := e
  subst e
  exact h.1
theorem ned_34 (e : a.1 = 34) (h : NQ a S) : 1 ≤ S.length := by
  obtain ⟨o, x, p, kd⟩ := a
  have e : o = 34 := e
  subst e
  exact h.1
theorem ned_35 (e : a.1 = 35) (h : NQ a S) : 1 ≤ S.length := by
  obtain ⟨o, x, p, kd⟩ := a
  have e : o = 35 := e
  subst e
  exact h.1
theorem ned_36 (e : a.1 = 36) (h : NQ a S) : 1 ≤ S.length := by
  obtain ⟨o, x, p, kd⟩ := a
  have e : o = 36 := e
  subst e
  exact h.1
/-- how many names are bound behind an instruction -/
def dnx (D : Nat) (a : Ins) : Nat := if a.1 = 5 then max D (a.2.1.toNat + 1) else D
theorem JOK.step (hp : PWd ps) (hg : g < ps.length) (h34 : a.1 = 34 → WKd 40 a.2.2.2) (h30 : a.1 = 30 ∨ a.1 = 31 → a.2.1.toNat ≤ 4) (hA : AO X nr c j b s S a) (hN : NQ a S) (h5 : a.1 = 5 → 0 ≤ a.2.1 ∧ a.2.1 ≤ (D : Int)) (h : JOK D S J) (hJ : JST ch ps told c g j S a J (Sum.inl J1)) : JOK (dnx D a) (sh1 j a S) J1 := by
  have n5 : ¬ a.1 = 5 → dnx D a = D := fun z => by unfold dnx; rw [if_neg z]
  have po : 0 < ps.length := by omega
  have ak : ∀ d, WKd 40 d → WKd 40 (askd told g d) := fun d h => by
    unfold askd
    split
    · exact h
    · exact WKd.i3 40
  have call : ∀ t : Option Nat, a.1 = 30 ∨ a.1 = 31 → jcall g j a.2.2.1 a.2.1.toNat J (Sum.inl J1) → JOK D (stk t (2 + a.2.1.toNat) S) J1 := by
    intro t e hc
    have hn := wk_anf (h30 e)
    cases S with
    | nil => exact absurd (e.elim (fun e => ned_30 e hN) (fun e => ned_31 e hN)) (by show ¬ 1 ≤ 0; omega)
    | cons w0 S =>
      rcases hc with ⟨_, h1⟩ | ⟨_, ⟨hs, ⟨ht, h1⟩ | ⟨_, h1⟩⟩ | ⟨_, h1⟩⟩
      · rw [Sum.inl.inj h1]
        exact JOK.top h.gd hn.1 ⟨fun z => absurd z (by show ¬ 2 + _ = 1; omega), fun n z => by
          have z : 2 + a.2.1.toNat = 2 + n := z
          exact ⟨hn.2.1, by rw [hn.2.2]; omega⟩⟩
      · rw [Sum.inl.inj h1]
        obtain ⟨h2, h3, _⟩ := h.hd
        rw [← h2]
        exact JOK.top h h3 ⟨fun z => absurd z (by show ¬ 2 + _ = 1; omega), fun n z => by
          have z : 2 + a.2.1.toNat = 2 + n := z
          exact ⟨hs, by rw [ht]; omega⟩⟩
      · exact absurd h1 (by simp)
      · exact absurd h1 (by simp)
  rcases hJ with ⟨e, hr⟩ | ⟨e, hr⟩ | ⟨e, hr⟩ | ⟨e, hr⟩ | ⟨e, hr⟩ | ⟨e, hr⟩ | ⟨e, hr⟩ | ⟨e, hr⟩ | ⟨e, hr⟩ | ⟨e, hr⟩ | ⟨e, hr⟩ | ⟨e, hr⟩ | ⟨e, hr⟩ | ⟨e, hr⟩ | ⟨e, hr⟩ | ⟨e, hr⟩ | ⟨e, hr⟩ | ⟨e, hr⟩ | ⟨e, hr⟩ | ⟨e, hr⟩ | ⟨e, hr⟩ | ⟨e, hr⟩ | ⟨e, hr⟩ | ⟨e, hr⟩ | ⟨e, hr⟩ | ⟨e, hr⟩ | ⟨e, hr⟩ | ⟨e, hr⟩ | ⟨e, hr⟩ | ⟨e, hr⟩ | ⟨e, hr⟩
  · rw [n5 (by omega), sh1_0 e]
    rw [Sum.inl.inj hr]
    exact h
  · rw [n5 (by omega), sh1_1 e]
    rw [Sum.inl.inj hr]
    exact (h.po 0).pu (WKd.i1 40)
  · rw [n5 (by omega), sh1_2 e]
    rw [Sum.inl.inj hr]
    exact (h.po 0).pu (WKd.i2 40)
  · rw [n5 (by omega), sh1_3 e]
    obtain ⟨d, hd, hr⟩ := hr
    rw [Sum.inl.inj hr]
    exact (h.po 0).pu (h.2.2.2.2 _ _ hd)
  · rw [n5 (by omega), sh1_4 e]
    rw [Sum.inl.inj hr]
    exact (h.po 0).pu (wk_fks hp (nrp_lt po _)).2.2.2.1
  · rw [sh1_5 e, Sum.inl.inj hr]
    have hx := h5 e
    have g1 := h.po 1
    have hd : WKd 40 (hdK J.1) := by
      cases S with
      | nil => exact absurd (ned_5 e hN) (by show ¬ 1 ≤ 0; omega)
      | cons w0 S => exact h.hd.2.1
    have et : J.1.tail = J.1.drop 1 := List.drop_one.symm
    refine ⟨by rw [et]; exact g1.1, by rw [et]; exact g1.2.1, by rw [et]; exact g1.2.2.1, fun x hx1 => ?_, fun x d hd1 => ?_⟩
    · unfold dnx at hx1
      rw [if_pos e] at hx1
      show ∃ d, (if x = a.2.1.toNat then some (hdK J.1) else J.2.1 x) = some d
      by_cases z : x = a.2.1.toNat
      · rw [if_pos z]; exact ⟨_, rfl⟩
      · rw [if_neg z]; exact h.2.2.2.1 x (by omega)
    · have hd1 : (if x = a.2.1.toNat then some (hdK J.1) else J.2.1 x) = some d := hd1
      by_cases z : x = a.2.1.toNat
      · rw [if_pos z] at hd1
        rw [← Option.some.inj hd1]; exact hd
      · rw [if_neg z] at hd1; exact h.2.2.2.2 x d hd1
  · rw [n5 (by omega), sh1_6 e]
    rw [Sum.inl.inj hr]
    exact h.po 1
  · rw [n5 (by omega), sh1_7 e]
    rw [Sum.inl.inj hr]
    exact h
  · rw [n5 (by omega), sh1_8 e]
    obtain ⟨k, J2, hm, hr⟩ := hr
    rw [Sum.inl.inj hr]
    have := h.mix hm
    exact this.2.pu this.1
  · rw [n5 (by omega), sh1_9 e]
    rw [Sum.inl.inj hr]
    exact h.po 1
  · rw [n5 (by omega), sh1_10 e]
    obtain ⟨k, J2, hm, hr⟩ := hr
    rw [Sum.inl.inj hr]
    have := h.mix hm
    exact this.2.pu this.1.row
  · rw [n5 (by omega), sh1_11 e]
    rw [Sum.inl.inj hr]
    exact (h.po 2).pu (WKd.row (by
      cases S with
      | nil => exact absurd (ned_11 e hN) (by show ¬ 2 ≤ 0; omega)
      | cons w0 S => exact h.hd.2.1))
  · rw [n5 (by omega), sh1_12 e]
    rw [Sum.inl.inj hr]
    exact (h.po 1).pu (WKd.i1 40)
  · rw [n5 (by omega), sh1_13 e]
    rw [Sum.inl.inj hr]
    exact (h.po 1).pu (WKd.i1 40)
  · rw [n5 (by omega), sh1_14 e]
    rw [Sum.inl.inj hr]
    exact (h.po 2).pu (h.at (by have := ned_14 e hN; omega)).1.gv
  · rw [n5 (by omega), sh1_15 e]
    rw [Sum.inl.inj hr]
    exact (h.po 3).pu (h.at (by have := ned_15 e hN; omega)).1.gv
  · rw [n5 (by omega), sh1_16 e]
    rw [Sum.inl.inj hr]
    exact (h.po _).pu (h.at (by have := ned_16 e hN; omega)).1.gv
  · rw [n5 (by omega), sh1_17 e]
    rw [Sum.inl.inj hr]
    exact h.po 1
  · rw [n5 (by omega), sh1_18 e]
    rw [Sum.inl.inj hr]
    exact (h.po 1).pu (WKd.i1 40)
  · rw [n5 (by omega), sh1_19 e]
    rw [Sum.inl.inj hr]
    exact (h.po 1).pu (WKd.i2 40)
  · rw [n5 (by omega), sh1_20 e]
    rw [Sum.inl.inj hr]
    exact (h.po 2).pu (by split; exact WKd.i2 40; exact WKd.i1 40)
  · rw [n5 (by omega), sh1_27 e]
    exact h.meet (hN.2 (by omega)) (WKd.i1 40) hr
  · rw [n5 (by omega), sh1_28 e]
    exact h.meet (hN.2 (by omega)) (WKd.i2 40) hr
  · rw [n5 (by omega), sh1_29 e]
    cases S with
    | nil => exact absurd (ned_29 e hN) (by show ¬ 1 ≤ 0; omega)
    | cons w0 S =>
      rcases hr with ⟨_, h1⟩ | ⟨_, hs, h1⟩ | ⟨_, _, h1⟩
      · rw [Sum.inl.inj h1]
        exact JOK.top h.gd (WKd.row (WKd.i3 40)) ⟨fun _ => rfl, fun n z => absurd z (by show ¬ 1 = 2 + n; omega)⟩
      · rw [Sum.inl.inj h1]
        obtain ⟨h2, h3, _⟩ := h.hd
        rw [← h2]
        exact JOK.top h h3 ⟨fun _ => hs, fun n z => absurd z (by show ¬ 1 = 2 + n; omega)⟩
      · exact absurd h1 (by simp)
  · rw [n5 (by omega), sh1_30 e]
    exact call _ (Or.inl e) hr
  · rw [n5 (by omega), sh1_31 e]
    exact call _ (Or.inr e) hr
  · rw [n5 (by omega), sh1_32 e]
    obtain ⟨w, _, hm⟩ := hr
    obtain ⟨n, _, _, _, _, m1, q, t, h1, _, hS, hlt, _⟩ := hA.e32 e
    have at1 := h.at (i := a.2.1.toNat + 1) (by have := ned_32 e hN; omega)
    have tk := ((at1.2.2 (2 + h1) ⟨_, hS, rfl⟩).2 h1 rfl).2
    exact h.meet (hN.2 (by omega)) ((at1.1.pr (by omega)).2.up (by omega)) hm
  · rw [n5 (by omega), sh1_33 e]
    exact h.meet (hN.2 (by omega)) (h.at (by have := ned_33 e hN; omega)).1.gv hr
  · rw [n5 (by omega), sh1_34 e]
    exact h.an.meet (hN.2 (by omega)) (ak _ (h34 e)) hr
  · rw [n5 (by omega), sh1_35 e]
    exact h.meet (hN.2 (by omega)) (wk_fks hp hg).1 hr
  · rw [n5 (by omega), sh1_36 e]
    rw [Sum.inl.inj hr]
    cases S with
    | nil => exact absurd (ned_36 e hN) (by show ¬ 1 ≤ 0; omega)
    | cons w0 S =>
      refine ⟨h.1, h.2.1, fun i w k hw hk => ?_, h.2.2.2⟩
      cases i with
      | zero =>
        have := h.2.2.1 0 w0 k rfl hk
        rw [← Option.some.inj hw]
        exact this
      | succ i => exact h.2.2.1 (i + 1) w k hw hk
end JOKS
