/-! both sides read alike -/
def JJ (XC XR : St) : Prop := JC XC ∧ JM XR ∧ (XC.1 0 1).toInt = (XR.1 0 0).toInt ∧ ∀ n : Nat, (XR.1 0 0).toInt = (n : Int) → EQn n XC XR
theorem JJ.keep {XC XR X X1 : St} (h : JJ XC XR) (hq : JC X) (hp : JM X1) (qt : (X.1 0 1).toInt = (XC.1 0 1).toInt) (pt : (X1.1 0 0).toInt = (XR.1 0 0).toInt) (r : X.1 1 = XC.1 1) (r1 : X1.1 1 = XR.1 1) : JJ X X1 := by
  refine ⟨hq, hp, by rw [qt, pt]; exact h.2.2.1, fun n hn i hi => ?_⟩
  rw [r, r1]
  exact h.2.2.2 n (by rw [← pt]; exact hn) i hi
theorem jt_end {X : St} {p1 : Int32} (h : JC X) : pw (g_Court_end p1 X) (fun _ Y => Y.1 1 = X.1 1) := by
  obtain ⟨hI, ⟨hr9, hr2, hP⟩ | ⟨hr9, hr2, hP⟩⟩ := h
  · exact pw_mono (ok.pw1 (v_Court_end_C2 hI)) (fun _ Y g => funext (fun k => g.1.1.1 1 k (show (200 : Nat) ∉ [1] from by decide)))
  · exact pw_mono (ok.pw1 (v_Court_end_C24 hI)) (fun _ Y g => funext (fun k => g.1.1.1 1 k (show (200 : Nat) ∉ [1] from by decide)))
theorem jt_fault {X : St} {p1 : Int32} (h : JC X) : pw (g_Court_fault p1 X) (fun _ Y => Y.1 1 = X.1 1) := by
  obtain ⟨hI, ⟨hr9, hr2, hP⟩ | ⟨hr9, hr2, hP⟩⟩ := h
  · exact pw_mono (ok.pw1 (v_Court_fault_C2 hI)) (fun _ Y g => by rw [g])
  · exact pw_mono (ok.pw1 (v_Court_fault_C24 hI)) (fun _ Y g => by rw [g])
theorem jt_tell {X : St} {p1 : Int32} {p2 : Int32} (h : JC X) : pw (g_Court_tell p1 p2 X) (fun _ Y => Y.1 1 = X.1 1) := by
  obtain ⟨hI, ⟨hr9, hr2, hP⟩ | ⟨hr9, hr2, hP⟩⟩ := h
  · exact pw_mono (ok.pw1 (v_Court_tell_C2 hI hr9)) (fun _ Y g => funext (fun k => g.1.1 1 k (show (200 : Nat) ∉ [4, 3600] from by decide)))
  · exact pw_mono (ok.pw1 (v_Court_tell_C24 hI hr9)) (fun _ Y g => funext (fun k => g.1.1 1 k (show (200 : Nat) ∉ [4, 8000] from by decide)))
theorem jt_judge {X : St} (h : JC X) : pw (g_Court_judge X) (fun _ Y => Y.1 1 = X.1 1) := by
  obtain ⟨hI, ⟨hr9, hr2, hP⟩ | ⟨hr9, hr2, hP⟩⟩ := h
  · exact pw_mono (ok.pw1 (v_Court_judge_C2 hI hr9 hP)) (fun _ Y g => funext (fun k => g.1.1 1 k (show (200 : Nat) ∉ Qv65 from by decide)))
  · exact pw_mono (ok.pw1 (v_Court_judge_C24 hI hr9 hP)) (fun _ Y g => funext (fun k => g.1.1 1 k (show (200 : Nat) ∉ Qv69 from by decide)))
theorem jt_guard {X : St} {p1 : Int32} {p2 : Int32} (h : JC X) : pw (g_Court_guard p1 p2 X) (fun _ Y => Y.1 1 = X.1 1) := by
  obtain ⟨hI, ⟨hr9, hr2, hP⟩ | ⟨hr9, hr2, hP⟩⟩ := h
  · exact pw_mono (ok.pw1 (v_Court_guard_C2 hI hr9)) (fun _ Y g => by rw [g])
  · exact pw_mono (ok.pw1 (v_Court_guard_C24 hI hr9)) (fun _ Y g => by rw [g])
theorem jt_part {X : St} {p1 : Int32} {p2 : Int32} (h : JC X) : pw (g_Court_part p1 p2 X) (fun _ Y => Y.1 1 = X.1 1) := by
  obtain ⟨hI, ⟨hr9, hr2, hP⟩ | ⟨hr9, hr2, hP⟩⟩ := h
  · exact pw_mono (ok.pw1 (v_Court_part_C2 hI hr9)) (fun _ Y g => by rw [g])
  · exact pw_mono (ok.pw1 (v_Court_part_C24 hI hr9)) (fun _ Y g => by rw [g])
theorem jt_run {X : St} {p1 : Int32} (h : JC X) : pw (g_Court_run p1 X) (fun _ Y => Y.1 1 = X.1 1) := by
  obtain ⟨hI, ⟨hr9, hr2, hP⟩ | ⟨hr9, hr2, hP⟩⟩ := h
  · exact pw_mono (ok.pw1 (v_Court_run_C2 hI hr9 hP)) (fun _ Y g => funext (fun k => g.1.1 1 k (show (200 : Nat) ∉ Qv66 from by decide)))
  · exact pw_mono (ok.pw1 (v_Court_run_C24 hI hr9 hP)) (fun _ Y g => funext (fun k => g.1.1 1 k (show (200 : Nat) ∉ Qv66 from by decide)))
theorem jt_runUntold {X : St} {p1 : Int32} (h : JC X) : pw (g_Court_runUntold p1 X) (fun _ Y => Y.1 1 = X.1 1) := by
  obtain ⟨hI, ⟨hr9, hr2, hP⟩ | ⟨hr9, hr2, hP⟩⟩ := h
  · exact pw_mono (ok.pw1 (v_Court_runUntold_C2 hI hr9 hP)) (fun _ Y g => funext (fun k => g.1.1 1 k (show (200 : Nat) ∉ Qv66 from by decide)))
  · exact pw_mono (ok.pw1 (v_Court_runUntold_C24 hI hr9 hP)) (fun _ Y g => funext (fun k => g.1.1 1 k (show (200 : Nat) ∉ Qv66 from by decide)))
theorem jt_told {X : St} {p1 : Int32} (h : JC X) : pw (g_Court_told p1 X) (fun _ Y => Y.1 1 = X.1 1) := by
  obtain ⟨hI, ⟨hr9, hr2, hP⟩ | ⟨hr9, hr2, hP⟩⟩ := h
  · exact pw_mono (ok.pw1 (v_Court_told_C2 hI)) (fun _ Y g => by rw [g])
  · exact pw_mono (ok.pw1 (v_Court_told_C24 hI)) (fun _ Y g => by rw [g])
theorem jt_out {X : St} {p1 : Int32} (h : JC X) : pw (g_Court_out p1 X) (fun _ Y => Y.1 1 = X.1 1) := by
  obtain ⟨hI, ⟨hr9, hr2, hP⟩ | ⟨hr9, hr2, hP⟩⟩ := h
  · exact pw_mono (ok.pw1 (v_Court_out_C2 hI)) (fun _ Y g => by rw [g])
  · exact pw_mono (ok.pw1 (v_Court_out_C24 hI)) (fun _ Y g => by rw [g])
theorem jt_asked {X : St} {p1 : Int32} {p2 : Int32} (h : JC X) : pw (g_Court_asked p1 p2 X) (fun _ Y => Y.1 1 = X.1 1) := by
  obtain ⟨hI, ⟨hr9, hr2, hP⟩ | ⟨hr9, hr2, hP⟩⟩ := h
  · exact pw_mono (ok.pw1 (v_Court_asked_C2 hI hr9)) (fun _ Y g => by rw [g])
  · exact pw_mono (ok.pw1 (v_Court_asked_C24 hI hr9)) (fun _ Y g => by rw [g])
theorem jt_about {X : St} {p1 : Int32} (h : JC X) : pw (g_Court_about p1 X) (fun _ Y => Y.1 1 = X.1 1) := by
  obtain ⟨hI, ⟨hr9, hr2, hP⟩ | ⟨hr9, hr2, hP⟩⟩ := h
  · exact pw_mono (ok.pw1 (v_Court_about_C2 hI hr9)) (fun _ Y g => by rw [g])
  · exact pw_mono (ok.pw1 (v_Court_about_C24 hI hr9)) (fun _ Y g => by rw [g])
/-- what the class reads -/
theorem jr_read {X : St} {ch : Tx} {n : Nat} (h : JC X) (hT : TXT ch n) (h1 : (X.1 0 1).toInt = (n : Int)) (hb : ∀ i, i < n → (X.1 1 i &&& 255).toInt = ch i) : pw (g_Court_read X) (fun r _ => RAq ch r) := by
  have g1 : 0 ≤ (X.1 0 1).toInt ∧ (X.1 0 1).toInt ≤ 3000 := h.1.1 0 1
  obtain ⟨hI, ⟨hr9, hr2, hP⟩ | ⟨hr9, hr2, hP⟩⟩ := h
  · exact l_read (e := 24) (f := 2) (Or.inr rfl) hT h1 hb hr2 hr9 (pw_mono (ok.pw1 (v_readInto_R24T hI g1)) (fun _ Y g => ⟨g.1.1.2.2 0 2 n2_Qv63, g.1.1.2.2 0 9 n9_Qv63⟩))
  · exact l_read (e := 2) (f := 24) (Or.inl rfl) hT h1 hb hr2 hr9 (pw_mono (ok.pw1 (v_readInto_R2T hI g1)) (fun _ Y g => ⟨g.1.1.2.2 0 2 n2_Qv50, g.1.1.2.2 0 9 n9_Qv50⟩))
theorem sides : SidesOK JJ := by
  refine ⟨?_, ?_, ?_, ?_, ?_, ?_, ?_, ?_, ?_, ?_, ?_, ?_, ?_, ?_, ?_⟩
  · obtain ⟨X, e, h, h0⟩ := ctor_C_ok
    obtain ⟨X1, e1, h1, h2⟩ := ctor_R_ok
    exact ⟨X, X1, e, e1, h, h1, h0.trans h2.symm, fun n hn i hi => by omega⟩
  · intro v0 v1 v2 v3 v4 XC XR ⟨hC, hM, ht, hE⟩
    obtain ⟨n, hn⟩ : ∃ n : Nat, (XR.1 0 0).toInt = (n : Int) := ⟨ix (XR.1 0 0), (ixc hM.1.1.1).symm⟩
    have hn3 : n ≤ 3000 := by
      have := hM.1.1.2
      omega
    refine both (ok_pw (jc_feed hC) (cl_feed (n := n) (by omega) hn3)) (ok_pw (m_feed hM v0 v1 v2 v3 v4) (rl_feed hn hn3)) ?_
    rintro r X r1 X1 ⟨⟨q, qt⟩, qa, qb⟩ ⟨⟨p, pt, pu⟩, pa, pb⟩
    rcases qt with ⟨a, b, c⟩ | ⟨a, b, c⟩
    · obtain ⟨e1, e2⟩ := pt (by omega)
      refine ⟨q, p, by omega, fun m hm => ?_⟩
      have em : m = n + 20 := by omega
      rw [em]
      exact (hE n hn).fd (qa (by omega)) (pa (by omega))
    · obtain ⟨e1, e2⟩ := pu (by omega)
      refine ⟨q, p, by omega, fun m hm => ?_⟩
      have em : m = n := by omega
      rw [em, qb (by omega), pb (by omega)]
      exact hE n hn
  · intro v0 XC XR ⟨hC, hM, ht, hE⟩
    obtain ⟨n, hn⟩ : ∃ n : Nat, (XR.1 0 0).toInt = (n : Int) := ⟨ix (XR.1 0 0), (ixc hM.1.1.1).symm⟩
    refine both (ok_pw (jc_end hC) (jt_end hC)) (ok_pw (m_end hM v0) (ra_end R1.rf)) ?_
    rintro r X r1 X1 ⟨⟨q, qt⟩, qr⟩ ⟨⟨p, pt, pu⟩, pr⟩
    have pr : X1.1 1 = XR.1 1 := pr
    have rows : ∀ m : Nat, m ≤ n → EQn m X X1 := fun m hm i hi => by
      rw [qr, pr]
      exact hE n hn i (by omega)
    rcases qt with ⟨a, b, c, d⟩ | ⟨a, c, d⟩
    · obtain ⟨e1, e2⟩ := pt ⟨a, by omega⟩
      exact ⟨q, p, by omega, fun m hm => rows m (by omega)⟩
    · obtain ⟨e1, e2⟩ := pu (by omega)
      exact ⟨q, p, by omega, fun m hm => rows m (by omega)⟩
  · intro XC XR ⟨hC, hM, ht, hE⟩
    obtain ⟨n, hn⟩ : ∃ n : Nat, (XR.1 0 0).toInt = (n : Int) := ⟨ix (XR.1 0 0), (ixc hM.1.1.1).symm⟩
    have hn3 : n ≤ 3000 := by
      have := hM.1.1.2
      omega
    have hT : TXT (chT XC n) n := chT_txt hn3
    have hc : ∀ i, i < n → (XC.1 1 i &&& 255).toInt = chT XC n i := fun i hi => by
      unfold chT
      rw [if_pos hi]
    refine both (ok_pw (jc_read hC) (jr_read (ch := chT XC n) (n := n) hC hT (by omega) hc)) (ok_pw (m_read hM) (x_read (ch := chT XC n) hT hn (fun i hi => ?_))) ?_
    · rw [← hc i hi, hE n hn i hi]
      exact BY_nar _
    · rintro r X r1 X1 ⟨⟨q, qt⟩, qr⟩ ⟨⟨p, pt⟩, pr⟩
      exact ⟨⟨q, p, qt.trans pt.symm, fun m hm i hi => by omega⟩, qr.one pr⟩
  · intro v0 XC XR h
    refine both (ok_pw (jc_fault h.1) (jt_fault h.1)) (ok_pw (m_fault h.2.1 v0) (ra_fault R1.rf)) ?_
    rintro r X r1 X1 ⟨⟨q, qt⟩, qr⟩ ⟨⟨p, pt⟩, pr⟩
    exact h.keep q p qt pt qr pr
  · intro v0 v1 XC XR _ h
    refine both (ok_pw (jc_tell h.1) (jt_tell h.1)) (ok_pw (m_tell h.2.1 v0 v1) (ra_tell R1.rf)) ?_
    rintro r X r1 X1 ⟨⟨q, qt⟩, qr⟩ ⟨⟨p, pt⟩, pr⟩
    exact h.keep q p qt pt qr pr
  · intro XC XR h
    refine both (ok_pw (jc_judge h.1) (jt_judge h.1)) (ok_pw (m_judge h.2.1) (ra_judge R1.rf)) ?_
    rintro r X r1 X1 ⟨⟨q, qt⟩, qr⟩ ⟨⟨p, pt⟩, pr⟩
    exact h.keep q p qt pt qr pr
  · intro v0 v1 XC XR h
    refine both (ok_pw (jc_guard h.1) (jt_guard h.1)) (ok_pw (m_guard h.2.1 v0 v1) (ra_guard R1.rf)) ?_
    rintro r X r1 X1 ⟨⟨q, qt⟩, qr⟩ ⟨⟨p, pt⟩, pr⟩
    exact h.keep q p qt pt qr pr
  · intro v0 v1 XC XR h
    refine both (ok_pw (jc_part h.1) (jt_part h.1)) (ok_pw (m_part h.2.1 v0 v1) (ra_part_II_I R1.rf)) ?_
    rintro r X r1 X1 ⟨⟨q, qt⟩, qr⟩ ⟨⟨p, pt⟩, pr⟩
    exact h.keep q p qt pt qr pr
  · intro v0 XC XR h
    refine both (ok_pw (jc_run h.1) (jt_run h.1)) (ok_pw (m_run h.2.1 v0) (ra_run R1.rf)) ?_
    rintro r X r1 X1 ⟨⟨q, qt⟩, qr⟩ ⟨⟨p, pt⟩, pr⟩
    exact h.keep q p qt pt qr pr
  · intro v0 XC XR h
    refine both (ok_pw (jc_runUntold h.1) (jt_runUntold h.1)) (ok_pw (m_runUntold h.2.1 v0) (ra_runUntold R1.rf)) ?_
    rintro r X r1 X1 ⟨⟨q, qt⟩, qr⟩ ⟨⟨p, pt⟩, pr⟩
    exact h.keep q p qt pt qr pr
  · intro v0 XC XR h
    refine both (ok_pw (jc_told h.1) (jt_told h.1)) (ok_pw (m_told h.2.1 v0) (ra_told R1.rf)) ?_
    rintro r X r1 X1 ⟨⟨q, qt⟩, qr⟩ ⟨⟨p, pt⟩, pr⟩
    exact h.keep q p qt pt qr pr
  · intro v0 XC XR h
    refine both (ok_pw (jc_out h.1) (jt_out h.1)) (ok_pw (m_out h.2.1 v0) (ra_out R1.rf)) ?_
    rintro r X r1 X1 ⟨⟨q, qt⟩, qr⟩ ⟨⟨p, pt⟩, pr⟩
    exact h.keep q p qt pt qr pr
  · intro v0 v1 XC XR h
    refine both (ok_pw (jc_asked h.1) (jt_asked h.1)) (ok_pw (m_asked h.2.1 v0 v1) (ra_asked R1.rf)) ?_
    rintro r X r1 X1 ⟨⟨q, qt⟩, qr⟩ ⟨⟨p, pt⟩, pr⟩
    exact h.keep q p qt pt qr pr
  · intro v0 XC XR h
    refine both (ok_pw (jc_about h.1) (jt_about h.1)) (ok_pw (m_about h.2.1 v0) (ra_about R1.rf)) ?_
    rintro r X r1 X1 ⟨⟨q, qt⟩, qr⟩ ⟨⟨p, pt⟩, pr⟩
    exact h.keep q p qt pt qr pr
