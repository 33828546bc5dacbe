/-! all places in step -/
section ALLS
variable {u : Bool}
variable {X Y X0 Y0 : St} {r G : Nat → Int32} {po W pst pen : Nat → Nat} {PTs : Nat → Nat → Ty} {ks : List (List Int)} {o1 : Int32} {e i j o p c b sb T N k : Nat} {nr : Int → Int} {cd : List Ins} {a : Ins} {bb : Bool}
theorem wgt1 (h0 : ¬ a.1 = 0) (h5 : ¬ a.1 = 5) : wgt bb a = 1 := by
  unfold wgt
  rw [if_neg h0, if_neg (fun q => h5 q.1)]
theorem owt_succ : ∀ (d : List Ins) (b : Bool) (k : Nat) (a : Ins), d[k]? = some a → ∃ b1, owt b (d.take (k + 1)) = owt b (d.take k) + wgt b1 a
  | [], _, _, _, h => absurd h.symm (by rw [List.getElem?_nil]; exact Option.some_ne_none _)
  | x :: d, b, 0, a, h => by
    have e : x = a := Option.some.inj h
    subst e
    exact ⟨b, by show wgt b x + owt (decide (x.1 = 34)) (d.take 0) = owt b [] + wgt b x; rw [List.take_zero]; exact Nat.add_comm _ _⟩
  | x :: d, b, k + 1, a, h => by
    obtain ⟨b1, q⟩ := owt_succ d (decide (x.1 = 34)) k a h
    exact ⟨b1, by show wgt b x + owt (decide (x.1 = 34)) (d.take (k + 1)) = wgt b x + owt (decide (x.1 = 34)) (d.take k) + wgt b1 a; rw [q, Nat.add_assoc]⟩
set_option maxHeartbeats 2000000 in
theorem run_all (hS : STAT u e ks X0 Y0 po W nr cd pst pen) : ∀ N, IHN u e ks X0 Y0 po PTs (SY cd pst pen) W N := by
  intro N
  induction N using Nat.strongRecOn with
  | ind N ih =>
  intro X Y r G p j o c b sb T i o1 ho h
  cases N with
  | zero => exact ENDS.zero
  | succ N =>
  have ihN := ih N (Nat.lt_succ_self _)
  obtain ⟨a, bb, S, a1, a2, a3, a4, ⟨a5, a6, a7, a8⟩, a9, a10, a11⟩ := h.get hS
  obtain ⟨n, hA⟩ := a2
  have tb := h.2.2.2.2.2.2.2.1
  have hst := tb.1.1
  have eqp : ∀ q n, 11 ≤ q → q < 60 → iv X0 q n = a.2.2.1 → X.1 q n = Y.1 (e + 21) j := fun q n q1 q2 hq => Int32.toInt_inj.mp (by rw [hst q n q1 q2, a6]; exact hq)
  have eqx : ∀ q n, 11 ≤ q → q < 60 → ¬ a.1 = 4 → ¬ a.1 = 34 → iv X0 q n = a.2.1 → X.1 q n = Y.1 (e + 19) j := fun q n q1 q2 q3 q4 hq => by rw [a8 q3 q4, hst q n q1 q2, ← hq]; exact (Int32.ofInt_toInt _).symm
  have hcl := hS.1.2.2
  have h24 := (h.2.1.1.2 p h.1.2.1.1).2.1.2.2
  have hs1 : ¬ a.1 = 0 → ¬ a.1 = 5 → o + 1 < po (p + 1) → SY cd pst pen p (j + 1) (o + 1) := fun q1 q2 q => a3 _ (by rw [wgt1 q1 q2]) q
  have klt : ∀ {m : Nat} {a1 : Ins}, cd[m]? = some a1 → m < cd.length := fun q => (List.getElem?_eq_some_iff.mp q).1
  rcases hA with ⟨g, hA⟩ | ⟨g, hA⟩ | ⟨g, hA⟩ | ⟨g, hA⟩ | ⟨g, hA⟩ | ⟨g, hA⟩ | ⟨g, hA⟩ | ⟨g, hA⟩ | ⟨g, hA⟩ | ⟨g, hA⟩ | ⟨g, hA⟩ | ⟨g, hA⟩ | ⟨g, hA⟩ | ⟨g, hA⟩ | ⟨g, hA⟩ | ⟨g, hA⟩ | ⟨g, hA⟩ | ⟨g, hA⟩ | ⟨g, hA⟩ | ⟨g, hA⟩ | ⟨g, hA⟩ | ⟨g, hA⟩ | ⟨g, hA⟩ | ⟨g, hA⟩ | ⟨g, hA⟩ | ⟨g, hA⟩ | ⟨g, hA⟩ | ⟨g, hA⟩ | ⟨g, hA⟩ | ⟨g, hA⟩ | ⟨g, hA⟩
  · -- STEP
    have w0 : wgt bb a = a.2.1.toNat := by
      unfold wgt
      rw [if_pos g]
    rw [w0] at a3 a11
    have ex : (Y.1 (e + 19) j).toInt = (a.2.1.toNat : Int) := by
      rw [a8 (by omega) (by omega), ofI_to (by have := hA.1; omega)]
      have := hA.1
      omega
    refine h.t0 hS ho (fun N' hN' => ih N' hN') ex (by have := hA.1; omega) a4 rfl (a5.trans g) (fun q => a3 _ rfl q) (fun q hq => ?_)
    obtain ⟨n, h1, h2⟩ := hA.2 q hq
    exact ⟨n, h1.tb tb, eqp 21 n (by decide) (by decide) h2⟩
  · exact h.t1 hS ho ihN a4 rfl rfl (hs1 (by omega) (by omega)) (a5.trans g) (hA.1.tb tb) (eqx 26 n (by decide) (by decide) (by omega) (by omega) hA.2.1)
  · have ex := eqx 26 n (by decide) (by decide) (by omega) (by omega) hA.2.1
    refine h.t2 hS ho ihN a4 rfl rfl (hs1 (by omega) (by omega)) (a5.trans g) (hA.1.tb tb) ex ?_
    rw [← ex, hst 26 n (by decide) (by decide)]
    have e1 : (X0.1 26 n).toInt = a.2.1 := hA.2.1
    rw [e1]
    exact hA.2.2.2
  · exact h.t3 hS ho ihN a4 rfl rfl (hs1 (by omega) (by omega)) (a5.trans g) (hA.1.tb tb) (eqx 26 n (by decide) (by decide) (by omega) (by omega) hA.2.1)
  · refine h.t4 hS ho ihN a4 rfl rfl (hs1 (by omega) (by omega)) (a5.trans g) (hA.1.tb tb) (Int32.toInt_inj.mp ?_)
    rw [hst 26 n (by decide) (by decide), a7 g]
    exact hA.2.1
  · rcases hA with ⟨q, h1, h2⟩ | ⟨q, h1, h2, h3, h4⟩
    · have w5 : wgt bb a = 1 := by
        unfold wgt
        rw [if_neg (by omega), if_neg (fun z => by rw [q] at z; exact Bool.noConfusion z.2)]
      exact h.t5 hS ho ihN a4 rfl rfl (fun z => a3 _ (by rw [w5]) z) (a5.trans g) (h1.tb tb) (eqx 26 n (by decide) (by decide) (by omega) (by omega) h2)
    · have w5 : wgt bb a = 2 := by
        unfold wgt
        rw [if_neg (by omega), if_pos ⟨g, q⟩]
      exact h.t5b hS ho (fun N' hN' => ih N' hN') a4 rfl rfl (fun z => a3 _ (by rw [w5]) z) (a5.trans g) (h1.tb tb) (fun hu => a10 hu g q) (h3.tb tb) (eqx 26 n (by decide) (by decide) (by omega) (by omega) h4)
  · obtain ⟨h1, h2, m, a1', h3, h4⟩ := hA
    have := klt h4
    refine h.t6 (k := m) hS ho ihN a4 rfl rfl (hs1 (by omega) (by omega)) (a5.trans g) (h1.tb tb) ?_ ?_
    · rw [a8 (by omega) (by omega), h3, ofI_to (by omega)]
    · rw [hst 46 n (by decide) (by decide)]
      have e1 : (X0.1 46 n).toInt = _ := h2
      rw [e1, h3]
      rfl
  · obtain ⟨h1, h2, m, a1', h3, h4, h5⟩ := hA
    have hml := klt h4
    have e47 : (X.1 47 n).toInt = ((opl cd m + 1 : Nat) : Int) := by
      rw [hst 47 n (by decide) (by decide)]
      have e1 : (X0.1 47 n).toInt = _ := h2
      rw [e1, h3]
      rfl
    have hK := h1.tb tb
    obtain ⟨b1, hm1⟩ := owt_succ cd false m a1' h4
    have hm2 : opl cd (m + 1) = opl cd m + wgt b1 a1' := hm1
    rw [wgt1 (by omega) (by omega)] at hm2
    clear hm1
    obtain ⟨_, op, n', hoa, _, _, q, g4, g5⟩ := (h.sr (by have := hK.1; omega)).x5 hK.1
    have en : n' = n := by
      have := hoa.2
      have := hK.2
      omega
    subst en
    have eq : q = opl cd m + 1 := by omega
    subst eq
    have r1 : o < opl cd m + 1 := g5.2.1
    have r2 : opl cd m + 1 ≤ po (p + 1) - 1 := g5.1.2.1
    have hsy := h.tgt hS hm2 r1 (by have := h.1.2.1.2; omega)
    obtain ⟨y1, y2, y3⟩ := h.2.2.2.2.2.2.1
    have hjm : j ≤ m := by
      rcases Nat.lt_or_ge m j with q | q
      · have := opl_mono (cd := cd) (show m + 1 ≤ j by omega)
        omega
      · exact q
    have hp0 : (p : Int) < (X0.1 0 18).toInt := by
      rw [← tb.1.2.2]
      exact h.1.2.1.1
    have he := h.2.2.1.1.1
    obtain ⟨⟨s1, s2, s3, s4, s5⟩, _, s6⟩ := hS.2 p hp0
    obtain ⟨a', b', S', c1, c2, c3, ⟨c4, _⟩, _⟩ := s6 m (by omega) (by have := hsy.2.1; omega)
    have ea : a' = a1' := Option.some.inj (c1.symm.trans h4)
    subst ea
    refine h.t7 (k := m) hS ho ihN a4 rfl (a5.trans g) hK ?_ ?_ ?_ e47 hm2
    · rw [a8 (by omega) (by omega), h3, ofI_to (by omega)]
    · rw [tb.2 e 6 (by omega)]
      have := hsy.2.1
      omega
    · rw [tb.2 (e + 18) m (by omega), c4]
      exact h5
  · exact h.t8 hS ho ihN a4 rfl rfl (hs1 (by omega) (by omega)) (a5.trans g) (hA.1.tb tb)
  · exact h.t9 hS ho ihN a4 rfl rfl (hs1 (by omega) (by omega)) (a5.trans g) (hA.tb tb)
  · exact h.t10 hS ho ihN a4 rfl rfl (hs1 (by omega) (by omega)) (a5.trans g) (hA.1.tb tb) (eqp 21 n (by decide) (by decide) hA.2.1) (eqx 27 n (by decide) (by decide) (by omega) (by omega) hA.2.2.1)
  · exact h.t11 hS ho ihN a4 rfl rfl (hs1 (by omega) (by omega)) (a5.trans g) (hA.1.tb tb) (eqp 21 n (by decide) (by decide) hA.2)
  · exact h.t12 hS ho ihN a4 rfl rfl (hs1 (by omega) (by omega)) (a5.trans g) (hA.1.tb tb)
  · exact h.t13 hS ho ihN a4 rfl rfl (hs1 (by omega) (by omega)) (a5.trans g) (hA.1.tb tb) (eqp 21 n (by decide) (by decide) hA.2)
  · exact h.t14 hS ho ihN a4 rfl rfl (hs1 (by omega) (by omega)) (a5.trans g) (hA.1.tb tb) (eqp 22 n (by decide) (by decide) hA.2.1)
  · exact h.t15 hS ho ihN a4 rfl rfl (hs1 (by omega) (by omega)) (a5.trans g) (hA.1.tb tb) (eqp 22 n (by decide) (by decide) hA.2.1)
  · exact h.t16 hS ho ihN a4 rfl rfl (hs1 (by omega) (by omega)) (a5.trans g) (hA.1.tb tb) (eqp 22 n (by decide) (by decide) hA.2.1) (eqx 27 n (by decide) (by decide) (by omega) (by omega) hA.2.2.1)
  · exact h.t17 hS ho ihN a4 (a5.trans g) (hA.tb tb).1
  · exact h.t18 hS ho ihN a4 rfl rfl (hs1 (by omega) (by omega)) (a5.trans g) (hA.1.tb tb)
  · exact h.t19 hS ho ihN a4 rfl rfl (hs1 (by omega) (by omega)) (a5.trans g) (hA.1.tb tb)
  · obtain ⟨h1, h2, h3⟩ := hA
    have e26 : (X.1 26 n).toInt = iv X0 26 n := by rw [hst 26 n (by decide) (by decide)]; rfl
    by_cases q : a.1 ≤ 21
    · rw [if_pos q] at h1
      refine h.t20 hS ho ihN a4 rfl rfl (hs1 (by omega) (by omega)) rfl (h1.tb tb) ?_
      rw [e26, a5]
      unfold opc at h3
      by_cases z : iv X0 26 n = 60
      · left
        refine ⟨?_, z⟩
        rw [z] at h3
        rw [← h3]
        decide
      · right
        refine ⟨?_, z⟩
        rcases (by omega : a.1 = 20 ∨ a.1 = 21) with y | y
        · exfalso
          rw [if_neg z] at h3
          split at h3
          · omega
          · split at h3
            · omega
            · split at h3
              · omega
              · split at h3
                · omega
                · split at h3 <;> omega
        · exact y
    · rw [if_neg q] at h1
      exact h.t22 hS ho ihN a4 rfl rfl (hs1 (by omega) (by omega)) rfl (h1.tb tb) (eqp 22 n (by decide) (by decide) h2) (by rw [a5]; omega) (by rw [e26, a5]; exact h3)
  · cases u with
    | false => exact h.askF hS ho ihN a4 (hs1 (by omega) (by omega)) (by rw [a5]; omega) (hA.1.tb tb) (by decide) (a9 rfl (by omega))
    | true => exact h.askU hS ho ihN a4 (hs1 (by omega) (by omega)) (by rw [a5]; omega) (hA.1.tb tb) (by decide) (by rw [a5]; unfold OPK; omega) (fun q => absurd q (by decide)) (fun q => absurd q (by decide)) (fun _ => eqp 21 n (by decide) (by decide) hA.2)
  · cases u with
    | false => exact h.askF hS ho ihN a4 (hs1 (by omega) (by omega)) (by rw [a5]; omega) (hA.1.tb tb) (by decide) (a9 rfl (by omega))
    | true => exact h.askU hS ho ihN a4 (hs1 (by omega) (by omega)) (by rw [a5]; omega) (hA.1.tb tb) (by decide) (by rw [a5]; unfold OPK; omega) (fun q => absurd q (by decide)) (fun q => absurd q (by decide)) (fun _ => eqp 21 n (by decide) (by decide) hA.2)
  · rcases hA with hA | hA
    · cases u with
      | false => exact h.askF hS ho ihN a4 (hs1 (by omega) (by omega)) (by rw [a5]; omega) (hA.1.tb tb) (by decide) (a9 rfl (by omega))
      | true => exact h.askU hS ho ihN a4 (hs1 (by omega) (by omega)) (by rw [a5]; omega) (hA.1.tb tb) (by decide) (by rw [a5]; unfold OPK; omega) (fun q => absurd q (by decide)) (fun _ => eqp 22 n (by decide) (by decide) hA.2) (fun q => absurd q (by decide))
    · cases u with
      | false => exact h.askF hS ho ihN a4 (hs1 (by omega) (by omega)) (by rw [a5]; omega) (hA.1.tb tb) (by decide) (a9 rfl (by omega))
      | true => exact h.askU hS ho ihN a4 (hs1 (by omega) (by omega)) (by rw [a5]; omega) (hA.1.tb tb) (by decide) (by rw [a5]; unfold OPK; omega) (fun q => absurd q (by decide)) (fun q => absurd q (by decide)) (fun _ => eqp 21 n (by decide) (by decide) hA.2)
  · cases u with
    | false => exact h.askF hS ho ihN a4 (hs1 (by omega) (by omega)) (by rw [a5]; omega) (hA.1.tb tb) (by decide) (a9 rfl (by omega))
    | true => exact h.askU hS ho ihN a4 (hs1 (by omega) (by omega)) (by rw [a5]; omega) (hA.1.tb tb) (by decide) (by rw [a5]; unfold OPK; omega) (fun _ => eqx 27 n (by decide) (by decide) (by omega) (by omega) hA.2.2.1) (fun _ => eqp 22 n (by decide) (by decide) hA.2.1) (fun q => absurd q (by decide))
  · cases u with
    | false => exact h.askF hS ho ihN a4 (hs1 (by omega) (by omega)) (by rw [a5]; omega) (hA.1.tb tb) (by decide) (a9 rfl (by omega))
    | true => exact h.askU hS ho ihN a4 (hs1 (by omega) (by omega)) (by rw [a5]; omega) (hA.1.tb tb) (by decide) (by rw [a5]; unfold OPK; omega) (fun _ => eqx 27 n (by decide) (by decide) (by omega) (by omega) hA.2.2.1) (fun _ => eqp 22 n (by decide) (by decide) hA.2.1) (fun q => absurd q (by decide))
  · cases u with
    | false => exact h.askF hS ho ihN a4 (hs1 (by omega) (by omega)) (by rw [a5]; omega) (hA.1.tb tb) (by decide) (a9 rfl (by omega))
    | true => exact h.askU hS ho ihN a4 (hs1 (by omega) (by omega)) (by rw [a5]; omega) (hA.1.tb tb) (by decide) (by rw [a5]; unfold OPK; omega) (fun q => absurd q (by decide)) (fun q => absurd q (by decide)) (fun q => absurd q (by decide))
  · cases u with
    | false => exact h.askF hS ho ihN a4 (hs1 (by omega) (by omega)) (by rw [a5]; omega) (hA.1.tb tb) (by decide) (a9 rfl (by omega))
    | true => exact h.askU hS ho ihN a4 (hs1 (by omega) (by omega)) (by rw [a5]; omega) (hA.1.tb tb) (by decide) (by rw [a5]; unfold OPK; omega) (fun q => absurd q (by decide)) (fun q => absurd q (by decide)) (fun q => absurd q (by decide))
  · cases u with
    | false => exact h.askF hS ho ihN a4 (hs1 (by omega) (by omega)) (by rw [a5]; omega) (hA.1.tb tb) (by decide) (a9 rfl (by omega))
    | true => exact h.askU hS ho ihN a4 (hs1 (by omega) (by omega)) (by rw [a5]; omega) (hA.1.tb tb) (by decide) (by rw [a5]; unfold OPK; omega) (fun q => absurd q (by decide)) (fun q => absurd q (by decide)) (fun q => absurd q (by decide))
  · cases u with
    | false => exact h.askF hS ho ihN a4 (hs1 (by omega) (by omega)) (by rw [a5]; omega) (hA.1.tb tb) (by decide) (a9 rfl (by omega))
    | true => exact h.askU hS ho ihN a4 (hs1 (by omega) (by omega)) (by rw [a5]; omega) (hA.1.tb tb) (by decide) (by rw [a5]; unfold OPK; omega) (fun q => absurd q (by decide)) (fun q => absurd q (by decide)) (fun q => absurd q (by decide))
  · cases u with
    | false => exact h.askF hS ho ihN a4 (hs1 (by omega) (by omega)) (by rw [a5]; omega) (hA.1.tb tb) (by decide) (a9 rfl (by omega))
    | true => exact h.askU hS ho ihN a4 (hs1 (by omega) (by omega)) (by rw [a5]; omega) (hA.1.tb tb) (by decide) (by rw [a5]; unfold OPK; omega) (fun q => absurd q (by decide)) (fun q => absurd q (by decide)) (fun q => absurd q (by decide))
end ALLS
