/-! the reference's other calls leave the tape as it is -/
def R1 (X Y : St) : Prop := Y.1 1 = X.1 1
theorem R1.rf {X : St} : R1 X X := rfl
theorem R1_w {X0 X : St} {e k : Nat} {v : Int32} (h : R1 X0 X) (hk : ¬ 1 = e) : R1 X0 (_root_.Jvm.Pilot.CBlameCourtLaw_law_r8381_f30dd1.wI X e k v) := by
  unfold R1
  rw [← show X.1 1 = X0.1 1 from h]
  funext i
  exact wI_ne _ _ _ _ _ _ (fun g => hk g.1)
section RTAPE
variable {X0 : St}
theorem ra_in {p0 : Int32} {p1 : Int32} {p2 : Int32} {X : St} (h : R1 X0 X) : pw (f_in p0 p1 p2 X) (fun _ Y => R1 X0 Y) := by
  unfold f_in
  refine pw_ite (fun _ => ?_) (fun _ => ?_)
  · exact pw_ret h
  · refine pw_ite (fun _ => ?_) (fun _ => ?_)
    · exact pw_ret h
    · exact pw_ret h
theorem ra_end {p1 : Int32} {X : St} (h : R1 X0 X) : pw (f_end p1 X) (fun _ Y => R1 X0 Y) := by
  unfold f_end
  refine pw_eq (fun x1 _ => ?_)
  refine pw_bd (ra_in h) (fun x2 X3 dX3 => ?_)
  refine pw_ite (fun _ => ?_) (fun _ => ?_)
  · exact pw_ret dX3
  · refine pw_eq (fun X4 eX4 => ?_)
    have dX4 : R1 X0 X4 := by rw [eX4]; exact R1_w dX3 (by decide)
    exact pw_ret dX4
theorem ra_fault {p1 : Int32} {X : St} (h : R1 X0 X) : pw (f_fault p1 X) (fun _ Y => R1 X0 Y) := by
  unfold f_fault
  refine pw_ite (fun _ => ?_) (fun _ => ?_)
  · refine pw_eq (fun x2 _ => ?_)
    exact pw_ret h
  · refine pw_ite (fun _ => ?_) (fun _ => ?_)
    · refine pw_eq (fun x1 _ => ?_)
      exact pw_ret h
    · exact pw_ret h
theorem ra_tell {p1 : Int32} {p2 : Int32} {X : St} (h : R1 X0 X) : pw (f_tell p1 p2 X) (fun _ Y => R1 X0 Y) := by
  unfold f_tell
  refine pw_eq (fun x1 _ => ?_)
  refine pw_ite (fun _ => ?_) (fun _ => ?_)
  · exact pw_ret h
  · refine pw_eq (fun x2 _ => ?_)
    refine pw_eq (fun x3 _ => ?_)
    refine pw_bd (ra_in h) (fun x4 X5 dX5 => ?_)
    refine pw_ite (fun _ => ?_) (fun _ => ?_)
    · exact pw_ret dX5
    · refine pw_ck (fun _ => ?_)
      refine pw_eq (fun X6 eX6 => ?_)
      have dX6 : R1 X0 X6 := by rw [eX6]; exact R1_w dX5 (by decide)
      refine pw_eq (fun X7 eX7 => ?_)
      have dX7 : R1 X0 X7 := by rw [eX7]; exact R1_w dX6 (by decide)
      exact pw_ret dX7
theorem ra_task {p1 : Int32} {p2 : Int32} {p3 : Int32} {X : St} (h : R1 X0 X) : pw (f_task p1 p2 p3 X) (fun _ Y => R1 X0 Y) := by
  unfold f_task
  refine pw_eq (fun x1 _ => ?_)
  refine pw_ck (fun _ => ?_)
  refine pw_eq (fun X2 eX2 => ?_)
  have dX2 : R1 X0 X2 := by rw [eX2]; exact R1_w h (by decide)
  refine pw_eq (fun x3 _ => ?_)
  refine pw_ck (fun _ => ?_)
  refine pw_eq (fun X4 eX4 => ?_)
  have dX4 : R1 X0 X4 := by rw [eX4]; exact R1_w dX2 (by decide)
  refine pw_eq (fun x5 _ => ?_)
  refine pw_ck (fun _ => ?_)
  refine pw_eq (fun X6 eX6 => ?_)
  have dX6 : R1 X0 X6 := by rw [eX6]; exact R1_w dX4 (by decide)
  refine pw_eq (fun x7 _ => ?_)
  refine pw_eq (fun x8 _ => ?_)
  refine pw_eq (fun X9 eX9 => ?_)
  have dX9 : R1 X0 X9 := by rw [eX9]; exact R1_w dX6 (by decide)
  exact pw_ret dX9
theorem ra_order {p1 : Int32} {p2 : Int32} {p3 : Int32} {X : St} (h : R1 X0 X) : pw (f_order p1 p2 p3 X) (fun _ Y => R1 X0 Y) := by
  unfold f_order
  refine pw_eq (fun x1 _ => ?_)
  refine pw_ck (fun _ => ?_)
  refine pw_eq (fun X2 eX2 => ?_)
  have dX2 : R1 X0 X2 := by rw [eX2]; exact R1_w h (by decide)
  refine pw_eq (fun x3 _ => ?_)
  refine pw_ck (fun _ => ?_)
  refine pw_eq (fun X4 eX4 => ?_)
  have dX4 : R1 X0 X4 := by rw [eX4]; exact R1_w dX2 (by decide)
  refine pw_eq (fun x5 _ => ?_)
  refine pw_ck (fun _ => ?_)
  refine pw_eq (fun X6 eX6 => ?_)
  have dX6 : R1 X0 X6 := by rw [eX6]; exact R1_w dX4 (by decide)
  refine pw_eq (fun x7 _ => ?_)
  refine pw_ck (fun _ => ?_)
  refine pw_eq (fun X8 eX8 => ?_)
  have dX8 : R1 X0 X8 := by rw [eX8]; exact R1_w dX6 (by decide)
  refine pw_eq (fun x9 _ => ?_)
  refine pw_eq (fun x10 _ => ?_)
  refine pw_eq (fun X11 eX11 => ?_)
  have dX11 : R1 X0 X11 := by rw [eX11]; exact R1_w dX8 (by decide)
  exact pw_ret dX11
theorem ra_tells_195 {a1 : Int32} {X : St} (h : R1 X0 X) : pw (f_tells_195 a1 X) (fun _ Y => R1 X0 Y) := by
  unfold f_tells_195
  refine pw_bd (ra_task h) (fun _ X24 dX24 => ?_)
  refine pw_ck (fun _ => ?_)
  refine pw_eq (fun x25 _ => ?_)
  refine pw_bd (ra_task dX24) (fun _ X26 dX26 => ?_)
  exact pw_ret dX26
theorem ra_taskOfCall_7 (N : Nat) : ∀ (a1 : Int32) (a2 : Int32) (X : St), R1 X0 X → pw (f_taskOfCall_7 N a1 a2 X) (fun _ Y => R1 X0 Y) := by
  unfold f_taskOfCall_7
  refine lp_ind (P := fun (r : Int32 → Int32 → St → Option (Int32 × St)) => ∀ (a1 : Int32) (a2 : Int32) (X : St), R1 X0 X → pw (r a1 a2 X) (fun _ Y => R1 X0 Y)) (fun _ _ _ _ => pw_none) (fun r ih a1 a2 X h => ?_) N
  unfold f_taskOfCall_7_s
  refine pw_ite (fun _ => ?_) (fun _ => ?_)
  · refine pw_ck (fun _ => ?_)
    refine pw_eq (fun x2 _ => ?_)
    refine pw_bd (ra_task h) (fun _ X3 dX3 => ?_)
    exact pw_ret dX3
  · refine pw_ck (fun _ => ?_)
    refine pw_eq (fun X4 eX4 => ?_)
    have dX4 : R1 X0 X4 := by rw [eX4]; exact R1_w h (by decide)
    refine pw_ck (fun _ => ?_)
    refine pw_eq (fun x5 _ => ?_)
    exact ih _ _ _ dX4
theorem ra_taskOfCall {p1 : Int32} {X : St} (h : R1 X0 X) : pw (f_taskOfCall p1 X) (fun _ Y => R1 X0 Y) := by
  unfold f_taskOfCall
  refine pw_ck (fun _ => ?_)
  refine pw_eq (fun x1 _ => ?_)
  exact ra_taskOfCall_7 _ _ _ _ h
theorem ra_tellsMore_173 {a1 : Int32} {b0 : Int32} {X : St} (h : R1 X0 X) : pw (f_tellsMore_173 a1 b0 X) (fun _ Y => R1 X0 Y) := by
  unfold f_tellsMore_173
  refine pw_bd (ra_task h) (fun _ X18 dX18 => ?_)
  refine pw_ck (fun _ => ?_)
  refine pw_eq (fun x19 _ => ?_)
  refine pw_bd (ra_task dX18) (fun _ X20 dX20 => ?_)
  refine pw_ck (fun _ => ?_)
  refine pw_eq (fun x21 _ => ?_)
  refine pw_bd (ra_task dX20) (fun _ X22 dX22 => ?_)
  exact pw_ret dX22
theorem ra_tellsMore_372 {a1 : Int32} {X : St} (h : R1 X0 X) : pw (f_tellsMore_372 a1 X) (fun _ Y => R1 X0 Y) := by
  unfold f_tellsMore_372
  refine pw_ck (fun _ => ?_)
  refine pw_eq (fun x27 _ => ?_)
  refine pw_bd (ra_task h) (fun _ X28 dX28 => ?_)
  refine pw_ck (fun _ => ?_)
  refine pw_eq (fun x29 _ => ?_)
  refine pw_bd (ra_task dX28) (fun _ X30 dX30 => ?_)
  refine pw_bd (ra_task dX30) (fun _ X31 dX31 => ?_)
  refine pw_ck (fun _ => ?_)
  refine pw_eq (fun x32 _ => ?_)
  refine pw_bd (ra_task dX31) (fun _ X33 dX33 => ?_)
  exact pw_ret dX33
theorem ra_tellsMore_337 {a1 : Int32} {b0 : Int32} {X : St} (h : R1 X0 X) : pw (f_tellsMore_337 a1 b0 X) (fun _ Y => R1 X0 Y) := by
  unfold f_tellsMore_337
  refine pw_bd (ra_task h) (fun _ X25 dX25 => ?_)
  refine pw_ck (fun _ => ?_)
  refine pw_eq (fun x26 _ => ?_)
  refine pw_ite (fun _ => ?_) (fun _ => ?_)
  · exact ra_tellsMore_372 dX25
  · refine pw_bd (ra_task dX25) (fun _ X34 dX34 => ?_)
    refine pw_ck (fun _ => ?_)
    refine pw_eq (fun x35 _ => ?_)
    refine pw_bd (ra_task dX34) (fun _ X36 dX36 => ?_)
    exact ra_tellsMore_372 dX36
theorem ra_tellsMore_262 {a1 : Int32} {b0 : Int32} {X : St} (h : R1 X0 X) : pw (f_tellsMore_262 a1 b0 X) (fun _ Y => R1 X0 Y) := by
  unfold f_tellsMore_262
  refine pw_bd (ra_task h) (fun _ X47 dX47 => ?_)
  refine pw_ck (fun _ => ?_)
  refine pw_eq (fun x48 _ => ?_)
  refine pw_bd (ra_task dX47) (fun _ X49 dX49 => ?_)
  refine pw_ck (fun _ => ?_)
  refine pw_eq (fun x50 _ => ?_)
  refine pw_bd (ra_task dX49) (fun _ X51 dX51 => ?_)
  refine pw_ck (fun _ => ?_)
  refine pw_eq (fun x52 _ => ?_)
  refine pw_bd (ra_task dX51) (fun _ X53 dX53 => ?_)
  refine pw_ck (fun _ => ?_)
  refine pw_eq (fun x54 _ => ?_)
  refine pw_bd (ra_task dX53) (fun _ X55 dX55 => ?_)
  exact pw_ret dX55
theorem ra_tellsMore {p1 : Int32} {X : St} (h : R1 X0 X) : pw (f_tellsMore p1 X) (fun _ Y => R1 X0 Y) := by
  unfold f_tellsMore
  refine pw_ck (fun _ => ?_)
  refine pw_eq (fun x1 _ => ?_)
  refine pw_ite (fun _ => ?_) (fun _ => ?_)
  · refine pw_bd (ra_task h) (fun _ X3 dX3 => ?_)
    refine pw_ck (fun _ => ?_)
    refine pw_eq (fun x4 _ => ?_)
    refine pw_bd (ra_task dX3) (fun _ X5 dX5 => ?_)
    refine pw_ck (fun _ => ?_)
    refine pw_eq (fun x6 _ => ?_)
    refine pw_bd (ra_task dX5) (fun _ X7 dX7 => ?_)
    refine pw_ck (fun _ => ?_)
    refine pw_eq (fun x8 _ => ?_)
    refine pw_bd (ra_task dX7) (fun _ X9 dX9 => ?_)
    exact pw_ret dX9
  · refine pw_ite (fun _ => ?_) (fun _ => ?_)
    · refine pw_bd (ra_task h) (fun _ X11 dX11 => ?_)
      refine pw_ck (fun _ => ?_)
      refine pw_eq (fun x12 _ => ?_)
      refine pw_bd (ra_task dX11) (fun _ X13 dX13 => ?_)
      refine pw_ck (fun _ => ?_)
      refine pw_eq (fun x14 _ => ?_)
      refine pw_bd (ra_task dX13) (fun _ X15 dX15 => ?_)
      exact pw_ret dX15
    · refine pw_ite (fun _ => ?_) (fun _ => ?_)
      · refine pw_ck (fun _ => ?_)
        refine pw_eq (fun x17 _ => ?_)
        refine pw_ite (fun _ => ?_) (fun _ => ?_)
        · exact ra_tellsMore_173 h
        · exact ra_tellsMore_173 h
      · refine pw_ite (fun _ => ?_) (fun _ => ?_)
        · refine pw_ck (fun _ => ?_)
          refine pw_eq (fun x24 _ => ?_)
          refine pw_ite (fun _ => ?_) (fun _ => ?_)
          · exact ra_tellsMore_337 h
          · exact ra_tellsMore_337 h
        · refine pw_ite (fun _ => ?_) (fun _ => ?_)
          · refine pw_ck (fun _ => ?_)
            refine pw_eq (fun x38 _ => ?_)
            refine pw_ite (fun _ => ?_) (fun _ => ?_)
            · exact ra_tellsMore_173 h
            · exact ra_tellsMore_173 h
          · refine pw_ite (fun _ => ?_) (fun _ => ?_)
            · refine pw_bd (ra_task h) (fun _ X40 dX40 => ?_)
              refine pw_ck (fun _ => ?_)
              refine pw_eq (fun x41 _ => ?_)
              refine pw_bd (ra_task dX40) (fun _ X42 dX42 => ?_)
              refine pw_ck (fun _ => ?_)
              refine pw_eq (fun x43 _ => ?_)
              refine pw_bd (ra_task dX42) (fun _ X44 dX44 => ?_)
              exact pw_ret dX44
            · refine pw_ite (fun _ => ?_) (fun _ => ?_)
              · refine pw_ck (fun _ => ?_)
                refine pw_eq (fun x46 _ => ?_)
                refine pw_ite (fun _ => ?_) (fun _ => ?_)
                · exact ra_tellsMore_262 h
                · exact ra_tellsMore_262 h
              · refine pw_ite (fun _ => ?_) (fun _ => ?_)
                · refine pw_ck (fun _ => ?_)
                  refine pw_eq (fun x57 _ => ?_)
                  refine pw_ite (fun _ => ?_) (fun _ => ?_)
                  · exact ra_tellsMore_262 h
                  · exact ra_tellsMore_262 h
                · refine pw_ite (fun _ => ?_) (fun _ => ?_)
                  · refine pw_bd (ra_task h) (fun _ X59 dX59 => ?_)
                    refine pw_ck (fun _ => ?_)
                    refine pw_eq (fun x60 _ => ?_)
                    refine pw_bd (ra_task dX59) (fun _ X61 dX61 => ?_)
                    refine pw_ck (fun _ => ?_)
                    refine pw_eq (fun x62 _ => ?_)
                    refine pw_bd (ra_task dX61) (fun _ X63 dX63 => ?_)
                    refine pw_bd (ra_task dX63) (fun _ X64 dX64 => ?_)
                    refine pw_ck (fun _ => ?_)
                    refine pw_eq (fun x65 _ => ?_)
                    refine pw_bd (ra_task dX64) (fun _ X66 dX66 => ?_)
                    refine pw_ck (fun _ => ?_)
                    refine pw_eq (fun x67 _ => ?_)
                    refine pw_bd (ra_task dX66) (fun _ X68 dX68 => ?_)
                    refine pw_bd (ra_task dX68) (fun _ X69 dX69 => ?_)
                    refine pw_ck (fun _ => ?_)
                    refine pw_eq (fun x70 _ => ?_)
                    refine pw_bd (ra_task dX69) (fun _ X71 dX71 => ?_)
                    refine pw_ck (fun _ => ?_)
                    refine pw_eq (fun x72 _ => ?_)
                    refine pw_bd (ra_task dX71) (fun _ X73 dX73 => ?_)
                    exact pw_ret dX73
                  · refine pw_ck (fun _ => ?_)
                    refine pw_eq (fun x74 _ => ?_)
                    refine pw_bd (ra_task h) (fun _ X75 dX75 => ?_)
                    refine pw_bd (ra_task dX75) (fun _ X76 dX76 => ?_)
                    refine pw_bd (ra_task dX76) (fun _ X77 dX77 => ?_)
                    refine pw_ck (fun _ => ?_)
                    refine pw_eq (fun x78 _ => ?_)
                    refine pw_bd (ra_task dX77) (fun _ X79 dX79 => ?_)
                    exact pw_ret dX79
theorem ra_tells {p1 : Int32} {X : St} (h : R1 X0 X) : pw (f_tells p1 X) (fun _ Y => R1 X0 Y) := by
  unfold f_tells
  refine pw_ck (fun _ => ?_)
  refine pw_eq (fun x1 _ => ?_)
  refine pw_ite (fun _ => ?_) (fun _ => ?_)
  · refine pw_bd (ra_task h) (fun _ X3 dX3 => ?_)
    exact pw_ret dX3
  · refine pw_ite (fun _ => ?_) (fun _ => ?_)
    · refine pw_bd (ra_task h) (fun _ X5 dX5 => ?_)
      exact pw_ret dX5
    · refine pw_ite (fun _ => ?_) (fun _ => ?_)
      · refine pw_bd (ra_task h) (fun _ X7 dX7 => ?_)
        exact pw_ret dX7
      · refine pw_ite (fun _ => ?_) (fun _ => ?_)
        · refine pw_bd (ra_task h) (fun _ X9 dX9 => ?_)
          exact pw_ret dX9
        · refine pw_ite (fun _ => ?_) (fun _ => ?_)
          · refine pw_bd (ra_task h) (fun _ X11 dX11 => ?_)
            refine pw_ck (fun _ => ?_)
            refine pw_eq (fun x12 _ => ?_)
            refine pw_ite (fun _ => ?_) (fun _ => ?_)
            · exact pw_ret dX11
            · refine pw_ck (fun _ => ?_)
              refine pw_eq (fun x13 _ => ?_)
              refine pw_bd (ra_task dX11) (fun _ X14 dX14 => ?_)
              exact pw_ret dX14
          · refine pw_ite (fun _ => ?_) (fun _ => ?_)
            · refine pw_ck (fun _ => ?_)
              refine pw_eq (fun x16 _ => ?_)
              refine pw_bd (ra_task h) (fun _ X17 dX17 => ?_)
              exact pw_ret dX17
            · refine pw_ite (fun _ => ?_) (fun _ => ?_)
              · refine pw_ck (fun _ => ?_)
                refine pw_eq (fun x19 _ => ?_)
                refine pw_bd (ra_task h) (fun _ X20 dX20 => ?_)
                exact pw_ret dX20
              · refine pw_ite (fun _ => ?_) (fun _ => ?_)
                · refine pw_bd (ra_task h) (fun _ X22 dX22 => ?_)
                  refine pw_ck (fun _ => ?_)
                  refine pw_eq (fun x23 _ => ?_)
                  refine pw_ite (fun _ => ?_) (fun _ => ?_)
                  · exact ra_tells_195 dX22
                  · refine pw_bd (ra_taskOfCall dX22) (fun _ X27 dX27 => ?_)
                    exact ra_tells_195 dX27
                · refine pw_bd (ra_tellsMore h) (fun _ X28 dX28 => ?_)
                  exact pw_ret dX28
theorem ra_goesOn_122 {a2 : Int32} {X : St} (h : R1 X0 X) : pw (f_goesOn_122 a2 X) (fun _ Y => R1 X0 Y) := by
  unfold f_goesOn_122
  refine pw_bd (ra_task h) (fun _ X18 dX18 => ?_)
  exact pw_ret dX18
theorem ra_goesOn_110 {a2 : Int32} {a3 : Int32} {X : St} (h : R1 X0 X) : pw (f_goesOn_110 a2 a3 X) (fun _ Y => R1 X0 Y) := by
  unfold f_goesOn_110
  refine pw_ite (fun _ => ?_) (fun _ => ?_)
  · refine pw_bd (ra_task h) (fun _ X19 dX19 => ?_)
    exact ra_goesOn_122 dX19
  · exact ra_goesOn_122 h
theorem ra_goesOn_158 {a2 : Int32} {a3 : Int32} {X : St} (h : R1 X0 X) : pw (f_goesOn_158 a2 a3 X) (fun _ Y => R1 X0 Y) := by
  unfold f_goesOn_158
  refine pw_bd (ra_task h) (fun _ X25 dX25 => ?_)
  refine pw_bd (ra_task dX25) (fun _ X26 dX26 => ?_)
  exact pw_ret dX26
theorem ra_goesOn {p1 : Int32} {p2 : Int32} {p3 : Int32} {X : St} (h : R1 X0 X) : pw (f_goesOn p1 p2 p3 X) (fun _ Y => R1 X0 Y) := by
  unfold f_goesOn
  refine pw_ite (fun _ => ?_) (fun _ => ?_)
  · refine pw_eq (fun x2 _ => ?_)
    refine pw_ck (fun _ => ?_)
    refine pw_eq (fun X3 eX3 => ?_)
    have dX3 : R1 X0 X3 := by rw [eX3]; exact R1_w h (by decide)
    refine pw_bd (ra_order dX3) (fun _ X4 dX4 => ?_)
    exact pw_ret dX4
  · refine pw_ite (fun _ => ?_) (fun _ => ?_)
    · refine pw_bd (ra_order h) (fun _ X6 dX6 => ?_)
      refine pw_eq (fun x7 _ => ?_)
      refine pw_ck (fun _ => ?_)
      refine pw_eq (fun X8 eX8 => ?_)
      have dX8 : R1 X0 X8 := by rw [eX8]; exact R1_w dX6 (by decide)
      exact pw_ret dX8
    · refine pw_ite (fun _ => ?_) (fun _ => ?_)
      · refine pw_bd (ra_order h) (fun _ X10 dX10 => ?_)
        refine pw_eq (fun x11 _ => ?_)
        refine pw_ck (fun _ => ?_)
        refine pw_eq (fun X12 eX12 => ?_)
        have dX12 : R1 X0 X12 := by rw [eX12]; exact R1_w dX10 (by decide)
        exact pw_ret dX12
      · refine pw_ite (fun _ => ?_) (fun _ => ?_)
        · refine pw_bd (ra_order h) (fun _ X14 dX14 => ?_)
          refine pw_bd (ra_tells dX14) (fun _ X15 dX15 => ?_)
          exact pw_ret dX15
        · refine pw_ite (fun _ => ?_) (fun _ => ?_)
          · refine pw_ck (fun _ => ?_)
            refine pw_eq (fun x17 _ => ?_)
            refine pw_ite (fun _ => ?_) (fun _ => ?_)
            · exact ra_goesOn_110 h
            · refine pw_ck (fun _ => ?_)
              refine pw_eq (fun x20 _ => ?_)
              refine pw_bd (ra_task h) (fun _ X21 dX21 => ?_)
              refine pw_ite (fun _ => ?_) (fun _ => ?_)
              · refine pw_bd (ra_task dX21) (fun _ X22 dX22 => ?_)
                exact ra_goesOn_110 dX22
              · exact ra_goesOn_110 dX21
          · refine pw_ite (fun _ => ?_) (fun _ => ?_)
            · refine pw_ck (fun _ => ?_)
              refine pw_eq (fun x24 _ => ?_)
              refine pw_ite (fun _ => ?_) (fun _ => ?_)
              · exact ra_goesOn_158 h
              · refine pw_ck (fun _ => ?_)
                refine pw_eq (fun x27 _ => ?_)
                refine pw_eq (fun x28 _ => ?_)
                refine pw_bd (ra_task h) (fun _ X29 dX29 => ?_)
                exact ra_goesOn_158 dX29
            · refine pw_bd (ra_order h) (fun _ X30 dX30 => ?_)
              exact pw_ret dX30
theorem ra_compiles_59 {r7 : Int32 → St → Option (Int32 × St)} (hr7 : ∀ (q0 : Int32) (X : St), R1 X0 X → pw (r7 q0 X) (fun _ Y => R1 X0 Y)) (N : Nat) : ∀ (a1 : Int32) (X : St), R1 X0 X → pw (f_compiles_59 r7 N a1 X) (fun _ Y => R1 X0 Y) := by
  unfold f_compiles_59
  refine lp_ind (P := fun (r : Int32 → St → Option (Int32 × St)) => ∀ (a1 : Int32) (X : St), R1 X0 X → pw (r a1 X) (fun _ Y => R1 X0 Y)) (fun _ _ _ => pw_none) (fun r ih a1 X h => ?_) N
  unfold f_compiles_59_s
  refine pw_eq (fun x10 _ => ?_)
  refine pw_ite (fun _ => ?_) (fun _ => ?_)
  · refine pw_eq (fun x11 _ => ?_)
    exact hr7 _ _ h
  · refine pw_eq (fun x12 _ => ?_)
    refine pw_eq (fun x13 _ => ?_)
    refine pw_eq (fun X14 eX14 => ?_)
    have dX14 : R1 X0 X14 := by rw [eX14]; exact R1_w h (by decide)
    refine pw_eq (fun x15 _ => ?_)
    refine pw_ck (fun _ => ?_)
    refine pw_eq (fun x16 _ => ?_)
    refine pw_eq (fun x17 _ => ?_)
    refine pw_ck (fun _ => ?_)
    refine pw_eq (fun x18 _ => ?_)
    refine pw_eq (fun x19 _ => ?_)
    refine pw_ck (fun _ => ?_)
    refine pw_eq (fun x20 _ => ?_)
    refine pw_bd (ra_goesOn dX14) (fun _ X21 dX21 => ?_)
    exact ih _ _ dX21
theorem ra_compiles_7 (N : Nat) : ∀ (a1 : Int32) (X : St), R1 X0 X → pw (f_compiles_7 N a1 X) (fun _ Y => R1 X0 Y) := by
  unfold f_compiles_7
  refine lp_ind (P := fun (r : Int32 → St → Option (Int32 × St)) => ∀ (a1 : Int32) (X : St), R1 X0 X → pw (r a1 X) (fun _ Y => R1 X0 Y)) (fun _ _ _ => pw_none) (fun r ih a1 X h => ?_) N
  unfold f_compiles_7_s
  refine pw_eq (fun x2 _ => ?_)
  refine pw_ite (fun _ => ?_) (fun _ => ?_)
  · exact pw_ret h
  · refine pw_eq (fun x3 _ => ?_)
    refine pw_ck (fun _ => ?_)
    refine pw_eq (fun X4 eX4 => ?_)
    have dX4 : R1 X0 X4 := by rw [eX4]; exact R1_w h (by decide)
    refine pw_eq (fun X5 eX5 => ?_)
    have dX5 : R1 X0 X5 := by rw [eX5]; exact R1_w dX4 (by decide)
    refine pw_bd (ra_task dX5) (fun _ X6 dX6 => ?_)
    refine pw_bd (ra_task dX6) (fun _ X7 dX7 => ?_)
    refine pw_ck (fun _ => ?_)
    refine pw_eq (fun x8 _ => ?_)
    refine pw_bd (ra_task dX7) (fun _ X9 dX9 => ?_)
    exact ra_compiles_59 ih _ _ _ dX9
theorem ra_compiles {X : St} (h : R1 X0 X) : pw (f_compiles X) (fun _ Y => R1 X0 Y) := by
  unfold f_compiles
  refine pw_eq (fun X1 eX1 => ?_)
  have dX1 : R1 X0 X1 := by rw [eX1]; exact R1_w h (by decide)
  exact ra_compiles_7 _ _ _ dX1
theorem ra_isWell {X : St} (h : R1 X0 X) : pw (f_isWell X) (fun _ Y => R1 X0 Y) := by
  unfold f_isWell
  refine pw_eq (fun x1 _ => ?_)
  refine pw_ite (fun _ => ?_) (fun _ => ?_)
  · exact pw_ret h
  · exact pw_ret h
theorem ra_judges_210 {X : St} (h : R1 X0 X) : pw (f_judges_210 X) (fun _ Y => R1 X0 Y) := by
  unfold f_judges_210
  refine pw_bd (ra_isWell h) (fun x10 X11 dX11 => ?_)
  refine pw_ck (fun _ => ?_)
  refine pw_eq (fun X12 eX12 => ?_)
  have dX12 : R1 X0 X12 := by rw [eX12]; exact R1_w dX11 (by decide)
  exact pw_ret dX12
theorem ra_ownKindOf {p1 : Int32} {X : St} (h : R1 X0 X) : pw (f_ownKindOf p1 X) (fun _ Y => R1 X0 Y) := by
  unfold f_ownKindOf
  refine pw_ck (fun _ => ?_)
  refine pw_eq (fun x1 _ => ?_)
  refine pw_ite (fun _ => ?_) (fun _ => ?_)
  · exact pw_ret h
  · refine pw_ck (fun _ => ?_)
    refine pw_eq (fun x2 _ => ?_)
    exact pw_ret h
theorem ra_judges_204 {r37 : Int32 → St → Option (Int32 × St)} (hr37 : ∀ (q0 : Int32) (X : St), R1 X0 X → pw (r37 q0 X) (fun _ Y => R1 X0 Y)) {a1 : Int32} {X : St} (h : R1 X0 X) : pw (f_judges_204 r37 a1 X) (fun _ Y => R1 X0 Y) := by
  unfold f_judges_204
  refine pw_eq (fun x27 _ => ?_)
  exact hr37 _ _ h
theorem ra_push_54 {b0 : Int32} {b1 : Int32} {X : St} (h : R1 X0 X) : pw (f_push_54 b0 b1 X) (fun _ Y => R1 X0 Y) := by
  unfold f_push_54
  refine pw_ck (fun _ => ?_)
  refine pw_eq (fun X9 eX9 => ?_)
  have dX9 : R1 X0 X9 := by rw [eX9]; exact R1_w h (by decide)
  exact pw_ret dX9
theorem ra_push_49 {b0 : Int32} {X : St} (h : R1 X0 X) : pw (f_push_49 b0 X) (fun _ Y => R1 X0 Y) := by
  unfold f_push_49
  exact ra_push_54 h
theorem ra_push {p1 : Int32} {X : St} (h : R1 X0 X) : pw (f_push p1 X) (fun _ Y => R1 X0 Y) := by
  unfold f_push
  refine pw_eq (fun x1 _ => ?_)
  refine pw_ck (fun _ => ?_)
  refine pw_eq (fun X2 eX2 => ?_)
  have dX2 : R1 X0 X2 := by rw [eX2]; exact R1_w h (by decide)
  refine pw_eq (fun x3 _ => ?_)
  refine pw_eq (fun x4 _ => ?_)
  refine pw_eq (fun X5 eX5 => ?_)
  have dX5 : R1 X0 X5 := by rw [eX5]; exact R1_w dX2 (by decide)
  refine pw_eq (fun x6 _ => ?_)
  refine pw_eq (fun x7 _ => ?_)
  refine pw_ck (fun _ => ?_)
  refine pw_eq (fun x8 _ => ?_)
  refine pw_ite (fun _ => ?_) (fun _ => ?_)
  · refine pw_ck (fun _ => ?_)
    refine pw_eq (fun x10 _ => ?_)
    refine pw_ite (fun _ => ?_) (fun _ => ?_)
    · exact ra_push_54 dX5
    · exact ra_push_49 dX5
  · exact ra_push_49 dX5
theorem ra_kindOf_315 {r212 : Int32 → Int32 → Int32 → Int32 → Int32 → Int32 → St → Option (Int32 × St)} (hr212 : ∀ (q0 : Int32) (q1 : Int32) (q2 : Int32) (q3 : Int32) (q4 : Int32) (q5 : Int32) (X : St), R1 X0 X → pw (r212 q0 q1 q2 q3 q4 q5 X) (fun _ Y => R1 X0 Y)) {a1 : Int32} {a2 : Int32} {a3 : Int32} {a4 : Int32} {a6 : Int32} {b0 : Int32} {X : St} (h : R1 X0 X) : pw (f_kindOf_315 r212 a1 a2 a3 a4 a6 b0 X) (fun _ Y => R1 X0 Y) := by
  unfold f_kindOf_315
  refine pw_eq (fun x21 _ => ?_)
  exact hr212 _ _ _ _ _ _ _ h
theorem ra_kindOf_284 {r212 : Int32 → Int32 → Int32 → Int32 → Int32 → Int32 → St → Option (Int32 × St)} (hr212 : ∀ (q0 : Int32) (q1 : Int32) (q2 : Int32) (q3 : Int32) (q4 : Int32) (q5 : Int32) (X : St), R1 X0 X → pw (r212 q0 q1 q2 q3 q4 q5 X) (fun _ Y => R1 X0 Y)) {a1 : Int32} {a2 : Int32} {a3 : Int32} {a4 : Int32} {a5 : Int32} {a6 : Int32} {b0 : Int32} {b1 : Int32} {X : St} (h : R1 X0 X) : pw (f_kindOf_284 r212 a1 a2 a3 a4 a5 a6 b0 b1 X) (fun _ Y => R1 X0 Y) := by
  unfold f_kindOf_284
  refine pw_ck (fun _ => ?_)
  refine pw_eq (fun X20 eX20 => ?_)
  have dX20 : R1 X0 X20 := by rw [eX20]; exact R1_w h (by decide)
  refine pw_ite (fun _ => ?_) (fun _ => ?_)
  · refine pw_eq (fun x22 _ => ?_)
    refine pw_eq (fun x23 _ => ?_)
    refine pw_ck (fun _ => ?_)
    refine pw_eq (fun x24 _ => ?_)
    refine pw_ck (fun _ => ?_)
    refine pw_eq (fun x25 _ => ?_)
    refine pw_eq (fun x26 _ => ?_)
    exact ra_kindOf_315 hr212 dX20
  · exact ra_kindOf_315 hr212 dX20
theorem ra_kindOf_279 {r212 : Int32 → Int32 → Int32 → Int32 → Int32 → Int32 → St → Option (Int32 × St)} (hr212 : ∀ (q0 : Int32) (q1 : Int32) (q2 : Int32) (q3 : Int32) (q4 : Int32) (q5 : Int32) (X : St), R1 X0 X → pw (r212 q0 q1 q2 q3 q4 q5 X) (fun _ Y => R1 X0 Y)) {a1 : Int32} {a2 : Int32} {a3 : Int32} {a4 : Int32} {a5 : Int32} {a6 : Int32} {b0 : Int32} {X : St} (h : R1 X0 X) : pw (f_kindOf_279 r212 a1 a2 a3 a4 a5 a6 b0 X) (fun _ Y => R1 X0 Y) := by
  unfold f_kindOf_279
  exact ra_kindOf_284 hr212 h
theorem ra_kindOf_212 (N : Nat) : ∀ (a1 : Int32) (a2 : Int32) (a3 : Int32) (a4 : Int32) (a5 : Int32) (a6 : Int32) (X : St), R1 X0 X → pw (f_kindOf_212 N a1 a2 a3 a4 a5 a6 X) (fun _ Y => R1 X0 Y) := by
  unfold f_kindOf_212
  refine lp_ind (P := fun (r : Int32 → Int32 → Int32 → Int32 → Int32 → Int32 → St → Option (Int32 × St)) => ∀ (a1 : Int32) (a2 : Int32) (a3 : Int32) (a4 : Int32) (a5 : Int32) (a6 : Int32) (X : St), R1 X0 X → pw (r a1 a2 a3 a4 a5 a6 X) (fun _ Y => R1 X0 Y)) (fun _ _ _ _ _ _ _ _ => pw_none) (fun r ih a1 a2 a3 a4 a5 a6 X h => ?_) N
  unfold f_kindOf_212_s
  refine pw_ite (fun _ => ?_) (fun _ => ?_)
  · refine pw_ck (fun _ => ?_)
    refine pw_eq (fun X11 eX11 => ?_)
    have dX11 : R1 X0 X11 := by rw [eX11]; exact R1_w h (by decide)
    exact pw_ret dX11
  · refine pw_eq (fun x12 _ => ?_)
    refine pw_eq (fun x13 _ => ?_)
    refine pw_ck (fun _ => ?_)
    refine pw_eq (fun x14 _ => ?_)
    refine pw_ck (fun _ => ?_)
    refine pw_eq (fun X15 eX15 => ?_)
    have dX15 : R1 X0 X15 := by rw [eX15]; exact R1_w h (by decide)
    refine pw_eq (fun x16 _ => ?_)
    refine pw_eq (fun x17 _ => ?_)
    refine pw_eq (fun X18 eX18 => ?_)
    have dX18 : R1 X0 X18 := by rw [eX18]; exact R1_w dX15 (by decide)
    refine pw_ck (fun _ => ?_)
    refine pw_eq (fun x19 _ => ?_)
    refine pw_ite (fun _ => ?_) (fun _ => ?_)
    · refine pw_eq (fun x27 _ => ?_)
      refine pw_ck (fun _ => ?_)
      refine pw_eq (fun x28 _ => ?_)
      refine pw_ck (fun _ => ?_)
      refine pw_eq (fun x29 _ => ?_)
      refine pw_ite (fun _ => ?_) (fun _ => ?_)
      · exact ra_kindOf_284 ih dX18
      · exact ra_kindOf_279 ih dX18
    · exact ra_kindOf_279 ih dX18
theorem ra_kindOf_207 {a1 : Int32} {a2 : Int32} {a3 : Int32} {a4 : Int32} {b0 : Int32} {X : St} (h : R1 X0 X) : pw (f_kindOf_207 a1 a2 a3 a4 b0 X) (fun _ Y => R1 X0 Y) := by
  unfold f_kindOf_207
  exact ra_kindOf_212 _ _ _ _ _ _ _ _ h
theorem ra_kindOf_168 {a1 : Int32} {a2 : Int32} {a3 : Int32} {a4 : Int32} {b0 : Int32} {b1 : Int32} {X : St} (h : R1 X0 X) : pw (f_kindOf_168 a1 a2 a3 a4 b0 b1 X) (fun _ Y => R1 X0 Y) := by
  unfold f_kindOf_168
  refine pw_ck (fun _ => ?_)
  refine pw_eq (fun X10 eX10 => ?_)
  have dX10 : R1 X0 X10 := by rw [eX10]; exact R1_w h (by decide)
  refine pw_ite (fun _ => ?_) (fun _ => ?_)
  · refine pw_ck (fun _ => ?_)
    refine pw_eq (fun x32 _ => ?_)
    refine pw_ck (fun _ => ?_)
    refine pw_eq (fun x33 _ => ?_)
    refine pw_eq (fun x34 _ => ?_)
    refine pw_eq (fun x35 _ => ?_)
    exact ra_kindOf_207 dX10
  · refine pw_ite (fun _ => ?_) (fun _ => ?_)
    · refine pw_eq (fun x30 _ => ?_)
      refine pw_eq (fun x31 _ => ?_)
      exact ra_kindOf_207 dX10
    · exact ra_kindOf_207 dX10
theorem ra_kindOf_95 {r3 : Int32 → Int32 → Int32 → Int32 → St → Option (Int32 × St)} (hr3 : ∀ (q0 : Int32) (q1 : Int32) (q2 : Int32) (q3 : Int32) (X : St), R1 X0 X → pw (r3 q0 q1 q2 q3 X) (fun _ Y => R1 X0 Y)) {a1 : Int32} {a2 : Int32} {a3 : Int32} {a4 : Int32} {a5 : Int32} {X : St} (h : R1 X0 X) : pw (f_kindOf_95 r3 a1 a2 a3 a4 a5 X) (fun _ Y => R1 X0 Y) := by
  unfold f_kindOf_95
  refine pw_ite (fun _ => ?_) (fun _ => ?_)
  · refine pw_eq (fun x37 _ => ?_)
    exact hr3 _ _ _ _ _ h
  · exact pw_ret h
theorem ra_kindOf_87 {r3 : Int32 → Int32 → Int32 → Int32 → St → Option (Int32 × St)} {r44 : Int32 → Int32 → Int32 → Int32 → Int32 → Int32 → St → Option (Int32 × St)} (hr3 : ∀ (q0 : Int32) (q1 : Int32) (q2 : Int32) (q3 : Int32) (X : St), R1 X0 X → pw (r3 q0 q1 q2 q3 X) (fun _ Y => R1 X0 Y)) (hr44 : ∀ (q0 : Int32) (q1 : Int32) (q2 : Int32) (q3 : Int32) (q4 : Int32) (q5 : Int32) (X : St), R1 X0 X → pw (r44 q0 q1 q2 q3 q4 q5 X) (fun _ Y => R1 X0 Y)) {a1 : Int32} {a2 : Int32} {a3 : Int32} {a4 : Int32} {a6 : Int32} {b0 : Int32} {X : St} (h : R1 X0 X) : pw (f_kindOf_87 r3 r44 a1 a2 a3 a4 a6 b0 X) (fun _ Y => R1 X0 Y) := by
  unfold f_kindOf_87
  refine pw_eq (fun x43 _ => ?_)
  exact hr44 _ _ _ _ _ _ _ h
theorem ra_kindOf_44 {r3 : Int32 → Int32 → Int32 → Int32 → St → Option (Int32 × St)} (hr3 : ∀ (q0 : Int32) (q1 : Int32) (q2 : Int32) (q3 : Int32) (X : St), R1 X0 X → pw (r3 q0 q1 q2 q3 X) (fun _ Y => R1 X0 Y)) (N : Nat) : ∀ (a1 : Int32) (a2 : Int32) (a3 : Int32) (a4 : Int32) (a5 : Int32) (a6 : Int32) (X : St), R1 X0 X → pw (f_kindOf_44 r3 N a1 a2 a3 a4 a5 a6 X) (fun _ Y => R1 X0 Y) := by
  unfold f_kindOf_44
  refine lp_ind (P := fun (r : Int32 → Int32 → Int32 → Int32 → Int32 → Int32 → St → Option (Int32 × St)) => ∀ (a1 : Int32) (a2 : Int32) (a3 : Int32) (a4 : Int32) (a5 : Int32) (a6 : Int32) (X : St), R1 X0 X → pw (r a1 a2 a3 a4 a5 a6 X) (fun _ Y => R1 X0 Y)) (fun _ _ _ _ _ _ _ _ => pw_none) (fun r ih a1 a2 a3 a4 a5 a6 X h => ?_) N
  unfold f_kindOf_44_s
  refine pw_ite (fun _ => ?_) (fun _ => ?_)
  · exact ra_kindOf_95 hr3 h
  · refine pw_ite (fun _ => ?_) (fun _ => ?_)
    · exact ra_kindOf_95 hr3 h
    · refine pw_ck (fun _ => ?_)
      refine pw_eq (fun x38 _ => ?_)
      refine pw_eq (fun x39 _ => ?_)
      refine pw_ck (fun _ => ?_)
      refine pw_eq (fun x40 _ => ?_)
      refine pw_eq (fun x41 _ => ?_)
      refine pw_ck (fun _ => ?_)
      refine pw_eq (fun x42 _ => ?_)
      refine pw_ite (fun _ => ?_) (fun _ => ?_)
      · exact ra_kindOf_87 hr3 ih h
      · exact ra_kindOf_87 hr3 ih h
theorem ra_kindOf_39 {r3 : Int32 → Int32 → Int32 → Int32 → St → Option (Int32 × St)} (hr3 : ∀ (q0 : Int32) (q1 : Int32) (q2 : Int32) (q3 : Int32) (X : St), R1 X0 X → pw (r3 q0 q1 q2 q3 X) (fun _ Y => R1 X0 Y)) {a1 : Int32} {a2 : Int32} {a3 : Int32} {a4 : Int32} {b0 : Int32} {X : St} (h : R1 X0 X) : pw (f_kindOf_39 r3 a1 a2 a3 a4 b0 X) (fun _ Y => R1 X0 Y) := by
  unfold f_kindOf_39
  exact ra_kindOf_44 hr3 _ _ _ _ _ _ _ _ h
theorem ra_kindOf_38 {r3 : Int32 → Int32 → Int32 → Int32 → St → Option (Int32 × St)} (hr3 : ∀ (q0 : Int32) (q1 : Int32) (q2 : Int32) (q3 : Int32) (X : St), R1 X0 X → pw (r3 q0 q1 q2 q3 X) (fun _ Y => R1 X0 Y)) {a1 : Int32} {a2 : Int32} {a3 : Int32} {a4 : Int32} {X : St} (h : R1 X0 X) : pw (f_kindOf_38 r3 a1 a2 a3 a4 X) (fun _ Y => R1 X0 Y) := by
  unfold f_kindOf_38
  exact ra_kindOf_39 hr3 h
theorem ra_kindOf_3 (N : Nat) : ∀ (a1 : Int32) (a2 : Int32) (a3 : Int32) (a4 : Int32) (X : St), R1 X0 X → pw (f_kindOf_3 N a1 a2 a3 a4 X) (fun _ Y => R1 X0 Y) := by
  unfold f_kindOf_3
  refine lp_ind (P := fun (r : Int32 → Int32 → Int32 → Int32 → St → Option (Int32 × St)) => ∀ (a1 : Int32) (a2 : Int32) (a3 : Int32) (a4 : Int32) (X : St), R1 X0 X → pw (r a1 a2 a3 a4 X) (fun _ Y => R1 X0 Y)) (fun _ _ _ _ _ _ => pw_none) (fun r ih a1 a2 a3 a4 X h => ?_) N
  unfold f_kindOf_3_s
  refine pw_eq (fun x1 _ => ?_)
  refine pw_ite (fun _ => ?_) (fun _ => ?_)
  · refine pw_eq (fun x2 _ => ?_)
    refine pw_eq (fun x3 _ => ?_)
    refine pw_eq (fun x4 _ => ?_)
    refine pw_eq (fun X5 eX5 => ?_)
    have dX5 : R1 X0 X5 := by rw [eX5]; exact R1_w h (by decide)
    refine pw_ck (fun _ => ?_)
    refine pw_eq (fun X6 eX6 => ?_)
    have dX6 : R1 X0 X6 := by rw [eX6]; exact R1_w dX5 (by decide)
    refine pw_ck (fun _ => ?_)
    refine pw_eq (fun X7 eX7 => ?_)
    have dX7 : R1 X0 X7 := by rw [eX7]; exact R1_w dX6 (by decide)
    refine pw_eq (fun x8 _ => ?_)
    refine pw_ck (fun _ => ?_)
    refine pw_eq (fun X9 eX9 => ?_)
    have dX9 : R1 X0 X9 := by rw [eX9]; exact R1_w dX7 (by decide)
    refine pw_ite (fun _ => ?_) (fun _ => ?_)
    · exact ra_kindOf_168 dX9
    · exact ra_kindOf_168 dX9
  · refine pw_ck (fun _ => ?_)
    refine pw_eq (fun x36 _ => ?_)
    refine pw_ite (fun _ => ?_) (fun _ => ?_)
    · refine pw_ck (fun _ => ?_)
      refine pw_eq (fun x44 _ => ?_)
      refine pw_ite (fun _ => ?_) (fun _ => ?_)
      · exact ra_kindOf_39 ih h
      · exact ra_kindOf_38 ih h
    · exact ra_kindOf_38 ih h
theorem ra_kindOf {p1 : Int32} {p2 : Int32} {p3 : Int32} {X : St} (h : R1 X0 X) : pw (f_kindOf p1 p2 p3 X) (fun _ Y => R1 X0 Y) := by
  unfold f_kindOf
  exact ra_kindOf_3 _ _ _ _ _ _ h
theorem ra_paramKindOf {p1 : Int32} {p2 : Int32} {X : St} (h : R1 X0 X) : pw (f_paramKindOf p1 p2 X) (fun _ Y => R1 X0 Y) := by
  unfold f_paramKindOf
  refine pw_ck (fun _ => ?_)
  refine pw_eq (fun x1 _ => ?_)
  refine pw_ite (fun _ => ?_) (fun _ => ?_)
  · exact pw_ret h
  · refine pw_eq (fun x2 _ => ?_)
    refine pw_eq (fun x3 _ => ?_)
    refine pw_ck (fun _ => ?_)
    refine pw_eq (fun x4 _ => ?_)
    exact pw_ret h
theorem ra_functionOf_2 (N : Nat) : ∀ (a1 : Int32) (a2 : Int32) (X : St), R1 X0 X → pw (f_functionOf_2 N a1 a2 X) (fun _ Y => R1 X0 Y) := by
  unfold f_functionOf_2
  refine lp_ind (P := fun (r : Int32 → Int32 → St → Option (Int32 × St)) => ∀ (a1 : Int32) (a2 : Int32) (X : St), R1 X0 X → pw (r a1 a2 X) (fun _ Y => R1 X0 Y)) (fun _ _ _ _ => pw_none) (fun r ih a1 a2 X h => ?_) N
  unfold f_functionOf_2_s
  refine pw_ck (fun _ => ?_)
  refine pw_eq (fun x1 _ => ?_)
  refine pw_ite (fun _ => ?_) (fun _ => ?_)
  · refine pw_ck (fun _ => ?_)
    refine pw_eq (fun x2 _ => ?_)
    refine pw_eq (fun x3 _ => ?_)
    refine pw_bd (ra_ownKindOf h) (fun x4 X5 dX5 => ?_)
    refine pw_ck (fun _ => ?_)
    refine pw_eq (fun X6 eX6 => ?_)
    have dX6 : R1 X0 X6 := by rw [eX6]; exact R1_w dX5 (by decide)
    refine pw_ck (fun _ => ?_)
    refine pw_eq (fun x7 _ => ?_)
    refine pw_eq (fun x8 _ => ?_)
    refine pw_bd (ra_kindOf dX6) (fun x9 X10 dX10 => ?_)
    exact pw_ret dX10
  · refine pw_eq (fun x11 _ => ?_)
    refine pw_bd (ra_paramKindOf h) (fun x12 X13 dX13 => ?_)
    refine pw_ck (fun _ => ?_)
    refine pw_eq (fun X14 eX14 => ?_)
    have dX14 : R1 X0 X14 := by rw [eX14]; exact R1_w dX13 (by decide)
    refine pw_eq (fun x15 _ => ?_)
    exact ih _ _ _ dX14
theorem ra_functionOf {p1 : Int32} {X : St} (h : R1 X0 X) : pw (f_functionOf p1 X) (fun _ Y => R1 X0 Y) := by
  unfold f_functionOf
  exact ra_functionOf_2 _ _ _ _ h
theorem ra_fits_111 {r16 : Int32 → St → Option (Int32 × St)} (hr16 : ∀ (q0 : Int32) (X : St), R1 X0 X → pw (r16 q0 X) (fun _ Y => R1 X0 Y)) (N : Nat) : ∀ (a3 : Int32) (a4 : Int32) (a5 : Int32) (a6 : Int32) (X : St), R1 X0 X → pw (f_fits_111 r16 N a3 a4 a5 a6 X) (fun _ Y => R1 X0 Y) := by
  unfold f_fits_111
  refine lp_ind (P := fun (r : Int32 → Int32 → Int32 → Int32 → St → Option (Int32 × St)) => ∀ (a3 : Int32) (a4 : Int32) (a5 : Int32) (a6 : Int32) (X : St), R1 X0 X → pw (r a3 a4 a5 a6 X) (fun _ Y => R1 X0 Y)) (fun _ _ _ _ _ _ => pw_none) (fun r ih a3 a4 a5 a6 X h => ?_) N
  unfold f_fits_111_s
  refine pw_ck (fun _ => ?_)
  refine pw_eq (fun x11 _ => ?_)
  refine pw_ite (fun _ => ?_) (fun _ => ?_)
  · exact hr16 _ _ h
  · refine pw_ck (fun _ => ?_)
    refine pw_eq (fun x12 _ => ?_)
    refine pw_eq (fun x13 _ => ?_)
    refine pw_ck (fun _ => ?_)
    refine pw_eq (fun x14 _ => ?_)
    refine pw_ck (fun _ => ?_)
    refine pw_eq (fun X15 eX15 => ?_)
    have dX15 : R1 X0 X15 := by rw [eX15]; exact R1_w h (by decide)
    refine pw_ck (fun _ => ?_)
    refine pw_eq (fun x16 _ => ?_)
    refine pw_eq (fun x17 _ => ?_)
    refine pw_ck (fun _ => ?_)
    refine pw_eq (fun x18 _ => ?_)
    refine pw_ck (fun _ => ?_)
    refine pw_eq (fun X19 eX19 => ?_)
    have dX19 : R1 X0 X19 := by rw [eX19]; exact R1_w dX15 (by decide)
    refine pw_eq (fun x20 _ => ?_)
    refine pw_eq (fun x21 _ => ?_)
    exact ih _ _ _ _ _ dX19
theorem ra_fits_16 (N : Nat) : ∀ (a3 : Int32) (X : St), R1 X0 X → pw (f_fits_16 N a3 X) (fun _ Y => R1 X0 Y) := by
  unfold f_fits_16
  refine lp_ind (P := fun (r : Int32 → St → Option (Int32 × St)) => ∀ (a3 : Int32) (X : St), R1 X0 X → pw (r a3 X) (fun _ Y => R1 X0 Y)) (fun _ _ _ => pw_none) (fun r ih a3 X h => ?_) N
  unfold f_fits_16_s
  refine pw_ite (fun _ => ?_) (fun _ => ?_)
  · exact pw_ret h
  · refine pw_eq (fun x3 _ => ?_)
    refine pw_ck (fun _ => ?_)
    refine pw_eq (fun x4 _ => ?_)
    refine pw_ck (fun _ => ?_)
    refine pw_eq (fun x5 _ => ?_)
    refine pw_ite (fun _ => ?_) (fun _ => ?_)
    · exact ih _ _ h
    · refine pw_ite (fun _ => ?_) (fun _ => ?_)
      · exact ih _ _ h
      · refine pw_ite (fun _ => ?_) (fun _ => ?_)
        · exact ih _ _ h
        · refine pw_ck (fun _ => ?_)
          refine pw_eq (fun x6 _ => ?_)
          refine pw_ck (fun _ => ?_)
          refine pw_eq (fun x7 _ => ?_)
          refine pw_ite (fun _ => ?_) (fun _ => ?_)
          · refine pw_ck (fun _ => ?_)
            refine pw_eq (fun x8 _ => ?_)
            refine pw_ite (fun _ => ?_) (fun _ => ?_)
            · exact pw_ret h
            · refine pw_ck (fun _ => ?_)
              refine pw_eq (fun x9 _ => ?_)
              refine pw_ck (fun _ => ?_)
              refine pw_eq (fun x10 _ => ?_)
              refine pw_ite (fun _ => ?_) (fun _ => ?_)
              · exact ra_fits_111 ih _ _ _ _ _ _ h
              · exact pw_ret h
          · exact pw_ret h
theorem ra_fits {p1 : Int32} {p2 : Int32} {X : St} (h : R1 X0 X) : pw (f_fits p1 p2 X) (fun _ Y => R1 X0 Y) := by
  unfold f_fits
  refine pw_ck (fun _ => ?_)
  refine pw_eq (fun X1 eX1 => ?_)
  have dX1 : R1 X0 X1 := by rw [eX1]; exact R1_w h (by decide)
  refine pw_ck (fun _ => ?_)
  refine pw_eq (fun X2 eX2 => ?_)
  have dX2 : R1 X0 X2 := by rw [eX2]; exact R1_w dX1 (by decide)
  exact ra_fits_16 _ _ _ dX2
theorem ra_fails {p1 : Int32} {p2 : Int32} {X : St} (h : R1 X0 X) : pw (f_fails p1 p2 X) (fun _ Y => R1 X0 Y) := by
  unfold f_fails
  refine pw_eq (fun x1 _ => ?_)
  refine pw_ite (fun _ => ?_) (fun _ => ?_)
  · refine pw_eq (fun X2 eX2 => ?_)
    have dX2 : R1 X0 X2 := by rw [eX2]; exact R1_w h (by decide)
    refine pw_eq (fun X3 eX3 => ?_)
    have dX3 : R1 X0 X3 := by rw [eX3]; exact R1_w dX2 (by decide)
    exact pw_ret dX3
  · exact pw_ret h
theorem ra_guards {p1 : Int32} {p2 : Int32} {p3 : Int32} {p4 : Int32} {p5 : Int32} {X : St} (h : R1 X0 X) : pw (f_guards p1 p2 p3 p4 p5 X) (fun _ Y => R1 X0 Y) := by
  unfold f_guards
  refine pw_ite (fun _ => ?_) (fun _ => ?_)
  · exact pw_ret h
  · refine pw_eq (fun x1 _ => ?_)
    refine pw_ck (fun _ => ?_)
    refine pw_eq (fun X2 eX2 => ?_)
    have dX2 : R1 X0 X2 := by rw [eX2]; exact R1_w h (by decide)
    refine pw_eq (fun x3 _ => ?_)
    refine pw_ck (fun _ => ?_)
    refine pw_eq (fun X4 eX4 => ?_)
    have dX4 : R1 X0 X4 := by rw [eX4]; exact R1_w dX2 (by decide)
    refine pw_eq (fun x5 _ => ?_)
    refine pw_ck (fun _ => ?_)
    refine pw_eq (fun X6 eX6 => ?_)
    have dX6 : R1 X0 X6 := by rw [eX6]; exact R1_w dX4 (by decide)
    refine pw_eq (fun x7 _ => ?_)
    refine pw_eq (fun x8 _ => ?_)
    refine pw_ck (fun _ => ?_)
    refine pw_eq (fun X9 eX9 => ?_)
    have dX9 : R1 X0 X9 := by rw [eX9]; exact R1_w dX6 (by decide)
    refine pw_eq (fun x10 _ => ?_)
    refine pw_ck (fun _ => ?_)
    refine pw_eq (fun X11 eX11 => ?_)
    have dX11 : R1 X0 X11 := by rw [eX11]; exact R1_w dX9 (by decide)
    refine pw_eq (fun x12 _ => ?_)
    refine pw_ck (fun _ => ?_)
    refine pw_eq (fun X13 eX13 => ?_)
    have dX13 : R1 X0 X13 := by rw [eX13]; exact R1_w dX11 (by decide)
    refine pw_eq (fun x14 _ => ?_)
    refine pw_eq (fun x15 _ => ?_)
    refine pw_eq (fun X16 eX16 => ?_)
    have dX16 : R1 X0 X16 := by rw [eX16]; exact R1_w dX13 (by decide)
    exact pw_ret dX16
theorem ra_must {p1 : Int32} {p2 : Int32} {p3 : Int32} {p4 : Int32} {X : St} (h : R1 X0 X) : pw (f_must p1 p2 p3 p4 X) (fun _ Y => R1 X0 Y) := by
  unfold f_must
  refine pw_eq (fun x1 _ => ?_)
  refine pw_eq (fun x2 _ => ?_)
  refine pw_ck (fun _ => ?_)
  refine pw_eq (fun x3 _ => ?_)
  refine pw_bd (ra_fits h) (fun x4 X5 dX5 => ?_)
  refine pw_ite (fun _ => ?_) (fun _ => ?_)
  · refine pw_bd (ra_fails dX5) (fun _ X10 dX10 => ?_)
    exact pw_ret dX10
  · refine pw_bd (ra_guards dX5) (fun _ X6 dX6 => ?_)
    refine pw_eq (fun x7 _ => ?_)
    refine pw_eq (fun x8 _ => ?_)
    refine pw_ck (fun _ => ?_)
    refine pw_eq (fun X9 eX9 => ?_)
    have dX9 : R1 X0 X9 := by rw [eX9]; exact R1_w dX6 (by decide)
    exact pw_ret dX9
theorem ra_anyFunction_2 (N : Nat) : ∀ (a1 : Int32) (a2 : Int32) (X : St), R1 X0 X → pw (f_anyFunction_2 N a1 a2 X) (fun _ Y => R1 X0 Y) := by
  unfold f_anyFunction_2
  refine lp_ind (P := fun (r : Int32 → Int32 → St → Option (Int32 × St)) => ∀ (a1 : Int32) (a2 : Int32) (X : St), R1 X0 X → pw (r a1 a2 X) (fun _ Y => R1 X0 Y)) (fun _ _ _ _ => pw_none) (fun r ih a1 a2 X h => ?_) N
  unfold f_anyFunction_2_s
  refine pw_ite (fun _ => ?_) (fun _ => ?_)
  · refine pw_eq (fun x1 _ => ?_)
    refine pw_bd (ra_kindOf h) (fun x2 X3 dX3 => ?_)
    exact pw_ret dX3
  · refine pw_eq (fun x4 _ => ?_)
    refine pw_ck (fun _ => ?_)
    refine pw_eq (fun X5 eX5 => ?_)
    have dX5 : R1 X0 X5 := by rw [eX5]; exact R1_w h (by decide)
    refine pw_eq (fun x6 _ => ?_)
    exact ih _ _ _ dX5
theorem ra_anyFunction {p1 : Int32} {X : St} (h : R1 X0 X) : pw (f_anyFunction p1 X) (fun _ Y => R1 X0 Y) := by
  unfold f_anyFunction
  exact ra_anyFunction_2 _ _ _ _ h
theorem ra_judgeCallee {p1 : Int32} {p2 : Int32} {X : St} (h : R1 X0 X) : pw (f_judgeCallee p1 p2 X) (fun _ Y => R1 X0 Y) := by
  unfold f_judgeCallee
  refine pw_eq (fun x1 _ => ?_)
  refine pw_eq (fun x2 _ => ?_)
  refine pw_ck (fun _ => ?_)
  refine pw_eq (fun x3 _ => ?_)
  refine pw_ite (fun _ => ?_) (fun _ => ?_)
  · refine pw_ck (fun _ => ?_)
    refine pw_eq (fun x12 _ => ?_)
    refine pw_bd (ra_anyFunction h) (fun x13 X14 dX14 => ?_)
    refine pw_ck (fun _ => ?_)
    refine pw_eq (fun x15 _ => ?_)
    refine pw_eq (fun x16 _ => ?_)
    refine pw_bd (ra_guards dX14) (fun _ X17 dX17 => ?_)
    refine pw_eq (fun x18 _ => ?_)
    refine pw_eq (fun x19 _ => ?_)
    refine pw_ck (fun _ => ?_)
    refine pw_eq (fun X20 eX20 => ?_)
    have dX20 : R1 X0 X20 := by rw [eX20]; exact R1_w dX17 (by decide)
    exact pw_ret dX20
  · refine pw_ck (fun _ => ?_)
    refine pw_eq (fun x4 _ => ?_)
    refine pw_ite (fun _ => ?_) (fun _ => ?_)
    · refine pw_ck (fun _ => ?_)
      refine pw_eq (fun x5 _ => ?_)
      refine pw_eq (fun x6 _ => ?_)
      refine pw_ck (fun _ => ?_)
      refine pw_eq (fun x7 _ => ?_)
      refine pw_ite (fun _ => ?_) (fun _ => ?_)
      · exact pw_ret h
      · refine pw_ck (fun _ => ?_)
        refine pw_eq (fun x8 _ => ?_)
        refine pw_bd (ra_fails h) (fun _ X9 dX9 => ?_)
        exact pw_ret dX9
    · refine pw_ck (fun _ => ?_)
      refine pw_eq (fun x10 _ => ?_)
      refine pw_bd (ra_fails h) (fun _ X11 dX11 => ?_)
      exact pw_ret dX11
theorem ra_rowOf {p1 : Int32} {X : St} (h : R1 X0 X) : pw (f_rowOf p1 X) (fun _ Y => R1 X0 Y) := by
  unfold f_rowOf
  refine pw_ck (fun _ => ?_)
  refine pw_eq (fun X1 eX1 => ?_)
  have dX1 : R1 X0 X1 := by rw [eX1]; exact R1_w h (by decide)
  refine pw_bd (ra_kindOf dX1) (fun x2 X3 dX3 => ?_)
  exact pw_ret dX3
theorem ra_judgeRow {p1 : Int32} {p2 : Int32} {X : St} (h : R1 X0 X) : pw (f_judgeRow p1 p2 X) (fun _ Y => R1 X0 Y) := by
  unfold f_judgeRow
  refine pw_eq (fun x1 _ => ?_)
  refine pw_eq (fun x2 _ => ?_)
  refine pw_ck (fun _ => ?_)
  refine pw_eq (fun x3 _ => ?_)
  refine pw_ite (fun _ => ?_) (fun _ => ?_)
  · refine pw_bd (ra_rowOf h) (fun x6 X7 dX7 => ?_)
    refine pw_eq (fun x8 _ => ?_)
    refine pw_bd (ra_guards dX7) (fun _ X9 dX9 => ?_)
    refine pw_eq (fun x10 _ => ?_)
    refine pw_eq (fun x11 _ => ?_)
    refine pw_ck (fun _ => ?_)
    refine pw_eq (fun X12 eX12 => ?_)
    have dX12 : R1 X0 X12 := by rw [eX12]; exact R1_w dX9 (by decide)
    exact pw_ret dX12
  · refine pw_ck (fun _ => ?_)
    refine pw_eq (fun x4 _ => ?_)
    refine pw_ite (fun _ => ?_) (fun _ => ?_)
    · exact pw_ret h
    · refine pw_bd (ra_fails h) (fun _ X5 dX5 => ?_)
      exact pw_ret dX5
theorem ra_paramOf {p1 : Int32} {p2 : Int32} {X : St} (h : R1 X0 X) : pw (f_paramOf p1 p2 X) (fun _ Y => R1 X0 Y) := by
  unfold f_paramOf
  refine pw_ck (fun _ => ?_)
  refine pw_eq (fun x1 _ => ?_)
  refine pw_eq (fun x2 _ => ?_)
  refine pw_ck (fun _ => ?_)
  refine pw_eq (fun x3 _ => ?_)
  exact pw_ret h
theorem ra_judgeOne_317 {a1 : Int32} {a2 : Int32} {a4 : Int32} {b0 : Int32} {X : St} (h : R1 X0 X) : pw (f_judgeOne_317 a1 a2 a4 b0 X) (fun _ Y => R1 X0 Y) := by
  unfold f_judgeOne_317
  refine pw_eq (fun x39 _ => ?_)
  refine pw_eq (fun x40 _ => ?_)
  refine pw_eq (fun x41 _ => ?_)
  refine pw_ck (fun _ => ?_)
  refine pw_eq (fun x42 _ => ?_)
  refine pw_bd (ra_paramOf h) (fun x43 X44 dX44 => ?_)
  refine pw_ck (fun _ => ?_)
  refine pw_eq (fun x45 _ => ?_)
  refine pw_bd (ra_must dX44) (fun _ X46 dX46 => ?_)
  exact pw_ret dX46
theorem ra_elementOf {p1 : Int32} {X : St} (h : R1 X0 X) : pw (f_elementOf p1 X) (fun _ Y => R1 X0 Y) := by
  unfold f_elementOf
  refine pw_ck (fun _ => ?_)
  refine pw_eq (fun x1 _ => ?_)
  refine pw_ck (fun _ => ?_)
  refine pw_eq (fun x2 _ => ?_)
  exact pw_ret h
theorem ra_toldKind {p1 : Int32} {X : St} (h : R1 X0 X) : pw (f_toldKind p1 X) (fun _ Y => R1 X0 Y) := by
  unfold f_toldKind
  refine pw_eq (fun x1 _ => ?_)
  refine pw_ck (fun _ => ?_)
  refine pw_eq (fun x2 _ => ?_)
  refine pw_ite (fun _ => ?_) (fun _ => ?_)
  · exact pw_ret h
  · exact pw_ret h
theorem ra_judgeMore_182 {b0 : Int32} {b1 : Int32} {X : St} (h : R1 X0 X) : pw (f_judgeMore_182 b0 b1 X) (fun _ Y => R1 X0 Y) := by
  unfold f_judgeMore_182
  refine pw_ck (fun _ => ?_)
  refine pw_eq (fun X14 eX14 => ?_)
  have dX14 : R1 X0 X14 := by rw [eX14]; exact R1_w h (by decide)
  exact pw_ret dX14
theorem ra_judgeMore_177 {b0 : Int32} {X : St} (h : R1 X0 X) : pw (f_judgeMore_177 b0 X) (fun _ Y => R1 X0 Y) := by
  unfold f_judgeMore_177
  exact ra_judgeMore_182 h
theorem ra_judgeJoin_112 {b0 : Int32} {X : St} (h : R1 X0 X) : pw (f_judgeJoin_112 b0 X) (fun _ Y => R1 X0 Y) := by
  unfold f_judgeJoin_112
  refine pw_bd (ra_push h) (fun _ X9 dX9 => ?_)
  exact pw_ret dX9
theorem ra_judgeJoin_101 {a2 : Int32} {a3 : Int32} {X : St} (h : R1 X0 X) : pw (f_judgeJoin_101 a2 a3 X) (fun _ Y => R1 X0 Y) := by
  unfold f_judgeJoin_101
  refine pw_ite (fun _ => ?_) (fun _ => ?_)
  · exact ra_judgeJoin_112 h
  · exact ra_judgeJoin_112 h
theorem ra_judgeJoin {p1 : Int32} {X : St} (h : R1 X0 X) : pw (f_judgeJoin p1 X) (fun _ Y => R1 X0 Y) := by
  unfold f_judgeJoin
  refine pw_eq (fun x1 _ => ?_)
  refine pw_eq (fun x2 _ => ?_)
  refine pw_eq (fun X3 eX3 => ?_)
  have dX3 : R1 X0 X3 := by rw [eX3]; exact R1_w h (by decide)
  refine pw_eq (fun x4 _ => ?_)
  refine pw_ck (fun _ => ?_)
  refine pw_eq (fun x5 _ => ?_)
  refine pw_eq (fun x6 _ => ?_)
  refine pw_eq (fun x7 _ => ?_)
  refine pw_ck (fun _ => ?_)
  refine pw_eq (fun x8 _ => ?_)
  refine pw_ite (fun _ => ?_) (fun _ => ?_)
  · exact ra_judgeJoin_101 dX3
  · refine pw_ck (fun _ => ?_)
    refine pw_eq (fun x10 _ => ?_)
    refine pw_ck (fun _ => ?_)
    refine pw_eq (fun x11 _ => ?_)
    refine pw_ck (fun _ => ?_)
    refine pw_eq (fun x12 _ => ?_)
    refine pw_ck (fun _ => ?_)
    refine pw_eq (fun x13 _ => ?_)
    refine pw_eq (fun x14 _ => ?_)
    refine pw_bd (ra_guards dX3) (fun _ X15 dX15 => ?_)
    refine pw_ck (fun _ => ?_)
    refine pw_eq (fun x16 _ => ?_)
    refine pw_ck (fun _ => ?_)
    refine pw_eq (fun x17 _ => ?_)
    refine pw_ck (fun _ => ?_)
    refine pw_eq (fun x18 _ => ?_)
    refine pw_ck (fun _ => ?_)
    refine pw_eq (fun x19 _ => ?_)
    refine pw_eq (fun x20 _ => ?_)
    refine pw_bd (ra_guards dX15) (fun _ X21 dX21 => ?_)
    exact ra_judgeJoin_101 dX21
theorem ra_judgeElements_168 {b0 : Int32} {X : St} (h : R1 X0 X) : pw (f_judgeElements_168 b0 X) (fun _ Y => R1 X0 Y) := by
  unfold f_judgeElements_168
  refine pw_bd (ra_rowOf h) (fun x8 X9 dX9 => ?_)
  refine pw_bd (ra_push dX9) (fun _ X10 dX10 => ?_)
  exact pw_ret dX10
theorem ra_judgeElements_134 {r91 : Int32 → Int32 → Int32 → St → Option (Int32 × St)} (hr91 : ∀ (q0 : Int32) (q1 : Int32) (q2 : Int32) (X : St), R1 X0 X → pw (r91 q0 q1 q2 X) (fun _ Y => R1 X0 Y)) {a2 : Int32} {a3 : Int32} {a4 : Int32} {X : St} (h : R1 X0 X) : pw (f_judgeElements_134 r91 a2 a3 a4 X) (fun _ Y => R1 X0 Y) := by
  unfold f_judgeElements_134
  refine pw_eq (fun x13 _ => ?_)
  refine pw_ck (fun _ => ?_)
  refine pw_eq (fun x14 _ => ?_)
  exact hr91 _ _ _ _ h
theorem ra_judgeElements_91 (N : Nat) : ∀ (a2 : Int32) (a3 : Int32) (a4 : Int32) (X : St), R1 X0 X → pw (f_judgeElements_91 N a2 a3 a4 X) (fun _ Y => R1 X0 Y) := by
  unfold f_judgeElements_91
  refine lp_ind (P := fun (r : Int32 → Int32 → Int32 → St → Option (Int32 × St)) => ∀ (a2 : Int32) (a3 : Int32) (a4 : Int32) (X : St), R1 X0 X → pw (r a2 a3 a4 X) (fun _ Y => R1 X0 Y)) (fun _ _ _ _ _ => pw_none) (fun r ih a2 a3 a4 X h => ?_) N
  unfold f_judgeElements_91_s
  refine pw_ite (fun _ => ?_) (fun _ => ?_)
  · refine pw_ite (fun _ => ?_) (fun _ => ?_)
    · exact ra_judgeElements_168 h
    · refine pw_eq (fun x11 _ => ?_)
      refine pw_ck (fun _ => ?_)
      refine pw_eq (fun x12 _ => ?_)
      exact ra_judgeElements_168 h
  · refine pw_ite (fun _ => ?_) (fun _ => ?_)
    · refine pw_ck (fun _ => ?_)
      refine pw_eq (fun x15 _ => ?_)
      refine pw_eq (fun x16 _ => ?_)
      refine pw_eq (fun x17 _ => ?_)
      refine pw_ck (fun _ => ?_)
      refine pw_eq (fun x18 _ => ?_)
      refine pw_ck (fun _ => ?_)
      refine pw_eq (fun x19 _ => ?_)
      refine pw_eq (fun x20 _ => ?_)
      refine pw_bd (ra_guards h) (fun _ X21 dX21 => ?_)
      exact ra_judgeElements_134 ih dX21
    · exact ra_judgeElements_134 ih h
theorem ra_judgeElements_74 {r32 : Int32 → Int32 → Int32 → St → Option (Int32 × St)} (hr32 : ∀ (q0 : Int32) (q1 : Int32) (q2 : Int32) (X : St), R1 X0 X → pw (r32 q0 q1 q2 X) (fun _ Y => R1 X0 Y)) {a1 : Int32} {a3 : Int32} {b0 : Int32} {X : St} (h : R1 X0 X) : pw (f_judgeElements_74 r32 a1 a3 b0 X) (fun _ Y => R1 X0 Y) := by
  unfold f_judgeElements_74
  refine pw_eq (fun x22 _ => ?_)
  exact hr32 _ _ _ _ h
theorem ra_judgeElements_73 {r32 : Int32 → Int32 → Int32 → St → Option (Int32 × St)} (hr32 : ∀ (q0 : Int32) (q1 : Int32) (q2 : Int32) (X : St), R1 X0 X → pw (r32 q0 q1 q2 X) (fun _ Y => R1 X0 Y)) {a1 : Int32} {a3 : Int32} {X : St} (h : R1 X0 X) : pw (f_judgeElements_73 r32 a1 a3 X) (fun _ Y => R1 X0 Y) := by
  unfold f_judgeElements_73
  exact ra_judgeElements_74 hr32 h
theorem ra_judgeElements_32 (N : Nat) : ∀ (a1 : Int32) (a2 : Int32) (a3 : Int32) (X : St), R1 X0 X → pw (f_judgeElements_32 N a1 a2 a3 X) (fun _ Y => R1 X0 Y) := by
  unfold f_judgeElements_32
  refine lp_ind (P := fun (r : Int32 → Int32 → Int32 → St → Option (Int32 × St)) => ∀ (a1 : Int32) (a2 : Int32) (a3 : Int32) (X : St), R1 X0 X → pw (r a1 a2 a3 X) (fun _ Y => R1 X0 Y)) (fun _ _ _ _ _ => pw_none) (fun r ih a1 a2 a3 X h => ?_) N
  unfold f_judgeElements_32_s
  refine pw_ck (fun _ => ?_)
  refine pw_eq (fun x6 _ => ?_)
  refine pw_ite (fun _ => ?_) (fun _ => ?_)
  · refine pw_ck (fun _ => ?_)
    refine pw_eq (fun x7 _ => ?_)
    exact ra_judgeElements_91 _ _ _ _ _ h
  · refine pw_ite (fun _ => ?_) (fun _ => ?_)
    · exact ra_judgeElements_73 ih h
    · refine pw_eq (fun x23 _ => ?_)
      refine pw_eq (fun x24 _ => ?_)
      refine pw_ck (fun _ => ?_)
      refine pw_eq (fun x25 _ => ?_)
      refine pw_eq (fun x26 _ => ?_)
      refine pw_ck (fun _ => ?_)
      refine pw_eq (fun x27 _ => ?_)
      refine pw_ite (fun _ => ?_) (fun _ => ?_)
      · exact ra_judgeElements_74 ih h
      · exact ra_judgeElements_73 ih h
theorem ra_judgeElements_29 {a1 : Int32} {b0 : Int32} {X : St} (h : R1 X0 X) : pw (f_judgeElements_29 a1 b0 X) (fun _ Y => R1 X0 Y) := by
  unfold f_judgeElements_29
  exact ra_judgeElements_32 _ _ _ _ _ h
theorem ra_judgeElements {p1 : Int32} {X : St} (h : R1 X0 X) : pw (f_judgeElements p1 X) (fun _ Y => R1 X0 Y) := by
  unfold f_judgeElements
  refine pw_eq (fun x1 _ => ?_)
  refine pw_ck (fun _ => ?_)
  refine pw_eq (fun x2 _ => ?_)
  refine pw_eq (fun x3 _ => ?_)
  refine pw_eq (fun X4 eX4 => ?_)
  have dX4 : R1 X0 X4 := by rw [eX4]; exact R1_w h (by decide)
  refine pw_ck (fun _ => ?_)
  refine pw_eq (fun x5 _ => ?_)
  refine pw_ite (fun _ => ?_) (fun _ => ?_)
  · exact ra_judgeElements_29 dX4
  · exact ra_judgeElements_29 dX4
theorem ra_judgeMore_343 {b0 : Int32} {X : St} (h : R1 X0 X) : pw (f_judgeMore_343 b0 X) (fun _ Y => R1 X0 Y) := by
  unfold f_judgeMore_343
  refine pw_bd (ra_push h) (fun _ X70 dX70 => ?_)
  exact pw_ret dX70
theorem ra_resultOf {p1 : Int32} {X : St} (h : R1 X0 X) : pw (f_resultOf p1 X) (fun _ Y => R1 X0 Y) := by
  unfold f_resultOf
  refine pw_ck (fun _ => ?_)
  refine pw_eq (fun x1 _ => ?_)
  refine pw_ck (fun _ => ?_)
  refine pw_eq (fun x2 _ => ?_)
  refine pw_eq (fun x3 _ => ?_)
  refine pw_eq (fun x4 _ => ?_)
  refine pw_ck (fun _ => ?_)
  refine pw_eq (fun x5 _ => ?_)
  exact pw_ret h
theorem ra_judgeMore {p1 : Int32} {p2 : Int32} {X : St} (h : R1 X0 X) : pw (f_judgeMore p1 p2 X) (fun _ Y => R1 X0 Y) := by
  unfold f_judgeMore
  refine pw_ck (fun _ => ?_)
  refine pw_eq (fun x1 _ => ?_)
  refine pw_ite (fun _ => ?_) (fun _ => ?_)
  · refine pw_ck (fun _ => ?_)
    refine pw_eq (fun x3 _ => ?_)
    refine pw_ite (fun _ => ?_) (fun _ => ?_)
    · exact pw_ret h
    · refine pw_ck (fun _ => ?_)
      refine pw_eq (fun x4 _ => ?_)
      refine pw_bd (ra_toldKind h) (fun x5 X6 dX6 => ?_)
      refine pw_ck (fun _ => ?_)
      refine pw_eq (fun x7 _ => ?_)
      refine pw_ck (fun _ => ?_)
      refine pw_eq (fun x8 _ => ?_)
      refine pw_eq (fun x9 _ => ?_)
      refine pw_bd (ra_must dX6) (fun _ X10 dX10 => ?_)
      refine pw_eq (fun x11 _ => ?_)
      refine pw_eq (fun x12 _ => ?_)
      refine pw_ck (fun _ => ?_)
      refine pw_eq (fun x13 _ => ?_)
      refine pw_ite (fun _ => ?_) (fun _ => ?_)
      · refine pw_ck (fun _ => ?_)
        refine pw_eq (fun x15 _ => ?_)
        refine pw_bd (ra_toldKind dX10) (fun x16 X17 dX17 => ?_)
        refine pw_ck (fun _ => ?_)
        refine pw_eq (fun x18 _ => ?_)
        refine pw_ite (fun _ => ?_) (fun _ => ?_)
        · exact ra_judgeMore_182 dX17
        · exact ra_judgeMore_177 dX17
      · exact ra_judgeMore_177 dX10
  · refine pw_ite (fun _ => ?_) (fun _ => ?_)
    · refine pw_eq (fun x20 _ => ?_)
      refine pw_eq (fun x21 _ => ?_)
      refine pw_eq (fun X22 eX22 => ?_)
      have dX22 : R1 X0 X22 := by rw [eX22]; exact R1_w h (by decide)
      refine pw_ck (fun _ => ?_)
      refine pw_eq (fun x23 _ => ?_)
      refine pw_eq (fun x24 _ => ?_)
      refine pw_ck (fun _ => ?_)
      refine pw_eq (fun x25 _ => ?_)
      refine pw_ck (fun _ => ?_)
      refine pw_eq (fun X26 eX26 => ?_)
      have dX26 : R1 X0 X26 := by rw [eX26]; exact R1_w dX22 (by decide)
      exact pw_ret dX26
    · refine pw_ite (fun _ => ?_) (fun _ => ?_)
      · refine pw_eq (fun x28 _ => ?_)
        refine pw_eq (fun x29 _ => ?_)
        refine pw_eq (fun X30 eX30 => ?_)
        have dX30 : R1 X0 X30 := by rw [eX30]; exact R1_w h (by decide)
        exact pw_ret dX30
      · refine pw_ite (fun _ => ?_) (fun _ => ?_)
        · refine pw_bd (ra_judgeJoin h) (fun _ X32 dX32 => ?_)
          exact pw_ret dX32
        · refine pw_ite (fun _ => ?_) (fun _ => ?_)
          · refine pw_bd (ra_judgeElements h) (fun _ X34 dX34 => ?_)
            exact pw_ret dX34
          · refine pw_ite (fun _ => ?_) (fun _ => ?_)
            · refine pw_eq (fun x36 _ => ?_)
              refine pw_eq (fun x37 _ => ?_)
              refine pw_eq (fun X38 eX38 => ?_)
              have dX38 : R1 X0 X38 := by rw [eX38]; exact R1_w h (by decide)
              refine pw_eq (fun x39 _ => ?_)
              refine pw_eq (fun x40 _ => ?_)
              refine pw_ck (fun _ => ?_)
              refine pw_eq (fun x41 _ => ?_)
              refine pw_bd (ra_rowOf dX38) (fun x42 X43 dX43 => ?_)
              refine pw_bd (ra_push dX43) (fun _ X44 dX44 => ?_)
              exact pw_ret dX44
            · refine pw_ite (fun _ => ?_) (fun _ => ?_)
              · refine pw_eq (fun x46 _ => ?_)
                refine pw_eq (fun x47 _ => ?_)
                refine pw_eq (fun X48 eX48 => ?_)
                have dX48 : R1 X0 X48 := by rw [eX48]; exact R1_w h (by decide)
                refine pw_bd (ra_push dX48) (fun _ X49 dX49 => ?_)
                exact pw_ret dX49
              · refine pw_ite (fun _ => ?_) (fun _ => ?_)
                · refine pw_eq (fun x51 _ => ?_)
                  refine pw_eq (fun x52 _ => ?_)
                  refine pw_eq (fun X53 eX53 => ?_)
                  have dX53 : R1 X0 X53 := by rw [eX53]; exact R1_w h (by decide)
                  refine pw_bd (ra_push dX53) (fun _ X54 dX54 => ?_)
                  exact pw_ret dX54
                · refine pw_ite (fun _ => ?_) (fun _ => ?_)
                  · refine pw_eq (fun x56 _ => ?_)
                    refine pw_eq (fun x57 _ => ?_)
                    refine pw_eq (fun X58 eX58 => ?_)
                    have dX58 : R1 X0 X58 := by rw [eX58]; exact R1_w h (by decide)
                    refine pw_bd (ra_push dX58) (fun _ X59 dX59 => ?_)
                    exact pw_ret dX59
                  · refine pw_ite (fun _ => ?_) (fun _ => ?_)
                    · refine pw_eq (fun x61 _ => ?_)
                      refine pw_eq (fun x62 _ => ?_)
                      refine pw_eq (fun X63 eX63 => ?_)
                      have dX63 : R1 X0 X63 := by rw [eX63]; exact R1_w h (by decide)
                      refine pw_bd (ra_push dX63) (fun _ X64 dX64 => ?_)
                      exact pw_ret dX64
                    · refine pw_ite (fun _ => ?_) (fun _ => ?_)
                      · refine pw_eq (fun x66 _ => ?_)
                        refine pw_eq (fun x67 _ => ?_)
                        refine pw_eq (fun X68 eX68 => ?_)
                        have dX68 : R1 X0 X68 := by rw [eX68]; exact R1_w h (by decide)
                        refine pw_ck (fun _ => ?_)
                        refine pw_eq (fun x69 _ => ?_)
                        refine pw_ite (fun _ => ?_) (fun _ => ?_)
                        · exact ra_judgeMore_343 dX68
                        · exact ra_judgeMore_343 dX68
                      · refine pw_ite (fun _ => ?_) (fun _ => ?_)
                        · refine pw_eq (fun x72 _ => ?_)
                          refine pw_eq (fun x73 _ => ?_)
                          refine pw_eq (fun X74 eX74 => ?_)
                          have dX74 : R1 X0 X74 := by rw [eX74]; exact R1_w h (by decide)
                          refine pw_ck (fun _ => ?_)
                          refine pw_eq (fun x75 _ => ?_)
                          refine pw_ite (fun _ => ?_) (fun _ => ?_)
                          · exact ra_judgeMore_343 dX74
                          · exact ra_judgeMore_343 dX74
                        · refine pw_ite (fun _ => ?_) (fun _ => ?_)
                          · refine pw_eq (fun x77 _ => ?_)
                            refine pw_eq (fun x78 _ => ?_)
                            refine pw_eq (fun X79 eX79 => ?_)
                            have dX79 : R1 X0 X79 := by rw [eX79]; exact R1_w h (by decide)
                            refine pw_eq (fun x80 _ => ?_)
                            refine pw_ck (fun _ => ?_)
                            refine pw_eq (fun x81 _ => ?_)
                            refine pw_bd (ra_elementOf dX79) (fun x82 X83 dX83 => ?_)
                            refine pw_bd (ra_push dX83) (fun _ X84 dX84 => ?_)
                            exact pw_ret dX84
                          · refine pw_ite (fun _ => ?_) (fun _ => ?_)
                            · refine pw_eq (fun x86 _ => ?_)
                              refine pw_eq (fun x87 _ => ?_)
                              refine pw_eq (fun X88 eX88 => ?_)
                              have dX88 : R1 X0 X88 := by rw [eX88]; exact R1_w h (by decide)
                              refine pw_eq (fun x89 _ => ?_)
                              refine pw_ck (fun _ => ?_)
                              refine pw_eq (fun x90 _ => ?_)
                              refine pw_bd (ra_elementOf dX88) (fun x91 X92 dX92 => ?_)
                              refine pw_bd (ra_push dX92) (fun _ X93 dX93 => ?_)
                              exact pw_ret dX93
                            · refine pw_ite (fun _ => ?_) (fun _ => ?_)
                              · refine pw_eq (fun x95 _ => ?_)
                                refine pw_ck (fun _ => ?_)
                                refine pw_eq (fun x96 _ => ?_)
                                refine pw_eq (fun x97 _ => ?_)
                                refine pw_eq (fun x98 _ => ?_)
                                refine pw_eq (fun X99 eX99 => ?_)
                                have dX99 : R1 X0 X99 := by rw [eX99]; exact R1_w h (by decide)
                                refine pw_eq (fun x100 _ => ?_)
                                refine pw_ck (fun _ => ?_)
                                refine pw_eq (fun x101 _ => ?_)
                                refine pw_bd (ra_resultOf dX99) (fun x102 X103 dX103 => ?_)
                                refine pw_bd (ra_push dX103) (fun _ X104 dX104 => ?_)
                                exact pw_ret dX104
                              · refine pw_ite (fun _ => ?_) (fun _ => ?_)
                                · refine pw_eq (fun x106 _ => ?_)
                                  refine pw_eq (fun x107 _ => ?_)
                                  refine pw_eq (fun X108 eX108 => ?_)
                                  have dX108 : R1 X0 X108 := by rw [eX108]; exact R1_w h (by decide)
                                  exact pw_ret dX108
                                · refine pw_ite (fun _ => ?_) (fun _ => ?_)
                                  · refine pw_eq (fun x110 _ => ?_)
                                    refine pw_eq (fun x111 _ => ?_)
                                    refine pw_eq (fun X112 eX112 => ?_)
                                    have dX112 : R1 X0 X112 := by rw [eX112]; exact R1_w h (by decide)
                                    exact pw_ret dX112
                                  · exact pw_ret h
theorem ra_judgeOne {p1 : Int32} {p2 : Int32} {X : St} (h : R1 X0 X) : pw (f_judgeOne p1 p2 X) (fun _ Y => R1 X0 Y) := by
  unfold f_judgeOne
  refine pw_ck (fun _ => ?_)
  refine pw_eq (fun x1 _ => ?_)
  refine pw_ite (fun _ => ?_) (fun _ => ?_)
  · refine pw_bd (ra_push h) (fun _ X3 dX3 => ?_)
    exact pw_ret dX3
  · refine pw_ite (fun _ => ?_) (fun _ => ?_)
    · refine pw_bd (ra_push h) (fun _ X5 dX5 => ?_)
      exact pw_ret dX5
    · refine pw_ite (fun _ => ?_) (fun _ => ?_)
      · refine pw_ck (fun _ => ?_)
        refine pw_eq (fun x7 _ => ?_)
        refine pw_ck (fun _ => ?_)
        refine pw_eq (fun x8 _ => ?_)
        refine pw_bd (ra_push h) (fun _ X9 dX9 => ?_)
        exact pw_ret dX9
      · refine pw_ite (fun _ => ?_) (fun _ => ?_)
        · refine pw_ck (fun _ => ?_)
          refine pw_eq (fun x11 _ => ?_)
          refine pw_bd (ra_functionOf h) (fun x12 X13 dX13 => ?_)
          refine pw_bd (ra_push dX13) (fun _ X14 dX14 => ?_)
          exact pw_ret dX14
        · refine pw_ite (fun _ => ?_) (fun _ => ?_)
          · refine pw_ck (fun _ => ?_)
            refine pw_eq (fun x16 _ => ?_)
            refine pw_eq (fun x17 _ => ?_)
            refine pw_bd (ra_must h) (fun _ X18 dX18 => ?_)
            exact pw_ret dX18
          · refine pw_ite (fun _ => ?_) (fun _ => ?_)
            · refine pw_ck (fun _ => ?_)
              refine pw_eq (fun x20 _ => ?_)
              refine pw_eq (fun x21 _ => ?_)
              refine pw_bd (ra_must h) (fun _ X22 dX22 => ?_)
              exact pw_ret dX22
            · refine pw_ite (fun _ => ?_) (fun _ => ?_)
              · refine pw_bd (ra_judgeCallee h) (fun _ X24 dX24 => ?_)
                exact pw_ret dX24
              · refine pw_ite (fun _ => ?_) (fun _ => ?_)
                · refine pw_ck (fun _ => ?_)
                  refine pw_eq (fun x26 _ => ?_)
                  refine pw_bd (ra_judgeRow h) (fun _ X27 dX27 => ?_)
                  exact pw_ret dX27
                · refine pw_ite (fun _ => ?_) (fun _ => ?_)
                  · refine pw_ck (fun _ => ?_)
                    refine pw_eq (fun x29 _ => ?_)
                    refine pw_bd (ra_judgeRow h) (fun _ X30 dX30 => ?_)
                    exact pw_ret dX30
                  · refine pw_ite (fun _ => ?_) (fun _ => ?_)
                    · refine pw_ck (fun _ => ?_)
                      refine pw_eq (fun x32 _ => ?_)
                      refine pw_ck (fun _ => ?_)
                      refine pw_eq (fun x33 _ => ?_)
                      refine pw_eq (fun x34 _ => ?_)
                      refine pw_ck (fun _ => ?_)
                      refine pw_eq (fun x36 _ => ?_)
                      refine pw_ck (fun _ => ?_)
                      refine pw_eq (fun x37 _ => ?_)
                      refine pw_ite (fun _ => ?_) (fun _ => ?_)
                      · refine pw_ck (fun _ => ?_)
                        refine pw_eq (fun x47 _ => ?_)
                        refine pw_ck (fun _ => ?_)
                        refine pw_eq (fun x48 _ => ?_)
                        exact ra_judgeOne_317 h
                      · refine pw_eq (fun x38 _ => ?_)
                        exact ra_judgeOne_317 h
                    · refine pw_ite (fun _ => ?_) (fun _ => ?_)
                      · refine pw_eq (fun x50 _ => ?_)
                        refine pw_eq (fun x51 _ => ?_)
                        refine pw_ck (fun _ => ?_)
                        refine pw_eq (fun x52 _ => ?_)
                        refine pw_bd (ra_elementOf h) (fun x53 X54 dX54 => ?_)
                        refine pw_ck (fun _ => ?_)
                        refine pw_eq (fun x55 _ => ?_)
                        refine pw_ck (fun _ => ?_)
                        refine pw_eq (fun x56 _ => ?_)
                        refine pw_eq (fun x57 _ => ?_)
                        refine pw_bd (ra_must dX54) (fun _ X58 dX58 => ?_)
                        exact pw_ret dX58
                      · refine pw_ite (fun _ => ?_) (fun _ => ?_)
                        · refine pw_bd (ra_ownKindOf h) (fun x60 X61 dX61 => ?_)
                          refine pw_ck (fun _ => ?_)
                          refine pw_eq (fun x62 _ => ?_)
                          refine pw_ck (fun _ => ?_)
                          refine pw_eq (fun x63 _ => ?_)
                          refine pw_eq (fun x64 _ => ?_)
                          refine pw_bd (ra_must dX61) (fun _ X65 dX65 => ?_)
                          exact pw_ret dX65
                        · refine pw_bd (ra_judgeMore h) (fun _ X66 dX66 => ?_)
                          exact pw_ret dX66
theorem ra_judges_175 {r37 : Int32 → St → Option (Int32 × St)} (hr37 : ∀ (q0 : Int32) (X : St), R1 X0 X → pw (r37 q0 X) (fun _ Y => R1 X0 Y)) (N : Nat) : ∀ (a1 : Int32) (a2 : Int32) (a3 : Int32) (X : St), R1 X0 X → pw (f_judges_175 r37 N a1 a2 a3 X) (fun _ Y => R1 X0 Y) := by
  unfold f_judges_175
  refine lp_ind (P := fun (r : Int32 → Int32 → Int32 → St → Option (Int32 × St)) => ∀ (a1 : Int32) (a2 : Int32) (a3 : Int32) (X : St), R1 X0 X → pw (r a1 a2 a3 X) (fun _ Y => R1 X0 Y)) (fun _ _ _ _ _ => pw_none) (fun r ih a1 a2 a3 X h => ?_) N
  unfold f_judges_175_s
  refine pw_ite (fun _ => ?_) (fun _ => ?_)
  · exact ra_judges_204 hr37 h
  · refine pw_bd (ra_isWell h) (fun x28 X29 dX29 => ?_)
    refine pw_ite (fun _ => ?_) (fun _ => ?_)
    · exact ra_judges_204 hr37 dX29
    · refine pw_ck (fun _ => ?_)
      refine pw_eq (fun x30 _ => ?_)
      refine pw_bd (ra_judgeOne dX29) (fun _ X31 dX31 => ?_)
      refine pw_eq (fun x32 _ => ?_)
      exact ih _ _ _ _ dX31
theorem ra_judges_167 {r37 : Int32 → St → Option (Int32 × St)} (hr37 : ∀ (q0 : Int32) (X : St), R1 X0 X → pw (r37 q0 X) (fun _ Y => R1 X0 Y)) {a1 : Int32} {b0 : Int32} {X : St} (h : R1 X0 X) : pw (f_judges_167 r37 a1 b0 X) (fun _ Y => R1 X0 Y) := by
  unfold f_judges_167
  refine pw_ck (fun _ => ?_)
  refine pw_eq (fun x26 _ => ?_)
  exact ra_judges_175 hr37 _ _ _ _ _ h
theorem ra_judges_135 {r37 : Int32 → St → Option (Int32 × St)} {r80 : Int32 → Int32 → St → Option (Int32 × St)} (hr37 : ∀ (q0 : Int32) (X : St), R1 X0 X → pw (r37 q0 X) (fun _ Y => R1 X0 Y)) (hr80 : ∀ (q0 : Int32) (q1 : Int32) (X : St), R1 X0 X → pw (r80 q0 q1 X) (fun _ Y => R1 X0 Y)) {a1 : Int32} {a2 : Int32} {b0 : Int32} {b1 : Int32} {X : St} (h : R1 X0 X) : pw (f_judges_135 r37 r80 a1 a2 b0 b1 X) (fun _ Y => R1 X0 Y) := by
  unfold f_judges_135
  refine pw_ck (fun _ => ?_)
  refine pw_eq (fun X39 eX39 => ?_)
  have dX39 : R1 X0 X39 := by rw [eX39]; exact R1_w h (by decide)
  refine pw_eq (fun x40 _ => ?_)
  exact hr80 _ _ _ dX39
theorem ra_judges_130 {r37 : Int32 → St → Option (Int32 × St)} {r80 : Int32 → Int32 → St → Option (Int32 × St)} (hr37 : ∀ (q0 : Int32) (X : St), R1 X0 X → pw (r37 q0 X) (fun _ Y => R1 X0 Y)) (hr80 : ∀ (q0 : Int32) (q1 : Int32) (X : St), R1 X0 X → pw (r80 q0 q1 X) (fun _ Y => R1 X0 Y)) {a1 : Int32} {a2 : Int32} {b0 : Int32} {X : St} (h : R1 X0 X) : pw (f_judges_130 r37 r80 a1 a2 b0 X) (fun _ Y => R1 X0 Y) := by
  unfold f_judges_130
  exact ra_judges_135 hr37 hr80 h
theorem ra_judges_80 {r37 : Int32 → St → Option (Int32 × St)} (hr37 : ∀ (q0 : Int32) (X : St), R1 X0 X → pw (r37 q0 X) (fun _ Y => R1 X0 Y)) (N : Nat) : ∀ (a1 : Int32) (a2 : Int32) (X : St), R1 X0 X → pw (f_judges_80 r37 N a1 a2 X) (fun _ Y => R1 X0 Y) := by
  unfold f_judges_80
  refine lp_ind (P := fun (r : Int32 → Int32 → St → Option (Int32 × St)) => ∀ (a1 : Int32) (a2 : Int32) (X : St), R1 X0 X → pw (r a1 a2 X) (fun _ Y => R1 X0 Y)) (fun _ _ _ _ => pw_none) (fun r ih a1 a2 X h => ?_) N
  unfold f_judges_80_s
  refine pw_ck (fun _ => ?_)
  refine pw_eq (fun x22 _ => ?_)
  refine pw_ite (fun _ => ?_) (fun _ => ?_)
  · refine pw_eq (fun x23 _ => ?_)
    refine pw_eq (fun x24 _ => ?_)
    refine pw_ite (fun _ => ?_) (fun _ => ?_)
    · refine pw_eq (fun x25 _ => ?_)
      exact ra_judges_167 hr37 h
    · refine pw_eq (fun x33 _ => ?_)
      refine pw_ck (fun _ => ?_)
      refine pw_eq (fun x34 _ => ?_)
      exact ra_judges_167 hr37 h
  · refine pw_bd (ra_paramKindOf h) (fun x35 X36 dX36 => ?_)
    refine pw_ck (fun _ => ?_)
    refine pw_eq (fun X37 eX37 => ?_)
    have dX37 : R1 X0 X37 := by rw [eX37]; exact R1_w dX36 (by decide)
    refine pw_ck (fun _ => ?_)
    refine pw_eq (fun x38 _ => ?_)
    refine pw_ite (fun _ => ?_) (fun _ => ?_)
    · refine pw_ck (fun _ => ?_)
      refine pw_eq (fun x41 _ => ?_)
      refine pw_ck (fun _ => ?_)
      refine pw_eq (fun x42 _ => ?_)
      refine pw_ite (fun _ => ?_) (fun _ => ?_)
      · exact ra_judges_135 hr37 ih dX37
      · exact ra_judges_130 hr37 ih dX37
    · exact ra_judges_130 hr37 ih dX37
theorem ra_judges_37 (N : Nat) : ∀ (a1 : Int32) (X : St), R1 X0 X → pw (f_judges_37 N a1 X) (fun _ Y => R1 X0 Y) := by
  unfold f_judges_37
  refine lp_ind (P := fun (r : Int32 → St → Option (Int32 × St)) => ∀ (a1 : Int32) (X : St), R1 X0 X → pw (r a1 X) (fun _ Y => R1 X0 Y)) (fun _ _ _ => pw_none) (fun r ih a1 X h => ?_) N
  unfold f_judges_37_s
  refine pw_eq (fun x9 _ => ?_)
  refine pw_ite (fun _ => ?_) (fun _ => ?_)
  · exact ra_judges_210 h
  · refine pw_bd (ra_isWell h) (fun x14 X15 dX15 => ?_)
    refine pw_ite (fun _ => ?_) (fun _ => ?_)
    · exact ra_judges_210 dX15
    · refine pw_eq (fun X16 eX16 => ?_)
      have dX16 : R1 X0 X16 := by rw [eX16]; exact R1_w dX15 (by decide)
      refine pw_eq (fun X17 eX17 => ?_)
      have dX17 : R1 X0 X17 := by rw [eX17]; exact R1_w dX16 (by decide)
      refine pw_bd (ra_ownKindOf dX17) (fun x18 X19 dX19 => ?_)
      refine pw_ck (fun _ => ?_)
      refine pw_eq (fun x20 _ => ?_)
      refine pw_ck (fun _ => ?_)
      refine pw_eq (fun X21 eX21 => ?_)
      have dX21 : R1 X0 X21 := by rw [eX21]; exact R1_w dX19 (by decide)
      exact ra_judges_80 ih _ _ _ _ dX21
theorem ra_judges {X : St} (h : R1 X0 X) : pw (f_judges X) (fun _ Y => R1 X0 Y) := by
  unfold f_judges
  refine pw_eq (fun x1 _ => ?_)
  refine pw_eq (fun X2 eX2 => ?_)
  have dX2 : R1 X0 X2 := by rw [eX2]; exact R1_w h (by decide)
  refine pw_eq (fun x3 _ => ?_)
  refine pw_eq (fun X4 eX4 => ?_)
  have dX4 : R1 X0 X4 := by rw [eX4]; exact R1_w dX2 (by decide)
  refine pw_eq (fun X5 eX5 => ?_)
  have dX5 : R1 X0 X5 := by rw [eX5]; exact R1_w dX4 (by decide)
  refine pw_eq (fun X6 eX6 => ?_)
  have dX6 : R1 X0 X6 := by rw [eX6]; exact R1_w dX5 (by decide)
  refine pw_eq (fun X7 eX7 => ?_)
  have dX7 : R1 X0 X7 := by rw [eX7]; exact R1_w dX6 (by decide)
  refine pw_bd (ra_compiles dX7) (fun _ X8 dX8 => ?_)
  exact ra_judges_37 _ _ _ dX8
theorem ra_judge {X : St} (h : R1 X0 X) : pw (f_judge X) (fun _ Y => R1 X0 Y) := by
  unfold f_judge
  refine pw_eq (fun x1 _ => ?_)
  refine pw_ite (fun _ => ?_) (fun _ => ?_)
  · exact pw_ret h
  · refine pw_bd (ra_judges h) (fun _ X2 dX2 => ?_)
    refine pw_eq (fun x3 _ => ?_)
    refine pw_eq (fun X4 eX4 => ?_)
    have dX4 : R1 X0 X4 := by rw [eX4]; exact R1_w dX2 (by decide)
    refine pw_eq (fun x5 _ => ?_)
    refine pw_eq (fun X6 eX6 => ?_)
    have dX6 : R1 X0 X6 := by rw [eX6]; exact R1_w dX4 (by decide)
    refine pw_eq (fun x7 _ => ?_)
    refine pw_ite (fun _ => ?_) (fun _ => ?_)
    · exact pw_ret dX6
    · refine pw_eq (fun x8 _ => ?_)
      exact pw_ret dX6
theorem ra_guard {p1 : Int32} {p2 : Int32} {X : St} (h : R1 X0 X) : pw (f_guard p1 p2 X) (fun _ Y => R1 X0 Y) := by
  unfold f_guard
  refine pw_eq (fun x1 _ => ?_)
  refine pw_ite (fun _ => ?_) (fun _ => ?_)
  · exact pw_ret h
  · refine pw_eq (fun x2 _ => ?_)
    refine pw_eq (fun x3 _ => ?_)
    refine pw_bd (ra_in h) (fun x4 X5 dX5 => ?_)
    refine pw_ite (fun _ => ?_) (fun _ => ?_)
    · exact pw_ret dX5
    · refine pw_ite (fun _ => ?_) (fun _ => ?_)
      · refine pw_ck (fun _ => ?_)
        refine pw_eq (fun x7 _ => ?_)
        exact pw_ret dX5
      · refine pw_ite (fun _ => ?_) (fun _ => ?_)
        · refine pw_ck (fun _ => ?_)
          refine pw_eq (fun x9 _ => ?_)
          exact pw_ret dX5
        · refine pw_ite (fun _ => ?_) (fun _ => ?_)
          · refine pw_ck (fun _ => ?_)
            refine pw_eq (fun x11 _ => ?_)
            exact pw_ret dX5
          · refine pw_ite (fun _ => ?_) (fun _ => ?_)
            · refine pw_ck (fun _ => ?_)
              refine pw_eq (fun x13 _ => ?_)
              refine pw_ck (fun _ => ?_)
              refine pw_eq (fun x14 _ => ?_)
              exact pw_ret dX5
            · refine pw_ite (fun _ => ?_) (fun _ => ?_)
              · refine pw_ck (fun _ => ?_)
                refine pw_eq (fun x16 _ => ?_)
                refine pw_ck (fun _ => ?_)
                refine pw_eq (fun x17 _ => ?_)
                exact pw_ret dX5
              · exact pw_ret dX5
theorem ra_part_II_I {p1 : Int32} {p2 : Int32} {X : St} (h : R1 X0 X) : pw (f_part_II_I p1 p2 X) (fun _ Y => R1 X0 Y) := by
  unfold f_part_II_I
  refine pw_eq (fun x1 _ => ?_)
  refine pw_ite (fun _ => ?_) (fun _ => ?_)
  · exact pw_ret h
  · refine pw_eq (fun x2 _ => ?_)
    refine pw_eq (fun x3 _ => ?_)
    refine pw_bd (ra_in h) (fun x4 X5 dX5 => ?_)
    refine pw_ite (fun _ => ?_) (fun _ => ?_)
    · exact pw_ret dX5
    · refine pw_ite (fun _ => ?_) (fun _ => ?_)
      · refine pw_ck (fun _ => ?_)
        refine pw_eq (fun x7 _ => ?_)
        refine pw_ite (fun _ => ?_) (fun _ => ?_)
        · exact pw_ret dX5
        · exact pw_ret dX5
      · refine pw_ite (fun _ => ?_) (fun _ => ?_)
        · refine pw_ck (fun _ => ?_)
          refine pw_eq (fun x9 _ => ?_)
          exact pw_ret dX5
        · refine pw_ite (fun _ => ?_) (fun _ => ?_)
          · refine pw_ck (fun _ => ?_)
            refine pw_eq (fun x11 _ => ?_)
            exact pw_ret dX5
          · refine pw_ite (fun _ => ?_) (fun _ => ?_)
            · refine pw_eq (fun x13 _ => ?_)
              refine pw_ite (fun _ => ?_) (fun _ => ?_)
              · exact pw_ret dX5
              · refine pw_ck (fun _ => ?_)
                refine pw_eq (fun x14 _ => ?_)
                refine pw_ite (fun _ => ?_) (fun _ => ?_)
                · exact pw_ret dX5
                · exact pw_ret dX5
            · refine pw_ite (fun _ => ?_) (fun _ => ?_)
              · refine pw_ck (fun _ => ?_)
                refine pw_eq (fun x16 _ => ?_)
                exact pw_ret dX5
              · refine pw_ck (fun _ => ?_)
                refine pw_eq (fun x17 _ => ?_)
                refine pw_eq (fun x18 _ => ?_)
                refine pw_bd (ra_in dX5) (fun x19 X20 dX20 => ?_)
                refine pw_ite (fun _ => ?_) (fun _ => ?_)
                · exact pw_ret dX20
                · refine pw_ck (fun _ => ?_)
                  refine pw_eq (fun x21 _ => ?_)
                  refine pw_eq (fun x22 _ => ?_)
                  refine pw_eq (fun x23 _ => ?_)
                  refine pw_ck (fun _ => ?_)
                  refine pw_eq (fun x24 _ => ?_)
                  exact pw_ret dX20
theorem ra_ends {p1 : Int32} {p2 : Int32} {X : St} (h : R1 X0 X) : pw (f_ends p1 p2 X) (fun _ Y => R1 X0 Y) := by
  unfold f_ends
  refine pw_eq (fun x1 _ => ?_)
  refine pw_ite (fun _ => ?_) (fun _ => ?_)
  · exact pw_ret h
  · refine pw_eq (fun X2 eX2 => ?_)
    have dX2 : R1 X0 X2 := by rw [eX2]; exact R1_w h (by decide)
    refine pw_eq (fun X3 eX3 => ?_)
    have dX3 : R1 X0 X3 := by rw [eX3]; exact R1_w dX2 (by decide)
    exact pw_ret dX3
theorem ra_calls_92 (N : Nat) : ∀ (a4 : Int32) (X : St), R1 X0 X → pw (f_calls_92 N a4 X) (fun _ Y => R1 X0 Y) := by
  unfold f_calls_92
  refine lp_ind (P := fun (r : Int32 → St → Option (Int32 × St)) => ∀ (a4 : Int32) (X : St), R1 X0 X → pw (r a4 X) (fun _ Y => R1 X0 Y)) (fun _ _ _ => pw_none) (fun r ih a4 X h => ?_) N
  unfold f_calls_92_s
  refine pw_ite (fun _ => ?_) (fun _ => ?_)
  · exact pw_ret h
  · refine pw_eq (fun x21 _ => ?_)
    refine pw_eq (fun x22 _ => ?_)
    refine pw_eq (fun X23 eX23 => ?_)
    have dX23 : R1 X0 X23 := by rw [eX23]; exact R1_w h (by decide)
    refine pw_eq (fun x24 _ => ?_)
    refine pw_eq (fun x25 _ => ?_)
    refine pw_eq (fun x26 _ => ?_)
    refine pw_ck (fun _ => ?_)
    refine pw_eq (fun x27 _ => ?_)
    refine pw_ck (fun _ => ?_)
    refine pw_eq (fun X28 eX28 => ?_)
    have dX28 : R1 X0 X28 := by rw [eX28]; exact R1_w dX23 (by decide)
    refine pw_eq (fun x29 _ => ?_)
    refine pw_eq (fun x30 _ => ?_)
    refine pw_eq (fun x31 _ => ?_)
    refine pw_ck (fun _ => ?_)
    refine pw_eq (fun x32 _ => ?_)
    refine pw_ck (fun _ => ?_)
    refine pw_eq (fun X33 eX33 => ?_)
    have dX33 : R1 X0 X33 := by rw [eX33]; exact R1_w dX28 (by decide)
    refine pw_eq (fun x34 _ => ?_)
    exact ih _ _ dX33
theorem ra_calls {p1 : Int32} {p2 : Int32} {p3 : Int32} {X : St} (h : R1 X0 X) : pw (f_calls p1 p2 p3 X) (fun _ Y => R1 X0 Y) := by
  unfold f_calls
  refine pw_eq (fun x1 _ => ?_)
  refine pw_ite (fun _ => ?_) (fun _ => ?_)
  · refine pw_bd (ra_ends h) (fun _ X35 dX35 => ?_)
    exact pw_ret dX35
  · refine pw_eq (fun x2 _ => ?_)
    refine pw_eq (fun x3 _ => ?_)
    refine pw_eq (fun X4 eX4 => ?_)
    have dX4 : R1 X0 X4 := by rw [eX4]; exact R1_w h (by decide)
    refine pw_eq (fun x5 _ => ?_)
    refine pw_ck (fun _ => ?_)
    refine pw_eq (fun X6 eX6 => ?_)
    have dX6 : R1 X0 X6 := by rw [eX6]; exact R1_w dX4 (by decide)
    refine pw_eq (fun x7 _ => ?_)
    refine pw_ck (fun _ => ?_)
    refine pw_eq (fun X8 eX8 => ?_)
    have dX8 : R1 X0 X8 := by rw [eX8]; exact R1_w dX6 (by decide)
    refine pw_eq (fun x9 _ => ?_)
    refine pw_eq (fun x10 _ => ?_)
    refine pw_ck (fun _ => ?_)
    refine pw_eq (fun X11 eX11 => ?_)
    have dX11 : R1 X0 X11 := by rw [eX11]; exact R1_w dX8 (by decide)
    refine pw_eq (fun x12 _ => ?_)
    refine pw_eq (fun x13 _ => ?_)
    refine pw_eq (fun X14 eX14 => ?_)
    have dX14 : R1 X0 X14 := by rw [eX14]; exact R1_w dX11 (by decide)
    refine pw_eq (fun x15 _ => ?_)
    refine pw_eq (fun x16 _ => ?_)
    refine pw_eq (fun x17 _ => ?_)
    refine pw_eq (fun X18 eX18 => ?_)
    have dX18 : R1 X0 X18 := by rw [eX18]; exact R1_w dX14 (by decide)
    refine pw_ck (fun _ => ?_)
    refine pw_eq (fun x19 _ => ?_)
    refine pw_eq (fun x20 _ => ?_)
    exact ra_calls_92 _ _ _ dX18
theorem ra_isOn {X : St} (h : R1 X0 X) : pw (f_isOn X) (fun _ Y => R1 X0 Y) := by
  unfold f_isOn
  refine pw_eq (fun x1 _ => ?_)
  refine pw_ite (fun _ => ?_) (fun _ => ?_)
  · exact pw_ret h
  · exact pw_ret h
theorem ra_starts_132 {X : St} (h : R1 X0 X) : pw (f_starts_132 X) (fun _ Y => R1 X0 Y) := by
  unfold f_starts_132
  refine pw_bd (ra_isOn h) (fun x19 X20 dX20 => ?_)
  refine pw_ite (fun _ => ?_) (fun _ => ?_)
  · refine pw_eq (fun x21 _ => ?_)
    exact pw_ret dX20
  · refine pw_eq (fun X22 eX22 => ?_)
    have dX22 : R1 X0 X22 := by rw [eX22]; exact R1_w dX20 (by decide)
    refine pw_eq (fun x23 _ => ?_)
    exact pw_ret dX22
theorem ra_value {p1 : Int32} {p2 : Int32} {X : St} (h : R1 X0 X) : pw (f_value p1 p2 X) (fun _ Y => R1 X0 Y) := by
  unfold f_value
  refine pw_eq (fun x1 _ => ?_)
  refine pw_ck (fun _ => ?_)
  refine pw_eq (fun X2 eX2 => ?_)
  have dX2 : R1 X0 X2 := by rw [eX2]; exact R1_w h (by decide)
  refine pw_eq (fun x3 _ => ?_)
  refine pw_ck (fun _ => ?_)
  refine pw_eq (fun X4 eX4 => ?_)
  have dX4 : R1 X0 X4 := by rw [eX4]; exact R1_w dX2 (by decide)
  refine pw_eq (fun x5 _ => ?_)
  refine pw_eq (fun x6 _ => ?_)
  refine pw_eq (fun X7 eX7 => ?_)
  have dX7 : R1 X0 X7 := by rw [eX7]; exact R1_w dX4 (by decide)
  exact pw_ret dX7
theorem ra_asks_110 {r9 : Int32 → Int32 → Int32 → Int32 → Int32 → Int32 → Int32 → St → Option (Int32 × St)} (hr9 : ∀ (q0 : Int32) (q1 : Int32) (q2 : Int32) (q3 : Int32) (q4 : Int32) (q5 : Int32) (q6 : Int32) (X : St), R1 X0 X → pw (r9 q0 q1 q2 q3 q4 q5 q6 X) (fun _ Y => R1 X0 Y)) {a1 : Int32} {a4 : Int32} {a5 : Int32} {a6 : Int32} {a7 : Int32} {a9 : Int32} {b0 : Int32} {X : St} (h : R1 X0 X) : pw (f_asks_110 r9 a1 a4 a5 a6 a7 a9 b0 X) (fun _ Y => R1 X0 Y) := by
  unfold f_asks_110
  exact hr9 _ _ _ _ _ _ _ _ h
theorem ra_asks_60 {r9 : Int32 → Int32 → Int32 → Int32 → Int32 → Int32 → Int32 → St → Option (Int32 × St)} (hr9 : ∀ (q0 : Int32) (q1 : Int32) (q2 : Int32) (q3 : Int32) (q4 : Int32) (q5 : Int32) (q6 : Int32) (X : St), R1 X0 X → pw (r9 q0 q1 q2 q3 q4 q5 q6 X) (fun _ Y => R1 X0 Y)) {a1 : Int32} {a4 : Int32} {a5 : Int32} {a6 : Int32} {a7 : Int32} {a8 : Int32} {b0 : Int32} {X : St} (h : R1 X0 X) : pw (f_asks_60 r9 a1 a4 a5 a6 a7 a8 b0 X) (fun _ Y => R1 X0 Y) := by
  unfold f_asks_60
  refine pw_ck (fun _ => ?_)
  refine pw_eq (fun x23 _ => ?_)
  refine pw_ite (fun _ => ?_) (fun _ => ?_)
  · refine pw_bd (ra_rowOf h) (fun x29 X30 dX30 => ?_)
    exact ra_asks_110 hr9 dX30
  · refine pw_ck (fun _ => ?_)
    refine pw_eq (fun x24 _ => ?_)
    refine pw_ite (fun _ => ?_) (fun _ => ?_)
    · refine pw_ck (fun _ => ?_)
      refine pw_eq (fun x25 _ => ?_)
      refine pw_eq (fun x26 _ => ?_)
      refine pw_bd (ra_anyFunction h) (fun x27 X28 dX28 => ?_)
      exact ra_asks_110 hr9 dX28
    · exact ra_asks_110 hr9 h
theorem ra_within_44 {r2 : Int32 → Int32 → St → Option (Int32 × St)} (hr2 : ∀ (q0 : Int32) (q1 : Int32) (X : St), R1 X0 X → pw (r2 q0 q1 X) (fun _ Y => R1 X0 Y)) {a1 : Int32} {b0 : Int32} {X : St} (h : R1 X0 X) : pw (f_within_44 r2 a1 b0 X) (fun _ Y => R1 X0 Y) := by
  unfold f_within_44
  refine pw_ck (fun _ => ?_)
  refine pw_eq (fun x2 _ => ?_)
  exact hr2 _ _ _ h
theorem ra_within_27 {r2 : Int32 → Int32 → St → Option (Int32 × St)} (hr2 : ∀ (q0 : Int32) (q1 : Int32) (X : St), R1 X0 X → pw (r2 q0 q1 X) (fun _ Y => R1 X0 Y)) {a1 : Int32} {a3 : Int32} {X : St} (h : R1 X0 X) : pw (f_within_27 r2 a1 a3 X) (fun _ Y => R1 X0 Y) := by
  unfold f_within_27
  refine pw_ite (fun _ => ?_) (fun _ => ?_)
  · exact ra_within_44 hr2 h
  · refine pw_eq (fun x1 _ => ?_)
    exact ra_within_44 hr2 h
theorem ra_within_16 {r2 : Int32 → Int32 → St → Option (Int32 × St)} (hr2 : ∀ (q0 : Int32) (q1 : Int32) (X : St), R1 X0 X → pw (r2 q0 q1 X) (fun _ Y => R1 X0 Y)) {a1 : Int32} {a3 : Int32} {X : St} (h : R1 X0 X) : pw (f_within_16 r2 a1 a3 X) (fun _ Y => R1 X0 Y) := by
  unfold f_within_16
  refine pw_ite (fun _ => ?_) (fun _ => ?_)
  · refine pw_ite (fun _ => ?_) (fun _ => ?_)
    · exact pw_ret h
    · exact ra_within_27 hr2 h
  · exact pw_ret h
theorem ra_within_2 (N : Nat) : ∀ (a1 : Int32) (a3 : Int32) (X : St), R1 X0 X → pw (f_within_2 N a1 a3 X) (fun _ Y => R1 X0 Y) := by
  unfold f_within_2
  refine lp_ind (P := fun (r : Int32 → Int32 → St → Option (Int32 × St)) => ∀ (a1 : Int32) (a3 : Int32) (X : St), R1 X0 X → pw (r a1 a3 X) (fun _ Y => R1 X0 Y)) (fun _ _ _ _ => pw_none) (fun r ih a1 a3 X h => ?_) N
  unfold f_within_2_s
  refine pw_ite (fun _ => ?_) (fun _ => ?_)
  · refine pw_ck (fun _ => ?_)
    refine pw_eq (fun x3 _ => ?_)
    refine pw_ite (fun _ => ?_) (fun _ => ?_)
    · exact ra_within_16 ih h
    · exact ra_within_27 ih h
  · exact ra_within_16 ih h
theorem ra_within {p1 : Int32} {p2 : Int32} {X : St} (h : R1 X0 X) : pw (f_within p1 p2 X) (fun _ Y => R1 X0 Y) := by
  unfold f_within
  exact ra_within_2 _ _ _ _ h
theorem ra_isOfSort {p1 : Int32} {p2 : Int32} {X : St} (h : R1 X0 X) : pw (f_isOfSort p1 p2 X) (fun _ Y => R1 X0 Y) := by
  unfold f_isOfSort
  refine pw_ck (fun _ => ?_)
  refine pw_eq (fun x1 _ => ?_)
  refine pw_ck (fun _ => ?_)
  refine pw_eq (fun x2 _ => ?_)
  refine pw_ite (fun _ => ?_) (fun _ => ?_)
  · refine pw_ite (fun _ => ?_) (fun _ => ?_)
    · exact pw_ret h
    · exact pw_ret h
  · refine pw_ite (fun _ => ?_) (fun _ => ?_)
    · refine pw_ite (fun _ => ?_) (fun _ => ?_)
      · exact pw_ret h
      · exact pw_ret h
    · refine pw_ite (fun _ => ?_) (fun _ => ?_)
      · refine pw_ite (fun _ => ?_) (fun _ => ?_)
        · exact pw_ret h
        · exact pw_ret h
      · refine pw_ite (fun _ => ?_) (fun _ => ?_)
        · refine pw_ck (fun _ => ?_)
          refine pw_eq (fun x6 _ => ?_)
          refine pw_bd (ra_within h) (fun x7 X8 dX8 => ?_)
          refine pw_ck (fun _ => ?_)
          refine pw_eq (fun x9 _ => ?_)
          refine pw_ck (fun _ => ?_)
          refine pw_eq (fun x10 _ => ?_)
          refine pw_eq (fun x11 _ => ?_)
          refine pw_ite (fun _ => ?_) (fun _ => ?_)
          · exact pw_ret dX8
          · exact pw_ret dX8
        · exact pw_ret h
theorem ra_asks_217 {r9 : Int32 → Int32 → Int32 → Int32 → Int32 → Int32 → Int32 → St → Option (Int32 × St)} (hr9 : ∀ (q0 : Int32) (q1 : Int32) (q2 : Int32) (q3 : Int32) (q4 : Int32) (q5 : Int32) (q6 : Int32) (X : St), R1 X0 X → pw (r9 q0 q1 q2 q3 q4 q5 q6 X) (fun _ Y => R1 X0 Y)) {a1 : Int32} {a4 : Int32} {a5 : Int32} {a6 : Int32} {a8 : Int32} {a9 : Int32} {b0 : Int32} {X : St} (h : R1 X0 X) : pw (f_asks_217 r9 a1 a4 a5 a6 a8 a9 b0 X) (fun _ Y => R1 X0 Y) := by
  unfold f_asks_217
  exact hr9 _ _ _ _ _ _ _ _ h
theorem ra_asks_167 {r9 : Int32 → Int32 → Int32 → Int32 → Int32 → Int32 → Int32 → St → Option (Int32 × St)} (hr9 : ∀ (q0 : Int32) (q1 : Int32) (q2 : Int32) (q3 : Int32) (q4 : Int32) (q5 : Int32) (q6 : Int32) (X : St), R1 X0 X → pw (r9 q0 q1 q2 q3 q4 q5 q6 X) (fun _ Y => R1 X0 Y)) {a1 : Int32} {a4 : Int32} {a5 : Int32} {a6 : Int32} {a7 : Int32} {a8 : Int32} {b0 : Int32} {X : St} (h : R1 X0 X) : pw (f_asks_167 r9 a1 a4 a5 a6 a7 a8 b0 X) (fun _ Y => R1 X0 Y) := by
  unfold f_asks_167
  refine pw_ck (fun _ => ?_)
  refine pw_eq (fun x10 _ => ?_)
  refine pw_ite (fun _ => ?_) (fun _ => ?_)
  · refine pw_bd (ra_rowOf h) (fun x16 X17 dX17 => ?_)
    exact ra_asks_217 hr9 dX17
  · refine pw_ck (fun _ => ?_)
    refine pw_eq (fun x11 _ => ?_)
    refine pw_ite (fun _ => ?_) (fun _ => ?_)
    · refine pw_ck (fun _ => ?_)
      refine pw_eq (fun x12 _ => ?_)
      refine pw_eq (fun x13 _ => ?_)
      refine pw_bd (ra_anyFunction h) (fun x14 X15 dX15 => ?_)
      exact ra_asks_217 hr9 dX15
    · exact ra_asks_217 hr9 h
theorem ra_asks_166 {r9 : Int32 → Int32 → Int32 → Int32 → Int32 → Int32 → Int32 → St → Option (Int32 × St)} (hr9 : ∀ (q0 : Int32) (q1 : Int32) (q2 : Int32) (q3 : Int32) (q4 : Int32) (q5 : Int32) (q6 : Int32) (X : St), R1 X0 X → pw (r9 q0 q1 q2 q3 q4 q5 q6 X) (fun _ Y => R1 X0 Y)) {a1 : Int32} {a4 : Int32} {a5 : Int32} {a6 : Int32} {a7 : Int32} {a8 : Int32} {X : St} (h : R1 X0 X) : pw (f_asks_166 r9 a1 a4 a5 a6 a7 a8 X) (fun _ Y => R1 X0 Y) := by
  unfold f_asks_166
  exact ra_asks_167 hr9 h
theorem ra_asks_144 {r9 : Int32 → Int32 → Int32 → Int32 → Int32 → Int32 → Int32 → St → Option (Int32 × St)} (hr9 : ∀ (q0 : Int32) (q1 : Int32) (q2 : Int32) (q3 : Int32) (q4 : Int32) (q5 : Int32) (q6 : Int32) (X : St), R1 X0 X → pw (r9 q0 q1 q2 q3 q4 q5 q6 X) (fun _ Y => R1 X0 Y)) {a1 : Int32} {a4 : Int32} {a5 : Int32} {a6 : Int32} {a7 : Int32} {a8 : Int32} {X : St} (h : R1 X0 X) : pw (f_asks_144 r9 a1 a4 a5 a6 a7 a8 X) (fun _ Y => R1 X0 Y) := by
  unfold f_asks_144
  refine pw_ck (fun _ => ?_)
  refine pw_eq (fun x9 _ => ?_)
  refine pw_ite (fun _ => ?_) (fun _ => ?_)
  · exact ra_asks_166 hr9 h
  · refine pw_bd (ra_isOn h) (fun x18 X19 dX19 => ?_)
    refine pw_ite (fun _ => ?_) (fun _ => ?_)
    · exact ra_asks_166 hr9 dX19
    · exact ra_asks_167 hr9 dX19
theorem ra_deep {p1 : Int32} {p2 : Int32} {X : St} (h : R1 X0 X) : pw (f_deep p1 p2 X) (fun _ Y => R1 X0 Y) := by
  unfold f_deep
  refine pw_ite (fun _ => ?_) (fun _ => ?_)
  · refine pw_ck (fun _ => ?_)
    refine pw_eq (fun x3 _ => ?_)
    refine pw_ite (fun _ => ?_) (fun _ => ?_)
    · exact pw_ret h
    · refine pw_ck (fun _ => ?_)
      refine pw_eq (fun x4 _ => ?_)
      exact pw_ret h
  · refine pw_ite (fun _ => ?_) (fun _ => ?_)
    · refine pw_ite (fun _ => ?_) (fun _ => ?_)
      · exact pw_ret h
      · refine pw_eq (fun x1 _ => ?_)
        refine pw_ck (fun _ => ?_)
        refine pw_eq (fun x2 _ => ?_)
        exact pw_ret h
    · exact pw_ret h
theorem ra_wraps_39 {a6 : Int32} {X : St} (h : R1 X0 X) : pw (f_wraps_39 a6 X) (fun _ Y => R1 X0 Y) := by
  unfold f_wraps_39
  refine pw_bd (ra_ends h) (fun _ X6 dX6 => ?_)
  exact pw_ret dX6
theorem ra_wraps_164 {b0 : Int32} {b1 : Int32} {X : St} (h : R1 X0 X) : pw (f_wraps_164 b0 b1 X) (fun _ Y => R1 X0 Y) := by
  unfold f_wraps_164
  refine pw_ck (fun _ => ?_)
  refine pw_eq (fun X27 eX27 => ?_)
  have dX27 : R1 X0 X27 := by rw [eX27]; exact R1_w h (by decide)
  refine pw_eq (fun x28 _ => ?_)
  refine pw_eq (fun x29 _ => ?_)
  refine pw_eq (fun X30 eX30 => ?_)
  have dX30 : R1 X0 X30 := by rw [eX30]; exact R1_w dX27 (by decide)
  refine pw_eq (fun x31 _ => ?_)
  refine pw_eq (fun x32 _ => ?_)
  refine pw_eq (fun X33 eX33 => ?_)
  have dX33 : R1 X0 X33 := by rw [eX33]; exact R1_w dX30 (by decide)
  exact pw_ret dX33
theorem ra_wraps {p1 : Int32} {p2 : Int32} {p3 : Int32} {p4 : Int32} {p5 : Int32} {p6 : Int32} {X : St} (h : R1 X0 X) : pw (f_wraps p1 p2 p3 p4 p5 p6 X) (fun _ Y => R1 X0 Y) := by
  unfold f_wraps
  refine pw_ck (fun _ => ?_)
  refine pw_eq (fun x1 _ => ?_)
  refine pw_ck (fun _ => ?_)
  refine pw_eq (fun x2 _ => ?_)
  refine pw_bd (ra_deep h) (fun x3 X4 dX4 => ?_)
  refine pw_eq (fun x5 _ => ?_)
  refine pw_ite (fun _ => ?_) (fun _ => ?_)
  · exact ra_wraps_39 dX4
  · refine pw_ite (fun _ => ?_) (fun _ => ?_)
    · exact ra_wraps_39 dX4
    · refine pw_eq (fun x7 _ => ?_)
      refine pw_ck (fun _ => ?_)
      refine pw_eq (fun X8 eX8 => ?_)
      have dX8 : R1 X0 X8 := by rw [eX8]; exact R1_w dX4 (by decide)
      refine pw_eq (fun x9 _ => ?_)
      refine pw_ck (fun _ => ?_)
      refine pw_eq (fun x10 _ => ?_)
      refine pw_ck (fun _ => ?_)
      refine pw_eq (fun X11 eX11 => ?_)
      have dX11 : R1 X0 X11 := by rw [eX11]; exact R1_w dX8 (by decide)
      refine pw_eq (fun x12 _ => ?_)
      refine pw_ck (fun _ => ?_)
      refine pw_eq (fun X13 eX13 => ?_)
      have dX13 : R1 X0 X13 := by rw [eX13]; exact R1_w dX11 (by decide)
      refine pw_eq (fun x14 _ => ?_)
      refine pw_ck (fun _ => ?_)
      refine pw_eq (fun X15 eX15 => ?_)
      have dX15 : R1 X0 X15 := by rw [eX15]; exact R1_w dX13 (by decide)
      refine pw_eq (fun x16 _ => ?_)
      refine pw_ck (fun _ => ?_)
      refine pw_eq (fun X17 eX17 => ?_)
      have dX17 : R1 X0 X17 := by rw [eX17]; exact R1_w dX15 (by decide)
      refine pw_eq (fun x18 _ => ?_)
      refine pw_ck (fun _ => ?_)
      refine pw_eq (fun X19 eX19 => ?_)
      have dX19 : R1 X0 X19 := by rw [eX19]; exact R1_w dX17 (by decide)
      refine pw_eq (fun x20 _ => ?_)
      refine pw_ck (fun _ => ?_)
      refine pw_eq (fun X21 eX21 => ?_)
      have dX21 : R1 X0 X21 := by rw [eX21]; exact R1_w dX19 (by decide)
      refine pw_eq (fun x22 _ => ?_)
      refine pw_eq (fun x23 _ => ?_)
      refine pw_ck (fun _ => ?_)
      refine pw_eq (fun X24 eX24 => ?_)
      have dX24 : R1 X0 X24 := by rw [eX24]; exact R1_w dX21 (by decide)
      refine pw_ite (fun _ => ?_) (fun _ => ?_)
      · refine pw_eq (fun x34 _ => ?_)
        exact ra_wraps_164 dX24
      · refine pw_eq (fun x25 _ => ?_)
        refine pw_eq (fun x26 _ => ?_)
        exact ra_wraps_164 dX24
theorem ra_asks_9 (N : Nat) : ∀ (a1 : Int32) (a4 : Int32) (a5 : Int32) (a6 : Int32) (a7 : Int32) (a8 : Int32) (a9 : Int32) (X : St), R1 X0 X → pw (f_asks_9 N a1 a4 a5 a6 a7 a8 a9 X) (fun _ Y => R1 X0 Y) := by
  unfold f_asks_9
  refine lp_ind (P := fun (r : Int32 → Int32 → Int32 → Int32 → Int32 → Int32 → Int32 → St → Option (Int32 × St)) => ∀ (a1 : Int32) (a4 : Int32) (a5 : Int32) (a6 : Int32) (a7 : Int32) (a8 : Int32) (a9 : Int32) (X : St), R1 X0 X → pw (r a1 a4 a5 a6 a7 a8 a9 X) (fun _ Y => R1 X0 Y)) (fun _ _ _ _ _ _ _ _ _ => pw_none) (fun r ih a1 a4 a5 a6 a7 a8 a9 X h => ?_) N
  unfold f_asks_9_s
  refine pw_ite (fun _ => ?_) (fun _ => ?_)
  · exact pw_ret h
  · refine pw_ite (fun _ => ?_) (fun _ => ?_)
    · exact pw_ret h
    · refine pw_eq (fun x1 _ => ?_)
      refine pw_eq (fun x2 _ => ?_)
      refine pw_ck (fun _ => ?_)
      refine pw_eq (fun x3 _ => ?_)
      refine pw_eq (fun x4 _ => ?_)
      refine pw_ck (fun _ => ?_)
      refine pw_eq (fun X5 eX5 => ?_)
      have dX5 : R1 X0 X5 := by rw [eX5]; exact R1_w h (by decide)
      refine pw_ite (fun _ => ?_) (fun _ => ?_)
      · refine pw_ck (fun _ => ?_)
        refine pw_eq (fun x22 _ => ?_)
        refine pw_ite (fun _ => ?_) (fun _ => ?_)
        · exact ra_asks_60 ih dX5
        · exact ra_asks_60 ih dX5
      · refine pw_ite (fun _ => ?_) (fun _ => ?_)
        · refine pw_bd (ra_isOfSort dX5) (fun x7 X8 dX8 => ?_)
          refine pw_ite (fun _ => ?_) (fun _ => ?_)
          · refine pw_eq (fun X20 eX20 => ?_)
            have dX20 : R1 X0 X20 := by rw [eX20]; exact R1_w dX8 (by decide)
            refine pw_bd (ra_ends dX20) (fun _ X21 dX21 => ?_)
            exact ra_asks_144 ih dX21
          · exact ra_asks_144 ih dX8
        · refine pw_bd (ra_wraps dX5) (fun _ X6 dX6 => ?_)
          exact ih _ _ _ _ _ _ _ _ dX6
theorem ra_asks {p1 : Int32} {p2 : Int32} {p3 : Int32} {p4 : Int32} {p5 : Int32} {p6 : Int32} {X : St} (h : R1 X0 X) : pw (f_asks p1 p2 p3 p4 p5 p6 X) (fun _ Y => R1 X0 Y) := by
  unfold f_asks
  exact ra_asks_9 _ _ _ _ _ _ _ _ _ h
theorem ra_guarded {p1 : Int32} {p2 : Int32} {p3 : Int32} {X : St} (h : R1 X0 X) : pw (f_guarded p1 p2 p3 X) (fun _ Y => R1 X0 Y) := by
  unfold f_guarded
  refine pw_eq (fun x1 _ => ?_)
  refine pw_ite (fun _ => ?_) (fun _ => ?_)
  · refine pw_ite (fun _ => ?_) (fun _ => ?_)
    · exact pw_ret h
    · refine pw_eq (fun x2 _ => ?_)
      refine pw_eq (fun x3 _ => ?_)
      refine pw_ck (fun _ => ?_)
      refine pw_eq (fun x4 _ => ?_)
      refine pw_ite (fun _ => ?_) (fun _ => ?_)
      · exact pw_ret h
      · refine pw_bd (ra_ends h) (fun _ X5 dX5 => ?_)
        exact pw_ret dX5
  · refine pw_ck (fun _ => ?_)
    refine pw_eq (fun x6 _ => ?_)
    refine pw_ite (fun _ => ?_) (fun _ => ?_)
    · exact pw_ret h
    · refine pw_eq (fun x7 _ => ?_)
      refine pw_eq (fun x8 _ => ?_)
      refine pw_ck (fun _ => ?_)
      refine pw_eq (fun x9 _ => ?_)
      refine pw_ck (fun _ => ?_)
      refine pw_eq (fun x10 _ => ?_)
      refine pw_ck (fun _ => ?_)
      refine pw_eq (fun x11 _ => ?_)
      refine pw_ck (fun _ => ?_)
      refine pw_eq (fun x12 _ => ?_)
      refine pw_ck (fun _ => ?_)
      refine pw_eq (fun x13 _ => ?_)
      refine pw_bd (ra_asks h) (fun _ X14 dX14 => ?_)
      exact pw_ret dX14
theorem ra_call_220 {a5 : Int32} {b0 : Int32} {X : St} (h : R1 X0 X) : pw (f_call_220 a5 b0 X) (fun _ Y => R1 X0 Y) := by
  unfold f_call_220
  refine pw_eq (fun X16 eX16 => ?_)
  have dX16 : R1 X0 X16 := by rw [eX16]; exact R1_w h (by decide)
  refine pw_ck (fun _ => ?_)
  refine pw_eq (fun x17 _ => ?_)
  exact pw_ret dX16
theorem ra_call_166 {a1 : Int32} {a2 : Int32} {a4 : Int32} {X : St} (h : R1 X0 X) : pw (f_call_166 a1 a2 a4 X) (fun _ Y => R1 X0 Y) := by
  unfold f_call_166
  refine pw_bd (ra_isOn h) (fun x7 X8 dX8 => ?_)
  refine pw_ite (fun _ => ?_) (fun _ => ?_)
  · exact pw_ret dX8
  · refine pw_ck (fun _ => ?_)
    refine pw_eq (fun x9 _ => ?_)
    refine pw_eq (fun x10 _ => ?_)
    refine pw_ck (fun _ => ?_)
    refine pw_eq (fun x11 _ => ?_)
    refine pw_bd (ra_calls dX8) (fun _ X12 dX12 => ?_)
    refine pw_bd (ra_isOn dX12) (fun x13 X14 dX14 => ?_)
    refine pw_ite (fun _ => ?_) (fun _ => ?_)
    · refine pw_eq (fun x15 _ => ?_)
      exact ra_call_220 dX14
    · refine pw_eq (fun x18 _ => ?_)
      refine pw_eq (fun x19 _ => ?_)
      exact ra_call_220 dX14
theorem ra_call_128 {r17 : Int32 → Int32 → Int32 → Int32 → St → Option (Int32 × St)} (hr17 : ∀ (q0 : Int32) (q1 : Int32) (q2 : Int32) (q3 : Int32) (X : St), R1 X0 X → pw (r17 q0 q1 q2 q3 X) (fun _ Y => R1 X0 Y)) {a1 : Int32} {a2 : Int32} {a3 : Int32} {a4 : Int32} {a5 : Int32} {X : St} (h : R1 X0 X) : pw (f_call_128 r17 a1 a2 a3 a4 a5 X) (fun _ Y => R1 X0 Y) := by
  unfold f_call_128
  refine pw_eq (fun x23 _ => ?_)
  refine pw_ck (fun _ => ?_)
  refine pw_eq (fun X24 eX24 => ?_)
  have dX24 : R1 X0 X24 := by rw [eX24]; exact R1_w h (by decide)
  refine pw_eq (fun x25 _ => ?_)
  refine pw_eq (fun x26 _ => ?_)
  refine pw_eq (fun X27 eX27 => ?_)
  have dX27 : R1 X0 X27 := by rw [eX27]; exact R1_w dX24 (by decide)
  refine pw_ck (fun _ => ?_)
  refine pw_eq (fun x28 _ => ?_)
  refine pw_ck (fun _ => ?_)
  refine pw_eq (fun X29 eX29 => ?_)
  have dX29 : R1 X0 X29 := by rw [eX29]; exact R1_w dX27 (by decide)
  exact hr17 _ _ _ _ _ dX29
theorem ra_call_51 {r17 : Int32 → Int32 → Int32 → Int32 → St → Option (Int32 × St)} (hr17 : ∀ (q0 : Int32) (q1 : Int32) (q2 : Int32) (q3 : Int32) (X : St), R1 X0 X → pw (r17 q0 q1 q2 q3 X) (fun _ Y => R1 X0 Y)) (N : Nat) : ∀ (a1 : Int32) (a2 : Int32) (a3 : Int32) (a4 : Int32) (a5 : Int32) (a6 : Int32) (X : St), R1 X0 X → pw (f_call_51 r17 N a1 a2 a3 a4 a5 a6 X) (fun _ Y => R1 X0 Y) := by
  unfold f_call_51
  refine lp_ind (P := fun (r : Int32 → Int32 → Int32 → Int32 → Int32 → Int32 → St → Option (Int32 × St)) => ∀ (a1 : Int32) (a2 : Int32) (a3 : Int32) (a4 : Int32) (a5 : Int32) (a6 : Int32) (X : St), R1 X0 X → pw (r a1 a2 a3 a4 a5 a6 X) (fun _ Y => R1 X0 Y)) (fun _ _ _ _ _ _ _ _ => pw_none) (fun r ih a1 a2 a3 a4 a5 a6 X h => ?_) N
  unfold f_call_51_s
  refine pw_ite (fun _ => ?_) (fun _ => ?_)
  · exact ra_call_128 hr17 h
  · refine pw_bd (ra_isOn h) (fun x30 X31 dX31 => ?_)
    refine pw_ite (fun _ => ?_) (fun _ => ?_)
    · exact ra_call_128 hr17 dX31
    · refine pw_eq (fun x32 _ => ?_)
      refine pw_eq (fun x33 _ => ?_)
      refine pw_ck (fun _ => ?_)
      refine pw_eq (fun x34 _ => ?_)
      refine pw_bd (ra_paramOf dX31) (fun x35 X36 dX36 => ?_)
      refine pw_ck (fun _ => ?_)
      refine pw_eq (fun x37 _ => ?_)
      refine pw_bd (ra_paramOf dX36) (fun x38 X39 dX39 => ?_)
      refine pw_ck (fun _ => ?_)
      refine pw_eq (fun x40 _ => ?_)
      refine pw_ck (fun _ => ?_)
      refine pw_eq (fun x41 _ => ?_)
      refine pw_ck (fun _ => ?_)
      refine pw_eq (fun x42 _ => ?_)
      refine pw_bd (ra_asks dX39) (fun _ X43 dX43 => ?_)
      refine pw_eq (fun x44 _ => ?_)
      exact ih _ _ _ _ _ _ _ dX43
theorem ra_call_17 (N : Nat) : ∀ (a1 : Int32) (a2 : Int32) (a3 : Int32) (a4 : Int32) (X : St), R1 X0 X → pw (f_call_17 N a1 a2 a3 a4 X) (fun _ Y => R1 X0 Y) := by
  unfold f_call_17
  refine lp_ind (P := fun (r : Int32 → Int32 → Int32 → Int32 → St → Option (Int32 × St)) => ∀ (a1 : Int32) (a2 : Int32) (a3 : Int32) (a4 : Int32) (X : St), R1 X0 X → pw (r a1 a2 a3 a4 X) (fun _ Y => R1 X0 Y)) (fun _ _ _ _ _ _ => pw_none) (fun r ih a1 a2 a3 a4 X h => ?_) N
  unfold f_call_17_s
  refine pw_bd (ra_isOn h) (fun x5 X6 dX6 => ?_)
  refine pw_ite (fun _ => ?_) (fun _ => ?_)
  · exact ra_call_166 dX6
  · refine pw_ck (fun _ => ?_)
    refine pw_eq (fun x20 _ => ?_)
    refine pw_ite (fun _ => ?_) (fun _ => ?_)
    · exact ra_call_166 dX6
    · refine pw_ck (fun _ => ?_)
      refine pw_eq (fun x21 _ => ?_)
      refine pw_eq (fun x22 _ => ?_)
      exact ra_call_51 ih _ _ _ _ _ _ _ _ dX6
theorem ra_call {p1 : Int32} {p2 : Int32} {X : St} (h : R1 X0 X) : pw (f_call p1 p2 X) (fun _ Y => R1 X0 Y) := by
  unfold f_call
  refine pw_ck (fun _ => ?_)
  refine pw_eq (fun x1 _ => ?_)
  refine pw_eq (fun x2 _ => ?_)
  refine pw_eq (fun x3 _ => ?_)
  refine pw_eq (fun x4 _ => ?_)
  exact ra_call_17 _ _ _ _ _ _ h
theorem ra_goesBack_43 (N : Nat) : ∀ (a1 : Int32) (X : St), R1 X0 X → pw (f_goesBack_43 N a1 X) (fun _ Y => R1 X0 Y) := by
  unfold f_goesBack_43
  refine lp_ind (P := fun (r : Int32 → St → Option (Int32 × St)) => ∀ (a1 : Int32) (X : St), R1 X0 X → pw (r a1 X) (fun _ Y => R1 X0 Y)) (fun _ _ _ => pw_none) (fun r ih a1 X h => ?_) N
  unfold f_goesBack_43_s
  refine pw_bd (ra_isOn h) (fun x12 X13 dX13 => ?_)
  refine pw_ite (fun _ => ?_) (fun _ => ?_)
  · exact pw_ret dX13
  · refine pw_eq (fun x14 _ => ?_)
    refine pw_ite (fun _ => ?_) (fun _ => ?_)
    · exact pw_ret dX13
    · refine pw_eq (fun x15 _ => ?_)
      refine pw_eq (fun x16 _ => ?_)
      refine pw_ck (fun _ => ?_)
      refine pw_eq (fun x17 _ => ?_)
      refine pw_ite (fun _ => ?_) (fun _ => ?_)
      · exact pw_ret dX13
      · refine pw_eq (fun x18 _ => ?_)
        refine pw_eq (fun x19 _ => ?_)
        refine pw_eq (fun X20 eX20 => ?_)
        have dX20 : R1 X0 X20 := by rw [eX20]; exact R1_w dX13 (by decide)
        refine pw_eq (fun x21 _ => ?_)
        refine pw_ck (fun _ => ?_)
        refine pw_eq (fun x22 _ => ?_)
        refine pw_eq (fun x23 _ => ?_)
        refine pw_eq (fun x24 _ => ?_)
        refine pw_ck (fun _ => ?_)
        refine pw_eq (fun x25 _ => ?_)
        refine pw_bd (ra_resultOf dX20) (fun x26 X27 dX27 => ?_)
        refine pw_ck (fun _ => ?_)
        refine pw_eq (fun x28 _ => ?_)
        refine pw_bd (ra_resultOf dX27) (fun x29 X30 dX30 => ?_)
        refine pw_ck (fun _ => ?_)
        refine pw_eq (fun x31 _ => ?_)
        refine pw_ck (fun _ => ?_)
        refine pw_eq (fun x32 _ => ?_)
        refine pw_ck (fun _ => ?_)
        refine pw_eq (fun x33 _ => ?_)
        refine pw_bd (ra_asks dX30) (fun _ X34 dX34 => ?_)
        exact ih _ _ dX34
theorem ra_goesBack {X : St} (h : R1 X0 X) : pw (f_goesBack X) (fun _ Y => R1 X0 Y) := by
  unfold f_goesBack
  refine pw_eq (fun x1 _ => ?_)
  refine pw_eq (fun x2 _ => ?_)
  refine pw_eq (fun X3 eX3 => ?_)
  have dX3 : R1 X0 X3 := by rw [eX3]; exact R1_w h (by decide)
  refine pw_eq (fun x4 _ => ?_)
  refine pw_ck (fun _ => ?_)
  refine pw_eq (fun x5 _ => ?_)
  refine pw_eq (fun x6 _ => ?_)
  refine pw_ck (fun _ => ?_)
  refine pw_eq (fun x7 _ => ?_)
  refine pw_eq (fun X8 eX8 => ?_)
  have dX8 : R1 X0 X8 := by rw [eX8]; exact R1_w dX3 (by decide)
  refine pw_eq (fun x9 _ => ?_)
  refine pw_eq (fun x10 _ => ?_)
  refine pw_eq (fun X11 eX11 => ?_)
  have dX11 : R1 X0 X11 := by rw [eX11]; exact R1_w dX8 (by decide)
  exact ra_goesBack_43 _ _ _ dX11
theorem ra_row_22 {a2 : Int32} {X : St} (h : R1 X0 X) : pw (f_row_22 a2 X) (fun _ Y => R1 X0 Y) := by
  unfold f_row_22
  refine pw_bd (ra_ends h) (fun _ X3 dX3 => ?_)
  exact pw_ret dX3
theorem ra_row {p1 : Int32} {p2 : Int32} {X : St} (h : R1 X0 X) : pw (f_row p1 p2 X) (fun _ Y => R1 X0 Y) := by
  unfold f_row
  refine pw_eq (fun x1 _ => ?_)
  refine pw_eq (fun x2 _ => ?_)
  refine pw_ite (fun _ => ?_) (fun _ => ?_)
  · exact ra_row_22 h
  · refine pw_eq (fun x4 _ => ?_)
    refine pw_ite (fun _ => ?_) (fun _ => ?_)
    · exact ra_row_22 h
    · refine pw_eq (fun x5 _ => ?_)
      refine pw_ck (fun _ => ?_)
      refine pw_eq (fun X6 eX6 => ?_)
      have dX6 : R1 X0 X6 := by rw [eX6]; exact R1_w h (by decide)
      refine pw_eq (fun x7 _ => ?_)
      refine pw_eq (fun x8 _ => ?_)
      refine pw_ck (fun _ => ?_)
      refine pw_eq (fun X9 eX9 => ?_)
      have dX9 : R1 X0 X9 := by rw [eX9]; exact R1_w dX6 (by decide)
      refine pw_eq (fun x10 _ => ?_)
      refine pw_ck (fun _ => ?_)
      refine pw_eq (fun X11 eX11 => ?_)
      have dX11 : R1 X0 X11 := by rw [eX11]; exact R1_w dX9 (by decide)
      refine pw_eq (fun x12 _ => ?_)
      refine pw_eq (fun x13 _ => ?_)
      refine pw_eq (fun X14 eX14 => ?_)
      have dX14 : R1 X0 X14 := by rw [eX14]; exact R1_w dX11 (by decide)
      refine pw_eq (fun x15 _ => ?_)
      refine pw_eq (fun x16 _ => ?_)
      refine pw_eq (fun X17 eX17 => ?_)
      have dX17 : R1 X0 X17 := by rw [eX17]; exact R1_w dX14 (by decide)
      refine pw_eq (fun x18 _ => ?_)
      refine pw_eq (fun x19 _ => ?_)
      refine pw_eq (fun X20 eX20 => ?_)
      have dX20 : R1 X0 X20 := by rw [eX20]; exact R1_w dX17 (by decide)
      refine pw_eq (fun x21 _ => ?_)
      refine pw_eq (fun x22 _ => ?_)
      exact pw_ret dX20
theorem ra_works_98 (N : Nat) : ∀ (a2 : Int32) (a3 : Int32) (a4 : Int32) (X : St), R1 X0 X → pw (f_works_98 N a2 a3 a4 X) (fun _ Y => R1 X0 Y) := by
  unfold f_works_98
  refine lp_ind (P := fun (r : Int32 → Int32 → Int32 → St → Option (Int32 × St)) => ∀ (a2 : Int32) (a3 : Int32) (a4 : Int32) (X : St), R1 X0 X → pw (r a2 a3 a4 X) (fun _ Y => R1 X0 Y)) (fun _ _ _ _ _ => pw_none) (fun r ih a2 a3 a4 X h => ?_) N
  unfold f_works_98_s
  refine pw_ck (fun _ => ?_)
  refine pw_eq (fun x12 _ => ?_)
  refine pw_ite (fun _ => ?_) (fun _ => ?_)
  · refine pw_bd (ra_value h) (fun _ X13 dX13 => ?_)
    exact pw_ret dX13
  · refine pw_ck (fun _ => ?_)
    refine pw_eq (fun x14 _ => ?_)
    refine pw_eq (fun x15 _ => ?_)
    refine pw_eq (fun x16 _ => ?_)
    refine pw_eq (fun x17 _ => ?_)
    refine pw_ck (fun _ => ?_)
    refine pw_eq (fun x18 _ => ?_)
    refine pw_ck (fun _ => ?_)
    refine pw_eq (fun X19 eX19 => ?_)
    have dX19 : R1 X0 X19 := by rw [eX19]; exact R1_w h (by decide)
    refine pw_ck (fun _ => ?_)
    refine pw_eq (fun x20 _ => ?_)
    refine pw_eq (fun x21 _ => ?_)
    refine pw_eq (fun x22 _ => ?_)
    refine pw_eq (fun x23 _ => ?_)
    refine pw_ck (fun _ => ?_)
    refine pw_eq (fun x24 _ => ?_)
    refine pw_ck (fun _ => ?_)
    refine pw_eq (fun X25 eX25 => ?_)
    have dX25 : R1 X0 X25 := by rw [eX25]; exact R1_w dX19 (by decide)
    refine pw_eq (fun x26 _ => ?_)
    exact ih _ _ _ _ dX25
theorem ra_makes_58 (N : Nat) : ∀ (a2 : Int32) (a3 : Int32) (a4 : Int32) (X : St), R1 X0 X → pw (f_makes_58 N a2 a3 a4 X) (fun _ Y => R1 X0 Y) := by
  unfold f_makes_58
  refine lp_ind (P := fun (r : Int32 → Int32 → Int32 → St → Option (Int32 × St)) => ∀ (a2 : Int32) (a3 : Int32) (a4 : Int32) (X : St), R1 X0 X → pw (r a2 a3 a4 X) (fun _ Y => R1 X0 Y)) (fun _ _ _ _ _ => pw_none) (fun r ih a2 a3 a4 X h => ?_) N
  unfold f_makes_58_s
  refine pw_ite (fun _ => ?_) (fun _ => ?_)
  · refine pw_eq (fun x11 _ => ?_)
    refine pw_eq (fun x12 _ => ?_)
    refine pw_eq (fun X13 eX13 => ?_)
    have dX13 : R1 X0 X13 := by rw [eX13]; exact R1_w h (by decide)
    refine pw_bd (ra_value dX13) (fun _ X14 dX14 => ?_)
    exact pw_ret dX14
  · refine pw_ck (fun _ => ?_)
    refine pw_eq (fun x15 _ => ?_)
    refine pw_eq (fun x16 _ => ?_)
    refine pw_eq (fun x17 _ => ?_)
    refine pw_eq (fun x18 _ => ?_)
    refine pw_ck (fun _ => ?_)
    refine pw_eq (fun x19 _ => ?_)
    refine pw_ck (fun _ => ?_)
    refine pw_eq (fun X20 eX20 => ?_)
    have dX20 : R1 X0 X20 := by rw [eX20]; exact R1_w h (by decide)
    refine pw_ck (fun _ => ?_)
    refine pw_eq (fun x21 _ => ?_)
    refine pw_eq (fun x22 _ => ?_)
    refine pw_eq (fun x23 _ => ?_)
    refine pw_eq (fun x24 _ => ?_)
    refine pw_ck (fun _ => ?_)
    refine pw_eq (fun x25 _ => ?_)
    refine pw_ck (fun _ => ?_)
    refine pw_eq (fun X26 eX26 => ?_)
    have dX26 : R1 X0 X26 := by rw [eX26]; exact R1_w dX20 (by decide)
    refine pw_eq (fun x27 _ => ?_)
    exact ih _ _ _ _ dX26
theorem ra_makes {p1 : Int32} {X : St} (h : R1 X0 X) : pw (f_makes p1 X) (fun _ Y => R1 X0 Y) := by
  unfold f_makes
  refine pw_eq (fun x1 _ => ?_)
  refine pw_eq (fun x2 _ => ?_)
  refine pw_ck (fun _ => ?_)
  refine pw_eq (fun x3 _ => ?_)
  refine pw_bd (ra_in h) (fun x4 X5 dX5 => ?_)
  refine pw_ite (fun _ => ?_) (fun _ => ?_)
  · refine pw_ck (fun _ => ?_)
    refine pw_eq (fun x28 _ => ?_)
    refine pw_bd (ra_ends dX5) (fun _ X29 dX29 => ?_)
    exact pw_ret dX29
  · refine pw_ck (fun _ => ?_)
    refine pw_eq (fun x6 _ => ?_)
    refine pw_bd (ra_row dX5) (fun x7 X8 dX8 => ?_)
    refine pw_bd (ra_isOn dX8) (fun x9 X10 dX10 => ?_)
    refine pw_ite (fun _ => ?_) (fun _ => ?_)
    · exact pw_ret dX10
    · exact ra_makes_58 _ _ _ _ _ dX10
theorem ra_sums_70 {a1 : Int32} {a2 : Int32} {a3 : Int32} {X : St} (h : R1 X0 X) : pw (f_sums_70 a1 a2 a3 X) (fun _ Y => R1 X0 Y) := by
  unfold f_sums_70
  refine pw_ck (fun _ => ?_)
  refine pw_eq (fun x10 _ => ?_)
  refine pw_ite (fun _ => ?_) (fun _ => ?_)
  · refine pw_eq (fun x12 _ => ?_)
    refine pw_bd (ra_value h) (fun _ X13 dX13 => ?_)
    exact pw_ret dX13
  · refine pw_ite (fun _ => ?_) (fun _ => ?_)
    · refine pw_eq (fun x15 _ => ?_)
      refine pw_bd (ra_value h) (fun _ X16 dX16 => ?_)
      exact pw_ret dX16
    · refine pw_ite (fun _ => ?_) (fun _ => ?_)
      · refine pw_eq (fun x18 _ => ?_)
        refine pw_bd (ra_value h) (fun _ X19 dX19 => ?_)
        exact pw_ret dX19
      · refine pw_ite (fun _ => ?_) (fun _ => ?_)
        · refine pw_ck (fun _ => ?_)
          refine pw_eq (fun x21 _ => ?_)
          refine pw_bd (ra_value h) (fun _ X23 dX23 => ?_)
          exact pw_ret dX23
        · refine pw_ck (fun _ => ?_)
          refine pw_eq (fun x24 _ => ?_)
          refine pw_bd (ra_value h) (fun _ X26 dX26 => ?_)
          exact pw_ret dX26
theorem ra_sums_54 {a1 : Int32} {a2 : Int32} {a3 : Int32} {X : St} (h : R1 X0 X) : pw (f_sums_54 a1 a2 a3 X) (fun _ Y => R1 X0 Y) := by
  unfold f_sums_54
  refine pw_ite (fun _ => ?_) (fun _ => ?_)
  · refine pw_ck (fun _ => ?_)
    refine pw_eq (fun x27 _ => ?_)
    refine pw_bd (ra_ends h) (fun _ X28 dX28 => ?_)
    exact pw_ret dX28
  · exact ra_sums_70 h
theorem ra_sums {p1 : Int32} {X : St} (h : R1 X0 X) : pw (f_sums p1 X) (fun _ Y => R1 X0 Y) := by
  unfold f_sums
  refine pw_eq (fun x1 _ => ?_)
  refine pw_eq (fun x2 _ => ?_)
  refine pw_eq (fun X3 eX3 => ?_)
  have dX3 : R1 X0 X3 := by rw [eX3]; exact R1_w h (by decide)
  refine pw_eq (fun x4 _ => ?_)
  refine pw_ck (fun _ => ?_)
  refine pw_eq (fun x5 _ => ?_)
  refine pw_eq (fun x6 _ => ?_)
  refine pw_eq (fun x7 _ => ?_)
  refine pw_ck (fun _ => ?_)
  refine pw_eq (fun x8 _ => ?_)
  refine pw_ck (fun _ => ?_)
  refine pw_eq (fun x9 _ => ?_)
  refine pw_ite (fun _ => ?_) (fun _ => ?_)
  · exact ra_sums_54 dX3
  · refine pw_ck (fun _ => ?_)
    refine pw_eq (fun x29 _ => ?_)
    refine pw_ite (fun _ => ?_) (fun _ => ?_)
    · exact ra_sums_54 dX3
    · exact ra_sums_70 dX3
theorem ra_works_432 {b0 : Int32} {b1 : Int32} {X : St} (h : R1 X0 X) : pw (f_works_432 b0 b1 X) (fun _ Y => R1 X0 Y) := by
  unfold f_works_432
  refine pw_bd (ra_value h) (fun _ X79 dX79 => ?_)
  exact pw_ret dX79
theorem ra_works_420 {b0 : Int32} {X : St} (h : R1 X0 X) : pw (f_works_420 b0 X) (fun _ Y => R1 X0 Y) := by
  unfold f_works_420
  refine pw_ite (fun _ => ?_) (fun _ => ?_)
  · exact ra_works_432 h
  · exact ra_works_432 h
theorem ra_aroundOf_4 (N : Nat) : ∀ (a2 : Int32) (a3 : Int32) (X : St), R1 X0 X → pw (f_aroundOf_4 N a2 a3 X) (fun _ Y => R1 X0 Y) := by
  unfold f_aroundOf_4
  refine lp_ind (P := fun (r : Int32 → Int32 → St → Option (Int32 × St)) => ∀ (a2 : Int32) (a3 : Int32) (X : St), R1 X0 X → pw (r a2 a3 X) (fun _ Y => R1 X0 Y)) (fun _ _ _ _ => pw_none) (fun r ih a2 a3 X h => ?_) N
  unfold f_aroundOf_4_s
  refine pw_ck (fun _ => ?_)
  refine pw_eq (fun x1 _ => ?_)
  refine pw_ite (fun _ => ?_) (fun _ => ?_)
  · exact pw_ret h
  · refine pw_ck (fun _ => ?_)
    refine pw_eq (fun X2 eX2 => ?_)
    have dX2 : R1 X0 X2 := by rw [eX2]; exact R1_w h (by decide)
    refine pw_eq (fun x3 _ => ?_)
    refine pw_ck (fun _ => ?_)
    refine pw_eq (fun x4 _ => ?_)
    exact ih _ _ _ dX2
theorem ra_aroundOf {p1 : Int32} {X : St} (h : R1 X0 X) : pw (f_aroundOf p1 X) (fun _ Y => R1 X0 Y) := by
  unfold f_aroundOf
  exact ra_aroundOf_4 _ _ _ _ h
theorem ra_readsPlace_126 (N : Nat) : ∀ (a2 : Int32) (a6 : Int32) (X : St), R1 X0 X → pw (f_readsPlace_126 N a2 a6 X) (fun _ Y => R1 X0 Y) := by
  unfold f_readsPlace_126
  refine lp_ind (P := fun (r : Int32 → Int32 → St → Option (Int32 × St)) => ∀ (a2 : Int32) (a6 : Int32) (X : St), R1 X0 X → pw (r a2 a6 X) (fun _ Y => R1 X0 Y)) (fun _ _ _ _ => pw_none) (fun r ih a2 a6 X h => ?_) N
  unfold f_readsPlace_126_s
  refine pw_ite (fun _ => ?_) (fun _ => ?_)
  · exact pw_ret h
  · refine pw_bd (ra_isOn h) (fun x27 X28 dX28 => ?_)
    refine pw_ite (fun _ => ?_) (fun _ => ?_)
    · exact pw_ret dX28
    · refine pw_ck (fun _ => ?_)
      refine pw_eq (fun x29 _ => ?_)
      refine pw_ck (fun _ => ?_)
      refine pw_eq (fun x30 _ => ?_)
      refine pw_bd (ra_elementOf dX28) (fun x31 X32 dX32 => ?_)
      refine pw_ck (fun _ => ?_)
      refine pw_eq (fun x33 _ => ?_)
      refine pw_bd (ra_elementOf dX32) (fun x34 X35 dX35 => ?_)
      refine pw_ck (fun _ => ?_)
      refine pw_eq (fun x36 _ => ?_)
      refine pw_ck (fun _ => ?_)
      refine pw_eq (fun x37 _ => ?_)
      refine pw_ck (fun _ => ?_)
      refine pw_eq (fun x38 _ => ?_)
      refine pw_bd (ra_asks dX35) (fun _ X39 dX39 => ?_)
      refine pw_eq (fun x40 _ => ?_)
      exact ih _ _ _ dX39
theorem ra_readsPlace {p1 : Int32} {X : St} (h : R1 X0 X) : pw (f_readsPlace p1 X) (fun _ Y => R1 X0 Y) := by
  unfold f_readsPlace
  refine pw_eq (fun x1 _ => ?_)
  refine pw_eq (fun x2 _ => ?_)
  refine pw_ck (fun _ => ?_)
  refine pw_eq (fun x3 _ => ?_)
  refine pw_bd (ra_within h) (fun x4 X5 dX5 => ?_)
  refine pw_eq (fun x6 _ => ?_)
  refine pw_eq (fun x7 _ => ?_)
  refine pw_ck (fun _ => ?_)
  refine pw_eq (fun x8 _ => ?_)
  refine pw_ck (fun _ => ?_)
  refine pw_eq (fun x9 _ => ?_)
  refine pw_eq (fun x10 _ => ?_)
  refine pw_bd (ra_in dX5) (fun x11 X12 dX12 => ?_)
  refine pw_ite (fun _ => ?_) (fun _ => ?_)
  · refine pw_ck (fun _ => ?_)
    refine pw_eq (fun x41 _ => ?_)
    refine pw_bd (ra_ends dX12) (fun _ X42 dX42 => ?_)
    exact pw_ret dX42
  · refine pw_eq (fun x13 _ => ?_)
    refine pw_eq (fun x14 _ => ?_)
    refine pw_eq (fun X15 eX15 => ?_)
    have dX15 : R1 X0 X15 := by rw [eX15]; exact R1_w dX12 (by decide)
    refine pw_ck (fun _ => ?_)
    refine pw_eq (fun x16 _ => ?_)
    refine pw_eq (fun x17 _ => ?_)
    refine pw_ck (fun _ => ?_)
    refine pw_eq (fun x18 _ => ?_)
    refine pw_ck (fun _ => ?_)
    refine pw_eq (fun X19 eX19 => ?_)
    have dX19 : R1 X0 X19 := by rw [eX19]; exact R1_w dX15 (by decide)
    refine pw_ck (fun _ => ?_)
    refine pw_eq (fun x20 _ => ?_)
    refine pw_eq (fun x21 _ => ?_)
    refine pw_ck (fun _ => ?_)
    refine pw_eq (fun x22 _ => ?_)
    refine pw_ck (fun _ => ?_)
    refine pw_eq (fun X23 eX23 => ?_)
    have dX23 : R1 X0 X23 := by rw [eX23]; exact R1_w dX19 (by decide)
    refine pw_bd (ra_aroundOf dX23) (fun x24 X25 dX25 => ?_)
    refine pw_eq (fun x26 _ => ?_)
    exact ra_readsPlace_126 _ _ _ _ dX25
theorem ra_writes_242 {a2 : Int32} {a6 : Int32} {a7 : Int32} {X : St} (h : R1 X0 X) : pw (f_writes_242 a2 a6 a7 X) (fun _ Y => R1 X0 Y) := by
  unfold f_writes_242
  refine pw_eq (fun X23 eX23 => ?_)
  have dX23 : R1 X0 X23 := by rw [eX23]; exact R1_w h (by decide)
  refine pw_bd (ra_value dX23) (fun _ X24 dX24 => ?_)
  exact pw_ret dX24
theorem ra_writes_183 {a2 : Int32} {a4 : Int32} {a5 : Int32} {a6 : Int32} {a7 : Int32} {X : St} (h : R1 X0 X) : pw (f_writes_183 a2 a4 a5 a6 a7 X) (fun _ Y => R1 X0 Y) := by
  unfold f_writes_183
  refine pw_bd (ra_isOn h) (fun x21 X22 dX22 => ?_)
  refine pw_ite (fun _ => ?_) (fun _ => ?_)
  · exact ra_writes_242 dX22
  · refine pw_ck (fun _ => ?_)
    refine pw_eq (fun x25 _ => ?_)
    refine pw_eq (fun x26 _ => ?_)
    refine pw_eq (fun x27 _ => ?_)
    refine pw_eq (fun x28 _ => ?_)
    refine pw_ck (fun _ => ?_)
    refine pw_eq (fun x29 _ => ?_)
    refine pw_ck (fun _ => ?_)
    refine pw_eq (fun X30 eX30 => ?_)
    have dX30 : R1 X0 X30 := by rw [eX30]; exact R1_w dX22 (by decide)
    refine pw_ck (fun _ => ?_)
    refine pw_eq (fun x31 _ => ?_)
    refine pw_eq (fun x32 _ => ?_)
    refine pw_eq (fun x33 _ => ?_)
    refine pw_eq (fun x34 _ => ?_)
    refine pw_ck (fun _ => ?_)
    refine pw_eq (fun x35 _ => ?_)
    refine pw_ck (fun _ => ?_)
    refine pw_eq (fun X36 eX36 => ?_)
    have dX36 : R1 X0 X36 := by rw [eX36]; exact R1_w dX30 (by decide)
    exact ra_writes_242 dX36
theorem ra_writes_101 (N : Nat) : ∀ (a2 : Int32) (a4 : Int32) (a5 : Int32) (a6 : Int32) (a7 : Int32) (a8 : Int32) (a9 : Int32) (X : St), R1 X0 X → pw (f_writes_101 N a2 a4 a5 a6 a7 a8 a9 X) (fun _ Y => R1 X0 Y) := by
  unfold f_writes_101
  refine lp_ind (P := fun (r : Int32 → Int32 → Int32 → Int32 → Int32 → Int32 → Int32 → St → Option (Int32 × St)) => ∀ (a2 : Int32) (a4 : Int32) (a5 : Int32) (a6 : Int32) (a7 : Int32) (a8 : Int32) (a9 : Int32) (X : St), R1 X0 X → pw (r a2 a4 a5 a6 a7 a8 a9 X) (fun _ Y => R1 X0 Y)) (fun _ _ _ _ _ _ _ _ _ => pw_none) (fun r ih a2 a4 a5 a6 a7 a8 a9 X h => ?_) N
  unfold f_writes_101_s
  refine pw_ite (fun _ => ?_) (fun _ => ?_)
  · exact ra_writes_183 h
  · refine pw_bd (ra_isOn h) (fun x37 X38 dX38 => ?_)
    refine pw_ite (fun _ => ?_) (fun _ => ?_)
    · exact ra_writes_183 dX38
    · refine pw_ck (fun _ => ?_)
      refine pw_eq (fun x39 _ => ?_)
      refine pw_eq (fun x40 _ => ?_)
      refine pw_eq (fun x41 _ => ?_)
      refine pw_ck (fun _ => ?_)
      refine pw_eq (fun x42 _ => ?_)
      refine pw_bd (ra_elementOf dX38) (fun x43 X44 dX44 => ?_)
      refine pw_ck (fun _ => ?_)
      refine pw_eq (fun x45 _ => ?_)
      refine pw_bd (ra_elementOf dX44) (fun x46 X47 dX47 => ?_)
      refine pw_ck (fun _ => ?_)
      refine pw_eq (fun x48 _ => ?_)
      refine pw_ck (fun _ => ?_)
      refine pw_eq (fun x49 _ => ?_)
      refine pw_ck (fun _ => ?_)
      refine pw_eq (fun x50 _ => ?_)
      refine pw_bd (ra_asks dX47) (fun _ X51 dX51 => ?_)
      refine pw_eq (fun x52 _ => ?_)
      exact ih _ _ _ _ _ _ _ _ dX51
theorem ra_writes {p1 : Int32} {X : St} (h : R1 X0 X) : pw (f_writes p1 X) (fun _ Y => R1 X0 Y) := by
  unfold f_writes
  refine pw_eq (fun x1 _ => ?_)
  refine pw_eq (fun x2 _ => ?_)
  refine pw_ck (fun _ => ?_)
  refine pw_eq (fun x3 _ => ?_)
  refine pw_bd (ra_within h) (fun x4 X5 dX5 => ?_)
  refine pw_eq (fun x6 _ => ?_)
  refine pw_eq (fun x7 _ => ?_)
  refine pw_ck (fun _ => ?_)
  refine pw_eq (fun x8 _ => ?_)
  refine pw_ck (fun _ => ?_)
  refine pw_eq (fun x9 _ => ?_)
  refine pw_eq (fun x10 _ => ?_)
  refine pw_bd (ra_in dX5) (fun x11 X12 dX12 => ?_)
  refine pw_ite (fun _ => ?_) (fun _ => ?_)
  · refine pw_ck (fun _ => ?_)
    refine pw_eq (fun x53 _ => ?_)
    refine pw_bd (ra_ends dX12) (fun _ X54 dX54 => ?_)
    exact pw_ret dX54
  · refine pw_eq (fun x13 _ => ?_)
    refine pw_eq (fun x14 _ => ?_)
    refine pw_ck (fun _ => ?_)
    refine pw_eq (fun x15 _ => ?_)
    refine pw_eq (fun x16 _ => ?_)
    refine pw_eq (fun x17 _ => ?_)
    refine pw_ck (fun _ => ?_)
    refine pw_eq (fun x18 _ => ?_)
    refine pw_bd (ra_aroundOf dX12) (fun x19 X20 dX20 => ?_)
    exact ra_writes_101 _ _ _ _ _ _ _ _ _ dX20
theorem ra_works {p1 : Int32} {p2 : Int32} {X : St} (h : R1 X0 X) : pw (f_works p1 p2 X) (fun _ Y => R1 X0 Y) := by
  unfold f_works
  refine pw_ite (fun _ => ?_) (fun _ => ?_)
  · refine pw_ck (fun _ => ?_)
    refine pw_eq (fun x2 _ => ?_)
    refine pw_ck (fun _ => ?_)
    refine pw_eq (fun x3 _ => ?_)
    refine pw_bd (ra_row h) (fun x4 X5 dX5 => ?_)
    refine pw_bd (ra_isOn dX5) (fun x6 X7 dX7 => ?_)
    refine pw_ite (fun _ => ?_) (fun _ => ?_)
    · exact pw_ret dX7
    · refine pw_eq (fun x8 _ => ?_)
      refine pw_ck (fun _ => ?_)
      refine pw_eq (fun x9 _ => ?_)
      refine pw_eq (fun x10 _ => ?_)
      refine pw_eq (fun X11 eX11 => ?_)
      have dX11 : R1 X0 X11 := by rw [eX11]; exact R1_w dX7 (by decide)
      exact ra_works_98 _ _ _ _ _ dX11
  · refine pw_ite (fun _ => ?_) (fun _ => ?_)
    · refine pw_bd (ra_makes h) (fun _ X28 dX28 => ?_)
      exact pw_ret dX28
    · refine pw_ite (fun _ => ?_) (fun _ => ?_)
      · refine pw_eq (fun x30 _ => ?_)
        refine pw_eq (fun x31 _ => ?_)
        refine pw_eq (fun X32 eX32 => ?_)
        have dX32 : R1 X0 X32 := by rw [eX32]; exact R1_w h (by decide)
        refine pw_eq (fun x33 _ => ?_)
        refine pw_ck (fun _ => ?_)
        refine pw_eq (fun x34 _ => ?_)
        refine pw_bd (ra_within dX32) (fun x35 X36 dX36 => ?_)
        refine pw_ck (fun _ => ?_)
        refine pw_eq (fun x37 _ => ?_)
        refine pw_bd (ra_value dX36) (fun _ X38 dX38 => ?_)
        exact pw_ret dX38
      · refine pw_ite (fun _ => ?_) (fun _ => ?_)
        · refine pw_eq (fun x40 _ => ?_)
          refine pw_ite (fun _ => ?_) (fun _ => ?_)
          · refine pw_ck (fun _ => ?_)
            refine pw_eq (fun x49 _ => ?_)
            refine pw_bd (ra_ends h) (fun _ X50 dX50 => ?_)
            exact pw_ret dX50
          · refine pw_eq (fun x41 _ => ?_)
            refine pw_eq (fun x42 _ => ?_)
            refine pw_eq (fun x43 _ => ?_)
            refine pw_ck (fun _ => ?_)
            refine pw_eq (fun x44 _ => ?_)
            refine pw_ck (fun _ => ?_)
            refine pw_eq (fun X45 eX45 => ?_)
            have dX45 : R1 X0 X45 := by rw [eX45]; exact R1_w h (by decide)
            refine pw_eq (fun x46 _ => ?_)
            refine pw_eq (fun x47 _ => ?_)
            refine pw_eq (fun X48 eX48 => ?_)
            have dX48 : R1 X0 X48 := by rw [eX48]; exact R1_w dX45 (by decide)
            exact pw_ret dX48
        · refine pw_ite (fun _ => ?_) (fun _ => ?_)
          · refine pw_eq (fun x52 _ => ?_)
            refine pw_eq (fun x53 _ => ?_)
            refine pw_eq (fun x54 _ => ?_)
            refine pw_eq (fun x55 _ => ?_)
            refine pw_ck (fun _ => ?_)
            refine pw_eq (fun x56 _ => ?_)
            refine pw_eq (fun x57 _ => ?_)
            refine pw_ck (fun _ => ?_)
            refine pw_eq (fun X58 eX58 => ?_)
            have dX58 : R1 X0 X58 := by rw [eX58]; exact R1_w h (by decide)
            exact pw_ret dX58
          · refine pw_ite (fun _ => ?_) (fun _ => ?_)
            · refine pw_eq (fun x60 _ => ?_)
              refine pw_eq (fun x61 _ => ?_)
              refine pw_eq (fun x62 _ => ?_)
              refine pw_eq (fun x63 _ => ?_)
              refine pw_ck (fun _ => ?_)
              refine pw_eq (fun x64 _ => ?_)
              refine pw_eq (fun x65 _ => ?_)
              refine pw_ck (fun _ => ?_)
              refine pw_eq (fun X66 eX66 => ?_)
              have dX66 : R1 X0 X66 := by rw [eX66]; exact R1_w h (by decide)
              exact pw_ret dX66
            · refine pw_ite (fun _ => ?_) (fun _ => ?_)
              · refine pw_bd (ra_sums h) (fun _ X68 dX68 => ?_)
                exact pw_ret dX68
              · refine pw_ite (fun _ => ?_) (fun _ => ?_)
                · refine pw_eq (fun x70 _ => ?_)
                  refine pw_eq (fun x71 _ => ?_)
                  refine pw_eq (fun X72 eX72 => ?_)
                  have dX72 : R1 X0 X72 := by rw [eX72]; exact R1_w h (by decide)
                  refine pw_ck (fun _ => ?_)
                  refine pw_eq (fun x73 _ => ?_)
                  refine pw_ite (fun _ => ?_) (fun _ => ?_)
                  · refine pw_eq (fun x80 _ => ?_)
                    refine pw_ck (fun _ => ?_)
                    refine pw_eq (fun x81 _ => ?_)
                    refine pw_eq (fun x82 _ => ?_)
                    refine pw_eq (fun x83 _ => ?_)
                    refine pw_ck (fun _ => ?_)
                    refine pw_eq (fun x84 _ => ?_)
                    refine pw_ite (fun _ => ?_) (fun _ => ?_)
                    · exact ra_works_420 dX72
                    · exact ra_works_420 dX72
                  · refine pw_eq (fun x74 _ => ?_)
                    refine pw_ck (fun _ => ?_)
                    refine pw_eq (fun x75 _ => ?_)
                    refine pw_eq (fun x76 _ => ?_)
                    refine pw_eq (fun x77 _ => ?_)
                    refine pw_ck (fun _ => ?_)
                    refine pw_eq (fun x78 _ => ?_)
                    refine pw_ite (fun _ => ?_) (fun _ => ?_)
                    · exact ra_works_420 dX72
                    · exact ra_works_420 dX72
                · refine pw_ite (fun _ => ?_) (fun _ => ?_)
                  · refine pw_bd (ra_readsPlace h) (fun _ X86 dX86 => ?_)
                    exact pw_ret dX86
                  · refine pw_ite (fun _ => ?_) (fun _ => ?_)
                    · refine pw_bd (ra_writes h) (fun _ X88 dX88 => ?_)
                      exact pw_ret dX88
                    · exact pw_ret h
theorem ra_does {p1 : Int32} {p2 : Int32} {X : St} (h : R1 X0 X) : pw (f_does p1 p2 X) (fun _ Y => R1 X0 Y) := by
  unfold f_does
  refine pw_ck (fun _ => ?_)
  refine pw_eq (fun x1 _ => ?_)
  refine pw_ite (fun _ => ?_) (fun _ => ?_)
  · refine pw_eq (fun x3 _ => ?_)
    refine pw_eq (fun x4 _ => ?_)
    refine pw_ite (fun _ => ?_) (fun _ => ?_)
    · refine pw_ck (fun _ => ?_)
      refine pw_eq (fun x9 _ => ?_)
      refine pw_bd (ra_ends h) (fun _ X10 dX10 => ?_)
      refine pw_eq (fun x11 _ => ?_)
      exact pw_ret dX10
    · refine pw_eq (fun x5 _ => ?_)
      refine pw_eq (fun x6 _ => ?_)
      refine pw_eq (fun X7 eX7 => ?_)
      have dX7 : R1 X0 X7 := by rw [eX7]; exact R1_w h (by decide)
      refine pw_eq (fun x8 _ => ?_)
      exact pw_ret dX7
  · refine pw_ite (fun _ => ?_) (fun _ => ?_)
    · refine pw_ck (fun _ => ?_)
      refine pw_eq (fun x13 _ => ?_)
      refine pw_bd (ra_value h) (fun _ X14 dX14 => ?_)
      refine pw_eq (fun x15 _ => ?_)
      exact pw_ret dX14
    · refine pw_ite (fun _ => ?_) (fun _ => ?_)
      · refine pw_ck (fun _ => ?_)
        refine pw_eq (fun x17 _ => ?_)
        refine pw_bd (ra_value h) (fun _ X18 dX18 => ?_)
        refine pw_eq (fun x19 _ => ?_)
        exact pw_ret dX18
      · refine pw_ite (fun _ => ?_) (fun _ => ?_)
        · refine pw_eq (fun x21 _ => ?_)
          refine pw_ck (fun _ => ?_)
          refine pw_eq (fun x22 _ => ?_)
          refine pw_eq (fun x23 _ => ?_)
          refine pw_ck (fun _ => ?_)
          refine pw_eq (fun x24 _ => ?_)
          refine pw_eq (fun x25 _ => ?_)
          refine pw_ck (fun _ => ?_)
          refine pw_eq (fun x26 _ => ?_)
          refine pw_eq (fun x27 _ => ?_)
          refine pw_ck (fun _ => ?_)
          refine pw_eq (fun x28 _ => ?_)
          refine pw_bd (ra_value h) (fun _ X29 dX29 => ?_)
          refine pw_eq (fun x30 _ => ?_)
          exact pw_ret dX29
        · refine pw_ite (fun _ => ?_) (fun _ => ?_)
          · refine pw_ck (fun _ => ?_)
            refine pw_eq (fun x32 _ => ?_)
            refine pw_bd (ra_value h) (fun _ X33 dX33 => ?_)
            refine pw_eq (fun x34 _ => ?_)
            exact pw_ret dX33
          · refine pw_ite (fun _ => ?_) (fun _ => ?_)
            · refine pw_ck (fun _ => ?_)
              refine pw_eq (fun x36 _ => ?_)
              refine pw_bd (ra_guarded h) (fun _ X37 dX37 => ?_)
              refine pw_eq (fun x38 _ => ?_)
              exact pw_ret dX37
            · refine pw_ite (fun _ => ?_) (fun _ => ?_)
              · refine pw_ck (fun _ => ?_)
                refine pw_eq (fun x40 _ => ?_)
                refine pw_bd (ra_guarded h) (fun _ X41 dX41 => ?_)
                refine pw_eq (fun x42 _ => ?_)
                exact pw_ret dX41
              · refine pw_ite (fun _ => ?_) (fun _ => ?_)
                · refine pw_ck (fun _ => ?_)
                  refine pw_eq (fun x44 _ => ?_)
                  refine pw_bd (ra_guarded h) (fun _ X45 dX45 => ?_)
                  refine pw_bd (ra_isOn dX45) (fun x46 X47 dX47 => ?_)
                  refine pw_ite (fun _ => ?_) (fun _ => ?_)
                  · refine pw_eq (fun x48 _ => ?_)
                    exact pw_ret dX47
                  · refine pw_eq (fun x49 _ => ?_)
                    refine pw_ite (fun _ => ?_) (fun _ => ?_)
                    · refine pw_eq (fun x51 _ => ?_)
                      refine pw_eq (fun x52 _ => ?_)
                      refine pw_ck (fun _ => ?_)
                      refine pw_eq (fun x53 _ => ?_)
                      refine pw_ck (fun _ => ?_)
                      refine pw_eq (fun x54 _ => ?_)
                      refine pw_ck (fun _ => ?_)
                      refine pw_eq (fun x55 _ => ?_)
                      refine pw_ite (fun _ => ?_) (fun _ => ?_)
                      · refine pw_eq (fun x56 _ => ?_)
                        exact pw_ret dX47
                      · refine pw_ck (fun _ => ?_)
                        refine pw_eq (fun x57 _ => ?_)
                        refine pw_bd (ra_ends dX47) (fun _ X58 dX58 => ?_)
                        refine pw_eq (fun x59 _ => ?_)
                        exact pw_ret dX58
                    · refine pw_eq (fun x50 _ => ?_)
                      exact pw_ret dX47
                · refine pw_ite (fun _ => ?_) (fun _ => ?_)
                  · refine pw_ck (fun _ => ?_)
                    refine pw_eq (fun x61 _ => ?_)
                    refine pw_bd (ra_guarded h) (fun _ X62 dX62 => ?_)
                    refine pw_eq (fun x63 _ => ?_)
                    exact pw_ret dX62
                  · refine pw_ite (fun _ => ?_) (fun _ => ?_)
                    · refine pw_ck (fun _ => ?_)
                      refine pw_eq (fun x65 _ => ?_)
                      refine pw_bd (ra_guarded h) (fun _ X66 dX66 => ?_)
                      refine pw_eq (fun x67 _ => ?_)
                      exact pw_ret dX66
                    · refine pw_ite (fun _ => ?_) (fun _ => ?_)
                      · refine pw_bd (ra_guarded h) (fun _ X69 dX69 => ?_)
                        refine pw_eq (fun x70 _ => ?_)
                        exact pw_ret dX69
                      · refine pw_ite (fun _ => ?_) (fun _ => ?_)
                        · refine pw_bd (ra_guarded h) (fun _ X72 dX72 => ?_)
                          refine pw_eq (fun x73 _ => ?_)
                          exact pw_ret dX72
                        · refine pw_ite (fun _ => ?_) (fun _ => ?_)
                          · refine pw_bd (ra_guarded h) (fun _ X75 dX75 => ?_)
                            refine pw_eq (fun x76 _ => ?_)
                            exact pw_ret dX75
                          · refine pw_ite (fun _ => ?_) (fun _ => ?_)
                            · refine pw_eq (fun x78 _ => ?_)
                              refine pw_eq (fun x79 _ => ?_)
                              refine pw_eq (fun X80 eX80 => ?_)
                              have dX80 : R1 X0 X80 := by rw [eX80]; exact R1_w h (by decide)
                              refine pw_eq (fun x81 _ => ?_)
                              refine pw_ck (fun _ => ?_)
                              refine pw_eq (fun x82 _ => ?_)
                              refine pw_eq (fun x83 _ => ?_)
                              refine pw_eq (fun x84 _ => ?_)
                              refine pw_ck (fun _ => ?_)
                              refine pw_eq (fun x85 _ => ?_)
                              refine pw_ck (fun _ => ?_)
                              refine pw_eq (fun X86 eX86 => ?_)
                              have dX86 : R1 X0 X86 := by rw [eX86]; exact R1_w dX80 (by decide)
                              refine pw_eq (fun x87 _ => ?_)
                              refine pw_ck (fun _ => ?_)
                              refine pw_eq (fun x88 _ => ?_)
                              refine pw_eq (fun x89 _ => ?_)
                              refine pw_eq (fun x90 _ => ?_)
                              refine pw_ck (fun _ => ?_)
                              refine pw_eq (fun x91 _ => ?_)
                              refine pw_ck (fun _ => ?_)
                              refine pw_eq (fun X92 eX92 => ?_)
                              have dX92 : R1 X0 X92 := by rw [eX92]; exact R1_w dX86 (by decide)
                              refine pw_eq (fun x93 _ => ?_)
                              exact pw_ret dX92
                            · refine pw_ite (fun _ => ?_) (fun _ => ?_)
                              · refine pw_bd (ra_guarded h) (fun _ X95 dX95 => ?_)
                                refine pw_eq (fun x96 _ => ?_)
                                exact pw_ret dX95
                              · refine pw_ite (fun _ => ?_) (fun _ => ?_)
                                · refine pw_eq (fun x98 _ => ?_)
                                  refine pw_eq (fun x99 _ => ?_)
                                  refine pw_eq (fun X100 eX100 => ?_)
                                  have dX100 : R1 X0 X100 := by rw [eX100]; exact R1_w h (by decide)
                                  refine pw_eq (fun x101 _ => ?_)
                                  refine pw_ck (fun _ => ?_)
                                  refine pw_eq (fun x102 _ => ?_)
                                  refine pw_ite (fun _ => ?_) (fun _ => ?_)
                                  · refine pw_eq (fun x104 _ => ?_)
                                    exact pw_ret dX100
                                  · refine pw_ck (fun _ => ?_)
                                    refine pw_eq (fun x103 _ => ?_)
                                    exact pw_ret dX100
                                · refine pw_ite (fun _ => ?_) (fun _ => ?_)
                                  · refine pw_ck (fun _ => ?_)
                                    refine pw_eq (fun x106 _ => ?_)
                                    exact pw_ret h
                                  · refine pw_ite (fun _ => ?_) (fun _ => ?_)
                                    · refine pw_bd (ra_call h) (fun x108 X109 dX109 => ?_)
                                      exact pw_ret dX109
                                    · refine pw_ite (fun _ => ?_) (fun _ => ?_)
                                      · refine pw_eq (fun x111 _ => ?_)
                                        refine pw_eq (fun x112 _ => ?_)
                                        refine pw_eq (fun X113 eX113 => ?_)
                                        have dX113 : R1 X0 X113 := by rw [eX113]; exact R1_w h (by decide)
                                        refine pw_eq (fun x114 _ => ?_)
                                        exact pw_ret dX113
                                      · refine pw_ite (fun _ => ?_) (fun _ => ?_)
                                        · refine pw_bd (ra_guarded h) (fun _ X116 dX116 => ?_)
                                          refine pw_eq (fun x117 _ => ?_)
                                          exact pw_ret dX116
                                        · refine pw_ite (fun _ => ?_) (fun _ => ?_)
                                          · refine pw_bd (ra_goesBack h) (fun x119 X120 dX120 => ?_)
                                            exact pw_ret dX120
                                          · refine pw_ck (fun _ => ?_)
                                            refine pw_eq (fun x121 _ => ?_)
                                            refine pw_bd (ra_works h) (fun _ X122 dX122 => ?_)
                                            refine pw_eq (fun x123 _ => ?_)
                                            exact pw_ret dX122
theorem ra_starts_106 (N : Nat) : ∀ (a2 : Int32) (X : St), R1 X0 X → pw (f_starts_106 N a2 X) (fun _ Y => R1 X0 Y) := by
  unfold f_starts_106
  refine lp_ind (P := fun (r : Int32 → St → Option (Int32 × St)) => ∀ (a2 : Int32) (X : St), R1 X0 X → pw (r a2 X) (fun _ Y => R1 X0 Y)) (fun _ _ _ => pw_none) (fun r ih a2 X h => ?_) N
  unfold f_starts_106_s
  refine pw_bd (ra_isOn h) (fun x17 X18 dX18 => ?_)
  refine pw_ite (fun _ => ?_) (fun _ => ?_)
  · exact ra_starts_132 dX18
  · refine pw_ite (fun _ => ?_) (fun _ => ?_)
    · exact ra_starts_132 dX18
    · refine pw_ck (fun _ => ?_)
      refine pw_eq (fun x24 _ => ?_)
      refine pw_bd (ra_does dX18) (fun x25 X26 dX26 => ?_)
      exact ih _ _ dX26
theorem ra_starts_72 (N : Nat) : ∀ (a1 : Int32) (a2 : Int32) (X : St), R1 X0 X → pw (f_starts_72 N a1 a2 X) (fun _ Y => R1 X0 Y) := by
  unfold f_starts_72
  refine lp_ind (P := fun (r : Int32 → Int32 → St → Option (Int32 × St)) => ∀ (a1 : Int32) (a2 : Int32) (X : St), R1 X0 X → pw (r a1 a2 X) (fun _ Y => R1 X0 Y)) (fun _ _ _ _ => pw_none) (fun r ih a1 a2 X h => ?_) N
  unfold f_starts_72_s
  refine pw_ite (fun _ => ?_) (fun _ => ?_)
  · refine pw_bd (ra_calls h) (fun _ X15 dX15 => ?_)
    refine pw_ck (fun _ => ?_)
    refine pw_eq (fun x16 _ => ?_)
    exact ra_starts_106 _ _ _ dX15
  · refine pw_ck (fun _ => ?_)
    refine pw_eq (fun X27 eX27 => ?_)
    have dX27 : R1 X0 X27 := by rw [eX27]; exact R1_w h (by decide)
    refine pw_eq (fun x28 _ => ?_)
    exact ih _ _ _ dX27
theorem ra_starts {p1 : Int32} {X : St} (h : R1 X0 X) : pw (f_starts p1 X) (fun _ Y => R1 X0 Y) := by
  unfold f_starts
  refine pw_eq (fun X1 eX1 => ?_)
  have dX1 : R1 X0 X1 := by rw [eX1]; exact R1_w h (by decide)
  refine pw_eq (fun X2 eX2 => ?_)
  have dX2 : R1 X0 X2 := by rw [eX2]; exact R1_w dX1 (by decide)
  refine pw_eq (fun X3 eX3 => ?_)
  have dX3 : R1 X0 X3 := by rw [eX3]; exact R1_w dX2 (by decide)
  refine pw_eq (fun X4 eX4 => ?_)
  have dX4 : R1 X0 X4 := by rw [eX4]; exact R1_w dX3 (by decide)
  refine pw_eq (fun X5 eX5 => ?_)
  have dX5 : R1 X0 X5 := by rw [eX5]; exact R1_w dX4 (by decide)
  refine pw_eq (fun X6 eX6 => ?_)
  have dX6 : R1 X0 X6 := by rw [eX6]; exact R1_w dX5 (by decide)
  refine pw_eq (fun X7 eX7 => ?_)
  have dX7 : R1 X0 X7 := by rw [eX7]; exact R1_w dX6 (by decide)
  refine pw_eq (fun X8 eX8 => ?_)
  have dX8 : R1 X0 X8 := by rw [eX8]; exact R1_w dX7 (by decide)
  refine pw_eq (fun X9 eX9 => ?_)
  have dX9 : R1 X0 X9 := by rw [eX9]; exact R1_w dX8 (by decide)
  refine pw_eq (fun X10 eX10 => ?_)
  have dX10 : R1 X0 X10 := by rw [eX10]; exact R1_w dX9 (by decide)
  refine pw_eq (fun X11 eX11 => ?_)
  have dX11 : R1 X0 X11 := by rw [eX11]; exact R1_w dX10 (by decide)
  refine pw_eq (fun X12 eX12 => ?_)
  have dX12 : R1 X0 X12 := by rw [eX12]; exact R1_w dX11 (by decide)
  refine pw_eq (fun X13 eX13 => ?_)
  have dX13 : R1 X0 X13 := by rw [eX13]; exact R1_w dX12 (by decide)
  refine pw_eq (fun X14 eX14 => ?_)
  have dX14 : R1 X0 X14 := by rw [eX14]; exact R1_w dX13 (by decide)
  exact ra_starts_72 _ _ _ _ dX14
theorem ra_run {p1 : Int32} {X : St} (h : R1 X0 X) : pw (f_run p1 X) (fun _ Y => R1 X0 Y) := by
  unfold f_run
  refine pw_eq (fun x1 _ => ?_)
  refine pw_ite (fun _ => ?_) (fun _ => ?_)
  · exact pw_ret h
  · refine pw_bd (ra_in h) (fun x2 X3 dX3 => ?_)
    refine pw_ite (fun _ => ?_) (fun _ => ?_)
    · exact pw_ret dX3
    · refine pw_eq (fun X4 eX4 => ?_)
      have dX4 : R1 X0 X4 := by rw [eX4]; exact R1_w dX3 (by decide)
      refine pw_eq (fun X5 eX5 => ?_)
      have dX5 : R1 X0 X5 := by rw [eX5]; exact R1_w dX4 (by decide)
      refine pw_eq (fun x6 _ => ?_)
      refine pw_bd (ra_starts dX5) (fun x7 X8 dX8 => ?_)
      exact pw_ret dX8
theorem ra_runUntold_31 {a1 : Int32} {X : St} (h : R1 X0 X) : pw (f_runUntold_31 a1 X) (fun _ Y => R1 X0 Y) := by
  unfold f_runUntold_31
  refine pw_eq (fun X5 eX5 => ?_)
  have dX5 : R1 X0 X5 := by rw [eX5]; exact R1_w h (by decide)
  refine pw_eq (fun X6 eX6 => ?_)
  have dX6 : R1 X0 X6 := by rw [eX6]; exact R1_w dX5 (by decide)
  refine pw_eq (fun x7 _ => ?_)
  refine pw_bd (ra_starts dX6) (fun x8 X9 dX9 => ?_)
  exact pw_ret dX9
theorem ra_runUntold {p1 : Int32} {X : St} (h : R1 X0 X) : pw (f_runUntold p1 X) (fun _ Y => R1 X0 Y) := by
  unfold f_runUntold
  refine pw_eq (fun x1 _ => ?_)
  refine pw_ite (fun _ => ?_) (fun _ => ?_)
  · exact pw_ret h
  · refine pw_bd (ra_in h) (fun x2 X3 dX3 => ?_)
    refine pw_ite (fun _ => ?_) (fun _ => ?_)
    · exact pw_ret dX3
    · refine pw_eq (fun x4 _ => ?_)
      refine pw_ite (fun _ => ?_) (fun _ => ?_)
      · refine pw_bd (ra_compiles dX3) (fun _ X10 dX10 => ?_)
        exact ra_runUntold_31 dX10
      · exact ra_runUntold_31 dX3
theorem ra_told_51 {a1 : Int32} {a2 : Int32} {a3 : Int32} {b0 : Int32} {X : St} (h : R1 X0 X) : pw (f_told_51 a1 a2 a3 b0 X) (fun _ Y => R1 X0 Y) := by
  unfold f_told_51
  refine pw_ite (fun _ => ?_) (fun _ => ?_)
  · refine pw_eq (fun x4 _ => ?_)
    exact pw_ret h
  · refine pw_ite (fun _ => ?_) (fun _ => ?_)
    · refine pw_eq (fun x6 _ => ?_)
      exact pw_ret h
    · refine pw_ite (fun _ => ?_) (fun _ => ?_)
      · refine pw_eq (fun x8 _ => ?_)
        exact pw_ret h
      · refine pw_ite (fun _ => ?_) (fun _ => ?_)
        · refine pw_eq (fun x10 _ => ?_)
          exact pw_ret h
        · refine pw_ite (fun _ => ?_) (fun _ => ?_)
          · exact pw_ret h
          · refine pw_ite (fun _ => ?_) (fun _ => ?_)
            · refine pw_ite (fun _ => ?_) (fun _ => ?_)
              · refine pw_bd (ra_within h) (fun x15 X16 dX16 => ?_)
                refine pw_ck (fun _ => ?_)
                refine pw_eq (fun x17 _ => ?_)
                exact pw_ret dX16
              · refine pw_ite (fun _ => ?_) (fun _ => ?_)
                · refine pw_bd (ra_within h) (fun x13 X14 dX14 => ?_)
                  exact pw_ret dX14
                · exact pw_ret h
            · refine pw_ite (fun _ => ?_) (fun _ => ?_)
              · refine pw_ite (fun _ => ?_) (fun _ => ?_)
                · exact pw_ret h
                · refine pw_bd (ra_deep h) (fun x19 X20 dX20 => ?_)
                  exact pw_ret dX20
              · refine pw_ite (fun _ => ?_) (fun _ => ?_)
                · refine pw_eq (fun x22 _ => ?_)
                  exact pw_ret h
                · refine pw_ite (fun _ => ?_) (fun _ => ?_)
                  · refine pw_eq (fun x24 _ => ?_)
                    exact pw_ret h
                  · refine pw_ite (fun _ => ?_) (fun _ => ?_)
                    · refine pw_eq (fun x26 _ => ?_)
                      exact pw_ret h
                    · exact pw_ret h
theorem ra_told_36 {a1 : Int32} {a2 : Int32} {b0 : Int32} {X : St} (h : R1 X0 X) : pw (f_told_36 a1 a2 b0 X) (fun _ Y => R1 X0 Y) := by
  unfold f_told_36
  refine pw_ite (fun _ => ?_) (fun _ => ?_)
  · exact ra_told_51 h
  · refine pw_ck (fun _ => ?_)
    refine pw_eq (fun x27 _ => ?_)
    exact ra_told_51 h
theorem ra_told_21 {a1 : Int32} {b0 : Int32} {X : St} (h : R1 X0 X) : pw (f_told_21 a1 b0 X) (fun _ Y => R1 X0 Y) := by
  unfold f_told_21
  refine pw_ite (fun _ => ?_) (fun _ => ?_)
  · exact ra_told_36 h
  · refine pw_ck (fun _ => ?_)
    refine pw_eq (fun x28 _ => ?_)
    exact ra_told_36 h
theorem ra_told {p1 : Int32} {X : St} (h : R1 X0 X) : pw (f_told p1 X) (fun _ Y => R1 X0 Y) := by
  unfold f_told
  refine pw_eq (fun x1 _ => ?_)
  refine pw_ite (fun _ => ?_) (fun _ => ?_)
  · exact pw_ret h
  · refine pw_eq (fun x2 _ => ?_)
    refine pw_ite (fun _ => ?_) (fun _ => ?_)
    · exact ra_told_21 h
    · exact ra_told_21 h
theorem ra_out {p1 : Int32} {X : St} (h : R1 X0 X) : pw (f_out p1 X) (fun _ Y => R1 X0 Y) := by
  unfold f_out
  refine pw_eq (fun x1 _ => ?_)
  refine pw_ite (fun _ => ?_) (fun _ => ?_)
  · exact pw_ret h
  · refine pw_eq (fun x2 _ => ?_)
    refine pw_eq (fun x3 _ => ?_)
    refine pw_bd (ra_in h) (fun x4 X5 dX5 => ?_)
    refine pw_ite (fun _ => ?_) (fun _ => ?_)
    · exact pw_ret dX5
    · refine pw_ck (fun _ => ?_)
      refine pw_eq (fun x6 _ => ?_)
      exact pw_ret dX5
theorem ra_asked {p1 : Int32} {p2 : Int32} {X : St} (h : R1 X0 X) : pw (f_asked p1 p2 X) (fun _ Y => R1 X0 Y) := by
  unfold f_asked
  refine pw_eq (fun x1 _ => ?_)
  refine pw_ite (fun _ => ?_) (fun _ => ?_)
  · exact pw_ret h
  · refine pw_eq (fun x2 _ => ?_)
    refine pw_eq (fun x3 _ => ?_)
    refine pw_bd (ra_in h) (fun x4 X5 dX5 => ?_)
    refine pw_ite (fun _ => ?_) (fun _ => ?_)
    · exact pw_ret dX5
    · refine pw_eq (fun x6 _ => ?_)
      refine pw_eq (fun x7 _ => ?_)
      refine pw_bd (ra_in dX5) (fun x8 X9 dX9 => ?_)
      refine pw_ite (fun _ => ?_) (fun _ => ?_)
      · exact pw_ret dX9
      · refine pw_eq (fun x10 _ => ?_)
        refine pw_eq (fun x11 _ => ?_)
        refine pw_ck (fun _ => ?_)
        refine pw_eq (fun x12 _ => ?_)
        exact pw_ret dX9
theorem ra_about {p1 : Int32} {X : St} (h : R1 X0 X) : pw (f_about p1 X) (fun _ Y => R1 X0 Y) := by
  unfold f_about
  refine pw_ite (fun _ => ?_) (fun _ => ?_)
  · refine pw_eq (fun x2 _ => ?_)
    exact pw_ret h
  · refine pw_ite (fun _ => ?_) (fun _ => ?_)
    · refine pw_eq (fun x4 _ => ?_)
      exact pw_ret h
    · refine pw_ite (fun _ => ?_) (fun _ => ?_)
      · refine pw_eq (fun x6 _ => ?_)
        refine pw_ite (fun _ => ?_) (fun _ => ?_)
        · exact pw_ret h
        · exact pw_ret h
      · refine pw_ite (fun _ => ?_) (fun _ => ?_)
        · refine pw_eq (fun x8 _ => ?_)
          refine pw_ite (fun _ => ?_) (fun _ => ?_)
          · exact pw_ret h
          · refine pw_eq (fun x9 _ => ?_)
            exact pw_ret h
        · exact pw_ret h
end RTAPE
