/-! about() -/
section AB15
variable {e f : Nat} {XC XR : St} {p1 : Int32}
/-- about()'s answer -/
def abq (X : St) (p1 : Int32) : Int32 := if p1.toInt = 0 then X.1 0 0 else if p1.toInt = 1 then X.1 0 18 else if p1.toInt = 2 then (if (X.1 0 4).toInt = 0 then 0 else 1) else if p1.toInt = 3 then (if (X.1 0 4).toInt = 0 then -1 else X.1 0 28) else -1
theorem x_about15 : pw (f_about p1 XR) (fun r _ => r = abq XR p1) := by
  unfold f_about abq
  refine pw_ite (fun c0 => pw_let (pw_ret (by rw [if_pos c0]))) (fun c0 => ?_)
  rw [if_neg c0]
  refine pw_ite (fun c1 => pw_let (pw_ret (by rw [if_pos c1]))) (fun c1 => ?_)
  rw [if_neg c1]
  refine pw_ite (fun c2 => pw_let ?_) (fun c2 => ?_)
  · rw [if_pos c2]
    exact pw_ite (fun c => pw_ret (by rw [if_pos c])) (fun c => pw_ret (by rw [if_neg c]))
  rw [if_neg c2]
  refine pw_ite (fun c3 => pw_let ?_) (fun c3 => pw_ret (by rw [if_neg c3]))
  rw [if_pos c3]
  exact pw_ite (fun c => pw_ret (by rw [if_pos c])) (fun c => pw_let (pw_ret (by rw [if_neg c])))
theorem l_about15 (he : (e = 2 ∧ f = 24) ∨ (e = 24 ∧ f = 2)) (h : PJ8 e f XC XR) (ht : (XC.1 0 1).toInt = (XR.1 0 0).toInt) : pw (g_Court_about p1 XC) (fun r _ => r = abq XR p1) := by
  obtain ⟨⟨a1, a2⟩, _, d⟩ := h
  have l0 : (0 : Int32).toInt = 0 := by decide
  have q4 : (XC.1 0 4).toInt = 0 ↔ (XR.1 0 4).toInt = 0 := by
    rcases d with ⟨_, _, d3, d4, _⟩ | ⟨_, _, ch, n, ps, c, told, _, _, _, _, _, d8⟩
    · exact ⟨fun _ => d4, fun _ => d3⟩
    · rcases d8 with ⟨z1, z2⟩ | ⟨z1, z2, _⟩
      · exact ⟨fun _ => z2, fun _ => z1⟩
      · exact ⟨fun z => absurd z z1, fun z => absurd z z2⟩
  unfold g_Court_about abq
  refine pw_ite (fun c0 => pw_let (pw_ret (by rw [if_pos c0]; exact Int32.toInt_inj.mp ht))) (fun c0 => ?_)
  rw [if_neg c0]
  refine pw_ite (fun c1 => pw_let ?_) (fun c1 => ?_)
  · rw [if_pos c1]
    rcases d with ⟨d1, _, _, _, d5⟩ | ⟨d1, _, ch, n, ps, c, told, d3, d4, _⟩
    · exact pw_pos d1 (pw_ret (Int32.toInt_inj.mp (l0.trans d5.symm)))
    · exact pw_neg d1 (pw_ck (fun _ => pw_to (w := e) (by rw [a1]; rfl) (pw_let (pw_ret (Int32.toInt_inj.mp (d4.prt.trans d3.prt.symm))))))
  rw [if_neg c1]
  refine pw_ite (fun c2 => pw_let ?_) (fun c2 => ?_)
  · rw [if_pos c2]
    exact pw_ite (fun c => pw_ret (by rw [if_pos (q4.mp c)])) (fun c => pw_ret (by rw [if_neg (fun z => c (q4.mpr z))]))
  rw [if_neg c2]
  refine pw_ite (fun c3 => pw_let ?_) (fun c3 => pw_ret (by rw [if_neg c3]))
  rw [if_pos c3]
  refine pw_ite (fun c => pw_ret (by rw [if_pos (q4.mp c)])) (fun c => ?_)
  rw [if_neg (fun z => c (q4.mpr z))]
  rcases d with ⟨_, _, d3, _⟩ | ⟨_, _, ch, n, ps, c0, told, _, _, _, _, _, d8⟩
  · exact absurd d3 c
  · rcases d8 with ⟨z1, _⟩ | ⟨_, _, G, _, z4, z5⟩
    · exact absurd z1 c
    · exact pw_let (pw_ret (Int32.toInt_inj.mp (z4.1.trans z5.1.symm)))
end AB15
