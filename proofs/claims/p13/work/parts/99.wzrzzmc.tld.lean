/-! what told() says where a run has just ended: both sides -/
section TLDS
variable {X Y Z X1 Y1 X2 Y2 : St} {r : Nat → Int32} {s w p1 z z' a1 a2 a3 b0 : Int32} {y : Int64} {ks : List (List Int)} {u : Bool}
theorem l_core01 (h : ¬ s.toInt = 2) : pw (g_Heap_core (VLs s w) Y) (fun z Y1 => Y1 = Y ∧ z = VLs s w) := by
  obtain ⟨yc, hy⟩ : ∃ yc : Nat → Int64, ∀ i, yc i = VLs s w := ⟨fun _ => VLs s w, fun _ => rfl⟩
  have hc : CCH Y yc (fun _ => 0) 0 := ⟨by omega, fun i hi => absurd hi (Nat.not_lt_zero _), s, w, hy 0, h⟩
  have hq := l_core hc
  rw [hy] at hq
  exact hq
/-- the class: which value is told of -/
theorem l_tellOf {Q : Int32 → St → Prop} (h1 : (Y.1 70 15).toInt = 1 → pw (g_Running_tellOf_22 p1 (Y.2.1 84 0) Y) Q) (h2 : ¬ (Y.1 70 15).toInt = 1 → ∀ y : Int64, pw (g_Running_tellOf_22 p1 y Y) Q) : pw (g_Running_tellOf p1 Y) Q := by
  have l1 : (1 : Int32).toInt = 1 := by decide
  unfold g_Running_tellOf
  refine pw_let (pw_ite (fun c => h2 (by omega) _) (fun c => pw_let (pw_eq (fun x33 e33 => pw_ck (fun _ => pw_let ?_)))))
  by_cases g : (Y.1 70 15).toInt = 1
  · have e : ix x33 = 0 := ixn (by rw [e33, ti_sub (by rw [g, l1]; omega) (by rw [g, l1]; omega), g, l1]; rfl)
    rw [e]
    exact h1 g
  · exact h2 g _
/-- contents and depths that both tell -/
def TLV (X Y : St) (a2 s w : Int32) (y : Int64) : Prop := pw (f_told_51 4 a2 s w X) (fun a _ => pw (g_Running_tellOf_22 4 y Y) (fun a1 _ => a1 = a)) ∧ pw (f_told_51 5 a2 s w X) (fun a _ => pw (g_Running_tellOf_22 5 y Y) (fun a1 _ => a1 = a)) ∧ pw (f_told_51 6 a2 s w X) (fun a _ => pw (g_Running_tellOf_22 6 y Y) (fun a1 _ => a1 = a))
theorem n_told51 (hS : SCr X Y) (h5 : Y.1 70 5 = X.1 0 43) (h6 : Y.1 70 6 = X.1 0 44) (hT : TLV X Y a2 s w y) : pw (f_told_51 p1 a2 s w X) (fun a _ => pw (g_Running_tellOf_22 p1 y Y) (fun a1 _ => a1 = a)) := by
  obtain ⟨⟨s1, s2, s3, s4⟩, ⟨s5, s6⟩, _, _⟩ := hS
  by_cases g4 : p1 = 4
  · rw [g4]; exact hT.1
  by_cases g5 : p1 = 5
  · rw [g5]; exact hT.2.1
  by_cases g6 : p1 = 6
  · rw [g6]; exact hT.2.2
  have n4 : ¬ p1.toInt = 4 := fun q => g4 (Int32.toInt_inj.mp (q.trans (by decide)))
  have n5 : ¬ p1.toInt = 5 := fun q => g5 (Int32.toInt_inj.mp (q.trans (by decide)))
  have n6 : ¬ p1.toInt = 6 := fun q => g6 (Int32.toInt_inj.mp (q.trans (by decide)))
  unfold f_told_51 g_Running_tellOf_22
  refine pw_ite (fun c => pw_let (pw_ret (pw_pos c (pw_let (pw_ret h5))))) (fun c0 => ?_)
  refine pw_ite (fun c => pw_let (pw_ret (pw_neg c0 (pw_pos c (pw_let (pw_ret h6)))))) (fun c1 => ?_)
  refine pw_ite (fun c => pw_let (pw_ret (pw_neg c0 (pw_neg c1 (pw_pos c (pw_let (pw_ret s1))))))) (fun c2 => ?_)
  refine pw_ite (fun c => pw_let (pw_ret (pw_neg c0 (pw_neg c1 (pw_neg c2 (pw_pos c (pw_let (pw_ret s2)))))))) (fun c3 => ?_)
  refine pw_neg n4 (pw_neg n5 (pw_neg n6 ?_))
  refine pw_ite (fun c => pw_let (pw_ret (pw_neg c0 (pw_neg c1 (pw_neg c2 (pw_neg c3 (pw_neg n4 (pw_neg n5 (pw_neg n6 (pw_pos c (pw_let (pw_ret s4)))))))))))) (fun c7 => ?_)
  refine pw_ite (fun c => pw_let (pw_ret (pw_neg c0 (pw_neg c1 (pw_neg c2 (pw_neg c3 (pw_neg n4 (pw_neg n5 (pw_neg n6 (pw_neg c7 (pw_pos c (pw_let (pw_ret s6))))))))))))) (fun c8 => ?_)
  refine pw_ite (fun c => pw_let (pw_ret (pw_neg c0 (pw_neg c1 (pw_neg c2 (pw_neg c3 (pw_neg n4 (pw_neg n5 (pw_neg n6 (pw_neg c7 (pw_neg c8 (pw_pos c (pw_let (pw_ret s5)))))))))))))) (fun c9 => ?_)
  exact pw_ret (pw_neg c0 (pw_neg c1 (pw_neg c2 (pw_neg c3 (pw_neg n4 (pw_neg n5 (pw_neg n6 (pw_neg c7 (pw_neg c8 (pw_neg c9 (pw_ret rfl)))))))))))
theorem l_tell4 {cc : Int32} (h5 : (Y.1 70 5).toInt = 0) (k1 : pw (g_Heap_core y Y) (fun z Y1 => Y1 = Y ∧ z = VLs s cc)) : pw (g_Running_tellOf_22 4 y Y) (fun a1 _ => a1 = s) := by
  unfold g_Running_tellOf_22
  refine pw_neg (by decide) (pw_neg (by decide) (pw_neg (by decide) (pw_neg (by decide) (pw_pos (by decide) (pw_let (pw_pos h5 (pw_bd k1 ?_)))))))
  rintro y12 X13 ⟨e13, e12⟩
  rw [e13, e12]
  exact pw_bd l_hsortOf (fun x14 X15 q => pw_ret q.2)
theorem l_tell5 {cc : Int32} (h5 : (Y.1 70 5).toInt = 0) (k1 : pw (g_Heap_core y Y) (fun z Y1 => Y1 = Y ∧ z = VLs s cc)) (ha : pw (g_Running_contentTold (VLs s cc) Y) (fun b1 _ => b1 = a1)) : pw (g_Running_tellOf_22 5 y Y) (fun b1 _ => b1 = a1) := by
  unfold g_Running_tellOf_22
  refine pw_neg (by decide) (pw_neg (by decide) (pw_neg (by decide) (pw_neg (by decide) (pw_neg (by decide) (pw_pos (by decide) (pw_let (pw_pos h5 (pw_bd k1 ?_))))))))
  rintro y18 X19 ⟨e19, e18⟩
  rw [e19, e18]
  exact pw_bd ha (fun _ _ q => pw_ret q)
theorem l_tell6 (h5 : (Y.1 70 5).toInt = 0) (hw : pw (g_Heap_wrappingOf y Y) (fun x Y1 => Y1 = Y ∧ ((x = -1 ∧ a1 = 0) ∨ (0 ≤ x.toInt ∧ Y.1 81 (ix x) = a1)))) : pw (g_Running_tellOf_22 6 y Y) (fun b1 _ => b1 = a1) := by
  unfold g_Running_tellOf_22
  refine pw_neg (by decide) (pw_neg (by decide) (pw_neg (by decide) (pw_neg (by decide) (pw_neg (by decide) (pw_neg (by decide) (pw_pos (by decide) (pw_let (pw_pos h5 (pw_bd (R := fun b1 _ => b1 = a1) ?_ (fun _ _ q => pw_ret q))))))))))
  unfold g_Heap_wrappingsAround
  refine pw_bd hw ?_
  rintro x1 X2 ⟨e2, h1⟩
  rw [e2]
  rcases h1 with ⟨q1, q2⟩ | ⟨q1, q2⟩
  · exact pw_pos (by rw [q1]; decide) (pw_ret q2.symm)
  · exact pw_neg (by omega) (pw_ck (fun _ => pw_let (pw_ret q2)))
theorem l_cont {cc : Int32} (h : ¬ s.toInt = 3) : pw (g_Running_contentTold (VLs s cc) Y) (fun b1 _ => b1 = cc) := by
  unfold g_Running_contentTold
  refine pw_bd l_hsortOf ?_
  rintro x1 X2 ⟨q2, q1⟩
  rw [q2, q1]
  exact pw_neg h (pw_bd l_contentOf (fun x3 X4 q3 => pw_ret q3.2))
theorem l_cont3 {cc : Int32} (hs : s.toInt = 3) (h : 0 ≤ cc.toInt ∧ cc.toInt < (Y.1 71 0).toInt) : pw (g_Running_contentTold (VLs s cc) Y) (fun b1 _ => b1 = Y.1 73 (ix cc)) := by
  have es : s = 3 := Int32.toInt_inj.mp (hs.trans (by decide))
  rw [es]
  unfold g_Running_contentTold
  refine pw_bd l_hsortOf ?_
  rintro x1 X2 ⟨q2, q1⟩
  rw [q2, q1]
  exact pw_pos (by decide) (pw_bd (l_len h) (fun x5 X6 q5 => pw_ret q5.2))
theorem n_t4 : pw (f_told_51 4 a2 s w X) (fun a _ => a = s) := by
  unfold f_told_51
  exact pw_neg (by decide) (pw_neg (by decide) (pw_neg (by decide) (pw_neg (by decide) (pw_pos (by decide) (pw_ret rfl)))))
theorem n_t5 {Q : Int32 → St → Prop} (h3 : s.toInt = 3 → pw (f_within 3 w X) (fun z X1 => X1 = X ∧ Q (X.1 66 (ix z)) X)) (h4 : s.toInt = 4 → pw (f_within 4 w X) (fun z X1 => Q z X1)) (h0 : ¬ s.toInt = 3 → ¬ s.toInt = 4 → Q w X) : pw (f_told_51 5 a2 s w X) Q := by
  unfold f_told_51
  refine pw_neg (by decide) (pw_neg (by decide) (pw_neg (by decide) (pw_neg (by decide) (pw_neg (by decide) (pw_pos (by decide) (pw_ite (fun c3 => pw_bd (h3 c3) ?_) (fun c3 => pw_ite (fun c4 => pw_bd (h4 c4) (fun _ _ q => pw_ret q)) (fun c4 => pw_ret (h0 c3 c4)))))))))
  rintro x15 X16 ⟨e16, q⟩
  rw [e16]
  exact pw_ck (fun _ => pw_let (pw_ret q))
theorem n_t6 {Q : Int32 → St → Prop} (h2 : ¬ a2.toInt = 0) (h : pw (f_deep s w X) Q) : pw (f_told_51 6 a2 s w X) Q := by
  unfold f_told_51
  exact pw_neg (by decide) (pw_neg (by decide) (pw_neg (by decide) (pw_neg (by decide) (pw_neg (by decide) (pw_neg (by decide) (pw_pos (by decide) (pw_neg h2 (pw_bd h (fun _ _ q => pw_ret q)))))))))
/-- a value: its sort, its content, what is around it -/
theorem TLV.good (hH : HR X Y r ks) (hv : VR X r s w y) {G : Nat → Int32} (hP : HP u X G) (h3 : s.toInt = 3 → RV X w) (h4 : s.toInt = 4 → FV X w) (h5 : (Y.1 70 5).toInt = 0) : TLV X Y 1 s w y := by
  by_cases hp : s.toInt = 3 ∨ s.toInt = 4
  · obtain ⟨cc, k1, k3, k4⟩ := n_core hP hH hv h3 h4
    refine ⟨pw_mono n_t4 (fun a _ e => by rw [e]; exact l_tell4 h5 k1), n_t5 (fun c3 => ?_) (fun c4 => ?_) (fun c3 c4 => absurd hp (by omega)), n_t6 (by decide) (pw_mono (n_deep hH hp hv) (fun a _ q => l_tell6 h5 (pw_mono q.2.2 (fun x Y1 z => ⟨z.1, z.2⟩))))⟩
    · obtain ⟨f, D, f0, hc, hD, ec⟩ := k3 c3
      have hr := hH.raw hc
      rw [← f0]
      refine pw_mono (n_within3 hP.1.2.1 (by decide) hc hD) ?_
      rintro x15 X16 ⟨e16, e15⟩
      refine ⟨e16, l_tell5 h5 k1 ?_⟩
      rw [e15, ← hr.2.1.2, ec]
      exact l_cont3 c3 hr.1
    · obtain ⟨f, D, f0, hc, hD, ec⟩ := k4 c4
      rw [← f0]
      refine pw_mono (n_within4 (by decide) hc) ?_
      rintro x13 X14 ⟨e14, e13⟩
      rw [e13, ← ec]
      exact l_tell5 h5 k1 (l_cont (by omega))
  · rcases hv with ⟨⟨v0, v1, _⟩, v2⟩ | ⟨v, _⟩ | ⟨v, _⟩
    · have k1 : pw (g_Heap_core y Y) (fun z Y1 => Y1 = Y ∧ z = VLs s w) := by
        rw [v2]
        exact l_core01 (by omega)
      refine ⟨pw_mono n_t4 (fun a _ e => by rw [e]; exact l_tell4 h5 k1), n_t5 (fun c3 => absurd (Or.inl c3) hp) (fun c4 => absurd (Or.inr c4) hp) (fun c3 _ => l_tell5 h5 k1 (l_cont c3)), n_t6 (by decide) ?_⟩
      unfold f_deep
      refine pw_neg (fun q => hp (Or.inl q)) (pw_neg (fun q => hp (Or.inr q)) (pw_ret (l_tell6 h5 ?_)))
      rw [v2]
      exact pw_mono (l_wrapOfN (by omega)) (fun x Y1 q => ⟨q.1, Or.inl ⟨q.2, rfl⟩⟩)
    · exact absurd (Or.inl v) hp
    · exact absurd (Or.inr v) hp
theorem TLV.bad (h5 : ¬ (Y.1 70 5).toInt = 0) : TLV X Y 0 (-1) (-1) y := by
  refine ⟨?_, ?_, ?_⟩
  · unfold f_told_51 g_Running_tellOf_22
    exact pw_neg (by decide) (pw_neg (by decide) (pw_neg (by decide) (pw_neg (by decide) (pw_pos (by decide) (pw_ret (pw_neg (by decide) (pw_neg (by decide) (pw_neg (by decide) (pw_neg (by decide) (pw_pos (by decide) (pw_let (pw_neg h5 (pw_ret rfl)))))))))))))
  · unfold f_told_51 g_Running_tellOf_22
    exact pw_neg (by decide) (pw_neg (by decide) (pw_neg (by decide) (pw_neg (by decide) (pw_neg (by decide) (pw_pos (by decide) (pw_neg (by decide) (pw_neg (by decide) (pw_ret (pw_neg (by decide) (pw_neg (by decide) (pw_neg (by decide) (pw_neg (by decide) (pw_neg (by decide) (pw_pos (by decide) (pw_let (pw_neg h5 (pw_ret rfl)))))))))))))))))
  · unfold f_told_51 g_Running_tellOf_22
    exact pw_neg (by decide) (pw_neg (by decide) (pw_neg (by decide) (pw_neg (by decide) (pw_neg (by decide) (pw_neg (by decide) (pw_pos (by decide) (pw_pos (by decide) (pw_ret (pw_neg (by decide) (pw_neg (by decide) (pw_neg (by decide) (pw_neg (by decide) (pw_neg (by decide) (pw_neg (by decide) (pw_pos (by decide) (pw_let (pw_neg h5 (pw_ret rfl))))))))))))))))))
theorem FINAL.fv (h : FINAL u X) : ∃ G, HP u X G ∧ ((X.1 60 0).toInt = 3 → RV X (X.1 61 0)) ∧ ((X.1 60 0).toInt = 4 → FV X (X.1 61 0)) := by
  obtain ⟨G, k, a, b⟩ := h
  rcases b with ⟨_, _, b1, b2, _⟩ | ⟨_, b1, b2, _⟩
  · exact ⟨G, a, b1, b2⟩
  · exact ⟨G, a, b1, b2⟩
/-- told(), where a run has just ended -/
theorem n_told (hE : ENDq u X) (hF : FNr ks z X z' Y) : pw (f_told p1 X) (fun a _ => pw (g_Running_tellOf p1 Y) (fun b1 _ => b1 = a)) := by
  obtain ⟨_, hS, ⟨h5, h6⟩, _, hv⟩ := hF
  obtain ⟨e41, _, hE⟩ := hE
  have i0 : ix (0 : Int32) = 0 := rfl
  unfold f_told
  refine pw_let (pw_neg (by rw [e41]; decide) (pw_let (pw_ite (fun c => ?_) (fun c => ?_))))
  · unfold f_told_21
    refine pw_neg (by decide) (pw_ck (fun _ => pw_let ?_))
    unfold f_told_36
    refine pw_neg (by decide) (pw_ck (fun _ => pw_let ?_))
    rw [i0]
    obtain ⟨r, hH, hV, h15⟩ := hv c
    obtain ⟨G, hP, g3, g4⟩ := (hE c).fv
    refine pw_mono (n_told51 hS h5 h6 (TLV.good hH hV hP g3 g4 (by rw [h5]; exact c))) (fun a _ q => l_tellOf (fun _ => q) (fun n => absurd h15 n))
  · unfold f_told_21
    refine pw_pos (by decide) ?_
    unfold f_told_36
    refine pw_pos (by decide) ?_
    have h50 : ¬ (Y.1 70 5).toInt = 0 := by rw [h5]; exact c
    have all : pw (f_told_51 p1 0 (-1) (-1) X) (fun a _ => ∀ y : Int64, pw (g_Running_tellOf_22 p1 y Y) (fun b1 _ => b1 = a)) := pw_all (fun y => n_told51 hS h5 h6 (TLV.bad h50))
    exact pw_mono all (fun a _ q => l_tellOf (fun _ => q _) (fun _ y => q y))
end TLDS
