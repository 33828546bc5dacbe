/-! the reference's judge goes over all parts -/
/-- the code of a part -/
def pcd (ps : List Pt) (c : List Ins) (g : Nat) : List Ins := (c.take (pend ps c g)).drop (ps.getD g (0, 0, [], [], [], 0)).2.2.2.2.2
/-- where a part begins -/
def pst (ps : List Pt) (g : Nat) : Nat := (ps.getD g (0, 0, [], [], [], 0)).2.2.2.2.2
/-- the judge as it begins part g -/
def js0 (ps : List Pt) (told : Nat → Bool) (g : Nat) (G : List JG) : JS := ([], (fun x => (pks ps told g)[x]?), decide ((3 : Int) ∈ oks ps told g) || (pks ps told g).any (fun d => decide ((3 : Int) ∈ d)), G)
/-- all parts from k on: guards and where any stands, or a fault -/
def JALL (ch : Tx) (ps : List Pt) (told : Nat → Bool) (c : List Ins) : Nat → Nat → List JG × List Bool → Sum (List JG × List Bool) (Int × Int) → Prop
  | 0, _, G, r => r = Sum.inl G
  | m + 1, k, G, r => (∃ J, JRN ch ps told c k (pst ps k) [] (js0 ps told k G.1) (pcd ps c k) (Sum.inl J) ∧ JALL ch ps told c m (k + 1) (J.2.2.2, G.2 ++ [J.2.2.1]) r) ∨ ∃ f, JRN ch ps told c k (pst ps k) [] (js0 ps told k G.1) (pcd ps c k) (Sum.inr f) ∧ r = Sum.inr f
/-- between parts -/
def RG (X0 X : St) (G : List JG) : Prop := RJB X0 X ∧ (X.1 0 9).toInt = 0 ∧ (X.1 0 28).toInt = (G.length : Int) ∧ ∀ (i : Nat) (G1 : JG), G[i]? = some G1 → RGd X i G1
/-- what judging leaves -/
def RJf (X0 Y : St) : Sum (List JG × List Bool) (Int × Int) → Prop
  | Sum.inl G => RG X0 Y G.1 ∧ (Y.1 0 4).toInt = 1
  | Sum.inr f => RJB X0 Y ∧ (Y.1 0 9).toInt = f.1 ∧ (Y.1 0 10).toInt = f.2 ∧ ¬ f.1 = 0 ∧ (Y.1 0 4).toInt = 0
section JALLS
variable {X0 X Y Z : St} {g j D s n m k : Nat} {J J1 : JS} {d w : List Int} {c : List Ins} {S : List SE} {a : Ins} {ch : Tx} {ps : List Pt} {told : Nat → Bool} {b : Bool} {r37 : Int32 → St → Option (Int32 × St)} {a1 a2 : Int32} {Q : Int32 → St → Prop} {G : List JG} {l : List (List Int)} {an : Bool} {po : Nat → Nat}
theorem RJ.rg (h : RJ X0 X g J) : RG X0 X J.2.2.2 := ⟨h.1, h.2.1.1, h.2.1.2.2.2, h.2.2.2.2⟩
theorem RG.ky (h : RG X0 X G) (b : RKy X Y) : RG X0 Y G := by
  obtain ⟨h1, h9, h28, h5⟩ := h
  exact ⟨h1.tr b.1, by rw [b.2 0 9 (by omega)]; exact h9, by rw [b.2 0 28 (by omega)]; exact h28, fun i G hG => (h5 i G hG).kx h1.2.1 b.1.2.2.2 (fun e he => b.2 e i (by omega))⟩
/-- a cell that nobody looks at -/
theorem RG.w0 {v : Int32} (h : RG X0 X G) (hk : k = 29 ∨ k = 30 ∨ k = 4) : RG X0 (wI X 0 k v) G := by
  obtain ⟨h1, h9, h28, h5⟩ := h
  have b : RJB X (wI X 0 k v) := RJB.wr h1.2.1 h1.2.2.1 (by unfold kpJ; omega) (by omega) (by omega)
  have r : ∀ e q, ¬ (e = 0 ∧ q = k) → (wI X 0 k v).1 e q = X.1 e q := fun e q z => wI_ne _ _ _ _ _ _ (by omega)
  exact ⟨h1.tr b, by rw [r 0 9 (by omega)]; exact h9, by rw [r 0 28 (by omega)]; exact h28, fun i G hG => (h5 i G hG).kx h1.2.1 b.2.2.2 (fun e he => r e i (by omega))⟩
theorem RG.rj (h : RG X0 X G) (h29 : (X.1 0 29).toInt = (g : Int)) (h30 : (X.1 0 30).toInt = 0) : RJ X0 X g ([], (fun x => (l.take 0)[x]?), an, G) := by
  obtain ⟨h1, h9, h28, h5⟩ := h
  exact ⟨h1, ⟨h9, h29, h30, h28⟩, fun i d hd => absurd hd.symm (Option.some_ne_none _), fun x d hd => absurd hd.symm (Option.some_ne_none _), h5⟩
theorem RJ.par {v : Int32} {i : Nat} (h : RJ X0 X g ([], (fun x => (l.take i)[x]?), an, G)) (hv : KTo X v d) (hd : l[i]? = some d) : RJ X0 (wI X 59 i v) g ([], (fun x => (l.take (i + 1))[x]?), an, G) := by
  have h1 : RJ X0 X g (jpop 1 ([], (fun x => (l.take i)[x]?), an, G)) := h
  have h2 := h1.bind (x := i) hv
  have e : (fun k => if k = i then some d else (l.take i)[k]?) = (fun x => (l.take (i + 1))[x]?) := by
    funext x
    rw [List.take_add_one, hd]
    have hi := (List.getElem?_eq_some_iff.mp hd).1
    have ln : (l.take i).length = i := by rw [List.length_take]; omega
    show _ = (l.take i ++ [d])[x]?
    by_cases z : x = i
    · rw [if_pos z, z, List.getElem?_append_right (by rw [ln]; exact Nat.le_refl _), ln, Nat.sub_self]
      rfl
    · rw [if_neg z]
      by_cases y : x < i
      · rw [List.getElem?_append_left (by rw [ln]; exact y)]
      · rw [List.getElem?_eq_none (by rw [ln]; omega), List.getElem?_eq_none (by rw [List.length_append, ln, List.length_singleton]; omega)]
  have h3 : RJ X0 (wI X 59 i v) g ([], (fun k => if k = i then some d else (l.take i)[k]?), an, G) := h2
  rw [e] at h3
  exact h3
theorem x_210 {P : St → Prop} (hr : (∃ G, RG X0 X G ∧ ∀ Y, RG X0 Y G → (Y.1 0 4).toInt = 1 → P Y) ∨ ∃ f : Int × Int, (RJB X0 X ∧ (X.1 0 9).toInt = f.1 ∧ (X.1 0 10).toInt = f.2 ∧ ¬ f.1 = 0) ∧ ∀ Y, RJf X0 Y (Sum.inr f) → P Y) : pw (f_judges_210 X) (fun _ Y => P Y) := by
  unfold f_judges_210
  refine pw_bd x_well ?_
  rintro x10 X11 ⟨e11, w, w2⟩
  rw [e11]
  refine pw_ck (fun _ => pw_eq (fun X12 e12 => pw_ret ?_))
  rcases hr with ⟨G, hG, hP⟩ | ⟨f, ⟨f1, f2, f3, f4⟩, hP⟩
  · have h9 := hG.2.1
    refine hP X12 (by rw [e12]; exact hG.w0 (by omega)) ?_
    rw [e12, wI_at]
    rcases w2 with z | z
    · exact absurd h9 (w.mp z)
    · exact z
  · refine hP X12 ?_
    have b : RJB X X12 := by rw [e12]; exact RJB.wr f1.2.1 f1.2.2.1 (by unfold kpJ; omega) (by omega) (by omega)
    exact ⟨f1.tr b, by rw [e12, wI_ne _ _ _ _ _ _ (by omega)]; exact f2, by rw [e12, wI_ne _ _ _ _ _ _ (by omega)]; exact f3, f4, by rw [e12, wI_at]; exact w.mpr (by rw [f2]; exact f4)⟩
/-- the whole text: what is needed of compiling -/
def JPRE (ch : Tx) (X0 : St) (ps : List Pt) (told : Nat → Bool) (c : List Ins) (po : Nat → Nat) : Prop := PJq X0 ps told ∧ PWd ps ∧ KJq X0 ∧ ps.length ≤ 40 ∧ (X0.1 0 18).toInt = (ps.length : Int) ∧ (X0.1 0 26).toInt = (po ps.length : Int) ∧ (∀ k, k < ps.length → (X0.1 44 k).toInt = (po k : Int)) ∧ ∀ k p, ps[k]? = some p → PRT X0 (nrp ch ps) c po k p.2.2.2.2.2 (pend ps c k) ∧ ∀ a ∈ pcd ps c k, PIq k a
theorem pcd_at {nr : Int → Int} {p : Pt} (hk : ps[k]? = some p) (h : PRT X nr c po k p.2.2.2.2.2 (pend ps c k)) : AOL X nr c (pst ps k) false (po k) [] (pcd ps c k) ∧ po k + owt false (pcd ps c k) = po (k + 1) ∧ DLA (X.1 15 k).toInt (pcd ps c k) := by
  obtain ⟨dd, a1, a2, a3, a4⟩ := h
  have e0 : ps.getD k (0, 0, [], [], [], 0) = p := pt_getD hk
  have e : pcd ps c k = dd := by
    unfold pcd
    rw [e0]
    obtain ⟨l1, l2, h1, h2, _⟩ := a1
    rw [← a2, ← h2, h1, List.take_append, List.take_of_length_le (by omega), show l1.length + dd.length - l1.length = dd.length by omega, List.take_left, List.drop_left]
  have ep : pst ps k = p.2.2.2.2.2 := by unfold pst; rw [e0]
  rw [e, ep]
  exact ⟨a3.1, a3.2.2.1, a4⟩
theorem x_part7 (hp : JPRE ch X0 ps told c po) (hk : k < ps.length) (h1 : a1.toInt = (k : Int)) (h : RJ X0 X k (js0 ps told k G)) (hQ : ∀ Y r, JRN ch ps told c k (pst ps k) [] (js0 ps told k G) (pcd ps c k) r → RJr X0 Y k r → pw (f_judges_204 r37 a1 Y) Q) (e2 : a2.toInt = (po (k + 1) : Int)) : pw (f_judges_167 r37 a1 a2 X) Q := by
  obtain ⟨hP, hW, hJ, hl, p18, p26, p44, hR⟩ := hp
  obtain ⟨p, hpt⟩ : ∃ p, ps[k]? = some p := ⟨_, List.getElem?_eq_getElem hk⟩
  obtain ⟨r1, r2⟩ := hR k p hpt
  obtain ⟨q1, q2, q3⟩ := pcd_at hpt r1
  have h15 := (hP k p hpt).1
  unfold f_judges_167
  refine pw_ck (fun _ => pw_eq (fun x26 e26 => ?_))
  have v26 : x26.toInt = (po k : Int) := by rw [e26, ixn h1, h.1.1 44 k (by unfold kpJ; omega)]; exact p44 k hk
  have hO : JOK p.2.2.2.1.length [] (js0 ps told k G) := by
    have f := wk_fks (told := told) hW hk
    refine ⟨rfl, fun d hd => absurd hd List.not_mem_nil, fun i w k1 hw => absurd hw.symm (Option.some_ne_none _), fun x hx => ?_, fun x d hd => ?_⟩
    · exact ⟨_, List.getElem?_eq_getElem (by rw [pks_ln hpt]; exact hx)⟩
    · have hd : (pks ps told k)[x]? = some d := hd
      exact (f.2.1 d (List.mem_of_getElem? hd)).up (by omega)
  have hD : DLk p.2.2.2.1.length (pcd ps c k) := by
    have := q3 p.2.2.2.1.length [] (by omega) (fun _ _ => trivial)
    rw [List.append_nil] at this
    exact this
  exact x_seg hP hW hJ hk (by omega) _ _ _ _ _ _ _ X h hO q1 hD r2 (by rw [q2, e2]) hQ BIG x26 v26
theorem x_params (hp : JPRE ch X0 ps told c po) (hk : k < ps.length) (h1 : a1.toInt = (k : Int)) (hQ : ∀ Y r, JRN ch ps told c k (pst ps k) [] (js0 ps told k G) (pcd ps c k) r → RJr X0 Y k r → pw (f_judges_204 r37 a1 Y) Q) : ∀ (M i : Nat) (b2 : Int32) (X : St), b2.toInt = (i : Int) → i ≤ (pks ps told k).length → RJ X0 X k ([], (fun x => ((pks ps told k).take i)[x]?), (js0 ps told k G).2.2.1, G) → pw (f_judges_80 r37 M a1 b2 X) Q := by
  have lo1 : (Int32.ofInt 1).toInt = 1 := by decide
  have l1 : (1 : Int32).toInt = 1 := by decide
  obtain ⟨p, hpt⟩ : ∃ p, ps[k]? = some p := ⟨_, List.getElem?_eq_getElem hk⟩
  have hp0 := hp
  obtain ⟨hP, hW, hJ, hl, p18, p26, p44, hR⟩ := hp
  have h15 := (hP k p hpt).1
  have ln := pks_ln (told := told) hpt
  intro M
  induction M with
  | zero => exact fun _ _ _ _ _ _ => pw_none
  | succ M ih =>
    intro i b2 X h2 hi h
    have e : f_judges_80 r37 (M + 1) = f_judges_80_s r37 (f_judges_80 r37 M) := by
      unfold f_judges_80
      exact lp_succ _ _ _
    rw [e]
    unfold f_judges_80_s
    refine pw_ck (fun _ => pw_eq (fun x22 e22 => ?_))
    have v22 : x22.toInt = ((pks ps told k).length : Int) := by rw [e22, ixn h1, h.1.1 15 k (by unfold kpJ; omega), h15, ln]
    refine pw_ite (fun c22 => ?_) (fun c22 => ?_)
    · have ei : i = (pks ps told k).length := by omega
      have h0 : RJ X0 X k (js0 ps told k G) := by
        rw [ei, List.take_length] at h
        exact h
      refine pw_eq (fun x23 e23 => pw_eq (fun x24 e24 => ?_))
      have v23 : x23.toInt = (k : Int) + 1 := by rw [e23, ti_add (by rw [h1, l1]; omega) (by rw [h1, l1]; omega), h1, l1]
      have v24 : x24.toInt = (ps.length : Int) := by rw [e24, h.1.1 0 18 (by unfold kpJ; omega)]; exact p18
      refine pw_ite (fun c24 => ?_) (fun c24 => ?_)
      · have ek : k + 1 = ps.length := by omega
        refine pw_eq (fun x25 e25 => x_part7 hp0 hk h1 h0 hQ ?_)
        rw [e25, h.1.1 0 26 (by unfold kpJ; omega), p26, ek]
      · refine pw_eq (fun x33 e33 => pw_ck (fun _ => pw_eq (fun x34 e34 => x_part7 hp0 hk h1 h0 hQ ?_)))
        have i33 : ix x33 = k + 1 := ixn (by rw [e33, ti_add (by rw [h1, l1]; omega) (by rw [h1, l1]; omega), h1, l1]; omega)
        rw [e34, i33, h.1.1 44 _ (by unfold kpJ; omega)]
        exact p44 (k + 1) (by omega)
    · refine pw_bd (x_paramK (hP.jb hJ h.1) h.kj h1 hpt (by omega) h2 (by omega)) ?_
      rintro x35 X36 ⟨e36, e0, p35, k35⟩
      rw [e36]
      refine pw_ck (fun _ => pw_eq (fun X37 e37 => ?_))
      have h37 := h.par k35 p35
      rw [← ixn h2, ← e37, ixn h2] at h37
      have f135 : ∀ b0 b1 : Int32, pw (f_judges_135 r37 (f_judges_80 r37 M) a1 b2 b0 b1 X37) Q := fun b0 b1 => by
        unfold f_judges_135
        refine pw_ck (fun _ => pw_eq (fun X39 e39 => pw_let (ih (i + 1) _ X39 ?_ (by omega) ?_)))
        · rw [ti_add (by rw [h2, lo1]; omega) (by rw [h2, lo1]; omega), h2, lo1]; omega
        · rw [e39]
          exact RJr.w57 (r := Sum.inl _) h37
      have f130 : ∀ b0 : Int32, pw (f_judges_130 r37 (f_judges_80 r37 M) a1 b2 b0 X37) Q := fun b0 => by
        unfold f_judges_130
        exact f135 _ _
      exact pw_ck (fun _ => pw_eq (fun x38 e38 => pw_ite (fun _ => pw_ck (fun _ => pw_eq (fun x41 e41 => pw_ck (fun _ => pw_eq (fun x42 e42 => pw_ite (fun _ => f135 _ _) (fun _ => f130 _)))))) (fun _ => f130 _)))
theorem x_parts (hp : JPRE ch X0 ps told c po) : ∀ (M k : Nat) (G : List JG × List Bool) (a1 : Int32) (X : St) (P : Sum (List JG × List Bool) (Int × Int) → Prop), a1.toInt = (k : Int) → k ≤ ps.length → RG X0 X G.1 → (∀ r, JALL ch ps told c (ps.length - k) k G r → P r) → pw (f_judges_37 M a1 X) (fun _ Y => ∃ r, P r ∧ RJf X0 Y r) := by
  have lo1 : (Int32.ofInt 1).toInt = 1 := by decide
  have hp0 := hp
  obtain ⟨hP, hW, hJ, hl, p18, p26, p44, hR⟩ := hp
  intro M
  induction M with
  | zero => exact fun _ _ _ _ _ _ _ _ _ => pw_none
  | succ M ih =>
    intro k G a1 X P h1 hk hG hr
    have e : f_judges_37 (M + 1) = f_judges_37_s (f_judges_37 M) := by
      unfold f_judges_37
      exact lp_succ _ _ _
    rw [e]
    unfold f_judges_37_s
    refine pw_eq (fun x9 e9 => ?_)
    have v9 : x9.toInt = (ps.length : Int) := by rw [e9, hG.1.1 0 18 (by unfold kpJ; omega)]; exact p18
    refine pw_ite (fun c9 => ?_) (fun c9 => ?_)
    · have ek : ps.length - k = 0 := by omega
      rw [ek] at hr
      exact x_210 (Or.inl ⟨G.1, hG, fun Y hY h4 => ⟨Sum.inl G, hr _ rfl, hY, h4⟩⟩)
    · have hlt : k < ps.length := by omega
      obtain ⟨m, hm⟩ : ∃ m, ps.length - k = m + 1 := ⟨ps.length - k - 1, by omega⟩
      rw [hm] at hr
      obtain ⟨p, hpt⟩ : ∃ p, ps[k]? = some p := ⟨_, List.getElem?_eq_getElem hlt⟩
      refine pw_bd x_well ?_
      rintro x14 X15 ⟨e15, w, _⟩
      rw [e15]
      refine pw_neg (fun z => (w.mp z) hG.2.1) (pw_eq (fun X16 e16 => pw_eq (fun X17 e17 => ?_)))
      have g16 : RG X0 X16 G.1 := by rw [e16]; exact hG.w0 (by omega)
      have g17 : RG X0 X17 G.1 := by rw [e17]; exact g16.w0 (by omega)
      refine pw_bd (x_ownK (hP.jb hJ g17.1) g17.1.2.1 h1 hpt) ?_
      rintro x18 X19 ⟨e19, k18⟩
      rw [e19]
      have j17 : RJ X0 X17 k ([], (fun x => ((pks ps told k).take 0)[x]?), (js0 ps told k G.1).2.2.1, G.1) := g17.rj (by rw [e17, wI_ne _ _ _ _ _ _ (by omega), e16, wI_at]; exact h1) (by rw [e17, wI_at]; decide)
      refine pw_ck (fun _ => pw_eq (fun x20 e20 => pw_ck (fun _ => pw_eq (fun X21 e21 => ?_))))
      have j21 : RJ X0 X21 k ([], (fun x => ((pks ps told k).take 0)[x]?), (js0 ps told k G.1).2.2.1, G.1) := by
        rw [e21]
        exact RJr.w57 (r := Sum.inl _) j17
      refine x_params (G := G.1) hp0 hlt h1 (fun Y r hJR hY => ?_) BIG 0 0 X21 (by decide) (Nat.zero_le _) j21
      unfold f_judges_204
      refine pw_let ?_
      have nx : (a1 + Int32.ofInt 1).toInt = ((k + 1 : Nat) : Int) := by rw [ti_add (by rw [h1, lo1]; omega) (by rw [h1, lo1]; omega), h1, lo1]; omega
      cases r with
      | inl J =>
        have hY : RJ X0 Y k J := hY
        refine ih (k + 1) (J.2.2.2, G.2 ++ [J.2.2.1]) _ Y P nx (by omega) hY.rg (fun r h => hr r (Or.inl ⟨J, hJR, ?_⟩))
        rw [show ps.length - (k + 1) = m by omega] at h
        exact h
      | inr f =>
        have hY : RJB X0 Y ∧ (Y.1 0 9).toInt = f.1 ∧ (Y.1 0 10).toInt = f.2 ∧ ¬ f.1 = 0 := hY
        have hr1 := hr (Sum.inr f) (Or.inr ⟨f, hJR, rfl⟩)
        cases M with
        | zero => exact pw_none
        | succ M =>
          have e : f_judges_37 (M + 1) = f_judges_37_s (f_judges_37 M) := by
            unfold f_judges_37
            exact lp_succ _ _ _
          rw [e]
          unfold f_judges_37_s
          have bad : pw (f_judges_210 Y) (fun _ Y => ∃ r, P r ∧ RJf X0 Y r) := x_210 (Or.inr ⟨f, hY, fun Z hZ => ⟨_, hr1, hZ⟩⟩)
          refine pw_eq (fun x9 e9 => pw_ite (fun _ => bad) (fun _ => pw_bd x_well ?_))
          rintro x14 X15 ⟨e15, w, _⟩
          rw [e15]
          exact pw_pos (w.mpr (by rw [hY.2.1]; exact hY.2.2.2)) bad
end JALLS
