/-! the reference's judge: a row's elements -/
/-- the guards of elements, the first of them first -/
def jgF (c : List Ins) (g : Nat) : List (List Int × SE) → List JG
  | [] => []
  | (k, w) :: l => (if k = [3] then [] else [(w.1.getD 0, plc c (w.1.getD 0), g, (g : Int), k, [3])]) ++ jgF c g l
section RJ6S
variable {X0 X Y Z : St} {g j n m : Nat} {J J1 : JS} {d : List Int} {c : List Ins} {S S1 : List SE} {us : List (Nat × Nat)}
theorem jgF_app : ∀ (l l1 : List (List Int × SE)), jgF c g (l ++ l1) = jgF c g l ++ jgF c g l1
  | [], _ => rfl
  | (k, w) :: l, l1 => by
    show _ ++ jgF c g (l ++ l1) = (_ ++ jgF c g l) ++ jgF c g l1
    rw [jgF_app l l1, List.append_assoc]
theorem jmg_rev : ∀ l : List (List Int × SE), jmg c g l = jgF c g l.reverse
  | [] => rfl
  | (k, w) :: l => by
    rw [List.reverse_cons, jgF_app, ← jmg_rev l]
    show _ ++ _ = _ ++ (_ ++ [])
    rw [List.append_nil]
/-- the i-th element from below -/
def elJ (J : JS) (n i : Nat) : List Int := J.1.getD (n - 1 - i) [3]
theorem like_iff (hl : n ≤ J.1.length) (h0 : 0 < n) : jlike n J.1 ↔ ∀ q, q < n → elJ J n q = elJ J n 0 := by
  have ba : jbase n J.1 = elJ J n 0 := by
    unfold jbase elJ
    rw [List.getLastD_eq_getLast?, List.getLast?_eq_getElem?, List.length_take, Nat.min_eq_left hl, List.getElem?_take_of_lt (by omega), List.getD_eq_getElem?_getD]
    rfl
  unfold jlike
  rw [ba]
  constructor
  · intro h q hq
    refine h _ (List.mem_of_getElem? (i := n - 1 - q) ?_)
    unfold elJ
    rw [List.getElem?_take_of_lt (by omega), List.getD_eq_getElem?_getD, List.getElem?_eq_getElem (by omega)]
    rfl
  · intro h x hx
    obtain ⟨i, hi⟩ := List.getElem?_of_mem hx
    have hlt := (List.getElem?_eq_some_iff.mp hi).1
    rw [List.length_take] at hlt
    rw [List.getElem?_take_of_lt (by omega)] at hi
    have := h (n - 1 - i) (by omega)
    unfold elJ at this ⊢
    rw [show n - 1 - (n - 1 - i) = i by omega, List.getD_eq_getElem?_getD, hi] at this
    exact this
theorem base_0 (h0 : n = 0) : jlike n J.1 ∧ jbase n J.1 = [3] := by
  subst h0
  exact ⟨fun x hx => absurd hx (List.not_mem_nil), rfl⟩
theorem base_n (hl : n ≤ J.1.length) (h0 : 0 < n) : jbase n J.1 = elJ J n 0 := by
  unfold jbase elJ
  rw [List.getLastD_eq_getLast?, List.getLast?_eq_getElem?, List.length_take, Nat.min_eq_left hl, List.getElem?_take_of_lt (by omega), List.getD_eq_getElem?_getD]
  rfl
/-- elements and where they are asked, the first one first -/
theorem zip_at (hl : n ≤ J.1.length) (hu : us.length = n) (hS : S = us.reverse.map (fun w => ((some w.2, none, 0) : SE)) ++ S1) {i : Nat} (hi : i < n) : ∃ w, us[i]? = some w ∧ (((J.1.take n).zip (S.take n)).reverse)[i]? = some (elJ J n i, (some w.2, none, 0)) := by
  have hw : us[i]? = some us[i] := List.getElem?_eq_getElem (by omega)
  refine ⟨_, hw, ?_⟩
  have sl : (us.reverse.map (fun w => ((some w.2, none, 0) : SE))).length = n := by rw [List.length_map, List.length_reverse, hu]
  have st : S.take n = us.reverse.map (fun w => ((some w.2, none, 0) : SE)) := by
    rw [hS]
    have := List.take_left (l₁ := us.reverse.map (fun w => ((some w.2, none, 0) : SE))) (l₂ := S1)
    rw [sl] at this
    exact this
  have zl : ((J.1.take n).zip (S.take n)).length = n := by
    rw [List.length_zip, List.length_take, st, sl]
    omega
  rw [List.getElem?_reverse (by rw [zl]; exact hi), zl, List.getElem?_zip_eq_some]
  refine ⟨?_, ?_⟩
  · rw [List.getElem?_take_of_lt (by omega)]
    show _ = some (J.1.getD (n - 1 - i) [3])
    rw [List.getD_eq_getElem?_getD, List.getElem?_eq_getElem (by omega)]
    rfl
  · rw [st, List.getElem?_map, List.getElem?_reverse (by omega), show us.length - 1 - (n - 1 - i) = i by omega, hw]
    rfl
theorem x_elems {p1 : Int32} (h : RJ X0 X g J) (hl : n ≤ J.1.length) (hm : ix p1 = m) (h27 : (X0.1 27 m).toInt = (n : Int)) (hu : us.length = n) (hS : S = us.reverse.map (fun w => ((some w.2, none, 0) : SE)) ++ S1) (hE : ECH X0 c (iv X0 24 m) us) : pw (f_judgeElements p1 X) (fun _ Y => ∃ k J1, jmix c g n S J k J1 ∧ RJ X0 Y g (jpush (4 :: k) J1)) := by
  have lo1 : (Int32.ofInt 1).toInt = 1 := by decide
  have l1 : (1 : Int32).toInt = 1 := by decide
  have l0 : (0 : Int32).toInt = 0 := by decide
  have h30 := h.2.1.2.2.1
  have b30 := (X.1 0 30).toInt_lt
  unfold f_judgeElements
  refine pw_eq (fun x1 e1 => pw_ck (fun _ => pw_eq (fun x2 e2 => pw_eq (fun x3 e3 => pw_eq (fun X4 e4 => pw_ck (fun _ => pw_eq (fun x5 e5 => ?_)))))))
  rw [hm, h.1.1 27 m (by unfold kpJ; omega)] at e2
  have v3 : x3.toInt = (J.1.length : Int) - n := by rw [e3, e1, e2, ti_sub (by rw [h30, h27]; omega) (by rw [h30, h27]; omega), h30, h27]
  have h4 : RJ X0 X4 g (jpop n J) := by rw [e4]; exact h.pop hl v3
  have b4 : RJB X X4 := by rw [e4]; exact RJB.wr h.kj h.ku (by unfold kpJ; omega) (by omega) (by omega)
  have v5 : x5.toInt = (n : Int) := by rw [e5, hm, h4.1.1 27 m (by unfold kpJ; omega)]; exact h27
  have d4 : (X4.1 0 30).toInt = ((J.1.length - n : Nat) : Int) := by rw [e4, wI_at, v3]; omega
  have el : ∀ i, i < n → KTo X4 (X4.1 58 (J.1.length - n + i)) (elJ J n i) := by
    intro i hi
    have := h.2.2.1 (n - 1 - i) (elJ J n i) (by
      unfold elJ
      rw [List.getD_eq_getElem?_getD, List.getElem?_eq_getElem (by omega)]
      rfl)
    rw [show J.1.length - 1 - (n - 1 - i) = J.1.length - n + i by omega] at this
    have := this.kx h.kj b4.2.2.2
    rw [e4, wI_ne _ _ _ _ _ _ (by omega), ← e4]
    exact this
  have fin : ∀ (W : St) (a : Int32) (k : List Int) (J1 : JS), RJ X0 W g J1 → KTo W a k → jmix c g n S J k J1 → pw (f_judgeElements_168 a W) (fun _ Y => ∃ k J1, jmix c g n S J k J1 ∧ RJ X0 Y g (jpush (4 :: k) J1)) := by
    intro W a k J1 hW hk hj
    unfold f_judgeElements_168
    refine pw_bd (x_row2 hW.kj hW.ku hk) ?_
    rintro x8 X9 ⟨k9, t8⟩
    exact pw_bd (x_push (hW.ky k9) t8) (fun _ X10 h10 => pw_ret ⟨k, J1, hj, h10⟩)
  -- the guards are laid
  have lay : ∀ (f : Int32), (¬ f.toInt = 0 ↔ (0 < n ∧ ∀ q, q < n → elJ J n q = elJ J n 0)) → ∀ (M i : Nat) (a3 a4 : Int32) (W : St), a3.toInt = (i : Int) → i ≤ n → ECH X0 c a4.toInt (us.drop i) → RJ X0 W g (jgd (if f.toInt = 0 then jgF c g (((J.1.take n).zip (S.take n)).reverse.take i) else []) (jpop n J)) → RJB X4 W → (∀ k, W.1 58 k = X4.1 58 k) → W.1 0 30 = X4.1 0 30 → pw (f_judgeElements_91 M f a3 a4 W) (fun _ Y => ∃ k J1, jmix c g n S J k J1 ∧ RJ X0 Y g (jpush (4 :: k) J1)) := by
    intro f hf M
    induction M with
    | zero => exact fun _ _ _ _ _ _ _ _ _ _ _ => pw_none
    | succ M ih =>
      intro i a3 a4 W h3 hi hC hW bW w58 w30
      have e : f_judgeElements_91 (M + 1) = f_judgeElements_91_s (f_judgeElements_91 M) := by
        unfold f_judgeElements_91
        exact lp_succ _ _ _
      rw [e]
      unfold f_judgeElements_91_s
      by_cases hin : i < n
      · obtain ⟨w, hw, hz⟩ := zip_at (S1 := S1) hl hu hS hin
        have hd : us.drop i = w :: us.drop (i + 1) := by
          have := List.getElem?_eq_some_iff.mp hw
          rw [List.drop_eq_getElem_cons this.1, this.2]
        rw [hd] at hC
        obtain ⟨c1, c2, c3⟩ := hC
        have i4 : ix a4 = w.1 := ixn c1
        have step : ∀ V : St, RJ X0 V g (jgd (if f.toInt = 0 then jgF c g (((J.1.take n).zip (S.take n)).reverse.take (i + 1)) else []) (jpop n J)) → RJB X4 V → (∀ k, V.1 58 k = X4.1 58 k) → V.1 0 30 = X4.1 0 30 → pw (f_judgeElements_134 (f_judgeElements_91 M) f a3 a4 V) (fun _ Y => ∃ k J1, jmix c g n S J k J1 ∧ RJ X0 Y g (jpush (4 :: k) J1)) := by
          intro V hV bV v58 v30
          unfold f_judgeElements_134
          refine pw_let (pw_ck (fun _ => pw_eq (fun x14 e14 => ih (i + 1) _ x14 V (by rw [ti_add (by rw [h3, lo1]; omega) (by rw [h3, lo1]; omega), h3, lo1]; omega) (by omega) ?_ hV bV v58 v30)))
          rw [e14, i4, hV.1.1 28 _ (by unfold kpJ; omega)]
          exact c3
        refine pw_neg (by omega) (pw_ite (fun cf => ?_) (fun cf => ?_))
        · rw [if_pos cf] at hW
          refine pw_ck (fun _ => pw_eq (fun x15 e15 => pw_eq (fun x16 e16 => pw_eq (fun x17 e17 => pw_ck (fun _ => pw_eq (fun x18 e18 => pw_ck (fun _ => pw_eq (fun x19 e19 => pw_eq (fun x20 e20 => ?_)))))))))
          have i17 : ix x17 = J.1.length - n + i := by
            refine ixn ?_
            rw [e17, e16, w30, ti_add (by rw [d4, h3]; omega) (by rw [d4, h3]; omega), d4, h3]
            omega
          have k18 : KTo W x18 (elJ J n i) := by
            rw [e18, i17, w58]
            exact (el i hin).kx h4.kj bW.2.2.2
          have p19 : x19.toInt = plc c w.2 := by
            rw [e19, i4, hW.1.1 21 _ (by unfold kpJ; omega), c2.2]
            rfl
          refine pw_bd (x_gask (j := w.2) hW k18 p19 e20) ?_
          rintro _ X21 ⟨h21, b21, r21⟩
          refine step X21 ?_ (bW.tr b21) (fun k => (r21 58 k (by omega)).trans (w58 k)) ((r21 0 30 (by omega)).trans w30)
          rw [if_pos cf, List.take_add_one, hz, jgF_app]
          rw [jgd_gd] at h21
          have e2 : ∀ u : List Int, jgF c g (some (u, ((some w.2, none, 0) : SE))).toList = (if u = [3] then [] else [(w.2, plc c w.2, g, (g : Int), u, [3])]) := fun u => by
            show _ ++ [] = _
            rw [List.append_nil]
            rfl
          rw [e2]
          exact h21
        · rw [if_neg cf] at hW
          exact step W (by rw [if_neg cf]; exact hW) bW w58 w30
      · have ei : i = n := by omega
        rw [ei, ← hu, List.drop_length] at hC
        have hC : a4.toInt < 0 := hC
        have tk : ((J.1.take n).zip (S.take n)).reverse.take i = ((J.1.take n).zip (S.take n)).reverse := List.take_of_length_le (by rw [List.length_reverse, List.length_zip, List.length_take]; omega)
        refine pw_pos hC (pw_ite (fun cf => ?_) (fun cf => ?_))
        · rw [if_pos cf, tk, ← jmg_rev] at hW
          by_cases n0 : n = 0
          · have bs := base_0 (J := J) n0
            have e0 : jmg c g ((J.1.take n).zip (S.take n)) = [] := by rw [n0]; rfl
            rw [e0, jgd_nil] at hW
            exact fin W 2 [3] _ hW (KTo.pl hW.kj).2.2 (Or.inl ⟨bs.1, bs.2.symm, rfl⟩)
          · refine fin W 2 [3] _ hW (KTo.pl hW.kj).2.2 (Or.inr ⟨fun z => ?_, rfl, rfl⟩)
            exact (hf.mpr ⟨by omega, (like_iff hl (by omega)).mp z⟩) cf
        · rw [if_neg cf, jgd_nil] at hW
          have hn := hf.mp cf
          refine pw_eq (fun x11 e11 => pw_ck (fun _ => pw_eq (fun x12 e12 => ?_)))
          have k12 : KTo W x12 (elJ J n 0) := by
            have i11 : ix x11 = J.1.length - n + 0 := ixn (by rw [e11, w30, d4]; omega)
            rw [e12, i11, w58]
            exact (el 0 hn.1).kx h4.kj bW.2.2.2
          exact fin W x12 _ _ hW k12 (Or.inl ⟨(like_iff hl hn.1).mpr hn.2, (base_n hl hn.1).symm, rfl⟩)
  -- are all alike
  have look : ∀ (M i : Nat) (f a3 : Int32), a3.toInt = (i : Int) → 1 ≤ i → (¬ f.toInt = 0 ↔ (0 < n ∧ ∀ q, q < i → q < n → elJ J n q = elJ J n 0)) → pw (f_judgeElements_32 M p1 f a3 X4) (fun _ Y => ∃ k J1, jmix c g n S J k J1 ∧ RJ X0 Y g (jpush (4 :: k) J1)) := by
    intro M
    induction M with
    | zero => exact fun _ _ _ _ _ _ => pw_none
    | succ M ih =>
      intro i f a3 h3 hi hf
      have e : f_judgeElements_32 (M + 1) = f_judgeElements_32_s (f_judgeElements_32 M) := by
        unfold f_judgeElements_32
        exact lp_succ _ _ _
      rw [e]
      unfold f_judgeElements_32_s
      refine pw_ck (fun _ => pw_eq (fun x6 e6 => ?_))
      rw [hm, h4.1.1 27 m (by unfold kpJ; omega)] at e6
      refine pw_ite (fun c6 => ?_) (fun c6 => ?_)
      · rw [e6, h27, h3] at c6
        refine pw_ck (fun _ => pw_eq (fun x7 e7 => ?_))
        rw [hm, h4.1.1 24 m (by unfold kpJ; omega)] at e7
        refine lay f (hf.trans ⟨fun ⟨a, b⟩ => ⟨a, fun q hq => b q (by omega) hq⟩, fun ⟨a, b⟩ => ⟨a, fun q _ hq => b q hq⟩⟩) BIG 0 0 x7 X4 (by decide) (Nat.zero_le _) (by rw [e7]; exact hE) ?_ (RJB.rf h4.kj h4.ku) (fun _ => rfl) rfl
        have z : (if f.toInt = 0 then jgF c g (((J.1.take n).zip (S.take n)).reverse.take 0) else []) = ([] : List JG) := by split <;> rfl
        rw [z, jgd_nil]
        exact h4
      · rw [e6, h27, h3] at c6
        have nx : (a3 + Int32.ofInt 1).toInt = ((i + 1 : Nat) : Int) := by rw [ti_add (by rw [h3, lo1]; omega) (by rw [h3, lo1]; omega), h3, lo1]; omega
        have go : ∀ b : Int32, (¬ b.toInt = 0 ↔ (0 < n ∧ ∀ q, q < i + 1 → q < n → elJ J n q = elJ J n 0)) → pw (f_judgeElements_74 (f_judgeElements_32 M) p1 a3 b X4) (fun _ Y => ∃ k J1, jmix c g n S J k J1 ∧ RJ X0 Y g (jpush (4 :: k) J1)) := by
          intro b hb
          unfold f_judgeElements_74
          exact pw_let (ih (i + 1) b _ nx (by omega) hb)
        have no : ¬ (0 < n ∧ ∀ q, q < i + 1 → q < n → elJ J n q = elJ J n 0) → pw (f_judgeElements_73 (f_judgeElements_32 M) p1 a3 X4) (fun _ Y => ∃ k J1, jmix c g n S J k J1 ∧ RJ X0 Y g (jpush (4 :: k) J1)) := by
          intro hb
          unfold f_judgeElements_73
          exact go 0 ⟨fun z => absurd l0 z, fun z => absurd z hb⟩
        refine pw_ite (fun cf => ?_) (fun cf => ?_)
        · refine no (fun z => ?_)
          exact hf.mpr ⟨z.1, fun q hq hn => z.2 q (by omega) hn⟩ cf
        · have hf1 := hf.mp cf
          refine pw_eq (fun x23 e23 => pw_eq (fun x24 e24 => pw_ck (fun _ => pw_eq (fun x25 e25 => pw_eq (fun x26 e26 => pw_ck (fun _ => pw_eq (fun x27 e27 => ?_)))))))
          have i24 : ix x24 = J.1.length - n + i := by
            refine ixn ?_
            rw [e24, e23, ti_add (by rw [d4, h3]; omega) (by rw [d4, h3]; omega), d4, h3]
            omega
          have i26 : ix x26 = J.1.length - n + 0 := ixn (by rw [e26, d4]; omega)
          have k25 : KTo X4 x25 (elJ J n i) := by rw [e25, i24]; exact el i (by omega)
          have k27 : KTo X4 x27 (elJ J n 0) := by rw [e27, i26]; exact el 0 (by omega)
          have ie := KTo.iff h4.ku k25 k27
          refine pw_ite (fun c25 => ?_) (fun c25 => ?_)
          · refine go 1 ⟨fun _ => ⟨hf1.1, fun q hq hn => ?_⟩, fun _ => by decide⟩
            by_cases z : q = i
            · rw [z]; exact ie.mp c25
            · exact hf1.2 q (by omega) hn
          · exact no (fun z => c25 (ie.mpr (z.2 i (by omega) (by omega))))
  refine pw_ite (fun c5 => ?_) (fun c5 => ?_)
  · rw [v5] at c5
    unfold f_judgeElements_29
    exact look BIG 1 0 1 (by decide) (Nat.le_refl _) ⟨fun z => absurd l0 z, fun z => by omega⟩
  · rw [v5] at c5
    unfold f_judgeElements_29
    refine look BIG 1 1 1 (by decide) (Nat.le_refl _) ⟨fun _ => ⟨by omega, fun q hq _ => ?_⟩, fun _ => by decide⟩
    rw [show q = 0 by omega]
end RJ6S
