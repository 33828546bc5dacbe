/-! the class's judge, and the places that guards stand at -/
def isask (c : List Ins) (j : Nat) : Prop := ∃ a : Ins, c[j]? = some a ∧ 27 ≤ a.1
/-- row e + 20 of the askings before N -/
def LC (e : Nat) (c : List Ins) (N : Nat) (G : List JG) (X : St) : Prop := (∀ y ∈ G, y.1 < N ∧ isask c y.1) ∧ ∀ jj, jj < N → isask c jj → LI (fun y => y.1 = jj) G (X.1 (e + 20) jj).toInt
/-- what stands on the stack was asked before j -/
def SEb (c : List Ins) (S : List SE) (j : Nat) : Prop := ∀ (i : Nat) (w : SE) (q : Nat), S[i]? = some w → w.1 = some q → q < j ∧ isask c q
def CJA (N e : Nat) (ch : Tx) (ps : List Pt) (told : Nat → Bool) (c : List Ins) (X0 X : St) (g : Nat) (S : List SE) (J : JS) (ks : List (List Int)) : Prop := CJ e ch ps told c X0 X g S J ks ∧ LC e c N J.2.2.2 X ∧ SEb c S N
def CJrA (N e : Nat) (ch : Tx) (ps : List Pt) (told : Nat → Bool) (c : List Ins) (X0 Y : St) (g : Nat) (S : List SE) (ks : List (List Int)) : Sum JS (Int × Int) → Prop
  | Sum.inl J => CJA N e ch ps told c X0 Y g S J ks
  | Sum.inr f => CJr e ch ps told c X0 Y g S ks (Sum.inr f)
def CQA (e : Nat) (ch : Tx) (ps : List Pt) (told : Nat → Bool) (c : List Ins) (X0 Y : St) (g j : Nat) (S : List SE) (a : Ins) (J : JS) (ks : List (List Int)) : Prop := ∃ (r : Sum JS (Int × Int)) (ks1 : List (List Int)), JST ch ps told c g j S a J r ∧ ks <+: ks1 ∧ ks1.length ≤ ks.length + krn a ∧ CJrA (j + 1) e ch ps told c X0 Y g (sh1 j a S) ks1 r
def CSrA (e : Nat) (ch : Tx) (ps : List Pt) (told : Nat → Bool) (c : List Ins) (X0 Y : St) (g j : Nat) (S : List SE) (d : List Ins) (J : JS) (ks : List (List Int)) (R1 R2 : Nat) : Prop := ∃ (r : Sum JS (Int × Int)) (ks1 : List (List Int)), JRN ch ps told c g j S J d r ∧ ks <+: ks1 ∧ ks1.length + R2 ≤ 1549 ∧ (∀ J1, r = Sum.inl J1 → J1.2.2.2.length + R1 ≤ 3000) ∧ CJrA (j + d.length) e ch ps told c X0 Y g (shl j S d) ks1 r
section CJAS
variable {e g j n m s D k N q0 : Nat} {ch : Tx} {ps : List Pt} {told : Nat → Bool} {c : List Ins} {X0 X Y Z W : St} {S S1 : List SE} {J J1 : JS} {ks ks1 kt ksP : List (List Int)} {v v1 p1 p2 : Int32} {a : Ins} {x : JG} {w : List Int} {l : List (List Int)} {an : Bool} {po : Nat → Nat} {L : Nat} {G G1 : List JG} {d d1 : List Int} {us : List (Nat × Nat)} {p : Int}
theorem LC.cg (h : LC e c N G X) (r : ∀ q, Y.1 (e + 20) q = X.1 (e + 20) q) : LC e c N G Y := ⟨h.1, fun jj h1 h2 => by rw [r jj]; exact h.2 jj h1 h2⟩
theorem LC.one (h : LC e c N G X) (hq : q0 < N) (hask : isask c q0) (hG : (X.1 55 5).toInt = (G.length : Int)) (r : ∀ q, ¬ q = q0 → Y.1 (e + 20) q = X.1 (e + 20) q) (hv : (Y.1 (e + 20) q0).toInt = (X.1 55 5).toInt) (hx : x.1 = q0) : LC e c N (G ++ [x]) Y := by
  refine ⟨fun y hy => ?_, fun jj h1 h2 => ?_⟩
  · rcases List.mem_append.mp hy with z | z
    · exact h.1 y z
    · rw [List.mem_singleton.mp z, hx]
      exact ⟨hq, hask⟩
  · by_cases z : jj = q0
    · rw [z]
      exact LI.yes hx (by rw [hv, hG])
    · rw [r jj z]
      exact (h.2 jj h1 h2).no (fun y => z (by rw [← y, hx]))
theorem LC.up (h : LC e c j G X) (ha : ¬ isask c j) : LC e c (j + 1) G X := ⟨fun y hy => ⟨by have := (h.1 y hy).1; omega, (h.1 y hy).2⟩, fun jj h1 h2 => by
  by_cases z : jj = j
  · rw [z] at h2
    exact absurd h2 ha
  · exact h.2 jj (by omega) h2⟩
theorem LC.ask (h : LC e c j G X) : LC e c (j + 1) G (wI X (e + 20) j (-1)) := by
  refine ⟨fun y hy => ⟨by have := (h.1 y hy).1; omega, (h.1 y hy).2⟩, fun jj h1 h2 => ?_⟩
  by_cases z : jj = j
  · rw [z, wI_at]
    exact Or.inl ⟨by decide, fun y hy => by have := (h.1 y hy).1; omega⟩
  · rw [wI_ne _ _ _ _ _ _ (by omega)]
    exact h.2 jj (by omega) h2
theorem LC.hc (hask : isask c j) (h : LC e c (j + 1) G X) (hq : HC e X j Y) (hG : (X.1 55 5).toInt = (G.length : Int)) (h3 : G.length < 3000) (hG1 : (Y.1 55 5).toInt = (G1.length : Int)) (hj : JG1 j G G1) : LC e c (j + 1) G1 Y := by
  obtain ⟨_, _, h4 | ⟨h4, h5⟩⟩ := hq
  · omega
  · rcases hj with z | ⟨y, hy, z⟩
    · rw [z] at hG1 ⊢
      rcases h5 with ⟨_, h6⟩ | ⟨h6, _⟩
      · refine h.cg (fun q => ?_)
        by_cases y : q = j
        · rw [y]
          exact h6
        · exact h4 q y
      · omega
    · rw [z] at hG1 ⊢
      rw [List.length_append, List.length_singleton] at hG1
      rcases h5 with ⟨h6, _⟩ | ⟨_, h6⟩
      · omega
      · exact h.one (Nat.lt_succ_self _) hask hG h4 h6 hy
theorem SEb.drop (h : SEb c S N) (m : Nat) : SEb c (S.drop m) N := fun i w q h1 h2 => by
  rw [List.getElem?_drop] at h1
  exact h _ w q h1 h2
theorem SEb.up (h : SEb c S N) (hn : N ≤ n) : SEb c S n := fun i w q h1 h2 => ⟨by have := (h i w q h1 h2).1; omega, (h i w q h1 h2).2⟩
theorem SEb.cons {w : SE} (h : SEb c S N) (hw : ∀ q, w.1 = some q → q < N ∧ isask c q) : SEb c (w :: S) N := fun i w1 q h1 h2 => by
  cases i with
  | zero => rw [← Option.some.inj h1] at h2; exact hw q h2
  | succ i => exact h i w1 q h1 h2
theorem SEb.sh1 (h : SEb c S j) (ha : a.1 = 36 → isask c j) : SEb c (_root_.Jvm.Pilot.CBlameCourtLaw_law_r8381_f30dd1.sh1 j a S) (j + 1) := by
  have h' := h.up (Nat.le_succ j)
  have tl : ∀ (w : SE) (T : List SE), S = w :: T → SEb c T (j + 1) ∧ ∀ q, w.1 = some q → q < j + 1 ∧ isask c q := fun w T e => by
    rw [e] at h'
    exact ⟨fun i w1 q h1 h2 => h' (i + 1) w1 q h1 h2, fun q hq => h' 0 w q rfl hq⟩
  unfold _root_.Jvm.Pilot.CBlameCourtLaw_law_r8381_f30dd1.sh1
  split
  · cases hS : S with
    | nil => exact fun i w q h1 _ => absurd h1.symm (Option.some_ne_none _)
    | cons w T => exact (tl w T hS).1.cons (tl w T hS).2
  · split
    · cases hS : S with
      | nil => exact fun i w q h1 _ => absurd h1.symm (Option.some_ne_none _)
      | cons w T => exact (tl w T hS).1.cons (tl w T hS).2
    · split
      · cases hS : S with
        | nil => exact fun i w q h1 _ => absurd h1.symm (Option.some_ne_none _)
        | cons w T => exact (tl w T hS).1.cons (tl w T hS).2
      · split
        · rename_i z36
          cases hS : S with
          | nil => exact fun i w q h1 _ => absurd h1.symm (Option.some_ne_none _)
          | cons w T => exact (tl w T hS).1.cons (fun q hq => by have e : j = q := Option.some.inj hq; rw [← e]; exact ⟨Nat.lt_succ_self _, ha z36⟩)
        · split
          · exact (h'.drop _).cons (fun q hq => absurd hq.symm (Option.some_ne_none _))
          · exact h'.drop _
theorem CJ.rqA (ht : CPR e ch X0 ps told c kt) (h : CJ e ch ps told c X0 X g S J ks) : RQo e X := by
  have h2 : X.2 = X0.2 := h.1.1.1.1
  obtain ⟨⟨he, r1, r2, _⟩, _⟩ := ht
  exact ⟨he, by rw [h2]; exact r1, by rw [h2]; exact r2⟩
theorem CJA.pop (he : e = 2 ∨ e = 24) (h : CJA N e ch ps told c X0 X g S J ks) {m : Nat} {v : Int32} (hm : m ≤ J.1.length) (hv : v.toInt = (J.1.length : Int) - m) : CJA N e ch ps told c X0 (wI X 61 14 v) g (S.drop m) (jpop m J) ks := ⟨h.1.pop he hm hv, h.2.1.cg (fun q => wI_ne _ _ _ _ _ _ (by omega)), SEb.drop h.2.2 m⟩
theorem l_layA (ht : CPR e ch X0 ps told c kt) (h : CJA N e ch ps told c X0 X g S J ks) (hjN : j < N ∧ isask c j) {p1 p2 p3 p4 : Int32} {t : Int} (hc : J.2.2.2.length < 3000) (h1 : p1.toInt = (j : Int)) (hp : (X0.1 (e + 21) j).toInt = p) (h2 : KC ks p2 d) (h3 : KC ks p3 d1) (h4 : p4.toInt = t) : pw (g_Judging_layGuard p1 p2 p3 p4 X) (fun _ Y => CJA N e ch ps told c X0 Y g S (jgd [(j, p, g, t, d, d1)] J) ks) := by
  refine pw_mono (pw_and (l_lay ht h.1 hc h1 hp h2 h3 h4) (hc_lay (X0 := X) (h.1.rqA ht) (ixn h1) (HC0.rf ht.1.1))) ?_
  rintro _ Y ⟨q1, _, _, q2⟩
  have g0 := h.1.2.1.2.2.2
  have g1 : (Y.1 55 5).toInt = ((J.2.2.2 ++ [(j, p, g, t, d, d1)]).length : Int) := q1.2.1.2.2.2
  rw [List.length_append, List.length_singleton] at g1
  rcases q2 with q2 | ⟨q2, ⟨q3, _⟩ | ⟨_, q3⟩⟩
  · omega
  · omega
  · exact ⟨q1, h.2.1.one hjN.1 hjN.2 g0 q2 q3 rfl, h.2.2⟩
theorem l_mixA (ht : CPR e ch X0 ps told c kt) (h : CJA N e ch ps told c X0 X g S J ks) {p1 : Int32} (h1 : p1.toInt = (m : Int)) (hl : m ≤ J.1.length) (hu : us.length = m) (hS : S = us.reverse.map (fun w => ((some w.2, none, 0) : SE)) ++ S1) (hc : J.2.2.2.length + m ≤ 3000) : pw (g_Judging_mix p1 X) (fun r Y => ∃ k J1, jmix c g m S J k J1 ∧ KC ks r k ∧ CJA N e ch ps told c X0 Y g (S.drop m) J1 ks) := by
  have he := ht.1.1
  have lo1 : (Int32.ofInt 1).toInt = 1 := by decide
  have l2 : (2 : Int32).toInt = 2 := by decide
  have a3 := h.1.2.1.2.2.1
  have b := (X.1 61 14).toInt_lt
  have any := (KC.pl h.1.1.1.2.2.1).2.2.1
  have el : ∀ i, i < m → J.1[m - 1 - i]? = some (elJ J m i) := fun i hi => by
    unfold elJ
    rw [List.getD_eq_getElem?_getD, List.getElem?_eq_getElem (by omega)]
    rfl
  have like : jlike m J.1 ↔ ∀ q, q < m → elJ J m q = elJ J m 0 := by
    by_cases z : m = 0
    · have := (base_0 (J := J) z).1
      exact ⟨fun _ q hq => by omega, fun _ => this⟩
    · exact like_iff hl (by omega)
  have Sat : ∀ i w, i < m → us[i]? = some w → S[m - 1 - i]? = some (some w.2, none, 0) := fun i w hi hw => by
    rw [hS, List.getElem?_append_left (by rw [List.length_map, List.length_reverse]; omega), List.getElem?_map, List.getElem?_reverse (by omega), show us.length - 1 - (m - 1 - i) = i by omega, hw]
    rfl
  -- the guards are laid
  have lay : ∀ (f ff kk : Int32), ff.toInt = (J.1.length : Int) - m → (¬ f.toInt = 0 ↔ jlike m J.1) → KC ks kk (jbase m J.1) → ∀ (M i : Nat) (a5 : Int32) (W : St), a5.toInt = (J.1.length : Int) - m + i → i ≤ m → (¬ f.toInt = 0 → i = 0) → CJA N e ch ps told c X0 W g S (jgd (jgF c g (((J.1.take m).zip (S.take m)).reverse.take i)) J) ks → (jgF c g (((J.1.take m).zip (S.take m)).reverse.take i)).length ≤ i → pw (g_Judging_mix_77 M ff kk f a5 W) (fun r Y => ∃ k J1, jmix c g m S J k J1 ∧ KC ks r k ∧ CJA N e ch ps told c X0 Y g (S.drop m) J1 ks) := by
    intro f ff kk hff hf hkk M
    induction M with
    | zero => exact fun _ _ _ _ _ _ _ _ => pw_none
    | succ M ih =>
      intro i a5 W h5 hi hz hW hln
      have eu : g_Judging_mix_77 (M + 1) = g_Judging_mix_77_s (g_Judging_mix_77 M) := by
        unfold g_Judging_mix_77
        exact lp_succ _ _ _
      rw [eu]
      unfold g_Judging_mix_77_s
      have w14 : (W.1 61 14).toInt = (J.1.length : Int) := hW.1.2.1.2.2.1
      refine pw_eq (fun x6 e6 => ?_)
      have f131 : (f.toInt = 0 → i = m) → pw (g_Judging_mix_131 ff kk f W) (fun r Y => ∃ k J1, jmix c g m S J k J1 ∧ KC ks r k ∧ CJA N e ch ps told c X0 Y g (S.drop m) J1 ks) := fun him => by
        unfold g_Judging_mix_131
        refine pw_eq (fun X7 e7 => ?_)
        have hp := CJA.pop he hW (m := m) (v := ff) hl hff
        rw [← e7] at hp
        refine pw_ite (fun cf => pw_ret ⟨[3], _, Or.inr ⟨fun z => (hf.mpr z) cf, rfl, rfl⟩, any, ?_⟩) (fun cf => pw_ret ⟨_, _, Or.inl ⟨hf.mp cf, rfl, rfl⟩, hkk, ?_⟩)
        · rw [jmg_rev]
          have tk : ((J.1.take m).zip (S.take m)).reverse.take i = ((J.1.take m).zip (S.take m)).reverse := List.take_of_length_le (by rw [List.length_reverse, List.length_zip, List.length_take, him cf]; omega)
          rw [tk] at hp
          exact hp
        · have tk : jgF c g (((J.1.take m).zip (S.take m)).reverse.take i) = [] := by rw [hz cf]; rfl
          rw [tk, jgd_nil] at hp
          exact hp
      refine pw_ite (fun c6 => f131 (fun _ => by rw [e6, w14] at c6; omega)) (fun c6 => pw_ite (fun cf => ?_) (fun cf => f131 (fun z => absurd z cf)))
      rw [e6, w14] at c6
      have hin : i < m := by omega
      obtain ⟨w, hw, hzp⟩ := zip_at (S1 := S1) hl hu hS hin
      have i5 : ix a5 = J.1.length - 1 - (m - 1 - i) := ixn (by omega)
      have k8 : KC ks (W.1 67 (J.1.length - 1 - (m - 1 - i))) (elJ J m i) := hW.1.2.2.1 (m - 1 - i) _ (el i hin)
      have m8 := (hW.1.2.2.2.1 (m - 1 - i) _ (Sat i w hin hw)).1 w.2 rfl
      have m8b : (W.1 68 (J.1.length - 1 - (m - 1 - i))).toInt = (w.2 : Int) := m8.2
      have e2 : ∀ u : List Int, jgF c g (some (u, ((some w.2, none, 0) : SE))).toList = (if u = [3] then [] else [(w.2, plc c w.2, g, (g : Int), u, [3])]) := fun u => by
        show _ ++ [] = _
        rw [List.append_nil]
        rfl
      have nx : (a5 + Int32.ofInt 1).toInt = (J.1.length : Int) - m + ((i + 1 : Nat) : Int) := by rw [ti_add (by rw [h5, lo1]; omega) (by rw [h5, lo1]; omega), h5, lo1]; omega
      have tk1 : jgF c g (((J.1.take m).zip (S.take m)).reverse.take (i + 1)) = jgF c g (((J.1.take m).zip (S.take m)).reverse.take i) ++ (if elJ J m i = [3] then [] else [(w.2, plc c w.2, g, (g : Int), elJ J m i, [3])]) := by
        rw [List.take_add_one, hzp, jgF_app, e2]
      have ln1 : (jgF c g (((J.1.take m).zip (S.take m)).reverse.take (i + 1))).length ≤ i + 1 := by
        rw [tk1, List.length_append]
        split
        · rw [List.length_nil]; omega
        · rw [List.length_singleton]; omega
      have f125 : ∀ V : St, CJA N e ch ps told c X0 V g S (jgd (jgF c g (((J.1.take m).zip (S.take m)).reverse.take (i + 1))) J) ks → pw (g_Judging_mix_125 (g_Judging_mix_77 M) ff kk f a5 V) (fun r Y => ∃ k J1, jmix c g m S J k J1 ∧ KC ks r k ∧ CJA N e ch ps told c X0 Y g (S.drop m) J1 ks) := fun V hV => by
        unfold g_Judging_mix_125
        exact pw_let (ih (i + 1) _ V nx (by omega) (fun z => absurd cf z) hV ln1)
      have ke := KC.eq hW.1.1.1 k8 any
      rw [l2] at ke
      refine pw_ck (fun _ => pw_eq (fun x8 e8 => ?_))
      rw [i5] at e8
      refine pw_ite (fun c8 => ?_) (fun c8 => ?_)
      · rw [e8] at c8
        refine f125 W ?_
        rw [tk1, if_pos (ke.mp c8), List.append_nil]
        exact hW
      · rw [e8] at c8
        have nz : ¬ elJ J m i = [3] := fun z => c8 (ke.mpr z)
        refine pw_ck (fun _ => pw_eq (fun x10 e10 => pw_ck (fun _ => pw_eq (fun x11 e11 => pw_eq (fun x12 e12 => ?_)))))
        rw [i5] at e10 e11
        obtain ⟨a1, ha1⟩ : ∃ a1, c[w.2]? = some a1 := ⟨_, List.getElem?_eq_getElem m8.1⟩
        have hpl : (X0.1 (e + 21) w.2).toInt = plc c w.2 := by rw [(ht.2.1 w.2 a1 ha1).2.1, plc_at ha1]
        refine pw_bd (l_layA (j := w.2) (t := (g : Int)) (d := elJ J m i) (d1 := [3]) ht hW ((show SEb c S N from hW.2.2) _ _ w.2 (Sat i w hin hw) rfl) ?_ (by rw [e10]; exact m8b) hpl (by rw [e11]; exact k8) any (by rw [e12]; exact hW.1.2.1.2.1)) (fun _ X13 h13 => f125 X13 ?_)
        · show (J.2.2.2 ++ _).length < 3000
          rw [List.length_append]
          omega
        · rw [tk1, if_neg nz, ← jgd_gd]
          exact h13
  -- are all alike
  have look : ∀ (ff kk : Int32), ff.toInt = (J.1.length : Int) - m → KC ks kk (jbase m J.1) → ∀ (M i : Nat) (f a5 : Int32), a5.toInt = (J.1.length : Int) - m + i → i ≤ m → (¬ f.toInt = 0 ↔ ∀ q, q < i → elJ J m q = elJ J m 0) → pw (g_Judging_mix_36 M ff kk f a5 X) (fun r Y => ∃ k J1, jmix c g m S J k J1 ∧ KC ks r k ∧ CJA N e ch ps told c X0 Y g (S.drop m) J1 ks) := by
    intro ff kk hff hkk M
    induction M with
    | zero => exact fun _ _ _ _ _ _ => pw_none
    | succ M ih =>
      intro i f a5 h5 hi hf
      have eu : g_Judging_mix_36 (M + 1) = g_Judging_mix_36_s (g_Judging_mix_36 M) := by
        unfold g_Judging_mix_36
        exact lp_succ _ _ _
      rw [eu]
      unfold g_Judging_mix_36_s
      refine pw_eq (fun x5 e5 => ?_)
      refine pw_ite (fun c5 => ?_) (fun c5 => ?_)
      · rw [e5, a3] at c5
        have him : i = m := by omega
        rw [him] at hf
        refine lay f ff kk hff (hf.trans like.symm) hkk BIG 0 ff X (by omega) (Nat.zero_le _) (fun _ => rfl) ?_ (Nat.le_refl _)
        show CJA N e ch ps told c X0 X g S (jgd [] J) ks
        rw [jgd_nil]
        exact h
      · rw [e5, a3] at c5
        have hin : i < m := by omega
        have nx : (a5 + Int32.ofInt 1).toInt = (J.1.length : Int) - m + ((i + 1 : Nat) : Int) := by rw [ti_add (by rw [h5, lo1]; omega) (by rw [h5, lo1]; omega), h5, lo1]; omega
        have f66 : ∀ b0 : Int32, (¬ b0.toInt = 0 ↔ ∀ q, q < i + 1 → elJ J m q = elJ J m 0) → pw (g_Judging_mix_66 (g_Judging_mix_36 M) ff kk a5 b0 X) (fun r Y => ∃ k J1, jmix c g m S J k J1 ∧ KC ks r k ∧ CJA N e ch ps told c X0 Y g (S.drop m) J1 ks) := fun b0 hb => by
          unfold g_Judging_mix_66
          exact pw_let (ih (i + 1) b0 _ nx (by omega) hb)
        have f65 : ¬ (∀ q, q < i + 1 → elJ J m q = elJ J m 0) → pw (g_Judging_mix_65 (g_Judging_mix_36 M) ff kk a5 X) (fun r Y => ∃ k J1, jmix c g m S J k J1 ∧ KC ks r k ∧ CJA N e ch ps told c X0 Y g (S.drop m) J1 ks) := fun hb => by
          unfold g_Judging_mix_65
          exact f66 0 ⟨fun z => absurd (by decide) z, fun z => absurd z hb⟩
        refine pw_ite (fun cf => f65 (fun z => (hf.mpr (fun q hq => z q (by omega))) cf)) (fun cf => ?_)
        have hall := hf.mp cf
        refine pw_ck (fun _ => pw_eq (fun x15 e15 => ?_))
        have i5 : ix a5 = J.1.length - 1 - (m - 1 - i) := ixn (by omega)
        rw [i5] at e15
        have k15 : KC ks x15 (elJ J m i) := by rw [e15]; exact h.1.2.2.1 (m - 1 - i) _ (el i hin)
        have bs : jbase m J.1 = elJ J m 0 := base_n hl (by omega)
        have ke := KC.eq h.1.1.1 k15 hkk
        rw [bs] at ke
        refine pw_ite (fun c15 => f66 1 ⟨fun _ q hq => ?_, fun _ => by decide⟩) (fun c15 => f65 (fun z => c15 (ke.mpr (z i (by omega)))))
        by_cases z : q = i
        · rw [z]; exact ke.mp c15
        · exact hall q (by omega)
  unfold g_Judging_mix
  refine pw_eq (fun x1 e1 => pw_eq (fun x2 e2 => pw_eq (fun x3 e3 => pw_eq (fun x4 e4 => ?_))))
  have v2 : x2.toInt = (J.1.length : Int) - m := by rw [e2, e1, ti_sub (by rw [a3, h1]; omega) (by rw [a3, h1]; omega), a3, h1]
  have v3 : x3.toInt = (J.1.length : Int) - m := by rw [e3, ti_max _ (by omega), v2]
  refine pw_ite (fun c4 => ?_) (fun c4 => ?_)
  · rw [e4, a3] at c4
    have z : m = 0 := by omega
    unfold g_Judging_mix_29
    refine look x3 2 v3 ?_ BIG 0 1 x3 (by omega) (Nat.zero_le _) ⟨fun _ q hq => absurd hq (Nat.not_lt_zero _), fun _ => by decide⟩
    rw [(base_0 (J := J) z).2]
    exact any
  · rw [e4, a3] at c4
    refine pw_ck (fun _ => pw_eq (fun x16 e16 => ?_))
    have i3 : ix x3 = J.1.length - 1 - (m - 1 - 0) := ixn (by omega)
    unfold g_Judging_mix_29
    refine look x3 x16 v3 ?_ BIG 0 1 x3 (by omega) (Nat.zero_le _) ⟨fun _ q hq => absurd hq (Nat.not_lt_zero _), fun _ => by decide⟩
    rw [base_n hl (by omega), e16, i3]
    exact h.1.2.2.1 (m - 1 - 0) _ (el 0 (by omega))
theorem cpA_8 (ht : CPR e ch X0 ps told c kt) (h : CJA j e ch ps told c X0 X g S J ks) (hna : ¬ isask c j) (e1 : a.1 = 8) (h1 : p1.toInt = a.1) (hlen : S.length = J.1.length) (hc : J.2.2.2.length + mk S ≤ 3000) (hl : S.length < 3000) (hS : ∃ (S1 : List SE) (j1 j2 : Nat), S = (some j2, none, 0) :: (some j1, none, 0) :: S1) : pw (g_Judging_judgePlain p1 p2 X) (fun _ Y => CQA e ch ps told c X0 Y g j S a J ks) := by
  unfold g_Judging_judgePlain
  refine pw_neg (by omega) (pw_neg (by omega) (pw_neg (by omega) (pw_neg (by omega) (pw_neg (by omega) (pw_neg (by omega) (pw_neg (by omega) (pw_neg (by omega) (pw_pos (by omega) (?_)))))))))
  obtain ⟨S1, j1, j2, hS⟩ := hS
  have hk : mk S = 2 + mk S1 := by rw [hS, mk_some, mk_some]; omega
  have h2l : 2 ≤ S.length := by rw [hS]; show 2 ≤ S1.length + 1 + 1; omega
  refine pw_bd (l_mixA (m := 2) (us := [(0, j1), (0, j2)]) (S1 := S1) ht h (by decide) (by omega) rfl hS (by omega)) ?_
  rintro x19 X20 ⟨k, J1, hm, hk1, hJ1⟩
  have l1 : J1.1.length < 3000 := by
    rcases hm with ⟨_, _, rfl⟩ | ⟨_, _, rfl⟩
    · show (J.1.drop 2).length < 3000; rw [List.length_drop]; omega
    · show (J.1.drop 2).length < 3000; rw [List.length_drop]; omega
  refine pw_bd (pw_and (l_push ht hJ1.1 hk1 l1) (hc_push (X0 := X20) (hJ1.1.rqA ht) (HC0.rf ht.1.1))) (fun _ X21 h21 => pw_ret ⟨_, ks, JST.i8 e1 ⟨k, J1, hm, rfl⟩, List.prefix_rfl, Nat.le_add_right _ _, ?_, (hJ1.2.1.cg h21.2.2.2.2).up hna, SEb.sh1 h.2.2 (fun z => absurd z (by omega))⟩)
  rw [sh1_8 e1]
  exact h21.1
theorem cpA_10 (ht : CPR e ch X0 ps told c kt) (h : CJA j e ch ps told c X0 X g S J ks) (hna : ¬ isask c j) (e1 : a.1 = 10) (h1 : p1.toInt = a.1) (hlen : S.length = J.1.length) (hc : J.2.2.2.length + mk S ≤ 3000) (hl : S.length < 3000) (hS : ∃ (S1 : List SE) (us : List (Nat × Nat)), a.2.1 = (us.length : Int) ∧ S = us.reverse.map (fun w => ((some w.2, none, 0) : SE)) ++ S1) (h2 : p2.toInt = a.2.1) (hks : ks.length < 1549) : pw (g_Judging_judgePlain p1 p2 X) (fun _ Y => CQA e ch ps told c X0 Y g j S a J ks) := by
  unfold g_Judging_judgePlain
  refine pw_neg (by omega) (pw_neg (by omega) (pw_neg (by omega) (pw_neg (by omega) (pw_neg (by omega) (pw_neg (by omega) (pw_neg (by omega) (pw_neg (by omega) (pw_neg (by omega) (pw_neg (by omega) ((?_)))))))))))
  obtain ⟨S1, us, hu, hS⟩ := hS
  have nu : us.length = a.2.1.toNat := by omega
  have mm := mk_us us.reverse
  rw [List.length_reverse] at mm
  have hk : mk S = us.length + mk S1 := by rw [hS, mk_app, mm]
  have h2l : us.length ≤ S.length := by rw [hS, List.length_append, List.length_map, List.length_reverse]; omega
  refine pw_ck (fun _ => pw_to (h.1.1.1.rr ht).2.1 (pw_bd (l_mixA (m := a.2.1.toNat) (us := us) (S1 := S1) ht h (by omega) (by omega) nu hS (by omega)) ?_))
  rintro x26 X27 ⟨k, J1, hm, hk1, hJ1⟩
  have l1 : J1.1.length < 3000 := by
    rcases hm with ⟨_, _, rfl⟩ | ⟨_, _, rfl⟩
    · show (J.1.drop _).length < 3000; rw [List.length_drop]; omega
    · show (J.1.drop _).length < 3000; rw [List.length_drop]; omega
  refine pw_bd (pw_and (l_rowOf ht hJ1.1 hks hk1) (hc_row (X0 := X27) (o := e + 1) rfl (HC0.rf ht.1.1))) ?_
  rintro x28 X29 ⟨⟨ks1, p1, p2, hJ2, k28⟩, r29⟩
  refine pw_bd (pw_and (l_push ht hJ2 k28 l1) (hc_push (X0 := X29) (hJ2.rqA ht) (HC0.rf ht.1.1))) (fun _ X30 h30 => pw_ret ⟨_, ks1, JST.i10 e1 ⟨k, J1, hm, rfl⟩, p1, ?_, ?_, ((hJ1.2.1.cg r29.2.2.2).cg h30.2.2.2.2).up hna, SEb.sh1 h.2.2 (fun z => absurd z (by omega))⟩)
  · unfold krn
    rw [if_pos (Or.inl e1)]
    exact p2
  · rw [sh1_10 e1]
    exact h30.1
/-- an instruction that lays nothing -/
theorem CJA.cq (h : CJA j e ch ps told c X0 X g S J ks) (hq : CQ e ch ps told c X0 Y g j S a J ks) (hr : HC0 e X Y) (h8 : ¬ a.1 = 8 ∧ ¬ a.1 = 10) (h36 : ¬ a.1 = 36) (hna : ¬ isask c j) : CQA e ch ps told c X0 Y g j S a J ks := by
  obtain ⟨r, ks1, q1, q2, q3, q4⟩ := hq
  refine ⟨r, ks1, q1, q2, q3, ?_⟩
  cases r with
  | inr f => exact q4
  | inl J1 =>
    have q4 : CJ e ch ps told c X0 Y g (sh1 j a S) J1 ks1 := q4
    have g0 := h.1.2.1.2.2.2
    have g1 := q4.2.1.2.2.2
    rw [hr.2.2.1] at g1
    have eg : J1.2.2.2 = J.2.2.2 := by
      rcases q1.gl h8.1 h8.2 with z | ⟨y, _, z⟩
      · exact z
      · rw [z, List.length_append, List.length_singleton] at g1
        omega
    refine ⟨q4, ?_, SEb.sh1 h.2.2 (fun z => absurd z h36)⟩
    rw [eg]
    exact (h.2.1.cg hr.2.2.2).up hna
theorem l_plainA (ht : CPR e ch X0 ps told c kt) (h : CJA j e ch ps told c X0 X g S J ks) (hh : CH ps c kt g j D S a J ks) (h1 : p1.toInt = a.1) (h2 : p2 = X0.1 (e + 19) j) (hlt : a.1 < 11) : pw (g_Judging_judgePlain p1 p2 X) (fun _ Y => CQA e ch ps told c X0 Y g j S a J ks) := by
  have hh0 := hh
  obtain ⟨⟨hO, hA, hN, ha⟩, ⟨hI, h34, h5, h3, h44⟩, ⟨hk, hg, hp⟩, b0, b1, b2⟩ := hh
  have hlen := hO.1
  obtain ⟨cop, cpl, c4, cx, c34⟩ := ht.2.1 j a ha
  have h0 := hA.1.1.1
  have hna : ¬ isask c j := fun ⟨a1, q1, q2⟩ => by
    have e := Option.some.inj (ha.symm.trans q1)
    rw [← e] at q2
    omega
  by_cases z8 : a.1 = 8
  · have hs := hA.2.1 z8
    rw [wk_p (show wp a.1 from by unfold wp; omega)] at b0
    exact cpA_8 ht h hna z8 h1 hlen (by omega) (by omega) hs
  · by_cases z10 : a.1 = 10
    · have hs := hA.2.2.1 z10
      rw [wk_p (show wp a.1 from by unfold wp; omega)] at b0
      have h2' : p2.toInt = a.2.1 := by rw [h2, cx (by omega) (by omega), ofI_to (hA.1.2 (by omega))]
      have kr : krn a = 1 := by unfold krn; rw [if_pos (Or.inl z10)]
      exact cpA_10 ht h hna z10 h1 hlen (by omega) (by omega) hs h2' (by omega)
    · exact pw_mono (pw_and (l_plain ht h.1 hh0 h1 h2 hlt) (hc_plain (X0 := X) (o := a.1) (h.1.rqA ht) (HC0.rf ht.1.1) h1 ⟨h0, by omega, z8⟩)) (fun _ Y q => h.cq q.1 q.2 ⟨z8, z10⟩ (by omega) hna)
theorem l_workA (ht : CPR e ch X0 ps told c kt) (h : CJA j e ch ps told c X0 X g S J ks) (hh : CH ps c kt g j D S a J ks) (h1 : p1.toInt = a.1) (h2 : p2 = X0.1 (e + 19) j) (hlt : 11 ≤ a.1 ∧ a.1 < 27) : pw (g_Judging_judgeWork p1 p2 X) (fun _ Y => CQA e ch ps told c X0 Y g j S a J ks) := by
  have ha := hh.1.2.2.2
  have hna : ¬ isask c j := fun ⟨a1, q1, q2⟩ => by
    have e := Option.some.inj (ha.symm.trans q1)
    rw [← e] at q2
    omega
  exact pw_mono (pw_and (l_work ht h.1 hh h1 h2 hlt) (hc_work (X0 := X) (h.1.rqA ht) (HC0.rf ht.1.1))) (fun _ Y q => h.cq q.1 q.2 ⟨by omega, by omega⟩ (by omega) hna)
theorem l_askC (ht : CPR e ch X0 ps told c kt) (h : CJ e ch ps told c X0 X g S J ks) (hL : LC e c (j + 1) J.2.2.2 X) (hS : SEb c S j) (hh : CH ps c kt g j D S a J ks) (h1 : p1.toInt = (j : Int)) (hlt : 27 ≤ a.1) : pw (g_Judging_judgeAsking p1 X) (fun _ Y => CQA e ch ps told c X0 Y g j S a J ks) := by
  refine pw_mono (pw_and (l_ask ht h hh h1 hlt) (hc_ask (X0 := X) (h.rqA ht) (ixn h1) (HC0.rf ht.1.1))) ?_
  rintro _ Y ⟨⟨r, ks1, q1, q2, q3, q4⟩, q5⟩
  refine ⟨r, ks1, q1, q2, q3, ?_⟩
  have hask : isask c j := ⟨a, hh.1.2.2.2, hlt⟩
  have hc : J.2.2.2.length < 3000 := by
    have b1 := hh.2.2.2.2.1
    rw [wk_a hlt] at b1
    omega
  cases r with
  | inr f => exact q4
  | inl J1 =>
    have q4 : CJ e ch ps told c X0 Y g (sh1 j a S) J1 ks1 := q4
    exact ⟨q4, LC.hc hask hL q5 h.2.1.2.2.2 hc q4.2.1.2.2.2 (q1.gl (by omega) (by omega)), SEb.sh1 hS (fun _ => hask)⟩
theorem l_segA (ht : CPR e ch X0 ps told c kt) (hW : PWd ps) (hg : g < ps.length) (hp : ps.length ≤ 40) {a1 : Int32} (h1 : a1.toInt = (g : Int)) {R1 R2 E : Nat} (hE : (X0.1 (e + 17) (g + 1)).toInt = (E : Int)) : ∀ (d : List Ins) (j : Nat) (b : Bool) (s : Nat) (S : List SE) (D : Nat) (J : JS) (X : St) (ks : List (List Int)), CJA j e ch ps told c X0 X g S J ks → JOK D S J → AOL W (nrp ch ps) c j b s S d → DLk D d → (∀ a ∈ d, PIq g a ∧ (a.1 = 34 → a.2.1 = 0) ∧ (a.1 = 5 → 0 ≤ a.2.1 ∧ a.2.1 ≤ 43)) → D ≤ 44 → kt <+: ks → (∀ i a, d[i]? = some a → c[j + i]? = some a) → j + d.length = E → S.length + wks 0 d ≤ 3000 → J.2.2.2.length + mk S + wks 1 d + R1 ≤ 3000 → ks.length + rns d + R2 ≤ 1549 → ∀ (M : Nat) (a2 : Int32), a2.toInt = (j : Int) → pw (g_Judging_judgePart_57 M a1 a2 X) (fun _ Y => CSrA e ch ps told c X0 Y g j S d J ks R1 R2) := by
  have lo1 : (Int32.ofInt 1).toInt = 1 := by decide
  have l1 : (1 : Int32).toInt = 1 := by decide
  have he := ht.1.1
  obtain ⟨k0, k13, k14, k15, k16⟩ := kYp he
  have k17 := (kYq he).2.1
  have m1 : (-1 : Int32).toInt = -1 := by decide
  intro d
  induction d with
  | nil =>
    intro j b s S D J X ks h _ _ _ _ _ _ _ hJE _ hb1 hb2 M a2 h2
    cases M with
    | zero => exact pw_none
    | succ M =>
      have eu : g_Judging_judgePart_57 (M + 1) = g_Judging_judgePart_57_s (g_Judging_judgePart_57 M) := by
        unfold g_Judging_judgePart_57
        exact lp_succ _ _ _
      rw [eu]
      unfold g_Judging_judgePart_57_s
      have rr := h.1.1.1.rr ht
      refine pw_ck (fun _ => pw_to rr.1 (pw_to k17 (pw_eq (fun x11 e11 => pw_ck (fun _ => pw_eq (fun x12 e12 => ?_))))))
      clear k0 k13 k14 k15 k16 k17
      have i11 : ix x11 = g + 1 := ixn (by rw [e11, ti_add (by rw [h1, l1]; omega) (by rw [h1, l1]; omega), h1, l1]; omega)
      have v12 : x12.toInt = (E : Int) := by rw [e12, i11, h.1.1.1.1.2 _ _ (by omega) (by omega) (by omega)]; exact hE
      have hJE : j + 0 = E := hJE
      have r0 : rns [] = 0 := rfl
      have w0 : wks 1 [] = 0 := rfl
      refine pw_pos (by omega) (pw_ret ⟨Sum.inl J, ks, rfl, List.prefix_rfl, by omega, fun J1 hJ1 => ?_, h⟩)
      rw [← Sum.inl.inj hJ1]
      omega
  | cons a d ih =>
    intro j b s S D J X ks h hO hA hD hI h44 hk hc hJE hb0 hb1 hb2 M a2 h2
    cases M with
    | zero => exact pw_none
    | succ M =>
      have eu : g_Judging_judgePart_57 (M + 1) = g_Judging_judgePart_57_s (g_Judging_judgePart_57 M) := by
        unfold g_Judging_judgePart_57
        exact lp_succ _ _ _
      rw [eu]
      unfold g_Judging_judgePart_57_s
      obtain ⟨⟨hA1, hN⟩, hA2⟩ := hA
      obtain ⟨hD3, hD5, hD2⟩ := hD
      have hIa := hI a (List.mem_cons_self ..)
      rw [wks_cons] at hb0 hb1
      rw [rns_cons] at hb2
      have hca : c[j]? = some a := hc 0 a rfl
      have rr := h.1.1.1.rr ht
      obtain ⟨cop, cpl, c4, cx, c34⟩ := ht.2.1 j a hca
      have hh : CH ps c kt g j D S a J ks := ⟨⟨hO, hA1.asp, hN, hca⟩, ⟨hIa.1, hIa.2.1, hIa.2.2, hD3, h44⟩, ⟨hk, hg, hp⟩, by omega, by omega, by omega⟩
      have i2 : ix a2 = j := ixn h2
      have hJE : j + (d.length + 1) = E := hJE
      -- what follows an instruction
      have nx : ∀ Y : St, CQA e ch ps told c X0 Y g j S a J ks → pw (g_Judging_judgePart_172 (g_Judging_judgePart_57 M) a1 a2 Y) (fun _ Y => CSrA e ch ps told c X0 Y g j S (a :: d) J ks R1 R2) := by
        intro Y hq
        obtain ⟨r, ks1, q1, q2, q3, q4⟩ := hq
        unfold g_Judging_judgePart_172
        refine pw_let ?_
        have n2 : (a2 + Int32.ofInt 1).toInt = ((j + 1 : Nat) : Int) := by
          have := a2.toInt_lt
          have jl := (List.getElem?_eq_some_iff.mp hca).1
          by_cases big : (j : Int) + 1 ≤ 2147483647
          · rw [ti_add (by rw [h2, lo1]; omega) (by rw [h2, lo1]; omega), h2, lo1]; omega
          · exfalso
            have e17 := (X0.1 (e + 17) (g + 1)).toInt_lt
            omega
        cases r with
        | inl J1 =>
          have bd := jst_bd hA1.asp q1
          have q4 : CJA (j + 1) e ch ps told c X0 Y g (sh1 j a S) J1 ks1 := q4
          refine pw_mono (ih (j + 1) _ _ _ (dnx D a) J1 Y ks1 q4 (JOK.step hW hg hIa.1.2.2 (fun z => by have := hIa.1.1 z; omega) hA1 hN hD5 hO q1) hA2 hD2 (fun q hq => hI q (List.mem_cons_of_mem _ hq)) ?_ (hk.trans q2) (fun i q hq => ?_) (by omega) (by omega) (by omega) (by omega) M _ n2) ?_
          · unfold dnx
            split
            · rename_i z5
              have := hIa.2.2 z5
              omega
            · exact h44
          · have := hc (i + 1) q hq
            rw [show j + 1 + i = j + (i + 1) by omega]
            exact this
          · rintro _ Z ⟨r1, ks2, w1, w2, w3, w4, w5⟩
            refine ⟨r1, ks2, Or.inl ⟨J1, q1, w1⟩, q2.trans w2, w3, w4, ?_⟩
            rw [show j + (a :: d).length = j + 1 + d.length by rw [List.length_cons]; omega]
            exact w5
        | inr f =>
          have q4 : CJT e X0 Y ks1 ∧ (Y.1 61 4).toInt = f.1 ∧ (Y.1 61 5).toInt = f.2 ∧ ¬ f.1 = 0 := q4
          have fin : CSrA e ch ps told c X0 Y g j S (a :: d) J ks R1 R2 := ⟨Sum.inr f, ks1, Or.inr ⟨f, q1, rfl⟩, q2, by omega, fun J1 z => absurd z (by simp), q4⟩
          cases M with
          | zero => exact pw_none
          | succ M =>
            have eu : g_Judging_judgePart_57 (M + 1) = g_Judging_judgePart_57_s (g_Judging_judgePart_57 M) := by
              unfold g_Judging_judgePart_57
              exact lp_succ _ _ _
            rw [eu]
            unfold g_Judging_judgePart_57_s
            refine pw_ck (fun _ => pw_let (pw_let (pw_eq (fun x11 e11 => pw_ck (fun _ => pw_eq (fun x12 e12 => pw_ite (fun _ => pw_ret fin) (fun _ => pw_eq (fun x13 e13 => pw_neg ?_ (pw_ret fin)))))))))
            rw [e13, q4.2.1]
            exact q4.2.2.2
      refine pw_ck (fun _ => pw_to rr.1 (pw_to k17 (pw_eq (fun x11 e11 => pw_ck (fun _ => pw_eq (fun x12 e12 => ?_))))))
      have i11 : ix x11 = g + 1 := by
        clear k0 k13 k14 k15 k16 k17
        exact ixn (by rw [e11, ti_add (by rw [h1, l1]; omega) (by rw [h1, l1]; omega), h1, l1]; omega)
      have v12 : ¬ x12.toInt ≤ a2.toInt := by
        clear k0 k13 k14 k15 k16 k17
        have : x12.toInt = (E : Int) := by rw [e12, i11, h.1.1.1.1.2 _ _ (by omega) (by omega) (by omega)]; exact hE
        omega
      refine pw_neg v12 (pw_eq (fun x13 e13 => pw_pos (by rw [e13]; exact h.1.2.1.1) (pw_ck (fun _ => pw_to rr.1 (pw_to k13 (pw_ck (fun _ => pw_eq (fun x16 e16 => ?_))))))))
      have v16 : x16.toInt = a.1 := by rw [e16, i2, rr.2.2 _ _ (Or.inr (Or.inl rfl))]; exact cop
      refine pw_ite (fun c16 => ?_) (fun c16 => ?_)
      · refine pw_ck (fun _ => pw_to rr.1 (pw_to k13 (pw_ck (fun _ => pw_eq (fun x19 e19 => ?_)))))
        have v19 : x19.toInt = a.1 := by rw [e19, i2, rr.2.2 _ _ (Or.inr (Or.inl rfl))]; exact cop
        refine pw_ite (fun c19 => ?_) (fun c19 => ?_)
        · refine pw_ck (fun _ => pw_to rr.1 (pw_to k13 (pw_ck (fun _ => pw_eq (fun x22 e22 => pw_ck (fun _ => pw_to rr.1 (pw_to k14 (pw_ck (fun _ => pw_eq (fun x25 e25 => ?_))))))))))
          have v22 : x22.toInt = a.1 := by rw [e22, i2, rr.2.2 _ _ (Or.inr (Or.inl rfl))]; exact cop
          rw [i2, rr.2.2 _ _ (Or.inr (Or.inr (Or.inl rfl)))] at e25
          clear k0 k13 k14 k15 k16 k17
          exact pw_bd (l_plainA ht h hh v22 e25 (by omega)) (fun _ X26 h26 => nx X26 h26)
        · refine pw_ck (fun _ => pw_to rr.1 (pw_to k13 (pw_ck (fun _ => pw_eq (fun x22 e22 => pw_ck (fun _ => pw_to rr.1 (pw_to k14 (pw_ck (fun _ => pw_eq (fun x25 e25 => ?_))))))))))
          have v22 : x22.toInt = a.1 := by rw [e22, i2, rr.2.2 _ _ (Or.inr (Or.inl rfl))]; exact cop
          rw [i2, rr.2.2 _ _ (Or.inr (Or.inr (Or.inl rfl)))] at e25
          clear k0 k13 k14 k15 k16 k17
          exact pw_bd (l_workA ht h hh v22 e25 (by omega)) (fun _ X26 h26 => nx X26 h26)
      · refine pw_ck (fun _ => pw_to rr.1 (pw_to k15 (pw_ck (fun _ => pw_eq (fun X37 e37 => ?_)))))
        clear k0 k13 k14 k15 k16 k17
        have h37 : CJ e ch ps told c X0 X37 g S J ks := by rw [e37]; exact h.1.id he (Or.inr rfl)
        exact pw_bd (l_askC ht h37 (by rw [e37, i2]; exact h.2.1.ask) h.2.2 hh h2 (by omega)) (fun _ X38 h38 => nx X38 h38)
/-- what the class's judging leaves -/
def CJfA (e : Nat) (ps : List Pt) (told : Nat → Bool) (c : List Ins) (X0 Y : St) (ks : List (List Int)) : Sum (List JG × List Bool) (Int × Int) → Prop
  | Sum.inl G => CG e ps told X0 Y ks G.1 ∧ LC e c c.length G.1 Y
  | Sum.inr f => CJf e ps told X0 Y ks (Sum.inr f)
def CArA (e : Nat) (ch : Tx) (ps : List Pt) (told : Nat → Bool) (c : List Ins) (X0 Y : St) (k : Nat) (G : List JG × List Bool) (ks : List (List Int)) : Prop := ∃ (r : Sum (List JG × List Bool) (Int × Int)) (ks1 : List (List Int)), JALL ch ps told c (ps.length - k) k G r ∧ ks <+: ks1 ∧ CJfA e ps told c X0 Y ks1 r
theorem psx_end : psx ps c ps.length = c.length := by
  unfold psx
  rw [List.getElem?_eq_none (Nat.le_refl _)]
theorem LC.nil : LC e c 0 [] X := ⟨fun y hy => absurd hy List.not_mem_nil, fun jj h _ => absurd h (Nat.not_lt_zero _)⟩
theorem l_paramsA (ht : CPR e ch X0 ps told c kt) (hP : CPP e X0 ps c kt) (hC : CPC ch W ps c po) (hk : k < ps.length) {a1 : Int32} (h1 : a1.toInt = (k : Int)) {R1 R2 : Nat} (hkt : kt <+: ks) (hb0 : wks 0 (pcd ps c k) ≤ 3000) (hb1 : G.length + wks 1 (pcd ps c k) + R1 ≤ 3000) (hb2 : ks.length + rns (pcd ps c k) + R2 ≤ 1549) : ∀ (M i : Nat) (a2 : Int32) (X : St), a2.toInt = (i : Int) → i ≤ (pks ps told k).length → CJA (pst ps k) e ch ps told c X0 X k [] ([], (fun x => ((pks ps told k).take i)[x]?), (js0 ps told k G).2.2.1, G) ks → pw (g_Judging_judgePart_12 M a1 a2 X) (fun _ Y => CSrA e ch ps told c X0 Y k (pst ps k) [] (pcd ps c k) (js0 ps told k G) ks R1 R2) := by
  have lo1 : (Int32.ofInt 1).toInt = 1 := by decide
  have l4 : (4 : Int32).toInt = 4 := by decide
  have he := ht.1.1
  obtain ⟨hW, hp, hpr⟩ := hC
  obtain ⟨p, hpt⟩ : ∃ p, ps[k]? = some p := ⟨_, List.getElem?_eq_getElem hk⟩
  obtain ⟨⟨hr, h15⟩, hin⟩ := hpr k p hpt
  obtain ⟨q1, q2, q3⟩ := pcd_at hpt hr
  obtain ⟨s1, s2, s3⟩ := pcd_sp hpt hr
  obtain ⟨x1, x2⟩ := pst_x (c := c) hpt
  have ln := pks_ln (told := told) hpt
  obtain ⟨c13, c17⟩ := hP.1 k p hpt
  have k13 := (kYq he).2.2.2.2.2.1
  have k17 := (kYq he).2.1
  have f := wk_fks (told := told) hW hk
  have hE : (X0.1 (e + 17) (k + 1)).toInt = (pend ps c k : Int) := by
    unfold pend
    by_cases z : k + 1 < ps.length
    · have := (hP.1 (k + 1) _ (List.getElem?_eq_getElem z)).2
      rw [List.getElem?_eq_getElem z]
      exact this
    · rw [List.getElem?_eq_none (by omega), show k + 1 = ps.length by omega]
      exact hP.2.1
  have hO : JOK p.2.2.2.1.length [] (js0 ps told k G) := by
    refine ⟨rfl, fun d hd => absurd hd List.not_mem_nil, fun i w k1 hw => absurd hw.symm (Option.some_ne_none _), fun x hx => ?_, fun x d hd => ?_⟩
    · exact ⟨_, List.getElem?_eq_getElem (by rw [ln]; exact hx)⟩
    · have hd : (pks ps told k)[x]? = some d := hd
      exact (f.2.1 d (List.mem_of_getElem? hd)).up (by omega)
  have hD : DLk p.2.2.2.1.length (pcd ps c k) := by
    have := q3 p.2.2.2.1.length [] (by omega) (fun _ _ => trivial)
    rw [List.append_nil] at this
    exact this
  have hcd : ∀ i a, (pcd ps c k)[i]? = some a → c[pst ps k + i]? = some a := fun i a hi => by
    have il := (List.getElem?_eq_some_iff.mp hi).1
    have : (c.drop (psx ps c k))[i]? = some a := by rw [s1, List.getElem?_append_left il]; exact hi
    rw [List.getElem?_drop, x2, ← x1] at this
    exact this
  have mk0 : mk [] = 0 := rfl
  intro M
  induction M with
  | zero => exact fun _ _ _ _ _ _ => pw_none
  | succ M ih =>
    intro i a2 X h2 hi h
    have eu : g_Judging_judgePart_12 (M + 1) = g_Judging_judgePart_12_s (g_Judging_judgePart_12 M) := by
      unfold g_Judging_judgePart_12
      exact lp_succ _ _ _
    rw [eu]
    unfold g_Judging_judgePart_12_s
    have rr := h.1.1.1.rr ht
    have fr := h.1.1.1.1.2
    refine pw_ck (fun _ => pw_to rr.1 (pw_to k13 (pw_ck (fun _ => pw_eq (fun x5 e5 => ?_)))))
    have v5 : x5.toInt = ((pks ps told k).length : Int) := by rw [e5, ixn h1, fr _ _ (by omega) (by omega) (by omega), c13, ln]
    refine pw_ite (fun c5 => ?_) (fun c5 => ?_)
    · have ei : i = (pks ps told k).length := by
        clear k13 k17
        omega
      refine pw_ck (fun _ => pw_to rr.1 (pw_to k17 (pw_ck (fun _ => pw_eq (fun x8 e8 => ?_)))))
      have h0 : CJA (pst ps k) e ch ps told c X0 X k [] (js0 ps told k G) ks := by
        rw [ei, List.take_length] at h
        exact h
      have v8 : x8.toInt = (pst ps k : Int) := by rw [e8, ixn h1, fr _ _ (by omega) (by omega) (by omega), c17, x1]
      clear k13 k17
      exact l_segA (W := W) ht hW hk hp h1 (R1 := R1) (R2 := R2) hE (pcd ps c k) (pst ps k) false (po k) [] p.2.2.2.1.length (js0 ps told k G) X ks h0 hO q1 hD hin (by have := f.2.2.1; omega) hkt hcd s2 (by show 0 + _ ≤ _; omega) (by show G.length + 0 + _ + _ ≤ _; omega) hb2 BIG x8 v8
    · have hlt : i < (pks ps told k).length := by
        clear k13 k17
        omega
      clear k13 k17
      have h4 := f.2.2.1
      refine pw_eq (fun x39 e39 => pw_eq (fun x40 e40 => pw_ck (fun _ => pw_eq (fun x41 e41 => pw_ck (fun _ => pw_eq (fun X42 e42 => pw_let (ih (i + 1) _ X42 ?_ (by omega) ?_)))))))
      · rw [ti_add (by rw [h2, lo1]; omega) (by rw [h2, lo1]; omega), h2, lo1]; omega
      · have v39 : x39.toInt = 4 * (k : Int) := by rw [e39, ti_mul (by rw [l4, h1]; omega) (by rw [l4, h1]; omega), l4, h1]; omega
        have i40 : ix x40 = 4 * k + i := ixn (by rw [e40, ti_add (by rw [v39, h2]; omega) (by rw [v39, h2]; omega), v39, h2]; omega)
        have hx : (pks ps told k)[i]? = some (pks ps told k)[i] := List.getElem?_eq_getElem hlt
        have kv := (h.1.1.2 k hk).2.2 i _ hx
        rw [e42, ixn h2]
        exact ⟨CJ.par he h.1 (by rw [e41, i40]; exact kv) hx, h.2.1.cg (fun q => wI_ne _ _ _ _ _ _ (by omega)), h.2.2⟩
theorem l_partsA (ht : CPR e ch X0 ps told c kt) (hP : CPP e X0 ps c kt) (hC : CPC ch W ps c po) (hb0 : wks 0 c ≤ 3000) : ∀ (M k : Nat) (a3 : Int32) (X : St) (G : List JG × List Bool) (ks : List (List Int)), a3.toInt = (k : Int) → k ≤ ps.length → CG e ps told X0 X ks G.1 ∧ LC e c (psx ps c k) G.1 X → kt <+: ks → G.1.length + wks 1 (c.drop (psx ps c k)) ≤ 3000 → ks.length + rns (c.drop (psx ps c k)) ≤ 1549 → pw (g_Judging_judgeAll_85 M a3 X) (fun _ Y => CArA e ch ps told c X0 Y k G ks) := by
  have lo1 : (Int32.ofInt 1).toInt = 1 := by decide
  have l0 : (0 : Int32).toInt = 0 := by decide
  have he := ht.1.1
  have p40 := hC.2.1
  intro M
  induction M with
  | zero => exact fun _ _ _ _ _ _ _ _ _ _ _ => pw_none
  | succ M ih =>
    intro k a3 X G ks h3 hk h hkt hb1 hb2
    have eu : g_Judging_judgeAll_85 (M + 1) = g_Judging_judgeAll_85_s (g_Judging_judgeAll_85 M) := by
      unfold g_Judging_judgeAll_85
      exact lp_succ _ _ _
    rw [eu]
    unfold g_Judging_judgeAll_85_s
    have hT := h.1.1.1
    have rr := hT.rr ht
    refine pw_ck (fun _ => pw_to rr.1 (pw_eq (fun x15 e15 => ?_)))
    have v15 : x15.toInt = (ps.length : Int) := by rw [e15, hT.1.2 _ _ (by omega) (by omega) (by omega)]; exact hP.2.2.1
    refine pw_ite (fun c15 => ?_) (fun c15 => ?_)
    · have ek : ps.length - k = 0 := by omega
      have ek2 : k = ps.length := by omega
      have hL := h.2
      rw [ek2, psx_end] at hL
      refine pw_ret ⟨Sum.inl G, ks, ?_, List.prefix_rfl, h.1, hL⟩
      rw [ek]
      rfl
    · have hlt : k < ps.length := by omega
      obtain ⟨m, hm⟩ : ∃ m, ps.length - k = m + 1 := ⟨ps.length - k - 1, by omega⟩
      obtain ⟨p, hpt⟩ : ∃ p, ps[k]? = some p := ⟨_, List.getElem?_eq_getElem hlt⟩
      obtain ⟨s1, s2, s3⟩ := pcd_sp hpt (hC.2.2 k p hpt).1.1
      have w1 : wks 1 (c.drop (psx ps c k)) = wks 1 (pcd ps c k) + wks 1 (c.drop (psx ps c (k + 1))) := by rw [s1, wks_ap]
      have r1 : rns (c.drop (psx ps c k)) = rns (pcd ps c k) + rns (c.drop (psx ps c (k + 1))) := by rw [s1, rns_ap]
      have w0 : wks 0 (pcd ps c k) ≤ wks 0 c := by
        have e0 : wks 0 (c.drop (psx ps c k)) = wks 0 (pcd ps c k) + wks 0 (c.drop (psx ps c (k + 1))) := by rw [s1, wks_ap]
        have e1 : wks 0 c = wks 0 (c.take (psx ps c k)) + wks 0 (c.drop (psx ps c k)) := by rw [← wks_ap, List.take_append_drop]
        omega
      refine pw_eq (fun x16 e16 => pw_pos (by rw [e16]; exact h.1.2.1) ?_)
      refine pw_bd (R := fun _ Y => CSrA e ch ps told c X0 Y k (pst ps k) [] (pcd ps c k) (js0 ps told k G.1) ks (wks 1 (c.drop (psx ps c (k + 1)))) (rns (c.drop (psx ps c (k + 1))))) ?_ ?_
      · unfold g_Judging_judgePart
        refine pw_eq (fun X1 e1 => pw_eq (fun X2 e2 => ?_))
        obtain ⟨px1, px2⟩ := pst_x (c := c) hpt
        have h0 : CJA (pst ps k) e ch ps told c X0 X2 k [] ([], (fun x => ((pks ps told k).take 0)[x]?), (js0 ps told k G.1).2.2.1, G.1) ks := by
          refine ⟨by rw [e2, e1]; exact h.1.cj he h3 l0, ?_, fun i w q h1 _ => absurd h1.symm (Option.some_ne_none _)⟩
          have hL := h.2
          rw [px2, ← px1] at hL
          exact hL.cg (fun q => by rw [e2, wI_ne _ _ _ _ _ _ (by omega), e1, wI_ne _ _ _ _ _ _ (by omega)])
        exact l_paramsA ht hP hC hlt h3 hkt (by omega) (by omega) (by omega) BIG 0 0 X2 (by decide) (Nat.zero_le _) h0
      · rintro _ X17 ⟨r, ks1, q1, q2, q3, q4, q5⟩
        have nx : (a3 + Int32.ofInt 1).toInt = ((k + 1 : Nat) : Int) := by rw [ti_add (by rw [h3, lo1]; omega) (by rw [h3, lo1]; omega), h3, lo1]; omega
        refine pw_let ?_
        cases r with
        | inl J =>
          have q5 : CJA (pst ps k + (pcd ps c k).length) e ch ps told c X0 X17 k (shl (pst ps k) [] (pcd ps c k)) J ks1 := q5
          rw [s2] at q5
          have q4 := q4 J rfl
          refine pw_mono (ih (k + 1) _ X17 (J.2.2.2, G.2 ++ [J.2.2.1]) ks1 nx (by omega) ⟨q5.1.cg, q5.2.1⟩ (hkt.trans q2) q4 q3) ?_
          rintro _ Y ⟨r1, ks2, y1, y2, y3⟩
          refine ⟨r1, ks2, ?_, q2.trans y2, y3⟩
          rw [hm]
          rw [show ps.length - (k + 1) = m by omega] at y1
          exact Or.inl ⟨J, q1, y1⟩
        | inr f =>
          have q5 : CJT e X0 X17 ks1 ∧ (X17.1 61 4).toInt = f.1 ∧ (X17.1 61 5).toInt = f.2 ∧ ¬ f.1 = 0 := q5
          have fin : CArA e ch ps told c X0 X17 k G ks := ⟨Sum.inr f, ks1, by rw [hm]; exact Or.inr ⟨f, q1, rfl⟩, q2, q5⟩
          cases M with
          | zero => exact pw_none
          | succ M =>
            have eu : g_Judging_judgeAll_85 (M + 1) = g_Judging_judgeAll_85_s (g_Judging_judgeAll_85 M) := by
              unfold g_Judging_judgeAll_85
              exact lp_succ _ _ _
            rw [eu]
            unfold g_Judging_judgeAll_85_s
            refine pw_ck (fun _ => pw_let (pw_eq (fun x15 e15 => pw_ite (fun _ => pw_ret fin) (fun _ => pw_eq (fun x16 e16 => pw_neg ?_ (pw_ret fin))))))
            rw [e16, q5.2.1]
            exact q5.2.2.2
theorem l_headersA (h00 : psx ps c 0 = 0) (ht : CPR e ch X0 ps told c kt) (hP : CPP e X0 ps c kt) (hC : CPC ch W ps c po) (hb0 : wks 0 c ≤ 3000) (hb1 : wks 1 c ≤ 3000) : ∀ (M k : Nat) (a3 : Int32) (X : St) (ks : List (List Int)), a3.toInt = (k : Int) → k ≤ ps.length → HSq e ps told X0 X ks k → kt <+: ks → ks.length + (ps.length - k) + rns c ≤ 1549 → pw (g_Judging_judgeAll_61 M a3 X) (fun _ Y => CArA e ch ps told c X0 Y 0 ([], []) ks) := by
  have lo1 : (Int32.ofInt 1).toInt = 1 := by decide
  have p40 := hC.2.1
  intro M
  induction M with
  | zero => exact fun _ _ _ _ _ _ _ _ _ => pw_none
  | succ M ih =>
    intro k a3 X ks h3 hk h hkt hb2
    have eu : g_Judging_judgeAll_61 (M + 1) = g_Judging_judgeAll_61_s (g_Judging_judgeAll_61 M) := by
      unfold g_Judging_judgeAll_61
      exact lp_succ _ _ _
    rw [eu]
    unfold g_Judging_judgeAll_61_s
    have he := ht.1.1
    have rr := h.1.rr ht
    refine pw_ck (fun _ => pw_to rr.1 (pw_eq (fun x13 e13 => ?_)))
    have v13 : x13.toInt = (ps.length : Int) := by rw [e13, h.1.1.2 _ _ (by omega) (by omega) (by omega)]; exact hP.2.2.1
    refine pw_ite (fun c13 => ?_) (fun c13 => ?_)
    · have ek : k = ps.length := by omega
      have w1 : wks 1 (c.drop (psx ps c 0)) ≤ wks 1 c := by
        have e1 : wks 1 c = wks 1 (c.take (psx ps c 0)) + wks 1 (c.drop (psx ps c 0)) := by rw [← wks_ap, List.take_append_drop]
        omega
      have r1 : rns (c.drop (psx ps c 0)) ≤ rns c := by
        have e1 : rns c = rns (c.take (psx ps c 0)) + rns (c.drop (psx ps c 0)) := by rw [← rns_ap, List.take_append_drop]
        omega
      refine l_partsA ht hP hC hb0 BIG 0 0 X ([], []) ks (by decide) (Nat.zero_le _) ⟨⟨⟨h.1, fun q hq => h.2.1 q (by omega)⟩, h.2.2.1, h.2.2.2, fun i G1 hG => absurd hG.symm (Option.some_ne_none _)⟩, by rw [h00]; exact LC.nil⟩ hkt (by show 0 + _ ≤ _; omega) (by omega)
    · have hlt : k < ps.length := by omega
      refine pw_bd (l_header ht hP hC.1 hC.2.1 hlt h3 hkt (by omega) h) ?_
      rintro _ X19 ⟨ks1, q1, q2, q3⟩
      refine pw_let (pw_mono (ih (k + 1) _ X19 ks1 (by rw [ti_add (by rw [h3, lo1]; omega) (by rw [h3, lo1]; omega), h3, lo1]; omega) (by omega) q3 (hkt.trans q1) (by omega)) ?_)
      rintro _ Y ⟨r, ks2, y1, y2, y3⟩
      exact ⟨r, ks2, y1, q1.trans y2, y3⟩
end CJAS
