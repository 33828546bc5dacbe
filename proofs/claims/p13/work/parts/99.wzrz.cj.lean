/-! the class's judge: what stands in its rows, its small steps -/
/-- the number v stands in the table for the kind d -/
def KC (ks : List (List Int)) (v : Int32) (d : List Int) : Prop := ∃ z : Nat, v.toInt = (z : Int) ∧ ks[z]? = some d
/-- what judging leaves as it was -/
def CJB (e : Nat) (X0 X : St) : Prop := X.2 = X0.2 ∧ ∀ j k, ¬ (e + 1 ≤ j ∧ j ≤ e + 8) → ¬ j = e + 20 → ¬ (55 ≤ j ∧ j ≤ 69) → X.1 j k = X0.1 j k
def CJT (e : Nat) (X0 X : St) (ks : List (List Int)) : Prop := CJB e X0 X ∧ TKS (e + 1) X ks ∧ K9 <+: ks ∧ ∀ d ∈ ks, WKd 40 d
/-- kinds of parts -/
def CJH (ps : List Pt) (told : Nat → Bool) (X : St) (ks : List (List Int)) : Prop := ∀ k, k < ps.length → KC ks (X.1 64 k) (oks ps told k) ∧ KC ks (X.1 65 k) (fks ps told k) ∧ ∀ i d, (pks ps told k)[i]? = some d → KC ks (X.1 63 (4 * k + i)) d
/-- a guard in its rows -/
def CGd (X : St) (ks : List (List Int)) (i : Nat) (G : JG) : Prop := (X.1 56 i).toInt = G.2.1 ∧ KC ks (X.1 59 i) G.2.2.2.2.1 ∧ KC ks (X.1 60 i) G.2.2.2.2.2 ∧ (X.1 57 i).toInt = (G.2.2.1 : Int) ∧ (X.1 58 i).toInt = G.2.2.2.1
/-- the class's judge at work in part g -/
def CJ (e : Nat) (ch : Tx) (ps : List Pt) (told : Nat → Bool) (c : List Ins) (X0 X : St) (g : Nat) (S : List SE) (J : JS) (ks : List (List Int)) : Prop := (CJT e X0 X ks ∧ CJH ps told X ks) ∧ ((X.1 61 4).toInt = 0 ∧ (X.1 61 3).toInt = (g : Int) ∧ (X.1 61 14).toInt = (J.1.length : Int) ∧ (X.1 55 5).toInt = (J.2.2.2.length : Int)) ∧ (∀ (i : Nat) (d : List Int), J.1[i]? = some d → KC ks (X.1 67 (J.1.length - 1 - i)) d) ∧ (∀ (i : Nat) (w : SE), S[i]? = some w → (∀ q, w.1 = some q → q < c.length ∧ (X.1 68 (J.1.length - 1 - i)).toInt = (q : Int)) ∧ (2 ≤ w.2.2 → (X.1 69 (J.1.length - 1 - i)).toInt = tkr ch ps c g w.2.1)) ∧ (∀ (x : Nat) (d : List Int), J.2.1 x = some d → KC ks (X.1 66 x) d) ∧ ∀ (i : Nat) (G : JG), J.2.2.2[i]? = some G → CGd X ks i G
/-- the program that is judged -/
def CPR (e : Nat) (ch : Tx) (X0 : St) (ps : List Pt) (told : Nat → Bool) (c : List Ins) (kt : List (List Int)) : Prop := ((e = 2 ∨ e = 24) ∧ X0.2.2 61 1 = e + 1 ∧ X0.2.2 61 2 = e + 2 ∧ X0.2.2 61 0 = 56) ∧ (∀ (i : Nat) (a : Ins), c[i]? = some a → (X0.1 (e + 18) i).toInt = a.1 ∧ (X0.1 (e + 21) i).toInt = a.2.2.1 ∧ (a.1 = 4 → (X0.1 (e + 19) i).toInt = nrp ch ps a.2.2.1) ∧ (¬ a.1 = 4 → ¬ a.1 = 34 → X0.1 (e + 19) i = Int32.ofInt a.2.1) ∧ (a.1 = 34 → ∃ z : Nat, X0.1 (e + 19) i = Int32.ofInt (a.2.1 + (z : Int)) ∧ kt[z]? = some a.2.2.2)) ∧ (∀ k, k < ps.length → ((X0.1 (e + 16) k).toInt = 0 ↔ ¬ told k = true)) ∧ kt.length ≤ 1549
/-- after an instruction -/
def CJr (e : Nat) (ch : Tx) (ps : List Pt) (told : Nat → Bool) (c : List Ins) (X0 Y : St) (g : Nat) (S : List SE) (ks : List (List Int)) : Sum JS (Int × Int) → Prop
  | Sum.inl J => CJ e ch ps told c X0 Y g S J ks
  | Sum.inr f => CJT e X0 Y ks ∧ (Y.1 61 4).toInt = f.1 ∧ (Y.1 61 5).toInt = f.2 ∧ ¬ f.1 = 0
section CJS
variable {e g j n m : Nat} {ch : Tx} {ps : List Pt} {told : Nat → Bool} {c : List Ins} {X0 X Y Z : St} {S : List SE} {J J1 : JS} {ks ks1 kt : List (List Int)} {d d1 w : List Int} {v v1 : Int32} {G : JG}
theorem KC.up (h : KC ks v d) (g : ks <+: ks1) : KC ks1 v d := by
  obtain ⟨z, a, b⟩ := h
  obtain ⟨l, rfl⟩ := g
  exact ⟨z, a, by rw [List.getElem?_append_left (List.getElem?_eq_some_iff.mp b).1]; exact b⟩
theorem KC.at {z : Nat} (h : ks[z]? = some d) (hv : v.toInt = (z : Int)) : KC ks v d := ⟨z, hv, h⟩
theorem CJB.rf : CJB e X X := ⟨rfl, fun _ _ _ _ _ => rfl⟩
theorem CJB.tr (h : CJB e X Y) (h1 : CJB e Y Z) : CJB e X Z := ⟨h1.1.trans h.1, fun j k a b c => (h1.2 j k a b c).trans (h.2 j k a b c)⟩
/-- rows of the judge's own -/
theorem CJT.wr {p q : Nat} (he : e = 2 ∨ e = 24) (h : CJT e X0 X ks) (hp : (55 ≤ p ∧ p ≤ 69) ∨ p = e + 20) : CJT e X0 (wI X p q v) ks := by
  have r : ∀ i k, ¬ i = p → (wI X p q v).1 i k = X.1 i k := fun i k z => wI_ne _ _ _ _ _ _ (by omega)
  exact ⟨⟨h.1.1, fun j k a b c => (r j k (by omega)).trans (h.1.2 j k a b c)⟩, h.2.1.cg (fun j k a b _ => r j k (by omega)), h.2.2⟩
theorem KC.lo (h : KC ks v d) (hT : CJT e X0 X ks) : ∃ z : Nat, v.toInt = (z : Int) ∧ ks[z]? = some d ∧ z < ks.length ∧ ks.length ≤ 1549 ∧ WKd 40 d := by
  obtain ⟨z, a, b⟩ := h
  exact ⟨z, a, b, (List.getElem?_eq_some_iff.mp b).1, hT.2.1.1.2.1, hT.2.2.2 d (List.mem_of_getElem? b)⟩
theorem KC.eq (hT : CJT e X0 X ks) (h : KC ks v d) (h1 : KC ks v1 d1) : v.toInt = v1.toInt ↔ d = d1 := by
  obtain ⟨z, a, b⟩ := h
  obtain ⟨z1, a1, b1⟩ := h1
  rw [← hT.2.1.eq b b1]
  omega
theorem KC.pl (h : K9 <+: ks) : KC ks (0 : Int32) [1] ∧ KC ks (1 : Int32) [2] ∧ KC ks (2 : Int32) [3] ∧ KC ks (3 : Int32) [4, 3] := ⟨⟨0, by decide, K9.at h rfl⟩, ⟨1, by decide, K9.at h rfl⟩, ⟨2, by decide, K9.at h rfl⟩, ⟨3, by decide, K9.at h rfl⟩⟩
theorem KC.an (h : K9 <+: ks) (hn : n ≤ 4) (hv : v.toInt = 4 + (n : Int)) : KC ks v (anf n) := by
  have cs : n = 0 ∨ n = 1 ∨ n = 2 ∨ n = 3 ∨ n = 4 := by omega
  rcases cs with z | z | z | z | z <;> subst z
  · exact ⟨4, by omega, K9.at h rfl⟩
  · exact ⟨5, by omega, K9.at h rfl⟩
  · exact ⟨6, by omega, K9.at h rfl⟩
  · exact ⟨7, by omega, K9.at h rfl⟩
  · exact ⟨8, by omega, K9.at h rfl⟩
theorem CJ.he (ht : CPR e ch X0 ps told c kt) : (e = 2 ∨ e = 24) ∧ (e + 1 = 3 ∨ e + 1 = 25) := ⟨ht.1.1, by have := ht.1.1; omega⟩
theorem CJT.rr (ht : CPR e ch X0 ps told c kt) (h : CJT e X0 X ks) : X.2.2 61 1 - 1 = e ∧ X.2.2 61 2 - 1 = e + 1 ∧ ∀ j k, (j = e + 16 ∨ j = e + 18 ∨ j = e + 19 ∨ j = e + 21) → X.1 j k = X0.1 j k := by
  obtain ⟨⟨he, r1, r2, _⟩, _⟩ := ht
  refine ⟨by rw [h.1.1, r1]; rfl, by rw [h.1.1, r2]; rfl, fun j k q => h.1.2 j k (by omega) (by omega) (by omega)⟩
/-- what is written aside -/
theorem CJ.id (he : e = 2 ∨ e = 24) (h : CJ e ch ps told c X0 X g S J ks) {p q : Nat} (hp : p = 62 ∨ p = e + 20) : CJ e ch ps told c X0 (wI X p q v) g S J ks := by
  obtain ⟨⟨h1, h2⟩, ⟨a1, a2, a3, a4⟩, h4, h5, h6, h7⟩ := h
  have r : ∀ i k, ¬ i = p → (wI X p q v).1 i k = X.1 i k := fun i k z => wI_ne _ _ _ _ _ _ (by omega)
  refine ⟨⟨h1.wr he (by omega), fun k hk => ?_⟩, ⟨by rw [r 61 _ (by omega)]; exact a1, by rw [r 61 _ (by omega)]; exact a2, by rw [r 61 _ (by omega)]; exact a3, by rw [r 55 _ (by omega)]; exact a4⟩, fun i d hd => by rw [r 67 _ (by omega)]; exact h4 i d hd, fun i w hw => by rw [r 68 _ (by omega), r 69 _ (by omega)]; exact h5 i w hw, fun x d hd => by rw [r 66 _ (by omega)]; exact h6 x d hd, fun i G hG => ?_⟩
  · rw [r 64 _ (by omega), r 65 _ (by omega)]
    obtain ⟨b1, b2, b3⟩ := h2 k hk
    exact ⟨b1, b2, fun i d hd => by rw [r 63 _ (by omega)]; exact b3 i d hd⟩
  · obtain ⟨b1, b2, b3, b4, b5⟩ := h7 i G hG
    exact ⟨by rw [r 56 _ (by omega)]; exact b1, by rw [r 59 _ (by omega)]; exact b2, by rw [r 60 _ (by omega)]; exact b3, by rw [r 57 _ (by omega)]; exact b4, by rw [r 58 _ (by omega)]; exact b5⟩
/-- the table grows -/
theorem CJ.kx (h : CJ e ch ps told c X0 X g S J ks) (he : e = 2 ∨ e = 24) (hk : ks <+: ks1) (hT : TKS (e + 1) Y ks1) (hW : ∀ d ∈ ks1, WKd 40 d) (h2 : Y.2 = X.2) (hr : ∀ j k, ¬ (e + 1 ≤ j ∧ j ≤ e + 8) → Y.1 j k = X.1 j k) : CJ e ch ps told c X0 Y g S J ks1 := by
  obtain ⟨⟨h1, h3⟩, ⟨a1, a2, a3, a4⟩, h4, h5, h6, h7⟩ := h
  have r : ∀ i k, (55 ≤ i ∧ i ≤ 69) → Y.1 i k = X.1 i k := fun i k z => hr i k (by omega)
  refine ⟨⟨⟨⟨h2.trans h1.1.1, fun j k b1 b2 b3 => (hr j k b1).trans (h1.1.2 j k b1 b2 b3)⟩, hT, h1.2.2.1.trans hk, hW⟩, fun k hk1 => ?_⟩, ⟨by rw [r 61 _ (by omega)]; exact a1, by rw [r 61 _ (by omega)]; exact a2, by rw [r 61 _ (by omega)]; exact a3, by rw [r 55 _ (by omega)]; exact a4⟩, fun i d hd => by rw [r 67 _ (by omega)]; exact (h4 i d hd).up hk, fun i w hw => by rw [r 68 _ (by omega), r 69 _ (by omega)]; exact h5 i w hw, fun x d hd => by rw [r 66 _ (by omega)]; exact (h6 x d hd).up hk, fun i G hG => ?_⟩
  · rw [r 64 _ (by omega), r 65 _ (by omega)]
    obtain ⟨b1, b2, b3⟩ := h3 k hk1
    exact ⟨b1.up hk, b2.up hk, fun i d hd => by rw [r 63 _ (by omega)]; exact (b3 i d hd).up hk⟩
  · obtain ⟨b1, b2, b3, b4, b5⟩ := h7 i G hG
    exact ⟨by rw [r 56 _ (by omega)]; exact b1, by rw [r 59 _ (by omega)]; exact b2.up hk, by rw [r 60 _ (by omega)]; exact b3.up hk, by rw [r 57 _ (by omega)]; exact b4, by rw [r 58 _ (by omega)]; exact b5⟩
theorem CJ.pop (he : e = 2 ∨ e = 24) (h : CJ e ch ps told c X0 X g S J ks) {m : Nat} (hm : m ≤ J.1.length) (hv : v.toInt = (J.1.length : Int) - m) : CJ e ch ps told c X0 (wI X 61 14 v) g (S.drop m) (jpop m J) ks := by
  obtain ⟨⟨h1, h3⟩, ⟨a1, a2, a3, a4⟩, h4, h5, h6, h7⟩ := h
  have r : ∀ i k, ¬ (i = 61 ∧ k = 14) → (wI X 61 14 v).1 i k = X.1 i k := fun i k z => wI_ne _ _ _ _ _ _ (by omega)
  have jl : (J.1.drop m).length = J.1.length - m := List.length_drop
  refine ⟨⟨h1.wr he (by omega), fun k hk => ?_⟩, ⟨by rw [r 61 _ (by omega)]; exact a1, by rw [r 61 _ (by omega)]; exact a2, ?_, by rw [r 55 _ (by omega)]; exact a4⟩, fun i d hd => ?_, fun i w hw => ?_, fun x d hd => by rw [r 66 _ (by omega)]; exact h6 x d hd, fun i G hG => ?_⟩
  · rw [r 64 _ (by omega), r 65 _ (by omega)]
    obtain ⟨b1, b2, b3⟩ := h3 k hk
    exact ⟨b1, b2, fun i d hd => by rw [r 63 _ (by omega)]; exact b3 i d hd⟩
  · rw [wI_at, hv]
    show _ = ((J.1.drop m).length : Int)
    rw [jl]
    omega
  · have hd : (J.1.drop m)[i]? = some d := hd
    rw [List.getElem?_drop] at hd
    have hi := (List.getElem?_eq_some_iff.mp hd).1
    show KC ks ((wI X 61 14 v).1 67 ((J.1.drop m).length - 1 - i)) d
    rw [jl, show J.1.length - m - 1 - i = J.1.length - 1 - (m + i) by omega, r 67 _ (by omega)]
    exact h4 (m + i) d hd
  · rw [List.getElem?_drop] at hw
    show (∀ q, w.1 = some q → q < c.length ∧ ((wI X 61 14 v).1 68 ((J.1.drop m).length - 1 - i)).toInt = (q : Int)) ∧ (2 ≤ w.2.2 → ((wI X 61 14 v).1 69 ((J.1.drop m).length - 1 - i)).toInt = tkr ch ps c g w.2.1)
    rw [jl, show J.1.length - m - 1 - i = J.1.length - 1 - (m + i) by omega, r 68 _ (by omega), r 69 _ (by omega)]
    exact h5 (m + i) w hw
  · obtain ⟨b1, b2, b3, b4, b5⟩ := h7 i G hG
    exact ⟨by rw [r 56 _ (by omega)]; exact b1, by rw [r 59 _ (by omega)]; exact b2, by rw [r 60 _ (by omega)]; exact b3, by rw [r 57 _ (by omega)]; exact b4, by rw [r 58 _ (by omega)]; exact b5⟩
theorem CJ.set (he : e = 2 ∨ e = 24) (h : CJ e ch ps told c X0 X g S J ks) {p : Nat} (hl : 1 ≤ J.1.length) (hv : KC ks v w) (hp : p = J.1.length - 1) : CJ e ch ps told c X0 (wI X 67 p v) g S (jset w J) ks := by
  obtain ⟨⟨h1, h3⟩, ⟨a1, a2, a3, a4⟩, h4, h5, h6, h7⟩ := h
  have r : ∀ i k, ¬ (i = 67 ∧ k = p) → (wI X 67 p v).1 i k = X.1 i k := fun i k z => wI_ne _ _ _ _ _ _ (by omega)
  have jl : (w :: J.1.tail).length = J.1.length := by rw [List.length_cons, List.length_tail]; omega
  refine ⟨⟨h1.wr he (by omega), fun k hk => ?_⟩, ⟨by rw [r 61 _ (by omega)]; exact a1, by rw [r 61 _ (by omega)]; exact a2, ?_, by rw [r 55 _ (by omega)]; exact a4⟩, fun i d hd => ?_, fun i w1 hw => ?_, fun x d hd => by rw [r 66 _ (by omega)]; exact h6 x d hd, fun i G hG => ?_⟩
  · rw [r 64 _ (by omega), r 65 _ (by omega)]
    obtain ⟨b1, b2, b3⟩ := h3 k hk
    exact ⟨b1, b2, fun i d hd => by rw [r 63 _ (by omega)]; exact b3 i d hd⟩
  · rw [r 61 _ (by omega)]
    show _ = ((w :: J.1.tail).length : Int)
    rw [jl]
    exact a3
  · show KC ks ((wI X 67 p v).1 67 ((w :: J.1.tail).length - 1 - i)) d
    rw [jl]
    have hd : (w :: J.1.tail)[i]? = some d := hd
    have hi := (List.getElem?_eq_some_iff.mp hd).1
    rw [jl] at hi
    cases i with
    | zero =>
      have hd : w = d := Option.some.inj hd
      rw [Nat.sub_zero, ← hp, wI_at, ← hd]
      exact hv
    | succ i =>
      have hd : J.1.tail[i]? = some d := hd
      rw [List.getElem?_tail] at hd
      rw [r 67 _ (by omega)]
      exact h4 (i + 1) d hd
  · show (∀ q, w1.1 = some q → q < c.length ∧ ((wI X 67 p v).1 68 ((w :: J.1.tail).length - 1 - i)).toInt = (q : Int)) ∧ (2 ≤ w1.2.2 → ((wI X 67 p v).1 69 ((w :: J.1.tail).length - 1 - i)).toInt = tkr ch ps c g w1.2.1)
    rw [jl, r 68 _ (by omega), r 69 _ (by omega)]
    exact h5 i w1 hw
  · obtain ⟨b1, b2, b3, b4, b5⟩ := h7 i G hG
    exact ⟨by rw [r 56 _ (by omega)]; exact b1, by rw [r 59 _ (by omega)]; exact b2, by rw [r 60 _ (by omega)]; exact b3, by rw [r 57 _ (by omega)]; exact b4, by rw [r 58 _ (by omega)]; exact b5⟩
theorem l_below {p : Int32} {i : Nat} (h : CJ e ch ps told c X0 X g S J ks) (hp : p.toInt = (i : Int)) (hi : i < J.1.length) : pw (g_Judging_below p X) (fun r Y => Y = X ∧ KC ks r (J.1.getD i [3])) := by
  have l1 : (1 : Int32).toInt = 1 := by decide
  have a3 := h.2.1.2.2.1
  have b := (X.1 61 14).toInt_lt
  unfold g_Judging_below
  refine pw_eq (fun x1 e1 => pw_eq (fun x2 e2 => pw_eq (fun x3 e3 => ?_)))
  have v2 : x2.toInt = (J.1.length : Int) - 1 := by rw [e2, e1, ti_sub (by rw [a3, l1]; omega) (by rw [a3, l1]; omega), a3, l1]
  have v3 : x3.toInt = (J.1.length : Int) - 1 - i := by rw [e3, ti_sub (by rw [v2, hp]; omega) (by rw [v2, hp]; omega), v2, hp]
  refine pw_neg (by omega) (pw_ck (fun _ => pw_eq (fun x4 e4 => pw_ret ⟨rfl, ?_⟩)))
  have i3 : ix x3 = J.1.length - 1 - i := ixn (by omega)
  rw [e4, i3]
  refine h.2.2.1 i _ ?_
  rw [List.getD_eq_getElem?_getD, List.getElem?_eq_getElem hi]
  rfl
end CJS
