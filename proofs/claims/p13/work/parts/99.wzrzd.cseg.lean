/-! the class's judge goes over a stretch of code -/
def rns (d : List Ins) : Nat := (d.map krn).sum
/-- what is needed ahead of an instruction -/
def CH (ps : List Pt) (c : List Ins) (kt : List (List Int)) (g j D : Nat) (S : List SE) (a : Ins) (J : JS) (ks : List (List Int)) : Prop := (JOK D S J ∧ ASp c j S a ∧ NQ a S ∧ c[j]? = some a) ∧ (PIq g a ∧ (a.1 = 34 → a.2.1 = 0) ∧ (a.1 = 5 → 0 ≤ a.2.1 ∧ a.2.1 ≤ 43) ∧ (a.1 = 3 → 0 ≤ a.2.1 ∧ a.2.1 < (D : Int)) ∧ D ≤ 44) ∧ (kt <+: ks ∧ g < ps.length ∧ ps.length ≤ 40) ∧ S.length + wk 0 a.1 ≤ 3000 ∧ J.2.2.2.length + mk S + wk 1 a.1 ≤ 3000 ∧ ks.length + krn a ≤ 1549
section CSEGS
variable {e g j n m s D : Nat} {ch : Tx} {ps : List Pt} {told : Nat → Bool} {c : List Ins} {X0 X Y Z W : St} {S S1 : List SE} {J J1 : JS} {ks ks1 kt : List (List Int)} {d : List Ins} {v v1 p1 p2 : Int32} {p : Int} {a : Ins} {b : Bool} {L : Nat}
theorem wks_cons : wks L (a :: d) = wk L a.1 + wks L d := by
  unfold wks
  rw [List.map_cons, List.sum_cons]
theorem rns_cons : rns (a :: d) = krn a + rns d := by
  unfold rns
  rw [List.map_cons, List.sum_cons]
theorem l_plain (ht : CPR e ch X0 ps told c kt) (h : CJ e ch ps told c X0 X g S J ks) (hh : CH ps c kt g j D S a J ks) (h1 : p1.toInt = a.1) (h2 : p2 = X0.1 (e + 19) j) (hlt : a.1 < 11) : pw (g_Judging_judgePlain p1 p2 X) (fun _ Y => CQ e ch ps told c X0 Y g j S a J ks) := by
  obtain ⟨⟨hO, hA, hN, ha⟩, ⟨hI, h34, h5, h3, h44⟩, ⟨hk, hg, hp⟩, b0, b1, b2⟩ := hh
  have hlen := hO.1
  obtain ⟨cop, cpl, c4, cx, c34⟩ := ht.2.1 j a ha
  have h0 := hA.1.1.1
  have x2 : a.1 = 3 ∨ a.1 = 5 ∨ a.1 = 10 → p2.toInt = a.2.1 := fun z => by
    rw [h2, cx (by omega) (by omega)]
    exact ofI_to (hA.1.2 (by omega))
  have hl : wp a.1 → J.1.length < 3000 := fun z => by
    rw [wk_p z] at b0
    omega
  have w1 : wp a.1 → S.length < 3000 := fun z => by have := hl z; omega
  have cs : a.1 = 0 ∨ a.1 = 1 ∨ a.1 = 2 ∨ a.1 = 3 ∨ a.1 = 4 ∨ a.1 = 5 ∨ a.1 = 6 ∨ a.1 = 7 ∨ a.1 = 8 ∨ a.1 = 9 ∨ a.1 = 10 := by omega
  rcases cs with z | z | z | z | z | z | z | z | z | z | z
  · exact cp_0 ht h z h1
  · exact cp_1 ht h z h1 (hl (by unfold wp; omega))
  · exact cp_2 ht h z h1 (hl (by unfold wp; omega))
  · exact cp_3 ht h z h1 (hl (by unfold wp; omega)) (x2 (by omega)) hO (h3 z) h44
  · exact cp_4 ht h z h1 (hl (by unfold wp; omega)) (by rw [h2]; exact c4 z) ⟨by omega, hp⟩
  · exact cp_5 ht h z h1 (by have := ned_5 z hN; omega) (x2 (by omega)) (h5 z)
  · exact cp_6 ht h z h1 (by have := ned_6 z hN; omega)
  · exact cp_7 ht h z h1
  · exact cp_8 ht h z h1 hlen (by omega) (w1 (by unfold wp; omega)) (hA.2.1 z)
  · exact cp_9 ht h z h1 (by have := ned_9 z hN; omega)
  · refine cp_10 ht h z h1 hlen (by omega) (w1 (by unfold wp; omega)) (hA.2.2.1 z) (x2 (by omega)) ?_
    unfold krn at b2
    rw [if_pos (Or.inl z)] at b2
    omega
theorem l_work (ht : CPR e ch X0 ps told c kt) (h : CJ e ch ps told c X0 X g S J ks) (hh : CH ps c kt g j D S a J ks) (h1 : p1.toInt = a.1) (h2 : p2 = X0.1 (e + 19) j) (hlt : 11 ≤ a.1 ∧ a.1 < 27) : pw (g_Judging_judgeWork p1 p2 X) (fun _ Y => CQ e ch ps told c X0 Y g j S a J ks) := by
  obtain ⟨⟨hO, hA, hN, ha⟩, ⟨hI, h34, h5, h3, h44⟩, ⟨hk, hg, hp⟩, b0, b1, b2⟩ := hh
  have hlen := hO.1
  obtain ⟨cop, cpl, c4, cx, c34⟩ := ht.2.1 j a ha
  have x2 : a.1 = 16 → p2.toInt = a.2.1 := fun z => by
    rw [h2, cx (by omega) (by omega)]
    exact ofI_to (hA.1.2 (by omega))
  have w1 : ¬ a.1 = 17 → S.length < 3000 := fun z => by
    rw [wk_p (show wp a.1 from by unfold wp; omega)] at b0
    omega
  have cs : a.1 = 11 ∨ a.1 = 12 ∨ a.1 = 13 ∨ a.1 = 14 ∨ a.1 = 15 ∨ a.1 = 16 ∨ a.1 = 17 ∨ a.1 = 18 ∨ a.1 = 19 ∨ a.1 = 20 ∨ a.1 = 21 ∨ (22 ≤ a.1 ∧ a.1 ≤ 26) := by omega
  rcases cs with z | z | z | z | z | z | z | z | z | z | z | z
  · refine cw_11 ht h z h1 hlen (w1 (by omega)) (ned_11 z hN) ?_
    unfold krn at b2
    rw [if_pos (Or.inr z)] at b2
    omega
  · exact cw_12 ht h z h1 hlen (w1 (by omega)) (ned_12 z hN)
  · exact cw_13 ht h z h1 hlen (w1 (by omega)) (ned_13 z hN)
  · exact cw_14 ht h z h1 hlen (w1 (by omega)) (ned_14 z hN)
  · exact cw_15 ht h z h1 hlen (w1 (by omega)) (ned_15 z hN)
  · exact cw_16 ht h z h1 hlen (w1 (by omega)) (x2 z) (hA.2.2.2.2.2.1 z).1 (ned_16 z hN)
  · exact cw_17 ht h z h1 hlen (ned_17 z hN)
  · exact cw_18 ht h z h1 hlen (w1 (by omega)) (ned_18 z hN)
  · exact cw_19 ht h z h1 hlen (w1 (by omega)) (ned_19 z hN)
  · exact cw_20 ht h z h1 hlen (w1 (by omega)) (ned_20 (by omega) hN)
  · exact cw_21 ht h z h1 hlen (w1 (by omega)) (ned_20 (by omega) hN)
  · exact cw_22 ht h z h1 hlen (w1 (by omega)) (ned_20 (by omega) hN)
theorem l_ask (ht : CPR e ch X0 ps told c kt) (h : CJ e ch ps told c X0 X g S J ks) (hh : CH ps c kt g j D S a J ks) (h1 : p1.toInt = (j : Int)) (hlt : 27 ≤ a.1) : pw (g_Judging_judgeAsking p1 X) (fun _ Y => CQ e ch ps told c X0 Y g j S a J ks) := by
  obtain ⟨⟨hO, hA, hN, ha⟩, ⟨hI, h34, h5, h3, h44⟩, ⟨hk, hg, hp⟩, b0, b1, b2⟩ := hh
  have hlen := hO.1
  obtain ⟨cop, cpl, c4, cx, c34⟩ := ht.2.1 j a ha
  have h36 := hA.1.1.2
  have hc : J.2.2.2.length < 3000 := by
    rw [wk_a hlt] at b1
    omega
  have hl : S.length ≤ 3000 := by omega
  have cs : a.1 = 27 ∨ a.1 = 28 ∨ a.1 = 29 ∨ a.1 = 30 ∨ a.1 = 31 ∨ a.1 = 32 ∨ a.1 = 33 ∨ a.1 = 34 ∨ a.1 = 35 ∨ a.1 = 36 := by omega
  rcases cs with z | z | z | z | z | z | z | z | z | z
  · exact ca_27 ht h z h1 ha hlen (ned_27 z hN) hc
  · exact ca_28 ht h z h1 ha hlen (ned_28 z hN) hc
  · exact ca_29 ht h z h1 ha hlen (ned_29 z hN) hc
  · exact ca_30 ht h z h1 ha hlen (ned_30 z hN) hc (hI.1 (Or.inl z)) hA.2.2.2.2.2.2.1
  · exact ca_31 ht h z h1 ha hlen (ned_31 z hN) hc (hI.1 (Or.inr z)) hA.2.2.2.2.2.2.1
  · have q := hA.2.2.2.2.2.2.2.1 z
    exact ca_32 ht h z h1 ha hlen (by have := ned_32 z hN; omega) hc hO q.1 (hA.1.2 (by omega)).2 (ned_32 z hN) q.2 hl
  · exact ca_33 ht h z h1 ha hlen (by have := ned_33 z hN; omega) hc (ned_33 z hN)
  · exact ca_34 ht h z h1 ha hlen (ned_34 z hN) hc (h34 z) hk hg
  · exact ca_35 ht h z h1 ha hlen (ned_35 z hN) hc hg
  · exact ca_36 ht h z h1 ha hlen (ned_36 z hN) hc hl
/-- after a stretch of code -/
def CSr (e : Nat) (ch : Tx) (ps : List Pt) (told : Nat → Bool) (c : List Ins) (X0 Y : St) (g j : Nat) (S : List SE) (d : List Ins) (J : JS) (ks : List (List Int)) (R1 R2 : Nat) : Prop := ∃ (r : Sum JS (Int × Int)) (ks1 : List (List Int)), JRN ch ps told c g j S J d r ∧ ks <+: ks1 ∧ ks1.length + R2 ≤ 1549 ∧ (∀ J1, r = Sum.inl J1 → J1.2.2.2.length + R1 ≤ 3000) ∧ CJr e ch ps told c X0 Y g (shl j S d) ks1 r
theorem l_seg (ht : CPR e ch X0 ps told c kt) (hW : PWd ps) (hg : g < ps.length) (hp : ps.length ≤ 40) {a1 : Int32} (h1 : a1.toInt = (g : Int)) {R1 R2 E : Nat} (hE : (X0.1 (e + 17) (g + 1)).toInt = (E : Int)) : ∀ (d : List Ins) (j : Nat) (b : Bool) (s : Nat) (S : List SE) (D : Nat) (J : JS) (X : St) (ks : List (List Int)), CJ e ch ps told c X0 X g S J ks → JOK D S J → AOL W (nrp ch ps) c j b s S d → DLk D d → (∀ a ∈ d, PIq g a ∧ (a.1 = 34 → a.2.1 = 0) ∧ (a.1 = 5 → 0 ≤ a.2.1 ∧ a.2.1 ≤ 43)) → D ≤ 44 → kt <+: ks → (∀ i a, d[i]? = some a → c[j + i]? = some a) → j + d.length = E → S.length + wks 0 d ≤ 3000 → J.2.2.2.length + mk S + wks 1 d + R1 ≤ 3000 → ks.length + rns d + R2 ≤ 1549 → ∀ (M : Nat) (a2 : Int32), a2.toInt = (j : Int) → pw (g_Judging_judgePart_57 M a1 a2 X) (fun _ Y => CSr e ch ps told c X0 Y g j S d J ks R1 R2) := by
  have lo1 : (Int32.ofInt 1).toInt = 1 := by decide
  have l1 : (1 : Int32).toInt = 1 := by decide
  have he := ht.1.1
  obtain ⟨k0, k13, k14, k15, k16⟩ := kYp he
  have k17 := (kYq he).2.1
  have m1 : (-1 : Int32).toInt = -1 := by decide
  intro d
  induction d with
  | nil =>
    intro j b s S D J X ks h _ _ _ _ _ _ _ hJE _ hb1 hb2 M a2 h2
    cases M with
    | zero => exact pw_none
    | succ M =>
      have eu : g_Judging_judgePart_57 (M + 1) = g_Judging_judgePart_57_s (g_Judging_judgePart_57 M) := by
        unfold g_Judging_judgePart_57
        exact lp_succ _ _ _
      rw [eu]
      unfold g_Judging_judgePart_57_s
      have rr := h.1.1.rr ht
      refine pw_ck (fun _ => pw_to rr.1 (pw_to k17 (pw_eq (fun x11 e11 => pw_ck (fun _ => pw_eq (fun x12 e12 => ?_))))))
      clear k0 k13 k14 k15 k16 k17
      have i11 : ix x11 = g + 1 := ixn (by rw [e11, ti_add (by rw [h1, l1]; omega) (by rw [h1, l1]; omega), h1, l1]; omega)
      have v12 : x12.toInt = (E : Int) := by rw [e12, i11, h.1.1.1.2 _ _ (by omega) (by omega) (by omega)]; exact hE
      have hJE : j + 0 = E := hJE
      have r0 : rns [] = 0 := rfl
      have w0 : wks 1 [] = 0 := rfl
      refine pw_pos (by omega) (pw_ret ⟨Sum.inl J, ks, rfl, List.prefix_rfl, by omega, fun J1 hJ1 => ?_, h⟩)
      rw [← Sum.inl.inj hJ1]
      omega
  | cons a d ih =>
    intro j b s S D J X ks h hO hA hD hI h44 hk hc hJE hb0 hb1 hb2 M a2 h2
    cases M with
    | zero => exact pw_none
    | succ M =>
      have eu : g_Judging_judgePart_57 (M + 1) = g_Judging_judgePart_57_s (g_Judging_judgePart_57 M) := by
        unfold g_Judging_judgePart_57
        exact lp_succ _ _ _
      rw [eu]
      unfold g_Judging_judgePart_57_s
      obtain ⟨⟨hA1, hN⟩, hA2⟩ := hA
      obtain ⟨hD3, hD5, hD2⟩ := hD
      have hIa := hI a (List.mem_cons_self ..)
      rw [wks_cons] at hb0 hb1
      rw [rns_cons] at hb2
      have hca : c[j]? = some a := hc 0 a rfl
      have rr := h.1.1.rr ht
      obtain ⟨cop, cpl, c4, cx, c34⟩ := ht.2.1 j a hca
      have hh : CH ps c kt g j D S a J ks := ⟨⟨hO, hA1.asp, hN, hca⟩, ⟨hIa.1, hIa.2.1, hIa.2.2, hD3, h44⟩, ⟨hk, hg, hp⟩, by omega, by omega, by omega⟩
      have i2 : ix a2 = j := ixn h2
      have hJE : j + (d.length + 1) = E := hJE
      -- what follows an instruction
      have nx : ∀ Y : St, CQ e ch ps told c X0 Y g j S a J ks → pw (g_Judging_judgePart_172 (g_Judging_judgePart_57 M) a1 a2 Y) (fun _ Y => CSr e ch ps told c X0 Y g j S (a :: d) J ks R1 R2) := by
        intro Y hq
        obtain ⟨r, ks1, q1, q2, q3, q4⟩ := hq
        unfold g_Judging_judgePart_172
        refine pw_let ?_
        have n2 : (a2 + Int32.ofInt 1).toInt = ((j + 1 : Nat) : Int) := by
          have := a2.toInt_lt
          have jl := (List.getElem?_eq_some_iff.mp hca).1
          by_cases big : (j : Int) + 1 ≤ 2147483647
          · rw [ti_add (by rw [h2, lo1]; omega) (by rw [h2, lo1]; omega), h2, lo1]; omega
          · exfalso
            have e17 := (X0.1 (e + 17) (g + 1)).toInt_lt
            omega
        cases r with
        | inl J1 =>
          have bd := jst_bd hA1.asp q1
          have q4 : CJ e ch ps told c X0 Y g (sh1 j a S) J1 ks1 := q4
          refine pw_mono (ih (j + 1) _ _ _ (dnx D a) J1 Y ks1 q4 (JOK.step hW hg hIa.1.2.2 (fun z => by have := hIa.1.1 z; omega) hA1 hN hD5 hO q1) hA2 hD2 (fun q hq => hI q (List.mem_cons_of_mem _ hq)) ?_ (hk.trans q2) (fun i q hq => ?_) (by omega) (by omega) (by omega) (by omega) M _ n2) ?_
          · unfold dnx
            split
            · rename_i z5
              have := hIa.2.2 z5
              omega
            · exact h44
          · have := hc (i + 1) q hq
            rw [show j + 1 + i = j + (i + 1) by omega]
            exact this
          · rintro _ Z ⟨r1, ks2, w1, w2, w3, w4, w5⟩
            exact ⟨r1, ks2, Or.inl ⟨J1, q1, w1⟩, q2.trans w2, w3, w4, w5⟩
        | inr f =>
          have q4 : CJT e X0 Y ks1 ∧ (Y.1 61 4).toInt = f.1 ∧ (Y.1 61 5).toInt = f.2 ∧ ¬ f.1 = 0 := q4
          have fin : CSr e ch ps told c X0 Y g j S (a :: d) J ks R1 R2 := ⟨Sum.inr f, ks1, Or.inr ⟨f, q1, rfl⟩, q2, by omega, fun J1 z => absurd z (by simp), q4⟩
          cases M with
          | zero => exact pw_none
          | succ M =>
            have eu : g_Judging_judgePart_57 (M + 1) = g_Judging_judgePart_57_s (g_Judging_judgePart_57 M) := by
              unfold g_Judging_judgePart_57
              exact lp_succ _ _ _
            rw [eu]
            unfold g_Judging_judgePart_57_s
            refine pw_ck (fun _ => pw_let (pw_let (pw_eq (fun x11 e11 => pw_ck (fun _ => pw_eq (fun x12 e12 => pw_ite (fun _ => pw_ret fin) (fun _ => pw_eq (fun x13 e13 => pw_neg ?_ (pw_ret fin)))))))))
            rw [e13, q4.2.1]
            exact q4.2.2.2
      refine pw_ck (fun _ => pw_to rr.1 (pw_to k17 (pw_eq (fun x11 e11 => pw_ck (fun _ => pw_eq (fun x12 e12 => ?_))))))
      have i11 : ix x11 = g + 1 := by
        clear k0 k13 k14 k15 k16 k17
        exact ixn (by rw [e11, ti_add (by rw [h1, l1]; omega) (by rw [h1, l1]; omega), h1, l1]; omega)
      have v12 : ¬ x12.toInt ≤ a2.toInt := by
        clear k0 k13 k14 k15 k16 k17
        have : x12.toInt = (E : Int) := by rw [e12, i11, h.1.1.1.2 _ _ (by omega) (by omega) (by omega)]; exact hE
        omega
      refine pw_neg v12 (pw_eq (fun x13 e13 => pw_pos (by rw [e13]; exact h.2.1.1) (pw_ck (fun _ => pw_to rr.1 (pw_to k13 (pw_ck (fun _ => pw_eq (fun x16 e16 => ?_))))))))
      have v16 : x16.toInt = a.1 := by rw [e16, i2, rr.2.2 _ _ (Or.inr (Or.inl rfl))]; exact cop
      refine pw_ite (fun c16 => ?_) (fun c16 => ?_)
      · refine pw_ck (fun _ => pw_to rr.1 (pw_to k13 (pw_ck (fun _ => pw_eq (fun x19 e19 => ?_)))))
        have v19 : x19.toInt = a.1 := by rw [e19, i2, rr.2.2 _ _ (Or.inr (Or.inl rfl))]; exact cop
        refine pw_ite (fun c19 => ?_) (fun c19 => ?_)
        · refine pw_ck (fun _ => pw_to rr.1 (pw_to k13 (pw_ck (fun _ => pw_eq (fun x22 e22 => pw_ck (fun _ => pw_to rr.1 (pw_to k14 (pw_ck (fun _ => pw_eq (fun x25 e25 => ?_))))))))))
          have v22 : x22.toInt = a.1 := by rw [e22, i2, rr.2.2 _ _ (Or.inr (Or.inl rfl))]; exact cop
          rw [i2, rr.2.2 _ _ (Or.inr (Or.inr (Or.inl rfl)))] at e25
          clear k0 k13 k14 k15 k16 k17
          exact pw_bd (l_plain ht h hh v22 e25 (by omega)) (fun _ X26 h26 => nx X26 h26)
        · refine pw_ck (fun _ => pw_to rr.1 (pw_to k13 (pw_ck (fun _ => pw_eq (fun x22 e22 => pw_ck (fun _ => pw_to rr.1 (pw_to k14 (pw_ck (fun _ => pw_eq (fun x25 e25 => ?_))))))))))
          have v22 : x22.toInt = a.1 := by rw [e22, i2, rr.2.2 _ _ (Or.inr (Or.inl rfl))]; exact cop
          rw [i2, rr.2.2 _ _ (Or.inr (Or.inr (Or.inl rfl)))] at e25
          clear k0 k13 k14 k15 k16 k17
          exact pw_bd (l_work ht h hh v22 e25 (by omega)) (fun _ X26 h26 => nx X26 h26)
      · refine pw_ck (fun _ => pw_to rr.1 (pw_to k15 (pw_ck (fun _ => pw_eq (fun X37 e37 => ?_)))))
        clear k0 k13 k14 k15 k16 k17
        have h37 : CJ e ch ps told c X0 X37 g S J ks := by rw [e37]; exact h.id he (Or.inr rfl)
        exact pw_bd (l_ask ht h37 hh h2 (by omega)) (fun _ X38 h38 => nx X38 h38)
end CSEGS
