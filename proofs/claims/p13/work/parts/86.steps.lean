/-! the compiler: tasks are taken from the top -/
def Go (r7 : Int32 → St → Option (Int32 × St)) (a1 : Int32) (c : Nat) (X Y : St) : Prop := ∀ k, f_compiles_59 r7 (k + c) a1 X = f_compiles_59 r7 k a1 Y
theorem Go.tr {r7 : Int32 → St → Option (Int32 × St)} {a1 : Int32} {c d : Nat} {X Y Z : St} (h : Go r7 a1 c X Y) (g : Go r7 a1 d Y Z) : Go r7 a1 (c + d) X Z := by
  intro k
  rw [show k + (c + d) = (k + d) + c by omega, h, g]
/-- from X to Y orders s .. e - 1 were laid, tasks below hb stay, marks are set in S and S0 alone -/
def CS (X Y : St) (hb s e : Nat) (S S0 : Nat → Prop) : Prop := Fr YR [26, 27, 8000, 8200, 8400, 8600, 9000, 9200, 9400, 9600, 9800, 10000, 10200] X Y ∧ (Y.1 0 26).toInt = (e : Int) ∧ s ≤ e ∧ (∀ i, i < hb → Y.1 48 i = X.1 48 i ∧ Y.1 49 i = X.1 49 i ∧ Y.1 50 i = X.1 50 i) ∧ (∀ i, i < s → Y.1 40 i = X.1 40 i ∧ Y.1 41 i = X.1 41 i ∧ Y.1 42 i = X.1 42 i ∧ Y.1 43 i = X.1 43 i) ∧ (∀ i, s ≤ i → i < e → Y.1 43 i = -1) ∧ (∀ i, ¬ S i → Y.1 46 i = X.1 46 i ∧ Y.1 47 i = X.1 47 i) ∧ ∀ i, ¬ S0 i → Y.1 45 i = X.1 45 i ∧ Y.1 51 i = X.1 51 i
theorem CS.mono {X Y : St} {hb h1 s e : Nat} {S S0 S1 S01 : Nat → Prop} (h : CS X Y hb s e S S0) (hh : h1 ≤ hb) (hS : ∀ i, S i → S1 i) (hS0 : ∀ i, S0 i → S01 i) : CS X Y h1 s e S1 S01 := by
  obtain ⟨a, b, c, d, f, g, i, j⟩ := h
  exact ⟨a, b, c, fun k hk => d k (by omega), f, g, fun k hk => i k (fun q => hk (hS k q)), fun k hk => j k (fun q => hk (hS0 k q))⟩
theorem CS.tr {X Y Z : St} {hb s m e : Nat} {S S0 : Nat → Prop} (h : CS X Y hb s m S S0) (h' : CS Y Z hb m e S S0) : CS X Z hb s e S S0 := by
  obtain ⟨a, b, c, d, f, g, i, j⟩ := h
  obtain ⟨a', b', c', d', f', g', i', j'⟩ := h'
  refine ⟨a.tr a' (by decide), b', by omega, fun k hk => ?_, fun k hk => ?_, fun k h1 h2 => ?_, fun k hk => ⟨(i' k hk).1.trans (i k hk).1, (i' k hk).2.trans (i k hk).2⟩, fun k hk => ⟨(j' k hk).1.trans (j k hk).1, (j' k hk).2.trans (j k hk).2⟩⟩
  · obtain ⟨p, q, r⟩ := d k hk
    obtain ⟨p', q', r'⟩ := d' k hk
    exact ⟨p'.trans p, q'.trans q, r'.trans r⟩
  · obtain ⟨p, q, r, t⟩ := f k hk
    obtain ⟨p', q', r', t'⟩ := f' k (by omega)
    exact ⟨p'.trans p, q'.trans q, r'.trans r, t'.trans t⟩
  · by_cases q : k < m
    · rw [(f' k q).2.2.2]
      exact g k h1 q
    · exact g' k (by omega) h2
theorem CS.oa {X Y : St} {hb s e : Nat} {S S0 : Nat → Prop} (h : CS X Y hb s e S S0) {j o n : Nat} (ho : OA X j o n) (hj : j < s) : OA Y j o n := by
  obtain ⟨a, b, -⟩ := h.2.2.2.2.1 j hj
  exact ⟨by rw [a]; exact ho.1, by rw [b]; exact ho.2⟩
theorem CX.cs {X Y : St} {n lo hi : Nat} {sc : Int} {s e : Nat} (h : CX X n lo hi sc s e) {hb p q : Nat} {S S0 : Nat → Prop} (hc : CS X Y hb p q S S0) (he : e ≤ p) (hS : ∀ i, lo ≤ i → i < hi → ¬ S i ∧ (i ≠ n → ¬ S0 i)) : CX Y n lo hi sc s e := by
  obtain ⟨a, -, -, -, f, -, i, j⟩ := hc
  refine h.fr ⟨fun k h1 h2 => ?_, fun k h1 h2 => ?_⟩
  · obtain ⟨g1, g2⟩ := hS k h1 h2
    exact ⟨⟨a.1 20 k (show (4000 : Nat) ∉ [26, 27, 8000, 8200, 8400, 8600, 9000, 9200, 9400, 9600, 9800, 10000, 10200] from by decide), a.1 23 k (show (4600 : Nat) ∉ [26, 27, 8000, 8200, 8400, 8600, 9000, 9200, 9400, 9600, 9800, 10000, 10200] from by decide), a.1 24 k (show (4800 : Nat) ∉ [26, 27, 8000, 8200, 8400, 8600, 9000, 9200, 9400, 9600, 9800, 10000, 10200] from by decide), a.1 25 k (show (5000 : Nat) ∉ [26, 27, 8000, 8200, 8400, 8600, 9000, 9200, 9400, 9600, 9800, 10000, 10200] from by decide), Or.inr (a.1 26 k (show (5200 : Nat) ∉ [26, 27, 8000, 8200, 8400, 8600, 9000, 9200, 9400, 9600, 9800, 10000, 10200] from by decide)), a.1 27 k (show (5400 : Nat) ∉ [26, 27, 8000, 8200, 8400, 8600, 9000, 9200, 9400, 9600, 9800, 10000, 10200] from by decide)⟩, i k g1, fun q => ⟨a.1 28 k (show (5600 : Nat) ∉ [26, 27, 8000, 8200, 8400, 8600, 9000, 9200, 9400, 9600, 9800, 10000, 10200] from by decide), j k (g2 q)⟩⟩
  · obtain ⟨c1, c2, c3, -⟩ := f k (by omega)
    exact ⟨c1, c2, c3⟩
def Top (X : St) (h : Nat) (o n m : Int32) : Prop := (X.1 0 27).toInt = (h : Int) + 1 ∧ X.1 48 h = o ∧ X.1 49 h = n ∧ X.1 50 h = m
theorem Top.cs {X Y : St} {hb s e h : Nat} {S S0 : Nat → Prop} {o n m : Int32} (hc : CS X Y hb s e S S0) (h1 : X.1 48 h = o ∧ X.1 49 h = n ∧ X.1 50 h = m) (hh : h < hb) (ht : (Y.1 0 27).toInt = (h : Int) + 1) : Top Y h o n m := by
  obtain ⟨a, b, c⟩ := hc.2.2.2.1 h hh
  exact ⟨ht, a.trans h1.1, b.trans h1.2.1, c.trans h1.2.2⟩
theorem pop {r7 : Int32 → St → Option (Int32 × St)} {a1 : Int32} {X : St} {h : Nat} {o n m : Int32} {Q : St → Prop} (ht : Top X h o n m) (hh : h < 13000) (hg : ∀ W, Fr YR [27] X W → (W.1 0 27).toInt = (h : Int) → ok (f_goesOn o n m W) (fun _ Y => Q Y)) : ∃ W Y, Fr YR [27] X W ∧ (W.1 0 27).toInt = (h : Int) ∧ Go r7 a1 1 X Y ∧ Q Y := by
  obtain ⟨h1, h2, h3, h4⟩ := ht
  have h13 : (X.1 0 27 - 1).toInt = (h : Int) := by rw [ti_sub (by rw [show (1 : Int32).toInt = 1 from rfl]; omega) (by rw [show (1 : Int32).toInt = 1 from rfl]; omega), show (1 : Int32).toInt = 1 from rfl]; omega
  have hix : ix (X.1 0 27 - 1) = h := by
    have := ixc (z := X.1 0 27 - 1) (by omega)
    omega
  have hF : Fr YR [27] X (wI X 0 27 (X.1 0 27 - 1)) := Fr.rf.wI 0 27 _ (show (27 : Nat) ∈ [27] from by decide)
  have hw : ((wI X 0 27 (X.1 0 27 - 1)).1 0 27).toInt = (h : Int) := by rw [wI_at]; exact h13
  obtain ⟨r, Y, e, q⟩ := hg (wI X 0 27 (X.1 0 27 - 1)) hF hw
  refine ⟨_, Y, hF, hw, fun k => ?_, q⟩
  have hc : inR (X.1 0 27 - 1) 13000 := ⟨by omega, show (X.1 0 27 - 1).toInt < ((13000 : Nat) : Int) by omega⟩
  have e48 : (wI X 0 27 (X.1 0 27 - 1)).1 48 (ix (X.1 0 27 - 1)) = o := by rw [hix]; exact h2
  have e49 : (wI X 0 27 (X.1 0 27 - 1)).1 49 (ix (X.1 0 27 - 1)) = n := by rw [hix]; exact h3
  have e50 : (wI X 0 27 (X.1 0 27 - 1)).1 50 (ix (X.1 0 27 - 1)) = m := by rw [hix]; exact h4
  have hn : ¬ (X.1 0 27).toInt ≤ 0 := by omega
  have step : f_compiles_59_s r7 (f_compiles_59 r7 k) a1 X = f_compiles_59 r7 k a1 Y := by
    unfold f_compiles_59_s
    show (if (X.1 0 27).toInt ≤ 0 then _ else chk (inR (X.1 0 27 - 1) 13000) (chk (inR (X.1 0 27 - 1) 13000) (chk (inR (X.1 0 27 - 1) 13000) (bnd (f_goesOn ((wI X 0 27 (X.1 0 27 - 1)).1 48 (ix (X.1 0 27 - 1))) ((wI X 0 27 (X.1 0 27 - 1)).1 49 (ix (X.1 0 27 - 1))) ((wI X 0 27 (X.1 0 27 - 1)).1 50 (ix (X.1 0 27 - 1))) (wI X 0 27 (X.1 0 27 - 1))) (fun _ X21 => f_compiles_59 r7 k a1 X21))))) = _
    rw [if_neg hn, e48, e49, e50, e]
    show (if inR (X.1 0 27 - 1) 13000 then (if inR (X.1 0 27 - 1) 13000 then (if inR (X.1 0 27 - 1) 13000 then f_compiles_59 r7 k a1 Y else none) else none) else none) = _
    rw [if_pos hc, if_pos hc, if_pos hc]
  unfold f_compiles_59 at step ⊢
  rw [lp_succ]
  exact step
/-- an order laid, as a step -/
theorem ORD.cs {X W W2 Y : St} {hb s : Nat} {o n m : Int32} {S S0 : Nat → Prop} (hF : Fr YR [27] X W) (hE : Fr YR [9000] W W2) (hS0 : ∀ i, ¬ S0 i → W2.1 45 i = W.1 45 i) (h : ORD W2 Y o n m) (hs : (X.1 0 26).toInt = (s : Int)) : CS X Y hb s (s + 1) S S0 ∧ (Y.1 0 27).toInt = (W.1 0 27).toInt ∧ Y.1 40 s = o ∧ Y.1 41 s = n ∧ Y.1 42 s = m := by
  obtain ⟨hF2, h26, ⟨d40, d41, d42, d43⟩, hi⟩ := h
  have e26 : W2.1 0 26 = X.1 0 26 := (hE.1 0 26 (by decide)).trans (hF.1 0 26 (by decide))
  have ei : ix (W2.1 0 26) = s := by
    rw [e26]
    have := ixc (z := X.1 0 26) (by omega)
    omega
  rw [ei] at d40 d41 d42 d43 hi
  have e27 : Y.1 0 27 = W.1 0 27 := (hF2.1 0 27 (by decide)).trans (hE.1 0 27 (by decide))
  have bk : ∀ e i, 200 * e ∉ [26, 8000, 8200, 8400, 8600] → cod YR e i = 200 * e → 200 * e ∉ [9000] → 200 * e ∉ [27] → Y.1 e i = X.1 e i := fun e i q1 qc q2 q3 => (hF2.1 e i (by rw [qc]; exact q1)).trans ((hE.1 e i (by rw [qc]; exact q2)).trans (hF.1 e i (by rw [qc]; exact q3)))
  refine ⟨⟨((hF.mono (by decide)).tr hE (by decide)).tr hF2 (by decide), by rw [h26, e26, hs]; show _ = ((s + 1 : Nat) : Int); omega, by omega, fun i _ => ⟨bk 48 i (by decide) rfl (by decide) (by decide), bk 49 i (by decide) rfl (by decide) (by decide), bk 50 i (by decide) rfl (by decide) (by decide)⟩, fun i q => ?_, fun i q1 q2 => ?_, fun i _ => ⟨bk 46 i (by decide) rfl (by decide) (by decide), bk 47 i (by decide) rfl (by decide) (by decide)⟩, fun i q => ⟨(hF2.1 45 i (show (9000 : Nat) ∉ [26, 8000, 8200, 8400, 8600] from by decide)).trans ((hS0 i q).trans (hF.1 45 i (show (9000 : Nat) ∉ [27] from by decide))), bk 51 i (by decide) rfl (by decide) (by decide)⟩⟩, congrArg Int32.toInt e27, d40, d41, d42⟩
  · obtain ⟨a, b, c, d⟩ := hi i (by omega)
    have w40 : W2.1 40 i = X.1 40 i := (hE.1 40 i (show (8000 : Nat) ∉ [9000] from by decide)).trans (hF.1 40 i (show (8000 : Nat) ∉ [27] from by decide))
    have w41 : W2.1 41 i = X.1 41 i := (hE.1 41 i (show (8200 : Nat) ∉ [9000] from by decide)).trans (hF.1 41 i (show (8200 : Nat) ∉ [27] from by decide))
    have w42 : W2.1 42 i = X.1 42 i := (hE.1 42 i (show (8400 : Nat) ∉ [9000] from by decide)).trans (hF.1 42 i (show (8400 : Nat) ∉ [27] from by decide))
    have w43 : W2.1 43 i = X.1 43 i := (hE.1 43 i (show (8600 : Nat) ∉ [9000] from by decide)).trans (hF.1 43 i (show (8600 : Nat) ∉ [27] from by decide))
    exact ⟨a.trans w40, b.trans w41, c.trans w42, d.trans w43⟩
  · have : i = s := by omega
    rw [this]
    exact d43
theorem st_ord {r7 : Int32 → St → Option (Int32 × St)} {a1 : Int32} {X : St} {h s : Nat} {o n m : Int32} (ht : Top X h o n m) (hs : (X.1 0 26).toInt = (s : Int)) (hh : h < 13000) (hss : s < 24000) (ho : ¬ o.toInt = 14 ∧ ¬ o.toInt = 16 ∧ ¬ o.toInt = 17 ∧ ¬ o.toInt = 40 ∧ ¬ o.toInt = 41 ∧ ¬ o.toInt = 43) (S S0 : Nat → Prop) : ∃ Y, Go r7 a1 1 X Y ∧ CS X Y h s (s + 1) S S0 ∧ (Y.1 0 27).toInt = (h : Int) ∧ Y.1 40 s = o ∧ Y.1 41 s = n ∧ Y.1 42 s = m := by
  obtain ⟨W, Y, hF, hw, hg, hq⟩ := pop (r7 := r7) (a1 := a1) (Q := fun Y => CS X Y h s (s + 1) S S0 ∧ (Y.1 0 27).toInt = (h : Int) ∧ Y.1 40 s = o ∧ Y.1 41 s = n ∧ Y.1 42 s = m) ht hh (fun W hF hw => by
    have e26 : W.1 0 26 = X.1 0 26 := hF.1 0 26 (by decide)
    refine (go_plain (by rw [e26]; omega) ho).mono ?_
    rintro - Y hO
    obtain ⟨c1, c2, c3⟩ := hO.cs (hb := h) (S := S) (S0 := S0) hF Fr.rf (fun _ _ => rfl) hs
    exact ⟨c1, c2.trans hw, c3⟩)
  exact ⟨Y, hg, hq⟩
theorem st_14 {r7 : Int32 → St → Option (Int32 × St)} {a1 : Int32} {X : St} {h s : Nat} {n m : Int32} (ht : Top X h 14 n m) (hs : (X.1 0 26).toInt = (s : Int)) (hh : h < 13000) (hss : s < 24000) (hn : inR n 3100) (S S0 : Nat → Prop) (hS : S0 (ix n)) : ∃ Y, Go r7 a1 1 X Y ∧ CS X Y h s (s + 1) S S0 ∧ (Y.1 0 27).toInt = (h : Int) ∧ (Y.1 40 s = 14 ∧ Y.1 41 s = n ∧ Y.1 42 s = m) ∧ (Y.1 45 (ix n)).toInt = (s : Int) := by
  obtain ⟨W, Y, hF, hw, hg, hq⟩ := pop (r7 := r7) (a1 := a1) (Q := fun Y => CS X Y h s (s + 1) S S0 ∧ (Y.1 0 27).toInt = (h : Int) ∧ (Y.1 40 s = 14 ∧ Y.1 41 s = n ∧ Y.1 42 s = m) ∧ (Y.1 45 (ix n)).toInt = (s : Int)) ht hh (fun W hF hw => by
    have e26 : W.1 0 26 = X.1 0 26 := hF.1 0 26 (by decide)
    refine (go_14 (by rw [e26]; omega) hn).mono ?_
    rintro - Y hO
    obtain ⟨c1, c2, c3⟩ := hO.cs (hb := h) (S := S) (S0 := S0) hF (Fr.rf.wI 45 _ _ (show (9000 : Nat) ∈ [9000] from by decide)) (fun i q => wI_ne _ 45 _ _ 45 i (fun g => q (by rw [g.2]; exact hS))) hs
    refine ⟨c1, c2.trans hw, c3, ?_⟩
    rw [hO.1.1 45 (ix n) (show (9000 : Nat) ∉ [26, 8000, 8200, 8400, 8600] from by decide), wI_at, e26]
    exact hs)
  exact ⟨Y, hg, hq⟩
theorem CS.mark {X Y : St} {hb s e k f : Nat} {v : Int32} {S S0 : Nat → Prop} (h : CS X Y hb s e S S0) (hf : f = 46 ∨ f = 47) (hS : S k) : CS X (wI Y f k v) hb s e S S0 := by
  obtain ⟨a, b, c, d, p, g, i, j⟩ := h
  have ne : ∀ e1, e1 ≠ f → ∀ i, (wI Y f k v).1 e1 i = Y.1 e1 i := fun e1 h1 i => wI_ne _ f _ _ e1 i (fun q => h1 q.1)
  have hF : Fr YR [26, 27, 8000, 8200, 8400, 8600, 9000, 9200, 9400, 9600, 9800, 10000, 10200] X (wI Y f k v) := by
    rcases hf with rfl | rfl
    · exact a.wI 46 k v (show (9200 : Nat) ∈ [26, 27, 8000, 8200, 8400, 8600, 9000, 9200, 9400, 9600, 9800, 10000, 10200] from by decide)
    · exact a.wI 47 k v (show (9400 : Nat) ∈ [26, 27, 8000, 8200, 8400, 8600, 9000, 9200, 9400, 9600, 9800, 10000, 10200] from by decide)
  have nk : ∀ e1 i, i ≠ k → (wI Y f k v).1 e1 i = Y.1 e1 i := fun e1 i h1 => wI_ne _ f _ _ e1 i (fun q => h1 q.2)
  refine ⟨hF, by rw [ne 0 (by omega)]; exact b, c, fun q hq => ?_, fun q hq => ?_, fun q h1 h2 => ?_, fun q hq => ?_, fun q hq => ?_⟩
  · rw [ne 48 (by omega), ne 49 (by omega), ne 50 (by omega)]
    exact d q hq
  · rw [ne 40 (by omega), ne 41 (by omega), ne 42 (by omega), ne 43 (by omega)]
    exact p q hq
  · rw [ne 43 (by omega)]
    exact g q h1 h2
  · have hk : q ≠ k := fun q1 => hq (by rw [q1]; exact hS)
    rw [nk 46 q hk, nk 47 q hk]
    exact i q hq
  · rw [ne 45 (by omega), ne 51 (by omega)]
    exact j q hq
theorem st_16 {r7 : Int32 → St → Option (Int32 × St)} {a1 : Int32} {X : St} {h s : Nat} {n m : Int32} (ht : Top X h 16 n m) (hs : (X.1 0 26).toInt = (s : Int)) (hh : h < 13000) (hss : s < 24000) (hn : inR n 3100) (S S0 : Nat → Prop) (hS : S (ix n)) : ∃ Y, Go r7 a1 1 X Y ∧ CS X Y h s (s + 1) S S0 ∧ (Y.1 0 27).toInt = (h : Int) ∧ (Y.1 40 s = 16 ∧ Y.1 41 s = n ∧ Y.1 42 s = m) ∧ (Y.1 46 (ix n)).toInt = (s : Int) + 1 := by
  obtain ⟨W, Y, hF, hw, hg, hq⟩ := pop (r7 := r7) (a1 := a1) (Q := fun Y => CS X Y h s (s + 1) S S0 ∧ (Y.1 0 27).toInt = (h : Int) ∧ (Y.1 40 s = 16 ∧ Y.1 41 s = n ∧ Y.1 42 s = m) ∧ (Y.1 46 (ix n)).toInt = (s : Int) + 1) ht hh (fun W hF hw => by
    have e26 : W.1 0 26 = X.1 0 26 := hF.1 0 26 (by decide)
    refine (go_16 (by rw [e26]; omega) hn).mono ?_
    rintro - Y ⟨V, hO, rfl⟩
    obtain ⟨c1, c2, c3, c4, c5⟩ := hO.cs (hb := h) (S := S) (S0 := S0) hF Fr.rf (fun _ _ => rfl) hs
    have ne : ∀ e1, e1 ≠ 46 → ∀ i, (wI V 46 (ix n) (V.1 0 26)).1 e1 i = V.1 e1 i := fun e1 h1 i => wI_ne _ 46 _ _ e1 i (fun q => h1 q.1)
    refine ⟨c1.mark (Or.inl rfl) hS, by rw [ne 0 (by decide)]; exact c2.trans hw, ⟨by rw [ne 40 (by decide)]; exact c3, by rw [ne 41 (by decide)]; exact c4, by rw [ne 42 (by decide)]; exact c5⟩, ?_⟩
    rw [wI_at, c1.2.1]
    omega)
  exact ⟨Y, hg, hq⟩
theorem st_17 {r7 : Int32 → St → Option (Int32 × St)} {a1 : Int32} {X : St} {h s : Nat} {n m : Int32} (ht : Top X h 17 n m) (hs : (X.1 0 26).toInt = (s : Int)) (hh : h < 13000) (hss : s < 24000) (hn : inR n 3100) (S S0 : Nat → Prop) (hS : S (ix n)) : ∃ Y, Go r7 a1 1 X Y ∧ CS X Y h s (s + 1) S S0 ∧ (Y.1 0 27).toInt = (h : Int) ∧ (Y.1 40 s = 17 ∧ Y.1 41 s = n ∧ Y.1 42 s = m) ∧ (Y.1 47 (ix n)).toInt = (s : Int) + 1 ∧ ∀ i, Y.1 46 i = X.1 46 i := by
  obtain ⟨W, Y, hF, hw, hg, hq⟩ := pop (r7 := r7) (a1 := a1) (Q := fun Y => CS X Y h s (s + 1) S S0 ∧ (Y.1 0 27).toInt = (h : Int) ∧ (Y.1 40 s = 17 ∧ Y.1 41 s = n ∧ Y.1 42 s = m) ∧ (Y.1 47 (ix n)).toInt = (s : Int) + 1 ∧ ∀ i, Y.1 46 i = X.1 46 i) ht hh (fun W hF hw => by
    have e26 : W.1 0 26 = X.1 0 26 := hF.1 0 26 (by decide)
    refine (go_17 (by rw [e26]; omega) hn).mono ?_
    rintro - Y ⟨V, hO, rfl⟩
    obtain ⟨c1, c2, c3, c4, c5⟩ := hO.cs (hb := h) (S := S) (S0 := S0) hF Fr.rf (fun _ _ => rfl) hs
    have ne : ∀ e1, e1 ≠ 47 → ∀ i, (wI V 47 (ix n) (V.1 0 26)).1 e1 i = V.1 e1 i := fun e1 h1 i => wI_ne _ 47 _ _ e1 i (fun q => h1 q.1)
    refine ⟨c1.mark (Or.inr rfl) hS, by rw [ne 0 (by decide)]; exact c2.trans hw, ⟨by rw [ne 40 (by decide)]; exact c3, by rw [ne 41 (by decide)]; exact c4, by rw [ne 42 (by decide)]; exact c5⟩, ?_, fun i => by rw [ne 46 (by decide)]; exact (hO.1.1 46 i (show (9200 : Nat) ∉ [26, 8000, 8200, 8400, 8600] from by decide)).trans (hF.1 46 i (show (9200 : Nat) ∉ [27] from by decide))⟩
    rw [wI_at, c1.2.1]
    omega)
  exact ⟨Y, hg, hq⟩
theorem TP.after {X V Y : St} {h s e : Nat} {S S0 : Nat → Prop} (hc : CS X V h s e S S0) (hF : Fr YR [27, 9600, 9800, 10000] V Y) (hl : ∀ i, i < h → Y.1 48 i = V.1 48 i ∧ Y.1 49 i = V.1 49 i ∧ Y.1 50 i = V.1 50 i) : CS X Y h s e S S0 := by
  obtain ⟨a, b, c, d, f, g, i, j⟩ := hc
  have bk : ∀ e i, cod YR e i = 200 * e → 200 * e ∉ [27, 9600, 9800, 10000] → Y.1 e i = V.1 e i := fun e i h1 h2 => hF.1 e i (by rw [h1]; exact h2)
  refine ⟨a.tr hF (by decide), by rw [hF.1 0 26 (by decide)]; exact b, c, fun k hk => ?_, fun k hk => ?_, fun k h1 h2 => ?_, fun k hk => ?_, fun k hk => ?_⟩
  · obtain ⟨p, q, r⟩ := hl k hk
    obtain ⟨p1, q1, r1⟩ := d k hk
    exact ⟨p.trans p1, q.trans q1, r.trans r1⟩
  · rw [bk 40 k rfl (by decide), bk 41 k rfl (by decide), bk 42 k rfl (by decide), bk 43 k rfl (by decide)]
    exact f k hk
  · rw [bk 43 k rfl (by decide)]
    exact g k h1 h2
  · rw [bk 46 k rfl (by decide), bk 47 k rfl (by decide)]
    exact i k hk
  · rw [bk 45 k rfl (by decide), bk 51 k rfl (by decide)]
    exact j k hk
/-- a node's step: its order, then its tasks L -/
theorem st_40 {r7 : Int32 → St → Option (Int32 × St)} {a1 : Int32} {X : St} {h s : Nat} {n m : Int32} {L : List (Int32 × Int32 × Int32)} (ht : Top X h 40 n m) (hs : (X.1 0 26).toInt = (s : Int)) (hh : h < 13000) (hss : s < 24000) (hT : ∀ W : St, (∀ e, 20 ≤ e ∧ e ≤ 28 → ∀ i, W.1 e i = X.1 e i) → (W.1 0 27).toInt = (h : Int) → ok (f_tells n W) (fun _ Y => TP [27, 9600, 9800, 10000] W Y L)) (S S0 : Nat → Prop) : ∃ Y, Go r7 a1 1 X Y ∧ CS X Y h s (s + 1) S S0 ∧ (Y.1 0 27).toInt = (h : Int) + L.length ∧ (Y.1 40 s = 0 ∧ Y.1 41 s = n) ∧ ∀ j x, L[j]? = some x → Y.1 48 (h + j) = x.1 ∧ Y.1 49 (h + j) = x.2.1 ∧ Y.1 50 (h + j) = x.2.2 := by
  obtain ⟨W, Y, hF, hw, hg, hq⟩ := pop (r7 := r7) (a1 := a1) (Q := fun Y => CS X Y h s (s + 1) S S0 ∧ (Y.1 0 27).toInt = (h : Int) + L.length ∧ (Y.1 40 s = 0 ∧ Y.1 41 s = n) ∧ ∀ j x, L[j]? = some x → Y.1 48 (h + j) = x.1 ∧ Y.1 49 (h + j) = x.2.1 ∧ Y.1 50 (h + j) = x.2.2) ht hh (fun W hF hw => by
    have e26 : W.1 0 26 = X.1 0 26 := hF.1 0 26 (by decide)
    refine (go_40 (Q := fun V Y => TP [27, 9600, 9800, 10000] V Y L) (by rw [e26]; omega) (fun V hV => ?_)).mono ?_
    · refine hT V (fun e he i => ?_) (by rw [hV.1.1 0 27 (by decide)]; exact hw)
      have hcod : cod YR e i = 200 * e := by
        obtain ⟨h1, h2⟩ := he
        have : e = 20 ∨ e = 21 ∨ e = 22 ∨ e = 23 ∨ e = 24 ∨ e = 25 ∨ e = 26 ∨ e = 27 ∨ e = 28 := by omega
        rcases this with rfl | rfl | rfl | rfl | rfl | rfl | rfl | rfl | rfl <;> rfl
      rw [hV.1.1 e i (by rw [hcod]; simp only [List.mem_cons, List.not_mem_nil, or_false]; omega), hF.1 e i (by rw [hcod]; simp only [List.mem_cons, List.not_mem_nil, or_false]; omega)]
    · rintro - Y ⟨V, hO, t1, t2, t3, t4⟩
      obtain ⟨c1, c2, c3, c4, c5⟩ := hO.cs (hb := h) (S := S) (S0 := S0) hF Fr.rf (fun _ _ => rfl) hs
      have e27 : (V.1 0 27).toInt = (h : Int) := c2.trans hw
      have eh : ix (V.1 0 27) = h := by
        have := ixc (z := V.1 0 27) (by omega)
        omega
      rw [eh] at t4
      refine ⟨TP.after c1 t1 (fun i hi => t3 i (by omega)), by rw [t2, e27], ⟨(t1.1 40 s (show (8000 : Nat) ∉ [27, 9600, 9800, 10000] from by decide)).trans c3, (t1.1 41 s (show (8200 : Nat) ∉ [27, 9600, 9800, 10000] from by decide)).trans c4⟩, t4⟩)
  exact ⟨Y, hg, hq⟩
