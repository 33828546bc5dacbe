/-! new rows on both sides: the room, the row, its places -/
/-- the reference has a row more, of L places -/
def ROWq (X : St) (p : Int32) (n : Nat) (X1 : St) : Prop := ((X1.1 0 33).toInt = (X.1 0 33).toInt + 1 ∧ (X1.1 0 34).toInt = (X.1 0 34).toInt + p.toInt ∧ (X1.1 0 35).toInt = (X.1 0 35).toInt + 1) ∧ ((X1.1 64 n).toInt = 0 ∧ X1.1 65 n = X.1 0 34 ∧ X1.1 66 n = p) ∧ ∀ e k, ¬ (e = 0 ∧ (k = 33 ∨ k = 34 ∨ k = 35)) → ¬ ((64 ≤ e ∧ e ≤ 66) ∧ k = n) → X1.1 e k = X.1 e k
/-- the class has -/
def NROq (Y : St) (p : Int32) (y : Int64) (q0 P L : Nat) (Y1 : St) : Prop := ((Y1.1 71 0).toInt = (q0 : Int) + 1 ∧ (Y1.1 71 1).toInt = ((P + L : Nat) : Int)) ∧ (Y1.1 72 q0 = Y.1 71 1 ∧ Y1.1 73 q0 = p) ∧ (∀ j k, ¬ (j = 71 ∧ (k = 0 ∨ k = 1)) → ¬ ((j = 72 ∨ j = 73) ∧ k = q0) → Y1.1 j k = Y.1 j k) ∧ Y1.2.2 = Y.2.2 ∧ (∀ k, k < L → Y1.2.1 74 (P + k) = y) ∧ ∀ j k, ¬ (j = 74 ∧ P ≤ k ∧ k < P + L) → Y1.2.1 j k = Y.2.1 j k
section ROWS
variable {X Y Z X1 Y1 X0 Y0 V V1 : St} {r r1 r2 : Nat → Int32} {s w k a b p p1 p2 v pl o1 n1 x cc a2 a3 a4 : Int32} {y y1 y2 : Int64} {ks : List (List Int)} {e c m n i j sb tp t0 nn nn1 o q D L P F q0 : Nat} {u : Bool} {G : Nat → Int32} {f : Nat → Int32}
theorem n_row1 (hn : (X.1 0 33).toInt = (n : Int)) (h33 : n < 1000) (h34 : 0 ≤ (X.1 0 34).toInt ∧ (X.1 0 34).toInt ≤ 4000) (h35 : 0 ≤ (X.1 0 35).toInt ∧ (X.1 0 35).toInt ≤ 1000) (hp : 0 ≤ p1.toInt ∧ p1.toInt ≤ 4000) (hr : (X.1 0 34).toInt + p1.toInt ≤ 4000) : pw (f_row p1 p2 X) (fun z X1 => z.toInt = (n : Int) ∧ ROWq X p1 n X1) := by
  have l1 : (1 : Int32).toInt = 1 := by decide
  have i33 : ix (X.1 0 33) = n := ixn hn
  have a34 : (X.1 0 34 + p1).toInt = (X.1 0 34).toInt + p1.toInt := ti_add (by omega) (by omega)
  unfold f_row
  refine pw_let (pw_let (pw_neg (by omega) (pw_let (pw_neg (by omega) (pw_let (pw_ck (fun _ => pw_eq (fun X6 e6 => pw_eq (fun x7 e7 => pw_eq (fun x8 e8 => pw_ck (fun _ => pw_eq (fun X9 e9 => pw_eq (fun x10 e10 => pw_ck (fun _ => pw_eq (fun X11 e11 => pw_eq (fun x12 e12 => pw_eq (fun x13 e13 => pw_eq (fun X14 e14 => pw_eq (fun x15 e15 => pw_eq (fun x16 e16 => pw_eq (fun X17 e17 => pw_eq (fun x18 e18 => pw_eq (fun x19 e19 => pw_eq (fun X20 e20 => pw_eq (fun x21 e21 => pw_eq (fun x22 e22 => pw_ret ?_))))))))))))))))))))))))))
  rw [i33] at e6
  have i7 : ix x7 = n := by rw [e7, e6, wI_ne _ _ _ _ _ _ (by omega)]; exact i33
  rw [i7] at e9
  have i10 : ix x10 = n := by rw [e10, e9, wI_ne _ _ _ _ _ _ (by omega), e6, wI_ne _ _ _ _ _ _ (by omega)]; exact i33
  rw [i10] at e11
  have r6 : ∀ e k, ¬ (e = 64 ∧ k = n) → X6.1 e k = X.1 e k := fun e k q => by rw [e6, wI_ne _ _ _ _ _ _ q]
  have r11 : ∀ e k, ¬ ((64 ≤ e ∧ e ≤ 66) ∧ k = n) → X11.1 e k = X.1 e k := fun e k q => by rw [e11, wI_ne _ _ _ _ _ _ (by omega), e9, wI_ne _ _ _ _ _ _ (by omega), r6 e k (by omega)]
  have f8 : x8 = X.1 0 34 := by rw [e8, r6 0 34 (by omega)]
  have f13 : x13 = X.1 0 34 + p1 := by rw [e13, e12, r11 0 34 (by omega)]
  have f15 : x15 = X.1 0 33 := by rw [e15, e14, wI_ne _ _ _ _ _ _ (by omega), r11 0 33 (by omega)]
  have v16 : x16.toInt = (n : Int) + 1 := by rw [e16, f15, ti_add (by rw [hn, l1]; omega) (by rw [hn, l1]; omega), hn, l1]
  have f18 : x18 = X.1 0 35 := by rw [e18, e17, wI_ne _ _ _ _ _ _ (by omega), e14, wI_ne _ _ _ _ _ _ (by omega), r11 0 35 (by omega)]
  have v19 : x19.toInt = (X.1 0 35).toInt + 1 := by rw [e19, f18, ti_add (by rw [l1]; omega) (by rw [l1]; omega), l1]
  have f21 : x21 = x16 := by rw [e21, e20, wI_ne _ _ _ _ _ _ (by omega), e17, wI_at]
  have r20 : ∀ e k, ¬ (e = 0 ∧ (k = 33 ∨ k = 34 ∨ k = 35)) → X20.1 e k = X11.1 e k := fun e k q => by rw [e20, wI_ne _ _ _ _ _ _ (by omega), e17, wI_ne _ _ _ _ _ _ (by omega), e14, wI_ne _ _ _ _ _ _ (by omega)]
  refine ⟨?_, ⟨?_, ?_, ?_⟩, ⟨?_, ?_, ?_⟩, fun e k q1 q2 => (r20 e k q1).trans (r11 e k q2)⟩
  · rw [e22, f21, ti_sub (by rw [v16, l1]; omega) (by rw [v16, l1]; omega), v16, l1]
    omega
  · rw [e20, wI_ne _ _ _ _ _ _ (by omega), e17, wI_at, hn]
    exact v16
  · rw [e20, wI_ne _ _ _ _ _ _ (by omega), e17, wI_ne _ _ _ _ _ _ (by omega), e14, wI_at, f13]
    exact a34
  · rw [e20, wI_at]
    exact v19
  · rw [r20 64 n (by omega), e11, wI_ne _ _ _ _ _ _ (by omega), e9, wI_ne _ _ _ _ _ _ (by omega), e6, wI_at]
    rfl
  · rw [r20 65 n (by omega), e11, wI_ne _ _ _ _ _ _ (by omega), e9, wI_at, f8]
  · rw [r20 66 n (by omega), e11, wI_at]
theorem n_row0 {Q : Int32 → St → Prop} (h34 : 0 ≤ (X.1 0 34).toInt ∧ (X.1 0 34).toInt ≤ 4000) (hp : 0 ≤ p1.toInt ∧ p1.toInt ≤ 4000) (hr : ¬ ((X.1 0 34).toInt + p1.toInt ≤ 4000 ∧ (X.1 0 33).toInt < 1000)) (h33 : (X.1 0 33).toInt ≤ 1000) (hq : pw (f_ends 6 p2 X) (fun _ X1 => Q 0 X1)) : pw (f_row p1 p2 X) Q := by
  have a34 : (X.1 0 34 + p1).toInt = (X.1 0 34).toInt + p1.toInt := ti_add (by omega) (by omega)
  have q22 : pw (f_row_22 p2 X) Q := by
    unfold f_row_22
    exact pw_bd hq (fun _ X3 g => pw_ret g)
  unfold f_row
  exact pw_let (pw_let (pw_ite (fun _ => q22) (fun g => pw_let (pw_ite (fun _ => q22) (fun g2 => absurd (⟨by omega, by omega⟩ : _ ∧ _) hr)))))
theorem l_room (hC : HCq X Y) (hp : 0 ≤ p1.toInt ∧ p1.toInt ≤ 4000) : pw (g_Heap_hasRoom p1 Y) (fun z Y1 => Y1 = Y ∧ (z.toInt = 0 ↔ ¬ ((X.1 0 34).toInt + p1.toInt ≤ 4000 ∧ (X.1 0 33).toInt < 1000))) := by
  obtain ⟨⟨a1, a2, a3, a4, a5, a6⟩, b1, b2, b3⟩ := hC
  have l4 : (4000 : Int32).toInt = 4000 := by decide
  unfold g_Heap_hasRoom
  refine pw_let (pw_let (pw_eq (fun x3 e3 => ?_)))
  have v3 : x3.toInt = (X.1 0 33).toInt := by rw [e3, b1, b3, ti_add (by omega) (by omega)]; omega
  refine pw_ite (fun g => pw_ret ⟨rfl, ⟨fun _ => by omega, fun _ => by decide⟩⟩) (fun g => pw_let (pw_eq (fun x5 e5 => ?_)))
  have v5 : x5.toInt = 4000 - (X.1 0 34).toInt := by rw [e5, b2, ti_sub (by rw [l4]; omega) (by rw [l4]; omega), l4]
  exact pw_ite (fun g2 => pw_ret ⟨rfl, ⟨fun _ => by omega, fun _ => by decide⟩⟩) (fun g2 => pw_ret ⟨rfl, ⟨fun z => absurd z (by decide), fun z => absurd (⟨by omega, by omega⟩ : _ ∧ _) z⟩⟩)
theorem l_newRow (h0 : (Y.1 71 0).toInt = (q0 : Int)) (hq0 : q0 < 1000) (h1 : (Y.1 71 1).toInt = (P : Int)) (hp : p1.toInt = (L : Int)) (hPL : P + L ≤ 4000) : pw (g_Heap_newRow p1 y2 Y) (fun z Y1 => z = VLs 3 (Y.1 71 0) ∧ NROq Y p1 y2 q0 P L Y1) := by
  have l1 : (1 : Int32).toInt = 1 := by decide
  have i0 : ix (Y.1 71 0) = q0 := ixn h0
  unfold g_Heap_newRow
  refine pw_let (pw_let (pw_eq (fun x3 e3 => pw_eq (fun X4 e4 => pw_eq (fun x5 e5 => pw_ck (fun _ => pw_eq (fun X6 e6 => pw_ck (fun _ => pw_eq (fun X7 e7 => ?_)))))))))
  rw [i0] at e6 e7
  have f5 : x5 = Y.1 71 1 := by rw [e5, e4, wI_ne _ _ _ _ _ _ (by omega)]
  have v3 : x3.toInt = (q0 : Int) + 1 := by rw [e3, ti_add (by rw [h0, l1]; omega) (by rw [h0, l1]; omega), h0, l1]
  have r7 : ∀ j k, ¬ (j = 71 ∧ k = 0) → ¬ ((j = 72 ∨ j = 73) ∧ k = q0) → X7.1 j k = Y.1 j k := fun j k z1 z2 => by rw [e7, wI_ne _ _ _ _ _ _ (by omega), e6, wI_ne _ _ _ _ _ _ (by omega), e4, wI_ne _ _ _ _ _ _ z1]
  have s7 : X7.2 = Y.2 := by rw [e7, e6, e4]; rfl
  have loop : ∀ (N i : Nat) (a5 : Int32) (V : St), a5.toInt = (i : Int) → i ≤ L → V.1 = X7.1 → V.2.2 = Y.2.2 → (∀ k, k < i → V.2.1 74 (P + k) = y2) → (∀ j k, ¬ (j = 74 ∧ P ≤ k ∧ k < P + L) → V.2.1 j k = Y.2.1 j k) → pw (g_Heap_newRow_38 N p1 y2 (Y.1 71 0) a5 V) (fun z Y1 => z = VLs 3 (Y.1 71 0) ∧ NROq Y p1 y2 q0 P L Y1) := by
    intro N
    induction N with
    | zero => exact fun _ _ _ _ _ _ _ _ _ => pw_none
    | succ N ih =>
      intro i a5 V h5 hi hV1 hV2 hV3 hV4
      have e : g_Heap_newRow_38 (N + 1) = g_Heap_newRow_38_s (g_Heap_newRow_38 N) := by
        unfold g_Heap_newRow_38
        exact lp_succ _ _ _
      rw [e]
      unfold g_Heap_newRow_38_s
      have v71 : V.1 71 1 = Y.1 71 1 := by rw [hV1, r7 71 1 (by omega) (by omega)]
      refine pw_ite (fun g => pw_let (pw_eq (fun x9 e9 => pw_eq (fun X10 e10 => ?_)))) (fun g => pw_let (pw_eq (fun x14 e14 => pw_ck (fun _ => pw_eq (fun X15 e15 => pw_eq (fun x16 e16 => ?_))))))
      · have hiL : i = L := by omega
        refine pw_bd l_valueOf ?_
        rintro y11 X12 ⟨e12, e11⟩
        rw [e12, e11]
        refine pw_ret ⟨rfl, ⟨⟨?_, ?_⟩, ⟨?_, ?_⟩, fun j k z1 z2 => ?_, ?_, fun k hk => ?_, fun j k z => ?_⟩⟩
        · rw [e10, wI_ne _ _ _ _ _ _ (by omega), hV1, e7, wI_ne _ _ _ _ _ _ (by omega), e6, wI_ne _ _ _ _ _ _ (by omega), e4, wI_at]
          exact v3
        · rw [e10, wI_at, e9, v71, ti_add (by rw [h1, hp]; omega) (by rw [h1, hp]; omega), h1, hp]
          omega
        · rw [e10, wI_ne _ _ _ _ _ _ (by omega), hV1, e7, wI_ne _ _ _ _ _ _ (by omega), e6, wI_at, f5]
        · rw [e10, wI_ne _ _ _ _ _ _ (by omega), hV1, e7, wI_at]
        · rw [e10, wI_ne _ _ _ _ _ _ (by omega), hV1, r7 j k (by omega) z2]
        · rw [e10]
          exact hV2
        · rw [e10]
          exact hV3 k (by omega)
        · rw [e10]
          exact hV4 j k z
      · have hiL : i < L := by omega
        have i14 : ix x14 = P + i := ixn (by rw [e14, v71, ti_add (by rw [h1, h5]; omega) (by rw [h1, h5]; omega), h1, h5]; omega)
        rw [i14] at e15
        have v16 : x16.toInt = ((i + 1 : Nat) : Int) := by
          rw [e16, show Int32.ofInt 1 = 1 from by decide, ti_add (by rw [h5, l1]; omega) (by rw [h5, l1]; omega), h5, l1]
          omega
        refine ih (i + 1) x16 X15 v16 (by omega) (by rw [e15]; exact hV1) (by rw [e15]; exact hV2) (fun k hk => ?_) (fun j k z => ?_)
        · by_cases z : k = i
          · rw [z, e15, wL_at]
          · rw [e15, wL_ne _ _ _ _ _ _ (by omega)]
            exact hV3 k (by omega)
        · rw [e15, wL_ne _ _ _ _ _ _ (by omega)]
          exact hV4 j k z
  exact loop BIG 0 0 X7 (by decide) (Nat.zero_le _) rfl (by rw [s7]) (fun k hk => absurd hk (Nat.not_lt_zero _)) (fun j k _ => by rw [s7])
/-- the new row's value -/
theorem VR.newrow (hn : (n : Int) = p.toInt) (h33 : (n : Int) < (X.1 0 33).toInt) (hw : (X.1 64 n).toInt = 0) (hr : r n = cc) : VR X r 3 p (VLs 3 cc) := by
  have i : ix p = n := ixn hn.symm
  refine Or.inr (Or.inl ⟨by decide, ⟨by omega, by omega⟩, ?_⟩)
  unfold tvl
  rw [i, if_pos hw, hr]
/-- a row more on both sides, its places filled: what an instruction leaves -/
theorem OPQ.row (h : INS e X Y r ks sb c (t0 + m) nn) (hm : sb ≤ t0) (hn : (X.1 0 33).toInt = (n : Int)) (hn1 : n < 1000) (hq0 : (X.1 0 35).toInt = (q0 : Int)) (hP : (X.1 0 34).toInt = (P : Int)) (hp : p.toInt = (L : Int)) (hPL : P + L ≤ 4000) (hX0 : ROWq X p n X0) (hrx : ∀ e k, ¬ (e = 0 ∧ k = 31) → ¬ ((e = 60 ∨ e = 61) ∧ k = t0) → ¬ ((e = 74 ∨ e = 75) ∧ P ≤ k ∧ k < P + L) → X1.1 e k = X0.1 e k) (h31 : (X1.1 0 31).toInt = (t0 : Int) + 1) (h60 : (X1.1 60 t0).toInt = 3 ∧ (X1.1 61 t0).toInt = (n : Int)) (hy0 : ((Y1.1 71 0).toInt = (q0 : Int) + 1 ∧ (Y1.1 71 1).toInt = ((P + L : Nat) : Int)) ∧ (Y1.1 72 q0 = Y.1 71 1 ∧ Y1.1 73 q0 = p)) (hry : ∀ j k, ¬ (j = 71 ∧ (k = 0 ∨ k = 1)) → ¬ ((j = 72 ∨ j = 73) ∧ k = q0) → ¬ (j = 70 ∧ k = 15) → Y1.1 j k = Y.1 j k) (hy3 : Y1.2.2 = Y.2.2) (hrl : ∀ j k, ¬ (j = 74 ∧ P ≤ k ∧ k < P + L) → ¬ (j = 84 ∧ k = t0 + c + 1) → Y1.2.1 j k = Y.2.1 j k) (h84 : Y1.2.1 84 (t0 + c + 1) = VLs 3 (X.1 0 35)) (h15 : (Y1.1 70 15).toInt = ((t0 + 1 + c + 1 : Nat) : Int)) (hv : ∀ k, k < L → VR X r (X1.1 74 (P + k)) (X1.1 75 (P + k)) (Y1.2.1 74 (P + k))) : OPQ X Y r ks sb c (t0 + 1) nn X1 Y1 ∧ Y1.1 70 10 = Y.1 70 10 := by
  obtain ⟨hB, hS, hO, hH, hK, hN⟩ := h
  obtain ⟨⟨a1, a2, a3⟩, ⟨a4, a5, a6⟩, a7⟩ := hX0
  obtain ⟨⟨b1, b2⟩, b3, b4⟩ := hy0
  obtain ⟨⟨c1, c2, c3, c4, c5, c6⟩, c7, c8, c9⟩ := hH.1
  have i35 : ix (X.1 0 35) = q0 := ixn hq0
  have rx : ∀ e k, ¬ (e = 0 ∧ (k = 31 ∨ k = 33 ∨ k = 34 ∨ k = 35)) → ¬ ((e = 60 ∨ e = 61) ∧ k = t0) → ¬ ((e = 74 ∨ e = 75) ∧ P ≤ k ∧ k < P + L) → ¬ ((64 ≤ e ∧ e ≤ 66) ∧ k = n) → X1.1 e k = X.1 e k := fun e k q1 q2 q3 q4 => (hrx e k (by omega) q2 q3).trans (a7 e k (by omega) q4)
  have z33 : X1.1 0 33 = X0.1 0 33 := hrx 0 33 (by omega) (by omega) (by omega)
  have z34 : X1.1 0 34 = X0.1 0 34 := hrx 0 34 (by omega) (by omega) (by omega)
  have z35 : X1.1 0 35 = X0.1 0 35 := hrx 0 35 (by omega) (by omega) (by omega)
  have z64 : X1.1 64 n = X0.1 64 n := hrx 64 n (by omega) (by omega) (by omega)
  have z65 : X1.1 65 n = X.1 0 34 := (hrx 65 n (by omega) (by omega) (by omega)).trans a5
  have z66 : X1.1 66 n = p := (hrx 66 n (by omega) (by omega) (by omega)).trans a6
  have hKX : KXq X X1 := KXq.of (fun e k q => rx e k (by omega) (by omega) (by omega) (by omega))
  have w71 : Y1.1 71 0 = X1.1 0 35 := Int32.toInt_inj.mp (by rw [b1, z35, a3, hq0])
  have hr := hH.row (X1 := X1) (Y1 := Y1) (n := n) hB.2.1.1 hKX hn.symm hn1 ⟨by rw [z33]; exact a1, by rw [z34]; omega, by rw [z34]; omega, by rw [z35]; exact a3, rx 0 36 (by omega) (by omega) (by omega) (by omega)⟩ (fun e k q1 q2 => rx e k (by omega) (by omega) (by omega) (by omega)) (fun k hk => ⟨rx 74 k (by omega) (by omega) (by omega) (by omega), rx 75 k (by omega) (by omega) (by omega) (by omega)⟩) (fun z => z (by rw [z64]; exact a4)) z65 ⟨by rw [z66]; omega, by rw [z66, z34]; omega⟩ ⟨w71, Int32.toInt_inj.mp (by rw [b2, z34, a2]; omega), hry 71 2 (by omega) (by omega) (by omega)⟩ (fun e k q1 q2 => hry e k (by omega) (by rw [i35] at q2; omega) (by omega)) (fun e k q => hry e k (by omega) (by omega) (by omega)) (fun k hk => hrl 74 k (by omega) (by omega)) (fun k => hrl 75 k (by omega) (by omega)) (by rw [i35, b3, c8]) (by rw [i35, b4, z66]) (fun k k1 k2 => ?_)
  · obtain ⟨hH1, hG1⟩ := hr
    have hrn : (fun t => if t = n then X.1 0 35 else r t) n = X.1 0 35 := if_pos rfl
    refine ⟨⟨⟨hy3, fun j k q1 q2 q3 q4 => hry j k (by omega) (by omega) (by omega), fun j k q1 q2 q3 q4 => hrl j k (by omega) (by omega)⟩, ⟨hB.2.1.1.cg (fun e k q => rx e k (by omega) (by omega) (by omega) (by omega)), (KGq.of (fun e k q => rx e k (by omega) (by omega) (by omega) (by omega))).2 hB.2.1.2, hKX⟩, ⟨⟨?_, ?_, ?_, ?_⟩, ⟨w71, ?_⟩, fun i hi => ?_, fun g t hg ht => ?_⟩, Or.inr ⟨hO.cg (rx 0 43 (by omega) (by omega) (by omega) (by omega)) (rx 0 44 (by omega) (by omega) (by omega) (by omega)) (fun k _ => hry 70 k (by omega) (by omega) (by omega)), _, hG1, hH1, hK.rep (m := m) hG1 hm (by rw [h31]; omega) h15 (fun i hi => ⟨rx 60 i (by omega) (by omega) (by omega) (by omega), rx 61 i (by omega) (by omega) (by omega) (by omega)⟩) (fun i hi => hrl 84 i (by omega) (by omega)) ?_, hN.cg hG1 (Nat.le_refl _) (fun s _ => ⟨rx 62 _ (by omega) (by omega) (by omega) (by omega), rx 63 _ (by omega) (by omega) (by omega) (by omega)⟩) (fun s _ => hrl 83 _ (by omega) (by omega))⟩⟩, hry 70 10 (by omega) (by omega) (by omega)⟩
    · rw [hry 70 7 (by omega) (by omega) (by omega), rx 0 45 (by omega) (by omega) (by omega) (by omega)]; exact hS.1.1
    · rw [hry 70 9 (by omega) (by omega) (by omega), rx 0 40 (by omega) (by omega) (by omega) (by omega)]; exact hS.1.2.1
    · rw [hry 70 8 (by omega) (by omega) (by omega), rx 0 39 (by omega) (by omega) (by omega) (by omega)]; exact hS.1.2.2.1
    · rw [hry 70 18 (by omega) (by omega) (by omega), rx 0 46 (by omega) (by omega) (by omega) (by omega)]; exact hS.1.2.2.2
    · rw [hry 71 2 (by omega) (by omega) (by omega), rx 0 36 (by omega) (by omega) (by omega) (by omega)]; exact hS.2.1.2
    · rw [rx 0 46 (by omega) (by omega) (by omega) (by omega)] at hi
      rw [hry 86 _ (by omega) (by omega) (by omega), rx 79 _ (by omega) (by omega) (by omega) (by omega)]
      exact hS.2.2.1 i hi
    · rw [hry 87 _ (by omega) (by omega) (by omega), rx 80 _ (by omega) (by omega) (by omega) (by omega)]
      exact hS.2.2.2 g t hg ht
    · rw [show X1.1 60 t0 = 3 from Int32.toInt_inj.mp (by rw [h60.1]; decide), h84]
      exact VR.newrow (n := n) h60.2.symm (by rw [z33, a1]; omega) (by rw [z64]; exact a4) hrn
  · obtain ⟨i, hi⟩ : ∃ i, k = P + i := ⟨k - P, by omega⟩
    rw [hi]
    have hx2 : HG X X1 r (fun t => if t = n then X.1 0 35 else r t) := ⟨by rw [z33, a1]; omega, fun t ht => ⟨rx 64 t (by omega) (by omega) (by omega) (by omega), if_neg (by omega)⟩⟩
    exact (hv i (by rw [z34] at k2; omega)).up hx2
end ROWS
