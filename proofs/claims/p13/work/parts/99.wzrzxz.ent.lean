/-! a part is entered: its names, on both sides -/
def NMI (Z0 V0 : St) (r : Nat → Int32) (c cell A m i : Nat) (Z V : St) : Prop := ((Z.1 0 31).toInt = ((cell + 1 + i : Nat) : Int) ∧ (V.1 70 15).toInt = ((A + 1 + i : Nat) : Int)) ∧ (∀ e k, ¬ (e = 0 ∧ k = 31) → ¬ ((e = 62 ∨ e = 63) ∧ 45 * (c + 1) ≤ k ∧ k < 45 * (c + 1) + m) → Z.1 e k = Z0.1 e k) ∧ ((∀ j k, ¬ (j = 70 ∧ k = 15) → V.1 j k = V0.1 j k) ∧ V.2.2 = V0.2.2 ∧ ∀ j k, ¬ (j = 83 ∧ 44 * (c + 1) ≤ k ∧ k < 44 * (c + 1) + m) → V.2.1 j k = V0.2.1 j k) ∧ ∀ j, i ≤ j → j < m → VR Z0 r (Z.1 62 (45 * (c + 1) + j)) (Z.1 63 (45 * (c + 1) + j)) (V.2.1 83 (44 * (c + 1) + j))
section ENTS
variable {X Y Z Z0 V0 V : St} {r : Nat → Int32} {p1 a1 a4 b4 : Int32} {e c m n i j A cell : Nat}
theorem l_slot (h11 : (V.1 70 11).toInt = (c : Int) + 1) (hc : c ≤ 99) (hi : a4.toInt = (i : Int)) (hi2 : i < 44) : pw (g_Running_slotAt a4 V) (fun z V1 => V1 = V ∧ z.toInt = ((44 * c + i : Nat) : Int)) := by
  have l1 : (1 : Int32).toInt = 1 := by decide
  have l44 : (44 : Int32).toInt = 44 := by decide
  unfold g_Running_slotAt
  refine pw_eq (fun x1 e1 => pw_eq (fun x2 e2 => pw_eq (fun x3 e3 => pw_eq (fun x4 e4 => ?_))))
  have v2 : x2.toInt = (c : Int) := by rw [e2, e1, ti_sub (by rw [h11, l1]; omega) (by rw [h11, l1]; omega), h11, l1]; omega
  have v3 : x3.toInt = (c : Int) * 44 := by rw [e3, ti_mul (by rw [v2, l44]; omega) (by rw [v2, l44]; omega), v2, l44]
  have v4 : x4.toInt = ((44 * c + i : Nat) : Int) := by rw [e4, ti_add (by rw [v3, hi]; omega) (by rw [v3, hi]; omega), v3, hi]; omega
  exact pw_neg (by omega) (pw_neg (by omega) (pw_ret ⟨rfl, v4⟩))
theorem n_names (he : e = 2 ∨ e = 24) (hp2 : V0.2.2 70 2 = e + 1) (hpp : 0 ≤ p1.toInt ∧ p1.toInt < (V0.1 e 1).toInt) (hp41 : p1.toInt ≤ 40) (h32 : (Z0.1 0 32).toInt = 45 * ((c : Int) + 1)) (h11 : (V0.1 70 11).toInt = (c : Int) + 2) (hc : c ≤ 98) (hm : m ≤ 4) (hcell : cell + m ≤ 20000) (hA : A + m ≤ 20001) (hv : ∀ j, j < m → VR Z0 r (Z0.1 60 (cell + 1 + j)) (Z0.1 61 (cell + 1 + j)) (V0.2.1 84 (A + 1 + j))) : ∀ (N i : Nat) (Z V : St) (a4 b4 : Int32), a4.toInt = (i : Int) - 1 → b4.toInt = (i : Int) - 1 → i ≤ m → NMI Z0 V0 r c cell A m i Z V → pw (f_calls_92 N a4 Z) (fun _ Z1 => ∀ M : Nat, pw (g_Running_enterPart_44 M p1 b4 V) (fun _ V1 => ∃ V2, NMI Z0 V0 r c cell A m 0 Z1 V2 ∧ V1 = wI V2 70 10 (V0.1 (e + 17) (ix p1)))) := by
  have l1 : (1 : Int32).toInt = 1 := by decide
  intro N
  induction N with
  | zero => exact fun _ _ _ _ _ _ _ _ _ => pw_none
  | succ N ih =>
    intro i Z V a4 b4 h4 hb4 hi hI
    have e1 : f_calls_92 (N + 1) = f_calls_92_s (f_calls_92 N) := by
      unfold f_calls_92
      exact lp_succ _ _ _
    rw [e1]
    unfold f_calls_92_s
    have hI0 := hI
    obtain ⟨⟨t1, t2⟩, zr, ⟨vr, v3, vl⟩, hv2⟩ := hI
    rcases Nat.eq_zero_or_pos i with hz | hz
    · rw [hz] at hI0 h4 hb4
      refine pw_pos (by omega) (pw_ret (fun M => ?_))
      cases M with
      | zero => exact pw_none
      | succ M =>
        have e2 : g_Running_enterPart_44 (M + 1) = g_Running_enterPart_44_s (g_Running_enterPart_44 M) := by
          unfold g_Running_enterPart_44
          exact lp_succ _ _ _
        rw [e2]
        unfold g_Running_enterPart_44_s
        have pe : V.2.2 70 2 - 1 = e := by rw [v3, hp2]; rfl
        have ve : V.1 e 1 = V0.1 e 1 := vr e 1 (by rcases he with q | q <;> omega)
        have ve2 : V.1 (e + 17) (ix p1) = V0.1 (e + 17) (ix p1) := vr (e + 17) _ (by rcases he with q | q <;> omega)
        refine pw_pos (by omega) (pw_neg (by omega) (pw_ck (fun _ => pw_to pe (pw_to ve (pw_neg (by omega) (pw_ck (fun _ => pw_to pe (pw_to (kYq he).2.1 (pw_ck (fun _ => pw_to ve2 ?_))))))))))
        unfold g_Running_enterPart_99
        exact pw_let (pw_ret ⟨V, hI0, rfl⟩)
    · obtain ⟨k, hk⟩ : ∃ k, i = k + 1 := ⟨i - 1, by omega⟩
      have v4 : a4.toInt = (k : Int) := by omega
      have vb4 : b4.toInt = (k : Int) := by omega
      have z32 : Z.1 0 32 = Z0.1 0 32 := zr 0 32 (by omega) (by omega)
      refine pw_neg (by omega) (pw_let (pw_eq (fun x22 e22 => pw_eq (fun X23 e23 => pw_let (pw_eq (fun x25 e25 => pw_eq (fun x26 e26 => pw_ck (fun _ => pw_let (pw_ck (fun _ => pw_eq (fun X28 e28 => pw_let (pw_eq (fun x30 e30 => pw_eq (fun x31 e31 => pw_ck (fun _ => pw_let (pw_ck (fun _ => pw_eq (fun X33 e33 => pw_eq (fun x34 e34 => ?_)))))))))))))))))))
      have w22 : x22.toInt = ((cell + 1 + k : Nat) : Int) := by rw [e22, ti_sub (by rw [t1, l1]; omega) (by rw [t1, l1]; omega), t1, l1]; omega
      have w26 : x26 = x22 := by rw [e26, e23, wI_at]
      have i26 : ix x26 = cell + 1 + k := by rw [w26]; exact ixn w22
      have i25 : ix x25 = 45 * (c + 1) + k := by
        refine ixn ?_
        rw [e25, e23, wI_ne _ _ _ _ _ _ (by omega), z32, ti_add (by rw [h32, v4]; omega) (by rw [h32, v4]; omega), h32, v4]
        omega
      rw [i25, i26] at e28
      have r23 : ∀ e k, ¬ (e = 0 ∧ k = 31) → X23.1 e k = Z.1 e k := fun e k q => by rw [e23, wI_ne _ _ _ _ _ _ q]
      have i31 : ix x31 = cell + 1 + k := by rw [e31, e28, wI_ne _ _ _ _ _ _ (by omega), e23, wI_at]; exact ixn w22
      have i30 : ix x30 = 45 * (c + 1) + k := by
        refine ixn ?_
        rw [e30, e28, wI_ne _ _ _ _ _ _ (by omega), r23 0 32 (by omega), z32, ti_add (by rw [h32, v4]; omega) (by rw [h32, v4]; omega), h32, v4]
        omega
      rw [i30, i31] at e33
      have s60 : X23.1 60 (cell + 1 + k) = Z0.1 60 (cell + 1 + k) := by rw [r23 60 _ (by omega), zr 60 _ (by omega) (by omega)]
      have s61 : X28.1 61 (cell + 1 + k) = Z0.1 61 (cell + 1 + k) := by rw [e28, wI_ne _ _ _ _ _ _ (by omega), r23 61 _ (by omega), zr 61 _ (by omega) (by omega)]
      rw [s60] at e28
      rw [s61] at e33
      have rd : ∀ e k', ¬ (e = 0 ∧ k' = 31) → ¬ ((e = 62 ∨ e = 63) ∧ k' = 45 * (c + 1) + k) → X33.1 e k' = Z.1 e k' := fun e k' q1 q2 => by rw [e33, wI_ne _ _ _ _ _ _ (by omega), e28, wI_ne _ _ _ _ _ _ (by omega), r23 e k' q1]
      have f31 : (X33.1 0 31).toInt = ((cell + 1 + k : Nat) : Int) := by rw [e33, wI_ne _ _ _ _ _ _ (by omega), e28, wI_ne _ _ _ _ _ _ (by omega), e23, wI_at]; exact w22
      have f62 : X33.1 62 (45 * (c + 1) + k) = Z0.1 60 (cell + 1 + k) := by rw [e33, wI_ne _ _ _ _ _ _ (by omega), e28, wI_at]
      have f63 : X33.1 63 (45 * (c + 1) + k) = Z0.1 61 (cell + 1 + k) := by rw [e33, wI_at]
      have f34 : x34.toInt = (k : Int) - 1 := by rw [e34]; exact dec_i (by omega)
      clear e34
      refine pw_mono (ih k X33 (wL (wI V 70 15 (V.1 70 15 - 1)) 83 (44 * (c + 1) + k) (V0.2.1 84 (A + 1 + k))) x34 (b4 + Int32.ofInt (-1)) f34 (dec_i (by omega)) (by omega) ?_) (fun _ Z1 g M => ?_)
      · have t3 : (V.1 70 15 - 1).toInt = ((A + 1 + k : Nat) : Int) := by rw [ti_sub (by rw [t2, l1]; omega) (by rw [t2, l1]; omega), t2, l1]; omega
        refine ⟨⟨f31, by show ((wI V 70 15 (V.1 70 15 - 1)).1 70 15).toInt = _; rw [wI_at]; exact t3⟩, fun e k' q1 q2 => (rd e k' q1 (by omega)).trans (zr e k' q1 q2), ⟨fun j k' q => ?_, v3, fun j k' q => ?_⟩, fun j j1 j2 => ?_⟩
        · show (wI V 70 15 (V.1 70 15 - 1)).1 j k' = _
          rw [wI_ne _ _ _ _ _ _ q]
          exact vr j k' q
        · show (wL (wI V 70 15 (V.1 70 15 - 1)) 83 (44 * (c + 1) + k) (V0.2.1 84 (A + 1 + k))).2.1 j k' = _
          rw [wL_ne _ _ _ _ _ _ (by omega)]
          exact vl j k' q
        · show VR Z0 r _ _ ((wL (wI V 70 15 (V.1 70 15 - 1)) 83 (44 * (c + 1) + k) (V0.2.1 84 (A + 1 + k))).2.1 83 (44 * (c + 1) + j))
          by_cases q : j = k
          · rw [q, f62, f63, wL_at]
            exact hv k (by omega)
          · rw [wL_ne _ _ _ _ _ _ (by omega), rd 62 _ (by omega) (by omega), rd 63 _ (by omega) (by omega)]
            exact hv2 j (by omega) j2
      · cases M with
        | zero => exact pw_none
        | succ M =>
          have e2 : g_Running_enterPart_44 (M + 1) = g_Running_enterPart_44_s (g_Running_enterPart_44 M) := by
            unfold g_Running_enterPart_44
            exact lp_succ _ _ _
          rw [e2]
          unfold g_Running_enterPart_44_s
          refine pw_neg (by omega) (pw_bd (l_slot (c := c + 1) (i := k) (by rw [vr 70 11 (by omega), h11]; omega) (by omega) vb4 (by omega)) ?_)
          rintro x15 X16 ⟨e16, v15⟩
          rw [e16]
          refine pw_bd (l_rpop (n := A + 1 + k) (by rw [t2]; omega)) ?_
          rintro y17 X18 ⟨e18, e17⟩
          have i15 : ix x15 = 44 * (c + 1) + k := ixn v15
          have s84 : V.2.1 84 (A + 1 + k) = V0.2.1 84 (A + 1 + k) := vl 84 _ (by omega)
          refine pw_ck (fun _ => pw_eq (fun X19 e19 => pw_let ?_))
          rw [i15, e17, s84, e18] at e19
          rw [e19]
          exact g M
end ENTS
