theorem asks_167_0 {N : Nat} {cell g t at1 x y : Int32} {X : St} (hT : KT X) (h3 : K3 X) (hB : PBD X) (hy : VK X y) : ok (f_asks_167 (f_asks_9 (N + 1)) cell g t at1 x y 0 X) (fun _ Y => PER [13, 15, 800, 1000, 1200, 1400, 1600, 1800, 2000] X Y) := by
  have z1 : (1 : Int32).toInt = 1 := rfl
  have hB1 := hB.1
  have hy2 := hy.2
  have hyl : 0 ≤ y.toInt ∧ y.toInt < ((6000 : Nat) : Int) := by
    have := hy.1
    omega
  have hc := hy.cases hT
  have hkm : km X y = (X.1 5 (ix y)).toInt := rfl
  have hso : so X y = (X.1 4 (ix y)).toInt := rfl
  unfold f_asks_167
  refine ok.ck hyl (ok.letV (ok.ite (fun c => ?_) (fun c => ok.ck hyl (ok.letV (ok.ite (fun c2 => ?_) (fun c2 => ?_))))))
  · refine ok.bd (u_rowOf hT h3 hB) ?_
    rintro r Y ⟨h, -⟩
    exact asks_off rfl h
  · refine ok.ck hyl (ok.letV (ok.sub (by rw [z1]; omega) (fun z hz => ?_)))
    rw [z1] at hz
    refine ok.bd (u_anyFunction hT h3 hB (by omega)) ?_
    rintro r Y ⟨h, -⟩
    exact asks_off rfl h
  · exact asks_off rfl (PER.rf hT)
theorem r_asks {X : St} {G : Nat → Int32} {cell k k1 g t at1 : Int32} (hA : ASKH X G cell) (hp : (0 ≤ g.toInt ∧ g.toInt ≤ 40) ∧ 0 ≤ t.toInt ∧ t.toInt ≤ 40) (hk : VK X k) (hk1 : VK X k1) (hf : FIT X k k1) (hv : VV false X G k (X.1 60 (ix cell)) (X.1 61 (ix cell))) : ok (f_asks cell k k1 g t at1 X) (fun _ Y => PER [13, 15, 33, 36, 43, 44, 45, 800, 1000, 1200, 1400, 1600, 1800, 2000, 12200, 12800, 13400, 13600, 13800, 14000, 14200, 14400, 14600, 16000] X Y ∧ ASKQ X Y G cell k1) := by
  have z1 : (1 : Int32).toInt = 1 := rfl
  have o1 : ¬ (1 : Int32).toInt = 0 := by decide
  obtain ⟨N, hN⟩ : ∃ N, BIG = N + 3 := ⟨BIG - 3, by decide⟩
  unfold f_asks
  rw [hN]
  by_cases hne : k = k1
  · subst hne
    exact asks_same rfl ⟨PER.rf hA.2.1, fun _ => ⟨HX.rf, hA.1, hv, fun _ _ => rfl⟩⟩
  have kne : ∀ (Z : St) (r : Int32), K3 Z → ¬ so Z r = 3 → ¬ r.toInt = 2 := by
    intro Z r h3 hr q
    obtain rfl : r = 2 := Int32.toInt_inj.mp q
    exact hr h3.two.2
  by_cases hy2 : k1.toInt = 2
  · obtain rfl : k1 = 2 := Int32.toInt_inj.mp hy2
    refine asks_turn o1 (ti_ne hne) hp (fun W hW => ?_)
    have hPW : PER [16000] X W := PER.fr hA.2.1 hW (by decide)
    obtain ⟨hB, hXW⟩ := hA.to hPW (by decide) (by decide)
    have r60 : W.1 60 (ix cell) = X.1 60 (ix cell) := hW.1 60 _ (show (12000 : Nat) ∉ [16000] from by decide)
    have r61 : ∀ j, W.1 61 j = X.1 61 j := fun j => hW.1 61 j (show (12200 : Nat) ∉ [16000] from by decide)
    have hvW := hv.hx hA.2.1 hXW
    rw [← r60, ← r61] at hvW
    have hxW := hk.kx hPW.2.2.1
    have hx2 := hxW.2
    have hxl : 0 ≤ k.toInt ∧ k.toInt < ((6000 : Nat) : Int) := by
      have := hk.1
      have := hB.2.2.2.1.1
      omega
    have hso : so W k = (W.1 4 (ix k)).toInt := rfl
    have hkm : km W k = (W.1 5 (ix k)).toInt := rfl
    have hc := hxW.cases hB.2.1
    refine ok.ite (fun _ => ?_) (fun c => absurd hy2 c)
    refine ok.ck hxl (ok.letV (ok.ite (fun c => ?_) (fun c => ?_)))
    · unfold f_asks_60
      refine ok.ck hxl (ok.letV (ok.ite (fun c2 => by omega) (fun c2 => ok.ck hxl (ok.letV (ok.ite (fun c3 => by omega) (fun c3 => ?_))))))
      unfold f_asks_110
      exact asks_off rfl ⟨hPW.mono (by decide), fun _ => ⟨hXW, hB.1, vv_any_prim hB.2.2.1 hvW (by omega), fun j _ => r61 j⟩⟩
    · have hkn := kne W k hB.2.2.1 (by omega)
      unfold f_asks_60
      refine ok.ck hxl (ok.letV (ok.ite (fun c2 => ?_) (fun c2 => ok.ck hxl (ok.letV (ok.ite (fun c3 => ?_) (fun c3 => by omega))))))
      · refine ok.bd (u_rowOf hB.2.1 hB.2.2.1 hB.2.2.2.1) ?_
        rintro r Z ⟨hPZ, hr⟩
        obtain ⟨hC, hWZ⟩ := hB.to hPZ (by decide) (by decide)
        have q60 : Z.1 60 (ix cell) = W.1 60 (ix cell) := hPZ.1.1 60 _ (show (12000 : Nat) ∉ [13, 15, 800, 1000, 1200, 1400, 1600, 1800, 2000] from by decide)
        have q61 : ∀ j, Z.1 61 j = W.1 61 j := fun j => hPZ.1.1 61 j (show (12200 : Nat) ∉ [13, 15, 800, 1000, 1200, 1400, 1600, 1800, 2000] from by decide)
        have hvZ := hvW.hx hB.2.1 hWZ
        rw [← q60, ← q61] at hvZ
        have hxZ := hxW.kx hPZ.2.2.1
        have hsZ := (hxW.so_kx hPZ.2.2.1).1
        obtain ⟨v1, v2, v3, v4⟩ := hr.vk
        unfold f_asks_110
        refine (asks_two (N := N) hC o1 hp hxZ v1 hkn (kne Z r hC.2.2.1 (by omega)) (fit_row2 (hxZ.row hC.2.1 (by omega)) hr) hvZ).mono ?_
        rintro r2 Y ⟨hPY, hQY⟩
        exact PER.ask ((hPW.mono (by decide)).tr (hPZ.mono (by decide)) (fun _ q => q) : PER [13, 15, 33, 36, 43, 44, 45, 800, 1000, 1200, 1400, 1600, 1800, 2000, 12200, 12800, 13400, 13600, 13800, 14000, 14200, 14400, 14600, 16000] X Z) (hXW.tr hWZ) (fun j => (q61 j).trans (r61 j)) (fun _ q => q) ⟨hPY, hQY⟩ (fun _ h => vv_any_row (hC.2.2.1.kx hPY.2.2.1) h (hr.kx hC.2.1 hPY.2.2.1))
      · refine ok.ck hxl (ok.letV (ok.sub (by rw [z1]; omega) (fun z hz => ?_)))
        rw [z1] at hz
        refine ok.bd (u_anyFunction hB.2.1 hB.2.2.1 hB.2.2.2.1 (by omega)) ?_
        rintro r Z ⟨hPZ, hr, hrc⟩
        obtain ⟨hC, hWZ⟩ := hB.to hPZ (by decide) (by decide)
        have q60 : Z.1 60 (ix cell) = W.1 60 (ix cell) := hPZ.1.1 60 _ (show (12000 : Nat) ∉ [13, 15, 800, 1000, 1200, 1400, 1600, 1800, 2000] from by decide)
        have q61 : ∀ j, Z.1 61 j = W.1 61 j := fun j => hPZ.1.1 61 j (show (12200 : Nat) ∉ [13, 15, 800, 1000, 1200, 1400, 1600, 1800, 2000] from by decide)
        have hvZ := hvW.hx hB.2.1 hWZ
        rw [← q60, ← q61] at hvZ
        have hxZ := hxW.kx hPZ.2.2.1
        obtain ⟨hsZ, hmZ⟩ := hxW.so_kx hPZ.2.2.1
        obtain ⟨v1, v2, v3⟩ := hr.vk
        have hkf : FNK Z k z.toInt := ⟨hxZ.1, hxZ.2, show so Z k = 5 by omega, show km Z k = z.toInt + 1 by omega⟩
        unfold f_asks_110
        refine (asks_two (N := N) hC o1 hp hxZ v1 hkn (kne Z r hC.2.2.1 (by omega)) (fit_fn2 hkf hr hrc) hvZ).mono ?_
        rintro r2 Y ⟨hPY, hQY⟩
        refine PER.ask ((hPW.mono (by decide)).tr (hPZ.mono (by decide)) (fun _ q => q) : PER [13, 15, 33, 36, 43, 44, 45, 800, 1000, 1200, 1400, 1600, 1800, 2000, 12200, 12800, 13400, 13600, 13800, 14000, 14200, 14400, 14600, 16000] X Z) (hXW.tr hWZ) (fun j => (q61 j).trans (r61 j)) (fun _ q => q) ⟨hPY, hQY⟩ (fun _ h => vv_any_fn (hC.2.2.1.kx hPY.2.2.1) h (hr.kx hPY.2.2.1) (fun i hi => ?_))
        rw [cmpK_kx hC.2.1 hPY.2.2.1 hr.1 hr.2.1 (by have := hr.2.2.2; omega)]
        exact hrc i hi
  · by_cases hx2 : k.toInt = 2
    · obtain rfl : k = 2 := Int32.toInt_inj.mp hx2
      refine asks_turn o1 (ti_ne hne) hp (fun W hW => ?_)
      have hPW : PER [16000] X W := PER.fr hA.2.1 hW (by decide)
      obtain ⟨hB, hXW⟩ := hA.to hPW (by decide) (by decide)
      have r60 : W.1 60 (ix cell) = X.1 60 (ix cell) := hW.1 60 _ (show (12000 : Nat) ∉ [16000] from by decide)
      have r61 : ∀ j, W.1 61 j = X.1 61 j := fun j => hW.1 61 j (show (12200 : Nat) ∉ [16000] from by decide)
      have hvW := hv.hx hA.2.1 hXW
      rw [← r60, ← r61] at hvW
      have hyW := hk1.kx hPW.2.2.1
      have hyl : 0 ≤ k1.toInt ∧ k1.toInt < ((6000 : Nat) : Int) := by
        have := hyW.1
        have := hyW.2
        have := hB.2.2.2.1.1
        omega
      have hso : so W k1 = (W.1 4 (ix k1)).toInt := rfl
      have hkm : km W k1 = (W.1 5 (ix k1)).toInt := rfl
      have hc := hyW.cases hB.2.1
      have h136 : (W.1 0 13).toInt ≤ 6000 := by
        have := hB.2.2.2.1.1
        omega
      refine ok.ite (fun c => absurd c hy2) (fun _ => ok.ite (fun _ => ?_) (fun c => absurd hx2 c))
      refine ok.bd (r_isOfSort hB.1 hB.2.1 h136 hB.2.2.2.2.1 hB.2.2.2.2.2 hyW hvW.base.2) ?_
      rintro x7 W' ⟨rfl, hs⟩
      refine ok.ite (fun c7 => ?_) (fun c7 => ?_)
      · refine ok.letV (ok.bd r_ends ?_)
        rintro r_ E ⟨hFE, hE, -⟩
        have hE := hE (by decide)
        have hFE2 : Fr YR [43, 44, 45] W E := ((Fr.rf.wI 0 45 g (show (45 : Nat) ∈ [43, 44, 45] from by decide)).tr hFE (by decide))
        have hPE : PER [43, 44, 45] W E := PER.fr hB.2.1 hFE2 (by decide)
        obtain ⟨hD, -⟩ := hB.to hPE (by decide) (by decide)
        have hyE := hyW.kx hPE.2.2.1
        have fin : ∀ Y, PER [13, 15, 800, 1000, 1200, 1400, 1600, 1800, 2000] E Y → PER [13, 15, 33, 36, 43, 44, 45, 800, 1000, 1200, 1400, 1600, 1800, 2000, 12200, 12800, 13400, 13600, 13800, 14000, 14200, 14400, 14600, 16000] X Y ∧ ASKQ X Y G cell k1 := fun Y hY => ⟨((hPW.mono (by decide)).tr (hPE.mono (by decide)) (fun _ q => q) : PER [13, 15, 33, 36, 43, 44, 45, 800, 1000, 1200, 1400, 1600, 1800, 2000, 12200, 12800, 13400, 13600, 13800, 14000, 14200, 14400, 14600, 16000] X E).tr hY (by decide), fun hon => by
          have : Y.1 0 43 = E.1 0 43 := hY.1.1 0 43 (by decide)
          rw [this] at hon
          omega⟩
        unfold f_asks_144
        refine ok.ck hyl (ok.letV (ok.ite (fun _ => ?_) (fun _ => ?_)))
        · unfold f_asks_166
          exact (asks_167_0 hD.2.1 hD.2.2.1 hD.2.2.2.1 hyE).mono (fun _ Y hY => fin Y hY)
        · refine ok.bd r_isOn ?_
          rintro r2 E' ⟨rfl, h2⟩
          refine ok.ite (fun _ => ?_) (fun c => by omega)
          unfold f_asks_166
          exact (asks_167_0 hD.2.1 hD.2.2.1 hD.2.2.2.1 hyE).mono (fun _ Y hY => fin Y hY)
      · have off : ∀ Y, PER [13, 15, 800, 1000, 1200, 1400, 1600, 1800, 2000] W Y → ((W.1 0 43).toInt < 0 → VV false Y G k1 (Y.1 60 (ix cell)) (Y.1 61 (ix cell))) → PER [13, 15, 33, 36, 43, 44, 45, 800, 1000, 1200, 1400, 1600, 1800, 2000, 12200, 12800, 13400, 13600, 13800, 14000, 14200, 14400, 14600, 16000] X Y ∧ ASKQ X Y G cell k1 := fun Y hY hvY => ⟨(hPW.mono (by decide)).tr hY (by decide), fun hon => by
          have e43 : Y.1 0 43 = W.1 0 43 := hY.1.1 0 43 (by decide)
          rw [e43] at hon
          obtain ⟨hC, hWY⟩ := hB.to hY (by decide) (by decide)
          exact ⟨hXW.tr hWY, hC.1, hvY hon, fun j _ => (hY.1.1 61 j (show (12200 : Nat) ∉ [13, 15, 800, 1000, 1200, 1400, 1600, 1800, 2000] from by decide)).trans (r61 j)⟩⟩
        unfold f_asks_144
        refine ok.ck hyl (ok.letV (ok.ite (fun c3 => ?_) (fun c3 => ?_)))
        · unfold f_asks_166
          refine (asks_167_0 hB.2.1 hB.2.2.1 hB.2.2.2.1 hyW).mono (fun _ Y hY => off Y hY (fun _ => ?_))
          obtain ⟨hC, hWY⟩ := hB.to hY (by decide) (by decide)
          have q60 : Y.1 60 (ix cell) = W.1 60 (ix cell) := hY.1.1 60 _ (show (12000 : Nat) ∉ [13, 15, 800, 1000, 1200, 1400, 1600, 1800, 2000] from by decide)
          have q61 : Y.1 61 (ix cell) = W.1 61 (ix cell) := hY.1.1 61 _ (show (12200 : Nat) ∉ [13, 15, 800, 1000, 1200, 1400, 1600, 1800, 2000] from by decide)
          rw [q60, q61]
          exact (vv_prim_any hB.2.2.1 hvW hyW (by omega)).hx hB.2.1 hWY
        · refine ok.bd r_isOn ?_
          rintro r2 W2 ⟨rfl, h2⟩
          refine ok.ite (fun c4 => ?_) (fun c4 => ?_)
          · unfold f_asks_166
            exact (asks_167_0 hB.2.1 hB.2.2.1 hB.2.2.2.1 hyW).mono (fun _ Y hY => off Y hY (fun hon => by omega))
          · unfold f_asks_167
            refine ok.ck hyl (ok.letV (ok.ite (fun c5 => ?_) (fun c5 => ok.ck hyl (ok.letV (ok.ite (fun c6 => ?_) (fun c6 => by omega))))))
            · refine ok.bd (u_rowOf hB.2.1 hB.2.2.1 hB.2.2.2.1) ?_
              rintro r Z ⟨hPZ, hr⟩
              obtain ⟨hC, hWZ⟩ := hB.to hPZ (by decide) (by decide)
              have q60 : Z.1 60 (ix cell) = W.1 60 (ix cell) := hPZ.1.1 60 _ (show (12000 : Nat) ∉ [13, 15, 800, 1000, 1200, 1400, 1600, 1800, 2000] from by decide)
              have q61 : ∀ j, Z.1 61 j = W.1 61 j := fun j => hPZ.1.1 61 j (show (12200 : Nat) ∉ [13, 15, 800, 1000, 1200, 1400, 1600, 1800, 2000] from by decide)
              have hvZ := hvW.hx hB.2.1 hWZ
              rw [← q60, ← q61] at hvZ
              have hyZ := hyW.kx hPZ.2.2.1
              have hsZ := (hyW.so_kx hPZ.2.2.1).1
              obtain ⟨v1, v2, v3, v4⟩ := hr.vk
              have s3 : (Z.1 60 (ix cell)).toInt = 3 := by
                rw [q60]
                omega
              unfold f_asks_217
              refine (asks_two (N := N) hC o1 hp v1 hyZ (kne Z r hC.2.2.1 (by omega)) hy2 (fit_row2 (hyZ.row hC.2.1 (by omega)) hr).symm (vv_row_any hC.2.2.1 hvZ s3 hr)).mono ?_
              rintro r3 Y ⟨hPY, hQY⟩
              exact PER.ask ((hPW.mono (by decide)).tr (hPZ.mono (by decide)) (fun _ q => q) : PER [13, 15, 33, 36, 43, 44, 45, 800, 1000, 1200, 1400, 1600, 1800, 2000, 12200, 12800, 13400, 13600, 13800, 14000, 14200, 14400, 14600, 16000] X Z) (hXW.tr hWZ) (fun j => (q61 j).trans (r61 j)) (fun _ q => q) ⟨hPY, hQY⟩ (fun _ h => h)
            · refine ok.ck hyl (ok.letV (ok.sub (by rw [z1]; omega) (fun z hz => ?_)))
              rw [z1] at hz
              refine ok.bd (u_anyFunction hB.2.1 hB.2.2.1 hB.2.2.2.1 (by omega)) ?_
              rintro r Z ⟨hPZ, hr, hrc⟩
              obtain ⟨hC, hWZ⟩ := hB.to hPZ (by decide) (by decide)
              have q60 : Z.1 60 (ix cell) = W.1 60 (ix cell) := hPZ.1.1 60 _ (show (12000 : Nat) ∉ [13, 15, 800, 1000, 1200, 1400, 1600, 1800, 2000] from by decide)
              have q61 : ∀ j, Z.1 61 j = W.1 61 j := fun j => hPZ.1.1 61 j (show (12200 : Nat) ∉ [13, 15, 800, 1000, 1200, 1400, 1600, 1800, 2000] from by decide)
              have hvZ := hvW.hx hB.2.1 hWZ
              rw [← q60, ← q61] at hvZ
              have hyZ := hyW.kx hPZ.2.2.1
              obtain ⟨hsZ, hmZ⟩ := hyW.so_kx hPZ.2.2.1
              obtain ⟨v1, v2, v3⟩ := hr.vk
              have s4 : (W.1 60 (ix cell)).toInt = 4 := by omega
              have s4' : (Z.1 60 (ix cell)).toInt = 4 := by
                rw [q60]
                exact s4
              have fa : FA Z (Z.1 61 (ix cell)) = z.toInt := by
                rw [q61, FA.hx (hvW.base.2 s4) hWZ]
                omega
              have hkf : FNK Z k1 z.toInt := ⟨hyZ.1, hyZ.2, show so Z k1 = 5 by omega, show km Z k1 = z.toInt + 1 by omega⟩
              unfold f_asks_217
              refine (asks_two (N := N) hC o1 hp v1 hyZ (kne Z r hC.2.2.1 (by omega)) hy2 (fit_fn2 hkf hr hrc).symm (vv_fn_any hC.2.2.1 hvZ s4' hr hrc fa)).mono ?_
              rintro r3 Y ⟨hPY, hQY⟩
              exact PER.ask ((hPW.mono (by decide)).tr (hPZ.mono (by decide)) (fun _ q => q) : PER [13, 15, 33, 36, 43, 44, 45, 800, 1000, 1200, 1400, 1600, 1800, 2000, 12200, 12800, 13400, 13600, 13800, 14000, 14200, 14400, 14600, 16000] X Z) (hXW.tr hWZ) (fun j => (q61 j).trans (r61 j)) (fun _ q => q) ⟨hPY, hQY⟩ (fun _ h => h)
    · exact asks_wrap (N := N + 1) hA o1 hp hk hk1 hne hx2 hy2 hf hv
