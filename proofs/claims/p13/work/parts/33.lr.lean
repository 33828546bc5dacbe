/-! the law: both worlds side by side -/
theorem ap_l {A B : va_W} {n : Nat} (h : A.length = n) : (List.range n).map (fun i => (A ++ B)[i]?) = A.map some := by
  subst h
  refine Eq.trans (List.map_congr_left (fun i hi => ?_)) (MW_all rfl)
  exact List.getElem?_append_left (List.mem_range.mp hi)
theorem ap_r {A B : va_W} {n k : Nat} (h : A.length = n) (h2 : B.length = k) : ((List.range k).map (fun i => i + n)).map (fun i => (A ++ B)[i]?) = B.map some := by
  subst h
  subst h2
  rw [List.map_map]
  refine Eq.trans (List.map_congr_left (fun i hi => ?_)) (MW_all rfl)
  show (A ++ B)[i + A.length]? = B[i]?
  rw [List.getElem?_append_right (Nat.le_add_left _ _), Nat.add_sub_cancel]
theorem at_l {A B : List (ClassId × FieldType)} {n : Nat} (h : A.length = n) : (List.range n).filterMap (fun i => (A ++ B)[i]?) = A := by
  subst h
  refine Eq.trans (fmc (fun i hi => ?_)) (MT_all rfl)
  exact List.getElem?_append_left (List.mem_range.mp hi)
theorem at_r {A B : List (ClassId × FieldType)} {n k : Nat} (h : A.length = n) (h2 : B.length = k) : ((List.range k).map (fun i => i + n)).filterMap (fun i => (A ++ B)[i]?) = B := by
  subst h
  subst h2
  rw [List.filterMap_map]
  refine Eq.trans (fmc (fun i hi => ?_)) (MT_all rfl)
  show (A ++ B)[i + A.length]? = B[i]?
  rw [List.getElem?_append_right (Nat.le_add_left _ _), Nat.add_sub_cancel]
theorem nd_r (k n : Nat) : va_nd ((List.range k).map (fun i => i + n)) = true := by
  refine va_nd_of _ ?_
  exact List.Pairwise.map (fun i => i + n) (fun a b h e => h (Nat.add_right_cancel e)) List.nodup_range
theorem dj_r {k n : Nat} : ∀ i ∈ (List.range k).map (fun i => i + n), i ∉ List.range n := by
  intro i hi hn
  obtain ⟨j, -, rfl⟩ := List.mem_map.mp hi
  have := List.mem_range.mp hn
  omega
theorem dj_l {k n : Nat} : ∀ i ∈ List.range n, i ∉ (List.range k).map (fun i => i + n) := fun i hi h => dj_r i h hi
theorem Wd.swap {dC : Nat → ClassId} {dI : Nat → Nat → Nat} {A : Nat → Prop} {WA WB : va_W} {ta tb : List (ClassId × FieldType)} {s : State} {H : Heap} {locs : List Loc} (h : Wd dC dI A (WB ++ WA) (tb ++ ta) s H locs) : Wd dC dI A (WA ++ WB) (ta ++ tb) s H locs := by
  refine h.pick ((List.range WA.length).map (fun i => i + WB.length) ++ List.range WB.length) ((List.range ta.length).map (fun i => i + tb.length) ++ List.range tb.length) ?_ ?_ ?_
  · refine va_nd_of _ (List.nodup_append.mpr ⟨?_, List.nodup_range, ?_⟩)
    · exact List.Pairwise.map (fun i => i + WB.length) (fun a b h e => h (Nat.add_right_cancel e)) List.nodup_range
    · intro a ha b hb e
      subst e
      exact dj_r a ha hb
  · rw [List.map_append, ap_r rfl rfl, ap_l rfl, List.map_append]
  · rw [List.filterMap_append, at_r rfl rfl, at_l rfl]
abbrev Dx : Type := (Nat → Nat) × (Nat → ClassId)
def W2 (C R : Dx) (XC XR : St) : va_W := GW YC C.1 C.2 XC ++ GW YR R.1 R.2 XR
def T2 (C R : Dx) : List (ClassId × FieldType) := GT YC C.2 ++ GT YR R.2
section LW
variable {p : Program} {l : Launch} {e : Env} {R0 : Room} {s : State} {m : MethodId} {args : Array Value} {below : List Frame} {meth : Method} {c : Code} {H : Heap} {locs : List Loc} {cells slots : Nat} {Q : State → Prop}
variable {cc cc1 : ByteArray} {pc : Nat} {ls : Array Slot} {dC : Nat → ClassId} {dI : Nat → Nat → Nat} {A : Nat → Prop} {y : MethodName} {nL nL1 n index tW : Nat} {own own1 : String} {ret1 : Option FieldType} {R1 : Room} {As1 rest st0 : List Value} {C R : Dx} {XC XR X1 : St} {G : Option (Int32 × St)} {r1 : Int32}
theorem lawC (v : Bool) (hf : Fx p c cc nL s args m own) (hw : Wd dC dI A (W2 C R XC XR) (T2 C R) s H locs) (hZ : ZC tW A s) (hM : bif v then TCV YC (l, dC, dI, C.1, C.2, tW) y cc1 nL1 own1 ret1 R1 (.ref (C.1 0) :: As1) XC G else TCI YC (l, dC, dI, C.1, C.2, tW) y cc1 nL1 own1 ret1 R1 (.ref (C.1 0) :: As1) XC G) (hG : G = some (r1, X1)) (hk : KA y cc1 nL1 ret1 n) (hv : KV y) {TT : u_T} {N ci : Nat} (hE : isO YC 0 ci N) (hcl : classes[ci]? = some (y.cls, TT, N)) (hlink : Cond.methodLink own index y ∈ gtb) (hst : st0 = As1.reverse ++ .ref (C.1 0) :: rest) (hn : As1.length = n) (hz : ls.size = nL) (hrc : R1.cells = 0) (hrs : R1.slots = 0) (hR : R1.frames + 1 ≤ R0.frames ∧ 8 + (nL1 + 11) + R1.locals ≤ R0.locals) (hcat : (rest.map fun v => v.category).sum ≤ 8) (hcells : cells ≤ R0.cells ∧ slots ≤ R0.slots) (hdg : decode cc pc = .ok (.invokevirtual index, 3))
    (kk : ∀ (H1 : Heap) (locs1 : List Loc), Wd dC dI A (W2 C R X1 XR) (T2 C R) s H1 locs1 → W p l e R0 s m args below meth c H1 locs1 cells slots Q (F0 m (pc + 3) ls (bif v then rest else .int r1 :: rest))) : W p l e R0 s m args below meth c H locs cells slots Q (F0 m pc ls st0) := by
  have he : (W2 C R XC XR)[0]? = some (C.1 0, .inr (ci, (List.range N).map (fun k => fvE C.1 XC 0 k (kY YC 0 k)))) := by
    unfold W2
    rw [List.getElem?_append_left (by rw [GW, List.length_map, List.length_range]; exact eY_lt (by rw [hE.1]; decide))]
    exact GW_o hE
  have hC := ap_l (A := GW YC C.1 C.2 XC) (B := GW YR R.1 R.2 XR) rfl
  have hRr := ap_r (A := GW YC C.1 C.2 XC) (B := GW YR R.1 R.2 XR) rfl rfl
  have hT := at_l (A := GT YC C.2) (B := GT YR R.2) rfl
  have hTr := at_r (A := GT YC C.2) (B := GT YR R.2) rfl rfl
  cases v
  · refine cmV_i hZ hf hw (hM r1 X1 hG H.size) hk hv 0 he hcl hlink _ _ _ _ hC (va_nd_range _) hT hRr (nd_r _ _) dj_r hTr hst hn hz hrc hrs hR hcat rfl rfl hcells hdg (fun r' x hx H1 locs1 hw1 => ?_)
    obtain ⟨h1, h2⟩ := hx
    subst h1
    subst h2
    exact kk H1 locs1 hw1.swap
  · refine cmV_v hZ hf hw (hM r1 X1 hG H.size) hk hv 0 he hcl hlink _ _ _ _ hC (va_nd_range _) hT hRr (nd_r _ _) dj_r hTr hst hn hz hrc hrs hR hcat rfl rfl hcells hdg (fun x hx H1 locs1 hw1 => ?_)
    subst hx
    exact kk H1 locs1 hw1.swap
theorem lawR (v : Bool) (hf : Fx p c cc nL s args m own) (hw : Wd dC dI A (W2 C R XC XR) (T2 C R) s H locs) (hM : bif v then TMV YR (l, dC, dI, R.1, R.2) y cc1 nL1 own1 ret1 R1 (.ref (R.1 0) :: As1) XR G else TMI YR (l, dC, dI, R.1, R.2) y cc1 nL1 own1 ret1 R1 (.ref (R.1 0) :: As1) XR G) (hG : G = some (r1, X1)) (hk : KA y cc1 nL1 ret1 n) (hv : KV y) {TT : u_T} {N ci : Nat} (hE : isO YR 0 ci N) (hcl : classes[ci]? = some (y.cls, TT, N)) (hlink : Cond.methodLink own index y ∈ gtb) (hst : st0 = As1.reverse ++ .ref (R.1 0) :: rest) (hn : As1.length = n) (hz : ls.size = nL) (hrc : R1.cells = 0) (hrs : R1.slots = 0) (hR : R1.frames + 1 ≤ R0.frames ∧ 8 + (nL1 + 11) + R1.locals ≤ R0.locals) (hcat : (rest.map fun v => v.category).sum ≤ 8) (hcells : cells ≤ R0.cells ∧ slots ≤ R0.slots) (hdg : decode cc pc = .ok (.invokevirtual index, 3))
    (kk : ∀ (H1 : Heap) (locs1 : List Loc), Wd dC dI A (W2 C R XC X1) (T2 C R) s H1 locs1 → W p l e R0 s m args below meth c H1 locs1 cells slots Q (F0 m (pc + 3) ls (bif v then rest else .int r1 :: rest))) : W p l e R0 s m args below meth c H locs cells slots Q (F0 m pc ls st0) := by
  have he : (W2 C R XC XR)[(GW YC C.1 C.2 XC).length]? = some (R.1 0, .inr (ci, (List.range N).map (fun k => fvE R.1 XR 0 k (kY YR 0 k)))) := by
    unfold W2
    rw [List.getElem?_append_right (Nat.le_refl _), Nat.sub_self]
    exact GW_o hE
  have hC := ap_l (A := GW YC C.1 C.2 XC) (B := GW YR R.1 R.2 XR) rfl
  have hRr := ap_r (A := GW YC C.1 C.2 XC) (B := GW YR R.1 R.2 XR) rfl rfl
  have hT := at_l (A := GT YC C.2) (B := GT YR R.2) rfl
  have hTr := at_r (A := GT YC C.2) (B := GT YR R.2) rfl rfl
  cases v
  · refine mV_i hf hw (hM r1 X1 hG H.size) hk hv _ he hcl hlink _ _ _ _ hRr (nd_r _ _) hTr hC (va_nd_range _) dj_l hT hst hn hz hrc hrs hR hcat rfl rfl hcells hdg (fun r' x hx H1 locs1 hw1 => ?_)
    obtain ⟨h1, h2⟩ := hx
    subst h1
    subst h2
    exact kk H1 locs1 hw1
  · refine mV_v hf hw (hM r1 X1 hG H.size) hk hv _ he hcl hlink _ _ _ _ hRr (nd_r _ _) hTr hC (va_nd_range _) dj_l hT hst hn hz hrc hrs hR hcat rfl rfl hcells hdg (fun x hx H1 locs1 hw1 => ?_)
    subst hx
    exact kk H1 locs1 hw1
end LW
def Z0 : St := ((fun _ _ => 0), (fun _ _ => 0), (fun _ _ => 0))
