/-! the class: the static row WORDS stays as it is (ZC) -/
def WRD (j : Nat) : Int64 := ([1885434484, 7103860, 26990, 26982, 1952998766, 1701606245, 1953658213, 439721161573, 7234935, 1936292453, 482955849332, 6909556, 1718378855, 6385273, 26222] : List Int64).getD j 0
def ZC (t : Nat) (A : Nat → Prop) (U : State) : Prop := va_Z "BlameCourt$Token" "WORDS" "[J" (.ref t) A U U.heap ∧ va_T .long t 15 (fun j => .long (WRD j)) A U U.heap
def PBC (t : Nat) (dC : Nat → ClassId) (dI : Nat → Nat → Nat) (sz : Nat) (ws : va_W) (tys : List (ClassId × FieldType)) (U : State) : Prop := PB dC dI sz ws tys U ∧ ZC t (va_A ws sz) U
theorem PBC_blind {As : List Value} {t : Nat} {dC : Nat → ClassId} {dI : Nat → Nat → Nat} {sz : Nat} {ws : va_W} {tys : List (ClassId × FieldType)} : FrameBlind (va_Pc As (PBC t dC dI sz ws tys)) := fun a U g mk q => by
  obtain ⟨q0, qB, qZ1, qZ2⟩ := q
  refine ⟨q0, (PB_blind (As := As) a U g mk ⟨q0, qB⟩).2, ?_, ?_⟩
  · exact va_Z.moved (u := U) (U := U.calling g mk a) (Vm.Alike.refl U.vm) qZ1
  · exact va_T.moved (u := U) (U := U.calling g mk a) (Vm.Alike.refl U.vm) qZ2
/-- a method's body, from its entry -/
theorem mbodyC {t : Nat} {l : Launch} {dC : Nat → ClassId} {dI : Nat → Nat → Nat} {y : MethodName} {b : ByteArray} {n : Nat} {ret : Option FieldType} {rm : Room} {av : List Value} {sz : Nat} {ws : va_W} {tys : List (ClassId × FieldType)} {Qc : (Nat → Prop) → Array Value → State → Outcome → State → Prop} {mc ms : Nat} (hy : plainName y.cls = true) (hav : (lg_sl av).length ≤ n)
    (body : ∀ (p : Program) (e : Env) (s : State) (m : MethodId) (below : List Frame) (meth : Method) (c : Code) (ls : Array Slot) (A : Nat → Prop) (H : Heap), Fx p c b n s av.toArray m y.cls → meth.sig.returnType = ret → meth.name = y.name → meth.locks = false → Wd dC dI A ws tys s H [] ∧ ZC t A s → lv_has ls n (lv_args 0 av) →
      W p l e rm s m av.toArray below meth c H [] 0 0 (MQ below (Qc A) av.toArray s mc ms A) (F0 m 0 ls [])) :
    Met l y (wsOf y b n ret) rm (va_Pc av (PBC t dC dI sz ws tys)) (Qc (va_A ws sz)) mc ms (va_A ws sz) := by
  refine Met.ofW (cc := b) (maxL := n) (ret := ret) hy rfl ?_
  intro p e s m args below meth c s₁ B hml hv
  obtain ⟨rfl, ⟨hsz, hP, hK, hD0, hN⟩, hZ⟩ := hv
  have hts0 := atoms_spec (ws := wsOf y b n ret) B.pre
  have hts : ∀ w ∈ gtb, w.before av.toArray s = true := fun w hw => hts0 w (List.mem_cons_of_mem _ hw)
  subst hsz
  have hD := hD0.self (sz := s.heap.size)
  have hl := lv_entry av (n := n) hav
  rw [lg_entry_eq]
  exact body p e s m below meth c _ (va_A ws s.heap.size) s.heap ⟨B.exec, B.bytes, hml, findClass_of_methodNamed B.named, hts, hN⟩ B.returns (name_of_methodNamed B.named B.method).1 B.notSynchronized ⟨⟨hK, hP, hD, va_S.rf, fun q h => Or.inr h⟩, hZ⟩ hl
def isOb (Y : List Ent) (e ci n : Nat) : Bool := (eY Y e).1 == 0 && (eY Y e).2.1 == ci && (eY Y e).2.2.2.length == n
def refO (Y : List Ent) (r ci n : Nat) : Bool := !(r == 0) && isOb Y (r - 1) ci n
def refA (Y : List Ent) (r : Nat) (ft : FieldType) : Bool := !(r == 0) && (eY Y (r - 1)).1 == 1 && decide ((eY Y (r - 1)).2.2.1 = ft)
theorem isOb_spec {Y : List Ent} {e ci n : Nat} (h : isOb Y e ci n = true) : isO Y e ci n := by
  unfold isOb at h
  simp only [Bool.and_eq_true, beq_iff_eq] at h
  exact ⟨h.1.1, h.1.2, h.2⟩
theorem refO_spec {Y : List Ent} {r ci n : Nat} (h : refO Y r ci n = true) : ¬ r = 0 ∧ isO Y (r - 1) ci n := by
  unfold refO at h
  simp only [Bool.and_eq_true, Bool.not_eq_true', beq_eq_false_iff_ne] at h
  exact ⟨h.1, isOb_spec h.2⟩
theorem refA_spec {Y : List Ent} {r : Nat} {ft : FieldType} (h : refA Y r ft = true) : ¬ r = 0 ∧ isA Y (r - 1) 1 (zY Y (r - 1)) ft := by
  unfold refA at h
  simp only [Bool.and_eq_true, Bool.not_eq_true', beq_eq_false_iff_ne, beq_iff_eq, decide_eq_true_eq] at h
  exact ⟨h.1.1, h.1.2, rfl, h.2⟩
abbrev GxC : Type := Launch × (Nat → ClassId) × (Nat → Nat → Nat) × (Nat → Nat) × (Nat → ClassId) × Nat
section CMAC
variable {p : Program} {l : Launch} {e : Env} {R : Room} {s : State} {m : MethodId} {args : Array Value} {below : List Frame} {meth : Method} {c : Code} {H : Heap} {locs : List Loc} {cells slots : Nat} {Q : State → Prop}
variable {cc : ByteArray} {pc : Nat} {ls : Array Slot} {dC : Nat → ClassId} {dI : Nat → Nat → Nat} {A : Nat → Prop} {tys tc tr : List (ClassId × FieldType)} {ws wc wr : va_W} {y : MethodName} {bytes : ByteArray} {maxL nL mc ms n index : Nat} {ret : Option FieldType} {rm : Room} {own host : String} {b a : Addr} {As rest st0 : List Value}
theorem mpreC {tW : Nat} (hf : Fx p c cc nL s args m own) (hw : Wd dC dI A ws tys s H locs) (hz : ZC tW A s) (isC tC : List Nat) (hC : isC.map (fun i => ws[i]?) = wc.map some) (hn : va_nd isC = true) (htc : tC.filterMap (fun i => tys[i]?) = tc) {av : List Value} : ∀ U : State, U.heap = H → s.WarmedH U.vm → va_Pc av (PBC tW dC dI H.size wc tc) av.toArray U := by
  intro U hU hW
  refine ⟨rfl, (mpre (av := av) hf hw isC tC hC hn htc U hU hW).2, ?_⟩
  have hFc := va_free (wc := wc) hw.2.2.1 hw.2.2.2.1 hw.2.2.2.2 isC hC
  have hkp := hw.2.2.2.1.2.1
  obtain ⟨h1, h2⟩ := hz
  have g1 := ((va_Z.moved hW.alike h1).kept (H1 := H) hkp).narrow hFc
  have g2 := ((va_T.moved hW.alike h2).kept (H1 := H) hkp).narrow hFc
  subst hU
  exact ⟨g1, g2⟩
theorem cmV_v {tW : Nat} (hZ : ZC tW A s) {X : Type} {φ : X → Prop} {w1 : X → va_W} {t1 : X → List (ClassId × FieldType)} (hf : Fx p c cc nL s args m own) (hw : Wd dC dI A ws tys s H locs)
    (hM : Met l y (wsOf y bytes maxL ret) rm (va_Pc (Value.ref b :: As) (PBC tW dC dI H.size wc tc)) (va_Qv φ (fun x t => PW dC dI (va_A wc H.size) (w1 x) (t1 x) t) (va_A wc H.size)) mc ms (va_A wc H.size)) (hk : KA y bytes maxL ret n) (hv : KV y) {T : u_T} {N ci : Nat} (q0 : Nat) {fs : List Value} (he : ws[q0]? = some (b, .inr (ci, fs))) (hc : classes[ci]? = some (y.cls, T, N)) (hlink : Cond.methodLink own index y ∈ gtb)
    (isC tC isR tR : List Nat) (hC : isC.map (fun i => ws[i]?) = wc.map some) (hnC : va_nd isC = true) (htc : tC.filterMap (fun i => tys[i]?) = tc) (hRr : isR.map (fun i => ws[i]?) = wr.map some) (hnR : va_nd isR = true) (hdis : ∀ i ∈ isR, i ∉ isC) (htr : tR.filterMap (fun i => tys[i]?) = tr)
    (hst : st0 = As.reverse ++ .ref b :: rest) (hn : As.length = n) (hz : ls.size = nL) (hrc : rm.cells = mc) (hrs : rm.slots = ms) (hR : rm.frames + 1 ≤ R.frames ∧ 8 + (maxL + 11) + rm.locals ≤ R.locals) (hcat : (rest.map fun v => v.category).sum ≤ 8) {ce sl : Nat} (hce : cells + mc = ce) (hsl : slots + ms = sl) (hcells : ce ≤ R.cells ∧ sl ≤ R.slots) (hdg : decode cc pc = .ok (.invokevirtual index, 3))
    (kk : ∀ (x : X), φ x → ∀ (H1 : Heap) (locs1 : List Loc), Wd dC dI A (wr ++ w1 x) (tr ++ t1 x) s H1 locs1 → W p l e R s m args below meth c H1 locs1 ce sl Q (F0 m (pc + 3) ls (rest))) : W p l e R s m args below meth c H locs cells slots Q (F0 m pc ls st0) := by
  subst hst
  subst hce
  subst hsl
  have hFc := va_free (wc := wc) hw.2.2.1 hw.2.2.2.1 hw.2.2.2.2 isC hC
  exact va_callv (va_runV (C := y.cls) (As := As) (rest := rest) ⟨hf.1, hf.2.1, hf.2.2.1, hf.2.2.2.1, hf.2.2.2.2.1⟩ hM ⟨mcallB hf hk hrc hrs hlink hR, hf.2.2.2.2.1 _ hv.1, hf.2.2.2.2.1 _ hv.2⟩ ⟨PBC_blind, mrecv hw q0 he hc, mpreC hf hw hZ isC tC hC hnC htc⟩ rfl hn hz rfl (lv_room hcat) hdg hcells) hw.2.2.2.1 (fun q _ h => hFc q h) hFc (fun x t H1 locs1 ht hvm hφ hB hz1 hk1 hS1 => kk x hφ H1 locs1 (mback hw isC isR tR hC hRr hnR hdis htr ht hvm hB hk1 hS1))
theorem cmV_i {tW : Nat} (hZ : ZC tW A s) {X : Type} {φ : Int32 → X → Prop} {w1 : X → va_W} {t1 : X → List (ClassId × FieldType)} (hf : Fx p c cc nL s args m own) (hw : Wd dC dI A ws tys s H locs)
    (hM : Met l y (wsOf y bytes maxL ret) rm (va_Pc (Value.ref b :: As) (PBC tW dC dI H.size wc tc)) (va_Qi φ (fun x t => PW dC dI (va_A wc H.size) (w1 x) (t1 x) t) (va_A wc H.size)) mc ms (va_A wc H.size)) (hk : KA y bytes maxL ret n) (hv : KV y) {T : u_T} {N ci : Nat} (q0 : Nat) {fs : List Value} (he : ws[q0]? = some (b, .inr (ci, fs))) (hc : classes[ci]? = some (y.cls, T, N)) (hlink : Cond.methodLink own index y ∈ gtb)
    (isC tC isR tR : List Nat) (hC : isC.map (fun i => ws[i]?) = wc.map some) (hnC : va_nd isC = true) (htc : tC.filterMap (fun i => tys[i]?) = tc) (hRr : isR.map (fun i => ws[i]?) = wr.map some) (hnR : va_nd isR = true) (hdis : ∀ i ∈ isR, i ∉ isC) (htr : tR.filterMap (fun i => tys[i]?) = tr)
    (hst : st0 = As.reverse ++ .ref b :: rest) (hn : As.length = n) (hz : ls.size = nL) (hrc : rm.cells = mc) (hrs : rm.slots = ms) (hR : rm.frames + 1 ≤ R.frames ∧ 8 + (maxL + 11) + rm.locals ≤ R.locals) (hcat : (rest.map fun v => v.category).sum ≤ 8) {ce sl : Nat} (hce : cells + mc = ce) (hsl : slots + ms = sl) (hcells : ce ≤ R.cells ∧ sl ≤ R.slots) (hdg : decode cc pc = .ok (.invokevirtual index, 3))
    (kk : ∀ (r : Int32) (x : X), φ r x → ∀ (H1 : Heap) (locs1 : List Loc), Wd dC dI A (wr ++ w1 x) (tr ++ t1 x) s H1 locs1 → W p l e R s m args below meth c H1 locs1 ce sl Q (F0 m (pc + 3) ls (.int r :: rest))) : W p l e R s m args below meth c H locs cells slots Q (F0 m pc ls st0) := by
  subst hst
  subst hce
  subst hsl
  have hFc := va_free (wc := wc) hw.2.2.1 hw.2.2.2.1 hw.2.2.2.2 isC hC
  exact va_calli (va_runV (C := y.cls) (As := As) (rest := rest) ⟨hf.1, hf.2.1, hf.2.2.1, hf.2.2.2.1, hf.2.2.2.2.1⟩ hM ⟨mcallB hf hk hrc hrs hlink hR, hf.2.2.2.2.1 _ hv.1, hf.2.2.2.2.1 _ hv.2⟩ ⟨PBC_blind, mrecv hw q0 he hc, mpreC hf hw hZ isC tC hC hnC htc⟩ rfl hn hz rfl (lv_room hcat) hdg hcells) hw.2.2.2.1 (fun q _ h => hFc q h) hFc (fun r x t H1 locs1 ht hvm hφ hB hz1 hk1 hS1 => kk r x hφ H1 locs1 (mback hw isC isR tR hC hRr hnR hdis htr ht hvm hB hk1 hS1))
theorem cmV_l {tW : Nat} (hZ : ZC tW A s) {X : Type} {φ : Int64 → X → Prop} {w1 : X → va_W} {t1 : X → List (ClassId × FieldType)} (hf : Fx p c cc nL s args m own) (hw : Wd dC dI A ws tys s H locs)
    (hM : Met l y (wsOf y bytes maxL ret) rm (va_Pc (Value.ref b :: As) (PBC tW dC dI H.size wc tc)) (va_Ql φ (fun x t => PW dC dI (va_A wc H.size) (w1 x) (t1 x) t) (va_A wc H.size)) mc ms (va_A wc H.size)) (hk : KA y bytes maxL ret n) (hv : KV y) {T : u_T} {N ci : Nat} (q0 : Nat) {fs : List Value} (he : ws[q0]? = some (b, .inr (ci, fs))) (hc : classes[ci]? = some (y.cls, T, N)) (hlink : Cond.methodLink own index y ∈ gtb)
    (isC tC isR tR : List Nat) (hC : isC.map (fun i => ws[i]?) = wc.map some) (hnC : va_nd isC = true) (htc : tC.filterMap (fun i => tys[i]?) = tc) (hRr : isR.map (fun i => ws[i]?) = wr.map some) (hnR : va_nd isR = true) (hdis : ∀ i ∈ isR, i ∉ isC) (htr : tR.filterMap (fun i => tys[i]?) = tr)
    (hst : st0 = As.reverse ++ .ref b :: rest) (hn : As.length = n) (hz : ls.size = nL) (hrc : rm.cells = mc) (hrs : rm.slots = ms) (hR : rm.frames + 1 ≤ R.frames ∧ 8 + (maxL + 11) + rm.locals ≤ R.locals) (hcat : (rest.map fun v => v.category).sum ≤ 8) {ce sl : Nat} (hce : cells + mc = ce) (hsl : slots + ms = sl) (hcells : ce ≤ R.cells ∧ sl ≤ R.slots) (hdg : decode cc pc = .ok (.invokevirtual index, 3))
    (kk : ∀ (r : Int64) (x : X), φ r x → ∀ (H1 : Heap) (locs1 : List Loc), Wd dC dI A (wr ++ w1 x) (tr ++ t1 x) s H1 locs1 → W p l e R s m args below meth c H1 locs1 ce sl Q (F0 m (pc + 3) ls (.long r :: rest))) : W p l e R s m args below meth c H locs cells slots Q (F0 m pc ls st0) := by
  subst hst
  subst hce
  subst hsl
  have hFc := va_free (wc := wc) hw.2.2.1 hw.2.2.2.1 hw.2.2.2.2 isC hC
  exact va_calll (va_runV (C := y.cls) (As := As) (rest := rest) ⟨hf.1, hf.2.1, hf.2.2.1, hf.2.2.2.1, hf.2.2.2.2.1⟩ hM ⟨mcallB hf hk hrc hrs hlink hR, hf.2.2.2.2.1 _ hv.1, hf.2.2.2.2.1 _ hv.2⟩ ⟨PBC_blind, mrecv hw q0 he hc, mpreC hf hw hZ isC tC hC hnC htc⟩ rfl hn hz rfl (lv_room hcat) hdg hcells) hw.2.2.2.1 (fun q _ h => hFc q h) hFc (fun r x t H1 locs1 ht hvm hφ hB hz1 hk1 hS1 => kk r x hφ H1 locs1 (mback hw isC isR tR hC hRr hnR hdis htr ht hvm hB hk1 hS1))
theorem cmVN_v {tW : Nat} (hZ : ZC tW A s) {X : Type} {φ : X → Prop} {w1 : X → va_W} {t1 : X → List (ClassId × FieldType)} (hf : Fx p c cc nL s args m own) (hw : Wd dC dI A ws tys s H locs)
    (hM : Met l y (wsOf y bytes maxL ret) rm (va_Pc (Value.ref b :: As) (PBC tW dC dI H.size wc tc)) (va_Qv φ (fun x t => PW dC dI (va_A wc H.size) (w1 x) (t1 x) t) (va_A wc H.size)) mc ms (va_A wc H.size)) (hk : KA y bytes maxL ret n) (hv : KV y) {T : u_T} {N ci : Nat} (q0 : Nat) {fs : List Value} (he : ws[q0]? = some (b, .inr (ci, fs))) (hc : classes[ci]? = some (y.cls, T, N)) (hlink : Cond.methodLinkNest own index y host ∈ lw_tbl)
    (isC tC isR tR : List Nat) (hC : isC.map (fun i => ws[i]?) = wc.map some) (hnC : va_nd isC = true) (htc : tC.filterMap (fun i => tys[i]?) = tc) (hRr : isR.map (fun i => ws[i]?) = wr.map some) (hnR : va_nd isR = true) (hdis : ∀ i ∈ isR, i ∉ isC) (htr : tR.filterMap (fun i => tys[i]?) = tr)
    (hst : st0 = As.reverse ++ .ref b :: rest) (hn : As.length = n) (hz : ls.size = nL) (hrc : rm.cells = mc) (hrs : rm.slots = ms) (hR : rm.frames + 1 ≤ R.frames ∧ 8 + (maxL + 11) + rm.locals ≤ R.locals) (hcat : (rest.map fun v => v.category).sum ≤ 8) {ce sl : Nat} (hce : cells + mc = ce) (hsl : slots + ms = sl) (hcells : ce ≤ R.cells ∧ sl ≤ R.slots) (hdg : decode cc pc = .ok (.invokevirtual index, 3))
    (kk : ∀ (x : X), φ x → ∀ (H1 : Heap) (locs1 : List Loc), Wd dC dI A (wr ++ w1 x) (tr ++ t1 x) s H1 locs1 → W p l e R s m args below meth c H1 locs1 ce sl Q (F0 m (pc + 3) ls (rest))) : W p l e R s m args below meth c H locs cells slots Q (F0 m pc ls st0) := by
  subst hst
  subst hce
  subst hsl
  have hFc := va_free (wc := wc) hw.2.2.1 hw.2.2.2.1 hw.2.2.2.2 isC hC
  exact va_callv (va_runVN (C := y.cls) (As := As) (rest := rest) ⟨hf.1, hf.2.1, hf.2.2.1, hf.2.2.2.1, hf.2.2.2.2.1⟩ hM ⟨mcallN hf hk hrc hrs hlink hR, hf.2.2.2.2.1 _ hv.1, hf.2.2.2.2.1 _ hv.2⟩ ⟨PBC_blind, mrecv hw q0 he hc, mpreC hf hw hZ isC tC hC hnC htc⟩ rfl hn hz rfl (lv_room hcat) hdg hcells) hw.2.2.2.1 (fun q _ h => hFc q h) hFc (fun x t H1 locs1 ht hvm hφ hB hz1 hk1 hS1 => kk x hφ H1 locs1 (mback hw isC isR tR hC hRr hnR hdis htr ht hvm hB hk1 hS1))
theorem cmVN_i {tW : Nat} (hZ : ZC tW A s) {X : Type} {φ : Int32 → X → Prop} {w1 : X → va_W} {t1 : X → List (ClassId × FieldType)} (hf : Fx p c cc nL s args m own) (hw : Wd dC dI A ws tys s H locs)
    (hM : Met l y (wsOf y bytes maxL ret) rm (va_Pc (Value.ref b :: As) (PBC tW dC dI H.size wc tc)) (va_Qi φ (fun x t => PW dC dI (va_A wc H.size) (w1 x) (t1 x) t) (va_A wc H.size)) mc ms (va_A wc H.size)) (hk : KA y bytes maxL ret n) (hv : KV y) {T : u_T} {N ci : Nat} (q0 : Nat) {fs : List Value} (he : ws[q0]? = some (b, .inr (ci, fs))) (hc : classes[ci]? = some (y.cls, T, N)) (hlink : Cond.methodLinkNest own index y host ∈ lw_tbl)
    (isC tC isR tR : List Nat) (hC : isC.map (fun i => ws[i]?) = wc.map some) (hnC : va_nd isC = true) (htc : tC.filterMap (fun i => tys[i]?) = tc) (hRr : isR.map (fun i => ws[i]?) = wr.map some) (hnR : va_nd isR = true) (hdis : ∀ i ∈ isR, i ∉ isC) (htr : tR.filterMap (fun i => tys[i]?) = tr)
    (hst : st0 = As.reverse ++ .ref b :: rest) (hn : As.length = n) (hz : ls.size = nL) (hrc : rm.cells = mc) (hrs : rm.slots = ms) (hR : rm.frames + 1 ≤ R.frames ∧ 8 + (maxL + 11) + rm.locals ≤ R.locals) (hcat : (rest.map fun v => v.category).sum ≤ 8) {ce sl : Nat} (hce : cells + mc = ce) (hsl : slots + ms = sl) (hcells : ce ≤ R.cells ∧ sl ≤ R.slots) (hdg : decode cc pc = .ok (.invokevirtual index, 3))
    (kk : ∀ (r : Int32) (x : X), φ r x → ∀ (H1 : Heap) (locs1 : List Loc), Wd dC dI A (wr ++ w1 x) (tr ++ t1 x) s H1 locs1 → W p l e R s m args below meth c H1 locs1 ce sl Q (F0 m (pc + 3) ls (.int r :: rest))) : W p l e R s m args below meth c H locs cells slots Q (F0 m pc ls st0) := by
  subst hst
  subst hce
  subst hsl
  have hFc := va_free (wc := wc) hw.2.2.1 hw.2.2.2.1 hw.2.2.2.2 isC hC
  exact va_calli (va_runVN (C := y.cls) (As := As) (rest := rest) ⟨hf.1, hf.2.1, hf.2.2.1, hf.2.2.2.1, hf.2.2.2.2.1⟩ hM ⟨mcallN hf hk hrc hrs hlink hR, hf.2.2.2.2.1 _ hv.1, hf.2.2.2.2.1 _ hv.2⟩ ⟨PBC_blind, mrecv hw q0 he hc, mpreC hf hw hZ isC tC hC hnC htc⟩ rfl hn hz rfl (lv_room hcat) hdg hcells) hw.2.2.2.1 (fun q _ h => hFc q h) hFc (fun r x t H1 locs1 ht hvm hφ hB hz1 hk1 hS1 => kk r x hφ H1 locs1 (mback hw isC isR tR hC hRr hnR hdis htr ht hvm hB hk1 hS1))
theorem cmVN_l {tW : Nat} (hZ : ZC tW A s) {X : Type} {φ : Int64 → X → Prop} {w1 : X → va_W} {t1 : X → List (ClassId × FieldType)} (hf : Fx p c cc nL s args m own) (hw : Wd dC dI A ws tys s H locs)
    (hM : Met l y (wsOf y bytes maxL ret) rm (va_Pc (Value.ref b :: As) (PBC tW dC dI H.size wc tc)) (va_Ql φ (fun x t => PW dC dI (va_A wc H.size) (w1 x) (t1 x) t) (va_A wc H.size)) mc ms (va_A wc H.size)) (hk : KA y bytes maxL ret n) (hv : KV y) {T : u_T} {N ci : Nat} (q0 : Nat) {fs : List Value} (he : ws[q0]? = some (b, .inr (ci, fs))) (hc : classes[ci]? = some (y.cls, T, N)) (hlink : Cond.methodLinkNest own index y host ∈ lw_tbl)
    (isC tC isR tR : List Nat) (hC : isC.map (fun i => ws[i]?) = wc.map some) (hnC : va_nd isC = true) (htc : tC.filterMap (fun i => tys[i]?) = tc) (hRr : isR.map (fun i => ws[i]?) = wr.map some) (hnR : va_nd isR = true) (hdis : ∀ i ∈ isR, i ∉ isC) (htr : tR.filterMap (fun i => tys[i]?) = tr)
    (hst : st0 = As.reverse ++ .ref b :: rest) (hn : As.length = n) (hz : ls.size = nL) (hrc : rm.cells = mc) (hrs : rm.slots = ms) (hR : rm.frames + 1 ≤ R.frames ∧ 8 + (maxL + 11) + rm.locals ≤ R.locals) (hcat : (rest.map fun v => v.category).sum ≤ 8) {ce sl : Nat} (hce : cells + mc = ce) (hsl : slots + ms = sl) (hcells : ce ≤ R.cells ∧ sl ≤ R.slots) (hdg : decode cc pc = .ok (.invokevirtual index, 3))
    (kk : ∀ (r : Int64) (x : X), φ r x → ∀ (H1 : Heap) (locs1 : List Loc), Wd dC dI A (wr ++ w1 x) (tr ++ t1 x) s H1 locs1 → W p l e R s m args below meth c H1 locs1 ce sl Q (F0 m (pc + 3) ls (.long r :: rest))) : W p l e R s m args below meth c H locs cells slots Q (F0 m pc ls st0) := by
  subst hst
  subst hce
  subst hsl
  have hFc := va_free (wc := wc) hw.2.2.1 hw.2.2.2.1 hw.2.2.2.2 isC hC
  exact va_calll (va_runVN (C := y.cls) (As := As) (rest := rest) ⟨hf.1, hf.2.1, hf.2.2.1, hf.2.2.2.1, hf.2.2.2.2.1⟩ hM ⟨mcallN hf hk hrc hrs hlink hR, hf.2.2.2.2.1 _ hv.1, hf.2.2.2.2.1 _ hv.2⟩ ⟨PBC_blind, mrecv hw q0 he hc, mpreC hf hw hZ isC tC hC hnC htc⟩ rfl hn hz rfl (lv_room hcat) hdg hcells) hw.2.2.2.1 (fun q _ h => hFc q h) hFc (fun r x t H1 locs1 ht hvm hφ hB hz1 hk1 hS1 => kk r x hφ H1 locs1 (mback hw isC isR tR hC hRr hnR hdis htr ht hvm hB hk1 hS1))
theorem cmS_v {tW : Nat} (hZ : ZC tW A s) {X : Type} {φ : X → Prop} {w1 : X → va_W} {t1 : X → List (ClassId × FieldType)} (hf : Fx p c cc nL s args m own) (hw : Wd dC dI A ws tys s H locs)
    (hM : Met l y (wsOf y bytes maxL ret) rm (va_Pc As (PBC tW dC dI H.size wc tc)) (va_Qv φ (fun x t => PW dC dI (va_A wc H.size) (w1 x) (t1 x) t) (va_A wc H.size)) mc ms (va_A wc H.size)) (hk : KA y bytes maxL ret n) (hv : Cond.static y ∈ gtb) (hlink : Cond.methodLink own index y ∈ gtb)
    (isC tC isR tR : List Nat) (hC : isC.map (fun i => ws[i]?) = wc.map some) (hnC : va_nd isC = true) (htc : tC.filterMap (fun i => tys[i]?) = tc) (hRr : isR.map (fun i => ws[i]?) = wr.map some) (hnR : va_nd isR = true) (hdis : ∀ i ∈ isR, i ∉ isC) (htr : tR.filterMap (fun i => tys[i]?) = tr)
    (hst : st0 = As.reverse ++ rest) (hn : As.length = n) (hz : ls.size = nL) (hrc : rm.cells = mc) (hrs : rm.slots = ms) (hR : rm.frames + 1 ≤ R.frames ∧ 8 + (maxL + 11) + rm.locals ≤ R.locals) (hcat : (rest.map fun v => v.category).sum ≤ 8) {ce sl : Nat} (hce : cells + mc = ce) (hsl : slots + ms = sl) (hcells : ce ≤ R.cells ∧ sl ≤ R.slots) (hdg : decode cc pc = .ok (.invokestatic index, 3))
    (kk : ∀ (x : X), φ x → ∀ (H1 : Heap) (locs1 : List Loc), Wd dC dI A (wr ++ w1 x) (tr ++ t1 x) s H1 locs1 → W p l e R s m args below meth c H1 locs1 ce sl Q (F0 m (pc + 3) ls (rest))) : W p l e R s m args below meth c H locs cells slots Q (F0 m pc ls st0) := by
  subst hst
  subst hce
  subst hsl
  have hFc := va_free (wc := wc) hw.2.2.1 hw.2.2.2.1 hw.2.2.2.2 isC hC
  exact va_callv (va_runS (As := As) (rest := rest) ⟨hf.1, hf.2.1, hf.2.2.1, hf.2.2.2.1, hf.2.2.2.2.1⟩ hM ⟨mcallB hf hk hrc hrs hlink hR, hf.2.2.2.2.1 _ hv⟩ ⟨PBC_blind, mpreC hf hw hZ isC tC hC hnC htc⟩ rfl hn hz rfl (lv_room hcat) hdg hcells) hw.2.2.2.1 (fun q _ h => hFc q h) hFc (fun x t H1 locs1 ht hvm hφ hB hz1 hk1 hS1 => kk x hφ H1 locs1 (mback hw isC isR tR hC hRr hnR hdis htr ht hvm hB hk1 hS1))
theorem cmS_i {tW : Nat} (hZ : ZC tW A s) {X : Type} {φ : Int32 → X → Prop} {w1 : X → va_W} {t1 : X → List (ClassId × FieldType)} (hf : Fx p c cc nL s args m own) (hw : Wd dC dI A ws tys s H locs)
    (hM : Met l y (wsOf y bytes maxL ret) rm (va_Pc As (PBC tW dC dI H.size wc tc)) (va_Qi φ (fun x t => PW dC dI (va_A wc H.size) (w1 x) (t1 x) t) (va_A wc H.size)) mc ms (va_A wc H.size)) (hk : KA y bytes maxL ret n) (hv : Cond.static y ∈ gtb) (hlink : Cond.methodLink own index y ∈ gtb)
    (isC tC isR tR : List Nat) (hC : isC.map (fun i => ws[i]?) = wc.map some) (hnC : va_nd isC = true) (htc : tC.filterMap (fun i => tys[i]?) = tc) (hRr : isR.map (fun i => ws[i]?) = wr.map some) (hnR : va_nd isR = true) (hdis : ∀ i ∈ isR, i ∉ isC) (htr : tR.filterMap (fun i => tys[i]?) = tr)
    (hst : st0 = As.reverse ++ rest) (hn : As.length = n) (hz : ls.size = nL) (hrc : rm.cells = mc) (hrs : rm.slots = ms) (hR : rm.frames + 1 ≤ R.frames ∧ 8 + (maxL + 11) + rm.locals ≤ R.locals) (hcat : (rest.map fun v => v.category).sum ≤ 8) {ce sl : Nat} (hce : cells + mc = ce) (hsl : slots + ms = sl) (hcells : ce ≤ R.cells ∧ sl ≤ R.slots) (hdg : decode cc pc = .ok (.invokestatic index, 3))
    (kk : ∀ (r : Int32) (x : X), φ r x → ∀ (H1 : Heap) (locs1 : List Loc), Wd dC dI A (wr ++ w1 x) (tr ++ t1 x) s H1 locs1 → W p l e R s m args below meth c H1 locs1 ce sl Q (F0 m (pc + 3) ls (.int r :: rest))) : W p l e R s m args below meth c H locs cells slots Q (F0 m pc ls st0) := by
  subst hst
  subst hce
  subst hsl
  have hFc := va_free (wc := wc) hw.2.2.1 hw.2.2.2.1 hw.2.2.2.2 isC hC
  exact va_calli (va_runS (As := As) (rest := rest) ⟨hf.1, hf.2.1, hf.2.2.1, hf.2.2.2.1, hf.2.2.2.2.1⟩ hM ⟨mcallB hf hk hrc hrs hlink hR, hf.2.2.2.2.1 _ hv⟩ ⟨PBC_blind, mpreC hf hw hZ isC tC hC hnC htc⟩ rfl hn hz rfl (lv_room hcat) hdg hcells) hw.2.2.2.1 (fun q _ h => hFc q h) hFc (fun r x t H1 locs1 ht hvm hφ hB hz1 hk1 hS1 => kk r x hφ H1 locs1 (mback hw isC isR tR hC hRr hnR hdis htr ht hvm hB hk1 hS1))
theorem cmS_l {tW : Nat} (hZ : ZC tW A s) {X : Type} {φ : Int64 → X → Prop} {w1 : X → va_W} {t1 : X → List (ClassId × FieldType)} (hf : Fx p c cc nL s args m own) (hw : Wd dC dI A ws tys s H locs)
    (hM : Met l y (wsOf y bytes maxL ret) rm (va_Pc As (PBC tW dC dI H.size wc tc)) (va_Ql φ (fun x t => PW dC dI (va_A wc H.size) (w1 x) (t1 x) t) (va_A wc H.size)) mc ms (va_A wc H.size)) (hk : KA y bytes maxL ret n) (hv : Cond.static y ∈ gtb) (hlink : Cond.methodLink own index y ∈ gtb)
    (isC tC isR tR : List Nat) (hC : isC.map (fun i => ws[i]?) = wc.map some) (hnC : va_nd isC = true) (htc : tC.filterMap (fun i => tys[i]?) = tc) (hRr : isR.map (fun i => ws[i]?) = wr.map some) (hnR : va_nd isR = true) (hdis : ∀ i ∈ isR, i ∉ isC) (htr : tR.filterMap (fun i => tys[i]?) = tr)
    (hst : st0 = As.reverse ++ rest) (hn : As.length = n) (hz : ls.size = nL) (hrc : rm.cells = mc) (hrs : rm.slots = ms) (hR : rm.frames + 1 ≤ R.frames ∧ 8 + (maxL + 11) + rm.locals ≤ R.locals) (hcat : (rest.map fun v => v.category).sum ≤ 8) {ce sl : Nat} (hce : cells + mc = ce) (hsl : slots + ms = sl) (hcells : ce ≤ R.cells ∧ sl ≤ R.slots) (hdg : decode cc pc = .ok (.invokestatic index, 3))
    (kk : ∀ (r : Int64) (x : X), φ r x → ∀ (H1 : Heap) (locs1 : List Loc), Wd dC dI A (wr ++ w1 x) (tr ++ t1 x) s H1 locs1 → W p l e R s m args below meth c H1 locs1 ce sl Q (F0 m (pc + 3) ls (.long r :: rest))) : W p l e R s m args below meth c H locs cells slots Q (F0 m pc ls st0) := by
  subst hst
  subst hce
  subst hsl
  have hFc := va_free (wc := wc) hw.2.2.1 hw.2.2.2.1 hw.2.2.2.2 isC hC
  exact va_calll (va_runS (As := As) (rest := rest) ⟨hf.1, hf.2.1, hf.2.2.1, hf.2.2.2.1, hf.2.2.2.2.1⟩ hM ⟨mcallB hf hk hrc hrs hlink hR, hf.2.2.2.2.1 _ hv⟩ ⟨PBC_blind, mpreC hf hw hZ isC tC hC hnC htc⟩ rfl hn hz rfl (lv_room hcat) hdg hcells) hw.2.2.2.1 (fun q _ h => hFc q h) hFc (fun r x t H1 locs1 ht hvm hφ hB hz1 hk1 hS1 => kk r x hφ H1 locs1 (mback hw isC isR tR hC hRr hnR hdis htr ht hvm hB hk1 hS1))
theorem cmSN_v {tW : Nat} (hZ : ZC tW A s) {X : Type} {φ : X → Prop} {w1 : X → va_W} {t1 : X → List (ClassId × FieldType)} (hf : Fx p c cc nL s args m own) (hw : Wd dC dI A ws tys s H locs)
    (hM : Met l y (wsOf y bytes maxL ret) rm (va_Pc As (PBC tW dC dI H.size wc tc)) (va_Qv φ (fun x t => PW dC dI (va_A wc H.size) (w1 x) (t1 x) t) (va_A wc H.size)) mc ms (va_A wc H.size)) (hk : KA y bytes maxL ret n) (hv : Cond.static y ∈ gtb) (hlink : Cond.methodLinkNest own index y host ∈ lw_tbl)
    (isC tC isR tR : List Nat) (hC : isC.map (fun i => ws[i]?) = wc.map some) (hnC : va_nd isC = true) (htc : tC.filterMap (fun i => tys[i]?) = tc) (hRr : isR.map (fun i => ws[i]?) = wr.map some) (hnR : va_nd isR = true) (hdis : ∀ i ∈ isR, i ∉ isC) (htr : tR.filterMap (fun i => tys[i]?) = tr)
    (hst : st0 = As.reverse ++ rest) (hn : As.length = n) (hz : ls.size = nL) (hrc : rm.cells = mc) (hrs : rm.slots = ms) (hR : rm.frames + 1 ≤ R.frames ∧ 8 + (maxL + 11) + rm.locals ≤ R.locals) (hcat : (rest.map fun v => v.category).sum ≤ 8) {ce sl : Nat} (hce : cells + mc = ce) (hsl : slots + ms = sl) (hcells : ce ≤ R.cells ∧ sl ≤ R.slots) (hdg : decode cc pc = .ok (.invokestatic index, 3))
    (kk : ∀ (x : X), φ x → ∀ (H1 : Heap) (locs1 : List Loc), Wd dC dI A (wr ++ w1 x) (tr ++ t1 x) s H1 locs1 → W p l e R s m args below meth c H1 locs1 ce sl Q (F0 m (pc + 3) ls (rest))) : W p l e R s m args below meth c H locs cells slots Q (F0 m pc ls st0) := by
  subst hst
  subst hce
  subst hsl
  have hFc := va_free (wc := wc) hw.2.2.1 hw.2.2.2.1 hw.2.2.2.2 isC hC
  exact va_callv (va_runSN (As := As) (rest := rest) ⟨hf.1, hf.2.1, hf.2.2.1, hf.2.2.2.1, hf.2.2.2.2.1⟩ hM ⟨mcallN hf hk hrc hrs hlink hR, hf.2.2.2.2.1 _ hv, trivial⟩ ⟨PBC_blind, mpreC hf hw hZ isC tC hC hnC htc⟩ rfl hn hz rfl (lv_room hcat) hdg hcells) hw.2.2.2.1 (fun q _ h => hFc q h) hFc (fun x t H1 locs1 ht hvm hφ hB hz1 hk1 hS1 => kk x hφ H1 locs1 (mback hw isC isR tR hC hRr hnR hdis htr ht hvm hB hk1 hS1))
theorem cmSN_i {tW : Nat} (hZ : ZC tW A s) {X : Type} {φ : Int32 → X → Prop} {w1 : X → va_W} {t1 : X → List (ClassId × FieldType)} (hf : Fx p c cc nL s args m own) (hw : Wd dC dI A ws tys s H locs)
    (hM : Met l y (wsOf y bytes maxL ret) rm (va_Pc As (PBC tW dC dI H.size wc tc)) (va_Qi φ (fun x t => PW dC dI (va_A wc H.size) (w1 x) (t1 x) t) (va_A wc H.size)) mc ms (va_A wc H.size)) (hk : KA y bytes maxL ret n) (hv : Cond.static y ∈ gtb) (hlink : Cond.methodLinkNest own index y host ∈ lw_tbl)
    (isC tC isR tR : List Nat) (hC : isC.map (fun i => ws[i]?) = wc.map some) (hnC : va_nd isC = true) (htc : tC.filterMap (fun i => tys[i]?) = tc) (hRr : isR.map (fun i => ws[i]?) = wr.map some) (hnR : va_nd isR = true) (hdis : ∀ i ∈ isR, i ∉ isC) (htr : tR.filterMap (fun i => tys[i]?) = tr)
    (hst : st0 = As.reverse ++ rest) (hn : As.length = n) (hz : ls.size = nL) (hrc : rm.cells = mc) (hrs : rm.slots = ms) (hR : rm.frames + 1 ≤ R.frames ∧ 8 + (maxL + 11) + rm.locals ≤ R.locals) (hcat : (rest.map fun v => v.category).sum ≤ 8) {ce sl : Nat} (hce : cells + mc = ce) (hsl : slots + ms = sl) (hcells : ce ≤ R.cells ∧ sl ≤ R.slots) (hdg : decode cc pc = .ok (.invokestatic index, 3))
    (kk : ∀ (r : Int32) (x : X), φ r x → ∀ (H1 : Heap) (locs1 : List Loc), Wd dC dI A (wr ++ w1 x) (tr ++ t1 x) s H1 locs1 → W p l e R s m args below meth c H1 locs1 ce sl Q (F0 m (pc + 3) ls (.int r :: rest))) : W p l e R s m args below meth c H locs cells slots Q (F0 m pc ls st0) := by
  subst hst
  subst hce
  subst hsl
  have hFc := va_free (wc := wc) hw.2.2.1 hw.2.2.2.1 hw.2.2.2.2 isC hC
  exact va_calli (va_runSN (As := As) (rest := rest) ⟨hf.1, hf.2.1, hf.2.2.1, hf.2.2.2.1, hf.2.2.2.2.1⟩ hM ⟨mcallN hf hk hrc hrs hlink hR, hf.2.2.2.2.1 _ hv, trivial⟩ ⟨PBC_blind, mpreC hf hw hZ isC tC hC hnC htc⟩ rfl hn hz rfl (lv_room hcat) hdg hcells) hw.2.2.2.1 (fun q _ h => hFc q h) hFc (fun r x t H1 locs1 ht hvm hφ hB hz1 hk1 hS1 => kk r x hφ H1 locs1 (mback hw isC isR tR hC hRr hnR hdis htr ht hvm hB hk1 hS1))
theorem cmSN_l {tW : Nat} (hZ : ZC tW A s) {X : Type} {φ : Int64 → X → Prop} {w1 : X → va_W} {t1 : X → List (ClassId × FieldType)} (hf : Fx p c cc nL s args m own) (hw : Wd dC dI A ws tys s H locs)
    (hM : Met l y (wsOf y bytes maxL ret) rm (va_Pc As (PBC tW dC dI H.size wc tc)) (va_Ql φ (fun x t => PW dC dI (va_A wc H.size) (w1 x) (t1 x) t) (va_A wc H.size)) mc ms (va_A wc H.size)) (hk : KA y bytes maxL ret n) (hv : Cond.static y ∈ gtb) (hlink : Cond.methodLinkNest own index y host ∈ lw_tbl)
    (isC tC isR tR : List Nat) (hC : isC.map (fun i => ws[i]?) = wc.map some) (hnC : va_nd isC = true) (htc : tC.filterMap (fun i => tys[i]?) = tc) (hRr : isR.map (fun i => ws[i]?) = wr.map some) (hnR : va_nd isR = true) (hdis : ∀ i ∈ isR, i ∉ isC) (htr : tR.filterMap (fun i => tys[i]?) = tr)
    (hst : st0 = As.reverse ++ rest) (hn : As.length = n) (hz : ls.size = nL) (hrc : rm.cells = mc) (hrs : rm.slots = ms) (hR : rm.frames + 1 ≤ R.frames ∧ 8 + (maxL + 11) + rm.locals ≤ R.locals) (hcat : (rest.map fun v => v.category).sum ≤ 8) {ce sl : Nat} (hce : cells + mc = ce) (hsl : slots + ms = sl) (hcells : ce ≤ R.cells ∧ sl ≤ R.slots) (hdg : decode cc pc = .ok (.invokestatic index, 3))
    (kk : ∀ (r : Int64) (x : X), φ r x → ∀ (H1 : Heap) (locs1 : List Loc), Wd dC dI A (wr ++ w1 x) (tr ++ t1 x) s H1 locs1 → W p l e R s m args below meth c H1 locs1 ce sl Q (F0 m (pc + 3) ls (.long r :: rest))) : W p l e R s m args below meth c H locs cells slots Q (F0 m pc ls st0) := by
  subst hst
  subst hce
  subst hsl
  have hFc := va_free (wc := wc) hw.2.2.1 hw.2.2.2.1 hw.2.2.2.2 isC hC
  exact va_calll (va_runSN (As := As) (rest := rest) ⟨hf.1, hf.2.1, hf.2.2.1, hf.2.2.2.1, hf.2.2.2.2.1⟩ hM ⟨mcallN hf hk hrc hrs hlink hR, hf.2.2.2.2.1 _ hv, trivial⟩ ⟨PBC_blind, mpreC hf hw hZ isC tC hC hnC htc⟩ rfl hn hz rfl (lv_room hcat) hdg hcells) hw.2.2.2.1 (fun q _ h => hFc q h) hFc (fun r x t H1 locs1 ht hvm hφ hB hz1 hk1 hS1 => kk r x hφ H1 locs1 (mback hw isC isR tR hC hRr hnR hdis htr ht hvm hB hk1 hS1))
end CMAC
def WdC (Y : List Ent) (Γ : GxC) (A : Nat → Prop) (X : St) (s : State) (H : Heap) (locs : List Loc) : Prop := Wd Γ.2.1 Γ.2.2.1 A (GW Y Γ.2.2.2.1 Γ.2.2.2.2.1 X) (GT Y Γ.2.2.2.2.1) s H locs ∧ ZC Γ.2.2.2.2.2 A s
abbrev QTC (ρ : Type) : Type := List Ent → GxC → (Nat → Prop) → State → List Frame → List Value → ρ → St → State → Prop
def kI : QTC Int32 := fun Y Γ A s below av r X' => MQ below (va_Qi (fun r' (x : St) => r' = r ∧ x = X') (fun x t => PW Γ.2.1 Γ.2.2.1 A (GW Y Γ.2.2.2.1 Γ.2.2.2.2.1 x) (GT Y Γ.2.2.2.2.1) t) A) av.toArray s 0 0 A
def kL : QTC Int64 := fun Y Γ A s below av r X' => MQ below (va_Ql (fun r' (x : St) => r' = r ∧ x = X') (fun x t => PW Γ.2.1 Γ.2.2.1 A (GW Y Γ.2.2.2.1 Γ.2.2.2.2.1 x) (GT Y Γ.2.2.2.2.1) t) A) av.toArray s 0 0 A
def kV : QTC Int32 := fun Y Γ A s below av _ X' => MQ below (va_Qv (fun (x : St) => x = X') (fun x t => PW Γ.2.1 Γ.2.2.1 A (GW Y Γ.2.2.2.1 Γ.2.2.2.2.1 x) (GT Y Γ.2.2.2.2.1) t) A) av.toArray s 0 0 A
def TC {ρ : Type} (Y : List Ent) (Γ : GxC) (cc : ByteArray) (nL : Nat) (own : String) (ret : Option FieldType) (R0 : Room) (As : List Value) (q : QTC ρ) (pc : Nat) (lv : List (Nat × Value)) (st : List Value) (X : St) (F : Option (ρ × St)) : Prop :=
  ∀ (r : ρ) (X' : St), F = some (r, X') → ∀ (p : Program) (e : Env) (s : State) (m : MethodId) (below : List Frame) (meth : Method) (c : Code) (ls : Array Slot) (A : Nat → Prop) (H : Heap) (locs : List Loc),
    Fx p c cc nL s As.toArray m own → meth.sig.returnType = ret → meth.locks = false → WdC Y Γ A X s H locs → lv_has ls nL lv →
    W p Γ.1 e R0 s m As.toArray below meth c H locs 0 0 (q Y Γ A s below As r X') (F0 m pc ls st)
/-- contracts -/
def TCI (Y : List Ent) (Γ : GxC) (y : MethodName) (cc : ByteArray) (nL : Nat) (own : String) (ret : Option FieldType) (R0 : Room) (As : List Value) (X : St) (F : Option (Int32 × St)) : Prop :=
  ∀ (r : Int32) (X' : St), F = some (r, X') → ∀ sz : Nat, Met Γ.1 y (wsOf y cc nL ret) R0 (va_Pc As (PBC Γ.2.2.2.2.2 Γ.2.1 Γ.2.2.1 sz (GW Y Γ.2.2.2.1 Γ.2.2.2.2.1 X) (GT Y Γ.2.2.2.2.1))) (va_Qi (fun r' (x : St) => r' = r ∧ x = X') (fun x t => PW Γ.2.1 Γ.2.2.1 (va_A (GW Y Γ.2.2.2.1 Γ.2.2.2.2.1 X) sz) (GW Y Γ.2.2.2.1 Γ.2.2.2.2.1 x) (GT Y Γ.2.2.2.2.1) t) (va_A (GW Y Γ.2.2.2.1 Γ.2.2.2.2.1 X) sz)) 0 0 (va_A (GW Y Γ.2.2.2.1 Γ.2.2.2.2.1 X) sz)
def TCL (Y : List Ent) (Γ : GxC) (y : MethodName) (cc : ByteArray) (nL : Nat) (own : String) (ret : Option FieldType) (R0 : Room) (As : List Value) (X : St) (F : Option (Int64 × St)) : Prop :=
  ∀ (r : Int64) (X' : St), F = some (r, X') → ∀ sz : Nat, Met Γ.1 y (wsOf y cc nL ret) R0 (va_Pc As (PBC Γ.2.2.2.2.2 Γ.2.1 Γ.2.2.1 sz (GW Y Γ.2.2.2.1 Γ.2.2.2.2.1 X) (GT Y Γ.2.2.2.2.1))) (va_Ql (fun r' (x : St) => r' = r ∧ x = X') (fun x t => PW Γ.2.1 Γ.2.2.1 (va_A (GW Y Γ.2.2.2.1 Γ.2.2.2.2.1 X) sz) (GW Y Γ.2.2.2.1 Γ.2.2.2.2.1 x) (GT Y Γ.2.2.2.2.1) t) (va_A (GW Y Γ.2.2.2.1 Γ.2.2.2.2.1 X) sz)) 0 0 (va_A (GW Y Γ.2.2.2.1 Γ.2.2.2.2.1 X) sz)
def TCV (Y : List Ent) (Γ : GxC) (y : MethodName) (cc : ByteArray) (nL : Nat) (own : String) (ret : Option FieldType) (R0 : Room) (As : List Value) (X : St) (F : Option (Int32 × St)) : Prop :=
  ∀ (r : Int32) (X' : St), F = some (r, X') → ∀ sz : Nat, Met Γ.1 y (wsOf y cc nL ret) R0 (va_Pc As (PBC Γ.2.2.2.2.2 Γ.2.1 Γ.2.2.1 sz (GW Y Γ.2.2.2.1 Γ.2.2.2.2.1 X) (GT Y Γ.2.2.2.2.1))) (va_Qv (fun (x : St) => x = X') (fun x t => PW Γ.2.1 Γ.2.2.1 (va_A (GW Y Γ.2.2.2.1 Γ.2.2.2.2.1 X) sz) (GW Y Γ.2.2.2.1 Γ.2.2.2.2.1 x) (GT Y Γ.2.2.2.2.1) t) (va_A (GW Y Γ.2.2.2.1 Γ.2.2.2.2.1 X) sz)) 0 0 (va_A (GW Y Γ.2.2.2.1 Γ.2.2.2.2.1 X) sz)
section TL
variable {ρ : Type} {Y : List Ent} {Γ : GxC} {cc cc1 : ByteArray} {nL nL1 : Nat} {own own1 : String} {ret ret1 : Option FieldType} {R0 R1 : Room} {As As1 rest st st1 st0 : List Value} {q : QTC ρ} {pc pc1 : Nat} {lv lv1 : List (Nat × Value)} {X X1 : St} {F F1 F2 : Option (ρ × St)} {y : MethodName} {n index : Nat}
theorem TCI.of (hy : plainName y.cls = true) (hav : (lg_sl As).length ≤ nL) (hown : own = y.cls) {F : Option (Int32 × St)} (h : TC Y Γ cc nL own ret R0 As kI 0 (lv_args 0 As) [] X F) : TCI Y Γ y cc nL own ret R0 As X F := by
  intro r X' hF sz
  exact mbodyC (t := Γ.2.2.2.2.2) (y := y) (av := As) (b := cc) (n := nL) (ret := ret) (rm := R0) (Qc := fun A => va_Qi (fun r' (x : St) => r' = r ∧ x = X') (fun x t => PW Γ.2.1 Γ.2.2.1 A (GW Y Γ.2.2.2.1 Γ.2.2.2.2.1 x) (GT Y Γ.2.2.2.2.1) t) A) hy hav (fun p e s m below meth c ls A H hf hr _ hlk hw hl => h r X' hF p e s m below meth c ls A H [] (by rw [hown]; exact hf) hr hlk hw hl)
theorem TCL.of (hy : plainName y.cls = true) (hav : (lg_sl As).length ≤ nL) (hown : own = y.cls) {F : Option (Int64 × St)} (h : TC Y Γ cc nL own ret R0 As kL 0 (lv_args 0 As) [] X F) : TCL Y Γ y cc nL own ret R0 As X F := by
  intro r X' hF sz
  exact mbodyC (t := Γ.2.2.2.2.2) (y := y) (av := As) (b := cc) (n := nL) (ret := ret) (rm := R0) (Qc := fun A => va_Ql (fun r' (x : St) => r' = r ∧ x = X') (fun x t => PW Γ.2.1 Γ.2.2.1 A (GW Y Γ.2.2.2.1 Γ.2.2.2.2.1 x) (GT Y Γ.2.2.2.2.1) t) A) hy hav (fun p e s m below meth c ls A H hf hr _ hlk hw hl => h r X' hF p e s m below meth c ls A H [] (by rw [hown]; exact hf) hr hlk hw hl)
theorem TCV.of (hy : plainName y.cls = true) (hav : (lg_sl As).length ≤ nL) (hown : own = y.cls) {F : Option (Int32 × St)} (h : TC Y Γ cc nL own ret R0 As kV 0 (lv_args 0 As) [] X F) : TCV Y Γ y cc nL own ret R0 As X F := by
  intro r X' hF sz
  exact mbodyC (t := Γ.2.2.2.2.2) (y := y) (av := As) (b := cc) (n := nL) (ret := ret) (rm := R0) (Qc := fun A => va_Qv (fun (x : St) => x = X') (fun x t => PW Γ.2.1 Γ.2.2.1 A (GW Y Γ.2.2.2.1 Γ.2.2.2.2.1 x) (GT Y Γ.2.2.2.2.1) t) A) hy hav (fun p e s m below meth c ls A H hf hr _ hlk hw hl => h r X' hF p e s m below meth c ls A H [] (by rw [hown]; exact hf) hr hlk hw hl)
theorem TC.no : TC Y Γ cc nL own ret R0 As q pc lv st X (none : Option (ρ × St)) := fun _ _ h => nomatch h
theorem TC.lift (h : TC Y Γ cc nL own ret R0 As q pc1 lv1 st1 X1 F) (step : ∀ (p : Program) (e : Env) (s : State) (m : MethodId) (below : List Frame) (meth : Method) (c : Code) (ls : Array Slot) (A : Nat → Prop) (H : Heap) (locs : List Loc) (Q : State → Prop), Fx p c cc nL s As.toArray m own → WdC Y Γ A X s H locs → lv_has ls nL lv →
      (∀ (ls1 : Array Slot) (H1 : Heap) (locs1 : List Loc), WdC Y Γ A X1 s H1 locs1 → lv_has ls1 nL lv1 → W p Γ.1 e R0 s m As.toArray below meth c H1 locs1 0 0 Q (F0 m pc1 ls1 st1)) →
      W p Γ.1 e R0 s m As.toArray below meth c H locs 0 0 Q (F0 m pc ls st)) : TC Y Γ cc nL own ret R0 As q pc lv st X F := by
  intro r X' hF p e s m below meth c ls A H locs hfx hret hlk hwd hlv
  exact step p e s m below meth c ls A H locs _ hfx hwd hlv (fun ls1 H1 locs1 hw1 hl1 => h r X' hF p e s m below meth c ls1 A H1 locs1 hfx hret hlk hw1 hl1)
theorem TC.lf (h : TC Y Γ cc nL own ret R0 As q pc1 lv1 st1 X F)
    (step : ∀ (p : Program) (e : Env) (s : State) (m : MethodId) (below : List Frame) (meth : Method) (c : Code) (ls : Array Slot) (A : Nat → Prop) (H : Heap) (locs : List Loc) (Q : State → Prop), Fx p c cc nL s As.toArray m own → WdC Y Γ A X s H locs → lv_has ls nL lv →
      (∀ (ls1 : Array Slot), lv_has ls1 nL lv1 → W p Γ.1 e R0 s m As.toArray below meth c H locs 0 0 Q (F0 m pc1 ls1 st1)) →
      W p Γ.1 e R0 s m As.toArray below meth c H locs 0 0 Q (F0 m pc ls st)) : TC Y Γ cc nL own ret R0 As q pc lv st X F :=
  TC.lift h (fun p e s m below meth cd ls A H locs Q hf hw hl k => step p e s m below meth cd ls A H locs Q hf hw hl (fun ls1 hl1 => k ls1 H locs hw hl1))
theorem TC.ite {c : Prop} [Decidable c] (h1 : c → TC Y Γ cc nL own ret R0 As q pc lv st X F1) (h2 : ¬ c → TC Y Γ cc nL own ret R0 As q pc lv st X F2) : TC Y Γ cc nL own ret R0 As q pc lv st X (if c then F1 else F2) := by
  by_cases h : c
  · rw [if_pos h]; exact h1 h
  · rw [if_neg h]; exact h2 h
theorem TC.ck {c : Prop} [Decidable c] (h1 : c → TC Y Γ cc nL own ret R0 As q pc lv st X F) : TC Y Γ cc nL own ret R0 As q pc lv st X (chk c F) := TC.ite h1 (fun _ => TC.no)
theorem TC.ret_i {lv : List (Nat × Value)} {x : Int32} (hret : ret = some .int) (hdg : decode cc pc = .ok (.ireturn, 1)) : TC Y Γ cc nL own ret R0 As kI pc lv [.int x] X (some (x, X)) := by
  intro r X' hF p e s m below meth c ls A H locs hf hr hlk hw hl
  injection hF with hF
  injection hF with e1 e2
  subst e1
  subst e2
  exact mret_i hf (hr.trans hret) hlk hw.1 X ⟨rfl, rfl⟩ (List.range (GW Y Γ.2.2.2.1 Γ.2.2.2.2.1 X).length) (List.range (GT Y Γ.2.2.2.2.1).length) (MW_all rfl) (va_nd_range _) (MT_all rfl) (Nat.le_refl _) (Nat.le_refl _) hdg
theorem TC.ret_z {lv : List (Nat × Value)} {x : Int32} (hret : ret = some .boolean) (hdg : decode cc pc = .ok (.ireturn, 1)) (hz : narrow .boolean (.int x) = .int x) : TC Y Γ cc nL own ret R0 As kI pc lv [.int x] X (some (x, X)) := by
  intro r X' hF p e s m below meth c ls A H locs hf hr hlk hw hl
  injection hF with hF
  injection hF with e1 e2
  subst e1
  subst e2
  exact mret_z hf (hr.trans hret) hlk hz hw.1 X ⟨rfl, rfl⟩ (List.range (GW Y Γ.2.2.2.1 Γ.2.2.2.2.1 X).length) (List.range (GT Y Γ.2.2.2.2.1).length) (MW_all rfl) (va_nd_range _) (MT_all rfl) (Nat.le_refl _) (Nat.le_refl _) hdg
theorem TC.ret_l {lv : List (Nat × Value)} {x : Int64} (hret : ret = some .long) (hdg : decode cc pc = .ok (.lreturn, 1)) : TC Y Γ cc nL own ret R0 As kL pc lv [.long x] X (some (x, X)) := by
  intro r X' hF p e s m below meth c ls A H locs hf hr hlk hw hl
  injection hF with hF
  injection hF with e1 e2
  subst e1
  subst e2
  exact W.widen (k := 0) (n := 0) (Nat.le_refl _) (Nat.le_refl _) (W.lret hf.1 hf.2.1 (hr.trans hret) (fun t h hW => ⟨⟨x, X, rfl, ⟨rfl, rfl⟩, mPW hw.1 (List.range (GW Y Γ.2.2.2.1 Γ.2.2.2.2.1 X).length) (List.range (GT Y Γ.2.2.2.2.1).length) (MW_all rfl) (va_nd_range _) (MT_all rfl) h hW⟩, hw.1.2.2.2.1.F h⟩) hw.1.2.2.2.1.2.2 hdg hlk)
theorem TC.ret_v {lv : List (Nat × Value)} (hret : ret = none) (hdg : decode cc pc = .ok (.return_, 1)) : TC Y Γ cc nL own ret R0 As kV pc lv [] X (some (0, X)) := by
  intro r X' hF p e s m below meth c ls A H locs hf hr hlk hw hl
  injection hF with hF
  injection hF with e1 e2
  subst e2
  exact mret_v hf (hr.trans hret) hlk hw.1 X rfl (List.range (GW Y Γ.2.2.2.1 Γ.2.2.2.2.1 X).length) (List.range (GT Y Γ.2.2.2.2.1).length) (MW_all rfl) (va_nd_range _) (MT_all rfl) (Nat.le_refl _) (Nat.le_refl _) hdg
theorem TC.sub {lv' : List (Nat × Value)} (ks : List Nat) (hl : lv_pick lv ks = lv') (kk : TC Y Γ cc nL own ret R0 As q pc lv' st X F) : TC Y Γ cc nL own ret R0 As q pc lv st X F :=
  fun r X' hF p e s m below meth c ls A H locs hf hret hlk hw hlv => kk r X' hF p e s m below meth c ls A H locs hf hret hlk hw (lv_sub hlv ks hl)
theorem TC.iconst {z : Int} {w : Int32} (hdg : decode cc pc = .ok (.iconst z, 1)) (hv : Int32.ofInt z = w) (k : TC Y Γ cc nL own ret R0 As q (pc + 1) lv (.int w :: rest) X F) : TC Y Γ cc nL own ret R0 As q pc lv rest X F :=
  TC.lf k (fun p e s m below meth cd ls A H locs Q hf hw hl k => lv_iconst hf.1 hf.2.1 hdg hv (k ls hl))
theorem TC.bipush {z : Int} {w : Int32} (hdg : decode cc pc = .ok (.bipush z, 2)) (hv : (Int8.ofInt z).toInt32 = w) (k : TC Y Γ cc nL own ret R0 As q (pc + 2) lv (.int w :: rest) X F) : TC Y Γ cc nL own ret R0 As q pc lv rest X F :=
  TC.lf k (fun p e s m below meth cd ls A H locs Q hf hw hl k => lv_bipush hf.1 hf.2.1 hdg hv (k ls hl))
theorem TC.sipush {z : Int} {w : Int32} (hdg : decode cc pc = .ok (.sipush z, 3)) (hv : (Int16.ofInt z).toInt32 = w) (k : TC Y Γ cc nL own ret R0 As q (pc + 3) lv (.int w :: rest) X F) : TC Y Γ cc nL own ret R0 As q pc lv rest X F :=
  TC.lf k (fun p e s m below meth cd ls A H locs Q hf hw hl k => lv_sipush hf.1 hf.2.1 hdg hv (k ls hl))
theorem TC.lconst {z : Fin 2} {w : Int64} (hdg : decode cc pc = .ok (.lconst z, 1)) (hv : Int64.ofNat (z : Nat) = w) (k : TC Y Γ cc nL own ret R0 As q (pc + 1) lv (.long w :: rest) X F) : TC Y Γ cc nL own ret R0 As q pc lv rest X F :=
  TC.lf k (fun p e s m below meth cd ls A H locs Q hf hw hl k => lv_lconst hf.1 hf.2.1 hdg hv (k ls hl))
theorem TC.ldc {w : Int32} (hdg : decode cc pc = .ok (.ldc index, 2)) (hc : Cond.constant own index w ∈ gtb) (k : TC Y Γ cc nL own ret R0 As q (pc + 2) lv (.int w :: rest) X F) : TC Y Γ cc nL own ret R0 As q pc lv rest X F :=
  TC.lf k (fun p e s m below meth cd ls A H locs Q hf hw hl k => lv_ldc hf.1 hf.2.1 hf.2.2.2.1 (hf.2.2.2.2.1 _ hc) hdg (k ls hl))
theorem TC.ldc2 {w : Int64} (hdg : decode cc pc = .ok (.ldc2_w index, 3)) (hc : Cond.constantLong own index w ∈ gtb) (k : TC Y Γ cc nL own ret R0 As q (pc + 3) lv (.long w :: rest) X F) : TC Y Γ cc nL own ret R0 As q pc lv rest X F :=
  TC.lf k (fun p e s m below meth cd ls A H locs Q hf hw hl k => lv_ldc2 hf.1 hf.2.1 hf.2.2.2.1 (hf.2.2.2.2.1 _ hc) hdg (k ls hl))
theorem TC.iload_n {j : Fin 4} {i : Nat} {w : Int32} (hdg : decode cc pc = .ok (.iload_n j, 1)) (hi : (j : Nat) = i) (z : Nat) (hz : lv[z]? = some (i, .int w)) (k : TC Y Γ cc nL own ret R0 As q (pc + 1) lv (.int w :: rest) X F) : TC Y Γ cc nL own ret R0 As q pc lv rest X F :=
  TC.lf k (fun p e s m below meth cd ls A H locs Q hf hw hl k => lv_iload_n hf.1 hf.2.1 hdg hi (lv_at hl z hz) (k ls hl))
theorem TC.iload {i : Nat} {w : Int32} (hdg : decode cc pc = .ok (.iload i, 2)) (z : Nat) (hz : lv[z]? = some (i, .int w)) (k : TC Y Γ cc nL own ret R0 As q (pc + 2) lv (.int w :: rest) X F) : TC Y Γ cc nL own ret R0 As q pc lv rest X F :=
  TC.lf k (fun p e s m below meth cd ls A H locs Q hf hw hl k => lv_iload hf.1 hf.2.1 hdg (lv_at hl z hz) (k ls hl))
theorem TC.istore_n {j : Fin 4} {i : Nat} {w : Int32} (hdg : decode cc pc = .ok (.istore_n j, 1)) (hi : (j : Nat) = i) (hn : i < nL) (hl1 : (i, Value.int w) :: lv.filter (fun q => !(q.1 == i) && !(q.1 + 1 == i && q.2.category == 2)) = lv1) (k : TC Y Γ cc nL own ret R0 As q (pc + 1) lv1 rest X F) : TC Y Γ cc nL own ret R0 As q pc lv (.int w :: rest) X F :=
  TC.lf k (fun p e s m below meth cd ls A H locs Q hf hw hl k => lv_istore_n hf.1 hf.2.1 hdg hi hl hn hl1 (fun ls1 hl1 => k ls1 hl1))
theorem TC.istore {i : Nat} {w : Int32} (hdg : decode cc pc = .ok (.istore i, 2)) (hn : i < nL) (hl1 : (i, Value.int w) :: lv.filter (fun q => !(q.1 == i) && !(q.1 + 1 == i && q.2.category == 2)) = lv1) (k : TC Y Γ cc nL own ret R0 As q (pc + 2) lv1 rest X F) : TC Y Γ cc nL own ret R0 As q pc lv (.int w :: rest) X F :=
  TC.lf k (fun p e s m below meth cd ls A H locs Q hf hw hl k => lv_istore hf.1 hf.2.1 hdg hl hn hl1 (fun ls1 hl1 => k ls1 hl1))
theorem TC.aload_n {j : Fin 4} {i : Nat} {w : Nat} (hdg : decode cc pc = .ok (.aload_n j, 1)) (hi : (j : Nat) = i) (z : Nat) (hz : lv[z]? = some (i, .ref w)) (k : TC Y Γ cc nL own ret R0 As q (pc + 1) lv (.ref w :: rest) X F) : TC Y Γ cc nL own ret R0 As q pc lv rest X F :=
  TC.lf k (fun p e s m below meth cd ls A H locs Q hf hw hl k => lv_aload_n hf.1 hf.2.1 hdg hi (lv_at hl z hz) (k ls hl))
theorem TC.aload {i : Nat} {w : Nat} (hdg : decode cc pc = .ok (.aload i, 2)) (z : Nat) (hz : lv[z]? = some (i, .ref w)) (k : TC Y Γ cc nL own ret R0 As q (pc + 2) lv (.ref w :: rest) X F) : TC Y Γ cc nL own ret R0 As q pc lv rest X F :=
  TC.lf k (fun p e s m below meth cd ls A H locs Q hf hw hl k => lv_aload hf.1 hf.2.1 hdg (lv_at hl z hz) (k ls hl))
theorem TC.astore_n {j : Fin 4} {i : Nat} {w : Nat} (hdg : decode cc pc = .ok (.astore_n j, 1)) (hi : (j : Nat) = i) (hn : i < nL) (hl1 : (i, Value.ref w) :: lv.filter (fun q => !(q.1 == i) && !(q.1 + 1 == i && q.2.category == 2)) = lv1) (k : TC Y Γ cc nL own ret R0 As q (pc + 1) lv1 rest X F) : TC Y Γ cc nL own ret R0 As q pc lv (.ref w :: rest) X F :=
  TC.lf k (fun p e s m below meth cd ls A H locs Q hf hw hl k => lv_astore_n hf.1 hf.2.1 hdg hi hl hn hl1 (fun ls1 hl1 => k ls1 hl1))
theorem TC.astore {i : Nat} {w : Nat} (hdg : decode cc pc = .ok (.astore i, 2)) (hn : i < nL) (hl1 : (i, Value.ref w) :: lv.filter (fun q => !(q.1 == i) && !(q.1 + 1 == i && q.2.category == 2)) = lv1) (k : TC Y Γ cc nL own ret R0 As q (pc + 2) lv1 rest X F) : TC Y Γ cc nL own ret R0 As q pc lv (.ref w :: rest) X F :=
  TC.lf k (fun p e s m below meth cd ls A H locs Q hf hw hl k => lv_astore hf.1 hf.2.1 hdg hl hn hl1 (fun ls1 hl1 => k ls1 hl1))
theorem TC.lload_n {j : Fin 4} {i : Nat} {w : Int64} (hdg : decode cc pc = .ok (.lload_n j, 1)) (hi : (j : Nat) = i) (z : Nat) (hz : lv[z]? = some (i, .long w)) (k : TC Y Γ cc nL own ret R0 As q (pc + 1) lv (.long w :: rest) X F) : TC Y Γ cc nL own ret R0 As q pc lv rest X F :=
  TC.lf k (fun p e s m below meth cd ls A H locs Q hf hw hl k => lv_lload_n hf.1 hf.2.1 hdg hi (lv_at hl z hz) (k ls hl))
theorem TC.lload {i : Nat} {w : Int64} (hdg : decode cc pc = .ok (.lload i, 2)) (z : Nat) (hz : lv[z]? = some (i, .long w)) (k : TC Y Γ cc nL own ret R0 As q (pc + 2) lv (.long w :: rest) X F) : TC Y Γ cc nL own ret R0 As q pc lv rest X F :=
  TC.lf k (fun p e s m below meth cd ls A H locs Q hf hw hl k => lv_lload hf.1 hf.2.1 hdg (lv_at hl z hz) (k ls hl))
theorem TC.lstore_n {j : Fin 4} {i : Nat} {w : Int64} (hdg : decode cc pc = .ok (.lstore_n j, 1)) (hi : (j : Nat) = i) (hn : i + 1 < nL) (hl1 : (i, Value.long w) :: lv.filter (fun q => !(q.1 == i) && (!(q.1 == i + 1) && !(q.1 + 1 == i && q.2.category == 2))) = lv1) (k : TC Y Γ cc nL own ret R0 As q (pc + 1) lv1 rest X F) : TC Y Γ cc nL own ret R0 As q pc lv (.long w :: rest) X F :=
  TC.lf k (fun p e s m below meth cd ls A H locs Q hf hw hl k => lv_lstore_n hf.1 hf.2.1 hdg hi hl hn hl1 (fun ls1 hl1 => k ls1 hl1))
theorem TC.lstore {i : Nat} {w : Int64} (hdg : decode cc pc = .ok (.lstore i, 2)) (hn : i + 1 < nL) (hl1 : (i, Value.long w) :: lv.filter (fun q => !(q.1 == i) && (!(q.1 == i + 1) && !(q.1 + 1 == i && q.2.category == 2))) = lv1) (k : TC Y Γ cc nL own ret R0 As q (pc + 2) lv1 rest X F) : TC Y Γ cc nL own ret R0 As q pc lv (.long w :: rest) X F :=
  TC.lf k (fun p e s m below meth cd ls A H locs Q hf hw hl k => lv_lstore hf.1 hf.2.1 hdg hl hn hl1 (fun ls1 hl1 => k ls1 hl1))
theorem TC.iadd {a b : Int32} (hdg : decode cc pc = .ok (.iadd, 1)) {Kf : Int32 → Option (ρ × St)} (k : ∀ w : Int32, TC Y Γ cc nL own ret R0 As q (pc + 1) lv (.int w :: rest) X (Kf w)) : TC Y Γ cc nL own ret R0 As q pc lv (.int b :: .int a :: rest) X (letV (a + b) Kf) :=
  TC.lf (F := letV (a + b) Kf) (k (a + b)) (fun p e s m below meth cd ls A H locs Q hf hw hl k => lv_iadd hf.1 hf.2.1 hdg (k ls hl))
theorem TC.isub {a b : Int32} (hdg : decode cc pc = .ok (.isub, 1)) {Kf : Int32 → Option (ρ × St)} (k : ∀ w : Int32, TC Y Γ cc nL own ret R0 As q (pc + 1) lv (.int w :: rest) X (Kf w)) : TC Y Γ cc nL own ret R0 As q pc lv (.int b :: .int a :: rest) X (letV (a - b) Kf) :=
  TC.lf (F := letV (a - b) Kf) (k (a - b)) (fun p e s m below meth cd ls A H locs Q hf hw hl k => lv_isub hf.1 hf.2.1 hdg (k ls hl))
theorem TC.imul {a b : Int32} (hdg : decode cc pc = .ok (.imul, 1)) {Kf : Int32 → Option (ρ × St)} (k : ∀ w : Int32, TC Y Γ cc nL own ret R0 As q (pc + 1) lv (.int w :: rest) X (Kf w)) : TC Y Γ cc nL own ret R0 As q pc lv (.int b :: .int a :: rest) X (letV (a * b) Kf) :=
  TC.lf (F := letV (a * b) Kf) (k (a * b)) (fun p e s m below meth cd ls A H locs Q hf hw hl k => lv_imul hf.1 hf.2.1 hdg (k ls hl))
theorem TC.iand {a b : Int32} (hdg : decode cc pc = .ok (.iand, 1)) {Kf : Int32 → Option (ρ × St)} (k : ∀ w : Int32, TC Y Γ cc nL own ret R0 As q (pc + 1) lv (.int w :: rest) X (Kf w)) : TC Y Γ cc nL own ret R0 As q pc lv (.int b :: .int a :: rest) X (letV (a &&& b) Kf) :=
  TC.lf (F := letV (a &&& b) Kf) (k (a &&& b)) (fun p e s m below meth cd ls A H locs Q hf hw hl k => lv_iand hf.1 hf.2.1 hdg (k ls hl))
theorem TC.ior {a b : Int32} (hdg : decode cc pc = .ok (.ior, 1)) {Kf : Int32 → Option (ρ × St)} (k : ∀ w : Int32, TC Y Γ cc nL own ret R0 As q (pc + 1) lv (.int w :: rest) X (Kf w)) : TC Y Γ cc nL own ret R0 As q pc lv (.int b :: .int a :: rest) X (letV (a ||| b) Kf) :=
  TC.lf (F := letV (a ||| b) Kf) (k (a ||| b)) (fun p e s m below meth cd ls A H locs Q hf hw hl k => lv_ior hf.1 hf.2.1 hdg (k ls hl))
theorem TC.ixor {a b : Int32} (hdg : decode cc pc = .ok (.ixor, 1)) {Kf : Int32 → Option (ρ × St)} (k : ∀ w : Int32, TC Y Γ cc nL own ret R0 As q (pc + 1) lv (.int w :: rest) X (Kf w)) : TC Y Γ cc nL own ret R0 As q pc lv (.int b :: .int a :: rest) X (letV (a ^^^ b) Kf) :=
  TC.lf (F := letV (a ^^^ b) Kf) (k (a ^^^ b)) (fun p e s m below meth cd ls A H locs Q hf hw hl k => lv_ixor hf.1 hf.2.1 hdg (k ls hl))
theorem TC.ishl {a b : Int32} (hdg : decode cc pc = .ok (.ishl, 1)) {Kf : Int32 → Option (ρ × St)} (k : ∀ w : Int32, TC Y Γ cc nL own ret R0 As q (pc + 1) lv (.int w :: rest) X (Kf w)) : TC Y Γ cc nL own ret R0 As q pc lv (.int b :: .int a :: rest) X (letV (a <<< (b &&& 31)) Kf) :=
  TC.lf (F := letV (a <<< (b &&& 31)) Kf) (k (a <<< (b &&& 31))) (fun p e s m below meth cd ls A H locs Q hf hw hl k => lv_ishl hf.1 hf.2.1 hdg (k ls hl))
theorem TC.ishr {a b : Int32} (hdg : decode cc pc = .ok (.ishr, 1)) {Kf : Int32 → Option (ρ × St)} (k : ∀ w : Int32, TC Y Γ cc nL own ret R0 As q (pc + 1) lv (.int w :: rest) X (Kf w)) : TC Y Γ cc nL own ret R0 As q pc lv (.int b :: .int a :: rest) X (letV (a >>> (b &&& 31)) Kf) :=
  TC.lf (F := letV (a >>> (b &&& 31)) Kf) (k (a >>> (b &&& 31))) (fun p e s m below meth cd ls A H locs Q hf hw hl k => lv_ishr hf.1 hf.2.1 hdg (k ls hl))
theorem TC.ladd {a b : Int64} (hdg : decode cc pc = .ok (.ladd, 1)) {Kf : Int64 → Option (ρ × St)} (k : ∀ w : Int64, TC Y Γ cc nL own ret R0 As q (pc + 1) lv (.long w :: rest) X (Kf w)) : TC Y Γ cc nL own ret R0 As q pc lv (.long b :: .long a :: rest) X (letV (a + b) Kf) :=
  TC.lf (F := letV (a + b) Kf) (k (a + b)) (fun p e s m below meth cd ls A H locs Q hf hw hl k => lv_ladd hf.1 hf.2.1 hdg (k ls hl))
theorem TC.lsub {a b : Int64} (hdg : decode cc pc = .ok (.lsub, 1)) {Kf : Int64 → Option (ρ × St)} (k : ∀ w : Int64, TC Y Γ cc nL own ret R0 As q (pc + 1) lv (.long w :: rest) X (Kf w)) : TC Y Γ cc nL own ret R0 As q pc lv (.long b :: .long a :: rest) X (letV (a - b) Kf) :=
  TC.lf (F := letV (a - b) Kf) (k (a - b)) (fun p e s m below meth cd ls A H locs Q hf hw hl k => lv_lsub hf.1 hf.2.1 hdg (k ls hl))
theorem TC.lmul {a b : Int64} (hdg : decode cc pc = .ok (.lmul, 1)) {Kf : Int64 → Option (ρ × St)} (k : ∀ w : Int64, TC Y Γ cc nL own ret R0 As q (pc + 1) lv (.long w :: rest) X (Kf w)) : TC Y Γ cc nL own ret R0 As q pc lv (.long b :: .long a :: rest) X (letV (a * b) Kf) :=
  TC.lf (F := letV (a * b) Kf) (k (a * b)) (fun p e s m below meth cd ls A H locs Q hf hw hl k => lv_lmul hf.1 hf.2.1 hdg (k ls hl))
theorem TC.land {a b : Int64} (hdg : decode cc pc = .ok (.land, 1)) {Kf : Int64 → Option (ρ × St)} (k : ∀ w : Int64, TC Y Γ cc nL own ret R0 As q (pc + 1) lv (.long w :: rest) X (Kf w)) : TC Y Γ cc nL own ret R0 As q pc lv (.long b :: .long a :: rest) X (letV (a &&& b) Kf) :=
  TC.lf (F := letV (a &&& b) Kf) (k (a &&& b)) (fun p e s m below meth cd ls A H locs Q hf hw hl k => lv_land hf.1 hf.2.1 hdg (k ls hl))
theorem TC.lor {a b : Int64} (hdg : decode cc pc = .ok (.lor, 1)) {Kf : Int64 → Option (ρ × St)} (k : ∀ w : Int64, TC Y Γ cc nL own ret R0 As q (pc + 1) lv (.long w :: rest) X (Kf w)) : TC Y Γ cc nL own ret R0 As q pc lv (.long b :: .long a :: rest) X (letV (a ||| b) Kf) :=
  TC.lf (F := letV (a ||| b) Kf) (k (a ||| b)) (fun p e s m below meth cd ls A H locs Q hf hw hl k => lv_lor hf.1 hf.2.1 hdg (k ls hl))
theorem TC.idiv {a b : Int32} (hdg : decode cc pc = .ok (.idiv, 1)) (hne : ¬ b.toInt = 0) {Kf : Int32 → Option (ρ × St)} (k : ∀ w : Int32, TC Y Γ cc nL own ret R0 As q (pc + 1) lv (.int w :: rest) X (Kf w)) : TC Y Γ cc nL own ret R0 As q pc lv (.int b :: .int a :: rest) X (letV (a / b) Kf) :=
  TC.lf (F := letV (a / b) Kf) (k (a / b)) (fun p e s m below meth cd ls A H locs Q hf hw hl k => lv_idiv hf.1 hf.2.1 hdg (fun e => hne (ti_eq e)) (k ls hl))
theorem TC.irem {a b : Int32} (hdg : decode cc pc = .ok (.irem, 1)) (hne : ¬ b.toInt = 0) {Kf : Int32 → Option (ρ × St)} (k : ∀ w : Int32, TC Y Γ cc nL own ret R0 As q (pc + 1) lv (.int w :: rest) X (Kf w)) : TC Y Γ cc nL own ret R0 As q pc lv (.int b :: .int a :: rest) X (letV (a - a / b * b) Kf) :=
  TC.lf (F := letV (a - a / b * b) Kf) (k (a - a / b * b)) (fun p e s m below meth cd ls A H locs Q hf hw hl k => lv_irem hf.1 hf.2.1 hdg (fun e => hne (ti_eq e)) (k ls hl))
theorem TC.ineg {a : Int32} (hdg : decode cc pc = .ok (.ineg, 1)) {Kf : Int32 → Option (ρ × St)} (k : ∀ w : Int32, TC Y Γ cc nL own ret R0 As q (pc + 1) lv (.int w :: rest) X (Kf w)) : TC Y Γ cc nL own ret R0 As q pc lv (.int a :: rest) X (letV (-a) Kf) :=
  TC.lf (F := letV (-a) Kf) (k (-a)) (fun p e s m below meth cd ls A H locs Q hf hw hl k => lv_ineg hf.1 hf.2.1 hdg (k ls hl))
theorem TC.i2b {a : Int32} (hdg : decode cc pc = .ok (.i2b, 1)) {Kf : Int32 → Option (ρ × St)} (k : ∀ w : Int32, TC Y Γ cc nL own ret R0 As q (pc + 1) lv (.int w :: rest) X (Kf w)) : TC Y Γ cc nL own ret R0 As q pc lv (.int a :: rest) X (letV (a.toInt8.toInt32) Kf) :=
  TC.lf (F := letV (a.toInt8.toInt32) Kf) (k (a.toInt8.toInt32)) (fun p e s m below meth cd ls A H locs Q hf hw hl k => lv_i2b hf.1 hf.2.1 hdg rfl (k ls hl))
theorem TC.i2l {a : Int32} (hdg : decode cc pc = .ok (.i2l, 1)) {Kf : Int64 → Option (ρ × St)} (k : ∀ w : Int64, TC Y Γ cc nL own ret R0 As q (pc + 1) lv (.long w :: rest) X (Kf w)) : TC Y Γ cc nL own ret R0 As q pc lv (.int a :: rest) X (letV (a.toInt64) Kf) :=
  TC.lf (F := letV (a.toInt64) Kf) (k (a.toInt64)) (fun p e s m below meth cd ls A H locs Q hf hw hl k => lv_i2l hf.1 hf.2.1 hdg rfl (k ls hl))
theorem TC.l2i {a : Int64} (hdg : decode cc pc = .ok (.l2i, 1)) {Kf : Int32 → Option (ρ × St)} (k : ∀ w : Int32, TC Y Γ cc nL own ret R0 As q (pc + 1) lv (.int w :: rest) X (Kf w)) : TC Y Γ cc nL own ret R0 As q pc lv (.long a :: rest) X (letV (a.toInt32) Kf) :=
  TC.lf (F := letV (a.toInt32) Kf) (k (a.toInt32)) (fun p e s m below meth cd ls A H locs Q hf hw hl k => lv_l2i hf.1 hf.2.1 hdg rfl (k ls hl))
theorem TC.lcmp {a b : Int64} (hdg : decode cc pc = .ok (.lcmp, 1)) {Kf : Int32 → Option (ρ × St)} (k : ∀ w : Int32, TC Y Γ cc nL own ret R0 As q (pc + 1) lv (.int w :: rest) X (Kf w)) : TC Y Γ cc nL own ret R0 As q pc lv (.long b :: .long a :: rest) X (letV (lg_cmp a b) Kf) :=
  TC.lf (F := letV (lg_cmp a b) Kf) (k (lg_cmp a b)) (fun p e s m below meth cd ls A H locs Q hf hw hl k => W.lcmp hf.1 hf.2.1 hdg (k ls hl))
theorem TC.iinc {i : Nat} {z : Int} {x : Int32} (hdg : decode cc pc = .ok (.iinc i z, 3)) (w : Nat) (hq : lv[w]? = some (i, .int x)) (hn : i < nL) {lvf : Int32 → List (Nat × Value)} (hl1 : ∀ w : Int32, (i, Value.int w) :: lv.filter (fun q => !(q.1 == i) && !(q.1 + 1 == i && q.2.category == 2)) = lvf w) {Kf : Int32 → Option (ρ × St)} (k : ∀ w : Int32, TC Y Γ cc nL own ret R0 As q (pc + 3) (lvf w) rest X (Kf w)) : TC Y Γ cc nL own ret R0 As q pc lv rest X (letV (x + Int32.ofInt z) Kf) :=
  TC.lf (F := letV (x + Int32.ofInt z) Kf) (k (x + Int32.ofInt z)) (fun p e s m below meth c ls A H locs Q hf hw' hl k => lv_iinc hf.1 hf.2.1 hdg hl hq rfl hn (hl1 _) (fun ls1 hl1 => k ls1 hl1))
theorem TC.dup {a : Int32} (hdg : decode cc pc = .ok (.dup, 1)) (k : TC Y Γ cc nL own ret R0 As q (pc + 1) lv (.int a :: .int a :: rest) X F) : TC Y Γ cc nL own ret R0 As q pc lv (.int a :: rest) X F :=
  TC.lf k (fun p e s m below meth cd ls A H locs Q hf hw hl k => lv_dup hf.1 hf.2.1 hdg rfl (k ls hl))
theorem TC.dupr {a : Nat} (hdg : decode cc pc = .ok (.dup, 1)) (k : TC Y Γ cc nL own ret R0 As q (pc + 1) lv (.ref a :: .ref a :: rest) X F) : TC Y Γ cc nL own ret R0 As q pc lv (.ref a :: rest) X F :=
  TC.lf k (fun p e s m below meth cd ls A H locs Q hf hw hl k => lv_dup hf.1 hf.2.1 hdg rfl (k ls hl))
theorem TC.pop {a : Int32} (hdg : decode cc pc = .ok (.pop, 1)) (k : TC Y Γ cc nL own ret R0 As q (pc + 1) lv rest X F) : TC Y Γ cc nL own ret R0 As q pc lv (.int a :: rest) X F :=
  TC.lf k (fun p e s m below meth cd ls A H locs Q hf hw hl k => lv_pop hf.1 hf.2.1 hdg rfl (k ls hl))
theorem TC.dup2 {a : Int32} {b : Nat} (hdg : decode cc pc = .ok (.dup2, 1)) (k : TC Y Γ cc nL own ret R0 As q (pc + 1) lv (.int a :: .ref b :: .int a :: .ref b :: rest) X F) : TC Y Γ cc nL own ret R0 As q pc lv (.int a :: .ref b :: rest) X F :=
  TC.lf k (fun p e s m below meth cd ls A H locs Q hf hw hl k => lv_dup2_11 hf.1 hf.2.1 hdg rfl rfl (k ls hl))
theorem TC.dup_x1 {a : Int32} {b : Nat} (hdg : decode cc pc = .ok (.dup_x1, 1)) (k : TC Y Γ cc nL own ret R0 As q (pc + 1) lv (.int a :: .ref b :: .int a :: rest) X F) : TC Y Γ cc nL own ret R0 As q pc lv (.int a :: .ref b :: rest) X F :=
  TC.lf k (fun p e s m below meth cd ls A H locs Q hf hw hl k => lv_dup_x1 hf.1 hf.2.1 hdg rfl rfl (k ls hl))
theorem TC.goto {off : Int} (hdg : decode cc pc = .ok (.goto off, 3)) (ht : (pc : Int) + off = (pc1 : Int)) (k : TC Y Γ cc nL own ret R0 As q pc1 lv rest X F) : TC Y Γ cc nL own ret R0 As q pc lv rest X F :=
  TC.lf k (fun p e s m below meth cd ls A H locs Q hf hw hl k => lv_goto hf.1 hf.2.1 hdg ht (k ls hl))
theorem TC.lookup {d : Int} {ps : Array (Int × Int)} {len : Nat} {x : Int32} {off : Int} (hdg : decode cc pc = .ok (.lookupswitch d ps, len)) (hp : (ps.toList.zip (ps.toList.drop 1)).all (fun (a, next) => a.1 < next.1) = true) (ho : Op.lookupswitch.offset ps.toList d x.toInt = off) (ht : (pc : Int) + off = (pc1 : Int)) (k : TC Y Γ cc nL own ret R0 As q pc1 lv rest X F) : TC Y Γ cc nL own ret R0 As q pc lv (.int x :: rest) X F :=
  TC.lf k (fun p e s m below meth cd ls A H locs Q hf hw hl k => lv_lookup hf.1 hf.2.1 hdg hp ho ht (k ls hl))
theorem TC.tbl {d lo hi : Int} {offs : Array Int} {len : Nat} {x : Int32} {off : Int} (hdg : decode cc pc = .ok (.tableswitch d lo hi offs, len)) (hl : (hi - lo).toNat + 1 = offs.size) (ho : tblOff d lo hi offs x.toInt = off) (ht : (pc : Int) + off = (pc1 : Int)) (k : TC Y Γ cc nL own ret R0 As q pc1 lv rest X F) : TC Y Γ cc nL own ret R0 As q pc lv (.int x :: rest) X F := by
  by_cases h : x.toInt < lo ∨ hi < x.toInt
  · unfold tblOff at ho
    rw [if_pos h] at ho
    exact TC.lf k (fun p e s m below meth cd ls A H locs Q hf hw hlv k => lv_tableOut hf.1 hf.2.1 hdg h (by rw [ho]; exact ht) (k ls hlv))
  · unfold tblOff at ho
    rw [if_neg h] at ho
    have hb : (x.toInt - lo).toNat < offs.size := by omega
    rw [Array.getElem?_eq_getElem hb] at ho
    have ho2 : offs[(x.toInt - lo).toNat] = off := ho
    exact TC.lf k (fun p e s m below meth cd ls A H locs Q hf hw hlv k => lv_tableIn hf.1 hf.2.1 hdg (fun g => h (Or.inl g)) (fun g => h (Or.inr g)) (by rw [Array.getElem?_eq_getElem hb, ho2]) ht (k ls hlv))
theorem TC.if_eq {x : Int32} {off : Int} (hdg : decode cc pc = .ok (.ifCond .eq off, 3)) (ht : (pc : Int) + off = (pc1 : Int)) (k1 : TC Y Γ cc nL own ret R0 As q pc1 lv rest X F1) (k2 : TC Y Γ cc nL own ret R0 As q (pc + 3) lv rest X F2) : TC Y Γ cc nL own ret R0 As q pc lv (.int x :: rest) X (if x.toInt = 0 then F1 else F2) := by
  by_cases h : x = (0 : Int32)
  · rw [if_pos (show x.toInt = 0 from ti_eq h)]
    exact TC.lf k1 (fun p e s m below meth cd ls A H locs Q hf hw hl k => lv_if_eq hf.1 hf.2.1 hdg ht (fun _ => k ls hl) (fun g => absurd h g))
  · rw [if_neg (show ¬ (x.toInt = 0) from ti_ne h)]
    exact TC.lf k2 (fun p e s m below meth cd ls A H locs Q hf hw hl k => lv_if_eq hf.1 hf.2.1 hdg ht (fun g => absurd g h) (fun _ => k ls hl))
theorem TC.icmp_eq {x y : Int32} {off : Int} (hdg : decode cc pc = .ok (.if_icmp .eq off, 3)) (ht : (pc : Int) + off = (pc1 : Int)) {b : Int} (hb : y.toInt = b) (k1 : TC Y Γ cc nL own ret R0 As q pc1 lv rest X F1) (k2 : TC Y Γ cc nL own ret R0 As q (pc + 3) lv rest X F2) : TC Y Γ cc nL own ret R0 As q pc lv (.int y :: .int x :: rest) X (if x.toInt = b then F1 else F2) := by
  subst hb
  by_cases h : x = y
  · rw [if_pos (show x.toInt = y.toInt from ti_eq h)]
    exact TC.lf k1 (fun p e s m below meth cd ls A H locs Q hf hw hl k => lv_icmp_eq hf.1 hf.2.1 hdg ht (fun _ => k ls hl) (fun g => absurd h g))
  · rw [if_neg (show ¬ (x.toInt = y.toInt) from ti_ne h)]
    exact TC.lf k2 (fun p e s m below meth cd ls A H locs Q hf hw hl k => lv_icmp_eq hf.1 hf.2.1 hdg ht (fun g => absurd g h) (fun _ => k ls hl))
theorem TC.if_ne {x : Int32} {off : Int} (hdg : decode cc pc = .ok (.ifCond .ne off, 3)) (ht : (pc : Int) + off = (pc1 : Int)) (k1 : TC Y Γ cc nL own ret R0 As q pc1 lv rest X F1) (k2 : TC Y Γ cc nL own ret R0 As q (pc + 3) lv rest X F2) : TC Y Γ cc nL own ret R0 As q pc lv (.int x :: rest) X (if x.toInt = 0 then F2 else F1) := by
  by_cases h : x = (0 : Int32)
  · rw [if_pos (show x.toInt = 0 from ti_eq h)]
    exact TC.lf k2 (fun p e s m below meth cd ls A H locs Q hf hw hl k => lv_if_ne hf.1 hf.2.1 hdg ht (fun g => absurd h g) (fun _ => k ls hl))
  · rw [if_neg (show ¬ (x.toInt = 0) from ti_ne h)]
    exact TC.lf k1 (fun p e s m below meth cd ls A H locs Q hf hw hl k => lv_if_ne hf.1 hf.2.1 hdg ht (fun _ => k ls hl) (fun g => absurd g h))
theorem TC.icmp_ne {x y : Int32} {off : Int} (hdg : decode cc pc = .ok (.if_icmp .ne off, 3)) (ht : (pc : Int) + off = (pc1 : Int)) {b : Int} (hb : y.toInt = b) (k1 : TC Y Γ cc nL own ret R0 As q pc1 lv rest X F1) (k2 : TC Y Γ cc nL own ret R0 As q (pc + 3) lv rest X F2) : TC Y Γ cc nL own ret R0 As q pc lv (.int y :: .int x :: rest) X (if x.toInt = b then F2 else F1) := by
  subst hb
  by_cases h : x = y
  · rw [if_pos (show x.toInt = y.toInt from ti_eq h)]
    exact TC.lf k2 (fun p e s m below meth cd ls A H locs Q hf hw hl k => lv_icmp_ne hf.1 hf.2.1 hdg ht (fun g => absurd h g) (fun _ => k ls hl))
  · rw [if_neg (show ¬ (x.toInt = y.toInt) from ti_ne h)]
    exact TC.lf k1 (fun p e s m below meth cd ls A H locs Q hf hw hl k => lv_icmp_ne hf.1 hf.2.1 hdg ht (fun _ => k ls hl) (fun g => absurd g h))
theorem TC.if_lt {x : Int32} {off : Int} (hdg : decode cc pc = .ok (.ifCond .lt off, 3)) (ht : (pc : Int) + off = (pc1 : Int)) (k1 : TC Y Γ cc nL own ret R0 As q pc1 lv rest X F1) (k2 : TC Y Γ cc nL own ret R0 As q (pc + 3) lv rest X F2) : TC Y Γ cc nL own ret R0 As q pc lv (.int x :: rest) X (if x.toInt < 0 then F1 else F2) := by
  by_cases h : x < (0 : Int32)
  · rw [if_pos (show x.toInt < 0 from ti_lt h)]
    exact TC.lf k1 (fun p e s m below meth cd ls A H locs Q hf hw hl k => lv_if_lt hf.1 hf.2.1 hdg ht (fun _ => k ls hl) (fun g => absurd h g))
  · rw [if_neg (show ¬ (x.toInt < 0) from by have g : 0 ≤ x.toInt := ti_nlt h; omega)]
    exact TC.lf k2 (fun p e s m below meth cd ls A H locs Q hf hw hl k => lv_if_lt hf.1 hf.2.1 hdg ht (fun g => absurd g h) (fun _ => k ls hl))
theorem TC.icmp_lt {x y : Int32} {off : Int} (hdg : decode cc pc = .ok (.if_icmp .lt off, 3)) (ht : (pc : Int) + off = (pc1 : Int)) {b : Int} (hb : y.toInt = b) (k1 : TC Y Γ cc nL own ret R0 As q pc1 lv rest X F1) (k2 : TC Y Γ cc nL own ret R0 As q (pc + 3) lv rest X F2) : TC Y Γ cc nL own ret R0 As q pc lv (.int y :: .int x :: rest) X (if x.toInt < b then F1 else F2) := by
  subst hb
  by_cases h : x < y
  · rw [if_pos (show x.toInt < y.toInt from ti_lt h)]
    exact TC.lf k1 (fun p e s m below meth cd ls A H locs Q hf hw hl k => lv_icmp_lt hf.1 hf.2.1 hdg ht (fun _ => k ls hl) (fun g => absurd h g))
  · rw [if_neg (show ¬ (x.toInt < y.toInt) from by have g : y.toInt ≤ x.toInt := ti_nlt h; omega)]
    exact TC.lf k2 (fun p e s m below meth cd ls A H locs Q hf hw hl k => lv_icmp_lt hf.1 hf.2.1 hdg ht (fun g => absurd g h) (fun _ => k ls hl))
theorem TC.if_ge {x : Int32} {off : Int} (hdg : decode cc pc = .ok (.ifCond .ge off, 3)) (ht : (pc : Int) + off = (pc1 : Int)) (k1 : TC Y Γ cc nL own ret R0 As q pc1 lv rest X F1) (k2 : TC Y Γ cc nL own ret R0 As q (pc + 3) lv rest X F2) : TC Y Γ cc nL own ret R0 As q pc lv (.int x :: rest) X (if 0 ≤ x.toInt then F1 else F2) := by
  by_cases h : (0 : Int32) ≤ x
  · rw [if_pos (show 0 ≤ x.toInt from ti_le h)]
    exact TC.lf k1 (fun p e s m below meth cd ls A H locs Q hf hw hl k => lv_if_ge hf.1 hf.2.1 hdg ht (fun _ => k ls hl) (fun g => absurd h g))
  · rw [if_neg (show ¬ (0 ≤ x.toInt) from by have g : x.toInt < 0 := ti_nle h; omega)]
    exact TC.lf k2 (fun p e s m below meth cd ls A H locs Q hf hw hl k => lv_if_ge hf.1 hf.2.1 hdg ht (fun g => absurd g h) (fun _ => k ls hl))
theorem TC.icmp_ge {x y : Int32} {off : Int} (hdg : decode cc pc = .ok (.if_icmp .ge off, 3)) (ht : (pc : Int) + off = (pc1 : Int)) {b : Int} (hb : y.toInt = b) (k1 : TC Y Γ cc nL own ret R0 As q pc1 lv rest X F1) (k2 : TC Y Γ cc nL own ret R0 As q (pc + 3) lv rest X F2) : TC Y Γ cc nL own ret R0 As q pc lv (.int y :: .int x :: rest) X (if b ≤ x.toInt then F1 else F2) := by
  subst hb
  by_cases h : y ≤ x
  · rw [if_pos (show y.toInt ≤ x.toInt from ti_le h)]
    exact TC.lf k1 (fun p e s m below meth cd ls A H locs Q hf hw hl k => lv_icmp_ge hf.1 hf.2.1 hdg ht (fun _ => k ls hl) (fun g => absurd h g))
  · rw [if_neg (show ¬ (y.toInt ≤ x.toInt) from by have g : x.toInt < y.toInt := ti_nle h; omega)]
    exact TC.lf k2 (fun p e s m below meth cd ls A H locs Q hf hw hl k => lv_icmp_ge hf.1 hf.2.1 hdg ht (fun g => absurd g h) (fun _ => k ls hl))
theorem TC.if_gt {x : Int32} {off : Int} (hdg : decode cc pc = .ok (.ifCond .gt off, 3)) (ht : (pc : Int) + off = (pc1 : Int)) (k1 : TC Y Γ cc nL own ret R0 As q pc1 lv rest X F1) (k2 : TC Y Γ cc nL own ret R0 As q (pc + 3) lv rest X F2) : TC Y Γ cc nL own ret R0 As q pc lv (.int x :: rest) X (if 0 < x.toInt then F1 else F2) := by
  by_cases h : (0 : Int32) < x
  · rw [if_pos (show 0 < x.toInt from ti_lt h)]
    exact TC.lf k1 (fun p e s m below meth cd ls A H locs Q hf hw hl k => lv_if_gt hf.1 hf.2.1 hdg ht (fun _ => k ls hl) (fun g => absurd h g))
  · rw [if_neg (show ¬ (0 < x.toInt) from by have g : x.toInt ≤ 0 := ti_nlt h; omega)]
    exact TC.lf k2 (fun p e s m below meth cd ls A H locs Q hf hw hl k => lv_if_gt hf.1 hf.2.1 hdg ht (fun g => absurd g h) (fun _ => k ls hl))
theorem TC.icmp_gt {x y : Int32} {off : Int} (hdg : decode cc pc = .ok (.if_icmp .gt off, 3)) (ht : (pc : Int) + off = (pc1 : Int)) {b : Int} (hb : y.toInt = b) (k1 : TC Y Γ cc nL own ret R0 As q pc1 lv rest X F1) (k2 : TC Y Γ cc nL own ret R0 As q (pc + 3) lv rest X F2) : TC Y Γ cc nL own ret R0 As q pc lv (.int y :: .int x :: rest) X (if b < x.toInt then F1 else F2) := by
  subst hb
  by_cases h : y < x
  · rw [if_pos (show y.toInt < x.toInt from ti_lt h)]
    exact TC.lf k1 (fun p e s m below meth cd ls A H locs Q hf hw hl k => lv_icmp_gt hf.1 hf.2.1 hdg ht (fun _ => k ls hl) (fun g => absurd h g))
  · rw [if_neg (show ¬ (y.toInt < x.toInt) from by have g : x.toInt ≤ y.toInt := ti_nlt h; omega)]
    exact TC.lf k2 (fun p e s m below meth cd ls A H locs Q hf hw hl k => lv_icmp_gt hf.1 hf.2.1 hdg ht (fun g => absurd g h) (fun _ => k ls hl))
theorem TC.if_le {x : Int32} {off : Int} (hdg : decode cc pc = .ok (.ifCond .le off, 3)) (ht : (pc : Int) + off = (pc1 : Int)) (k1 : TC Y Γ cc nL own ret R0 As q pc1 lv rest X F1) (k2 : TC Y Γ cc nL own ret R0 As q (pc + 3) lv rest X F2) : TC Y Γ cc nL own ret R0 As q pc lv (.int x :: rest) X (if x.toInt ≤ 0 then F1 else F2) := by
  by_cases h : x ≤ (0 : Int32)
  · rw [if_pos (show x.toInt ≤ 0 from ti_le h)]
    exact TC.lf k1 (fun p e s m below meth cd ls A H locs Q hf hw hl k => lv_if_le hf.1 hf.2.1 hdg ht (fun _ => k ls hl) (fun g => absurd h g))
  · rw [if_neg (show ¬ (x.toInt ≤ 0) from by have g : 0 < x.toInt := ti_nle h; omega)]
    exact TC.lf k2 (fun p e s m below meth cd ls A H locs Q hf hw hl k => lv_if_le hf.1 hf.2.1 hdg ht (fun g => absurd g h) (fun _ => k ls hl))
theorem TC.icmp_le {x y : Int32} {off : Int} (hdg : decode cc pc = .ok (.if_icmp .le off, 3)) (ht : (pc : Int) + off = (pc1 : Int)) {b : Int} (hb : y.toInt = b) (k1 : TC Y Γ cc nL own ret R0 As q pc1 lv rest X F1) (k2 : TC Y Γ cc nL own ret R0 As q (pc + 3) lv rest X F2) : TC Y Γ cc nL own ret R0 As q pc lv (.int y :: .int x :: rest) X (if x.toInt ≤ b then F1 else F2) := by
  subst hb
  by_cases h : x ≤ y
  · rw [if_pos (show x.toInt ≤ y.toInt from ti_le h)]
    exact TC.lf k1 (fun p e s m below meth cd ls A H locs Q hf hw hl k => lv_icmp_le hf.1 hf.2.1 hdg ht (fun _ => k ls hl) (fun g => absurd h g))
  · rw [if_neg (show ¬ (x.toInt ≤ y.toInt) from by have g : y.toInt < x.toInt := ti_nle h; omega)]
    exact TC.lf k2 (fun p e s m below meth cd ls A H locs Q hf hw hl k => lv_icmp_le hf.1 hf.2.1 hdg ht (fun g => absurd g h) (fun _ => k ls hl))
theorem TC.getI {C : String} {TT : u_T} {N ci : Nat} (e : Nat) (hE : isO Y e ci N) (hcl : classes[ci]? = some (C, TT, N)) (hin : ∀ w ∈ u_ws C TT N, w ∈ gtb) (k : Nat) (hk : k < N) (hkd : kY Y e k = 0) (hlink : (Cond.fieldLink own index (TT k).1 (TT k).2.1 (TT k).2.2.1) ∈ gtb) (hdg : decode cc pc = .ok (.getfield index, 3)) {Kf : Int32 → Option (ρ × St)} (kk : ∀ w : Int32, TC Y Γ cc nL own ret R0 As q (pc + 3) lv (.int w :: rest) X (Kf w)) : TC Y Γ cc nL own ret R0 As q pc lv (.ref (Γ.2.2.2.1 e) :: rest) X (letV (X.1 e k) Kf) :=
  TC.lf (F := letV (X.1 e k) Kf) (kk (X.1 e k)) (fun p e0 s m below meth cd ls A H locs Q hf hw hl kk => mget hf hw.1 hin e (GW_o hE) hcl k hk hlink (fs_get hk) hdg (by rw [show fvE _ X e k (kY Y e k) = .int (X.1 e k) from by rw [hkd]; rfl]; exact kk ls hl))
theorem TC.getL {C : String} {TT : u_T} {N ci : Nat} (e : Nat) (hE : isO Y e ci N) (hcl : classes[ci]? = some (C, TT, N)) (hin : ∀ w ∈ u_ws C TT N, w ∈ gtb) (k : Nat) (hk : k < N) (hkd : kY Y e k = 1) (hlink : (Cond.fieldLink own index (TT k).1 (TT k).2.1 (TT k).2.2.1) ∈ gtb) (hdg : decode cc pc = .ok (.getfield index, 3)) {Kf : Int64 → Option (ρ × St)} (kk : ∀ w : Int64, TC Y Γ cc nL own ret R0 As q (pc + 3) lv (.long w :: rest) X (Kf w)) : TC Y Γ cc nL own ret R0 As q pc lv (.ref (Γ.2.2.2.1 e) :: rest) X (letV (X.2.1 e k) Kf) :=
  TC.lf (F := letV (X.2.1 e k) Kf) (kk (X.2.1 e k)) (fun p e0 s m below meth cd ls A H locs Q hf hw hl kk => mget hf hw.1 hin e (GW_o hE) hcl k hk hlink (fs_get hk) hdg (by rw [show fvE _ X e k (kY Y e k) = .long (X.2.1 e k) from by rw [hkd]; rfl]; exact kk ls hl))
theorem TC.getC {C : String} {TT : u_T} {N ci : Nat} (e : Nat) (hE : isO Y e ci N) (hcl : classes[ci]? = some (C, TT, N)) (hin : ∀ w ∈ u_ws C TT N, w ∈ gtb) (k : Nat) (hk : k < N) {c : Nat} (hkd : kY Y e k = c + 3) (hlink : (Cond.fieldLink own index (TT k).1 (TT k).2.1 (TT k).2.2.1) ∈ gtb) (hdg : decode cc pc = .ok (.getfield index, 3)) (kk : TC Y Γ cc nL own ret R0 As q (pc + 3) lv (.ref (Γ.2.2.2.1 c) :: rest) X F) : TC Y Γ cc nL own ret R0 As q pc lv (.ref (Γ.2.2.2.1 e) :: rest) X F :=
  TC.lf kk (fun p e0 s m below meth cd ls A H locs Q hf hw hl kk => mget hf hw.1 hin e (GW_o hE) hcl k hk hlink (fs_get hk) hdg (by rw [show fvE _ X e k (kY Y e k) = .ref (Γ.2.2.2.1 c) from by rw [hkd]; rfl]; exact kk ls hl))
theorem TC.getCv {C : String} {TT : u_T} {N ci : Nat} (e : Nat) (hE : isO Y e ci N) (hcl : classes[ci]? = some (C, TT, N)) (hin : ∀ w ∈ u_ws C TT N, w ∈ gtb) (k : Nat) (hk : k < N) (hkd : 3 ≤ kY Y e k) (hlink : (Cond.fieldLink own index (TT k).1 (TT k).2.1 (TT k).2.2.1) ∈ gtb) (hdg : decode cc pc = .ok (.getfield index, 3)) {Kf : Nat → Option (ρ × St)} (kk : ∀ c : Nat, c = kY Y e k - 3 → TC Y Γ cc nL own ret R0 As q (pc + 3) lv (.ref (Γ.2.2.2.1 c) :: rest) X (Kf c)) : TC Y Γ cc nL own ret R0 As q pc lv (.ref (Γ.2.2.2.1 e) :: rest) X (letV (kY Y e k - 3) Kf) :=
  TC.getC (F := letV (kY Y e k - 3) Kf) e hE hcl hin k hk (c := kY Y e k - 3) (by omega) hlink hdg (kk _ rfl)
theorem TC.getR {C : String} {TT : u_T} {N ci : Nat} (e : Nat) (hE : isO Y e ci N) (hcl : classes[ci]? = some (C, TT, N)) (hin : ∀ w ∈ u_ws C TT N, w ∈ gtb) (k : Nat) (hk : k < N) (hkd : kY Y e k = 2) (hlink : (Cond.fieldLink own index (TT k).1 (TT k).2.1 (TT k).2.2.1) ∈ gtb) (hdg : decode cc pc = .ok (.getfield index, 3)) {Kf : Nat → Option (ρ × St)} (kk : ∀ r : Nat, TC Y Γ cc nL own ret R0 As q (pc + 3) lv (.ref (Γ.2.2.2.1 r) :: rest) X (Kf r)) : TC Y Γ cc nL own ret R0 As q pc lv (.ref (Γ.2.2.2.1 e) :: rest) X (chk (¬ X.2.2 e k = 0) (letV (X.2.2 e k - 1) Kf)) :=
  TC.ck (fun hn => TC.lf (F := letV (X.2.2 e k - 1) Kf) (kk (X.2.2 e k - 1)) (fun p e0 s m below meth cd ls A H locs Q hf hw hl kk => mget hf hw.1 hin e (GW_o hE) hcl k hk hlink (fs_get hk) hdg (by rw [show fvE _ X e k (kY Y e k) = .ref (Γ.2.2.2.1 (X.2.2 e k - 1)) from by rw [hkd]; exact if_neg hn]; exact kk ls hl)))
theorem TC.putI {w : Int32} {C : String} {TT : u_T} {N ci : Nat} (e : Nat) (hE : isO Y e ci N) (hcl : classes[ci]? = some (C, TT, N)) (hin : ∀ w ∈ u_ws C TT N, w ∈ gtb) (k : Nat) (hk : k < N) (hkd : kY Y e k = 0) (hlink : (Cond.fieldLink own index (TT k).1 (TT k).2.1 (TT k).2.2.1) ∈ gtb) (ty0 : Nat → FieldType) (hty : ∀ k, k < N → parseFieldDescriptor (TT k).2.2.1 = some (ty0 k)) (hnm : ∀ a, a < N → ∀ b, b < N → a ≠ b → (TT a).2.1 ≠ (TT b).2.1) (hfin : (TT k).2.2.2 = false) (hn : narrow (ty0 k) (.int w) = .int w) (hfit : fits (ty0 k) (.int w) = true) (hdg : decode cc pc = .ok (.putfield index, 3)) {Kf : St → Option (ρ × St)} (kk : ∀ X1 : St, TC Y Γ cc nL own ret R0 As q (pc + 3) lv rest X1 (Kf X1)) : TC Y Γ cc nL own ret R0 As q pc lv (.int w :: .ref (Γ.2.2.2.1 e) :: rest) X (letV (wI X e k w) Kf) :=
  TC.lift (X1 := wI X e k w) (F := letV (wI X e k w) Kf) (kk (wI X e k w)) (fun p e0 s m below meth cd ls A H locs Q hf hw hl kk => mput hf hw.1 hin ty0 hty hnm e (GW_o hE) hcl k hk hlink hfin hn hfit (by simpa using hk) (GW_so hE (show fvE _ (wI X e k w) e k (kY Y e k) = .int w from by rw [hkd]; exact congrArg Value.int ((congrFun (uA_at X.1 e (upd (X.1 e) k w)) k).trans (if_pos rfl))) (fun j hj => uA_ne _ _ _ hj) (fun _ _ => rfl) (fun _ _ => rfl) (fun j hj => by show uA X.1 e _ e j = _; rw [uA_at]; exact if_neg hj) (fun _ _ => rfl) (fun _ _ => rfl)) hdg (fun H1 locs1 hw1 => kk ls H1 locs1 ⟨hw1, hw.2⟩ hl))
theorem TC.putL {w : Int64} {C : String} {TT : u_T} {N ci : Nat} (e : Nat) (hE : isO Y e ci N) (hcl : classes[ci]? = some (C, TT, N)) (hin : ∀ w ∈ u_ws C TT N, w ∈ gtb) (k : Nat) (hk : k < N) (hkd : kY Y e k = 1) (hlink : (Cond.fieldLink own index (TT k).1 (TT k).2.1 (TT k).2.2.1) ∈ gtb) (ty0 : Nat → FieldType) (hty : ∀ k, k < N → parseFieldDescriptor (TT k).2.2.1 = some (ty0 k)) (hnm : ∀ a, a < N → ∀ b, b < N → a ≠ b → (TT a).2.1 ≠ (TT b).2.1) (hfin : (TT k).2.2.2 = false) (hn : narrow (ty0 k) (.long w) = .long w) (hfit : fits (ty0 k) (.long w) = true) (hdg : decode cc pc = .ok (.putfield index, 3)) {Kf : St → Option (ρ × St)} (kk : ∀ X1 : St, TC Y Γ cc nL own ret R0 As q (pc + 3) lv rest X1 (Kf X1)) : TC Y Γ cc nL own ret R0 As q pc lv (.long w :: .ref (Γ.2.2.2.1 e) :: rest) X (letV (wL X e k w) Kf) :=
  TC.lift (X1 := wL X e k w) (F := letV (wL X e k w) Kf) (kk (wL X e k w)) (fun p e0 s m below meth cd ls A H locs Q hf hw hl kk => mput hf hw.1 hin ty0 hty hnm e (GW_o hE) hcl k hk hlink hfin hn hfit (by simpa using hk) (GW_so hE (show fvE _ (wL X e k w) e k (kY Y e k) = .long w from by rw [hkd]; exact congrArg Value.long ((congrFun (uA_at X.2.1 e (vp_updL (X.2.1 e) k w)) k).trans (if_pos rfl))) (fun _ _ => rfl) (fun j hj => uA_ne _ _ _ hj) (fun _ _ => rfl) (fun _ _ => rfl) (fun j hj => by show uA X.2.1 e _ e j = _; rw [uA_at]; exact if_neg hj) (fun _ _ => rfl)) hdg (fun H1 locs1 hw1 => kk ls H1 locs1 ⟨hw1, hw.2⟩ hl))
theorem TC.putR {w : Nat} {C : String} {TT : u_T} {N ci : Nat} (e : Nat) (hE : isO Y e ci N) (hcl : classes[ci]? = some (C, TT, N)) (hin : ∀ w ∈ u_ws C TT N, w ∈ gtb) (k : Nat) (hk : k < N) (hkd : kY Y e k = 2) (hlink : (Cond.fieldLink own index (TT k).1 (TT k).2.1 (TT k).2.2.1) ∈ gtb) (ty0 : Nat → FieldType) (hty : ∀ k, k < N → parseFieldDescriptor (TT k).2.2.1 = some (ty0 k)) (hnm : ∀ a, a < N → ∀ b, b < N → a ≠ b → (TT a).2.1 ≠ (TT b).2.1) (hfin : (TT k).2.2.2 = false) (hn : narrow (ty0 k) (.ref (Γ.2.2.2.1 w)) = .ref (Γ.2.2.2.1 w)) (hfit : fits (ty0 k) (.ref (Γ.2.2.2.1 w)) = true) (hdg : decode cc pc = .ok (.putfield index, 3)) {Kf : St → Option (ρ × St)} (kk : ∀ X1 : St, TC Y Γ cc nL own ret R0 As q (pc + 3) lv rest X1 (Kf X1)) : TC Y Γ cc nL own ret R0 As q pc lv (.ref (Γ.2.2.2.1 w) :: .ref (Γ.2.2.2.1 e) :: rest) X (letV (wR X e k (w + 1)) Kf) :=
  TC.lift (X1 := wR X e k (w + 1)) (F := letV (wR X e k (w + 1)) Kf) (kk (wR X e k (w + 1))) (fun p e0 s m below meth cd ls A H locs Q hf hw hl kk => mput hf hw.1 hin ty0 hty hnm e (GW_o hE) hcl k hk hlink hfin hn hfit (by simpa using hk) (GW_so hE (show fvE Γ.2.2.2.1 (wR X e k (w + 1)) e k (kY Y e k) = .ref (Γ.2.2.2.1 w) from by rw [hkd]; have h0 : (wR X e k (w + 1)).2.2 e k = w + 1 := (congrFun (uA_at X.2.2 e (fun j => if j = k then w + 1 else X.2.2 e j)) k).trans (if_pos rfl); show (if (wR X e k (w + 1)).2.2 e k = 0 then Value.null else .ref (Γ.2.2.2.1 ((wR X e k (w + 1)).2.2 e k - 1))) = _; rw [h0]; rfl) (fun _ _ => rfl) (fun _ _ => rfl) (fun j hj => uA_ne _ _ _ hj) (fun _ _ => rfl) (fun _ _ => rfl) (fun j hj => by show uA X.2.2 e _ e j = _; rw [uA_at]; exact if_neg hj)) hdg (fun H1 locs1 hw1 => kk ls H1 locs1 ⟨hw1, hw.2⟩ hl))
theorem TC.iald {z : Nat} (e : Nat) (hA : isA Y e 1 z .int) {x : Int32} (hdg : decode cc pc = .ok (.iaload, 1)) {Kf : Int32 → Option (ρ × St)} (kk : ∀ w : Int32, TC Y Γ cc nL own ret R0 As q (pc + 1) lv (.int w :: rest) X (Kf w)) : TC Y Γ cc nL own ret R0 As q pc lv (.int x :: .ref (Γ.2.2.2.1 e) :: rest) X (chk (inR x z) (letV (X.1 e (ix x)) Kf)) := by
  obtain ⟨t0, ht0⟩ := GT_a (t := 0) (cA := Γ.2.2.2.2.1) hA (by decide)
  exact TC.ck (fun hx => TC.lf (F := letV (X.1 e (ix x)) Kf) (kk (X.1 e (ix x))) (fun p e0 s m below meth cd ls A H locs Q hf hw hl kk => miald hf hw.1 e t0 (GW_a hA) ht0 (ti_in hx.1 hx.2) hdg (kk ls hl)))
theorem TC.bald {z : Nat} (e : Nat) (hA : isA Y e 1 z .byte) {x : Int32} (hdg : decode cc pc = .ok (.baload, 1)) {Kf : Int32 → Option (ρ × St)} (kk : ∀ w : Int32, TC Y Γ cc nL own ret R0 As q (pc + 1) lv (.int w :: rest) X (Kf w)) : TC Y Γ cc nL own ret R0 As q pc lv (.int x :: .ref (Γ.2.2.2.1 e) :: rest) X (chk (inR x z) (letV (X.1 e (ix x)) Kf)) := by
  obtain ⟨t0, ht0⟩ := GT_a (t := 0) (cA := Γ.2.2.2.2.1) hA (by decide)
  exact TC.ck (fun hx => TC.lf (F := letV (X.1 e (ix x)) Kf) (kk (X.1 e (ix x))) (fun p e0 s m below meth cd ls A H locs Q hf hw hl kk => mbald hf hw.1 e t0 (GW_a hA) ht0 (ti_in hx.1 hx.2) hdg (kk ls hl)))
theorem TC.zald {z : Nat} (e : Nat) (hA : isA Y e 1 z .boolean) {x : Int32} (hdg : decode cc pc = .ok (.baload, 1)) {Kf : Int32 → Option (ρ × St)} (kk : ∀ w : Int32, TC Y Γ cc nL own ret R0 As q (pc + 1) lv (.int w :: rest) X (Kf w)) : TC Y Γ cc nL own ret R0 As q pc lv (.int x :: .ref (Γ.2.2.2.1 e) :: rest) X (chk (inR x z) (letV (X.1 e (ix x)) Kf)) := by
  obtain ⟨t0, ht0⟩ := GT_a (t := 0) (cA := Γ.2.2.2.2.1) hA (by decide)
  exact TC.ck (fun hx => TC.lf (F := letV (X.1 e (ix x)) Kf) (kk (X.1 e (ix x))) (fun p e0 s m below meth cd ls A H locs Q hf hw hl kk => mzald hf hw.1 e t0 (GW_a hA) ht0 (ti_in hx.1 hx.2) hdg (kk ls hl)))
theorem TC.lald {z : Nat} (e : Nat) (hA : isA Y e 2 z .long) {x : Int32} (hdg : decode cc pc = .ok (.laload, 1)) {Kf : Int64 → Option (ρ × St)} (kk : ∀ w : Int64, TC Y Γ cc nL own ret R0 As q (pc + 1) lv (.long w :: rest) X (Kf w)) : TC Y Γ cc nL own ret R0 As q pc lv (.int x :: .ref (Γ.2.2.2.1 e) :: rest) X (chk (inR x z) (letV (X.2.1 e (ix x)) Kf)) := by
  obtain ⟨t0, ht0⟩ := GT_a (t := 1) (cA := Γ.2.2.2.2.1) hA (by decide)
  exact TC.ck (fun hx => TC.lf (F := letV (X.2.1 e (ix x)) Kf) (kk (X.2.1 e (ix x))) (fun p e0 s m below meth cd ls A H locs Q hf hw hl kk => mlald hf hw.1 e t0 (GW_b hA) ht0 (ti_in hx.1 hx.2) hdg (kk ls hl)))
theorem TC.iast {z : Nat} (e : Nat) (hA : isA Y e 1 z .int) {x : Int32} {w : Int32} (hdg : decode cc pc = .ok (.iastore, 1)) {Kf : St → Option (ρ × St)} (kk : ∀ X1 : St, TC Y Γ cc nL own ret R0 As q (pc + 1) lv rest X1 (Kf X1)) : TC Y Γ cc nL own ret R0 As q pc lv (.int w :: .int x :: .ref (Γ.2.2.2.1 e) :: rest) X (chk (inR x z) (letV (wI X e (ix x) w) Kf)) := by
  obtain ⟨t0, ht0⟩ := GT_a (t := 0) (cA := Γ.2.2.2.2.1) hA (by decide)
  exact TC.ck (fun hx => TC.lift (X1 := wI X e (ix x) w) (F := letV (wI X e (ix x) w) Kf) (kk (wI X e (ix x) w)) (fun p e0 s m below meth cd ls A H locs Q hf hw hl kk => miast hf hw.1 e t0 (GW_a hA) ht0 (ti_in hx.1 hx.2) hdg (fun f1 e1 H1 locs1 hw1 => kk ls H1 locs1 ⟨(by have h := hw1; rw [e1] at h; rw [show (GW Y Γ.2.2.2.1 Γ.2.2.2.2.1 X).set e _ = GW Y Γ.2.2.2.1 Γ.2.2.2.2.1 (wI X e (ix x) w) from GW_set (by obtain ⟨q1, q2, q3⟩ := hA; unfold entE; rw [if_neg (by rw [q1]; decide), if_pos q1, q2]; show Sum.inl (_, _, Sum.inl (uA X.1 e _ e)) = _; rw [uA_at]; rfl) (fun j hj => uA_ne _ _ _ hj) (fun _ _ => rfl) (fun _ _ => rfl)] at h; exact h), hw.2⟩ hl)))
theorem TC.bast {z : Nat} (e : Nat) (hA : isA Y e 1 z .byte) {x : Int32} {w : Int32} (hdg : decode cc pc = .ok (.bastore, 1)) {Kf : St → Option (ρ × St)} (kk : ∀ X1 : St, TC Y Γ cc nL own ret R0 As q (pc + 1) lv rest X1 (Kf X1)) : TC Y Γ cc nL own ret R0 As q pc lv (.int w :: .int x :: .ref (Γ.2.2.2.1 e) :: rest) X (chk (inR x z) (letV (wI X e (ix x) (vp_nar .byte w)) Kf)) := by
  obtain ⟨t0, ht0⟩ := GT_a (t := 0) (cA := Γ.2.2.2.2.1) hA (by decide)
  exact TC.ck (fun hx => TC.lift (X1 := wI X e (ix x) (vp_nar .byte w)) (F := letV (wI X e (ix x) (vp_nar .byte w)) Kf) (kk (wI X e (ix x) (vp_nar .byte w))) (fun p e0 s m below meth cd ls A H locs Q hf hw hl kk => mbast hf hw.1 e t0 (GW_a hA) ht0 (ti_in hx.1 hx.2) hdg (fun f1 e1 H1 locs1 hw1 => kk ls H1 locs1 ⟨(by have h := hw1; rw [e1] at h; rw [show (GW Y Γ.2.2.2.1 Γ.2.2.2.2.1 X).set e _ = GW Y Γ.2.2.2.1 Γ.2.2.2.2.1 (wI X e (ix x) (vp_nar .byte w)) from GW_set (by obtain ⟨q1, q2, q3⟩ := hA; unfold entE; rw [if_neg (by rw [q1]; decide), if_pos q1, q2]; show Sum.inl (_, _, Sum.inl (uA X.1 e _ e)) = _; rw [uA_at]; rfl) (fun j hj => uA_ne _ _ _ hj) (fun _ _ => rfl) (fun _ _ => rfl)] at h; exact h), hw.2⟩ hl)))
theorem TC.zast {z : Nat} (e : Nat) (hA : isA Y e 1 z .boolean) {x : Int32} {w : Int32} (hdg : decode cc pc = .ok (.bastore, 1)) {Kf : St → Option (ρ × St)} (kk : ∀ X1 : St, TC Y Γ cc nL own ret R0 As q (pc + 1) lv rest X1 (Kf X1)) : TC Y Γ cc nL own ret R0 As q pc lv (.int w :: .int x :: .ref (Γ.2.2.2.1 e) :: rest) X (chk (inR x z) (letV (wI X e (ix x) (vp_nar .boolean w)) Kf)) := by
  obtain ⟨t0, ht0⟩ := GT_a (t := 0) (cA := Γ.2.2.2.2.1) hA (by decide)
  exact TC.ck (fun hx => TC.lift (X1 := wI X e (ix x) (vp_nar .boolean w)) (F := letV (wI X e (ix x) (vp_nar .boolean w)) Kf) (kk (wI X e (ix x) (vp_nar .boolean w))) (fun p e0 s m below meth cd ls A H locs Q hf hw hl kk => mzast hf hw.1 e t0 (GW_a hA) ht0 (ti_in hx.1 hx.2) hdg (fun f1 e1 H1 locs1 hw1 => kk ls H1 locs1 ⟨(by have h := hw1; rw [e1] at h; rw [show (GW Y Γ.2.2.2.1 Γ.2.2.2.2.1 X).set e _ = GW Y Γ.2.2.2.1 Γ.2.2.2.2.1 (wI X e (ix x) (vp_nar .boolean w)) from GW_set (by obtain ⟨q1, q2, q3⟩ := hA; unfold entE; rw [if_neg (by rw [q1]; decide), if_pos q1, q2]; show Sum.inl (_, _, Sum.inl (uA X.1 e _ e)) = _; rw [uA_at]; rfl) (fun j hj => uA_ne _ _ _ hj) (fun _ _ => rfl) (fun _ _ => rfl)] at h; exact h), hw.2⟩ hl)))
theorem TC.last {z : Nat} (e : Nat) (hA : isA Y e 2 z .long) {x : Int32} {w : Int64} (hdg : decode cc pc = .ok (.lastore, 1)) {Kf : St → Option (ρ × St)} (kk : ∀ X1 : St, TC Y Γ cc nL own ret R0 As q (pc + 1) lv rest X1 (Kf X1)) : TC Y Γ cc nL own ret R0 As q pc lv (.long w :: .int x :: .ref (Γ.2.2.2.1 e) :: rest) X (chk (inR x z) (letV (wL X e (ix x) w) Kf)) := by
  obtain ⟨t0, ht0⟩ := GT_a (t := 1) (cA := Γ.2.2.2.2.1) hA (by decide)
  exact TC.ck (fun hx => TC.lift (X1 := wL X e (ix x) w) (F := letV (wL X e (ix x) w) Kf) (kk (wL X e (ix x) w)) (fun p e0 s m below meth cd ls A H locs Q hf hw hl kk => mlast hf hw.1 e t0 (GW_b hA) ht0 (ti_in hx.1 hx.2) hdg (fun f1 e1 H1 locs1 hw1 => kk ls H1 locs1 ⟨(by have h := hw1; rw [e1] at h; rw [show (GW Y Γ.2.2.2.1 Γ.2.2.2.2.1 X).set e _ = GW Y Γ.2.2.2.1 Γ.2.2.2.2.1 (wL X e (ix x) w) from GW_set (by obtain ⟨q1, q2, q3⟩ := hA; unfold entE; rw [if_neg (by rw [q1]; decide), if_neg (by rw [q1]; decide), q2]; show Sum.inl (_, _, Sum.inr (Sum.inl (uA X.2.1 e _ e))) = _; rw [uA_at]; rfl) (fun _ _ => rfl) (fun j hj => uA_ne _ _ _ hj) (fun _ _ => rfl)] at h; exact h), hw.2⟩ hl)))
theorem TC.alen {t z : Nat} {ft : FieldType} (e : Nat) (hA : isA Y e t z ft) (ht : t = 1 ∨ t = 2) {v : Int32} (hv : Int32.ofNat z = v) (hdg : decode cc pc = .ok (.arraylength, 1)) (kk : TC Y Γ cc nL own ret R0 As q (pc + 1) lv (.int v :: rest) X F) : TC Y Γ cc nL own ret R0 As q pc lv (.ref (Γ.2.2.2.1 e) :: rest) X F := by
  rcases ht with rfl | rfl
  · obtain ⟨t0, ht0⟩ := GT_a (t := 0) (cA := Γ.2.2.2.2.1) hA (by decide)
    exact TC.lf kk (fun p e0 s m below meth cd ls A H locs Q hf hw hl kk => malen hf hw.1 e t0 (GW_a hA) ht0 hv hdg (kk ls hl))
  · obtain ⟨t0, ht0⟩ := GT_a (t := 1) (cA := Γ.2.2.2.2.1) hA (by decide)
    exact TC.lf kk (fun p e0 s m below meth cd ls A H locs Q hf hw hl kk => malen hf hw.1 e t0 (GW_b hA) ht0 hv hdg (kk ls hl))
theorem TC.callV_i (eo : Nat) {G : Option (Int32 × St)} (hM : TCI Y Γ y cc1 nL1 own1 ret1 R1 (.ref (Γ.2.2.2.1 eo) :: As1) X G) (hk : KA y cc1 nL1 ret1 n) (hv : KV y) {TT : u_T} {N ci : Nat} (hE : isO Y eo ci N) (hcl : classes[ci]? = some (y.cls, TT, N)) (hlink : Cond.methodLink own index y ∈ gtb) (hst : st0 = As1.reverse ++ .ref (Γ.2.2.2.1 eo) :: rest) (hn : As1.length = n) (hrc : R1.cells = 0) (hrs : R1.slots = 0) (hR : R1.frames + 1 ≤ R0.frames ∧ 8 + (nL1 + 11) + R1.locals ≤ R0.locals) (hcat : (rest.map fun v => v.category).sum ≤ 8) (hdg : decode cc pc = .ok (.invokevirtual index, 3)) {Kf : Int32 → St → Option (ρ × St)} (kk : ∀ (r : Int32) (X1 : St), TC Y Γ cc nL own ret R0 As q (pc + 3) lv (.int r :: rest) X1 (Kf r X1)) : TC Y Γ cc nL own ret R0 As q pc lv st0 X (bnd G Kf) := by
  intro r X' hF p e s m below meth c ls A H locs hf hret hlk hw hl
  match G, hM, hF with
  | none, _, hF => exact nomatch hF
  | some (r1, X1), hM, hF =>
    refine cmV_i hw.2 (wr := []) (tr := []) hf hw.1 (hM r1 X1 rfl H.size) hk hv eo (GW_o hE) hcl hlink (List.range (GW Y Γ.2.2.2.1 Γ.2.2.2.2.1 X).length) (List.range (GT Y Γ.2.2.2.2.1).length) [] [] (MW_all rfl) (va_nd_range _) (MT_all rfl) rfl rfl (fun _ h => absurd h List.not_mem_nil) rfl hst hn hl.1 hrc hrs hR hcat rfl rfl ⟨Nat.zero_le _, Nat.zero_le _⟩ hdg (fun r' x hx H1 locs1 hw1 => ?_)
    obtain ⟨hr1, hx⟩ := hx
    subst hr1
    subst hx
    exact kk _ _ r X' hF p e s m below meth c ls A H1 locs1 hf hret hlk ⟨hw1, hw.2⟩ hl
theorem TC.callVN_i {host : String} (eo : Nat) {G : Option (Int32 × St)} (hM : TCI Y Γ y cc1 nL1 own1 ret1 R1 (.ref (Γ.2.2.2.1 eo) :: As1) X G) (hk : KA y cc1 nL1 ret1 n) (hv : KV y) {TT : u_T} {N ci : Nat} (hE : isO Y eo ci N) (hcl : classes[ci]? = some (y.cls, TT, N)) (hlink : Cond.methodLinkNest own index y host ∈ lw_tbl) (hst : st0 = As1.reverse ++ .ref (Γ.2.2.2.1 eo) :: rest) (hn : As1.length = n) (hrc : R1.cells = 0) (hrs : R1.slots = 0) (hR : R1.frames + 1 ≤ R0.frames ∧ 8 + (nL1 + 11) + R1.locals ≤ R0.locals) (hcat : (rest.map fun v => v.category).sum ≤ 8) (hdg : decode cc pc = .ok (.invokevirtual index, 3)) {Kf : Int32 → St → Option (ρ × St)} (kk : ∀ (r : Int32) (X1 : St), TC Y Γ cc nL own ret R0 As q (pc + 3) lv (.int r :: rest) X1 (Kf r X1)) : TC Y Γ cc nL own ret R0 As q pc lv st0 X (bnd G Kf) := by
  intro r X' hF p e s m below meth c ls A H locs hf hret hlk hw hl
  match G, hM, hF with
  | none, _, hF => exact nomatch hF
  | some (r1, X1), hM, hF =>
    refine cmVN_i hw.2 (wr := []) (tr := []) hf hw.1 (hM r1 X1 rfl H.size) hk hv eo (GW_o hE) hcl hlink (List.range (GW Y Γ.2.2.2.1 Γ.2.2.2.2.1 X).length) (List.range (GT Y Γ.2.2.2.2.1).length) [] [] (MW_all rfl) (va_nd_range _) (MT_all rfl) rfl rfl (fun _ h => absurd h List.not_mem_nil) rfl hst hn hl.1 hrc hrs hR hcat rfl rfl ⟨Nat.zero_le _, Nat.zero_le _⟩ hdg (fun r' x hx H1 locs1 hw1 => ?_)
    obtain ⟨hr1, hx⟩ := hx
    subst hr1
    subst hx
    exact kk _ _ r X' hF p e s m below meth c ls A H1 locs1 hf hret hlk ⟨hw1, hw.2⟩ hl
theorem TC.callS_i {G : Option (Int32 × St)} (hM : TCI Y Γ y cc1 nL1 own1 ret1 R1 As1 X G) (hk : KA y cc1 nL1 ret1 n) (hv : Cond.static y ∈ gtb) (hlink : Cond.methodLink own index y ∈ gtb) (hst : st0 = As1.reverse ++ rest) (hn : As1.length = n) (hrc : R1.cells = 0) (hrs : R1.slots = 0) (hR : R1.frames + 1 ≤ R0.frames ∧ 8 + (nL1 + 11) + R1.locals ≤ R0.locals) (hcat : (rest.map fun v => v.category).sum ≤ 8) (hdg : decode cc pc = .ok (.invokestatic index, 3)) {Kf : Int32 → St → Option (ρ × St)} (kk : ∀ (r : Int32) (X1 : St), TC Y Γ cc nL own ret R0 As q (pc + 3) lv (.int r :: rest) X1 (Kf r X1)) : TC Y Γ cc nL own ret R0 As q pc lv st0 X (bnd G Kf) := by
  intro r X' hF p e s m below meth c ls A H locs hf hret hlk hw hl
  match G, hM, hF with
  | none, _, hF => exact nomatch hF
  | some (r1, X1), hM, hF =>
    refine cmS_i hw.2 (wr := []) (tr := []) hf hw.1 (hM r1 X1 rfl H.size) hk hv hlink (List.range (GW Y Γ.2.2.2.1 Γ.2.2.2.2.1 X).length) (List.range (GT Y Γ.2.2.2.2.1).length) [] [] (MW_all rfl) (va_nd_range _) (MT_all rfl) rfl rfl (fun _ h => absurd h List.not_mem_nil) rfl hst hn hl.1 hrc hrs hR hcat rfl rfl ⟨Nat.zero_le _, Nat.zero_le _⟩ hdg (fun r' x hx H1 locs1 hw1 => ?_)
    obtain ⟨hr1, hx⟩ := hx
    subst hr1
    subst hx
    exact kk _ _ r X' hF p e s m below meth c ls A H1 locs1 hf hret hlk ⟨hw1, hw.2⟩ hl
theorem TC.callSN_i {host : String} {G : Option (Int32 × St)} (hM : TCI Y Γ y cc1 nL1 own1 ret1 R1 As1 X G) (hk : KA y cc1 nL1 ret1 n) (hv : Cond.static y ∈ gtb) (hlink : Cond.methodLinkNest own index y host ∈ lw_tbl) (hst : st0 = As1.reverse ++ rest) (hn : As1.length = n) (hrc : R1.cells = 0) (hrs : R1.slots = 0) (hR : R1.frames + 1 ≤ R0.frames ∧ 8 + (nL1 + 11) + R1.locals ≤ R0.locals) (hcat : (rest.map fun v => v.category).sum ≤ 8) (hdg : decode cc pc = .ok (.invokestatic index, 3)) {Kf : Int32 → St → Option (ρ × St)} (kk : ∀ (r : Int32) (X1 : St), TC Y Γ cc nL own ret R0 As q (pc + 3) lv (.int r :: rest) X1 (Kf r X1)) : TC Y Γ cc nL own ret R0 As q pc lv st0 X (bnd G Kf) := by
  intro r X' hF p e s m below meth c ls A H locs hf hret hlk hw hl
  match G, hM, hF with
  | none, _, hF => exact nomatch hF
  | some (r1, X1), hM, hF =>
    refine cmSN_i hw.2 (wr := []) (tr := []) hf hw.1 (hM r1 X1 rfl H.size) hk hv hlink (List.range (GW Y Γ.2.2.2.1 Γ.2.2.2.2.1 X).length) (List.range (GT Y Γ.2.2.2.2.1).length) [] [] (MW_all rfl) (va_nd_range _) (MT_all rfl) rfl rfl (fun _ h => absurd h List.not_mem_nil) rfl hst hn hl.1 hrc hrs hR hcat rfl rfl ⟨Nat.zero_le _, Nat.zero_le _⟩ hdg (fun r' x hx H1 locs1 hw1 => ?_)
    obtain ⟨hr1, hx⟩ := hx
    subst hr1
    subst hx
    exact kk _ _ r X' hF p e s m below meth c ls A H1 locs1 hf hret hlk ⟨hw1, hw.2⟩ hl
theorem TC.callV_v (eo : Nat) {G : Option (Int32 × St)} (hM : TCV Y Γ y cc1 nL1 own1 ret1 R1 (.ref (Γ.2.2.2.1 eo) :: As1) X G) (hk : KA y cc1 nL1 ret1 n) (hv : KV y) {TT : u_T} {N ci : Nat} (hE : isO Y eo ci N) (hcl : classes[ci]? = some (y.cls, TT, N)) (hlink : Cond.methodLink own index y ∈ gtb) (hst : st0 = As1.reverse ++ .ref (Γ.2.2.2.1 eo) :: rest) (hn : As1.length = n) (hrc : R1.cells = 0) (hrs : R1.slots = 0) (hR : R1.frames + 1 ≤ R0.frames ∧ 8 + (nL1 + 11) + R1.locals ≤ R0.locals) (hcat : (rest.map fun v => v.category).sum ≤ 8) (hdg : decode cc pc = .ok (.invokevirtual index, 3)) {Kf : Int32 → St → Option (ρ × St)} (kk : ∀ (r : Int32) (X1 : St), TC Y Γ cc nL own ret R0 As q (pc + 3) lv (rest) X1 (Kf r X1)) : TC Y Γ cc nL own ret R0 As q pc lv st0 X (bnd G Kf) := by
  intro r X' hF p e s m below meth c ls A H locs hf hret hlk hw hl
  match G, hM, hF with
  | none, _, hF => exact nomatch hF
  | some (r1, X1), hM, hF =>
    refine cmV_v hw.2 (wr := []) (tr := []) hf hw.1 (hM r1 X1 rfl H.size) hk hv eo (GW_o hE) hcl hlink (List.range (GW Y Γ.2.2.2.1 Γ.2.2.2.2.1 X).length) (List.range (GT Y Γ.2.2.2.2.1).length) [] [] (MW_all rfl) (va_nd_range _) (MT_all rfl) rfl rfl (fun _ h => absurd h List.not_mem_nil) rfl hst hn hl.1 hrc hrs hR hcat rfl rfl ⟨Nat.zero_le _, Nat.zero_le _⟩ hdg (fun x hx H1 locs1 hw1 => ?_)
    subst hx
    exact kk r1 _ r X' hF p e s m below meth c ls A H1 locs1 hf hret hlk ⟨hw1, hw.2⟩ hl
theorem TC.callVN_v {host : String} (eo : Nat) {G : Option (Int32 × St)} (hM : TCV Y Γ y cc1 nL1 own1 ret1 R1 (.ref (Γ.2.2.2.1 eo) :: As1) X G) (hk : KA y cc1 nL1 ret1 n) (hv : KV y) {TT : u_T} {N ci : Nat} (hE : isO Y eo ci N) (hcl : classes[ci]? = some (y.cls, TT, N)) (hlink : Cond.methodLinkNest own index y host ∈ lw_tbl) (hst : st0 = As1.reverse ++ .ref (Γ.2.2.2.1 eo) :: rest) (hn : As1.length = n) (hrc : R1.cells = 0) (hrs : R1.slots = 0) (hR : R1.frames + 1 ≤ R0.frames ∧ 8 + (nL1 + 11) + R1.locals ≤ R0.locals) (hcat : (rest.map fun v => v.category).sum ≤ 8) (hdg : decode cc pc = .ok (.invokevirtual index, 3)) {Kf : Int32 → St → Option (ρ × St)} (kk : ∀ (r : Int32) (X1 : St), TC Y Γ cc nL own ret R0 As q (pc + 3) lv (rest) X1 (Kf r X1)) : TC Y Γ cc nL own ret R0 As q pc lv st0 X (bnd G Kf) := by
  intro r X' hF p e s m below meth c ls A H locs hf hret hlk hw hl
  match G, hM, hF with
  | none, _, hF => exact nomatch hF
  | some (r1, X1), hM, hF =>
    refine cmVN_v hw.2 (wr := []) (tr := []) hf hw.1 (hM r1 X1 rfl H.size) hk hv eo (GW_o hE) hcl hlink (List.range (GW Y Γ.2.2.2.1 Γ.2.2.2.2.1 X).length) (List.range (GT Y Γ.2.2.2.2.1).length) [] [] (MW_all rfl) (va_nd_range _) (MT_all rfl) rfl rfl (fun _ h => absurd h List.not_mem_nil) rfl hst hn hl.1 hrc hrs hR hcat rfl rfl ⟨Nat.zero_le _, Nat.zero_le _⟩ hdg (fun x hx H1 locs1 hw1 => ?_)
    subst hx
    exact kk r1 _ r X' hF p e s m below meth c ls A H1 locs1 hf hret hlk ⟨hw1, hw.2⟩ hl
theorem TC.callS_v {G : Option (Int32 × St)} (hM : TCV Y Γ y cc1 nL1 own1 ret1 R1 As1 X G) (hk : KA y cc1 nL1 ret1 n) (hv : Cond.static y ∈ gtb) (hlink : Cond.methodLink own index y ∈ gtb) (hst : st0 = As1.reverse ++ rest) (hn : As1.length = n) (hrc : R1.cells = 0) (hrs : R1.slots = 0) (hR : R1.frames + 1 ≤ R0.frames ∧ 8 + (nL1 + 11) + R1.locals ≤ R0.locals) (hcat : (rest.map fun v => v.category).sum ≤ 8) (hdg : decode cc pc = .ok (.invokestatic index, 3)) {Kf : Int32 → St → Option (ρ × St)} (kk : ∀ (r : Int32) (X1 : St), TC Y Γ cc nL own ret R0 As q (pc + 3) lv (rest) X1 (Kf r X1)) : TC Y Γ cc nL own ret R0 As q pc lv st0 X (bnd G Kf) := by
  intro r X' hF p e s m below meth c ls A H locs hf hret hlk hw hl
  match G, hM, hF with
  | none, _, hF => exact nomatch hF
  | some (r1, X1), hM, hF =>
    refine cmS_v hw.2 (wr := []) (tr := []) hf hw.1 (hM r1 X1 rfl H.size) hk hv hlink (List.range (GW Y Γ.2.2.2.1 Γ.2.2.2.2.1 X).length) (List.range (GT Y Γ.2.2.2.2.1).length) [] [] (MW_all rfl) (va_nd_range _) (MT_all rfl) rfl rfl (fun _ h => absurd h List.not_mem_nil) rfl hst hn hl.1 hrc hrs hR hcat rfl rfl ⟨Nat.zero_le _, Nat.zero_le _⟩ hdg (fun x hx H1 locs1 hw1 => ?_)
    subst hx
    exact kk r1 _ r X' hF p e s m below meth c ls A H1 locs1 hf hret hlk ⟨hw1, hw.2⟩ hl
theorem TC.callSN_v {host : String} {G : Option (Int32 × St)} (hM : TCV Y Γ y cc1 nL1 own1 ret1 R1 As1 X G) (hk : KA y cc1 nL1 ret1 n) (hv : Cond.static y ∈ gtb) (hlink : Cond.methodLinkNest own index y host ∈ lw_tbl) (hst : st0 = As1.reverse ++ rest) (hn : As1.length = n) (hrc : R1.cells = 0) (hrs : R1.slots = 0) (hR : R1.frames + 1 ≤ R0.frames ∧ 8 + (nL1 + 11) + R1.locals ≤ R0.locals) (hcat : (rest.map fun v => v.category).sum ≤ 8) (hdg : decode cc pc = .ok (.invokestatic index, 3)) {Kf : Int32 → St → Option (ρ × St)} (kk : ∀ (r : Int32) (X1 : St), TC Y Γ cc nL own ret R0 As q (pc + 3) lv (rest) X1 (Kf r X1)) : TC Y Γ cc nL own ret R0 As q pc lv st0 X (bnd G Kf) := by
  intro r X' hF p e s m below meth c ls A H locs hf hret hlk hw hl
  match G, hM, hF with
  | none, _, hF => exact nomatch hF
  | some (r1, X1), hM, hF =>
    refine cmSN_v hw.2 (wr := []) (tr := []) hf hw.1 (hM r1 X1 rfl H.size) hk hv hlink (List.range (GW Y Γ.2.2.2.1 Γ.2.2.2.2.1 X).length) (List.range (GT Y Γ.2.2.2.2.1).length) [] [] (MW_all rfl) (va_nd_range _) (MT_all rfl) rfl rfl (fun _ h => absurd h List.not_mem_nil) rfl hst hn hl.1 hrc hrs hR hcat rfl rfl ⟨Nat.zero_le _, Nat.zero_le _⟩ hdg (fun x hx H1 locs1 hw1 => ?_)
    subst hx
    exact kk r1 _ r X' hF p e s m below meth c ls A H1 locs1 hf hret hlk ⟨hw1, hw.2⟩ hl
theorem TC.callV_l (eo : Nat) {G : Option (Int64 × St)} (hM : TCL Y Γ y cc1 nL1 own1 ret1 R1 (.ref (Γ.2.2.2.1 eo) :: As1) X G) (hk : KA y cc1 nL1 ret1 n) (hv : KV y) {TT : u_T} {N ci : Nat} (hE : isO Y eo ci N) (hcl : classes[ci]? = some (y.cls, TT, N)) (hlink : Cond.methodLink own index y ∈ gtb) (hst : st0 = As1.reverse ++ .ref (Γ.2.2.2.1 eo) :: rest) (hn : As1.length = n) (hrc : R1.cells = 0) (hrs : R1.slots = 0) (hR : R1.frames + 1 ≤ R0.frames ∧ 8 + (nL1 + 11) + R1.locals ≤ R0.locals) (hcat : (rest.map fun v => v.category).sum ≤ 8) (hdg : decode cc pc = .ok (.invokevirtual index, 3)) {Kf : Int64 → St → Option (ρ × St)} (kk : ∀ (r : Int64) (X1 : St), TC Y Γ cc nL own ret R0 As q (pc + 3) lv (.long r :: rest) X1 (Kf r X1)) : TC Y Γ cc nL own ret R0 As q pc lv st0 X (bnd G Kf) := by
  intro r X' hF p e s m below meth c ls A H locs hf hret hlk hw hl
  match G, hM, hF with
  | none, _, hF => exact nomatch hF
  | some (r1, X1), hM, hF =>
    refine cmV_l hw.2 (wr := []) (tr := []) hf hw.1 (hM r1 X1 rfl H.size) hk hv eo (GW_o hE) hcl hlink (List.range (GW Y Γ.2.2.2.1 Γ.2.2.2.2.1 X).length) (List.range (GT Y Γ.2.2.2.2.1).length) [] [] (MW_all rfl) (va_nd_range _) (MT_all rfl) rfl rfl (fun _ h => absurd h List.not_mem_nil) rfl hst hn hl.1 hrc hrs hR hcat rfl rfl ⟨Nat.zero_le _, Nat.zero_le _⟩ hdg (fun r' x hx H1 locs1 hw1 => ?_)
    obtain ⟨hr1, hx⟩ := hx
    subst hr1
    subst hx
    exact kk _ _ r X' hF p e s m below meth c ls A H1 locs1 hf hret hlk ⟨hw1, hw.2⟩ hl
theorem TC.callVN_l {host : String} (eo : Nat) {G : Option (Int64 × St)} (hM : TCL Y Γ y cc1 nL1 own1 ret1 R1 (.ref (Γ.2.2.2.1 eo) :: As1) X G) (hk : KA y cc1 nL1 ret1 n) (hv : KV y) {TT : u_T} {N ci : Nat} (hE : isO Y eo ci N) (hcl : classes[ci]? = some (y.cls, TT, N)) (hlink : Cond.methodLinkNest own index y host ∈ lw_tbl) (hst : st0 = As1.reverse ++ .ref (Γ.2.2.2.1 eo) :: rest) (hn : As1.length = n) (hrc : R1.cells = 0) (hrs : R1.slots = 0) (hR : R1.frames + 1 ≤ R0.frames ∧ 8 + (nL1 + 11) + R1.locals ≤ R0.locals) (hcat : (rest.map fun v => v.category).sum ≤ 8) (hdg : decode cc pc = .ok (.invokevirtual index, 3)) {Kf : Int64 → St → Option (ρ × St)} (kk : ∀ (r : Int64) (X1 : St), TC Y Γ cc nL own ret R0 As q (pc + 3) lv (.long r :: rest) X1 (Kf r X1)) : TC Y Γ cc nL own ret R0 As q pc lv st0 X (bnd G Kf) := by
  intro r X' hF p e s m below meth c ls A H locs hf hret hlk hw hl
  match G, hM, hF with
  | none, _, hF => exact nomatch hF
  | some (r1, X1), hM, hF =>
    refine cmVN_l hw.2 (wr := []) (tr := []) hf hw.1 (hM r1 X1 rfl H.size) hk hv eo (GW_o hE) hcl hlink (List.range (GW Y Γ.2.2.2.1 Γ.2.2.2.2.1 X).length) (List.range (GT Y Γ.2.2.2.2.1).length) [] [] (MW_all rfl) (va_nd_range _) (MT_all rfl) rfl rfl (fun _ h => absurd h List.not_mem_nil) rfl hst hn hl.1 hrc hrs hR hcat rfl rfl ⟨Nat.zero_le _, Nat.zero_le _⟩ hdg (fun r' x hx H1 locs1 hw1 => ?_)
    obtain ⟨hr1, hx⟩ := hx
    subst hr1
    subst hx
    exact kk _ _ r X' hF p e s m below meth c ls A H1 locs1 hf hret hlk ⟨hw1, hw.2⟩ hl
theorem TC.callS_l {G : Option (Int64 × St)} (hM : TCL Y Γ y cc1 nL1 own1 ret1 R1 As1 X G) (hk : KA y cc1 nL1 ret1 n) (hv : Cond.static y ∈ gtb) (hlink : Cond.methodLink own index y ∈ gtb) (hst : st0 = As1.reverse ++ rest) (hn : As1.length = n) (hrc : R1.cells = 0) (hrs : R1.slots = 0) (hR : R1.frames + 1 ≤ R0.frames ∧ 8 + (nL1 + 11) + R1.locals ≤ R0.locals) (hcat : (rest.map fun v => v.category).sum ≤ 8) (hdg : decode cc pc = .ok (.invokestatic index, 3)) {Kf : Int64 → St → Option (ρ × St)} (kk : ∀ (r : Int64) (X1 : St), TC Y Γ cc nL own ret R0 As q (pc + 3) lv (.long r :: rest) X1 (Kf r X1)) : TC Y Γ cc nL own ret R0 As q pc lv st0 X (bnd G Kf) := by
  intro r X' hF p e s m below meth c ls A H locs hf hret hlk hw hl
  match G, hM, hF with
  | none, _, hF => exact nomatch hF
  | some (r1, X1), hM, hF =>
    refine cmS_l hw.2 (wr := []) (tr := []) hf hw.1 (hM r1 X1 rfl H.size) hk hv hlink (List.range (GW Y Γ.2.2.2.1 Γ.2.2.2.2.1 X).length) (List.range (GT Y Γ.2.2.2.2.1).length) [] [] (MW_all rfl) (va_nd_range _) (MT_all rfl) rfl rfl (fun _ h => absurd h List.not_mem_nil) rfl hst hn hl.1 hrc hrs hR hcat rfl rfl ⟨Nat.zero_le _, Nat.zero_le _⟩ hdg (fun r' x hx H1 locs1 hw1 => ?_)
    obtain ⟨hr1, hx⟩ := hx
    subst hr1
    subst hx
    exact kk _ _ r X' hF p e s m below meth c ls A H1 locs1 hf hret hlk ⟨hw1, hw.2⟩ hl
theorem TC.callSN_l {host : String} {G : Option (Int64 × St)} (hM : TCL Y Γ y cc1 nL1 own1 ret1 R1 As1 X G) (hk : KA y cc1 nL1 ret1 n) (hv : Cond.static y ∈ gtb) (hlink : Cond.methodLinkNest own index y host ∈ lw_tbl) (hst : st0 = As1.reverse ++ rest) (hn : As1.length = n) (hrc : R1.cells = 0) (hrs : R1.slots = 0) (hR : R1.frames + 1 ≤ R0.frames ∧ 8 + (nL1 + 11) + R1.locals ≤ R0.locals) (hcat : (rest.map fun v => v.category).sum ≤ 8) (hdg : decode cc pc = .ok (.invokestatic index, 3)) {Kf : Int64 → St → Option (ρ × St)} (kk : ∀ (r : Int64) (X1 : St), TC Y Γ cc nL own ret R0 As q (pc + 3) lv (.long r :: rest) X1 (Kf r X1)) : TC Y Γ cc nL own ret R0 As q pc lv st0 X (bnd G Kf) := by
  intro r X' hF p e s m below meth c ls A H locs hf hret hlk hw hl
  match G, hM, hF with
  | none, _, hF => exact nomatch hF
  | some (r1, X1), hM, hF =>
    refine cmSN_l hw.2 (wr := []) (tr := []) hf hw.1 (hM r1 X1 rfl H.size) hk hv hlink (List.range (GW Y Γ.2.2.2.1 Γ.2.2.2.2.1 X).length) (List.range (GT Y Γ.2.2.2.2.1).length) [] [] (MW_all rfl) (va_nd_range _) (MT_all rfl) rfl rfl (fun _ h => absurd h List.not_mem_nil) rfl hst hn hl.1 hrc hrs hR hcat rfl rfl ⟨Nat.zero_le _, Nat.zero_le _⟩ hdg (fun r' x hx H1 locs1 hw1 => ?_)
    obtain ⟨hr1, hx⟩ := hx
    subst hr1
    subst hx
    exact kk _ _ r X' hF p e s m below meth c ls A H1 locs1 hf hret hlk ⟨hw1, hw.2⟩ hl
theorem TCI.no {rm : Room} {y : MethodName} : TCI Y Γ y cc nL own ret rm As X none := fun _ _ h => nomatch h
theorem TCV.no {rm : Room} {y : MethodName} : TCV Y Γ y cc nL own ret rm As X none := fun _ _ h => nomatch h
theorem TCL.no {rm : Room} {y : MethodName} : TCL Y Γ y cc nL own ret rm As X none := fun _ _ h => nomatch h
theorem TC.ifnonnull {w : Nat} {off : Int} (hdg : decode cc pc = .ok (.ifnonnull off, 3)) (ht : (pc : Int) + off = (pc1 : Int)) (k : TC Y Γ cc nL own ret R0 As q pc1 lv rest X F) : TC Y Γ cc nL own ret R0 As q pc lv (.ref w :: rest) X F :=
  TC.lf k (fun p e s m below meth cd ls A H locs Q hf hw hl k => lv_ifnonnull hf.1 hf.2.1 hdg ht (k ls hl))
theorem TC.ifnull {w : Nat} {off : Int} (hdg : decode cc pc = .ok (.ifnull off, 3)) (k : TC Y Γ cc nL own ret R0 As q (pc + 3) lv rest X F) : TC Y Γ cc nL own ret R0 As q pc lv (.ref w :: rest) X F :=
  TC.lf k (fun p e s m below meth cd ls A H locs Q hf hw hl k => lv_ifnull hf.1 hf.2.1 hdg (k ls hl))
theorem TC.pop2 {w : Int64} (hdg : decode cc pc = .ok (.pop2, 1)) (k : TC Y Γ cc nL own ret R0 As q (pc + 1) lv rest X F) : TC Y Γ cc nL own ret R0 As q pc lv (.long w :: rest) X F :=
  TC.lf k (fun p e s m below meth cd ls A H locs Q hf hw hl k => lv_pop2_2 hf.1 hf.2.1 hdg rfl (k ls hl))
theorem TC.lshl {a : Int64} {b : Int32} (hdg : decode cc pc = .ok (.lshl, 1)) {Kf : Int64 → Option (ρ × St)} (k : ∀ w : Int64, TC Y Γ cc nL own ret R0 As q (pc + 1) lv (.long w :: rest) X (Kf w)) : TC Y Γ cc nL own ret R0 As q pc lv (.int b :: .long a :: rest) X (letV (a <<< (b.toInt64 &&& 63)) Kf) :=
  TC.lf (F := letV (a <<< (b.toInt64 &&& 63)) Kf) (k (a <<< (b.toInt64 &&& 63))) (fun p e s m below meth cd ls A H locs Q hf hw hl k => lv_lshl hf.1 hf.2.1 hdg rfl (k ls hl))
theorem TC.lshr {a : Int64} {b : Int32} (hdg : decode cc pc = .ok (.lshr, 1)) {Kf : Int64 → Option (ρ × St)} (k : ∀ w : Int64, TC Y Γ cc nL own ret R0 As q (pc + 1) lv (.long w :: rest) X (Kf w)) : TC Y Γ cc nL own ret R0 As q pc lv (.int b :: .long a :: rest) X (letV (a >>> (b.toInt64 &&& 63)) Kf) :=
  TC.lf (F := letV (a >>> (b.toInt64 &&& 63)) Kf) (k (a >>> (b.toInt64 &&& 63))) (fun p e s m below meth cd ls A H locs Q hf hw hl k => lv_lshr hf.1 hf.2.1 hdg rfl (k ls hl))
theorem TC.iushr {a b : Int32} (hdg : decode cc pc = .ok (.iushr, 1)) {Kf : Int32 → Option (ρ × St)} (k : ∀ w : Int32, TC Y Γ cc nL own ret R0 As q (pc + 1) lv (.int w :: rest) X (Kf w)) : TC Y Γ cc nL own ret R0 As q pc lv (.int b :: .int a :: rest) X (letV ((a.toUInt32 >>> (b.toUInt32 &&& Int32.toUInt32 31)).toInt32) Kf) :=
  TC.lf (F := letV ((a.toUInt32 >>> (b.toUInt32 &&& Int32.toUInt32 31)).toInt32) Kf) (k ((a.toUInt32 >>> (b.toUInt32 &&& Int32.toUInt32 31)).toInt32)) (fun p e s m below meth cd ls A H locs Q hf hw hl k => lv_iushr hf.1 hf.2.1 hdg rfl (k ls hl))
theorem TC.getW (hlink : Cond.fieldLink own index "BlameCourt$Token" "WORDS" "[J" ∈ gtb) (hdg : decode cc pc = .ok (.getstatic index, 3)) (k : TC Y Γ cc nL own ret R0 As q (pc + 3) lv (.ref Γ.2.2.2.2.2 :: rest) X F) : TC Y Γ cc nL own ret R0 As q pc lv rest X F :=
  TC.lf k (fun p e s m below meth cd ls A H locs Q hf hw hl k => va_gets hf.1 hf.2.1 hw.2.1 hw.1.2.2.2.1 hf.2.2.2.1 (hf.2.2.2.2.1 _ hlink) (fun _ h => h) hdg (k ls hl))
theorem TC.lenW (hdg : decode cc pc = .ok (.arraylength, 1)) (k : TC Y Γ cc nL own ret R0 As q (pc + 1) lv (.int 15 :: rest) X F) : TC Y Γ cc nL own ret R0 As q pc lv (.ref Γ.2.2.2.2.2 :: rest) X F :=
  TC.lf k (fun p e s m below meth cd ls A H locs Q hf hw hl k => va_tlen hf.1 hf.2.1 hw.2.2 hw.1.2.2.2.1 (v := 15) rfl hdg (k ls hl))
theorem TC.ldW {x : Int32} (hdg : decode cc pc = .ok (.laload, 1)) {Kf : Int64 → Option (ρ × St)} (k : ∀ w : Int64, TC Y Γ cc nL own ret R0 As q (pc + 1) lv (.long w :: rest) X (Kf w)) : TC Y Γ cc nL own ret R0 As q pc lv (.int x :: .ref Γ.2.2.2.2.2 :: rest) X (chk (inR x 15) (letV (WRD (ix x)) Kf)) :=
  TC.ck (fun hx => TC.lf (F := letV (WRD (ix x)) Kf) (k (WRD (ix x))) (fun p e s m below meth cd ls A H locs Q hf hw hl k => va_tl hf.1 hf.2.1 hw.2.2 hw.1.2.2.2.1 (ti_in hx.1 hx.2) rfl hdg (k ls hl)))
theorem TC.alenV {z : Nat} {ft : FieldType} (e : Nat) (hA : isA Y e 1 z ft) (hdg : decode cc pc = .ok (.arraylength, 1)) {Kf : Int32 → Option (ρ × St)} (kk : ∀ w : Int32, TC Y Γ cc nL own ret R0 As q (pc + 1) lv (.int w :: rest) X (Kf w)) : TC Y Γ cc nL own ret R0 As q pc lv (.ref (Γ.2.2.2.1 e) :: rest) X (letV (Int32.ofNat z) Kf) :=
  TC.alen (F := letV (Int32.ofNat z) Kf) e hA (Or.inl rfl) rfl hdg (kk _)
theorem TC.mmax {a b : Int32} (hlink : Cond.methodLink own index Lib.Math.max.name ∈ gtb) (hstat : Cond.static Lib.Math.max.name ∈ gtb) (hini : Cond.initialized "java/lang/Math" ∈ gtb) (hcode : Cond.code Lib.Math.max.name Lib.Math.max.code 2 (some .int) ∈ gtb) (hml : nL = nL) (hdg : decode cc pc = .ok (.invokestatic index, 3)) (hR : 1 ≤ R0.frames ∧ 8 + 13 ≤ R0.locals) (hcat : (rest.map fun v => v.category).sum ≤ 8) {Kf : Int32 → Option (ρ × St)} (k : ∀ w : Int32, TC Y Γ cc nL own ret R0 As q (pc + 3) lv (.int w :: rest) X (Kf w)) : TC Y Γ cc nL own ret R0 As q pc lv (.int b :: .int a :: rest) X (letV (if a < b then b else a) Kf) :=
  TC.lf (F := letV (if a < b then b else a) Kf) (k (if a < b then b else a)) (fun p e s m below meth cd ls A H locs Q hf hw hl k => va_mmax hf.1 hf.2.1 (by rw [hf.2.2.1]; exact hl.1.symm) hf.2.2.2.1 (hf.2.2.2.2.1 _ hlink) (hf.2.2.2.2.1 _ hstat) (hf.2.2.2.2.1 _ hini) (hf.2.2.2.2.1 _ hcode) hR.1 (by have := hR.2; omega) (Nat.zero_le _) (Nat.zero_le _) hdg (k ls hl))
theorem TC.mmin {a b : Int32} (hlink : Cond.methodLink own index Lib.Math.min.name ∈ gtb) (hstat : Cond.static Lib.Math.min.name ∈ gtb) (hini : Cond.initialized "java/lang/Math" ∈ gtb) (hcode : Cond.code Lib.Math.min.name Lib.Math.min.code 2 (some .int) ∈ gtb) (hml : nL = nL) (hdg : decode cc pc = .ok (.invokestatic index, 3)) (hR : 1 ≤ R0.frames ∧ 8 + 13 ≤ R0.locals) (hcat : (rest.map fun v => v.category).sum ≤ 8) {Kf : Int32 → Option (ρ × St)} (k : ∀ w : Int32, TC Y Γ cc nL own ret R0 As q (pc + 3) lv (.int w :: rest) X (Kf w)) : TC Y Γ cc nL own ret R0 As q pc lv (.int b :: .int a :: rest) X (letV (if b < a then b else a) Kf) :=
  TC.lf (F := letV (if b < a then b else a) Kf) (k (if b < a then b else a)) (fun p e s m below meth cd ls A H locs Q hf hw hl k => va_mmin hf.1 hf.2.1 (by rw [hf.2.2.1]; exact hl.1.symm) hf.2.2.2.1 (hf.2.2.2.2.1 _ hlink) (hf.2.2.2.2.1 _ hstat) (hf.2.2.2.2.1 _ hini) (hf.2.2.2.2.1 _ hcode) hR.1 (by have := hR.2; omega) (Nat.zero_le _) (Nat.zero_le _) hdg (k ls hl))
theorem TC.getRO {C : String} {TT : u_T} {N ci c2 n2 : Nat} (e : Nat) (hE : isO Y e ci N) (hcl : classes[ci]? = some (C, TT, N)) (hin : ∀ w ∈ u_ws C TT N, w ∈ gtb) (k : Nat) (hk : k < N) (hkd : kY Y e k = 2) (hlink : (Cond.fieldLink own index (TT k).1 (TT k).2.1 (TT k).2.2.1) ∈ gtb) (hdg : decode cc pc = .ok (.getfield index, 3)) {Kf : Nat → Option (ρ × St)} (kk : ∀ r : Nat, isO Y r c2 n2 → TC Y Γ cc nL own ret R0 As q (pc + 3) lv (.ref (Γ.2.2.2.1 r) :: rest) X (Kf r)) : TC Y Γ cc nL own ret R0 As q pc lv (.ref (Γ.2.2.2.1 e) :: rest) X (chk (refO Y (X.2.2 e k) c2 n2 = true) (letV (X.2.2 e k - 1) Kf)) :=
  TC.ck (fun h => TC.lf (F := letV (X.2.2 e k - 1) Kf) (kk _ (refO_spec h).2) (fun p e0 s m below meth cd ls A H locs Q hf hw hl kk => mget hf hw.1 hin e (GW_o hE) hcl k hk hlink (fs_get hk) hdg (by rw [show fvE _ X e k (kY Y e k) = .ref (Γ.2.2.2.1 (X.2.2 e k - 1)) from by rw [hkd]; exact if_neg (refO_spec h).1]; exact kk ls hl)))
theorem TC.getRK {C : String} {TT : u_T} {N ci c : Nat} (e : Nat) (hE : isO Y e ci N) (hcl : classes[ci]? = some (C, TT, N)) (hin : ∀ w ∈ u_ws C TT N, w ∈ gtb) (k : Nat) (hk : k < N) (hkd : kY Y e k = 2) (hlink : (Cond.fieldLink own index (TT k).1 (TT k).2.1 (TT k).2.2.1) ∈ gtb) (hdg : decode cc pc = .ok (.getfield index, 3)) (kk : TC Y Γ cc nL own ret R0 As q (pc + 3) lv (.ref (Γ.2.2.2.1 c) :: rest) X F) : TC Y Γ cc nL own ret R0 As q pc lv (.ref (Γ.2.2.2.1 e) :: rest) X (chk (X.2.2 e k = c + 1) F) :=
  TC.ck (fun h => TC.lf kk (fun p e0 s m below meth cd ls A H locs Q hf hw hl kk => mget hf hw.1 hin e (GW_o hE) hcl k hk hlink (fs_get hk) hdg (by rw [show fvE _ X e k (kY Y e k) = .ref (Γ.2.2.2.1 c) from by rw [hkd]; show (if X.2.2 e k = 0 then Value.null else .ref (Γ.2.2.2.1 (X.2.2 e k - 1))) = _; rw [h]; rfl]; exact kk ls hl)))
theorem TC.getRA {C : String} {TT : u_T} {N ci : Nat} {ft : FieldType} (e : Nat) (hE : isO Y e ci N) (hcl : classes[ci]? = some (C, TT, N)) (hin : ∀ w ∈ u_ws C TT N, w ∈ gtb) (k : Nat) (hk : k < N) (hkd : kY Y e k = 2) (hlink : (Cond.fieldLink own index (TT k).1 (TT k).2.1 (TT k).2.2.1) ∈ gtb) (hdg : decode cc pc = .ok (.getfield index, 3)) {Kf : Nat → Option (ρ × St)} (kk : ∀ r : Nat, isA Y r 1 (zY Y r) ft → TC Y Γ cc nL own ret R0 As q (pc + 3) lv (.ref (Γ.2.2.2.1 r) :: rest) X (Kf r)) : TC Y Γ cc nL own ret R0 As q pc lv (.ref (Γ.2.2.2.1 e) :: rest) X (chk (refA Y (X.2.2 e k) ft = true) (letV (X.2.2 e k - 1) Kf)) :=
  TC.ck (fun h => TC.lf (F := letV (X.2.2 e k - 1) Kf) (kk _ (refA_spec h).2) (fun p e0 s m below meth cd ls A H locs Q hf hw hl kk => mget hf hw.1 hin e (GW_o hE) hcl k hk hlink (fs_get hk) hdg (by rw [show fvE _ X e k (kY Y e k) = .ref (Γ.2.2.2.1 (X.2.2 e k - 1)) from by rw [hkd]; exact if_neg (refA_spec h).1]; exact kk ls hl)))
end TL
