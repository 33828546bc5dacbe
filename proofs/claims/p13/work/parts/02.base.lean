/-! macro rows: one bundle for what stays (Fx), one for the world (Wd); rows of the kit put together -/
def gtb : List Cond := lw_tbl.filter goodWord
theorem gtb_good : GoodIn gtb gtb := fun _ h => ⟨h, good_of_word (List.mem_filter.mp h).2⟩
abbrev wsOf (y : MethodName) (b : ByteArray) (n : Nat) (r : Option FieldType) : List Cond := .code y b n r :: gtb
theorem gtX {w : Cond} (i : Nat) (h : lw_tbl[i]? = some w) (g : goodWord w = true) : w ∈ gtb := List.mem_filter.mpr ⟨List.mem_of_getElem? h, g⟩
theorem gtm {w : Cond} (h : w ∈ lw_tbl) (g : goodWord w = true) : w ∈ gtb := List.mem_filter.mpr ⟨h, g⟩
theorem gts_p {ws : List Cond} (ps : List Nat) (hp : ws = ps.filterMap (fun i => lw_tbl[i]?)) (h : ws.all goodWord = true) : ∀ w ∈ ws, w ∈ gtb := by
  intro w hw
  have h1 := List.all_eq_true.mp h w hw
  rw [hp] at hw
  obtain ⟨i, -, hi⟩ := List.mem_filterMap.mp hw
  exact gtm (List.mem_of_getElem? hi) h1
theorem gts {ws : List Cond} (h : ∀ w ∈ ws, w ∈ lw_tbl) (g : ∀ w ∈ ws, goodWord w = true) : ∀ w ∈ ws, w ∈ gtb := fun w hw => List.mem_filter.mpr ⟨h w hw, g w hw⟩
def isNest : Cond → Bool
  | .fieldLinkNest .. => true
  | .methodLinkNest .. => true
  | _ => false
/-- the words that link nest mates -/
def nk (U : State) : Prop := ∀ w ∈ lw_tbl, isNest w = true → va_Nw w U
theorem nk_warm {s U : State} (hW : s.WarmedH U.vm) (h : nk s) : nk U := by
  intro w hw hi
  have h1 := h w hw hi
  cases w <;> first | exact va_Nw.warmF hW h1 | exact va_Nw.warmM hW h1 | (simp [isNest] at hi; done)
theorem nk_same {u U : State} (e : u.vm = U.vm) (h : nk u) : nk U := by
  intro w hw hi
  have h1 := h w hw hi
  cases w <;> first | exact va_Nw.same rfl e h1 | (simp [isNest] at hi; done)
theorem nk_of {s : State} {args : Array Value} (hts : ∀ w ∈ lw_tbl, w.before args s = true) : nk s := by
  intro w hw hi
  have h1 := hts w hw
  cases w <;> first | exact va_Nw.of rfl h1 | (simp [isNest] at hi; done)
/-- a method's start: its world -/
def PB (dC : Nat → ClassId) (dI : Nat → Nat → Nat) (sz : Nat) (ws : va_W) (tys : List (ClassId × FieldType)) (U : State) : Prop := U.heap.size = sz ∧ va_P (dC, dI) classes ws U.heap ∧ va_K (dC, dI) classes tys U ∧ va_D (fun _ => True) ws ∧ nk U
/-- .. its end -/
def PW (dC : Nat → ClassId) (dI : Nat → Nat → Nat) (A : Nat → Prop) (ws : va_W) (tys : List (ClassId × FieldType)) (t : State) : Prop := va_P (dC, dI) classes ws t.heap ∧ va_K (dC, dI) classes tys t ∧ va_D A ws
theorem PB_blind {As : List Value} {dC : Nat → ClassId} {dI : Nat → Nat → Nat} {sz : Nat} {ws : va_W} {tys : List (ClassId × FieldType)} : FrameBlind (va_Pc As (PB dC dI sz ws tys)) := fun a U g mk q => by
  obtain ⟨q0, q1, qP, qK, qD, qN⟩ := q
  exact ⟨q0, q1, qP, va_K.moved (u := U) (U := U.calling g mk a) (Vm.Alike.refl U.vm) qK, qD, nk_same (u := U) (U := U.calling g mk a) rfl qN⟩
/-- what stays through a method -/
def Fx (p : Program) (c : Code) (cc : ByteArray) (nL : Nat) (s : State) (args : Array Value) (m : MethodId) (own : String) : Prop :=
  p.tables.exec = Jvm.exec ∧ c.code = cc ∧ c.maxLocals = nL ∧ s.vm.findClass own = some m.cls ∧ (∀ w ∈ gtb, w.before args s = true) ∧ nk s
/-- the world now: cells, what the tables say of its classes, apart, what else stayed -/
def Wd (dC : Nat → ClassId) (dI : Nat → Nat → Nat) (A : Nat → Prop) (ws : va_W) (tys : List (ClassId × FieldType)) (s : State) (H : Heap) (locs : List Loc) : Prop :=
  va_K (dC, dI) classes tys s ∧ va_P (dC, dI) classes ws H ∧ va_D A ws ∧ va_S A s.heap H locs ∧ ∀ q : Nat, s.heap.size ≤ q → A q
theorem Wd.pick {dC : Nat → ClassId} {dI : Nat → Nat → Nat} {A : Nat → Prop} {ws ws' : va_W} {tys tys' : List (ClassId × FieldType)} {s : State} {H : Heap} {locs : List Loc} (h : Wd dC dI A ws tys s H locs) (is ts : List Nat) (hn : va_nd is = true) (hw : is.map (fun i => ws[i]?) = ws'.map some) (ht : ts.filterMap (fun i => tys[i]?) = tys') : Wd dC dI A ws' tys' s H locs := by
  obtain ⟨hK, hP, hD, hS, hA⟩ := h
  refine ⟨hK.sub ts ht, ?_, hD.sub is hn hw, hS, hA⟩
  intro k q hk
  have h1 : (is.map (fun i => ws[i]?))[k]? = some (some q) := by rw [hw, List.getElem?_map, hk]; rfl
  rw [List.getElem?_map] at h1
  cases hi : is[k]? with
  | none => rw [hi] at h1; cases h1
  | some i => rw [hi] at h1; exact hP i q (Option.some.inj h1)
section MAC
variable {p : Program} {l : Launch} {e : Env} {R : Room} {s : State} {m : MethodId} {args : Array Value} {below : List Frame} {meth : Method} {c : Code} {H : Heap} {locs : List Loc} {cells slots : Nat} {Q : State → Prop}
variable {cc : ByteArray} {pc : Nat} {ls : Array Slot} {dC : Nat → ClassId} {dI : Nat → Nat → Nat} {A : Nat → Prop} {tys tc tr : List (ClassId × FieldType)} {ws wc wr : va_W} {y : MethodName} {bytes : ByteArray} {maxL nL mc ms n index : Nat} {ret : Option FieldType} {rm : Room} {own C : String} {b a : Addr} {As rest : List Value}
/-- getfield -/
theorem mget (hf : Fx p c cc nL s args m own) (hw : Wd dC dI A ws tys s H locs) {C : String} {T : u_T} {N ci index : Nat} (hin : ∀ w ∈ u_ws C T N, w ∈ gtb) (q0 : Nat) {fs : List Value} (he : ws[q0]? = some (a, .inr (ci, fs))) (hc : classes[ci]? = some (C, T, N)) (k : Nat) (hk : k < N) (hlink : (Cond.fieldLink own index (T k).1 (T k).2.1 (T k).2.2.1) ∈ gtb) {v : Value} (hv : fs[k]? = some v) (hdg : decode cc pc = .ok (.getfield index, 3))
    (kk : W p l e R s m args below meth c H locs cells slots Q (F0 m (pc + 3) ls (v :: rest))) : W p l e R s m args below meth c H locs cells slots Q (F0 m pc ls (.ref a :: rest)) :=
  va_get (D := (dC, dI)) hf.1 hf.2.1 hf.2.2.2.2.1 hin hf.2.2.2.1 hw.1 hw.2.1 q0 he hc k hk (hf.2.2.2.2.1 _ hlink) (fun _ h => h) hv hdg kk
/-- putfield -/
theorem mput (hf : Fx p c cc nL s args m own) (hw : Wd dC dI A ws tys s H locs) {C : String} {T : u_T} {N ci index : Nat} (hin : ∀ w ∈ u_ws C T N, w ∈ gtb) (ty0 : Nat → FieldType) (hty : ∀ k, k < N → parseFieldDescriptor (T k).2.2.1 = some (ty0 k)) (hnm : ∀ a, a < N → ∀ b, b < N → a ≠ b → (T a).2.1 ≠ (T b).2.1) (q0 : Nat) {fs : List Value} (he : ws[q0]? = some (a, .inr (ci, fs))) (hc : classes[ci]? = some (C, T, N)) (k : Nat) (hk : k < N) (hlink : (Cond.fieldLink own index (T k).1 (T k).2.1 (T k).2.2.1) ∈ gtb) (hfin : (T k).2.2.2 = false) {v : Value} (hn : narrow (ty0 k) v = v) (hfit : fits (ty0 k) v = true) (hl : k < fs.length) {ws' : va_W} (hw' : ws.set q0 (a, .inr (ci, fs.set k v)) = ws')
    (hdg : decode cc pc = .ok (.putfield index, 3)) (kk : ∀ (H1 : Heap) (locs1 : List Loc), Wd dC dI A ws' tys s H1 locs1 → W p l e R s m args below meth c H1 locs1 cells slots Q (F0 m (pc + 3) ls rest)) : W p l e R s m args below meth c H locs cells slots Q (F0 m pc ls (v :: .ref a :: rest)) := by
  subst hw'
  exact va_put (D := (dC, dI)) hf.1 hf.2.1 hf.2.2.2.2.1 hin ty0 hty hnm hf.2.2.2.1 hw.1 hw.2.1 hw.2.2.1 hw.2.2.2.1 q0 he hc k hk (hf.2.2.2.2.1 _ hlink) (fun _ h => h) hfin (hty k hk) hn hfit hl hdg (fun H1 locs1 h1 h2 h3 => kk H1 locs1 ⟨hw.1, h1, h2, h3, hw.2.2.2.2⟩)
/-- putfield of a final field, in a constructor -/
theorem mputF (hf : Fx p c cc nL s args m own) (hin2 : meth.name = "<init>") (hw : Wd dC dI A ws tys s H locs) {C : String} {T : u_T} {N ci index : Nat} (hin : ∀ w ∈ u_ws C T N, w ∈ gtb) (ty0 : Nat → FieldType) (hty : ∀ k, k < N → parseFieldDescriptor (T k).2.2.1 = some (ty0 k)) (hnm : ∀ a, a < N → ∀ b, b < N → a ≠ b → (T a).2.1 ≠ (T b).2.1) (q0 : Nat) {fs : List Value} (he : ws[q0]? = some (a, .inr (ci, fs))) (hc : classes[ci]? = some (C, T, N)) (k : Nat) (hk : k < N) (hlink : (Cond.fieldLink own index (T k).1 (T k).2.1 (T k).2.2.1) ∈ gtb) (hfin : (T k).2.2.2 = true) (hdecl : (T k).1 = own) {v : Value} (hn : narrow (ty0 k) v = v) (hfit : fits (ty0 k) v = true) (hl : k < fs.length) {ws' : va_W} (hw' : ws.set q0 (a, .inr (ci, fs.set k v)) = ws')
    (hdg : decode cc pc = .ok (.putfield index, 3)) (kk : ∀ (H1 : Heap) (locs1 : List Loc), Wd dC dI A ws' tys s H1 locs1 → W p l e R s m args below meth c H1 locs1 cells slots Q (F0 m (pc + 3) ls rest)) : W p l e R s m args below meth c H locs cells slots Q (F0 m pc ls (v :: .ref a :: rest)) := by
  subst hw'
  exact va_putF (D := (dC, dI)) hf.1 hf.2.1 hf.2.2.2.2.1 hin ty0 hty hnm hf.2.2.2.1 hw.1 hw.2.1 hw.2.2.1 hw.2.2.2.1 q0 he hc k hk (hf.2.2.2.2.1 _ hlink) (fun _ h => h) hfin hin2 hdecl (hty k hk) hn hfit hl hdg (fun H1 locs1 h1 h2 h3 => kk H1 locs1 ⟨hw.1, h1, h2, h3, hw.2.2.2.2⟩)
/-- new -/
theorem mnew (hf : Fx p c cc nL s args m own) (hw : Wd dC dI A ws tys s H locs) {C : String} {T : u_T} {N ci index : Nat} (hin : ∀ w ∈ u_ws C T N, w ∈ gtb) (ty0 : Nat → FieldType) (hty : ∀ k, k < N → parseFieldDescriptor (T k).2.2.1 = some (ty0 k)) (hcl : (Cond.classLink own index C) ∈ gtb) (hinst : (Cond.instantiable C N) ∈ gtb) (hini : (Cond.initialized C) ∈ gtb) (hc : classes[ci]? = some (C, T, N)) {fs : List Value} (hfs : ∀ j, j < N → defaultValue (ty0 j) = vp_V fs j) {ce sl : Nat} (hce : cells + 1 = ce) (hsl : slots + N = sl) (hcells : ce ≤ R.cells) (hslots : sl ≤ R.slots) (hdg : decode cc pc = .ok (.new index, 3))
    (kk : ∀ (q : Nat) (H1 : Heap), Wd dC dI A (ws ++ [(q, .inr (ci, fs))]) tys s H1 locs → W p l e R s m args below meth c H1 locs ce sl Q (F0 m (pc + 3) ls (.ref q :: rest))) : W p l e R s m args below meth c H locs cells slots Q (F0 m pc ls rest) := by
  subst hce
  subst hsl
  exact va_new (D := (dC, dI)) hf.1 hf.2.1 hf.2.2.2.2.1 hin ty0 hty hf.2.2.2.1 (hf.2.2.2.2.1 _ hcl) (hf.2.2.2.2.1 _ hinst) (hf.2.2.2.2.1 _ hini) hw.1 hw.2.1 hw.2.2.1 hw.2.2.2.1 hw.2.2.2.2 hc hfs hcells hslots hdg (fun q H1 h1 h2 h3 => kk q H1 ⟨hw.1, h1, h2, h3, hw.2.2.2.2⟩)
/-- newarray of a primitive type -/
theorem mnewa (hf : Fx p c cc nL s args m own) (hw : Wd dC dI A ws tys s H locs) {atype : ArrayType} (harr : (Cond.arrayClass (newarray.typeOf atype)) ∈ gtb) {ty : FieldType} (hty : newarray.typeOf atype = ty)
    {n : Int32} {N' : Nat} {a0 : vp_A} (ha : ∀ cA : ClassId, vp_cell cA a0 = arrV cA N' (fun _ => defaultValue ty)) (hn : ¬ n < 0) (hN : n.toNatClampNeg = N') (hbytes : N' * componentBytes ty ≤ 536870912) {ce sl : Nat} (hce : cells + 1 = ce) (hsl : slots + N' = sl) (hcells : ce ≤ R.cells) (hslots : sl ≤ R.slots) (hdg : decode cc pc = .ok (.newarray atype, 2))
    (kk : ∀ (q : Nat) (cA : ClassId) (H1 : Heap), Wd dC dI A (ws ++ [(q, .inl (cA, a0))]) (tys ++ [(cA, ty)]) s H1 locs →
      W p l e R s m args below meth c H1 locs ce sl Q (F0 m (pc + 2) ls (.ref q :: rest))) : W p l e R s m args below meth c H locs cells slots Q (F0 m pc ls (.int n :: rest)) := by
  subst hce
  subst hsl
  exact va_newa (D := (dC, dI)) hf.1 hf.2.1 (hf.2.2.2.2.1 _ harr) hty hw.1 hw.2.1 hw.2.2.1 hw.2.2.2.1 hw.2.2.2.2 ha hn hN hbytes hcells hslots hdg (fun q cA H1 h0 h1 h2 h3 => kk q cA H1 ⟨h0, h1, h2, h3, hw.2.2.2.2⟩)
/-- Object's constructor -/
theorem mobj (hf : Fx p c cc nL s args m own) (hz : ls.size = nL) (hlink : (Cond.methodLink own index objectInit) ∈ gtb) (hinst : (Cond.instanceMethod objectInit) ∈ gtb) (hcode : (Cond.code objectInit ⟨#[0xb1]⟩ 1 none) ∈ gtb) (hd : decode cc pc = .ok (.invokespecial index, 3)) (h1 : 1 ≤ R.frames) (h2 : 12 ≤ R.locals)
    (kk : W p l e R s m args below meth c H locs cells slots Q (F0 m (pc + 3) ls [])) : W p l e R s m args below meth c H locs cells slots Q (F0 m pc ls [.ref a]) := by
  refine W.objInit hf.1 hf.2.1 hf.2.2.2.1 (hf.2.2.2.2.1 _ hlink) (hf.2.2.2.2.1 _ hinst) (hf.2.2.2.2.1 _ hcode) rfl (by rw [hf.2.2.1]; exact hz) rfl hd h1 h2 ?_
  exact kk
end MAC
section MAC2
variable {p : Program} {l : Launch} {e : Env} {R : Room} {s : State} {m : MethodId} {args : Array Value} {below : List Frame} {meth : Method} {c : Code} {H : Heap} {locs : List Loc} {cells slots : Nat} {Q : State → Prop}
variable {cc : ByteArray} {pc : Nat} {ls : Array Slot} {dC : Nat → ClassId} {dI : Nat → Nat → Nat} {A : Nat → Prop} {tys tc tr : List (ClassId × FieldType)} {ws wc wr : va_W} {y : MethodName} {bytes : ByteArray} {maxL nL mc ms n index : Nat} {ret : Option FieldType} {rm : Room} {own C : String} {b a : Addr} {As rest : List Value}
/-- newarray, of which nothing is kept -/
theorem mnewaD (hf : Fx p c cc nL s args m own) (hw : Wd dC dI A ws tys s H locs) {atype : ArrayType} (harr : (Cond.arrayClass (newarray.typeOf atype)) ∈ gtb) {ty : FieldType} (hty : newarray.typeOf atype = ty)
    {n : Int32} {N' : Nat} {a0 : vp_A} (ha : ∀ cA : ClassId, vp_cell cA a0 = arrV cA N' (fun _ => defaultValue ty)) (hn : ¬ n < 0) (hN : n.toNatClampNeg = N') (hbytes : N' * componentBytes ty ≤ 536870912) {ce sl : Nat} (hce : cells + 1 = ce) (hsl : slots + N' = sl) (hcells : ce ≤ R.cells) (hslots : sl ≤ R.slots) (hdg : decode cc pc = .ok (.newarray atype, 2))
    (kk : ∀ (q : Nat) (H1 : Heap), Wd dC dI A ws tys s H1 locs →
      W p l e R s m args below meth c H1 locs ce sl Q (F0 m (pc + 2) ls (.ref q :: rest))) : W p l e R s m args below meth c H locs cells slots Q (F0 m pc ls (.int n :: rest)) := by
  refine mnewa hf hw harr hty ha hn hN hbytes hce hsl hcells hslots hdg (fun q cA H1 h => kk q H1 ?_)
  obtain ⟨hK, hP, hD, hS, hA⟩ := h
  refine ⟨⟨hK.1, fun k x hx => hK.2 k x (by rw [List.getElem?_append_left (List.getElem?_eq_some_iff.mp hx).1]; exact hx)⟩, fun k x hx => hP k x (by rw [List.getElem?_append_left (List.getElem?_eq_some_iff.mp hx).1]; exact hx), ⟨fun i j x z hi hj => hD.1 i j x z (by rw [List.getElem?_append_left (List.getElem?_eq_some_iff.mp hi).1]; exact hi) (by rw [List.getElem?_append_left (List.getElem?_eq_some_iff.mp hj).1]; exact hj), fun k x hx => hD.2 k x (by rw [List.getElem?_append_left (List.getElem?_eq_some_iff.mp hx).1]; exact hx)⟩, hS, hA⟩
theorem miald (hf : Fx p c cc nL s args m own) (hw : Wd dC dI A ws tys s H locs) (q0 t0 : Nat) {cA : ClassId} {n : Nat} {f : Nat → Int32} (ha : ws[q0]? = some (a, .inl (cA, n, .inl f))) (ht : tys[t0]? = some (cA, .int)) {i : Int32} (hin : vp_in i n) (hdg : decode cc pc = .ok (.iaload, 1))
    (kk : W p l e R s m args below meth c H locs cells slots Q (F0 m (pc + 1) ls (.int (f i.toNatClampNeg) :: rest))) : W p l e R s m args below meth c H locs cells slots Q (F0 m pc ls (.int i :: .ref a :: rest)) :=
  va_iald (D := (dC, dI)) hf.1 hf.2.1 hw.1 hw.2.1 q0 t0 ha ht hin hdg kk
theorem mbald (hf : Fx p c cc nL s args m own) (hw : Wd dC dI A ws tys s H locs) (q0 t0 : Nat) {cA : ClassId} {n : Nat} {f : Nat → Int32} (ha : ws[q0]? = some (a, .inl (cA, n, .inl f))) (ht : tys[t0]? = some (cA, .byte)) {i : Int32} (hin : vp_in i n) (hdg : decode cc pc = .ok (.baload, 1))
    (kk : W p l e R s m args below meth c H locs cells slots Q (F0 m (pc + 1) ls (.int (f i.toNatClampNeg) :: rest))) : W p l e R s m args below meth c H locs cells slots Q (F0 m pc ls (.int i :: .ref a :: rest)) :=
  va_bald (D := (dC, dI)) hf.1 hf.2.1 hw.1 hw.2.1 q0 t0 ha ht hin hdg kk
theorem mzald (hf : Fx p c cc nL s args m own) (hw : Wd dC dI A ws tys s H locs) (q0 t0 : Nat) {cA : ClassId} {n : Nat} {f : Nat → Int32} (ha : ws[q0]? = some (a, .inl (cA, n, .inl f))) (ht : tys[t0]? = some (cA, .boolean)) {i : Int32} (hin : vp_in i n) (hdg : decode cc pc = .ok (.baload, 1))
    (kk : W p l e R s m args below meth c H locs cells slots Q (F0 m (pc + 1) ls (.int (f i.toNatClampNeg) :: rest))) : W p l e R s m args below meth c H locs cells slots Q (F0 m pc ls (.int i :: .ref a :: rest)) :=
  va_zald (D := (dC, dI)) hf.1 hf.2.1 hw.1 hw.2.1 q0 t0 ha ht hin hdg kk
theorem mlald (hf : Fx p c cc nL s args m own) (hw : Wd dC dI A ws tys s H locs) (q0 t0 : Nat) {cA : ClassId} {n : Nat} {f : Nat → Int64} (ha : ws[q0]? = some (a, .inl (cA, n, .inr (.inl f)))) (ht : tys[t0]? = some (cA, .long)) {i : Int32} (hin : vp_in i n) (hdg : decode cc pc = .ok (.laload, 1))
    (kk : W p l e R s m args below meth c H locs cells slots Q (F0 m (pc + 1) ls (.long (f i.toNatClampNeg) :: rest))) : W p l e R s m args below meth c H locs cells slots Q (F0 m pc ls (.int i :: .ref a :: rest)) :=
  va_lald (D := (dC, dI)) hf.1 hf.2.1 hw.1 hw.2.1 q0 t0 ha ht hin hdg kk
theorem miast (hf : Fx p c cc nL s args m own) (hw : Wd dC dI A ws tys s H locs) (q0 t0 : Nat) {cA : ClassId} {n : Nat} {f : Nat → Int32} (ha : ws[q0]? = some (a, .inl (cA, n, .inl f))) (ht : tys[t0]? = some (cA, .int)) {i : Int32} {x : Int32} (hin : vp_in i n) (hdg : decode cc pc = .ok (.iastore, 1))
    (kk : ∀ (f1 : Nat → Int32), f1 = (upd f i.toNatClampNeg x) → ∀ (H1 : Heap) (locs1 : List Loc), Wd dC dI A (ws.set q0 (a, .inl (cA, n, .inl f1))) tys s H1 locs1 → W p l e R s m args below meth c H1 locs1 cells slots Q (F0 m (pc + 1) ls rest)) : W p l e R s m args below meth c H locs cells slots Q (F0 m pc ls (.int x :: .int i :: .ref a :: rest)) :=
  va_iast (D := (dC, dI)) hf.1 hf.2.1 hw.1 hw.2.1 hw.2.2.1 hw.2.2.2.1 q0 t0 ha ht hin hdg (fun H1 locs1 h1 h2 h3 => kk _ rfl H1 locs1 ⟨hw.1, h1, h2, h3, hw.2.2.2.2⟩)
theorem mbast (hf : Fx p c cc nL s args m own) (hw : Wd dC dI A ws tys s H locs) (q0 t0 : Nat) {cA : ClassId} {n : Nat} {f : Nat → Int32} (ha : ws[q0]? = some (a, .inl (cA, n, .inl f))) (ht : tys[t0]? = some (cA, .byte)) {i : Int32} {x : Int32} (hin : vp_in i n) (hdg : decode cc pc = .ok (.bastore, 1))
    (kk : ∀ (f1 : Nat → Int32), f1 = (upd f i.toNatClampNeg (vp_nar .byte x)) → ∀ (H1 : Heap) (locs1 : List Loc), Wd dC dI A (ws.set q0 (a, .inl (cA, n, .inl f1))) tys s H1 locs1 → W p l e R s m args below meth c H1 locs1 cells slots Q (F0 m (pc + 1) ls rest)) : W p l e R s m args below meth c H locs cells slots Q (F0 m pc ls (.int x :: .int i :: .ref a :: rest)) :=
  va_bast (D := (dC, dI)) hf.1 hf.2.1 hw.1 hw.2.1 hw.2.2.1 hw.2.2.2.1 q0 t0 ha ht hin hdg (fun H1 locs1 h1 h2 h3 => kk _ rfl H1 locs1 ⟨hw.1, h1, h2, h3, hw.2.2.2.2⟩)
theorem mzast (hf : Fx p c cc nL s args m own) (hw : Wd dC dI A ws tys s H locs) (q0 t0 : Nat) {cA : ClassId} {n : Nat} {f : Nat → Int32} (ha : ws[q0]? = some (a, .inl (cA, n, .inl f))) (ht : tys[t0]? = some (cA, .boolean)) {i : Int32} {x : Int32} (hin : vp_in i n) (hdg : decode cc pc = .ok (.bastore, 1))
    (kk : ∀ (f1 : Nat → Int32), f1 = (upd f i.toNatClampNeg (vp_nar .boolean x)) → ∀ (H1 : Heap) (locs1 : List Loc), Wd dC dI A (ws.set q0 (a, .inl (cA, n, .inl f1))) tys s H1 locs1 → W p l e R s m args below meth c H1 locs1 cells slots Q (F0 m (pc + 1) ls rest)) : W p l e R s m args below meth c H locs cells slots Q (F0 m pc ls (.int x :: .int i :: .ref a :: rest)) :=
  va_zast (D := (dC, dI)) hf.1 hf.2.1 hw.1 hw.2.1 hw.2.2.1 hw.2.2.2.1 q0 t0 ha ht hin hdg (fun H1 locs1 h1 h2 h3 => kk _ rfl H1 locs1 ⟨hw.1, h1, h2, h3, hw.2.2.2.2⟩)
theorem mlast (hf : Fx p c cc nL s args m own) (hw : Wd dC dI A ws tys s H locs) (q0 t0 : Nat) {cA : ClassId} {n : Nat} {f : Nat → Int64} (ha : ws[q0]? = some (a, .inl (cA, n, .inr (.inl f)))) (ht : tys[t0]? = some (cA, .long)) {i : Int32} {x : Int64} (hin : vp_in i n) (hdg : decode cc pc = .ok (.lastore, 1))
    (kk : ∀ (f1 : Nat → Int64), f1 = (vp_updL f i.toNatClampNeg x) → ∀ (H1 : Heap) (locs1 : List Loc), Wd dC dI A (ws.set q0 (a, .inl (cA, n, .inr (.inl f1)))) tys s H1 locs1 → W p l e R s m args below meth c H1 locs1 cells slots Q (F0 m (pc + 1) ls rest)) : W p l e R s m args below meth c H locs cells slots Q (F0 m pc ls (.long x :: .int i :: .ref a :: rest)) :=
  va_last (D := (dC, dI)) hf.1 hf.2.1 hw.1 hw.2.1 hw.2.2.1 hw.2.2.2.1 q0 t0 ha ht hin hdg (fun H1 locs1 h1 h2 h3 => kk _ rfl H1 locs1 ⟨hw.1, h1, h2, h3, hw.2.2.2.2⟩)
theorem malen (hf : Fx p c cc nL s args m own) (hw : Wd dC dI A ws tys s H locs) (q0 t0 : Nat) {cA : ClassId} {x : vp_A} (ha : ws[q0]? = some (a, .inl (cA, x))) {ty : FieldType} (ht : tys[t0]? = some (cA, ty)) {v : Int32} (hv : Int32.ofNat x.1 = v) (hdg : decode cc pc = .ok (.arraylength, 1))
    (kk : W p l e R s m args below meth c H locs cells slots Q (F0 m (pc + 1) ls (.int v :: rest))) : W p l e R s m args below meth c H locs cells slots Q (F0 m pc ls (.ref a :: rest)) :=
  va_alen (D := (dC, dI)) hf.1 hf.2.1 hw.1 hw.2.1 q0 t0 ha ht hv hdg kk
end MAC2
/-- what the tables say of a callee -/
def KA (y : MethodName) (bytes : ByteArray) (maxL : Nat) (ret : Option FieldType) (n : Nat) : Prop := Cond.code y bytes maxL ret ∈ gtb ∧ Cond.initialized y.cls ∈ gtb ∧ y.cls ≠ "java/lang/invoke/MethodHandle" ∧ y.cls ≠ "java/lang/invoke/VarHandle" ∧ (parseMethodDescriptor y.desc).map (fun d => d.parameters.length) = some n
def KV (y : MethodName) : Prop := Cond.instanceMethod y ∈ gtb ∧ Cond.selects y.cls y y ∈ gtb
theorem wsOf_good {y : MethodName} {bytes : ByteArray} {maxL n : Nat} {ret : Option FieldType} (h : KA y bytes maxL ret n) : GoodIn gtb (wsOf y bytes maxL ret) := by
  intro w hw
  rcases List.mem_cons.mp hw with rfl | hw
  · exact gtb_good _ h.1
  · exact gtb_good w hw
section MAC3
variable {p : Program} {l : Launch} {e : Env} {R : Room} {s : State} {m : MethodId} {args : Array Value} {below : List Frame} {meth : Method} {c : Code} {H : Heap} {locs : List Loc} {cells slots : Nat} {Q : State → Prop}
variable {cc : ByteArray} {pc : Nat} {ls : Array Slot} {dC : Nat → ClassId} {dI : Nat → Nat → Nat} {A : Nat → Prop} {tys tc tr : List (ClassId × FieldType)} {ws wc wr : va_W} {y : MethodName} {bytes : ByteArray} {maxL nL mc ms n index : Nat} {ret : Option FieldType} {rm : Room} {own host : String} {b a : Addr} {As rest st0 : List Value}
theorem mcallB (hf : Fx p c cc nL s args m own) (hk : KA y bytes maxL ret n) (hrc : rm.cells = mc) (hrs : rm.slots = ms) (hlink : Cond.methodLink own index y ∈ gtb) (hR : rm.frames + 1 ≤ R.frames ∧ 8 + (maxL + 11) + rm.locals ≤ R.locals) : CallB R s args own index y bytes maxL ret (wsOf y bytes maxL ret) rm mc ms n :=
  callB_of n hf.2.2.2.2.1 (wsOf_good hk) rfl hrc hrs (hf.2.2.2.2.1 _ hk.2.1) (hf.2.2.2.2.1 _ hlink) hk.2.2 hR
theorem mcallN (hf : Fx p c cc nL s args m own) (hk : KA y bytes maxL ret n) (hrc : rm.cells = mc) (hrs : rm.slots = ms) (hlink : Cond.methodLinkNest own index y host ∈ lw_tbl) (hR : rm.frames + 1 ≤ R.frames ∧ 8 + (maxL + 11) + rm.locals ≤ R.locals) : va_CN R s args own index y host bytes maxL ret (wsOf y bytes maxL ret) rm mc ms n :=
  va_cnB n hf.2.2.2.2.1 (wsOf_good hk) rfl hrc hrs (hf.2.2.2.2.2 _ hlink rfl) (hf.2.2.2.2.1 _ hk.2.1) hk.2.2 hR
theorem mpre (hf : Fx p c cc nL s args m own) (hw : Wd dC dI A ws tys s H locs) (isC tC : List Nat) (hC : isC.map (fun i => ws[i]?) = wc.map some) (hn : va_nd isC = true) (htc : tC.filterMap (fun i => tys[i]?) = tc) {av : List Value} : ∀ U : State, U.heap = H → s.WarmedH U.vm → va_Pc av (PB dC dI H.size wc tc) av.toArray U := by
  intro U hU hW
  obtain ⟨hK, hP, hD, hS, hA⟩ := hw.pick isC tC hn hC htc
  exact ⟨rfl, by rw [hU], by rw [hU]; exact hP, va_K.moved hW.alike hK, hD.weaken (fun _ _ _ _ => trivial), nk_warm hW hf.2.2.2.2.2⟩
theorem mrecv (hw : Wd dC dI A ws tys s H locs) {C : String} {T : u_T} {N ci : Nat} (q0 : Nat) {fs : List Value} (he : ws[q0]? = some (b, .inr (ci, fs))) (hc : classes[ci]? = some (C, T, N)) : ∃ cellB : Cell, H[b]? = some cellB ∧ cellB.vm.isStatics = false ∧ s.vm.findClass C = some cellB.cls :=
  va_recv (q := (C, T, N)) hw.1 hw.2.1 hc he
/-- behind a call: the frame -/
theorem mback {X : Type} {w1 : X → va_W} {t1 : X → List (ClassId × FieldType)} (hw : Wd dC dI A ws tys s H locs) (isC isR tR : List Nat) (hC : isC.map (fun i => ws[i]?) = wc.map some) (hRr : isR.map (fun i => ws[i]?) = wr.map some) (hn : va_nd isR = true) (hdis : ∀ i ∈ isR, i ∉ isC) (htr : tR.filterMap (fun i => tys[i]?) = tr)
    {x : X} {t : State} {H1 : Heap} {locs1 : List Loc} (ht : t.heap = H1) (hvm : s.vm.Alike t.vm) (hB : PW dC dI (va_A wc H.size) (w1 x) (t1 x) t) (hk1 : ∀ q : Nat, q < H.size → ¬ va_A wc H.size q → H1[q]? = H[q]?) (hS1 : va_S A s.heap H1 locs1) : Wd dC dI A (wr ++ w1 x) (tr ++ t1 x) s H1 locs1 := by
  obtain ⟨hK, hP, hD, hS, hA⟩ := hw
  obtain ⟨hP1, hK1, hD1⟩ := hB
  rw [ht] at hP1
  have hK1 := va_K.moved hvm.symm hK1
  have hFc := va_free (wc := wc) hD hS hA isC hC
  obtain ⟨hP', hD'⟩ := va_join (wr := wr) (w1 := w1 x) hP hD isC isR hC hRr hn hdis hk1 hFc hP1 hD1
  exact ⟨(hK.sub (tys' := tr) tR htr).app hK1, hP', hD', hS1, hA⟩
theorem mV_v {X : Type} {φ : X → Prop} {w1 : X → va_W} {t1 : X → List (ClassId × FieldType)} (hf : Fx p c cc nL s args m own) (hw : Wd dC dI A ws tys s H locs)
    (hM : Met l y (wsOf y bytes maxL ret) rm (va_Pc (Value.ref b :: As) (PB dC dI H.size wc tc)) (va_Qv φ (fun x t => PW dC dI (va_A wc H.size) (w1 x) (t1 x) t) (va_A wc H.size)) mc ms (va_A wc H.size)) (hk : KA y bytes maxL ret n) (hv : KV y) {T : u_T} {N ci : Nat} (q0 : Nat) {fs : List Value} (he : ws[q0]? = some (b, .inr (ci, fs))) (hc : classes[ci]? = some (y.cls, T, N)) (hlink : Cond.methodLink own index y ∈ gtb)
    (isC tC isR tR : List Nat) (hC : isC.map (fun i => ws[i]?) = wc.map some) (hnC : va_nd isC = true) (htc : tC.filterMap (fun i => tys[i]?) = tc) (hRr : isR.map (fun i => ws[i]?) = wr.map some) (hnR : va_nd isR = true) (hdis : ∀ i ∈ isR, i ∉ isC) (htr : tR.filterMap (fun i => tys[i]?) = tr)
    (hst : st0 = As.reverse ++ .ref b :: rest) (hn : As.length = n) (hz : ls.size = nL) (hrc : rm.cells = mc) (hrs : rm.slots = ms) (hR : rm.frames + 1 ≤ R.frames ∧ 8 + (maxL + 11) + rm.locals ≤ R.locals) (hcat : (rest.map fun v => v.category).sum ≤ 8) {ce sl : Nat} (hce : cells + mc = ce) (hsl : slots + ms = sl) (hcells : ce ≤ R.cells ∧ sl ≤ R.slots) (hdg : decode cc pc = .ok (.invokevirtual index, 3))
    (kk : ∀ (x : X), φ x → ∀ (H1 : Heap) (locs1 : List Loc), Wd dC dI A (wr ++ w1 x) (tr ++ t1 x) s H1 locs1 → W p l e R s m args below meth c H1 locs1 ce sl Q (F0 m (pc + 3) ls (rest))) : W p l e R s m args below meth c H locs cells slots Q (F0 m pc ls st0) := by
  subst hst
  subst hce
  subst hsl
  have hFc := va_free (wc := wc) hw.2.2.1 hw.2.2.2.1 hw.2.2.2.2 isC hC
  exact va_callv (va_runV (C := y.cls) (As := As) (rest := rest) ⟨hf.1, hf.2.1, hf.2.2.1, hf.2.2.2.1, hf.2.2.2.2.1⟩ hM ⟨mcallB hf hk hrc hrs hlink hR, hf.2.2.2.2.1 _ hv.1, hf.2.2.2.2.1 _ hv.2⟩ ⟨PB_blind, mrecv hw q0 he hc, mpre hf hw isC tC hC hnC htc⟩ rfl hn hz rfl (lv_room hcat) hdg hcells) hw.2.2.2.1 (fun q _ h => hFc q h) hFc (fun x t H1 locs1 ht hvm hφ hB hz1 hk1 hS1 => kk x hφ H1 locs1 (mback hw isC isR tR hC hRr hnR hdis htr ht hvm hB hk1 hS1))
theorem mV_i {X : Type} {φ : Int32 → X → Prop} {w1 : X → va_W} {t1 : X → List (ClassId × FieldType)} (hf : Fx p c cc nL s args m own) (hw : Wd dC dI A ws tys s H locs)
    (hM : Met l y (wsOf y bytes maxL ret) rm (va_Pc (Value.ref b :: As) (PB dC dI H.size wc tc)) (va_Qi φ (fun x t => PW dC dI (va_A wc H.size) (w1 x) (t1 x) t) (va_A wc H.size)) mc ms (va_A wc H.size)) (hk : KA y bytes maxL ret n) (hv : KV y) {T : u_T} {N ci : Nat} (q0 : Nat) {fs : List Value} (he : ws[q0]? = some (b, .inr (ci, fs))) (hc : classes[ci]? = some (y.cls, T, N)) (hlink : Cond.methodLink own index y ∈ gtb)
    (isC tC isR tR : List Nat) (hC : isC.map (fun i => ws[i]?) = wc.map some) (hnC : va_nd isC = true) (htc : tC.filterMap (fun i => tys[i]?) = tc) (hRr : isR.map (fun i => ws[i]?) = wr.map some) (hnR : va_nd isR = true) (hdis : ∀ i ∈ isR, i ∉ isC) (htr : tR.filterMap (fun i => tys[i]?) = tr)
    (hst : st0 = As.reverse ++ .ref b :: rest) (hn : As.length = n) (hz : ls.size = nL) (hrc : rm.cells = mc) (hrs : rm.slots = ms) (hR : rm.frames + 1 ≤ R.frames ∧ 8 + (maxL + 11) + rm.locals ≤ R.locals) (hcat : (rest.map fun v => v.category).sum ≤ 8) {ce sl : Nat} (hce : cells + mc = ce) (hsl : slots + ms = sl) (hcells : ce ≤ R.cells ∧ sl ≤ R.slots) (hdg : decode cc pc = .ok (.invokevirtual index, 3))
    (kk : ∀ (r : Int32) (x : X), φ r x → ∀ (H1 : Heap) (locs1 : List Loc), Wd dC dI A (wr ++ w1 x) (tr ++ t1 x) s H1 locs1 → W p l e R s m args below meth c H1 locs1 ce sl Q (F0 m (pc + 3) ls (.int r :: rest))) : W p l e R s m args below meth c H locs cells slots Q (F0 m pc ls st0) := by
  subst hst
  subst hce
  subst hsl
  have hFc := va_free (wc := wc) hw.2.2.1 hw.2.2.2.1 hw.2.2.2.2 isC hC
  exact va_calli (va_runV (C := y.cls) (As := As) (rest := rest) ⟨hf.1, hf.2.1, hf.2.2.1, hf.2.2.2.1, hf.2.2.2.2.1⟩ hM ⟨mcallB hf hk hrc hrs hlink hR, hf.2.2.2.2.1 _ hv.1, hf.2.2.2.2.1 _ hv.2⟩ ⟨PB_blind, mrecv hw q0 he hc, mpre hf hw isC tC hC hnC htc⟩ rfl hn hz rfl (lv_room hcat) hdg hcells) hw.2.2.2.1 (fun q _ h => hFc q h) hFc (fun r x t H1 locs1 ht hvm hφ hB hz1 hk1 hS1 => kk r x hφ H1 locs1 (mback hw isC isR tR hC hRr hnR hdis htr ht hvm hB hk1 hS1))
theorem mV_l {X : Type} {φ : Int64 → X → Prop} {w1 : X → va_W} {t1 : X → List (ClassId × FieldType)} (hf : Fx p c cc nL s args m own) (hw : Wd dC dI A ws tys s H locs)
    (hM : Met l y (wsOf y bytes maxL ret) rm (va_Pc (Value.ref b :: As) (PB dC dI H.size wc tc)) (va_Ql φ (fun x t => PW dC dI (va_A wc H.size) (w1 x) (t1 x) t) (va_A wc H.size)) mc ms (va_A wc H.size)) (hk : KA y bytes maxL ret n) (hv : KV y) {T : u_T} {N ci : Nat} (q0 : Nat) {fs : List Value} (he : ws[q0]? = some (b, .inr (ci, fs))) (hc : classes[ci]? = some (y.cls, T, N)) (hlink : Cond.methodLink own index y ∈ gtb)
    (isC tC isR tR : List Nat) (hC : isC.map (fun i => ws[i]?) = wc.map some) (hnC : va_nd isC = true) (htc : tC.filterMap (fun i => tys[i]?) = tc) (hRr : isR.map (fun i => ws[i]?) = wr.map some) (hnR : va_nd isR = true) (hdis : ∀ i ∈ isR, i ∉ isC) (htr : tR.filterMap (fun i => tys[i]?) = tr)
    (hst : st0 = As.reverse ++ .ref b :: rest) (hn : As.length = n) (hz : ls.size = nL) (hrc : rm.cells = mc) (hrs : rm.slots = ms) (hR : rm.frames + 1 ≤ R.frames ∧ 8 + (maxL + 11) + rm.locals ≤ R.locals) (hcat : (rest.map fun v => v.category).sum ≤ 8) {ce sl : Nat} (hce : cells + mc = ce) (hsl : slots + ms = sl) (hcells : ce ≤ R.cells ∧ sl ≤ R.slots) (hdg : decode cc pc = .ok (.invokevirtual index, 3))
    (kk : ∀ (r : Int64) (x : X), φ r x → ∀ (H1 : Heap) (locs1 : List Loc), Wd dC dI A (wr ++ w1 x) (tr ++ t1 x) s H1 locs1 → W p l e R s m args below meth c H1 locs1 ce sl Q (F0 m (pc + 3) ls (.long r :: rest))) : W p l e R s m args below meth c H locs cells slots Q (F0 m pc ls st0) := by
  subst hst
  subst hce
  subst hsl
  have hFc := va_free (wc := wc) hw.2.2.1 hw.2.2.2.1 hw.2.2.2.2 isC hC
  exact va_calll (va_runV (C := y.cls) (As := As) (rest := rest) ⟨hf.1, hf.2.1, hf.2.2.1, hf.2.2.2.1, hf.2.2.2.2.1⟩ hM ⟨mcallB hf hk hrc hrs hlink hR, hf.2.2.2.2.1 _ hv.1, hf.2.2.2.2.1 _ hv.2⟩ ⟨PB_blind, mrecv hw q0 he hc, mpre hf hw isC tC hC hnC htc⟩ rfl hn hz rfl (lv_room hcat) hdg hcells) hw.2.2.2.1 (fun q _ h => hFc q h) hFc (fun r x t H1 locs1 ht hvm hφ hB hz1 hk1 hS1 => kk r x hφ H1 locs1 (mback hw isC isR tR hC hRr hnR hdis htr ht hvm hB hk1 hS1))
theorem mVN_v {X : Type} {φ : X → Prop} {w1 : X → va_W} {t1 : X → List (ClassId × FieldType)} (hf : Fx p c cc nL s args m own) (hw : Wd dC dI A ws tys s H locs)
    (hM : Met l y (wsOf y bytes maxL ret) rm (va_Pc (Value.ref b :: As) (PB dC dI H.size wc tc)) (va_Qv φ (fun x t => PW dC dI (va_A wc H.size) (w1 x) (t1 x) t) (va_A wc H.size)) mc ms (va_A wc H.size)) (hk : KA y bytes maxL ret n) (hv : KV y) {T : u_T} {N ci : Nat} (q0 : Nat) {fs : List Value} (he : ws[q0]? = some (b, .inr (ci, fs))) (hc : classes[ci]? = some (y.cls, T, N)) (hlink : Cond.methodLinkNest own index y host ∈ lw_tbl)
    (isC tC isR tR : List Nat) (hC : isC.map (fun i => ws[i]?) = wc.map some) (hnC : va_nd isC = true) (htc : tC.filterMap (fun i => tys[i]?) = tc) (hRr : isR.map (fun i => ws[i]?) = wr.map some) (hnR : va_nd isR = true) (hdis : ∀ i ∈ isR, i ∉ isC) (htr : tR.filterMap (fun i => tys[i]?) = tr)
    (hst : st0 = As.reverse ++ .ref b :: rest) (hn : As.length = n) (hz : ls.size = nL) (hrc : rm.cells = mc) (hrs : rm.slots = ms) (hR : rm.frames + 1 ≤ R.frames ∧ 8 + (maxL + 11) + rm.locals ≤ R.locals) (hcat : (rest.map fun v => v.category).sum ≤ 8) {ce sl : Nat} (hce : cells + mc = ce) (hsl : slots + ms = sl) (hcells : ce ≤ R.cells ∧ sl ≤ R.slots) (hdg : decode cc pc = .ok (.invokevirtual index, 3))
    (kk : ∀ (x : X), φ x → ∀ (H1 : Heap) (locs1 : List Loc), Wd dC dI A (wr ++ w1 x) (tr ++ t1 x) s H1 locs1 → W p l e R s m args below meth c H1 locs1 ce sl Q (F0 m (pc + 3) ls (rest))) : W p l e R s m args below meth c H locs cells slots Q (F0 m pc ls st0) := by
  subst hst
  subst hce
  subst hsl
  have hFc := va_free (wc := wc) hw.2.2.1 hw.2.2.2.1 hw.2.2.2.2 isC hC
  exact va_callv (va_runVN (C := y.cls) (As := As) (rest := rest) ⟨hf.1, hf.2.1, hf.2.2.1, hf.2.2.2.1, hf.2.2.2.2.1⟩ hM ⟨mcallN hf hk hrc hrs hlink hR, hf.2.2.2.2.1 _ hv.1, hf.2.2.2.2.1 _ hv.2⟩ ⟨PB_blind, mrecv hw q0 he hc, mpre hf hw isC tC hC hnC htc⟩ rfl hn hz rfl (lv_room hcat) hdg hcells) hw.2.2.2.1 (fun q _ h => hFc q h) hFc (fun x t H1 locs1 ht hvm hφ hB hz1 hk1 hS1 => kk x hφ H1 locs1 (mback hw isC isR tR hC hRr hnR hdis htr ht hvm hB hk1 hS1))
theorem mVN_i {X : Type} {φ : Int32 → X → Prop} {w1 : X → va_W} {t1 : X → List (ClassId × FieldType)} (hf : Fx p c cc nL s args m own) (hw : Wd dC dI A ws tys s H locs)
    (hM : Met l y (wsOf y bytes maxL ret) rm (va_Pc (Value.ref b :: As) (PB dC dI H.size wc tc)) (va_Qi φ (fun x t => PW dC dI (va_A wc H.size) (w1 x) (t1 x) t) (va_A wc H.size)) mc ms (va_A wc H.size)) (hk : KA y bytes maxL ret n) (hv : KV y) {T : u_T} {N ci : Nat} (q0 : Nat) {fs : List Value} (he : ws[q0]? = some (b, .inr (ci, fs))) (hc : classes[ci]? = some (y.cls, T, N)) (hlink : Cond.methodLinkNest own index y host ∈ lw_tbl)
    (isC tC isR tR : List Nat) (hC : isC.map (fun i => ws[i]?) = wc.map some) (hnC : va_nd isC = true) (htc : tC.filterMap (fun i => tys[i]?) = tc) (hRr : isR.map (fun i => ws[i]?) = wr.map some) (hnR : va_nd isR = true) (hdis : ∀ i ∈ isR, i ∉ isC) (htr : tR.filterMap (fun i => tys[i]?) = tr)
    (hst : st0 = As.reverse ++ .ref b :: rest) (hn : As.length = n) (hz : ls.size = nL) (hrc : rm.cells = mc) (hrs : rm.slots = ms) (hR : rm.frames + 1 ≤ R.frames ∧ 8 + (maxL + 11) + rm.locals ≤ R.locals) (hcat : (rest.map fun v => v.category).sum ≤ 8) {ce sl : Nat} (hce : cells + mc = ce) (hsl : slots + ms = sl) (hcells : ce ≤ R.cells ∧ sl ≤ R.slots) (hdg : decode cc pc = .ok (.invokevirtual index, 3))
    (kk : ∀ (r : Int32) (x : X), φ r x → ∀ (H1 : Heap) (locs1 : List Loc), Wd dC dI A (wr ++ w1 x) (tr ++ t1 x) s H1 locs1 → W p l e R s m args below meth c H1 locs1 ce sl Q (F0 m (pc + 3) ls (.int r :: rest))) : W p l e R s m args below meth c H locs cells slots Q (F0 m pc ls st0) := by
  subst hst
  subst hce
  subst hsl
  have hFc := va_free (wc := wc) hw.2.2.1 hw.2.2.2.1 hw.2.2.2.2 isC hC
  exact va_calli (va_runVN (C := y.cls) (As := As) (rest := rest) ⟨hf.1, hf.2.1, hf.2.2.1, hf.2.2.2.1, hf.2.2.2.2.1⟩ hM ⟨mcallN hf hk hrc hrs hlink hR, hf.2.2.2.2.1 _ hv.1, hf.2.2.2.2.1 _ hv.2⟩ ⟨PB_blind, mrecv hw q0 he hc, mpre hf hw isC tC hC hnC htc⟩ rfl hn hz rfl (lv_room hcat) hdg hcells) hw.2.2.2.1 (fun q _ h => hFc q h) hFc (fun r x t H1 locs1 ht hvm hφ hB hz1 hk1 hS1 => kk r x hφ H1 locs1 (mback hw isC isR tR hC hRr hnR hdis htr ht hvm hB hk1 hS1))
theorem mVN_l {X : Type} {φ : Int64 → X → Prop} {w1 : X → va_W} {t1 : X → List (ClassId × FieldType)} (hf : Fx p c cc nL s args m own) (hw : Wd dC dI A ws tys s H locs)
    (hM : Met l y (wsOf y bytes maxL ret) rm (va_Pc (Value.ref b :: As) (PB dC dI H.size wc tc)) (va_Ql φ (fun x t => PW dC dI (va_A wc H.size) (w1 x) (t1 x) t) (va_A wc H.size)) mc ms (va_A wc H.size)) (hk : KA y bytes maxL ret n) (hv : KV y) {T : u_T} {N ci : Nat} (q0 : Nat) {fs : List Value} (he : ws[q0]? = some (b, .inr (ci, fs))) (hc : classes[ci]? = some (y.cls, T, N)) (hlink : Cond.methodLinkNest own index y host ∈ lw_tbl)
    (isC tC isR tR : List Nat) (hC : isC.map (fun i => ws[i]?) = wc.map some) (hnC : va_nd isC = true) (htc : tC.filterMap (fun i => tys[i]?) = tc) (hRr : isR.map (fun i => ws[i]?) = wr.map some) (hnR : va_nd isR = true) (hdis : ∀ i ∈ isR, i ∉ isC) (htr : tR.filterMap (fun i => tys[i]?) = tr)
    (hst : st0 = As.reverse ++ .ref b :: rest) (hn : As.length = n) (hz : ls.size = nL) (hrc : rm.cells = mc) (hrs : rm.slots = ms) (hR : rm.frames + 1 ≤ R.frames ∧ 8 + (maxL + 11) + rm.locals ≤ R.locals) (hcat : (rest.map fun v => v.category).sum ≤ 8) {ce sl : Nat} (hce : cells + mc = ce) (hsl : slots + ms = sl) (hcells : ce ≤ R.cells ∧ sl ≤ R.slots) (hdg : decode cc pc = .ok (.invokevirtual index, 3))
    (kk : ∀ (r : Int64) (x : X), φ r x → ∀ (H1 : Heap) (locs1 : List Loc), Wd dC dI A (wr ++ w1 x) (tr ++ t1 x) s H1 locs1 → W p l e R s m args below meth c H1 locs1 ce sl Q (F0 m (pc + 3) ls (.long r :: rest))) : W p l e R s m args below meth c H locs cells slots Q (F0 m pc ls st0) := by
  subst hst
  subst hce
  subst hsl
  have hFc := va_free (wc := wc) hw.2.2.1 hw.2.2.2.1 hw.2.2.2.2 isC hC
  exact va_calll (va_runVN (C := y.cls) (As := As) (rest := rest) ⟨hf.1, hf.2.1, hf.2.2.1, hf.2.2.2.1, hf.2.2.2.2.1⟩ hM ⟨mcallN hf hk hrc hrs hlink hR, hf.2.2.2.2.1 _ hv.1, hf.2.2.2.2.1 _ hv.2⟩ ⟨PB_blind, mrecv hw q0 he hc, mpre hf hw isC tC hC hnC htc⟩ rfl hn hz rfl (lv_room hcat) hdg hcells) hw.2.2.2.1 (fun q _ h => hFc q h) hFc (fun r x t H1 locs1 ht hvm hφ hB hz1 hk1 hS1 => kk r x hφ H1 locs1 (mback hw isC isR tR hC hRr hnR hdis htr ht hvm hB hk1 hS1))
theorem mS_v {X : Type} {φ : X → Prop} {w1 : X → va_W} {t1 : X → List (ClassId × FieldType)} (hf : Fx p c cc nL s args m own) (hw : Wd dC dI A ws tys s H locs)
    (hM : Met l y (wsOf y bytes maxL ret) rm (va_Pc As (PB dC dI H.size wc tc)) (va_Qv φ (fun x t => PW dC dI (va_A wc H.size) (w1 x) (t1 x) t) (va_A wc H.size)) mc ms (va_A wc H.size)) (hk : KA y bytes maxL ret n) (hv : Cond.static y ∈ gtb) (hlink : Cond.methodLink own index y ∈ gtb)
    (isC tC isR tR : List Nat) (hC : isC.map (fun i => ws[i]?) = wc.map some) (hnC : va_nd isC = true) (htc : tC.filterMap (fun i => tys[i]?) = tc) (hRr : isR.map (fun i => ws[i]?) = wr.map some) (hnR : va_nd isR = true) (hdis : ∀ i ∈ isR, i ∉ isC) (htr : tR.filterMap (fun i => tys[i]?) = tr)
    (hst : st0 = As.reverse ++ rest) (hn : As.length = n) (hz : ls.size = nL) (hrc : rm.cells = mc) (hrs : rm.slots = ms) (hR : rm.frames + 1 ≤ R.frames ∧ 8 + (maxL + 11) + rm.locals ≤ R.locals) (hcat : (rest.map fun v => v.category).sum ≤ 8) {ce sl : Nat} (hce : cells + mc = ce) (hsl : slots + ms = sl) (hcells : ce ≤ R.cells ∧ sl ≤ R.slots) (hdg : decode cc pc = .ok (.invokestatic index, 3))
    (kk : ∀ (x : X), φ x → ∀ (H1 : Heap) (locs1 : List Loc), Wd dC dI A (wr ++ w1 x) (tr ++ t1 x) s H1 locs1 → W p l e R s m args below meth c H1 locs1 ce sl Q (F0 m (pc + 3) ls (rest))) : W p l e R s m args below meth c H locs cells slots Q (F0 m pc ls st0) := by
  subst hst
  subst hce
  subst hsl
  have hFc := va_free (wc := wc) hw.2.2.1 hw.2.2.2.1 hw.2.2.2.2 isC hC
  exact va_callv (va_runS (As := As) (rest := rest) ⟨hf.1, hf.2.1, hf.2.2.1, hf.2.2.2.1, hf.2.2.2.2.1⟩ hM ⟨mcallB hf hk hrc hrs hlink hR, hf.2.2.2.2.1 _ hv⟩ ⟨PB_blind, mpre hf hw isC tC hC hnC htc⟩ rfl hn hz rfl (lv_room hcat) hdg hcells) hw.2.2.2.1 (fun q _ h => hFc q h) hFc (fun x t H1 locs1 ht hvm hφ hB hz1 hk1 hS1 => kk x hφ H1 locs1 (mback hw isC isR tR hC hRr hnR hdis htr ht hvm hB hk1 hS1))
theorem mS_i {X : Type} {φ : Int32 → X → Prop} {w1 : X → va_W} {t1 : X → List (ClassId × FieldType)} (hf : Fx p c cc nL s args m own) (hw : Wd dC dI A ws tys s H locs)
    (hM : Met l y (wsOf y bytes maxL ret) rm (va_Pc As (PB dC dI H.size wc tc)) (va_Qi φ (fun x t => PW dC dI (va_A wc H.size) (w1 x) (t1 x) t) (va_A wc H.size)) mc ms (va_A wc H.size)) (hk : KA y bytes maxL ret n) (hv : Cond.static y ∈ gtb) (hlink : Cond.methodLink own index y ∈ gtb)
    (isC tC isR tR : List Nat) (hC : isC.map (fun i => ws[i]?) = wc.map some) (hnC : va_nd isC = true) (htc : tC.filterMap (fun i => tys[i]?) = tc) (hRr : isR.map (fun i => ws[i]?) = wr.map some) (hnR : va_nd isR = true) (hdis : ∀ i ∈ isR, i ∉ isC) (htr : tR.filterMap (fun i => tys[i]?) = tr)
    (hst : st0 = As.reverse ++ rest) (hn : As.length = n) (hz : ls.size = nL) (hrc : rm.cells = mc) (hrs : rm.slots = ms) (hR : rm.frames + 1 ≤ R.frames ∧ 8 + (maxL + 11) + rm.locals ≤ R.locals) (hcat : (rest.map fun v => v.category).sum ≤ 8) {ce sl : Nat} (hce : cells + mc = ce) (hsl : slots + ms = sl) (hcells : ce ≤ R.cells ∧ sl ≤ R.slots) (hdg : decode cc pc = .ok (.invokestatic index, 3))
    (kk : ∀ (r : Int32) (x : X), φ r x → ∀ (H1 : Heap) (locs1 : List Loc), Wd dC dI A (wr ++ w1 x) (tr ++ t1 x) s H1 locs1 → W p l e R s m args below meth c H1 locs1 ce sl Q (F0 m (pc + 3) ls (.int r :: rest))) : W p l e R s m args below meth c H locs cells slots Q (F0 m pc ls st0) := by
  subst hst
  subst hce
  subst hsl
  have hFc := va_free (wc := wc) hw.2.2.1 hw.2.2.2.1 hw.2.2.2.2 isC hC
  exact va_calli (va_runS (As := As) (rest := rest) ⟨hf.1, hf.2.1, hf.2.2.1, hf.2.2.2.1, hf.2.2.2.2.1⟩ hM ⟨mcallB hf hk hrc hrs hlink hR, hf.2.2.2.2.1 _ hv⟩ ⟨PB_blind, mpre hf hw isC tC hC hnC htc⟩ rfl hn hz rfl (lv_room hcat) hdg hcells) hw.2.2.2.1 (fun q _ h => hFc q h) hFc (fun r x t H1 locs1 ht hvm hφ hB hz1 hk1 hS1 => kk r x hφ H1 locs1 (mback hw isC isR tR hC hRr hnR hdis htr ht hvm hB hk1 hS1))
theorem mS_l {X : Type} {φ : Int64 → X → Prop} {w1 : X → va_W} {t1 : X → List (ClassId × FieldType)} (hf : Fx p c cc nL s args m own) (hw : Wd dC dI A ws tys s H locs)
    (hM : Met l y (wsOf y bytes maxL ret) rm (va_Pc As (PB dC dI H.size wc tc)) (va_Ql φ (fun x t => PW dC dI (va_A wc H.size) (w1 x) (t1 x) t) (va_A wc H.size)) mc ms (va_A wc H.size)) (hk : KA y bytes maxL ret n) (hv : Cond.static y ∈ gtb) (hlink : Cond.methodLink own index y ∈ gtb)
    (isC tC isR tR : List Nat) (hC : isC.map (fun i => ws[i]?) = wc.map some) (hnC : va_nd isC = true) (htc : tC.filterMap (fun i => tys[i]?) = tc) (hRr : isR.map (fun i => ws[i]?) = wr.map some) (hnR : va_nd isR = true) (hdis : ∀ i ∈ isR, i ∉ isC) (htr : tR.filterMap (fun i => tys[i]?) = tr)
    (hst : st0 = As.reverse ++ rest) (hn : As.length = n) (hz : ls.size = nL) (hrc : rm.cells = mc) (hrs : rm.slots = ms) (hR : rm.frames + 1 ≤ R.frames ∧ 8 + (maxL + 11) + rm.locals ≤ R.locals) (hcat : (rest.map fun v => v.category).sum ≤ 8) {ce sl : Nat} (hce : cells + mc = ce) (hsl : slots + ms = sl) (hcells : ce ≤ R.cells ∧ sl ≤ R.slots) (hdg : decode cc pc = .ok (.invokestatic index, 3))
    (kk : ∀ (r : Int64) (x : X), φ r x → ∀ (H1 : Heap) (locs1 : List Loc), Wd dC dI A (wr ++ w1 x) (tr ++ t1 x) s H1 locs1 → W p l e R s m args below meth c H1 locs1 ce sl Q (F0 m (pc + 3) ls (.long r :: rest))) : W p l e R s m args below meth c H locs cells slots Q (F0 m pc ls st0) := by
  subst hst
  subst hce
  subst hsl
  have hFc := va_free (wc := wc) hw.2.2.1 hw.2.2.2.1 hw.2.2.2.2 isC hC
  exact va_calll (va_runS (As := As) (rest := rest) ⟨hf.1, hf.2.1, hf.2.2.1, hf.2.2.2.1, hf.2.2.2.2.1⟩ hM ⟨mcallB hf hk hrc hrs hlink hR, hf.2.2.2.2.1 _ hv⟩ ⟨PB_blind, mpre hf hw isC tC hC hnC htc⟩ rfl hn hz rfl (lv_room hcat) hdg hcells) hw.2.2.2.1 (fun q _ h => hFc q h) hFc (fun r x t H1 locs1 ht hvm hφ hB hz1 hk1 hS1 => kk r x hφ H1 locs1 (mback hw isC isR tR hC hRr hnR hdis htr ht hvm hB hk1 hS1))
theorem mSN_v {X : Type} {φ : X → Prop} {w1 : X → va_W} {t1 : X → List (ClassId × FieldType)} (hf : Fx p c cc nL s args m own) (hw : Wd dC dI A ws tys s H locs)
    (hM : Met l y (wsOf y bytes maxL ret) rm (va_Pc As (PB dC dI H.size wc tc)) (va_Qv φ (fun x t => PW dC dI (va_A wc H.size) (w1 x) (t1 x) t) (va_A wc H.size)) mc ms (va_A wc H.size)) (hk : KA y bytes maxL ret n) (hv : Cond.static y ∈ gtb) (hlink : Cond.methodLinkNest own index y host ∈ lw_tbl)
    (isC tC isR tR : List Nat) (hC : isC.map (fun i => ws[i]?) = wc.map some) (hnC : va_nd isC = true) (htc : tC.filterMap (fun i => tys[i]?) = tc) (hRr : isR.map (fun i => ws[i]?) = wr.map some) (hnR : va_nd isR = true) (hdis : ∀ i ∈ isR, i ∉ isC) (htr : tR.filterMap (fun i => tys[i]?) = tr)
    (hst : st0 = As.reverse ++ rest) (hn : As.length = n) (hz : ls.size = nL) (hrc : rm.cells = mc) (hrs : rm.slots = ms) (hR : rm.frames + 1 ≤ R.frames ∧ 8 + (maxL + 11) + rm.locals ≤ R.locals) (hcat : (rest.map fun v => v.category).sum ≤ 8) {ce sl : Nat} (hce : cells + mc = ce) (hsl : slots + ms = sl) (hcells : ce ≤ R.cells ∧ sl ≤ R.slots) (hdg : decode cc pc = .ok (.invokestatic index, 3))
    (kk : ∀ (x : X), φ x → ∀ (H1 : Heap) (locs1 : List Loc), Wd dC dI A (wr ++ w1 x) (tr ++ t1 x) s H1 locs1 → W p l e R s m args below meth c H1 locs1 ce sl Q (F0 m (pc + 3) ls (rest))) : W p l e R s m args below meth c H locs cells slots Q (F0 m pc ls st0) := by
  subst hst
  subst hce
  subst hsl
  have hFc := va_free (wc := wc) hw.2.2.1 hw.2.2.2.1 hw.2.2.2.2 isC hC
  exact va_callv (va_runSN (As := As) (rest := rest) ⟨hf.1, hf.2.1, hf.2.2.1, hf.2.2.2.1, hf.2.2.2.2.1⟩ hM ⟨mcallN hf hk hrc hrs hlink hR, hf.2.2.2.2.1 _ hv, trivial⟩ ⟨PB_blind, mpre hf hw isC tC hC hnC htc⟩ rfl hn hz rfl (lv_room hcat) hdg hcells) hw.2.2.2.1 (fun q _ h => hFc q h) hFc (fun x t H1 locs1 ht hvm hφ hB hz1 hk1 hS1 => kk x hφ H1 locs1 (mback hw isC isR tR hC hRr hnR hdis htr ht hvm hB hk1 hS1))
theorem mSN_i {X : Type} {φ : Int32 → X → Prop} {w1 : X → va_W} {t1 : X → List (ClassId × FieldType)} (hf : Fx p c cc nL s args m own) (hw : Wd dC dI A ws tys s H locs)
    (hM : Met l y (wsOf y bytes maxL ret) rm (va_Pc As (PB dC dI H.size wc tc)) (va_Qi φ (fun x t => PW dC dI (va_A wc H.size) (w1 x) (t1 x) t) (va_A wc H.size)) mc ms (va_A wc H.size)) (hk : KA y bytes maxL ret n) (hv : Cond.static y ∈ gtb) (hlink : Cond.methodLinkNest own index y host ∈ lw_tbl)
    (isC tC isR tR : List Nat) (hC : isC.map (fun i => ws[i]?) = wc.map some) (hnC : va_nd isC = true) (htc : tC.filterMap (fun i => tys[i]?) = tc) (hRr : isR.map (fun i => ws[i]?) = wr.map some) (hnR : va_nd isR = true) (hdis : ∀ i ∈ isR, i ∉ isC) (htr : tR.filterMap (fun i => tys[i]?) = tr)
    (hst : st0 = As.reverse ++ rest) (hn : As.length = n) (hz : ls.size = nL) (hrc : rm.cells = mc) (hrs : rm.slots = ms) (hR : rm.frames + 1 ≤ R.frames ∧ 8 + (maxL + 11) + rm.locals ≤ R.locals) (hcat : (rest.map fun v => v.category).sum ≤ 8) {ce sl : Nat} (hce : cells + mc = ce) (hsl : slots + ms = sl) (hcells : ce ≤ R.cells ∧ sl ≤ R.slots) (hdg : decode cc pc = .ok (.invokestatic index, 3))
    (kk : ∀ (r : Int32) (x : X), φ r x → ∀ (H1 : Heap) (locs1 : List Loc), Wd dC dI A (wr ++ w1 x) (tr ++ t1 x) s H1 locs1 → W p l e R s m args below meth c H1 locs1 ce sl Q (F0 m (pc + 3) ls (.int r :: rest))) : W p l e R s m args below meth c H locs cells slots Q (F0 m pc ls st0) := by
  subst hst
  subst hce
  subst hsl
  have hFc := va_free (wc := wc) hw.2.2.1 hw.2.2.2.1 hw.2.2.2.2 isC hC
  exact va_calli (va_runSN (As := As) (rest := rest) ⟨hf.1, hf.2.1, hf.2.2.1, hf.2.2.2.1, hf.2.2.2.2.1⟩ hM ⟨mcallN hf hk hrc hrs hlink hR, hf.2.2.2.2.1 _ hv, trivial⟩ ⟨PB_blind, mpre hf hw isC tC hC hnC htc⟩ rfl hn hz rfl (lv_room hcat) hdg hcells) hw.2.2.2.1 (fun q _ h => hFc q h) hFc (fun r x t H1 locs1 ht hvm hφ hB hz1 hk1 hS1 => kk r x hφ H1 locs1 (mback hw isC isR tR hC hRr hnR hdis htr ht hvm hB hk1 hS1))
theorem mSN_l {X : Type} {φ : Int64 → X → Prop} {w1 : X → va_W} {t1 : X → List (ClassId × FieldType)} (hf : Fx p c cc nL s args m own) (hw : Wd dC dI A ws tys s H locs)
    (hM : Met l y (wsOf y bytes maxL ret) rm (va_Pc As (PB dC dI H.size wc tc)) (va_Ql φ (fun x t => PW dC dI (va_A wc H.size) (w1 x) (t1 x) t) (va_A wc H.size)) mc ms (va_A wc H.size)) (hk : KA y bytes maxL ret n) (hv : Cond.static y ∈ gtb) (hlink : Cond.methodLinkNest own index y host ∈ lw_tbl)
    (isC tC isR tR : List Nat) (hC : isC.map (fun i => ws[i]?) = wc.map some) (hnC : va_nd isC = true) (htc : tC.filterMap (fun i => tys[i]?) = tc) (hRr : isR.map (fun i => ws[i]?) = wr.map some) (hnR : va_nd isR = true) (hdis : ∀ i ∈ isR, i ∉ isC) (htr : tR.filterMap (fun i => tys[i]?) = tr)
    (hst : st0 = As.reverse ++ rest) (hn : As.length = n) (hz : ls.size = nL) (hrc : rm.cells = mc) (hrs : rm.slots = ms) (hR : rm.frames + 1 ≤ R.frames ∧ 8 + (maxL + 11) + rm.locals ≤ R.locals) (hcat : (rest.map fun v => v.category).sum ≤ 8) {ce sl : Nat} (hce : cells + mc = ce) (hsl : slots + ms = sl) (hcells : ce ≤ R.cells ∧ sl ≤ R.slots) (hdg : decode cc pc = .ok (.invokestatic index, 3))
    (kk : ∀ (r : Int64) (x : X), φ r x → ∀ (H1 : Heap) (locs1 : List Loc), Wd dC dI A (wr ++ w1 x) (tr ++ t1 x) s H1 locs1 → W p l e R s m args below meth c H1 locs1 ce sl Q (F0 m (pc + 3) ls (.long r :: rest))) : W p l e R s m args below meth c H locs cells slots Q (F0 m pc ls st0) := by
  subst hst
  subst hce
  subst hsl
  have hFc := va_free (wc := wc) hw.2.2.1 hw.2.2.2.1 hw.2.2.2.2 isC hC
  exact va_calll (va_runSN (As := As) (rest := rest) ⟨hf.1, hf.2.1, hf.2.2.1, hf.2.2.2.1, hf.2.2.2.2.1⟩ hM ⟨mcallN hf hk hrc hrs hlink hR, hf.2.2.2.2.1 _ hv, trivial⟩ ⟨PB_blind, mpre hf hw isC tC hC hnC htc⟩ rfl hn hz rfl (lv_room hcat) hdg hcells) hw.2.2.2.1 (fun q _ h => hFc q h) hFc (fun r x t H1 locs1 ht hvm hφ hB hz1 hk1 hS1 => kk r x hφ H1 locs1 (mback hw isC isR tR hC hRr hnR hdis htr ht hvm hB hk1 hS1))
theorem mI_v {X : Type} {φ : X → Prop} {w1 : X → va_W} {t1 : X → List (ClassId × FieldType)} (hf : Fx p c cc nL s args m own) (hw : Wd dC dI A ws tys s H locs)
    (hM : Met l y (wsOf y bytes maxL none) rm (va_Pc (Value.ref b :: As) (PB dC dI H.size wc tc)) (va_Qv φ (fun x t => PW dC dI (va_A wc H.size) (w1 x) (t1 x) t) (va_A wc H.size)) mc ms (va_A wc H.size)) (hk : KA y bytes maxL none n) (hv : Cond.instanceMethod y ∈ gtb) (hy1 : y.name = "<init>") (hlink : Cond.methodLink own index y ∈ gtb)
    (isC tC isR tR : List Nat) (hC : isC.map (fun i => ws[i]?) = wc.map some) (hnC : va_nd isC = true) (htc : tC.filterMap (fun i => tys[i]?) = tc) (hRr : isR.map (fun i => ws[i]?) = wr.map some) (hnR : va_nd isR = true) (hdis : ∀ i ∈ isR, i ∉ isC) (htr : tR.filterMap (fun i => tys[i]?) = tr)
    (hst : st0 = As.reverse ++ .ref b :: rest) (hn : As.length = n) (hz : ls.size = nL) (hrc : rm.cells = mc) (hrs : rm.slots = ms) (hR : rm.frames + 1 ≤ R.frames ∧ 8 + (maxL + 11) + rm.locals ≤ R.locals) (hcat : (rest.map fun v => v.category).sum ≤ 8) {ce sl : Nat} (hce : cells + mc = ce) (hsl : slots + ms = sl) (hcells : ce ≤ R.cells ∧ sl ≤ R.slots) (hdg : decode cc pc = .ok (.invokespecial index, 3))
    (kk : ∀ (x : X), φ x → ∀ (H1 : Heap) (locs1 : List Loc), Wd dC dI A (wr ++ w1 x) (tr ++ t1 x) s H1 locs1 → W p l e R s m args below meth c H1 locs1 ce sl Q (F0 m (pc + 3) ls (rest))) : W p l e R s m args below meth c H locs cells slots Q (F0 m pc ls st0) := by
  subst hst
  subst hce
  subst hsl
  have hFc := va_free (wc := wc) hw.2.2.1 hw.2.2.2.1 hw.2.2.2.2 isC hC
  exact va_callv (va_runI (As := As) (rest := rest) ⟨hf.1, hf.2.1, hf.2.2.1, hf.2.2.2.1, hf.2.2.2.2.1⟩ hM ⟨mcallB hf hk hrc hrs hlink hR, hy1, hf.2.2.2.2.1 _ hv⟩ ⟨PB_blind, mpre hf hw isC tC hC hnC htc⟩ rfl hn hz rfl (lv_room hcat) hdg hcells) hw.2.2.2.1 (fun q _ h => hFc q h) hFc (fun x t H1 locs1 ht hvm hφ hB hz1 hk1 hS1 => kk x hφ H1 locs1 (mback hw isC isR tR hC hRr hnR hdis htr ht hvm hB hk1 hS1))
theorem mIN_v {X : Type} {φ : X → Prop} {w1 : X → va_W} {t1 : X → List (ClassId × FieldType)} (hf : Fx p c cc nL s args m own) (hw : Wd dC dI A ws tys s H locs)
    (hM : Met l y (wsOf y bytes maxL none) rm (va_Pc (Value.ref b :: As) (PB dC dI H.size wc tc)) (va_Qv φ (fun x t => PW dC dI (va_A wc H.size) (w1 x) (t1 x) t) (va_A wc H.size)) mc ms (va_A wc H.size)) (hk : KA y bytes maxL none n) (hv : Cond.instanceMethod y ∈ gtb) (hy1 : y.name = "<init>") (hlink : Cond.methodLinkNest own index y host ∈ lw_tbl)
    (isC tC isR tR : List Nat) (hC : isC.map (fun i => ws[i]?) = wc.map some) (hnC : va_nd isC = true) (htc : tC.filterMap (fun i => tys[i]?) = tc) (hRr : isR.map (fun i => ws[i]?) = wr.map some) (hnR : va_nd isR = true) (hdis : ∀ i ∈ isR, i ∉ isC) (htr : tR.filterMap (fun i => tys[i]?) = tr)
    (hst : st0 = As.reverse ++ .ref b :: rest) (hn : As.length = n) (hz : ls.size = nL) (hrc : rm.cells = mc) (hrs : rm.slots = ms) (hR : rm.frames + 1 ≤ R.frames ∧ 8 + (maxL + 11) + rm.locals ≤ R.locals) (hcat : (rest.map fun v => v.category).sum ≤ 8) {ce sl : Nat} (hce : cells + mc = ce) (hsl : slots + ms = sl) (hcells : ce ≤ R.cells ∧ sl ≤ R.slots) (hdg : decode cc pc = .ok (.invokespecial index, 3))
    (kk : ∀ (x : X), φ x → ∀ (H1 : Heap) (locs1 : List Loc), Wd dC dI A (wr ++ w1 x) (tr ++ t1 x) s H1 locs1 → W p l e R s m args below meth c H1 locs1 ce sl Q (F0 m (pc + 3) ls (rest))) : W p l e R s m args below meth c H locs cells slots Q (F0 m pc ls st0) := by
  subst hst
  subst hce
  subst hsl
  have hFc := va_free (wc := wc) hw.2.2.1 hw.2.2.2.1 hw.2.2.2.2 isC hC
  exact va_callv (va_runIN (As := As) (rest := rest) ⟨hf.1, hf.2.1, hf.2.2.1, hf.2.2.2.1, hf.2.2.2.2.1⟩ hM ⟨mcallN hf hk hrc hrs hlink hR, hy1, hf.2.2.2.2.1 _ hv⟩ ⟨PB_blind, mpre hf hw isC tC hC hnC htc⟩ rfl hn hz rfl (lv_room hcat) hdg hcells) hw.2.2.2.1 (fun q _ h => hFc q h) hFc (fun x t H1 locs1 ht hvm hφ hB hz1 hk1 hS1 => kk x hφ H1 locs1 (mback hw isC isR tR hC hRr hnR hdis htr ht hvm hB hk1 hS1))
end MAC3
section MAC4
variable {p : Program} {l : Launch} {e : Env} {R : Room} {s : State} {m : MethodId} {args : Array Value} {below : List Frame} {meth : Method} {c : Code} {H : Heap} {locs : List Loc} {cells slots : Nat} {Q : State → Prop}
variable {cc : ByteArray} {pc : Nat} {ls : Array Slot} {dC : Nat → ClassId} {dI : Nat → Nat → Nat} {A : Nat → Prop} {tys : List (ClassId × FieldType)} {ws : va_W} {y : MethodName} {nL mc ms : Nat} {ret : Option FieldType} {rm : Room} {own : String}
theorem mPW (hw : Wd dC dI A ws tys s H locs) {w1 : va_W} {t1 : List (ClassId × FieldType)} (isP isT : List Nat) (hp : isP.map (fun i => ws[i]?) = w1.map some) (hn : va_nd isP = true) (ht : isT.filterMap (fun i => tys[i]?) = t1) {t : State} (h : t.heap = H) (hW : s.WarmedH t.vm) : PW dC dI A w1 t1 t := by
  obtain ⟨hK, hP, hD, hS, hA⟩ := hw.pick isP isT hn hp ht
  exact ⟨by rw [h]; exact hP, va_K.moved hW.alike hK, hD⟩
theorem mret_v {X : Type} {φ : X → Prop} {w1 : X → va_W} {t1 : X → List (ClassId × FieldType)} (hf : Fx p c cc nL s args m own) (hr : meth.sig.returnType = none) (hlocks : meth.locks = false) (hw : Wd dC dI A ws tys s H locs) (x : X) (hφ : φ x) (isP isT : List Nat) (hp : isP.map (fun i => ws[i]?) = (w1 x).map some) (hn : va_nd isP = true) (ht : isT.filterMap (fun i => tys[i]?) = t1 x) (h1 : cells ≤ mc) (h2 : slots ≤ ms) (hdg : decode cc pc = .ok (.return_, 1)) :
    W p l e R s m args below meth c H locs cells slots (MQ below (va_Qv φ (fun x t => PW dC dI A (w1 x) (t1 x) t) A) args s mc ms A) (F0 m pc ls []) :=
  W.widen (k := mc) (n := ms) h1 h2 (W.vret hf.1 hf.2.1 hr (fun t h hW => ⟨⟨x, rfl, hφ, mPW hw isP isT hp hn ht h hW⟩, hw.2.2.2.1.F h⟩) hw.2.2.2.1.2.2 hdg hlocks)
theorem mret_i {X : Type} {φ : Int32 → X → Prop} {w1 : X → va_W} {t1 : X → List (ClassId × FieldType)} {v : Int32} (hf : Fx p c cc nL s args m own) (hr : meth.sig.returnType = some .int) (hlocks : meth.locks = false) (hw : Wd dC dI A ws tys s H locs) (x : X) (hφ : φ v x) (isP isT : List Nat) (hp : isP.map (fun i => ws[i]?) = (w1 x).map some) (hn : va_nd isP = true) (ht : isT.filterMap (fun i => tys[i]?) = t1 x) (h1 : cells ≤ mc) (h2 : slots ≤ ms) (hdg : decode cc pc = .ok (.ireturn, 1)) :
    W p l e R s m args below meth c H locs cells slots (MQ below (va_Qi φ (fun x t => PW dC dI A (w1 x) (t1 x) t) A) args s mc ms A) (F0 m pc ls [.int v]) :=
  W.widen (k := mc) (n := ms) h1 h2 (W.iret hf.1 hf.2.1 hr (fun t h hW => ⟨⟨v, x, rfl, hφ, mPW hw isP isT hp hn ht h hW⟩, hw.2.2.2.1.F h⟩) hw.2.2.2.1.2.2 hdg hlocks)
theorem mret_z {X : Type} {φ : Int32 → X → Prop} {w1 : X → va_W} {t1 : X → List (ClassId × FieldType)} {v : Int32} (hf : Fx p c cc nL s args m own) (hr : meth.sig.returnType = some .boolean) (hlocks : meth.locks = false) (hz : narrow .boolean (.int v) = .int v) (hw : Wd dC dI A ws tys s H locs) (x : X) (hφ : φ v x) (isP isT : List Nat) (hp : isP.map (fun i => ws[i]?) = (w1 x).map some) (hn : va_nd isP = true) (ht : isT.filterMap (fun i => tys[i]?) = t1 x) (h1 : cells ≤ mc) (h2 : slots ≤ ms) (hdg : decode cc pc = .ok (.ireturn, 1)) :
    W p l e R s m args below meth c H locs cells slots (MQ below (va_Qi φ (fun x t => PW dC dI A (w1 x) (t1 x) t) A) args s mc ms A) (F0 m pc ls [.int v]) :=
  W.widen (k := mc) (n := ms) h1 h2 (W.zret hf.1 hf.2.1 hr hz (fun t h hW => ⟨⟨v, x, rfl, hφ, mPW hw isP isT hp hn ht h hW⟩, hw.2.2.2.1.F h⟩) hw.2.2.2.1.2.2 hdg hlocks)
end MAC4
/-- a method's body, from its entry -/
theorem mbody {l : Launch} {dC : Nat → ClassId} {dI : Nat → Nat → Nat} {y : MethodName} {b : ByteArray} {n : Nat} {ret : Option FieldType} {rm : Room} {av : List Value} {sz : Nat} {ws : va_W} {tys : List (ClassId × FieldType)} {Qc : (Nat → Prop) → Array Value → State → Outcome → State → Prop} {mc ms : Nat} (hy : plainName y.cls = true) (hav : (lg_sl av).length ≤ n)
    (body : ∀ (p : Program) (e : Env) (s : State) (m : MethodId) (below : List Frame) (meth : Method) (c : Code) (ls : Array Slot) (A : Nat → Prop) (H : Heap), Fx p c b n s av.toArray m y.cls → meth.sig.returnType = ret → meth.name = y.name → meth.locks = false → Wd dC dI A ws tys s H [] → lv_has ls n (lv_args 0 av) →
      W p l e rm s m av.toArray below meth c H [] 0 0 (MQ below (Qc A) av.toArray s mc ms A) (F0 m 0 ls [])) :
    Met l y (wsOf y b n ret) rm (va_Pc av (PB dC dI sz ws tys)) (Qc (va_A ws sz)) mc ms (va_A ws sz) := by
  refine Met.ofW (cc := b) (maxL := n) (ret := ret) hy rfl ?_
  intro p e s m args below meth c s₁ B hml hv
  obtain ⟨rfl, hsz, hP, hK, hD0, hN⟩ := hv
  have hts0 := atoms_spec (ws := wsOf y b n ret) B.pre
  have hts : ∀ w ∈ gtb, w.before av.toArray s = true := fun w hw => hts0 w (List.mem_cons_of_mem _ hw)
  subst hsz
  have hD := hD0.self (sz := s.heap.size)
  have hl := lv_entry av (n := n) hav
  rw [lg_entry_eq]
  exact body p e s m below meth c _ (va_A ws s.heap.size) s.heap ⟨B.exec, B.bytes, hml, findClass_of_methodNamed B.named, hts, hN⟩ B.returns (name_of_methodNamed B.named B.method).1 B.notSynchronized ⟨hK, hP, hD, va_S.rf, fun q h => Or.inr h⟩ hl
theorem hfs_of {ty0 : Nat → FieldType} {N : Nat} {fs : List Value} (h : (List.range N).map (fun j => defaultValue (ty0 j)) = fs) : ∀ j, j < N → defaultValue (ty0 j) = vp_V fs j := by
  intro j hj
  subst h
  simp [vp_V, hj]
theorem lt_app {K tl : List Value} {n k : Nat} (h : tl.length = n) (hk : k < K.length + n) : k < (K ++ tl).length := by rw [List.length_append, h]; exact hk
section MAC5
variable {p : Program} {l : Launch} {e : Env} {R : Room} {s : State} {m : MethodId} {args : Array Value} {below : List Frame} {meth : Method} {c : Code} {H : Heap} {locs : List Loc} {cells slots : Nat} {Q : State → Prop}
variable {cc : ByteArray} {pc : Nat} {ls : Array Slot} {dC : Nat → ClassId} {dI : Nat → Nat → Nat} {A : Nat → Prop} {tys : List (ClassId × FieldType)} {ws : va_W} {nL : Nat} {own : String} {a : Addr} {rest : List Value}
theorem mputT {C : String} {T : u_T} {N ci index nt j : Nat} {K tl : List Value} (hf : Fx p c cc nL s args m own) (hw : Wd dC dI A ws tys s H locs) (hin : ∀ w ∈ u_ws C T N, w ∈ gtb) (ty0 : Nat → FieldType) (hty : ∀ k, k < N → parseFieldDescriptor (T k).2.2.1 = some (ty0 k)) (hnm : ∀ a, a < N → ∀ b, b < N → a ≠ b → (T a).2.1 ≠ (T b).2.1) (q0 : Nat) (he : ws[q0]? = some (a, .inr (ci, K ++ tl))) (hc : classes[ci]? = some (C, T, N)) (k : Nat) (hk : k < N) (hlink : (Cond.fieldLink own index (T k).1 (T k).2.1 (T k).2.2.1) ∈ gtb) (hfin : (T k).2.2.2 = false) {v : Value} (hn : narrow (ty0 k) v = v) (hfit : fits (ty0 k) v = true) (htl : tl.length = nt) (hkj : K.length + j = k) (hj : j < nt) {ws' : List Value → va_W} (hw' : ∀ tl', ws.set q0 (a, .inr (ci, K ++ tl')) = ws' tl')
    (hdg : decode cc pc = .ok (.putfield index, 3)) (kk : ∀ tl' : List Value, tl'.length = nt → ∀ (H1 : Heap) (locs1 : List Loc), Wd dC dI A (ws' tl') tys s H1 locs1 → W p l e R s m args below meth c H1 locs1 cells slots Q (F0 m (pc + 3) ls rest)) : W p l e R s m args below meth c H locs cells slots Q (F0 m pc ls (v :: .ref a :: rest)) := by
  subst hkj
  have e1 : (K ++ tl).set (K.length + j) v = K ++ tl.set j v := by
    rw [List.set_append_right _ _ (by omega)]
    congr 2
    omega
  refine mput hf hw hin ty0 hty hnm q0 he hc (K.length + j) hk hlink hfin hn hfit (lt_app htl (by omega)) (by rw [e1]; exact hw' _) hdg (kk (tl.set j v) (by rw [List.length_set]; exact htl))
theorem mputFT {C : String} {T : u_T} {N ci index nt j : Nat} {K tl : List Value} (hf : Fx p c cc nL s args m own) (hin2 : meth.name = "<init>") (hw : Wd dC dI A ws tys s H locs) (hin : ∀ w ∈ u_ws C T N, w ∈ gtb) (ty0 : Nat → FieldType) (hty : ∀ k, k < N → parseFieldDescriptor (T k).2.2.1 = some (ty0 k)) (hnm : ∀ a, a < N → ∀ b, b < N → a ≠ b → (T a).2.1 ≠ (T b).2.1) (q0 : Nat) (he : ws[q0]? = some (a, .inr (ci, K ++ tl))) (hc : classes[ci]? = some (C, T, N)) (k : Nat) (hk : k < N) (hlink : (Cond.fieldLink own index (T k).1 (T k).2.1 (T k).2.2.1) ∈ gtb) (hfin : (T k).2.2.2 = true) (hdecl : (T k).1 = own) {v : Value} (hn : narrow (ty0 k) v = v) (hfit : fits (ty0 k) v = true) (htl : tl.length = nt) (hkj : K.length + j = k) (hj : j < nt) {ws' : List Value → va_W} (hw' : ∀ tl', ws.set q0 (a, .inr (ci, K ++ tl')) = ws' tl')
    (hdg : decode cc pc = .ok (.putfield index, 3)) (kk : ∀ tl' : List Value, tl'.length = nt → ∀ (H1 : Heap) (locs1 : List Loc), Wd dC dI A (ws' tl') tys s H1 locs1 → W p l e R s m args below meth c H1 locs1 cells slots Q (F0 m (pc + 3) ls rest)) : W p l e R s m args below meth c H locs cells slots Q (F0 m pc ls (v :: .ref a :: rest)) := by
  subst hkj
  have e1 : (K ++ tl).set (K.length + j) v = K ++ tl.set j v := by
    rw [List.set_append_right _ _ (by omega)]
    congr 2
    omega
  refine mputF hf hin2 hw hin ty0 hty hnm q0 he hc (K.length + j) hk hlink hfin hdecl hn hfit (lt_app htl (by omega)) (by rw [e1]; exact hw' _) hdg (kk (tl.set j v) (by rw [List.length_set]; exact htl))
end MAC5
