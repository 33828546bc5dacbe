/-! the reference's world: one object (scalars 0 .. 46: s, the long 47: t, rows from 48 on), its rows (ints, bytes, truths: a; longs: b) -/
def zMl : List Nat := [3000, 3000, 3000, 6000, 6000, 6000, 6000, 6000, 20000, 3100, 41, 41, 41, 41, 41, 164, 41, 41, 41, 3100, 3100, 3100, 3100, 3100, 3100, 3100, 3100, 3100, 3100, 60, 6000, 6000, 100, 100, 400, 400, 400, 400, 3100, 24000, 24000, 24000, 24000, 41, 3100, 3100, 3100, 13000, 13000, 13000, 3100, 12000, 12000, 12000, 12000, 12000, 41, 3200, 60, 20400, 20400, 5000, 5000, 1000, 1000, 1000, 1000, 1000, 1000, 1000, 1000, 1000, 1000, 4000, 4000, 2300, 2300, 2300, 200, 1681, 21]
def eMl : List FieldType := [.byte, .byte, .byte, .int, .int, .int, .int, .boolean, .int, .int, .long, .int, .int, .int, .int, .int, .int, .int, .boolean, .int, .int, .int, .int, .int, .int, .int, .int, .int, .long, .long, .int, .int, .int, .int, .int, .int, .int, .int, .int, .int, .int, .int, .int, .int, .int, .int, .int, .int, .int, .int, .int, .int, .int, .int, .int, .int, .boolean, .int, .int, .int, .int, .int, .int, .boolean, .int, .int, .int, .int, .int, .int, .int, .int, .int, .int, .int, .int, .int, .int, .int, .int, .int]
def lMl : List Bool := [false, false, false, false, false, false, false, false, false, false, true, false, false, false, false, false, false, false, false, false, false, false, false, false, false, false, false, false, true, true, false, false, false, false, false, false, false, false, false, false, false, false, false, false, false, false, false, false, false, false, false, false, false, false, false, false, false, false, false, false, false, false, false, false, false, false, false, false, false, false, false, false, false, false, false, false, false, false, false, false, false]
def zM (i : Nat) : Nat := zMl.getD i 0
def eM (i : Nat) : FieldType := eMl.getD i .int
def lM (i : Nat) : Bool := lMl.getD i false
def fvM (ad : Nat → Nat) (σ : Nat → Int32) (τ : Int64) (k : Nat) : Value := if k < 47 then .int (σ k) else if k = 47 then .long τ else .ref (ad (k - 48))
def avM (cA : Nat → ClassId) (α : Nat → Nat → Int32) (β : Nat → Nat → Int64) (i : Nat) : va_E := .inl (cA i, zM i, bif lM i then .inr (.inl (β i)) else .inl (α i))
def MW (h0 : Nat) (ad : Nat → Nat) (cA : Nat → ClassId) (σ : Nat → Int32) (τ : Int64) (α : Nat → Nat → Int32) (β : Nat → Nat → Int64) : va_W := (h0, .inr (9, (List.range 129).map (fvM ad σ τ))) :: (List.range 81).map (fun i => (ad i, avM cA α β i))
def MT (cA : Nat → ClassId) : List (ClassId × FieldType) := (List.range 81).map (fun i => (cA i, eM i))
def uS (σ : Nat → Int32) (k : Nat) (v : Int32) : Nat → Int32 := fun j => if j = k then v else σ j
def uA {T : Type} (α : Nat → Nat → T) (i : Nat) (f : Nat → T) : Nat → Nat → T := fun j => if j = i then f else α j
theorem rset {T : Type} (g g' : Nat → T) {n i : Nat} {v : T} (hi : g' i = v) (ho : ∀ j, j ≠ i → g' j = g j) : ((List.range n).map g).set i v = (List.range n).map g' := by
  apply List.ext_getElem?
  intro j
  rw [List.getElem?_set]
  by_cases h : i = j
  · subst h
    by_cases hn : i < n
    · simp [hn, hi]
    · simp [hn]
  · rw [if_neg h]
    by_cases hn : j < n
    · simp [hn, ho j (Ne.symm h)]
    · simp [hn]
theorem MW_0 {h0 : Nat} {ad : Nat → Nat} {cA : Nat → ClassId} {σ : Nat → Int32} {τ : Int64} {α : Nat → Nat → Int32} {β : Nat → Nat → Int64} : (MW h0 ad cA σ τ α β)[0]? = some (h0, .inr (9, (List.range 129).map (fvM ad σ τ))) := rfl
theorem MW_a {h0 : Nat} {ad : Nat → Nat} {cA : Nat → ClassId} {σ : Nat → Int32} {τ : Int64} {α : Nat → Nat → Int32} {β : Nat → Nat → Int64} {i : Nat} (hi : i < 81) {e : va_E} (he : avM cA α β i = e) : (MW h0 ad cA σ τ α β)[i + 1]? = some (ad i, e) := by
  subst he
  simp [MW, hi]
theorem MT_a {cA : Nat → ClassId} {i : Nat} (hi : i < 81) {t : FieldType} (ht : eM i = t) : (MT cA)[i]? = some (cA i, t) := by
  subst ht
  simp [MT, hi]
theorem fv_get {ad : Nat → Nat} {σ : Nat → Int32} {τ : Int64} {k : Nat} (hk : k < 129) {v : Value} (hv : fvM ad σ τ k = v) : ((List.range 129).map (fvM ad σ τ))[k]? = some v := by
  subst hv
  simp [hk]
theorem fv_s {ad : Nat → Nat} {σ : Nat → Int32} {τ : Int64} {k : Nat} (hk : k < 47) {v : Int32} (hv : σ k = v) : fvM ad σ τ k = .int v := by
  subst hv
  simp [fvM, hk]
theorem fv_a {ad : Nat → Nat} {σ : Nat → Int32} {τ : Int64} (i : Nat) : fvM ad σ τ (i + 48) = .ref (ad i) := by
  simp [fvM]
theorem MW_s {h0 : Nat} {ad : Nat → Nat} {cA : Nat → ClassId} {σ : Nat → Int32} {τ : Int64} {α : Nat → Nat → Int32} {β : Nat → Nat → Int64} {k : Nat} (hk : k < 47) (v : Int32) : (MW h0 ad cA σ τ α β).set 0 (h0, .inr (9, ((List.range 129).map (fvM ad σ τ)).set k (.int v))) = MW h0 ad cA (uS σ k v) τ α β := by
  rw [rset (fvM ad σ τ) (fvM ad (uS σ k v) τ) (by simp [fvM, hk, uS]) (fun j hj => by simp [fvM, uS, hj])]
  rfl
theorem MW_l {h0 : Nat} {ad : Nat → Nat} {cA : Nat → ClassId} {σ : Nat → Int32} {τ : Int64} {α : Nat → Nat → Int32} {β : Nat → Nat → Int64} (v : Int64) : (MW h0 ad cA σ τ α β).set 0 (h0, .inr (9, ((List.range 129).map (fvM ad σ τ)).set 47 (.long v))) = MW h0 ad cA σ v α β := by
  rw [rset (fvM ad σ τ) (fvM ad σ v) (by simp [fvM]) (fun j hj => by simp [fvM, hj])]
  rfl
theorem MW_sa {h0 : Nat} {ad : Nat → Nat} {cA : Nat → ClassId} {σ : Nat → Int32} {τ : Int64} {α : Nat → Nat → Int32} {β : Nat → Nat → Int64} {i n : Nat} (hz : zM i = n) (hl : lM i = false) (f : Nat → Int32) : (MW h0 ad cA σ τ α β).set (i + 1) (ad i, .inl (cA i, n, .inl f)) = MW h0 ad cA σ τ (uA α i f) β := by
  subst hz
  show _ :: List.set _ _ _ = _
  rw [rset (fun i => (ad i, avM cA α β i)) (fun j => (ad j, avM cA (uA α i f) β j)) (by simp [avM, uA, hl]) (fun j hj => by simp [avM, uA, hj])]
  rfl
theorem MW_sb {h0 : Nat} {ad : Nat → Nat} {cA : Nat → ClassId} {σ : Nat → Int32} {τ : Int64} {α : Nat → Nat → Int32} {β : Nat → Nat → Int64} {i n : Nat} (hz : zM i = n) (hl : lM i = true) (f : Nat → Int64) : (MW h0 ad cA σ τ α β).set (i + 1) (ad i, .inl (cA i, n, .inr (.inl f))) = MW h0 ad cA σ τ α (uA β i f) := by
  subst hz
  show _ :: List.set _ _ _ = _
  rw [rset (fun i => (ad i, avM cA α β i)) (fun j => (ad j, avM cA α (uA β i f) j)) (by simp [avM, uA, hl]) (fun j hj => by simp [avM, uA, hj])]
  rfl
section GM
variable {p : Program} {l : Launch} {e : Env} {R : Room} {s : State} {m : MethodId} {args : Array Value} {below : List Frame} {meth : Method} {c : Code} {H : Heap} {locs : List Loc} {cells slots : Nat} {Q : State → Prop}
variable {cc : ByteArray} {pc : Nat} {ls : Array Slot} {dC : Nat → ClassId} {dI : Nat → Nat → Nat} {A : Nat → Prop} {nL index : Nat} {own : String} {rest : List Value} {h0 : Nat} {ad : Nat → Nat} {cA : Nat → ClassId} {σ : Nat → Int32} {τ : Int64} {α : Nat → Nat → Int32} {β : Nat → Nat → Int64}
theorem gget (hf : Fx p c cc nL s args m own) (hw : Wd dC dI A (MW h0 ad cA σ τ α β) (MT cA) s H locs) (k : Nat) (hk : k < 47) (hlink : (Cond.fieldLink own index (TX11 k).1 (TX11 k).2.1 (TX11 k).2.2.1) ∈ gtb) {v : Int32} (hv : σ k = v) (hdg : decode cc pc = .ok (.getfield index, 3))
    (kk : W p l e R s m args below meth c H locs cells slots Q (F0 m (pc + 3) ls (.int v :: rest))) : W p l e R s m args below meth c H locs cells slots Q (F0 m pc ls (.ref h0 :: rest)) :=
  mget hf hw iX11 0 MW_0 rfl k (by omega) hlink (fv_get (by omega) (fv_s hk hv)) hdg kk
theorem ggetL (hf : Fx p c cc nL s args m own) (hw : Wd dC dI A (MW h0 ad cA σ τ α β) (MT cA) s H locs) (hlink : (Cond.fieldLink own index (TX11 47).1 (TX11 47).2.1 (TX11 47).2.2.1) ∈ gtb) (hdg : decode cc pc = .ok (.getfield index, 3))
    (kk : W p l e R s m args below meth c H locs cells slots Q (F0 m (pc + 3) ls (.long τ :: rest))) : W p l e R s m args below meth c H locs cells slots Q (F0 m pc ls (.ref h0 :: rest)) :=
  mget hf hw iX11 0 MW_0 rfl 47 (by omega) hlink (fv_get (by omega) rfl) hdg kk
theorem ggetA (hf : Fx p c cc nL s args m own) (hw : Wd dC dI A (MW h0 ad cA σ τ α β) (MT cA) s H locs) (i : Nat) (hi : i < 81) (hlink : (Cond.fieldLink own index (TX11 (i + 48)).1 (TX11 (i + 48)).2.1 (TX11 (i + 48)).2.2.1) ∈ gtb) (hdg : decode cc pc = .ok (.getfield index, 3))
    (kk : W p l e R s m args below meth c H locs cells slots Q (F0 m (pc + 3) ls (.ref (ad i) :: rest))) : W p l e R s m args below meth c H locs cells slots Q (F0 m pc ls (.ref h0 :: rest)) :=
  mget hf hw iX11 0 MW_0 rfl (i + 48) (by omega) hlink (fv_get (by omega) (fv_a i)) hdg kk
theorem gput (hf : Fx p c cc nL s args m own) (hw : Wd dC dI A (MW h0 ad cA σ τ α β) (MT cA) s H locs) (k : Nat) (hk : k < 47) (hlink : (Cond.fieldLink own index (TX11 k).1 (TX11 k).2.1 (TX11 k).2.2.1) ∈ gtb) (hfin : (TX11 k).2.2.2 = false) {v : Int32} (hn : narrow (tyX11 k) (.int v) = .int v) (hfit : fits (tyX11 k) (.int v) = true)
    (hdg : decode cc pc = .ok (.putfield index, 3)) (kk : ∀ (H1 : Heap) (locs1 : List Loc), Wd dC dI A (MW h0 ad cA (uS σ k v) τ α β) (MT cA) s H1 locs1 → W p l e R s m args below meth c H1 locs1 cells slots Q (F0 m (pc + 3) ls rest)) : W p l e R s m args below meth c H locs cells slots Q (F0 m pc ls (.int v :: .ref h0 :: rest)) :=
  mput hf hw iX11 tyX11 tyX11_ok nmX11 0 MW_0 rfl k (by omega) hlink hfin hn hfit (by simp; omega) (MW_s hk v) hdg kk
theorem gputL (hf : Fx p c cc nL s args m own) (hw : Wd dC dI A (MW h0 ad cA σ τ α β) (MT cA) s H locs) (hlink : (Cond.fieldLink own index (TX11 47).1 (TX11 47).2.1 (TX11 47).2.2.1) ∈ gtb) {v : Int64}
    (hdg : decode cc pc = .ok (.putfield index, 3)) (kk : ∀ (H1 : Heap) (locs1 : List Loc), Wd dC dI A (MW h0 ad cA σ v α β) (MT cA) s H1 locs1 → W p l e R s m args below meth c H1 locs1 cells slots Q (F0 m (pc + 3) ls rest)) : W p l e R s m args below meth c H locs cells slots Q (F0 m pc ls (.long v :: .ref h0 :: rest)) :=
  mput hf hw iX11 tyX11 tyX11_ok nmX11 0 MW_0 rfl 47 (by omega) hlink rfl rfl rfl (by simp) (MW_l v) hdg kk
theorem gild (hf : Fx p c cc nL s args m own) (hw : Wd dC dI A (MW h0 ad cA σ τ α β) (MT cA) s H locs) (i : Nat) (hi : i < 81) (ht : eM i = .int) {n : Nat} {f : Nat → Int32} (hav : avM cA α β i = .inl (cA i, n, .inl f)) {x : Int32} (hin : vp_in x n) (hdg : decode cc pc = .ok (.iaload, 1))
    (kk : W p l e R s m args below meth c H locs cells slots Q (F0 m (pc + 1) ls (.int (f x.toNatClampNeg) :: rest))) : W p l e R s m args below meth c H locs cells slots Q (F0 m pc ls (.int x :: .ref (ad i) :: rest)) :=
  miald hf hw (i + 1) i (MW_a hi hav) (MT_a hi ht) hin hdg kk
theorem gist (hf : Fx p c cc nL s args m own) (hw : Wd dC dI A (MW h0 ad cA σ τ α β) (MT cA) s H locs) (i : Nat) (hi : i < 81) (ht : eM i = .int) {n : Nat} {f : Nat → Int32} (hav : avM cA α β i = .inl (cA i, n, .inl f)) (hz : zM i = n) (hl : lM i = false) {x v : Int32} (hin : vp_in x n) (hdg : decode cc pc = .ok (.iastore, 1))
    (kk : ∀ (H1 : Heap) (locs1 : List Loc), Wd dC dI A (MW h0 ad cA σ τ (uA α i (upd f x.toNatClampNeg v)) β) (MT cA) s H1 locs1 → W p l e R s m args below meth c H1 locs1 cells slots Q (F0 m (pc + 1) ls rest)) : W p l e R s m args below meth c H locs cells slots Q (F0 m pc ls (.int v :: .int x :: .ref (ad i) :: rest)) :=
  miast hf hw (i + 1) i (MW_a hi hav) (MT_a hi ht) hin hdg (fun f1 e1 H1 locs1 h => kk H1 locs1 (by rw [MW_sa hz hl] at h; rw [← e1]; exact h))
theorem gbld (hf : Fx p c cc nL s args m own) (hw : Wd dC dI A (MW h0 ad cA σ τ α β) (MT cA) s H locs) (i : Nat) (hi : i < 81) (ht : eM i = .byte) {n : Nat} {f : Nat → Int32} (hav : avM cA α β i = .inl (cA i, n, .inl f)) {x : Int32} (hin : vp_in x n) (hdg : decode cc pc = .ok (.baload, 1))
    (kk : W p l e R s m args below meth c H locs cells slots Q (F0 m (pc + 1) ls (.int (f x.toNatClampNeg) :: rest))) : W p l e R s m args below meth c H locs cells slots Q (F0 m pc ls (.int x :: .ref (ad i) :: rest)) :=
  mbald hf hw (i + 1) i (MW_a hi hav) (MT_a hi ht) hin hdg kk
theorem gbst (hf : Fx p c cc nL s args m own) (hw : Wd dC dI A (MW h0 ad cA σ τ α β) (MT cA) s H locs) (i : Nat) (hi : i < 81) (ht : eM i = .byte) {n : Nat} {f : Nat → Int32} (hav : avM cA α β i = .inl (cA i, n, .inl f)) (hz : zM i = n) (hl : lM i = false) {x v : Int32} (hin : vp_in x n) (hdg : decode cc pc = .ok (.bastore, 1))
    (kk : ∀ (H1 : Heap) (locs1 : List Loc), Wd dC dI A (MW h0 ad cA σ τ (uA α i (upd f x.toNatClampNeg (vp_nar .byte v))) β) (MT cA) s H1 locs1 → W p l e R s m args below meth c H1 locs1 cells slots Q (F0 m (pc + 1) ls rest)) : W p l e R s m args below meth c H locs cells slots Q (F0 m pc ls (.int v :: .int x :: .ref (ad i) :: rest)) :=
  mbast hf hw (i + 1) i (MW_a hi hav) (MT_a hi ht) hin hdg (fun f1 e1 H1 locs1 h => kk H1 locs1 (by rw [MW_sa hz hl] at h; rw [← e1]; exact h))
theorem gzld (hf : Fx p c cc nL s args m own) (hw : Wd dC dI A (MW h0 ad cA σ τ α β) (MT cA) s H locs) (i : Nat) (hi : i < 81) (ht : eM i = .boolean) {n : Nat} {f : Nat → Int32} (hav : avM cA α β i = .inl (cA i, n, .inl f)) {x : Int32} (hin : vp_in x n) (hdg : decode cc pc = .ok (.baload, 1))
    (kk : W p l e R s m args below meth c H locs cells slots Q (F0 m (pc + 1) ls (.int (f x.toNatClampNeg) :: rest))) : W p l e R s m args below meth c H locs cells slots Q (F0 m pc ls (.int x :: .ref (ad i) :: rest)) :=
  mzald hf hw (i + 1) i (MW_a hi hav) (MT_a hi ht) hin hdg kk
theorem gzst (hf : Fx p c cc nL s args m own) (hw : Wd dC dI A (MW h0 ad cA σ τ α β) (MT cA) s H locs) (i : Nat) (hi : i < 81) (ht : eM i = .boolean) {n : Nat} {f : Nat → Int32} (hav : avM cA α β i = .inl (cA i, n, .inl f)) (hz : zM i = n) (hl : lM i = false) {x v : Int32} (hin : vp_in x n) (hdg : decode cc pc = .ok (.bastore, 1))
    (kk : ∀ (H1 : Heap) (locs1 : List Loc), Wd dC dI A (MW h0 ad cA σ τ (uA α i (upd f x.toNatClampNeg (vp_nar .boolean v))) β) (MT cA) s H1 locs1 → W p l e R s m args below meth c H1 locs1 cells slots Q (F0 m (pc + 1) ls rest)) : W p l e R s m args below meth c H locs cells slots Q (F0 m pc ls (.int v :: .int x :: .ref (ad i) :: rest)) :=
  mzast hf hw (i + 1) i (MW_a hi hav) (MT_a hi ht) hin hdg (fun f1 e1 H1 locs1 h => kk H1 locs1 (by rw [MW_sa hz hl] at h; rw [← e1]; exact h))
theorem glld (hf : Fx p c cc nL s args m own) (hw : Wd dC dI A (MW h0 ad cA σ τ α β) (MT cA) s H locs) (i : Nat) (hi : i < 81) (ht : eM i = .long) {n : Nat} {f : Nat → Int64} (hav : avM cA α β i = .inl (cA i, n, .inr (.inl f))) {x : Int32} (hin : vp_in x n) (hdg : decode cc pc = .ok (.laload, 1))
    (kk : W p l e R s m args below meth c H locs cells slots Q (F0 m (pc + 1) ls (.long (f x.toNatClampNeg) :: rest))) : W p l e R s m args below meth c H locs cells slots Q (F0 m pc ls (.int x :: .ref (ad i) :: rest)) :=
  mlald hf hw (i + 1) i (MW_a hi hav) (MT_a hi ht) hin hdg kk
theorem glst (hf : Fx p c cc nL s args m own) (hw : Wd dC dI A (MW h0 ad cA σ τ α β) (MT cA) s H locs) (i : Nat) (hi : i < 81) (ht : eM i = .long) {n : Nat} {f : Nat → Int64} (hav : avM cA α β i = .inl (cA i, n, .inr (.inl f))) (hz : zM i = n) (hl : lM i = true) {x : Int32} {v : Int64} (hin : vp_in x n) (hdg : decode cc pc = .ok (.lastore, 1))
    (kk : ∀ (H1 : Heap) (locs1 : List Loc), Wd dC dI A (MW h0 ad cA σ τ α (uA β i (vp_updL f x.toNatClampNeg v))) (MT cA) s H1 locs1 → W p l e R s m args below meth c H1 locs1 cells slots Q (F0 m (pc + 1) ls rest)) : W p l e R s m args below meth c H locs cells slots Q (F0 m pc ls (.long v :: .int x :: .ref (ad i) :: rest)) :=
  mlast hf hw (i + 1) i (MW_a hi hav) (MT_a hi ht) hin hdg (fun f1 e1 H1 locs1 h => kk H1 locs1 (by rw [MW_sb hz hl] at h; rw [← e1]; exact h))
end GM
theorem va_nd_of : ∀ (l : List Nat), l.Nodup → va_nd l = true := by
  intro l
  induction l with
  | nil => intro _; rfl
  | cons a t ih =>
    intro h
    have h1 := List.nodup_cons.mp h
    simp only [va_nd, Bool.and_eq_true]
    refine ⟨?_, ih h1.2⟩
    simp [h1.1]
theorem va_nd_range (n : Nat) : va_nd (List.range n) = true := va_nd_of _ List.nodup_range
/-! contracts over the reference's world, and pure ones -/
abbrev MX : Type := (Nat → Int32) × Int64 × (Nat → Nat → Int32) × (Nat → Nat → Int64)
def MWx (h0 : Nat) (ad : Nat → Nat) (cA : Nat → ClassId) (x : MX) : va_W := MW h0 ad cA x.1 x.2.1 x.2.2.1 x.2.2.2
theorem MW_all {ws : va_W} {n : Nat} (h : ws.length = n) : (List.range n).map (fun i => ws[i]?) = ws.map some := by
  subst h
  apply List.ext_getElem?
  intro j
  by_cases hj : j < ws.length
  · simp [hj]
  · simp [hj]
theorem MT_all {tys : List (ClassId × FieldType)} {n : Nat} (h : tys.length = n) : (List.range n).filterMap (fun i => tys[i]?) = tys := by
  have key : ∀ (l : List Nat), (∀ i ∈ l, i < tys.length) → (l.filterMap (fun i => tys[i]?)).map some = l.map (fun i => tys[i]?) := by
    intro l
    induction l with
    | nil => intro _; rfl
    | cons a t ih =>
      intro hl
      have ha : a < tys.length := hl a List.mem_cons_self
      have e : tys[a]? = some tys[a] := List.getElem?_eq_getElem ha
      simp only [List.filterMap_cons, e, List.map_cons]
      rw [ih (fun i hi => hl i (List.mem_cons_of_mem _ hi))]
  have h1 := key (List.range n) (fun i hi => by rw [h]; exact List.mem_range.mp hi)
  have h2 : (List.range n).map (fun i => tys[i]?) = tys.map some := by
    subst h
    apply List.ext_getElem?
    intro j
    by_cases hj : j < tys.length
    · simp [hj]
    · simp [hj]
  have inj : ∀ (l1 l2 : List (ClassId × FieldType)), l1.map some = l2.map some → l1 = l2 := by
    intro l1
    induction l1 with
    | nil => intro l2 h; cases l2 with
      | nil => rfl
      | cons a t => cases h
    | cons a t ih => intro l2 h; cases l2 with
      | nil => cases h
      | cons b u =>
        rw [List.map_cons, List.map_cons] at h
        injection h with e1 e2
        injection e1 with e1
        rw [e1, ih u e2]
  exact inj _ _ (h1.trans h2)
theorem MW_len {h0 : Nat} {ad : Nat → Nat} {cA : Nat → ClassId} {σ : Nat → Int32} {τ : Int64} {α : Nat → Nat → Int32} {β : Nat → Nat → Int64} : (MW h0 ad cA σ τ α β).length = 82 := by simp [MW]
theorem MT_len {cA : Nat → ClassId} : (MT cA).length = 81 := by simp [MT]
def MZi (below : List Frame) (φ : Int32 → MX → Prop) (h0 : Nat) (ad : Nat → Nat) (cA : Nat → ClassId) (dC : Nat → ClassId) (dI : Nat → Nat → Nat) (A : Nat → Prop) (s : State) (av : List Value) : State → Prop := MQ below (va_Qi φ (fun x t => PW dC dI A (MWx h0 ad cA x) (MT cA) t) A) av.toArray s 0 0 A
def MZv (below : List Frame) (φ : MX → Prop) (h0 : Nat) (ad : Nat → Nat) (cA : Nat → ClassId) (dC : Nat → ClassId) (dI : Nat → Nat → Nat) (A : Nat → Prop) (s : State) (av : List Value) : State → Prop := MQ below (va_Qv φ (fun x t => PW dC dI A (MWx h0 ad cA x) (MT cA) t) A) av.toArray s 0 0 A
/-- a contract over the reference's world -/
def MCi (l : Launch) (dC : Nat → ClassId) (dI : Nat → Nat → Nat) (h0 : Nat) (ad : Nat → Nat) (cA : Nat → ClassId) (y : MethodName) (b : ByteArray) (n : Nat) (ret : Option FieldType) (rm : Room) (As : List Value) (σ : Nat → Int32) (τ : Int64) (α : Nat → Nat → Int32) (β : Nat → Nat → Int64) (φ : Int32 → MX → Prop) (sz : Nat) : Prop :=
  Met l y (wsOf y b n ret) rm (va_Pc (.ref h0 :: As) (PB dC dI sz (MW h0 ad cA σ τ α β) (MT cA))) (va_Qi φ (fun x t => PW dC dI (va_A (MW h0 ad cA σ τ α β) sz) (MWx h0 ad cA x) (MT cA) t) (va_A (MW h0 ad cA σ τ α β) sz)) 0 0 (va_A (MW h0 ad cA σ τ α β) sz)
def MCv (l : Launch) (dC : Nat → ClassId) (dI : Nat → Nat → Nat) (h0 : Nat) (ad : Nat → Nat) (cA : Nat → ClassId) (y : MethodName) (b : ByteArray) (n : Nat) (rm : Room) (As : List Value) (σ : Nat → Int32) (τ : Int64) (α : Nat → Nat → Int32) (β : Nat → Nat → Int64) (φ : MX → Prop) (sz : Nat) : Prop :=
  Met l y (wsOf y b n none) rm (va_Pc (.ref h0 :: As) (PB dC dI sz (MW h0 ad cA σ τ α β) (MT cA))) (va_Qv φ (fun x t => PW dC dI (va_A (MW h0 ad cA σ τ α β) sz) (MWx h0 ad cA x) (MT cA) t) (va_A (MW h0 ad cA σ τ α β) sz)) 0 0 (va_A (MW h0 ad cA σ τ α β) sz)
/-- a pure method: no world -/
def PCi (l : Launch) (dC : Nat → ClassId) (dI : Nat → Nat → Nat) (y : MethodName) (b : ByteArray) (n : Nat) (ret : Option FieldType) (rm : Room) (As : List Value) (φ : Int32 → Prop) (sz : Nat) : Prop :=
  Met l y (wsOf y b n ret) rm (va_Pc As (PB dC dI sz [] [])) (va_Qi (fun r (_ : Unit) => φ r) (fun _ t => PW dC dI (va_A [] sz) [] [] t) (va_A [] sz)) 0 0 (va_A [] sz)
section GC
variable {p : Program} {l : Launch} {e : Env} {R : Room} {s : State} {m : MethodId} {args : Array Value} {below : List Frame} {meth : Method} {c : Code} {H : Heap} {locs : List Loc} {cells slots : Nat} {Q : State → Prop}
variable {cc : ByteArray} {pc : Nat} {ls : Array Slot} {dC : Nat → ClassId} {dI : Nat → Nat → Nat} {A : Nat → Prop} {nL index n : Nat} {own : String} {As rest st0 : List Value} {h0 : Nat} {ad : Nat → Nat} {cA : Nat → ClassId} {σ : Nat → Int32} {τ : Int64} {α : Nat → Nat → Int32} {β : Nat → Nat → Int64} {y : MethodName} {bytes : ByteArray} {maxL : Nat} {ret : Option FieldType} {rm : Room}
theorem gbody_i {φ : Int32 → MX → Prop} {sz : Nat} (hy : plainName y.cls = true) (hav : (lg_sl (.ref h0 :: As)).length ≤ maxL)
    (body : ∀ (p : Program) (e : Env) (s : State) (m : MethodId) (below : List Frame) (meth : Method) (c : Code) (ls : Array Slot) (A : Nat → Prop) (H : Heap), Fx p c bytes maxL s (.ref h0 :: As).toArray m y.cls → meth.sig.returnType = ret → meth.locks = false → Wd dC dI A (MW h0 ad cA σ τ α β) (MT cA) s H [] → lv_has ls maxL (lv_args 0 (.ref h0 :: As)) →
      W p l e rm s m (.ref h0 :: As).toArray below meth c H [] 0 0 (MZi below φ h0 ad cA dC dI A s (.ref h0 :: As)) (F0 m 0 ls [])) : MCi l dC dI h0 ad cA y bytes maxL ret rm As σ τ α β φ sz :=
  mbody (y := y) (av := .ref h0 :: As) (b := bytes) (n := maxL) (ret := ret) (Qc := fun A => va_Qi φ (fun x t => PW dC dI A (MWx h0 ad cA x) (MT cA) t) A) hy hav (fun p e s m below meth c ls A H hf hr _ hlk hw hl => body p e s m below meth c ls A H hf hr hlk hw hl)
theorem gbody_v {φ : MX → Prop} {sz : Nat} (hy : plainName y.cls = true) (hav : (lg_sl (.ref h0 :: As)).length ≤ maxL)
    (body : ∀ (p : Program) (e : Env) (s : State) (m : MethodId) (below : List Frame) (meth : Method) (c : Code) (ls : Array Slot) (A : Nat → Prop) (H : Heap), Fx p c bytes maxL s (.ref h0 :: As).toArray m y.cls → meth.sig.returnType = none → meth.locks = false → Wd dC dI A (MW h0 ad cA σ τ α β) (MT cA) s H [] → lv_has ls maxL (lv_args 0 (.ref h0 :: As)) →
      W p l e rm s m (.ref h0 :: As).toArray below meth c H [] 0 0 (MZv below φ h0 ad cA dC dI A s (.ref h0 :: As)) (F0 m 0 ls [])) : MCv l dC dI h0 ad cA y bytes maxL rm As σ τ α β φ sz :=
  mbody (y := y) (av := .ref h0 :: As) (b := bytes) (n := maxL) (ret := none) (Qc := fun A => va_Qv φ (fun x t => PW dC dI A (MWx h0 ad cA x) (MT cA) t) A) hy hav (fun p e s m below meth c ls A H hf hr _ hlk hw hl => body p e s m below meth c ls A H hf hr hlk hw hl)
theorem gret_i {φ : Int32 → MX → Prop} {av : List Value} {v : Int32} (hf : Fx p c cc nL s av.toArray m own) (hr : meth.sig.returnType = some .int) (hlk : meth.locks = false) (hw : Wd dC dI A (MW h0 ad cA σ τ α β) (MT cA) s H locs) (hφ : φ v (σ, τ, α, β)) (hdg : decode cc pc = .ok (.ireturn, 1)) : W p l e R s m av.toArray below meth c H locs 0 0 (MZi below φ h0 ad cA dC dI A s av) (F0 m pc ls [.int v]) :=
  mret_i hf hr hlk hw (σ, τ, α, β) hφ (List.range 82) (List.range 81) (MW_all MW_len) (by decide) (MT_all MT_len) (Nat.le_refl _) (Nat.le_refl _) hdg
theorem gret_z {φ : Int32 → MX → Prop} {av : List Value} {v : Int32} (hf : Fx p c cc nL s av.toArray m own) (hr : meth.sig.returnType = some .boolean) (hlk : meth.locks = false) (hz : narrow .boolean (.int v) = .int v) (hw : Wd dC dI A (MW h0 ad cA σ τ α β) (MT cA) s H locs) (hφ : φ v (σ, τ, α, β)) (hdg : decode cc pc = .ok (.ireturn, 1)) : W p l e R s m av.toArray below meth c H locs 0 0 (MZi below φ h0 ad cA dC dI A s av) (F0 m pc ls [.int v]) :=
  mret_z hf hr hlk hz hw (σ, τ, α, β) hφ (List.range 82) (List.range 81) (MW_all MW_len) (by decide) (MT_all MT_len) (Nat.le_refl _) (Nat.le_refl _) hdg
theorem gret_v {φ : MX → Prop} {av : List Value} (hf : Fx p c cc nL s av.toArray m own) (hr : meth.sig.returnType = none) (hlk : meth.locks = false) (hw : Wd dC dI A (MW h0 ad cA σ τ α β) (MT cA) s H locs) (hφ : φ (σ, τ, α, β)) (hdg : decode cc pc = .ok (.return_, 1)) : W p l e R s m av.toArray below meth c H locs 0 0 (MZv below φ h0 ad cA dC dI A s av) (F0 m pc ls []) :=
  mret_v hf hr hlk hw (σ, τ, α, β) hφ (List.range 82) (List.range 81) (MW_all MW_len) (by decide) (MT_all MT_len) (Nat.le_refl _) (Nat.le_refl _) hdg
theorem gcall_i {φ : Int32 → MX → Prop} (hf : Fx p c cc nL s args m own) (hw : Wd dC dI A (MW h0 ad cA σ τ α β) (MT cA) s H locs) (hM : MCi l dC dI h0 ad cA y bytes maxL ret rm As σ τ α β φ H.size) (hk : KA y bytes maxL ret n) (hv : KV y) (hcl : classes[9]? = some (y.cls, TX11, 129)) (hlink : Cond.methodLink own index y ∈ gtb) (hst : st0 = As.reverse ++ .ref h0 :: rest) (hn : As.length = n) (hz : ls.size = nL) (hrc : rm.cells = 0) (hrs : rm.slots = 0) (hR : rm.frames + 1 ≤ R.frames ∧ 8 + (maxL + 11) + rm.locals ≤ R.locals) (hcat : (rest.map fun v => v.category).sum ≤ 8) (hcells : cells ≤ R.cells ∧ slots ≤ R.slots) (hdg : decode cc pc = .ok (.invokevirtual index, 3))
    (kk : ∀ (r : Int32) (x : MX), φ r x → ∀ (H1 : Heap) (locs1 : List Loc), Wd dC dI A (MW h0 ad cA x.1 x.2.1 x.2.2.1 x.2.2.2) (MT cA) s H1 locs1 → W p l e R s m args below meth c H1 locs1 cells slots Q (F0 m (pc + 3) ls (.int r :: rest))) : W p l e R s m args below meth c H locs cells slots Q (F0 m pc ls st0) :=
  mV_i (wr := []) (tr := []) hf hw hM hk hv 0 MW_0 hcl hlink (List.range 82) (List.range 81) [] [] (MW_all MW_len) (by decide) (MT_all MT_len) rfl (by decide) (fun _ h => absurd h List.not_mem_nil) rfl hst hn hz hrc hrs hR hcat rfl rfl hcells hdg (fun r x hφ H1 locs1 h => kk r x hφ H1 locs1 h)
theorem gcall_v {φ : MX → Prop} (hf : Fx p c cc nL s args m own) (hw : Wd dC dI A (MW h0 ad cA σ τ α β) (MT cA) s H locs) (hM : MCv l dC dI h0 ad cA y bytes maxL rm As σ τ α β φ H.size) (hk : KA y bytes maxL none n) (hv : KV y) (hcl : classes[9]? = some (y.cls, TX11, 129)) (hlink : Cond.methodLink own index y ∈ gtb) (hst : st0 = As.reverse ++ .ref h0 :: rest) (hn : As.length = n) (hz : ls.size = nL) (hrc : rm.cells = 0) (hrs : rm.slots = 0) (hR : rm.frames + 1 ≤ R.frames ∧ 8 + (maxL + 11) + rm.locals ≤ R.locals) (hcat : (rest.map fun v => v.category).sum ≤ 8) (hcells : cells ≤ R.cells ∧ slots ≤ R.slots) (hdg : decode cc pc = .ok (.invokevirtual index, 3))
    (kk : ∀ (x : MX), φ x → ∀ (H1 : Heap) (locs1 : List Loc), Wd dC dI A (MW h0 ad cA x.1 x.2.1 x.2.2.1 x.2.2.2) (MT cA) s H1 locs1 → W p l e R s m args below meth c H1 locs1 cells slots Q (F0 m (pc + 3) ls rest)) : W p l e R s m args below meth c H locs cells slots Q (F0 m pc ls st0) :=
  mV_v (wr := []) (tr := []) hf hw hM hk hv 0 MW_0 hcl hlink (List.range 82) (List.range 81) [] [] (MW_all MW_len) (by decide) (MT_all MT_len) rfl (by decide) (fun _ h => absurd h List.not_mem_nil) rfl hst hn hz hrc hrs hR hcat rfl rfl hcells hdg (fun x hφ H1 locs1 h => kk x hφ H1 locs1 h)
theorem pbody_i {φ : Int32 → Prop} {sz : Nat} (hy : plainName y.cls = true) (hav : (lg_sl As).length ≤ maxL)
    (body : ∀ (p : Program) (e : Env) (s : State) (m : MethodId) (below : List Frame) (meth : Method) (c : Code) (ls : Array Slot) (A : Nat → Prop) (H : Heap), Fx p c bytes maxL s As.toArray m y.cls → meth.sig.returnType = ret → meth.locks = false → Wd dC dI A [] [] s H [] → lv_has ls maxL (lv_args 0 As) →
      W p l e rm s m As.toArray below meth c H [] 0 0 (MQ below (va_Qi (fun r (_ : Unit) => φ r) (fun _ t => PW dC dI A [] [] t) A) As.toArray s 0 0 A) (F0 m 0 ls [])) : PCi l dC dI y bytes maxL ret rm As φ sz :=
  mbody (y := y) (av := As) (b := bytes) (n := maxL) (ret := ret) (Qc := fun A => va_Qi (fun r (_ : Unit) => φ r) (fun _ t => PW dC dI A [] [] t) A) hy hav (fun p e s m below meth c ls A H hf hr _ hlk hw hl => body p e s m below meth c ls A H hf hr hlk hw hl)
/-- a pure static call: the world stays -/
theorem pcall_i {φ : Int32 → Prop} {ws : va_W} {tys : List (ClassId × FieldType)} (hf : Fx p c cc nL s args m own) (hw : Wd dC dI A ws tys s H locs) (hM : PCi l dC dI y bytes maxL ret rm As φ H.size) (hk : KA y bytes maxL ret n) (hv : Cond.static y ∈ gtb) (hlink : Cond.methodLink own index y ∈ gtb) (hst : st0 = As.reverse ++ rest) (hn : As.length = n) (hz : ls.size = nL) (hrc : rm.cells = 0) (hrs : rm.slots = 0) (hR : rm.frames + 1 ≤ R.frames ∧ 8 + (maxL + 11) + rm.locals ≤ R.locals) (hcat : (rest.map fun v => v.category).sum ≤ 8) (hcells : cells ≤ R.cells ∧ slots ≤ R.slots) (hdg : decode cc pc = .ok (.invokestatic index, 3))
    (kk : ∀ (r : Int32), φ r → ∀ (H1 : Heap) (locs1 : List Loc), Wd dC dI A ws tys s H1 locs1 → W p l e R s m args below meth c H1 locs1 cells slots Q (F0 m (pc + 3) ls (.int r :: rest))) : W p l e R s m args below meth c H locs cells slots Q (F0 m pc ls st0) :=
  mS_i (w1 := fun _ => []) (t1 := fun _ => []) (wr := ws) (tr := tys) hf hw hM hk hv hlink [] [] (List.range ws.length) (List.range tys.length) rfl rfl rfl (MW_all rfl) (va_nd_range _) (fun _ _ => List.not_mem_nil) (MT_all rfl) hst hn hz hrc hrs hR hcat rfl rfl hcells hdg (fun r _ hφ H1 locs1 h => kk r hφ H1 locs1 (by simpa using h))
end GC
