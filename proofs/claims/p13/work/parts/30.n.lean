/-! the layer N: constructors. The layout Y grows, addresses (ad) and row classes (cA) grow with it -/
def zE (X : St) (n : Nat) : St := (uA X.1 n (fun _ => 0), uA X.2.1 n (fun _ => 0), uA X.2.2 n (fun _ => 0))
def RB (X : St) (n : Nat) : Bool := (List.range n).all (fun e => (List.range 129).all (fun k => decide (X.2.2 e k ≤ n)))
def YB (Y : List Ent) (n : Nat) : Bool := Y.all (fun x => decide (x.2.2.2.length ≤ 129) && x.2.2.2.all (fun c => decide (c < n + 3)))
def setK (Y : List Ent) (e k c : Nat) : List Ent := Y.set e ((eY Y e).1, (eY Y e).2.1, (eY Y e).2.2.1, (eY Y e).2.2.2.set k c)
def adU {T : Type} (ad : Nat → T) (n : Nat) (q : T) : Nat → T := fun j => if j = n then q else ad j
theorem adU_at {T : Type} (ad : Nat → T) (n : Nat) (q : T) : adU ad n q n = q := if_pos rfl
theorem adU_ne {T : Type} (ad : Nat → T) (n : Nat) (q : T) {j : Nat} (h : j ≠ n) : adU ad n q j = ad j := if_neg h
theorem fmc {T S : Type} {f g : T → Option S} : ∀ {l : List T}, (∀ x ∈ l, f x = g x) → l.filterMap f = l.filterMap g := by
  intro l
  induction l with
  | nil => intro _; rfl
  | cons a t ih =>
    intro h
    rw [List.filterMap_cons, List.filterMap_cons, h a List.mem_cons_self, ih (fun x hx => h x (List.mem_cons_of_mem _ hx))]
theorem eY_app {Y : List Ent} {x : Ent} {e : Nat} (h : e < Y.length) : eY (Y ++ [x]) e = eY Y e := by
  unfold eY
  rw [List.getD_eq_getElem?_getD, List.getD_eq_getElem?_getD, List.getElem?_append_left h]
theorem eY_last {Y : List Ent} {x : Ent} : eY (Y ++ [x]) Y.length = x := by
  unfold eY
  rw [List.getD_eq_getElem?_getD, List.getElem?_append_right (Nat.le_refl _), Nat.sub_self]
  rfl
theorem eY_mem {Y : List Ent} {e : Nat} (h : e < Y.length) : eY Y e ∈ Y := by
  unfold eY
  rw [List.getD_eq_getElem?_getD, List.getElem?_eq_getElem h]
  exact List.getElem_mem h
theorem getD_mem {l : List Nat} {k d : Nat} (h : k < l.length) : l.getD k d ∈ l := by
  rw [List.getD_eq_getElem?_getD, List.getElem?_eq_getElem h]
  exact List.getElem_mem h
theorem GW_app {Y : List Ent} {x : Ent} {n q : Nat} {ad : Nat → Nat} {cA : Nat → ClassId} {cq : ClassId} {X : St} (hn : Y.length = n) (hY : YB Y n = true) (hR : RB X n = true) : GW (Y ++ [x]) (adU ad n q) (adU cA n cq) (zE X n) = GW Y ad cA X ++ [(q, entE (adU ad n q) (adU cA n cq) (zE X n) n x)] := by
  subst hn
  unfold GW
  rw [List.length_append, List.length_singleton, List.range_succ, List.map_append]
  congr 1
  · refine List.map_congr_left (fun e he => ?_)
    have hl : e < Y.length := List.mem_range.mp he
    have hne : e ≠ Y.length := Nat.ne_of_lt hl
    rw [eY_app hl, adU_ne ad _ _ hne]
    have hy := List.all_eq_true.mp hY _ (eY_mem hl)
    rw [Bool.and_eq_true] at hy
    obtain ⟨hy1, hy2⟩ := hy
    have hy1 := of_decide_eq_true hy1
    have hfv : ∀ k, k < (eY Y e).2.2.2.length → fvE (adU ad Y.length q) (zE X Y.length) e k ((eY Y e).2.2.2.getD k 9999) = fvE ad X e k ((eY Y e).2.2.2.getD k 9999) := by
      intro k hk
      have hc := of_decide_eq_true (List.all_eq_true.mp hy2 _ (getD_mem (d := 9999) hk))
      match hm : (eY Y e).2.2.2.getD k 9999, hc with
      | 0, _ => show Value.int (uA X.1 Y.length _ e k) = Value.int (X.1 e k); rw [uA_ne _ _ _ hne]
      | 1, _ => show Value.long (uA X.2.1 Y.length _ e k) = Value.long (X.2.1 e k); rw [uA_ne _ _ _ hne]
      | 2, _ =>
        show (if uA X.2.2 Y.length _ e k = 0 then Value.null else .ref (adU ad Y.length q (uA X.2.2 Y.length _ e k - 1))) = if X.2.2 e k = 0 then Value.null else .ref (ad (X.2.2 e k - 1))
        rw [uA_ne _ _ _ hne]
        by_cases h0 : X.2.2 e k = 0
        · rw [if_pos h0, if_pos h0]
        · rw [if_neg h0, if_neg h0, adU_ne]
          have hk24 : k < 129 := Nat.lt_of_lt_of_le hk hy1
          have h2 := of_decide_eq_true (List.all_eq_true.mp (List.all_eq_true.mp hR e (List.mem_range.mpr hl)) k (List.mem_range.mpr hk24))
          omega
      | c + 3, hc =>
        show Value.ref (adU ad Y.length q c) = Value.ref (ad c)
        rw [adU_ne _ _ _ (by omega)]
    unfold entE
    by_cases h0 : (eY Y e).1 = 0
    · rw [if_pos h0, if_pos h0]
      congr 3
      exact List.map_congr_left (fun k hk => hfv k (List.mem_range.mp hk))
    · rw [if_neg h0, if_neg h0]
      show (ad e, if (eY Y e).1 = 1 then Sum.inl (adU cA Y.length cq e, (eY Y e).2.1, Sum.inl (uA X.1 Y.length _ e)) else Sum.inl (adU cA Y.length cq e, (eY Y e).2.1, Sum.inr (Sum.inl (uA X.2.1 Y.length _ e)))) = _
      rw [adU_ne cA _ _ hne, uA_ne _ _ _ hne, uA_ne _ _ _ hne]
  · show [(adU ad Y.length q Y.length, entE _ _ _ Y.length (eY (Y ++ [x]) Y.length))] = _
    rw [eY_last, adU_at]
theorem GT_app {Y : List Ent} {x : Ent} {n : Nat} {cA : Nat → ClassId} {cq : ClassId} (hn : Y.length = n) : GT (Y ++ [x]) (adU cA n cq) = GT Y cA ++ (if x.1 = 0 then [] else [(cq, x.2.2.1)]) := by
  subst hn
  unfold GT
  rw [List.length_append, List.length_singleton, List.range_succ, List.filterMap_append]
  congr 1
  · refine fmc (fun e he => ?_)
    have hl : e < Y.length := List.mem_range.mp he
    rw [eY_app hl, adU_ne _ _ _ (Nat.ne_of_lt hl)]
  · rw [List.filterMap_cons, List.filterMap_nil, eY_last, adU_at]
    by_cases h : x.1 = 0
    · rw [if_pos h, if_pos h]
    · rw [if_neg h, if_neg h]
theorem setK_len {Y : List Ent} {e k c : Nat} : (setK Y e k c).length = Y.length := List.length_set
theorem eY_setK {Y : List Ent} {e k c j : Nat} (h : j ≠ e) : eY (setK Y e k c) j = eY Y j := by
  unfold eY setK
  rw [List.getD_eq_getElem?_getD, List.getD_eq_getElem?_getD, List.getElem?_set_ne (Ne.symm h)]
theorem eY_setK_at {Y : List Ent} {e k c : Nat} (h : e < Y.length) : eY (setK Y e k c) e = ((eY Y e).1, (eY Y e).2.1, (eY Y e).2.2.1, (eY Y e).2.2.2.set k c) := by
  have h1 : (setK Y e k c)[e]? = some ((eY Y e).1, (eY Y e).2.1, (eY Y e).2.2.1, (eY Y e).2.2.2.set k c) := by
    unfold setK
    rw [List.getElem?_set_self h]
  show (setK Y e k c).getD e _ = _
  rw [List.getD_eq_getElem?_getD, h1]
  rfl
theorem GW_setK {Y : List Ent} {ad : Nat → Nat} {cA : Nat → ClassId} {X : St} {e ci n k c : Nat} (h : isO Y e ci n) (hk : k < n) : (GW Y ad cA X).set e (ad e, .inr (ci, ((List.range n).map (fun k => fvE ad X e k (kY Y e k))).set k (.ref (ad c)))) = GW (setK Y e k (c + 3)) ad cA X := by
  have hl : e < Y.length := eY_lt (by rw [h.1]; decide)
  unfold GW
  rw [setK_len]
  refine rset _ _ ?_ (fun j hj => by rw [eY_setK hj])
  rw [eY_setK_at hl]
  obtain ⟨q1, q2, q3⟩ := h
  unfold entE
  rw [if_pos q1, q2]
  show (ad e, Sum.inr (ci, (List.range ((eY Y e).2.2.2.set k (c + 3)).length).map _)) = _
  rw [List.length_set, q3]
  congr 3
  refine (rset (fun k => fvE ad X e k (kY Y e k)) (fun j => fvE ad X e j (((eY Y e).2.2.2.set k (c + 3)).getD j 9999)) (v := .ref (ad c)) ?_ (fun j hj => ?_)).symm
  · show fvE ad X e k (((eY Y e).2.2.2.set k (c + 3)).getD k 9999) = _
    rw [List.getD_eq_getElem?_getD, List.getElem?_set_self (by rw [q3]; exact hk)]
    rfl
  · show fvE ad X e j (((eY Y e).2.2.2.set k (c + 3)).getD j 9999) = fvE ad X e j ((eY Y e).2.2.2.getD j 9999)
    rw [List.getD_eq_getElem?_getD, List.getD_eq_getElem?_getD, List.getElem?_set_ne (Ne.symm hj)]
theorem GT_setK {Y : List Ent} {cA : Nat → ClassId} {e k c : Nat} (h : e < Y.length) : GT (setK Y e k c) cA = GT Y cA := by
  unfold GT
  rw [setK_len]
  refine fmc (fun j _ => ?_)
  by_cases q : j = e
  · subst q
    rw [eY_setK_at h]
  · rw [eY_setK q]
abbrev Vw : Type := List Ent × (Nat → Nat) × (Nat → ClassId) × St
abbrev Lx : Type := Launch × (Nat → ClassId) × (Nat → Nat → Nat)
def WdV (Λ : Lx) (A : Nat → Prop) (V : Vw) (s : State) (H : Heap) (locs : List Loc) : Prop := Wd Λ.2.1 Λ.2.2 A (GW V.1 V.2.1 V.2.2.1 V.2.2.2) (GT V.1 V.2.2.1) s H locs
def EX (V0 : Vw) (u : (Nat → Nat) × (Nat → ClassId)) : Prop := ∀ e, e < V0.1.length → u.1 e = V0.2.1 e ∧ u.2 e = V0.2.2.1 e
/-- so much room is left: cells and slots -/
def N (Λ : Lx) (cc : ByteArray) (nL : Nat) (own : String) (R0 : Room) (As : List Value) (V0 : Vw) (Yf : List Ent) (pc : Nat) (lv : List (Nat × Value)) (st : List Value) (V : Vw) (ce sl : Nat) (F : Option St) : Prop :=
  ∀ X' : St, F = some X' → ∀ (p : Program) (e : Env) (s : State) (m : MethodId) (below : List Frame) (meth : Method) (c : Code) (ls : Array Slot) (A : Nat → Prop) (H : Heap) (locs : List Loc),
    Fx p c cc nL s As.toArray m own → meth.sig.returnType = none → meth.name = "<init>" → meth.locks = false → WdV Λ A V s H locs → EX V0 (V.2.1, V.2.2.1) → lv_has ls nL lv →
    W p Λ.1 e R0 s m As.toArray below meth c H locs ce sl (MQ below (va_Qv (EX V0) (fun (u : (Nat → Nat) × (Nat → ClassId)) t => PW Λ.2.1 Λ.2.2 A (GW Yf u.1 u.2 X') (GT Yf u.2) t) A) As.toArray s R0.cells R0.slots A) (F0 m pc ls st)
def NM (Λ : Lx) (y : MethodName) (cc : ByteArray) (nL : Nat) (R0 : Room) (As : List Value) (V0 : Vw) (Yf : List Ent) (F : Option St) : Prop :=
  ∀ X' : St, F = some X' → ∀ sz : Nat, Met Λ.1 y (wsOf y cc nL none) R0 (va_Pc As (PB Λ.2.1 Λ.2.2 sz (GW V0.1 V0.2.1 V0.2.2.1 V0.2.2.2) (GT V0.1 V0.2.2.1))) (va_Qv (EX V0) (fun (u : (Nat → Nat) × (Nat → ClassId)) t => PW Λ.2.1 Λ.2.2 (va_A (GW V0.1 V0.2.1 V0.2.2.1 V0.2.2.2) sz) (GW Yf u.1 u.2 X') (GT Yf u.2) t) (va_A (GW V0.1 V0.2.1 V0.2.2.1 V0.2.2.2) sz)) R0.cells R0.slots (va_A (GW V0.1 V0.2.1 V0.2.2.1 V0.2.2.2) sz)
section NL
variable {Λ : Lx} {cc cc1 : ByteArray} {nL nL1 : Nat} {own : String} {R0 R1 : Room} {As As1 rest st st1 st0 : List Value} {V0 : Vw} {Yf Y Y1 : List Ent} {ad : Nat → Nat} {cA : Nat → ClassId} {X : St} {pc pc1 ce sl ce1 sl1 n index : Nat} {lv lv1 : List (Nat × Value)} {V V1 : Vw} {F : Option St} {y : MethodName}
theorem NM.of (hy : plainName y.cls = true) (hinit : y.name = "<init>") (hav : (lg_sl As).length ≤ nL) (hown : own = y.cls) (h : N Λ cc nL own R0 As V0 Yf 0 (lv_args 0 As) [] V0 0 0 F) : NM Λ y cc nL R0 As V0 Yf F := by
  intro X' hF sz
  exact mbody (y := y) (av := As) (b := cc) (n := nL) (ret := none) (rm := R0) (Qc := fun A => va_Qv (EX V0) (fun (u : (Nat → Nat) × (Nat → ClassId)) t => PW Λ.2.1 Λ.2.2 A (GW Yf u.1 u.2 X') (GT Yf u.2) t) A) hy hav (fun p e s m below meth c ls A H hf hr hnm hlk hw hl => h X' hF p e s m below meth c ls A H [] (by rw [hown]; exact hf) hr (hnm.trans hinit) hlk hw (fun _ _ => ⟨rfl, rfl⟩) hl)
theorem N.lf (h : N Λ cc nL own R0 As V0 Yf pc1 lv1 st1 V ce sl F)
    (step : ∀ (p : Program) (e : Env) (s : State) (m : MethodId) (below : List Frame) (meth : Method) (c : Code) (ls : Array Slot) (A : Nat → Prop) (H : Heap) (locs : List Loc) (Q : State → Prop), Fx p c cc nL s As.toArray m own → WdV Λ A V s H locs → lv_has ls nL lv →
      (∀ (ls1 : Array Slot), lv_has ls1 nL lv1 → W p Λ.1 e R0 s m As.toArray below meth c H locs ce sl Q (F0 m pc1 ls1 st1)) →
      W p Λ.1 e R0 s m As.toArray below meth c H locs ce sl Q (F0 m pc ls st)) : N Λ cc nL own R0 As V0 Yf pc lv st V ce sl F := by
  intro X' hF p e s m below meth c ls A H locs hfx hret hnm hlk hwd hE hlv
  exact step p e s m below meth c ls A H locs _ hfx hwd hlv (fun ls1 hl1 => h X' hF p e s m below meth c ls1 A H locs hfx hret hnm hlk hwd hE hl1)
theorem N.ret (hY : V.1 = Yf) (hce : ce ≤ R0.cells) (hsl : sl ≤ R0.slots) (hdg : decode cc pc = .ok (.return_, 1)) : N Λ cc nL own R0 As V0 Yf pc lv [] V ce sl (some V.2.2.2) := by
  intro X' hF p e s m below meth c ls A H locs hf hr hnm hlk hw hE hl
  injection hF with hF
  subst hF
  subst hY
  exact mret_v (X := (Nat → Nat) × (Nat → ClassId)) (φ := EX V0) (w1 := fun u => GW V.1 u.1 u.2 V.2.2.2) (t1 := fun u => GT V.1 u.2) hf hr hlk hw (V.2.1, V.2.2.1) hE (List.range (GW V.1 V.2.1 V.2.2.1 V.2.2.2).length) (List.range (GT V.1 V.2.2.1).length) (MW_all rfl) (va_nd_range _) (MT_all rfl) hce hsl hdg
theorem N.sub {lv' : List (Nat × Value)} (ks : List Nat) (hl : lv_pick lv ks = lv') (kk : N Λ cc nL own R0 As V0 Yf pc lv' st V ce sl F) : N Λ cc nL own R0 As V0 Yf pc lv st V ce sl F :=
  fun X' hF p e s m below meth c ls A H locs hf hret hnm hlk hw hE hlv => kk X' hF p e s m below meth c ls A H locs hf hret hnm hlk hw hE (lv_sub hlv ks hl)
theorem N.eqY (h : Y = Y1) (k : N Λ cc nL own R0 As V0 Yf pc lv st (Y1, ad, cA, X) ce sl F) : N Λ cc nL own R0 As V0 Yf pc lv st (Y, ad, cA, X) ce sl F := by
  subst h
  exact k
theorem N.obj {a : Addr} (hlink : (Cond.methodLink own index objectInit) ∈ gtb) (hinst : (Cond.instanceMethod objectInit) ∈ gtb) (hcode : (Cond.code objectInit ⟨#[0xb1]⟩ 1 none) ∈ gtb) (hd : decode cc pc = .ok (.invokespecial index, 3)) (h1 : 1 ≤ R0.frames) (h2 : 12 ≤ R0.locals) (kk : N Λ cc nL own R0 As V0 Yf (pc + 3) lv [] V ce sl F) : N Λ cc nL own R0 As V0 Yf pc lv [.ref a] V ce sl F :=
  N.lf kk (fun p e s m below meth c ls A H locs Q hf hw hl k => mobj hf hl.1 hlink hinst hcode hd h1 h2 (k ls hl))
theorem N.putI {C : String} {TT : u_T} {M ci : Nat} (e : Nat) {a : Addr} (ha : ad e = a) (hE : isO Y e ci M) (hcl : classes[ci]? = some (C, TT, M)) (hin : ∀ w ∈ u_ws C TT M, w ∈ gtb) (k : Nat) (hk : k < M) (hkd : kY Y e k = 0) (hlink : (Cond.fieldLink own index (TT k).1 (TT k).2.1 (TT k).2.2.1) ∈ gtb) (ty0 : Nat → FieldType) (hty : ∀ k, k < M → parseFieldDescriptor (TT k).2.2.1 = some (ty0 k)) (hnm : ∀ a, a < M → ∀ b, b < M → a ≠ b → (TT a).2.1 ≠ (TT b).2.1) (hfin : (TT k).2.2.2 = false) {w : Int32} (hn : narrow (ty0 k) (.int w) = .int w) (hfit : fits (ty0 k) (.int w) = true) (hdg : decode cc pc = .ok (.putfield index, 3)) {Kf : St → Option St} (kk : ∀ X1 : St, N Λ cc nL own R0 As V0 Yf (pc + 3) lv rest (Y, ad, cA, X1) ce sl (Kf X1)) : N Λ cc nL own R0 As V0 Yf pc lv (.int w :: .ref a :: rest) (Y, ad, cA, X) ce sl (letV (wI X e k w) Kf) := by
  subst ha
  intro X' hF p e0 s m below meth c ls A H locs hf hret hnm2 hlk hw hEx hl
  exact mput hf hw hin ty0 hty hnm e (GW_o hE) hcl k hk hlink hfin hn hfit (by simpa using hk) (GW_so (X' := wI X e k w) hE (show fvE _ (wI X e k w) e k (kY Y e k) = .int w from by rw [hkd]; exact congrArg Value.int ((congrFun (uA_at X.1 e (upd (X.1 e) k w)) k).trans (if_pos rfl))) (fun j hj => uA_ne _ _ _ hj) (fun _ _ => rfl) (fun _ _ => rfl) (fun j hj => by show uA X.1 e _ e j = _; rw [uA_at]; exact if_neg hj) (fun _ _ => rfl) (fun _ _ => rfl)) hdg (fun H1 locs1 hw1 => kk (wI X e k w) X' hF p e0 s m below meth c ls A H1 locs1 hf hret hnm2 hlk hw1 hEx hl)
theorem N.putL {C : String} {TT : u_T} {M ci : Nat} (e : Nat) {a : Addr} (ha : ad e = a) (hE : isO Y e ci M) (hcl : classes[ci]? = some (C, TT, M)) (hin : ∀ w ∈ u_ws C TT M, w ∈ gtb) (k : Nat) (hk : k < M) (hkd : kY Y e k = 1) (hlink : (Cond.fieldLink own index (TT k).1 (TT k).2.1 (TT k).2.2.1) ∈ gtb) (ty0 : Nat → FieldType) (hty : ∀ k, k < M → parseFieldDescriptor (TT k).2.2.1 = some (ty0 k)) (hnm : ∀ a, a < M → ∀ b, b < M → a ≠ b → (TT a).2.1 ≠ (TT b).2.1) (hfin : (TT k).2.2.2 = false) {w : Int64} (hn : narrow (ty0 k) (.long w) = .long w) (hfit : fits (ty0 k) (.long w) = true) (hdg : decode cc pc = .ok (.putfield index, 3)) {Kf : St → Option St} (kk : ∀ X1 : St, N Λ cc nL own R0 As V0 Yf (pc + 3) lv rest (Y, ad, cA, X1) ce sl (Kf X1)) : N Λ cc nL own R0 As V0 Yf pc lv (.long w :: .ref a :: rest) (Y, ad, cA, X) ce sl (letV (wL X e k w) Kf) := by
  subst ha
  intro X' hF p e0 s m below meth c ls A H locs hf hret hnm2 hlk hw hEx hl
  exact mput hf hw hin ty0 hty hnm e (GW_o hE) hcl k hk hlink hfin hn hfit (by simpa using hk) (GW_so (X' := wL X e k w) hE (show fvE _ (wL X e k w) e k (kY Y e k) = .long w from by rw [hkd]; exact congrArg Value.long ((congrFun (uA_at X.2.1 e (vp_updL (X.2.1 e) k w)) k).trans (if_pos rfl))) (fun _ _ => rfl) (fun j hj => uA_ne _ _ _ hj) (fun _ _ => rfl) (fun _ _ => rfl) (fun j hj => by show uA X.2.1 e _ e j = _; rw [uA_at]; exact if_neg hj) (fun _ _ => rfl)) hdg (fun H1 locs1 hw1 => kk (wL X e k w) X' hF p e0 s m below meth c ls A H1 locs1 hf hret hnm2 hlk hw1 hEx hl)
/-- null into a field that changes: it holds null already, in the state -/
theorem N.putN {C : String} {TT : u_T} {M ci : Nat} (e : Nat) {a : Addr} (ha : ad e = a) (hE : isO Y e ci M) (hcl : classes[ci]? = some (C, TT, M)) (hin : ∀ w ∈ u_ws C TT M, w ∈ gtb) (k : Nat) (hk : k < M) (hkd : kY Y e k = 2) (hlink : (Cond.fieldLink own index (TT k).1 (TT k).2.1 (TT k).2.2.1) ∈ gtb) (ty0 : Nat → FieldType) (hty : ∀ k, k < M → parseFieldDescriptor (TT k).2.2.1 = some (ty0 k)) (hnm : ∀ a, a < M → ∀ b, b < M → a ≠ b → (TT a).2.1 ≠ (TT b).2.1) (hfin : (TT k).2.2.2 = false) (hn : narrow (ty0 k) .null = .null) (hfit : fits (ty0 k) .null = true) (hdg : decode cc pc = .ok (.putfield index, 3)) {Kf : St → Option St} (kk : ∀ X1 : St, N Λ cc nL own R0 As V0 Yf (pc + 3) lv rest (Y, ad, cA, X1) ce sl (Kf X1)) : N Λ cc nL own R0 As V0 Yf pc lv (.null :: .ref a :: rest) (Y, ad, cA, X) ce sl (letV (wR X e k 0) Kf) := by
  subst ha
  intro X' hF p e0 s m below meth c ls A H locs hf hret hnm2 hlk hw hEx hl
  have h0 : (wR X e k 0).2.2 e k = 0 := (congrFun (uA_at X.2.2 e (fun j => if j = k then 0 else X.2.2 e j)) k).trans (if_pos rfl)
  exact mput hf hw hin ty0 hty hnm e (GW_o hE) hcl k hk hlink hfin hn hfit (by simpa using hk) (GW_so (X' := wR X e k 0) hE (show fvE ad (wR X e k 0) e k (kY Y e k) = .null from by rw [hkd]; exact if_pos h0) (fun _ _ => rfl) (fun _ _ => rfl) (fun j hj => uA_ne _ _ _ hj) (fun _ _ => rfl) (fun _ _ => rfl) (fun j hj => by show uA X.2.2 e _ e j = _; rw [uA_at]; exact if_neg hj)) hdg (fun H1 locs1 hw1 => kk (wR X e k 0) X' hF p e0 s m below meth c ls A H1 locs1 hf hret hnm2 hlk hw1 hEx hl)
theorem N.putR {C : String} {TT : u_T} {M ci : Nat} (e : Nat) {a : Addr} (ha : ad e = a) (w : Nat) {b : Addr} (hb : ad w = b) (hE : isO Y e ci M) (hcl : classes[ci]? = some (C, TT, M)) (hin : ∀ w ∈ u_ws C TT M, w ∈ gtb) (k : Nat) (hk : k < M) (hkd : kY Y e k = 2) (hlink : (Cond.fieldLink own index (TT k).1 (TT k).2.1 (TT k).2.2.1) ∈ gtb) (ty0 : Nat → FieldType) (hty : ∀ k, k < M → parseFieldDescriptor (TT k).2.2.1 = some (ty0 k)) (hnm : ∀ a, a < M → ∀ b, b < M → a ≠ b → (TT a).2.1 ≠ (TT b).2.1) (hfin : (TT k).2.2.2 = false) (hn : narrow (ty0 k) (.ref b) = .ref b) (hfit : fits (ty0 k) (.ref b) = true) (hdg : decode cc pc = .ok (.putfield index, 3)) {Kf : St → Option St} (kk : ∀ X1 : St, N Λ cc nL own R0 As V0 Yf (pc + 3) lv rest (Y, ad, cA, X1) ce sl (Kf X1)) : N Λ cc nL own R0 As V0 Yf pc lv (.ref b :: .ref a :: rest) (Y, ad, cA, X) ce sl (letV (wR X e k (w + 1)) Kf) := by
  subst ha
  subst hb
  intro X' hF p e0 s m below meth c ls A H locs hf hret hnm2 hlk hw hEx hl
  have h0 : (wR X e k (w + 1)).2.2 e k = w + 1 := (congrFun (uA_at X.2.2 e (fun j => if j = k then w + 1 else X.2.2 e j)) k).trans (if_pos rfl)
  exact mput hf hw hin ty0 hty hnm e (GW_o hE) hcl k hk hlink hfin hn hfit (by simpa using hk) (GW_so (X' := wR X e k (w + 1)) hE (show fvE ad (wR X e k (w + 1)) e k (kY Y e k) = .ref (ad w) from by rw [hkd]; show (if (wR X e k (w + 1)).2.2 e k = 0 then Value.null else .ref (ad ((wR X e k (w + 1)).2.2 e k - 1))) = _; rw [h0]; rfl) (fun _ _ => rfl) (fun _ _ => rfl) (fun j hj => uA_ne _ _ _ hj) (fun _ _ => rfl) (fun _ _ => rfl) (fun j hj => by show uA X.2.2 e _ e j = _; rw [uA_at]; exact if_neg hj)) hdg (fun H1 locs1 hw1 => kk (wR X e k (w + 1)) X' hF p e0 s m below meth c ls A H1 locs1 hf hret hnm2 hlk hw1 hEx hl)
/-- a final reference field: from now on it is part of the layout -/
theorem N.putC {C : String} {TT : u_T} {M ci : Nat} (e : Nat) {a : Addr} (ha : ad e = a) (w : Nat) {b : Addr} (hb : ad w = b) (hE : isO Y e ci M) (hcl : classes[ci]? = some (C, TT, M)) (hin : ∀ w ∈ u_ws C TT M, w ∈ gtb) (k : Nat) (hk : k < M) (hlink : (Cond.fieldLink own index (TT k).1 (TT k).2.1 (TT k).2.2.1) ∈ gtb) (ty0 : Nat → FieldType) (hty : ∀ k, k < M → parseFieldDescriptor (TT k).2.2.1 = some (ty0 k)) (hnm : ∀ a, a < M → ∀ b, b < M → a ≠ b → (TT a).2.1 ≠ (TT b).2.1) (hfin : (TT k).2.2.2 = true) (hdecl : (TT k).1 = own) (hn : narrow (ty0 k) (.ref b) = .ref b) (hfit : fits (ty0 k) (.ref b) = true) (hdg : decode cc pc = .ok (.putfield index, 3)) (kk : N Λ cc nL own R0 As V0 Yf (pc + 3) lv rest (setK Y e k (w + 3), ad, cA, X) ce sl F) : N Λ cc nL own R0 As V0 Yf pc lv (.ref b :: .ref a :: rest) (Y, ad, cA, X) ce sl F := by
  subst ha
  subst hb
  intro X' hF p e0 s m below meth c ls A H locs hf hret hnm2 hlk hw hEx hl
  have hle : e < Y.length := eY_lt (by rw [hE.1]; decide)
  refine mputF hf hnm2 hw hin ty0 hty hnm e (GW_o hE) hcl k hk hlink hfin hdecl hn hfit (by simpa using hk) (GW_setK hE hk) hdg (fun H1 locs1 hw1 => kk X' hF p e0 s m below meth c ls A H1 locs1 hf hret hnm2 hlk ?_ hEx hl)
  show Wd _ _ _ (GW (setK Y e k (w + 3)) ad cA X) (GT (setK Y e k (w + 3)) cA) s H1 locs1
  rw [GT_setK hle]
  exact hw1
theorem N.getC {C : String} {TT : u_T} {M ci c : Nat} (e : Nat) {a b : Addr} (ha : ad e = a) (hb : ad c = b) (hE : isO Y e ci M) (hcl : classes[ci]? = some (C, TT, M)) (hin : ∀ w ∈ u_ws C TT M, w ∈ gtb) (k : Nat) (hk : k < M) (hkd : kY Y e k = c + 3) (hlink : (Cond.fieldLink own index (TT k).1 (TT k).2.1 (TT k).2.2.1) ∈ gtb) (hdg : decode cc pc = .ok (.getfield index, 3)) (kk : N Λ cc nL own R0 As V0 Yf (pc + 3) lv (.ref b :: rest) (Y, ad, cA, X) ce sl F) : N Λ cc nL own R0 As V0 Yf pc lv (.ref a :: rest) (Y, ad, cA, X) ce sl F := by
  subst ha
  subst hb
  exact N.lf kk (fun p e0 s m below meth cd ls A H locs Q hf hw hl kk => mget hf hw hin e (GW_o hE) hcl k hk hlink (fs_get hk) hdg (by rw [show fvE ad X e k (kY Y e k) = .ref (ad c) from by rw [hkd]; rfl]; exact kk ls hl))
/-- a new row -/
theorem N.newa {atype : ArrayType} (harr : (Cond.arrayClass (newarray.typeOf atype)) ∈ gtb) {ty : FieldType} (hty : newarray.typeOf atype = ty) (tag : Nat) (htag : tag = (if ty = .long then 2 else 1)) {a0 : vp_A} {z : Nat} (ha0 : a0 = (z, if ty = .long then .inr (.inl (fun _ => 0)) else .inl (fun _ => 0)))
    {v : Int32} (ha : ∀ cq : ClassId, vp_cell cq a0 = arrV cq z (fun _ => defaultValue ty)) (hn : ¬ v < 0) (hN : v.toNatClampNeg = z) (hbytes : z * componentBytes ty ≤ 536870912) (hlen : Y.length = n) (hYB : YB Y n = true) {ce' sl' : Nat} (hce : ce + 1 = ce') (hsl : sl + z = sl') (hcells : ce' ≤ R0.cells) (hslots : sl' ≤ R0.slots) (hV0 : V0.1.length ≤ n) (hdg : decode cc pc = .ok (.newarray atype, 2)) {Kf : St → Option St}
    (kk : ∀ (q : Nat) (cq : ClassId) (X1 : St), N Λ cc nL own R0 As V0 Yf (pc + 2) lv (.ref q :: rest) (Y ++ [(tag, z, ty, [])], adU ad n q, adU cA n cq, X1) ce' sl' (Kf X1)) : N Λ cc nL own R0 As V0 Yf pc lv (.int v :: rest) (Y, ad, cA, X) ce sl (chk (RB X n = true) (letV (zE X n) Kf)) := by
  intro X' hF p e0 s m below meth c ls A H locs hf hret hnm2 hlk hw hEx hl
  have hF2 : (if RB X n = true then letV (zE X n) Kf else none) = some X' := hF
  by_cases hR : RB X n = true
  · rw [if_pos hR] at hF2
    refine mnewa hf hw harr hty ha hn hN hbytes hce hsl hcells hslots hdg (fun q cq H1 hw1 => kk q cq (zE X n) X' hF2 p e0 s m below meth c ls A H1 locs hf hret hnm2 hlk ?_ ?_ hl)
    · show Wd _ _ _ (GW (Y ++ [(tag, z, ty, [])]) (adU ad n q) (adU cA n cq) (zE X n)) (GT (Y ++ [(tag, z, ty, [])]) (adU cA n cq)) s H1 locs
      rw [GW_app hlen hYB hR, GT_app hlen]
      have e1 : entE (adU ad n q) (adU cA n cq) (zE X n) n (tag, z, ty, []) = .inl (cq, a0) := by
        subst ha0
        unfold entE
        have ht0 : ¬ tag = 0 := by rw [htag]; split <;> decide
        rw [if_neg ht0]
        by_cases hlg : ty = .long
        · rw [if_pos hlg] at htag
          rw [if_neg (show ¬ tag = 1 from by rw [htag]; decide), if_pos hlg]
          show Sum.inl (adU cA n cq n, z, Sum.inr (Sum.inl (uA X.2.1 n _ n))) = _
          rw [adU_at, uA_at]
        · rw [if_neg hlg] at htag
          rw [if_pos htag, if_neg hlg]
          show Sum.inl (adU cA n cq n, z, Sum.inl (uA X.1 n _ n)) = _
          rw [adU_at, uA_at]
      rw [e1, if_neg (show ¬ tag = 0 from by rw [htag]; split <;> decide)]
      exact hw1
    · intro e he
      have : e ≠ n := by omega
      show adU ad n q e = _ ∧ adU cA n cq e = _
      rw [adU_ne _ _ _ this, adU_ne _ _ _ this]
      exact hEx e he
  · rw [if_neg hR] at hF2; cases hF2
/-- a new object -/
theorem N.new {C : String} {TT : u_T} {M ci : Nat} (hin : ∀ w ∈ u_ws C TT M, w ∈ gtb) (ty0 : Nat → FieldType) (hty : ∀ k, k < M → parseFieldDescriptor (TT k).2.2.1 = some (ty0 k)) (hcl : (Cond.classLink own index C) ∈ gtb) (hinst : (Cond.instantiable C M) ∈ gtb) (hini : (Cond.initialized C) ∈ gtb) (hc : classes[ci]? = some (C, TT, M)) (ks : List Nat) (hks : ks.length = M) {fs : List Value} (hfs : ∀ j, j < M → defaultValue (ty0 j) = vp_V fs j) (hfk : (List.range M).map (fun k => fvE (fun _ => 0) ((fun _ _ => 0), (fun _ _ => 0), (fun _ _ => 0)) 0 k (ks.getD k 9999)) = fs) (hk3 : ks.all (fun c => decide (c < 3)) = true) (hlen : Y.length = n) (hYB : YB Y n = true) {ce' sl' : Nat} (hce : ce + 1 = ce') (hsl : sl + M = sl') (hcells : ce' ≤ R0.cells) (hslots : sl' ≤ R0.slots) (hV0 : V0.1.length ≤ n) (hdg : decode cc pc = .ok (.new index, 3)) {Kf : St → Option St}
    (kk : ∀ (q : Nat) (cq : ClassId) (X1 : St), N Λ cc nL own R0 As V0 Yf (pc + 3) lv (.ref q :: rest) (Y ++ [(0, ci, .int, ks)], adU ad n q, adU cA n cq, X1) ce' sl' (Kf X1)) : N Λ cc nL own R0 As V0 Yf pc lv rest (Y, ad, cA, X) ce sl (chk (RB X n = true) (letV (zE X n) Kf)) := by
  intro X' hF p e0 s m below meth c ls A H locs hf hret hnm2 hlk hw hEx hl
  have hF2 : (if RB X n = true then letV (zE X n) Kf else none) = some X' := hF
  by_cases hR : RB X n = true
  · rw [if_pos hR] at hF2
    refine mnew hf hw hin ty0 hty hcl hinst hini hc hfs hce hsl hcells hslots hdg (fun q H1 hw1 => kk q (cA n) (zE X n) X' hF2 p e0 s m below meth c ls A H1 locs hf hret hnm2 hlk ?_ ?_ hl)
    · show Wd _ _ _ (GW (Y ++ [(0, ci, .int, ks)]) (adU ad n q) (adU cA n (cA n)) (zE X n)) (GT (Y ++ [(0, ci, .int, ks)]) (adU cA n (cA n))) s H1 locs
      rw [GW_app hlen hYB hR, GT_app hlen]
      have e1 : entE (adU ad n q) (adU cA n (cA n)) (zE X n) n (0, ci, .int, ks) = .inr (ci, fs) := by
        subst hfk
        unfold entE
        rw [if_pos rfl]
        show Sum.inr (ci, (List.range ks.length).map _) = _
        rw [hks]
        congr 2
        refine List.map_congr_left (fun k hk => ?_)
        have hk := List.mem_range.mp hk
        have h3 := of_decide_eq_true (List.all_eq_true.mp hk3 _ (getD_mem (d := 9999) (by rw [hks]; exact hk)))
        show fvE _ _ n k (ks.getD k 9999) = fvE _ _ 0 k (ks.getD k 9999)
        match ks.getD k 9999, h3 with
        | 0, _ => show Value.int (uA X.1 n _ n k) = _; rw [uA_at]; rfl
        | 1, _ => show Value.long (uA X.2.1 n _ n k) = _; rw [uA_at]; rfl
        | 2, _ => show (if uA X.2.2 n _ n k = 0 then Value.null else _) = _; rw [uA_at]; rfl
        | c + 3, h => omega
      rw [e1, if_pos rfl, List.append_nil]
      exact hw1
    · intro e he
      have : e ≠ n := by omega
      show adU ad n q e = _ ∧ adU cA n (cA n) e = _
      rw [adU_ne _ _ _ this, adU_ne _ _ _ this]
      exact hEx e he
  · rw [if_neg hR] at hF2; cases hF2
def bndN {ρ : Type} (G : Option St) (Kf : St → Option ρ) : Option ρ := match G with
  | none => none
  | some X => Kf X
/-- another constructor -/
theorem N.ctor (eo : Nat) {b : Addr} (hb : ad eo = b) {G : Option St} {Kf : St → Option St} (hM : NM Λ y cc1 nL1 R1 (.ref b :: As1) (Y, ad, cA, X) Y1 G) (hk : KA y cc1 nL1 none n) (hv : Cond.instanceMethod y ∈ gtb) (hy1 : y.name = "<init>") {host : String} (hlink : Cond.methodLink own index y ∈ gtb ∨ Cond.methodLinkNest own index y host ∈ lw_tbl) (hst : st0 = As1.reverse ++ .ref b :: rest) (hn : As1.length = n) (hR : R1.frames + 1 ≤ R0.frames ∧ 8 + (nL1 + 11) + R1.locals ≤ R0.locals) (hcat : (rest.map fun v => v.category).sum ≤ 8) {ce' sl' : Nat} (hce : ce + R1.cells = ce') (hsl : sl + R1.slots = sl') (hcells : ce' ≤ R0.cells ∧ sl' ≤ R0.slots) (hdg : decode cc pc = .ok (.invokespecial index, 3))
    (kk : ∀ (ad1 : Nat → Nat) (cA1 : Nat → ClassId), (∀ e, e < Y.length → ad1 e = ad e) → ∀ X1 : St, N Λ cc nL own R0 As V0 Yf (pc + 3) lv rest (Y1, ad1, cA1, X1) ce' sl' (Kf X1)) (hV0 : V0.1.length ≤ Y.length) : N Λ cc nL own R0 As V0 Yf pc lv st0 (Y, ad, cA, X) ce sl (bndN G Kf) := by
  intro X' hF p e s m below meth c ls A H locs hf hret hnm2 hlk hw hEx hl
  match G, hM, hF with
  | none, _, hF => cases hF
  | some X1, hM, hF =>
    have go : ∀ (u : (Nat → Nat) × (Nat → ClassId)), EX (Y, ad, cA, X) u → ∀ (H1 : Heap) (locs1 : List Loc), Wd Λ.2.1 Λ.2.2 A ([] ++ GW Y1 u.1 u.2 X1) ([] ++ GT Y1 u.2) s H1 locs1 → W p Λ.1 e R0 s m As.toArray below meth c H1 locs1 ce' sl' (MQ below (va_Qv (EX V0) (fun (u : (Nat → Nat) × (Nat → ClassId)) t => PW Λ.2.1 Λ.2.2 A (GW Yf u.1 u.2 X') (GT Yf u.2) t) A) As.toArray s R0.cells R0.slots A) (F0 m (pc + 3) ls rest) := by
      intro u hu H1 locs1 hw1
      refine kk u.1 u.2 (fun e he => (hu e he).1) X1 X' hF p e s m below meth c ls A H1 locs1 hf hret hnm2 hlk hw1 ?_ hl
      intro e he
      have h1 := hu e (Nat.lt_of_lt_of_le he hV0)
      have h2 := hEx e he
      exact ⟨h1.1.trans h2.1, h1.2.trans h2.2⟩
    rcases hlink with hlink | hlink
    · exact mI_v (φ := EX (Y, ad, cA, X)) (w1 := fun u => GW Y1 u.1 u.2 X1) (t1 := fun u => GT Y1 u.2) (wr := []) (tr := []) hf hw (hM X1 rfl H.size) hk hv hy1 hlink (List.range (GW Y ad cA X).length) (List.range (GT Y cA).length) [] [] (MW_all rfl) (va_nd_range _) (MT_all rfl) rfl rfl (fun _ h => absurd h List.not_mem_nil) rfl hst hn hl.1 rfl rfl hR hcat hce hsl hcells hdg go
    · exact mIN_v (φ := EX (Y, ad, cA, X)) (w1 := fun u => GW Y1 u.1 u.2 X1) (t1 := fun u => GT Y1 u.2) (wr := []) (tr := []) hf hw (hM X1 rfl H.size) hk hv hy1 hlink (List.range (GW Y ad cA X).length) (List.range (GT Y cA).length) [] [] (MW_all rfl) (va_nd_range _) (MT_all rfl) rfl rfl (fun _ h => absurd h List.not_mem_nil) rfl hst hn hl.1 rfl rfl hR hcat hce hsl hcells hdg go
/-- a method of the layer T, within a constructor -/
theorem N.callT {ret : Option FieldType} (eo : Nat) {b : Addr} (hb : ad eo = b) {G : Option (Int32 × St)} (hM : TMV Y (Λ.1, Λ.2.1, Λ.2.2, ad, cA) y cc1 nL1 own ret R1 (.ref b :: As1) X G) (hk : KA y cc1 nL1 ret n) (hv : KV y) {TT : u_T} {M ci : Nat} (hE : isO Y eo ci M) (hcl : classes[ci]? = some (y.cls, TT, M)) (hlink : Cond.methodLink own index y ∈ gtb) (hst : st0 = As1.reverse ++ .ref b :: rest) (hn : As1.length = n) (hrc : R1.cells = 0) (hrs : R1.slots = 0) (hR : R1.frames + 1 ≤ R0.frames ∧ 8 + (nL1 + 11) + R1.locals ≤ R0.locals) (hcat : (rest.map fun v => v.category).sum ≤ 8) (hcells : ce ≤ R0.cells ∧ sl ≤ R0.slots) (hdg : decode cc pc = .ok (.invokevirtual index, 3)) {Kf : Int32 → St → Option St} (kk : ∀ (r : Int32) (X1 : St), N Λ cc nL own R0 As V0 Yf (pc + 3) lv rest (Y, ad, cA, X1) ce sl (Kf r X1)) : N Λ cc nL own R0 As V0 Yf pc lv st0 (Y, ad, cA, X) ce sl (bnd G Kf) := by
  intro X' hF p e s m below meth c ls A H locs hf hret hnm2 hlk hw hEx hl
  match G, hM, hF with
  | none, _, hF => cases hF
  | some (r1, X1), hM, hF =>
    subst hb
    refine mV_v (wr := []) (tr := []) hf hw (hM r1 X1 rfl H.size) hk hv eo (GW_o hE) hcl hlink (List.range (GW Y ad cA X).length) (List.range (GT Y cA).length) [] [] (MW_all rfl) (va_nd_range _) (MT_all rfl) rfl rfl (fun _ h => absurd h List.not_mem_nil) rfl hst hn hl.1 hrc hrs hR hcat rfl rfl hcells hdg (fun x hx H1 locs1 hw1 => ?_)
    subst hx
    exact kk r1 _ X' hF p e s m below meth c ls A H1 locs1 hf hret hnm2 hlk hw1 hEx hl
theorem N.callTi {ret : Option FieldType} (eo : Nat) {b : Addr} (hb : ad eo = b) {G : Option (Int32 × St)} (hM : TMI Y (Λ.1, Λ.2.1, Λ.2.2, ad, cA) y cc1 nL1 own ret R1 (.ref b :: As1) X G) (hk : KA y cc1 nL1 ret n) (hv : KV y) {TT : u_T} {M ci : Nat} (hE : isO Y eo ci M) (hcl : classes[ci]? = some (y.cls, TT, M)) (hlink : Cond.methodLink own index y ∈ gtb) (hst : st0 = As1.reverse ++ .ref b :: rest) (hn : As1.length = n) (hrc : R1.cells = 0) (hrs : R1.slots = 0) (hR : R1.frames + 1 ≤ R0.frames ∧ 8 + (nL1 + 11) + R1.locals ≤ R0.locals) (hcat : (rest.map fun v => v.category).sum ≤ 8) (hcells : ce ≤ R0.cells ∧ sl ≤ R0.slots) (hdg : decode cc pc = .ok (.invokevirtual index, 3)) {Kf : Int32 → St → Option St} (kk : ∀ (r : Int32) (X1 : St), N Λ cc nL own R0 As V0 Yf (pc + 3) lv (.int r :: rest) (Y, ad, cA, X1) ce sl (Kf r X1)) : N Λ cc nL own R0 As V0 Yf pc lv st0 (Y, ad, cA, X) ce sl (bnd G Kf) := by
  intro X' hF p e s m below meth c ls A H locs hf hret hnm2 hlk hw hEx hl
  match G, hM, hF with
  | none, _, hF => cases hF
  | some (r1, X1), hM, hF =>
    subst hb
    refine mV_i (wr := []) (tr := []) hf hw (hM r1 X1 rfl H.size) hk hv eo (GW_o hE) hcl hlink (List.range (GW Y ad cA X).length) (List.range (GT Y cA).length) [] [] (MW_all rfl) (va_nd_range _) (MT_all rfl) rfl rfl (fun _ h => absurd h List.not_mem_nil) rfl hst hn hl.1 hrc hrs hR hcat rfl rfl hcells hdg (fun r' x hx H1 locs1 hw1 => ?_)
    obtain ⟨hx1, hx⟩ := hx
    subst hx1
    subst hx
    exact kk _ _ X' hF p e s m below meth c ls A H1 locs1 hf hret hnm2 hlk hw1 hEx hl
/-- a static method of the layer T -/
theorem N.callS {own1 : String} {ret : Option FieldType} {G : Option (Int32 × St)} (hM : TMV Y (Λ.1, Λ.2.1, Λ.2.2, ad, cA) y cc1 nL1 own1 ret R1 As1 X G) (hk : KA y cc1 nL1 ret n) (hv : Cond.static y ∈ gtb) (hlink : Cond.methodLink own index y ∈ gtb) (hst : st0 = As1.reverse ++ rest) (hn : As1.length = n) (hrc : R1.cells = 0) (hrs : R1.slots = 0) (hR : R1.frames + 1 ≤ R0.frames ∧ 8 + (nL1 + 11) + R1.locals ≤ R0.locals) (hcat : (rest.map fun v => v.category).sum ≤ 8) (hcells : ce ≤ R0.cells ∧ sl ≤ R0.slots) (hdg : decode cc pc = .ok (.invokestatic index, 3)) {Kf : Int32 → St → Option St} (kk : ∀ (r : Int32) (X1 : St), N Λ cc nL own R0 As V0 Yf (pc + 3) lv rest (Y, ad, cA, X1) ce sl (Kf r X1)) : N Λ cc nL own R0 As V0 Yf pc lv st0 (Y, ad, cA, X) ce sl (bnd G Kf) := by
  intro X' hF p e s m below meth c ls A H locs hf hret hnm2 hlk hw hEx hl
  match G, hM, hF with
  | none, _, hF => cases hF
  | some (r1, X1), hM, hF =>
    refine mS_v (wr := []) (tr := []) hf hw (hM r1 X1 rfl H.size) hk hv hlink (List.range (GW Y ad cA X).length) (List.range (GT Y cA).length) [] [] (MW_all rfl) (va_nd_range _) (MT_all rfl) rfl rfl (fun _ h => absurd h List.not_mem_nil) rfl hst hn hl.1 hrc hrs hR hcat rfl rfl hcells hdg (fun x hx H1 locs1 hw1 => ?_)
    subst hx
    exact kk r1 _ X' hF p e s m below meth c ls A H1 locs1 hf hret hnm2 hlk hw1 hEx hl
/-- int into a row -/
theorem N.iast {z : Nat} (e : Nat) {a : Addr} (ha : ad e = a) (hA : isA Y e 1 z .int) {x w : Int32} (hx : inR x z) (hdg : decode cc pc = .ok (.iastore, 1)) {Kf : St → Option St} (kk : ∀ X1 : St, N Λ cc nL own R0 As V0 Yf (pc + 1) lv rest (Y, ad, cA, X1) ce sl (Kf X1)) : N Λ cc nL own R0 As V0 Yf pc lv (.int w :: .int x :: .ref a :: rest) (Y, ad, cA, X) ce sl (letV (wI X e (ix x) w) Kf) := by
  subst ha
  obtain ⟨t0, ht0⟩ := GT_a (t := 0) (cA := cA) hA (by decide)
  intro X' hF p e0 s m below meth c ls A H locs hf hret hnm2 hlk hw hEx hl
  refine miast hf hw e t0 (GW_a hA) ht0 (ti_in hx.1 hx.2) hdg (fun f1 e1 H1 locs1 hw1 => kk (wI X e (ix x) w) X' hF p e0 s m below meth c ls A H1 locs1 hf hret hnm2 hlk ?_ hEx hl)
  have h := hw1
  rw [e1] at h
  rw [show (GW Y ad cA X).set e _ = GW Y ad cA (wI X e (ix x) w) from GW_set (by obtain ⟨q1, q2, q3⟩ := hA; unfold entE; rw [if_neg (by rw [q1]; decide), if_pos q1, q2]; show Sum.inl (_, _, Sum.inl (uA X.1 e _ e)) = _; rw [uA_at]; rfl) (fun j hj => uA_ne _ _ _ hj) (fun _ _ => rfl) (fun _ _ => rfl)] at h
  exact h
theorem N.iconst {z : Int} {w : Int32} (hdg : decode cc pc = .ok (.iconst z, 1)) (hv : Int32.ofInt z = w) (k : N Λ cc nL own R0 As V0 Yf (pc + 1) lv (.int w :: rest) V ce sl F) : N Λ cc nL own R0 As V0 Yf pc lv rest V ce sl F :=
  N.lf k (fun p e s m below meth c ls A H locs Q hf hw hl k => lv_iconst hf.1 hf.2.1 hdg hv (k ls hl))
theorem N.bipush {z : Int} {w : Int32} (hdg : decode cc pc = .ok (.bipush z, 2)) (hv : (Int8.ofInt z).toInt32 = w) (k : N Λ cc nL own R0 As V0 Yf (pc + 2) lv (.int w :: rest) V ce sl F) : N Λ cc nL own R0 As V0 Yf pc lv rest V ce sl F :=
  N.lf k (fun p e s m below meth c ls A H locs Q hf hw hl k => lv_bipush hf.1 hf.2.1 hdg hv (k ls hl))
theorem N.sipush {z : Int} {w : Int32} (hdg : decode cc pc = .ok (.sipush z, 3)) (hv : (Int16.ofInt z).toInt32 = w) (k : N Λ cc nL own R0 As V0 Yf (pc + 3) lv (.int w :: rest) V ce sl F) : N Λ cc nL own R0 As V0 Yf pc lv rest V ce sl F :=
  N.lf k (fun p e s m below meth c ls A H locs Q hf hw hl k => lv_sipush hf.1 hf.2.1 hdg hv (k ls hl))
theorem N.lconst {z : Fin 2} {w : Int64} (hdg : decode cc pc = .ok (.lconst z, 1)) (hv : Int64.ofNat (z : Nat) = w) (k : N Λ cc nL own R0 As V0 Yf (pc + 1) lv (.long w :: rest) V ce sl F) : N Λ cc nL own R0 As V0 Yf pc lv rest V ce sl F :=
  N.lf k (fun p e s m below meth c ls A H locs Q hf hw hl k => lv_lconst hf.1 hf.2.1 hdg hv (k ls hl))
theorem N.ldc {w : Int32} (hdg : decode cc pc = .ok (.ldc index, 2)) (hc : Cond.constant own index w ∈ gtb) (k : N Λ cc nL own R0 As V0 Yf (pc + 2) lv (.int w :: rest) V ce sl F) : N Λ cc nL own R0 As V0 Yf pc lv rest V ce sl F :=
  N.lf k (fun p e s m below meth c ls A H locs Q hf hw hl k => lv_ldc hf.1 hf.2.1 hf.2.2.2.1 (hf.2.2.2.2.1 _ hc) hdg (k ls hl))
theorem N.null  (hdg : decode cc pc = .ok (.aconst_null, 1)) (k : N Λ cc nL own R0 As V0 Yf (pc + 1) lv (.null :: rest) V ce sl F) : N Λ cc nL own R0 As V0 Yf pc lv rest V ce sl F :=
  N.lf k (fun p e s m below meth c ls A H locs Q hf hw hl k => lv_null hf.1 hf.2.1 hdg (k ls hl))
theorem N.iload_n {j : Fin 4} {i : Nat} {w : Int32} (hdg : decode cc pc = .ok (.iload_n j, 1)) (hi : (j : Nat) = i) (z : Nat) (hz : lv[z]? = some (i, .int w)) (k : N Λ cc nL own R0 As V0 Yf (pc + 1) lv (.int w :: rest) V ce sl F) : N Λ cc nL own R0 As V0 Yf pc lv rest V ce sl F :=
  N.lf k (fun p e s m below meth c ls A H locs Q hf hw hl k => lv_iload_n hf.1 hf.2.1 hdg hi (lv_at hl z hz) (k ls hl))
theorem N.istore_n {j : Fin 4} {i : Nat} {w : Int32} (hdg : decode cc pc = .ok (.istore_n j, 1)) (hi : (j : Nat) = i) (hn : i < nL) (hl1 : (i, Value.int w) :: lv.filter (fun q => !(q.1 == i) && !(q.1 + 1 == i && q.2.category == 2)) = lv1) (k : N Λ cc nL own R0 As V0 Yf (pc + 1) lv1 rest V ce sl F) : N Λ cc nL own R0 As V0 Yf pc lv (.int w :: rest) V ce sl F :=
  N.lf k (fun p e s m below meth c ls A H locs Q hf hw hl k => lv_istore_n hf.1 hf.2.1 hdg hi hl hn hl1 (fun ls1 hl1 => k ls1 hl1))
theorem N.aload_n {j : Fin 4} {i : Nat} {w : Nat} (hdg : decode cc pc = .ok (.aload_n j, 1)) (hi : (j : Nat) = i) (z : Nat) (hz : lv[z]? = some (i, .ref w)) (k : N Λ cc nL own R0 As V0 Yf (pc + 1) lv (.ref w :: rest) V ce sl F) : N Λ cc nL own R0 As V0 Yf pc lv rest V ce sl F :=
  N.lf k (fun p e s m below meth c ls A H locs Q hf hw hl k => lv_aload_n hf.1 hf.2.1 hdg hi (lv_at hl z hz) (k ls hl))
theorem N.astore_n {j : Fin 4} {i : Nat} {w : Nat} (hdg : decode cc pc = .ok (.astore_n j, 1)) (hi : (j : Nat) = i) (hn : i < nL) (hl1 : (i, Value.ref w) :: lv.filter (fun q => !(q.1 == i) && !(q.1 + 1 == i && q.2.category == 2)) = lv1) (k : N Λ cc nL own R0 As V0 Yf (pc + 1) lv1 rest V ce sl F) : N Λ cc nL own R0 As V0 Yf pc lv (.ref w :: rest) V ce sl F :=
  N.lf k (fun p e s m below meth c ls A H locs Q hf hw hl k => lv_astore_n hf.1 hf.2.1 hdg hi hl hn hl1 (fun ls1 hl1 => k ls1 hl1))
theorem N.dup {a : Int32} (hdg : decode cc pc = .ok (.dup, 1)) (k : N Λ cc nL own R0 As V0 Yf (pc + 1) lv (.int a :: .int a :: rest) V ce sl F) : N Λ cc nL own R0 As V0 Yf pc lv (.int a :: rest) V ce sl F :=
  N.lf k (fun p e s m below meth c ls A H locs Q hf hw hl k => lv_dup hf.1 hf.2.1 hdg rfl (k ls hl))
theorem N.dupr {a : Nat} (hdg : decode cc pc = .ok (.dup, 1)) (k : N Λ cc nL own R0 As V0 Yf (pc + 1) lv (.ref a :: .ref a :: rest) V ce sl F) : N Λ cc nL own R0 As V0 Yf pc lv (.ref a :: rest) V ce sl F :=
  N.lf k (fun p e s m below meth c ls A H locs Q hf hw hl k => lv_dup hf.1 hf.2.1 hdg rfl (k ls hl))
theorem N.pop {a : Int32} (hdg : decode cc pc = .ok (.pop, 1)) (k : N Λ cc nL own R0 As V0 Yf (pc + 1) lv rest V ce sl F) : N Λ cc nL own R0 As V0 Yf pc lv (.int a :: rest) V ce sl F :=
  N.lf k (fun p e s m below meth c ls A H locs Q hf hw hl k => lv_pop hf.1 hf.2.1 hdg rfl (k ls hl))
theorem N.goto {off : Int} (hdg : decode cc pc = .ok (.goto off, 3)) (ht : (pc : Int) + off = (pc1 : Int)) (k : N Λ cc nL own R0 As V0 Yf pc1 lv rest V ce sl F) : N Λ cc nL own R0 As V0 Yf pc lv rest V ce sl F :=
  N.lf k (fun p e s m below meth c ls A H locs Q hf hw hl k => lv_goto hf.1 hf.2.1 hdg ht (k ls hl))
theorem N.iinc {i : Nat} {z : Int} {x w : Int32} (hdg : decode cc pc = .ok (.iinc i z, 3)) (q : Nat) (hq : lv[q]? = some (i, .int x)) (hw2 : x + Int32.ofInt z = w) (hn : i < nL) (hl1 : (i, Value.int w) :: lv.filter (fun q => !(q.1 == i) && !(q.1 + 1 == i && q.2.category == 2)) = lv1) (k : N Λ cc nL own R0 As V0 Yf (pc + 3) lv1 rest V ce sl F) : N Λ cc nL own R0 As V0 Yf pc lv rest V ce sl F :=
  N.lf k (fun p e s m below meth c ls A H locs Q hf hw0 hl k => lv_iinc hf.1 hf.2.1 hdg hl hq hw2 hn hl1 (fun ls1 hl1 => k ls1 hl1))
theorem N.icmp_gt {x y : Int32} {off : Int} (hdg : decode cc pc = .ok (.if_icmp .gt off, 3)) (ht : (pc : Int) + off = (pc1 : Int)) (h : ¬ y < x) (k : N Λ cc nL own R0 As V0 Yf (pc + 3) lv rest V ce sl F) : N Λ cc nL own R0 As V0 Yf pc lv (.int y :: .int x :: rest) V ce sl F :=
  N.lf k (fun p e s m below meth c ls A H locs Q hf hw hl k => lv_icmp_gt hf.1 hf.2.1 hdg ht (fun g => absurd g h) (fun _ => k ls hl))
theorem N.icmp_gtT {x y : Int32} {off : Int} (hdg : decode cc pc = .ok (.if_icmp .gt off, 3)) (ht : (pc : Int) + off = (pc1 : Int)) (h : y < x) (k : N Λ cc nL own R0 As V0 Yf pc1 lv rest V ce sl F) : N Λ cc nL own R0 As V0 Yf pc lv (.int y :: .int x :: rest) V ce sl F :=
  N.lf k (fun p e s m below meth c ls A H locs Q hf hw hl k => lv_icmp_gt hf.1 hf.2.1 hdg ht (fun _ => k ls hl) (fun g => absurd h g))
end NL
section TX
variable {ρ : Type} {Y : List Ent} {Γ : Gx} {cc : ByteArray} {nL : Nat} {own : String} {ret : Option FieldType} {R0 : Room} {As rest : List Value} {q : QT ρ} {pc : Nat} {lv : List (Nat × Value)} {X : St}
theorem T.alenV {z : Nat} {ft : FieldType} (e : Nat) (hA : isA Y e 1 z ft) (hdg : decode cc pc = .ok (.arraylength, 1)) {Kf : Int32 → Option (ρ × St)} (kk : ∀ w : Int32, T Y Γ cc nL own ret R0 As q (pc + 1) lv (.int w :: rest) X (Kf w)) : T Y Γ cc nL own ret R0 As q pc lv (.ref (Γ.2.2.2.1 e) :: rest) X (letV (Int32.ofNat z) Kf) :=
  T.alen (F := letV (Int32.ofNat z) Kf) e hA (Or.inl rfl) rfl hdg (kk _)
theorem T.iushr {a b : Int32} (hdg : decode cc pc = .ok (.iushr, 1)) {Kf : Int32 → Option (ρ × St)} (k : ∀ w : Int32, T Y Γ cc nL own ret R0 As q (pc + 1) lv (.int w :: rest) X (Kf w)) : T Y Γ cc nL own ret R0 As q pc lv (.int b :: .int a :: rest) X (letV ((a.toUInt32 >>> (b.toUInt32 &&& Int32.toUInt32 31)).toInt32) Kf) :=
  T.lf (F := letV ((a.toUInt32 >>> (b.toUInt32 &&& Int32.toUInt32 31)).toInt32) Kf) (k ((a.toUInt32 >>> (b.toUInt32 &&& Int32.toUInt32 31)).toInt32)) (fun p e s m below meth cd ls A H locs Q hf hw hl k => lv_iushr hf.1 hf.2.1 hdg rfl (k ls hl))
end TX
