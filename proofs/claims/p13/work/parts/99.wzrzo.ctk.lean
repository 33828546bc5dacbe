/-! the constructor leaves both tables of kinds well made -/
def oc (F : Option St) (Q : St → Prop) : Prop := ∀ X, F = some X → Q X
section OC
variable {X : St} {F G : Option St} {Q R : St → Prop} {os : List Nat}
theorem oc.ret (h : Q X) : oc (some X) Q := fun _ e => by rw [← Option.some.inj e]; exact h
theorem oc.ck {c : Prop} [Decidable c] (h : oc F Q) : oc (chk c F) Q := by
  by_cases g : c
  · show oc (if c then F else none) Q
    rw [if_pos g]; exact h
  · show oc (if c then F else none) Q
    rw [if_neg g]; exact fun _ e => absurd e.symm (Option.some_ne_none _)
theorem oc.lt {v : St} {K : St → Option St} (h : ∀ Y, Y = v → oc (K Y) Q) : oc (letV v K) Q := h v rfl
theorem oc.bd {K : St → Option St} (hG : oc G R) (h : ∀ Y, R Y → oc (K Y) Q) : oc (bndN G K) Q := by
  cases g : G with
  | none => exact fun _ e => absurd e.symm (Option.some_ne_none _)
  | some Y => exact h Y (hG Y g)
theorem oc.bf {G : Option (Int32 × St)} {K : Int32 → St → Option St} {R : Int32 → St → Prop} (hG : pw G R) (h : ∀ r Y, R r Y → oc (K r Y) Q) : oc (bnd G K) Q := by
  cases g : G with
  | none => exact fun _ e => absurd e.symm (Option.some_ne_none _)
  | some y => exact h y.1 y.2 (hG y.1 y.2 g)
/-- the tables at os are well made, and nothing more was put into them -/
def KTs (os : List Nat) (X : St) : Prop := ∀ o ∈ os, TKS o X K9
theorem KTs.cg {Y : St} (h : KTs os X) (g : ∀ o ∈ os, ∀ e k, o ≤ e → e ≤ o + 7 → Y.1 e k = X.1 e k) : KTs os Y := fun o ho => (h o ho).cg (fun e k h1 h2 _ => g o ho e k h1 h2)
theorem KTs.zE {n : Nat} (h : KTs os X) (hn : ∀ o ∈ os, ¬ (o ≤ n ∧ n ≤ o + 7)) : KTs os (zE X n) := h.cg (fun o ho e k h1 h2 => by
  show uA X.1 n (fun _ => 0) e k = X.1 e k
  unfold uA
  rw [if_neg (fun g => hn o ho (by omega))])
theorem KTs.wI {n k : Nat} {v : Int32} (h : KTs os X) (hn : ∀ o ∈ os, ¬ (o ≤ n ∧ n ≤ o + 7)) : KTs os (wI X n k v) := h.cg (fun o ho e j h1 h2 => wI_ne _ _ _ _ _ _ (fun g => hn o ho (by omega)))
theorem KTs.wR {n k v : Nat} (h : KTs os X) : KTs os (wR X n k v) := h.cg (fun _ _ _ _ _ _ => rfl)
theorem KTs.wL {n k : Nat} {v : Int64} (h : KTs os X) : KTs os (wL X n k v) := h.cg (fun _ _ _ _ _ _ => rfl)
theorem KTs.fr {Y : St} {a : Nat} (h : KTs os X) (g : ∀ e j, ¬ (a ≤ e ∧ e ≤ a + 7) → Y.1 e j = X.1 e j) (hn : ∀ o ∈ os, o + 7 < a ∨ a + 7 < o) : KTs os Y := h.cg (fun o ho e k h1 h2 => g e k (fun z => by have := hn o ho; omega))
end OC
theorem lst0 (b : Nat) : lastB [] b ([] : List (List Int)).length = -1 := rfl
theorem ND.nil : ND [] := fun i j x h _ => absurd h (by rw [List.getElem?_nil]; exact fun z => absurd z.symm (Option.some_ne_none _))
section CTKA
variable {X : St} {os : List Nat}
theorem ka_fil5 {X0 : St} {a3 : Int32} (h3 : a3.toInt = 512) : ∀ (M i : Nat) (a2 : Int32) (X : St), a2.toInt = (i : Int) → i ≤ 512 → X.2 = X0.2 ∧ (∀ e j, ¬ e = 9 → X.1 e j = X0.1 e j) ∧ (∀ b, b < i → X.1 9 b = -1) → pw (hfA_fill_5 M 9 (-1) a2 a3 X) (fun _ Y => Y.2 = X0.2 ∧ (∀ e j, ¬ e = 9 → Y.1 e j = X0.1 e j) ∧ ∀ b, b < 512 → Y.1 9 b = -1) := by
  have lo1 : (Int32.ofInt 1).toInt = 1 := by decide
  intro M
  induction M with
  | zero => exact fun _ _ _ _ _ _ => pw_none
  | succ M ih =>
    intro i a2 X h2 hi hX
    obtain ⟨hx1, hx2, hx3⟩ := hX
    have eu : hfA_fill_5 (M + 1) = hfA_fill_5_s (hfA_fill_5 M) := by
      unfold hfA_fill_5
      exact lp_succ _ _ _
    rw [eu]
    unfold hfA_fill_5_s
    refine pw_ite (fun c => pw_ret ⟨hx1, hx2, fun b hb => hx3 b (by omega)⟩) (fun c => ?_)
    refine pw_ck (fun _ => pw_let (pw_let (ih (i + 1) _ _ (by rw [ti_add (by rw [h2, lo1]; omega) (by rw [h2, lo1]; omega), h2, lo1]; omega) (by omega) ⟨hx1, fun e j hj => ?_, fun b hb => ?_⟩)))
    · rw [wI_ne _ _ _ _ _ _ (fun g => hj g.1)]
      exact hx2 e j hj
    · rw [ixn h2]
      by_cases eb : b = i
      · rw [eb]; exact wI_at _ _ _ _
      · rw [wI_ne _ _ _ _ _ _ (fun g => eb g.2)]
        exact hx3 b (by omega)
theorem ka_fil0 : pw (hfA_fill 9 (-1) X) (fun _ Y => Y.2 = X.2 ∧ (∀ e j, ¬ e = 9 → Y.1 e j = X.1 e j) ∧ ∀ b, b < 512 → Y.1 9 b = -1) := by
  unfold hfA_fill
  refine pw_let (ka_fil5 (show (Int32.ofNat (zY YC_11 9)).toInt = 512 from by decide +kernel) _ 0 _ _ rfl (by decide) ⟨rfl, fun _ _ _ => rfl, fun b hb => absurd hb (Nat.not_lt_zero b)⟩)
/-- a kind that is new stands at the end -/
theorem kaQ.nx {ks ks1 : List (List Int)} {d d1 : List Int} {r : Int32} {Y : St} (h : kaQ X ks d r Y) (hd : d = d1) (hn : ¬ d1 ∈ ks) (hk : ks ++ [d1] = ks1) : TKS 3 Y ks1 ∧ ∀ e j, ¬ (3 ≤ e ∧ e ≤ 10) → Y.1 e j = X.1 e j := by
  subst hd
  subst hk
  obtain ⟨k1, h1, h2, ⟨j, _, h3⟩, _, h5⟩ := h
  rcases h2 with h2 | h2
  · rw [h2] at h3
    exact absurd (List.mem_of_getElem? h3) hn
  · rw [h2.2] at h1
    exact ⟨h1, h5⟩
/-- where no kind stands yet -/
def kaN (os : List Nat) (ks : List (List Int)) (X : St) : Prop := KTs os X ∧ TKS 3 X ks ∧ ∀ i, i < 4 → X.1 11 i = 2
theorem ka_prim {ks ks1 : List (List Int)} {d : List Int} {p1 p6 : Int32} (ho : ∀ o ∈ os, o + 7 < 3 ∨ 10 < o) (h : kaN os ks X) (hw : WKd 40 d) (h1 : p1.toInt = sot d) (h6 : p6 = kco d) (ht : tkn d = 0 ∧ sot d < 3) (hl : ks.length < 1549) (hn : ¬ d ∈ ks) (hk : ks ++ [d] = ks1) : pw (hA_findOrAdd p1 0 11 0 2 p6 X) (fun _ Y => kaN os ks1 Y) := by
  obtain ⟨a, b, c⟩ := h
  refine pw_mono (ka_findOrAddF (f := 0) b hw h1 (by rw [ht.1]; decide) h6 (Or.inl ht.1) ⟨fun _ => by decide, fun z => by omega⟩ (fun i hi => by omega)) (fun r Y g => ?_)
  rcases g with g | g
  · obtain ⟨g1, g2⟩ := g.nx rfl hn hk
    exact ⟨a.fr (a := 3) g2 ho, g1, fun i hi => by rw [g2 _ _ (by decide)]; exact c i hi⟩
  · omega
theorem ka_fun {ks ks1 : List (List Int)} {d1 : List Int} {p3 : Int32} {n : Nat} (ho : ∀ o ∈ os, o + 7 < 3 ∨ 10 < o) (h : kaN os ks X) (h3 : p3.toInt = (n : Int)) (hn4 : n ≤ 4) (h2 : ks[2]? = some [3]) (hl : ks.length < 1549) (hd : (5 + ((List.replicate n [(3 : Int)]).length : Int)) :: ((List.replicate n [(3 : Int)]).flatten ++ [3]) = d1) (hn : ¬ d1 ∈ ks) (hk : ks ++ [d1] = ks1) : pw (hA_functionOf 11 0 p3 2 X) (fun _ Y => kaN os ks1 Y) := by
  obtain ⟨a, b, c⟩ := h
  have z4 : (zY YC_12 11 : Nat) = 4 := by decide +kernel
  refine pw_mono (ka_functionOf (f := 0) (q := 2) (ds := List.replicate n [(3 : Int)]) b hl (by decide) (by decide) (by rw [List.length_replicate]; exact h3) (by rw [List.length_replicate]; exact hn4) (by rw [List.length_replicate, z4]; omega) (by decide) (by decide) h2 (fun i x hx => ?_)) (fun r Y g => ?_)
  · have hi := (List.getElem?_eq_some_iff.mp hx).1
    rw [List.length_replicate] at hi
    rw [List.getElem?_replicate, if_pos hi] at hx
    refine ⟨2, ?_, by rw [h2]; exact hx⟩
    rw [show 0 + i = i from Nat.zero_add i, c i (by omega)]
    decide
  · obtain ⟨g1, g2⟩ := g.nx hd hn hk
    exact ⟨a.fr (a := 3) g2 ho, g1, fun i hi => by rw [g2 _ _ (by decide)]; exact c i hi⟩
theorem ct_3 (ho : ∀ o ∈ os, o + 7 < 3 ∨ 11 < o) (h : KTs os X) : oc (ctor_C_3 X) (fun Y => KTs (3 :: os) Y) := by
  have hq : ∀ o ∈ os, o + 7 < 3 ∨ 10 < o := fun o z => by have := ho o z; omega
  have hz : ∀ n, 3 ≤ n → n ≤ 11 → ∀ o ∈ os, ¬ (o ≤ n ∧ n ≤ o + 7) := fun n h1 h2 o z => by have := ho o z; omega
  unfold ctor_C_3
  refine oc.ck (oc.lt (fun X2 e2 => ?_))
  have h2 : KTs os X2 := by rw [e2]; exact h.zE (hz _ (by decide) (by decide))
  clear e2
  refine oc.ck (oc.lt (fun X9 e9 => ?_))
  have h9 : KTs os X9 := by rw [e9]; exact h2.zE (hz _ (by decide) (by decide))
  clear e9
  refine oc.ck (oc.lt (fun X16 e16 => ?_))
  have h16 : KTs os X16 := by rw [e16]; exact h9.zE (hz _ (by decide) (by decide))
  clear e16
  refine oc.ck (oc.lt (fun X23 e23 => ?_))
  have h23 : KTs os X23 := by rw [e23]; exact h16.zE (hz _ (by decide) (by decide))
  clear e23
  refine oc.ck (oc.lt (fun X30 e30 => ?_))
  have h30 : KTs os X30 := by rw [e30]; exact h23.zE (hz _ (by decide) (by decide))
  clear e30
  refine oc.ck (oc.lt (fun X37 e37 => ?_))
  have h37 : KTs os X37 := by rw [e37]; exact h30.zE (hz _ (by decide) (by decide))
  clear e37
  refine oc.ck (oc.lt (fun X44 e44 => ?_))
  have h44 : KTs os X44 := by rw [e44]; exact h37.zE (hz _ (by decide) (by decide))
  clear e44
  refine oc.lt (fun X50 e50 => ?_)
  have h50 : KTs os X50 := by rw [e50]; exact h44.wI (hz _ (by decide) (by decide))
  have z50 : X50.1 3 0 = 0 := by rw [e50]; exact wI_at _ _ _ _
  clear e50
  refine oc.bf ka_fil0 (fun _ X52 h => ?_)
  obtain ⟨_, f1, f2⟩ := h
  have h52 : KTs os X52 := h50.cg (fun o z e k h1 h2 => f1 e k (fun g => hz 9 (by decide) (by decide) o z (by omega)))
  have t52 : TKS 3 X52 [] := ⟨⟨by rw [f1 _ _ (by decide), z50]; rfl, by decide, ND.nil⟩, fun k d hk => absurd hk (by rw [List.getElem?_nil]; exact fun z => absurd z.symm (Option.some_ne_none _)), fun b hb => by rw [f2 b hb]; exact lst0 b, fun k hk => absurd hk (Nat.not_lt_zero k)⟩
  refine oc.ck (oc.lt (fun X54 e54 => ?_))
  have h54 : KTs os X54 := by rw [e54]; exact h52.zE (hz _ (by decide) (by decide))
  have t54 : TKS 3 X54 [] := t52.cg (fun e k h1 h2 _ => by
    rw [e54]
    show uA X52.1 11 (fun _ => 0) e k = X52.1 e k
    unfold uA
    rw [if_neg (fun g => by omega)])
  refine oc.lt (fun X60 e60 => oc.lt (fun X61 e61 => oc.lt (fun X62 e62 => oc.lt (fun X63 e63 => ?_))))
  have n63 : kaN os [] X63 := by
    refine ⟨?_, t54.cg (fun e k h1 h2 _ => ?_), fun i hi => ?_⟩
    · rw [e63, e62, e61, e60]
      exact (((h54.wI (hz _ (by decide) (by decide))).wI (hz _ (by decide) (by decide))).wI (hz _ (by decide) (by decide))).wI (hz _ (by decide) (by decide))
    · rw [e63, wI_ne _ _ _ _ _ _ (fun g => by omega), e62, wI_ne _ _ _ _ _ _ (fun g => by omega), e61, wI_ne _ _ _ _ _ _ (fun g => by omega), e60, wI_ne _ _ _ _ _ _ (fun g => by omega)]
    · rw [e63]
      rcases (show i = 3 ∨ i = 2 ∨ i = 1 ∨ i = 0 from by omega) with g | g | g | g
      · rw [g]; exact wI_at _ _ _ _
      · rw [g, wI_ne _ _ _ _ _ _ (by decide), e62]; exact wI_at _ _ _ _
      · rw [g, wI_ne _ _ _ _ _ _ (by decide), e62, wI_ne _ _ _ _ _ _ (by decide), e61]; exact wI_at _ _ _ _
      · rw [g, wI_ne _ _ _ _ _ _ (by decide), e62, wI_ne _ _ _ _ _ _ (by decide), e61, wI_ne _ _ _ _ _ _ (by decide), e60]; exact wI_at _ _ _ _
  clear e60 e61 e62 e63 e54
  refine oc.bf (ka_prim hq n63 (WKd.i1 40) (by decide) (by decide) (by decide) (by decide) (by decide) rfl) (fun _ X65 n65 => ?_)
  refine oc.bf (ka_prim hq n65 (WKd.i2 40) (by decide) (by decide) (by decide) (by decide) (by decide) rfl) (fun _ X67 n67 => ?_)
  refine oc.bf (ka_prim hq n67 (WKd.i3 40) (by decide) (by decide) (by decide) (by decide) (by decide) rfl) (fun _ X69 n69 => ?_)
  refine oc.bf (R := fun _ Y => kaN os [[1], [2], [3], [4, 3]] Y) (pw_mono (ka_rowOf (j := 2) (d := [3]) n69.2.1 (by decide) (by decide) rfl) (fun r Y g => ?_)) (fun _ X71 n71 => ?_)
  · obtain ⟨g1, g2⟩ := g.nx rfl (by decide) rfl
    exact ⟨n69.1.fr (a := 3) g2 hq, g1, fun i hi => by rw [g2 _ _ (by decide)]; exact n69.2.2 i hi⟩
  refine oc.bf (ka_fun (n := 0) (d1 := [5, 3]) hq n71 (by decide) (by decide) rfl (by decide) (by decide) (by decide) rfl) (fun _ X73 n73 => ?_)
  refine oc.bf (ka_fun (n := 1) (d1 := [6, 3, 3]) hq n73 (by decide) (by decide) rfl (by decide) (by decide) (by decide) rfl) (fun _ X75 n75 => ?_)
  refine oc.bf (ka_fun (n := 2) (d1 := [7, 3, 3, 3]) hq n75 (by decide) (by decide) rfl (by decide) (by decide) (by decide) rfl) (fun _ X77 n77 => ?_)
  refine oc.bf (ka_fun (n := 3) (d1 := [8, 3, 3, 3, 3]) hq n77 (by decide) (by decide) rfl (by decide) (by decide) (by decide) rfl) (fun _ X79 n79 => ?_)
  refine oc.bf (ka_fun (n := 4) (d1 := [9, 3, 3, 3, 3, 3]) hq n79 (by decide) (by decide) rfl (by decide) (by decide) (by decide) rfl) (fun _ X81 n81 => ?_)
  refine oc.ret (fun o z => ?_)
  rcases List.mem_cons.mp z with g | g
  · rw [g]; exact n81.2.1
  · exact n81.1 o g
end CTKA
section CTKB
variable {X : St} {os : List Nat}
theorem kb_fil5 {X0 : St} {a3 : Int32} (h3 : a3.toInt = 512) : ∀ (M i : Nat) (a2 : Int32) (X : St), a2.toInt = (i : Int) → i ≤ 512 → X.2 = X0.2 ∧ (∀ e j, ¬ e = 31 → X.1 e j = X0.1 e j) ∧ (∀ b, b < i → X.1 31 b = -1) → pw (hfB_fill_5 M 31 (-1) a2 a3 X) (fun _ Y => Y.2 = X0.2 ∧ (∀ e j, ¬ e = 31 → Y.1 e j = X0.1 e j) ∧ ∀ b, b < 512 → Y.1 31 b = -1) := by
  have lo1 : (Int32.ofInt 1).toInt = 1 := by decide
  intro M
  induction M with
  | zero => exact fun _ _ _ _ _ _ => pw_none
  | succ M ih =>
    intro i a2 X h2 hi hX
    obtain ⟨hx1, hx2, hx3⟩ := hX
    have eu : hfB_fill_5 (M + 1) = hfB_fill_5_s (hfB_fill_5 M) := by
      unfold hfB_fill_5
      exact lp_succ _ _ _
    rw [eu]
    unfold hfB_fill_5_s
    refine pw_ite (fun c => pw_ret ⟨hx1, hx2, fun b hb => hx3 b (by omega)⟩) (fun c => ?_)
    refine pw_ck (fun _ => pw_let (pw_let (ih (i + 1) _ _ (by rw [ti_add (by rw [h2, lo1]; omega) (by rw [h2, lo1]; omega), h2, lo1]; omega) (by omega) ⟨hx1, fun e j hj => ?_, fun b hb => ?_⟩)))
    · rw [wI_ne _ _ _ _ _ _ (fun g => hj g.1)]
      exact hx2 e j hj
    · rw [ixn h2]
      by_cases eb : b = i
      · rw [eb]; exact wI_at _ _ _ _
      · rw [wI_ne _ _ _ _ _ _ (fun g => eb g.2)]
        exact hx3 b (by omega)
theorem kb_fil0 : pw (hfB_fill 31 (-1) X) (fun _ Y => Y.2 = X.2 ∧ (∀ e j, ¬ e = 31 → Y.1 e j = X.1 e j) ∧ ∀ b, b < 512 → Y.1 31 b = -1) := by
  unfold hfB_fill
  refine pw_let (kb_fil5 (show (Int32.ofNat (zY YC_34 31)).toInt = 512 from by decide +kernel) _ 0 _ _ rfl (by decide) ⟨rfl, fun _ _ _ => rfl, fun b hb => absurd hb (Nat.not_lt_zero b)⟩)
/-- a kind that is new stands at the end -/
theorem kbQ.nx {ks ks1 : List (List Int)} {d d1 : List Int} {r : Int32} {Y : St} (h : kbQ X ks d r Y) (hd : d = d1) (hn : ¬ d1 ∈ ks) (hk : ks ++ [d1] = ks1) : TKS 25 Y ks1 ∧ ∀ e j, ¬ (25 ≤ e ∧ e ≤ 32) → Y.1 e j = X.1 e j := by
  subst hd
  subst hk
  obtain ⟨k1, h1, h2, ⟨j, _, h3⟩, _, h5⟩ := h
  rcases h2 with h2 | h2
  · rw [h2] at h3
    exact absurd (List.mem_of_getElem? h3) hn
  · rw [h2.2] at h1
    exact ⟨h1, h5⟩
/-- where no kind stands yet -/
def kbN (os : List Nat) (ks : List (List Int)) (X : St) : Prop := KTs os X ∧ TKS 25 X ks ∧ ∀ i, i < 4 → X.1 33 i = 2
theorem kb_prim {ks ks1 : List (List Int)} {d : List Int} {p1 p6 : Int32} (ho : ∀ o ∈ os, o + 7 < 25 ∨ 32 < o) (h : kbN os ks X) (hw : WKd 40 d) (h1 : p1.toInt = sot d) (h6 : p6 = kco d) (ht : tkn d = 0 ∧ sot d < 3) (hl : ks.length < 1549) (hn : ¬ d ∈ ks) (hk : ks ++ [d] = ks1) : pw (hB_findOrAdd p1 0 33 0 2 p6 X) (fun _ Y => kbN os ks1 Y) := by
  obtain ⟨a, b, c⟩ := h
  refine pw_mono (kb_findOrAddF (f := 0) b hw h1 (by rw [ht.1]; decide) h6 (Or.inl ht.1) ⟨fun _ => by decide, fun z => by omega⟩ (fun i hi => by omega)) (fun r Y g => ?_)
  rcases g with g | g
  · obtain ⟨g1, g2⟩ := g.nx rfl hn hk
    exact ⟨a.fr (a := 25) g2 ho, g1, fun i hi => by rw [g2 _ _ (by decide)]; exact c i hi⟩
  · omega
theorem kb_fun {ks ks1 : List (List Int)} {d1 : List Int} {p3 : Int32} {n : Nat} (ho : ∀ o ∈ os, o + 7 < 25 ∨ 32 < o) (h : kbN os ks X) (h3 : p3.toInt = (n : Int)) (hn4 : n ≤ 4) (h2 : ks[2]? = some [3]) (hl : ks.length < 1549) (hd : (5 + ((List.replicate n [(3 : Int)]).length : Int)) :: ((List.replicate n [(3 : Int)]).flatten ++ [3]) = d1) (hn : ¬ d1 ∈ ks) (hk : ks ++ [d1] = ks1) : pw (hB_functionOf 33 0 p3 2 X) (fun _ Y => kbN os ks1 Y) := by
  obtain ⟨a, b, c⟩ := h
  have z4 : (zY YC_35 33 : Nat) = 4 := by decide +kernel
  refine pw_mono (kb_functionOf (f := 0) (q := 2) (ds := List.replicate n [(3 : Int)]) b hl (by decide) (by decide) (by rw [List.length_replicate]; exact h3) (by rw [List.length_replicate]; exact hn4) (by rw [List.length_replicate, z4]; omega) (by decide) (by decide) h2 (fun i x hx => ?_)) (fun r Y g => ?_)
  · have hi := (List.getElem?_eq_some_iff.mp hx).1
    rw [List.length_replicate] at hi
    rw [List.getElem?_replicate, if_pos hi] at hx
    refine ⟨2, ?_, by rw [h2]; exact hx⟩
    rw [show 0 + i = i from Nat.zero_add i, c i (by omega)]
    decide
  · obtain ⟨g1, g2⟩ := g.nx hd hn hk
    exact ⟨a.fr (a := 25) g2 ho, g1, fun i hi => by rw [g2 _ _ (by decide)]; exact c i hi⟩
theorem ct_25 (ho : ∀ o ∈ os, o + 7 < 25 ∨ 33 < o) (h : KTs os X) : oc (ctor_C_25 X) (fun Y => KTs (25 :: os) Y) := by
  have hq : ∀ o ∈ os, o + 7 < 25 ∨ 32 < o := fun o z => by have := ho o z; omega
  have hz : ∀ n, 25 ≤ n → n ≤ 33 → ∀ o ∈ os, ¬ (o ≤ n ∧ n ≤ o + 7) := fun n h1 h2 o z => by have := ho o z; omega
  unfold ctor_C_25
  refine oc.ck (oc.lt (fun X2 e2 => ?_))
  have h2 : KTs os X2 := by rw [e2]; exact h.zE (hz _ (by decide) (by decide))
  clear e2
  refine oc.ck (oc.lt (fun X9 e9 => ?_))
  have h9 : KTs os X9 := by rw [e9]; exact h2.zE (hz _ (by decide) (by decide))
  clear e9
  refine oc.ck (oc.lt (fun X16 e16 => ?_))
  have h16 : KTs os X16 := by rw [e16]; exact h9.zE (hz _ (by decide) (by decide))
  clear e16
  refine oc.ck (oc.lt (fun X23 e23 => ?_))
  have h23 : KTs os X23 := by rw [e23]; exact h16.zE (hz _ (by decide) (by decide))
  clear e23
  refine oc.ck (oc.lt (fun X30 e30 => ?_))
  have h30 : KTs os X30 := by rw [e30]; exact h23.zE (hz _ (by decide) (by decide))
  clear e30
  refine oc.ck (oc.lt (fun X37 e37 => ?_))
  have h37 : KTs os X37 := by rw [e37]; exact h30.zE (hz _ (by decide) (by decide))
  clear e37
  refine oc.ck (oc.lt (fun X44 e44 => ?_))
  have h44 : KTs os X44 := by rw [e44]; exact h37.zE (hz _ (by decide) (by decide))
  clear e44
  refine oc.lt (fun X50 e50 => ?_)
  have h50 : KTs os X50 := by rw [e50]; exact h44.wI (hz _ (by decide) (by decide))
  have z50 : X50.1 25 0 = 0 := by rw [e50]; exact wI_at _ _ _ _
  clear e50
  refine oc.bf kb_fil0 (fun _ X52 h => ?_)
  obtain ⟨_, f1, f2⟩ := h
  have h52 : KTs os X52 := h50.cg (fun o z e k h1 h2 => f1 e k (fun g => hz 31 (by decide) (by decide) o z (by omega)))
  have t52 : TKS 25 X52 [] := ⟨⟨by rw [f1 _ _ (by decide), z50]; rfl, by decide, ND.nil⟩, fun k d hk => absurd hk (by rw [List.getElem?_nil]; exact fun z => absurd z.symm (Option.some_ne_none _)), fun b hb => by rw [f2 b hb]; exact lst0 b, fun k hk => absurd hk (Nat.not_lt_zero k)⟩
  refine oc.ck (oc.lt (fun X54 e54 => ?_))
  have h54 : KTs os X54 := by rw [e54]; exact h52.zE (hz _ (by decide) (by decide))
  have t54 : TKS 25 X54 [] := t52.cg (fun e k h1 h2 _ => by
    rw [e54]
    show uA X52.1 33 (fun _ => 0) e k = X52.1 e k
    unfold uA
    rw [if_neg (fun g => by omega)])
  refine oc.lt (fun X60 e60 => oc.lt (fun X61 e61 => oc.lt (fun X62 e62 => oc.lt (fun X63 e63 => ?_))))
  have n63 : kbN os [] X63 := by
    refine ⟨?_, t54.cg (fun e k h1 h2 _ => ?_), fun i hi => ?_⟩
    · rw [e63, e62, e61, e60]
      exact (((h54.wI (hz _ (by decide) (by decide))).wI (hz _ (by decide) (by decide))).wI (hz _ (by decide) (by decide))).wI (hz _ (by decide) (by decide))
    · rw [e63, wI_ne _ _ _ _ _ _ (fun g => by omega), e62, wI_ne _ _ _ _ _ _ (fun g => by omega), e61, wI_ne _ _ _ _ _ _ (fun g => by omega), e60, wI_ne _ _ _ _ _ _ (fun g => by omega)]
    · rw [e63]
      rcases (show i = 3 ∨ i = 2 ∨ i = 1 ∨ i = 0 from by omega) with g | g | g | g
      · rw [g]; exact wI_at _ _ _ _
      · rw [g, wI_ne _ _ _ _ _ _ (by decide), e62]; exact wI_at _ _ _ _
      · rw [g, wI_ne _ _ _ _ _ _ (by decide), e62, wI_ne _ _ _ _ _ _ (by decide), e61]; exact wI_at _ _ _ _
      · rw [g, wI_ne _ _ _ _ _ _ (by decide), e62, wI_ne _ _ _ _ _ _ (by decide), e61, wI_ne _ _ _ _ _ _ (by decide), e60]; exact wI_at _ _ _ _
  clear e60 e61 e62 e63 e54
  refine oc.bf (kb_prim hq n63 (WKd.i1 40) (by decide) (by decide) (by decide) (by decide) (by decide) rfl) (fun _ X65 n65 => ?_)
  refine oc.bf (kb_prim hq n65 (WKd.i2 40) (by decide) (by decide) (by decide) (by decide) (by decide) rfl) (fun _ X67 n67 => ?_)
  refine oc.bf (kb_prim hq n67 (WKd.i3 40) (by decide) (by decide) (by decide) (by decide) (by decide) rfl) (fun _ X69 n69 => ?_)
  refine oc.bf (R := fun _ Y => kbN os [[1], [2], [3], [4, 3]] Y) (pw_mono (kb_rowOf (j := 2) (d := [3]) n69.2.1 (by decide) (by decide) rfl) (fun r Y g => ?_)) (fun _ X71 n71 => ?_)
  · obtain ⟨g1, g2⟩ := g.nx rfl (by decide) rfl
    exact ⟨n69.1.fr (a := 25) g2 hq, g1, fun i hi => by rw [g2 _ _ (by decide)]; exact n69.2.2 i hi⟩
  refine oc.bf (kb_fun (n := 0) (d1 := [5, 3]) hq n71 (by decide) (by decide) rfl (by decide) (by decide) (by decide) rfl) (fun _ X73 n73 => ?_)
  refine oc.bf (kb_fun (n := 1) (d1 := [6, 3, 3]) hq n73 (by decide) (by decide) rfl (by decide) (by decide) (by decide) rfl) (fun _ X75 n75 => ?_)
  refine oc.bf (kb_fun (n := 2) (d1 := [7, 3, 3, 3]) hq n75 (by decide) (by decide) rfl (by decide) (by decide) (by decide) rfl) (fun _ X77 n77 => ?_)
  refine oc.bf (kb_fun (n := 3) (d1 := [8, 3, 3, 3, 3]) hq n77 (by decide) (by decide) rfl (by decide) (by decide) (by decide) rfl) (fun _ X79 n79 => ?_)
  refine oc.bf (kb_fun (n := 4) (d1 := [9, 3, 3, 3, 3, 3]) hq n79 (by decide) (by decide) rfl (by decide) (by decide) (by decide) rfl) (fun _ X81 n81 => ?_)
  refine oc.ret (fun o z => ?_)
  rcases List.mem_cons.mp z with g | g
  · rw [g]; exact n81.2.1
  · exact n81.1 o g
end CTKB
theorem ct_2 {X : St} (hX : KTs [] X) : oc (ctor_C_2 X) (fun Y => KTs [3] Y) := by
  unfold ctor_C_2
  refine oc.ck ?_
  refine oc.lt (fun X2 eX2 => ?_)
  have hX2 : KTs [] X2 := by rw [eX2]; exact hX.zE (by decide)
  clear eX2
  refine oc.bd (ct_3 (os := []) (by decide) hX2) (fun X11 hX11 => ?_)
  refine oc.lt (fun X14 eX14 => ?_)
  have hX14 : KTs [3] X14 := by rw [eX14]; exact hX11.wI (by decide)
  clear eX14
  refine oc.lt (fun X15 eX15 => ?_)
  have hX15 : KTs [3] X15 := by rw [eX15]; exact hX14.wI (by decide)
  clear eX15
  refine oc.ck ?_
  refine oc.lt (fun X17 eX17 => ?_)
  have hX17 : KTs [3] X17 := by rw [eX17]; exact hX15.zE (by decide)
  clear eX17
  refine oc.ck ?_
  refine oc.lt (fun X24 eX24 => ?_)
  have hX24 : KTs [3] X24 := by rw [eX24]; exact hX17.zE (by decide)
  clear eX24
  refine oc.ck ?_
  refine oc.lt (fun X31 eX31 => ?_)
  have hX31 : KTs [3] X31 := by rw [eX31]; exact hX24.zE (by decide)
  clear eX31
  refine oc.ck ?_
  refine oc.lt (fun X38 eX38 => ?_)
  have hX38 : KTs [3] X38 := by rw [eX38]; exact hX31.zE (by decide)
  clear eX38
  refine oc.ck ?_
  refine oc.lt (fun X45 eX45 => ?_)
  have hX45 : KTs [3] X45 := by rw [eX45]; exact hX38.zE (by decide)
  clear eX45
  refine oc.ck ?_
  refine oc.lt (fun X52 eX52 => ?_)
  have hX52 : KTs [3] X52 := by rw [eX52]; exact hX45.zE (by decide)
  clear eX52
  refine oc.ck ?_
  refine oc.lt (fun X59 eX59 => ?_)
  have hX59 : KTs [3] X59 := by rw [eX59]; exact hX52.zE (by decide)
  clear eX59
  refine oc.ck ?_
  refine oc.lt (fun X66 eX66 => ?_)
  have hX66 : KTs [3] X66 := by rw [eX66]; exact hX59.zE (by decide)
  clear eX66
  refine oc.lt (fun X72 eX72 => ?_)
  have hX72 : KTs [3] X72 := by rw [eX72]; exact hX66.wI (by decide)
  clear eX72
  refine oc.ck ?_
  refine oc.lt (fun X74 eX74 => ?_)
  have hX74 : KTs [3] X74 := by rw [eX74]; exact hX72.zE (by decide)
  clear eX74
  refine oc.ck ?_
  refine oc.lt (fun X81 eX81 => ?_)
  have hX81 : KTs [3] X81 := by rw [eX81]; exact hX74.zE (by decide)
  clear eX81
  refine oc.ck ?_
  refine oc.lt (fun X88 eX88 => ?_)
  have hX88 : KTs [3] X88 := by rw [eX88]; exact hX81.zE (by decide)
  clear eX88
  refine oc.ck ?_
  refine oc.lt (fun X95 eX95 => ?_)
  have hX95 : KTs [3] X95 := by rw [eX95]; exact hX88.zE (by decide)
  clear eX95
  refine oc.lt (fun X101 eX101 => ?_)
  have hX101 : KTs [3] X101 := by rw [eX101]; exact hX95.wI (by decide)
  clear eX101
  exact oc.ret hX101
theorem ct_24 {X : St} (hX : KTs [3] X) : oc (ctor_C_24 X) (fun Y => KTs [25, 3] Y) := by
  unfold ctor_C_24
  refine oc.ck ?_
  refine oc.lt (fun X2 eX2 => ?_)
  have hX2 : KTs [3] X2 := by rw [eX2]; exact hX.zE (by decide)
  clear eX2
  refine oc.bd (ct_25 (os := [3]) (by decide) hX2) (fun X11 hX11 => ?_)
  refine oc.lt (fun X14 eX14 => ?_)
  have hX14 : KTs [25, 3] X14 := by rw [eX14]; exact hX11.wI (by decide)
  clear eX14
  refine oc.lt (fun X15 eX15 => ?_)
  have hX15 : KTs [25, 3] X15 := by rw [eX15]; exact hX14.wI (by decide)
  clear eX15
  refine oc.ck ?_
  refine oc.lt (fun X17 eX17 => ?_)
  have hX17 : KTs [25, 3] X17 := by rw [eX17]; exact hX15.zE (by decide)
  clear eX17
  refine oc.ck ?_
  refine oc.lt (fun X24 eX24 => ?_)
  have hX24 : KTs [25, 3] X24 := by rw [eX24]; exact hX17.zE (by decide)
  clear eX24
  refine oc.ck ?_
  refine oc.lt (fun X31 eX31 => ?_)
  have hX31 : KTs [25, 3] X31 := by rw [eX31]; exact hX24.zE (by decide)
  clear eX31
  refine oc.ck ?_
  refine oc.lt (fun X38 eX38 => ?_)
  have hX38 : KTs [25, 3] X38 := by rw [eX38]; exact hX31.zE (by decide)
  clear eX38
  refine oc.ck ?_
  refine oc.lt (fun X45 eX45 => ?_)
  have hX45 : KTs [25, 3] X45 := by rw [eX45]; exact hX38.zE (by decide)
  clear eX45
  refine oc.ck ?_
  refine oc.lt (fun X52 eX52 => ?_)
  have hX52 : KTs [25, 3] X52 := by rw [eX52]; exact hX45.zE (by decide)
  clear eX52
  refine oc.ck ?_
  refine oc.lt (fun X59 eX59 => ?_)
  have hX59 : KTs [25, 3] X59 := by rw [eX59]; exact hX52.zE (by decide)
  clear eX59
  refine oc.ck ?_
  refine oc.lt (fun X66 eX66 => ?_)
  have hX66 : KTs [25, 3] X66 := by rw [eX66]; exact hX59.zE (by decide)
  clear eX66
  refine oc.lt (fun X72 eX72 => ?_)
  have hX72 : KTs [25, 3] X72 := by rw [eX72]; exact hX66.wI (by decide)
  clear eX72
  refine oc.ck ?_
  refine oc.lt (fun X74 eX74 => ?_)
  have hX74 : KTs [25, 3] X74 := by rw [eX74]; exact hX72.zE (by decide)
  clear eX74
  refine oc.ck ?_
  refine oc.lt (fun X81 eX81 => ?_)
  have hX81 : KTs [25, 3] X81 := by rw [eX81]; exact hX74.zE (by decide)
  clear eX81
  refine oc.ck ?_
  refine oc.lt (fun X88 eX88 => ?_)
  have hX88 : KTs [25, 3] X88 := by rw [eX88]; exact hX81.zE (by decide)
  clear eX88
  refine oc.ck ?_
  refine oc.lt (fun X95 eX95 => ?_)
  have hX95 : KTs [25, 3] X95 := by rw [eX95]; exact hX88.zE (by decide)
  clear eX95
  refine oc.lt (fun X101 eX101 => ?_)
  have hX101 : KTs [25, 3] X101 := by rw [eX101]; exact hX95.wI (by decide)
  clear eX101
  exact oc.ret hX101
theorem ct_47 {X : St} (hX : KTs [25, 3] X) : oc (ctor_C_47 X) (fun Y => KTs [25, 3] Y) := by
  unfold ctor_C_47
  refine oc.ck ?_
  refine oc.lt (fun X2 eX2 => ?_)
  have hX2 : KTs [25, 3] X2 := by rw [eX2]; exact hX.zE (by decide)
  clear eX2
  refine oc.lt (fun X8 eX8 => ?_)
  have hX8 : KTs [25, 3] X8 := by rw [eX8]; exact hX2.wR
  clear eX8
  refine oc.lt (fun X9 eX9 => ?_)
  have hX9 : KTs [25, 3] X9 := by rw [eX9]; exact hX8.wI (by decide)
  clear eX9
  refine oc.lt (fun X10 eX10 => ?_)
  have hX10 : KTs [25, 3] X10 := by rw [eX10]; exact hX9.wI (by decide)
  clear eX10
  refine oc.lt (fun X11 eX11 => ?_)
  have hX11 : KTs [25, 3] X11 := by rw [eX11]; exact hX10.wI (by decide)
  clear eX11
  refine oc.lt (fun X12 eX12 => ?_)
  have hX12 : KTs [25, 3] X12 := by rw [eX12]; exact hX11.wI (by decide)
  clear eX12
  refine oc.lt (fun X13 eX13 => ?_)
  have hX13 : KTs [25, 3] X13 := by rw [eX13]; exact hX12.wL
  clear eX13
  refine oc.lt (fun X14 eX14 => ?_)
  have hX14 : KTs [25, 3] X14 := by rw [eX14]; exact hX13.wI (by decide)
  clear eX14
  refine oc.lt (fun X15 eX15 => ?_)
  have hX15 : KTs [25, 3] X15 := by rw [eX15]; exact hX14.wL
  clear eX15
  exact oc.ret hX15
theorem ct_46 {X : St} (hX : KTs [25, 3] X) : oc (ctor_C_46 X) (fun Y => KTs [25, 3] Y) := by
  unfold ctor_C_46
  refine oc.ck ?_
  refine oc.lt (fun X2 eX2 => ?_)
  have hX2 : KTs [25, 3] X2 := by rw [eX2]; exact hX.zE (by decide)
  clear eX2
  refine oc.bd (ct_47 hX2) (fun X11 hX11 => ?_)
  refine oc.lt (fun X14 eX14 => ?_)
  have hX14 : KTs [25, 3] X14 := by rw [eX14]; exact hX11.wR
  clear eX14
  refine oc.lt (fun X15 eX15 => ?_)
  have hX15 : KTs [25, 3] X15 := by rw [eX15]; exact hX14.wI (by decide)
  clear eX15
  refine oc.lt (fun X16 eX16 => ?_)
  have hX16 : KTs [25, 3] X16 := by rw [eX16]; exact hX15.wI (by decide)
  clear eX16
  refine oc.lt (fun X17 eX17 => ?_)
  have hX17 : KTs [25, 3] X17 := by rw [eX17]; exact hX16.wI (by decide)
  clear eX17
  refine oc.ck ?_
  refine oc.lt (fun X19 eX19 => ?_)
  have hX19 : KTs [25, 3] X19 := by rw [eX19]; exact hX17.zE (by decide)
  clear eX19
  refine oc.ck ?_
  refine oc.lt (fun X26 eX26 => ?_)
  have hX26 : KTs [25, 3] X26 := by rw [eX26]; exact hX19.zE (by decide)
  clear eX26
  refine oc.lt (fun X32 eX32 => ?_)
  have hX32 : KTs [25, 3] X32 := by rw [eX32]; exact hX26.wI (by decide)
  clear eX32
  refine oc.ck ?_
  refine oc.lt (fun X34 eX34 => ?_)
  have hX34 : KTs [25, 3] X34 := by rw [eX34]; exact hX32.zE (by decide)
  clear eX34
  refine oc.ck ?_
  refine oc.lt (fun X41 eX41 => ?_)
  have hX41 : KTs [25, 3] X41 := by rw [eX41]; exact hX34.zE (by decide)
  clear eX41
  refine oc.ck ?_
  refine oc.lt (fun X48 eX48 => ?_)
  have hX48 : KTs [25, 3] X48 := by rw [eX48]; exact hX41.zE (by decide)
  clear eX48
  refine oc.lt (fun X54 eX54 => ?_)
  have hX54 : KTs [25, 3] X54 := by rw [eX54]; exact hX48.wI (by decide)
  clear eX54
  refine oc.ck ?_
  refine oc.lt (fun X56 eX56 => ?_)
  have hX56 : KTs [25, 3] X56 := by rw [eX56]; exact hX54.zE (by decide)
  clear eX56
  refine oc.lt (fun X62 eX62 => ?_)
  have hX62 : KTs [25, 3] X62 := by rw [eX62]; exact hX56.wI (by decide)
  clear eX62
  exact oc.ret hX62
theorem ct_55 {X : St} (hX : KTs [25, 3] X) : oc (ctor_C_55 X) (fun Y => KTs [25, 3] Y) := by
  unfold ctor_C_55
  refine oc.ck ?_
  refine oc.lt (fun X2 eX2 => ?_)
  have hX2 : KTs [25, 3] X2 := by rw [eX2]; exact hX.zE (by decide)
  clear eX2
  refine oc.ck ?_
  refine oc.lt (fun X9 eX9 => ?_)
  have hX9 : KTs [25, 3] X9 := by rw [eX9]; exact hX2.zE (by decide)
  clear eX9
  refine oc.ck ?_
  refine oc.lt (fun X16 eX16 => ?_)
  have hX16 : KTs [25, 3] X16 := by rw [eX16]; exact hX9.zE (by decide)
  clear eX16
  refine oc.ck ?_
  refine oc.lt (fun X23 eX23 => ?_)
  have hX23 : KTs [25, 3] X23 := by rw [eX23]; exact hX16.zE (by decide)
  clear eX23
  refine oc.ck ?_
  refine oc.lt (fun X30 eX30 => ?_)
  have hX30 : KTs [25, 3] X30 := by rw [eX30]; exact hX23.zE (by decide)
  clear eX30
  refine oc.lt (fun X36 eX36 => ?_)
  have hX36 : KTs [25, 3] X36 := by rw [eX36]; exact hX30.wI (by decide)
  clear eX36
  exact oc.ret hX36
theorem ct_61 {X : St} (hX : KTs [25, 3] X) : oc (ctor_C_61 X) (fun Y => KTs [25, 3] Y) := by
  unfold ctor_C_61
  refine oc.lt (fun X1 eX1 => ?_)
  have hX1 : KTs [25, 3] X1 := by rw [eX1]; exact hX.wR
  clear eX1
  refine oc.lt (fun X2 eX2 => ?_)
  have hX2 : KTs [25, 3] X2 := by rw [eX2]; exact hX1.wR
  clear eX2
  refine oc.lt (fun X3 eX3 => ?_)
  have hX3 : KTs [25, 3] X3 := by rw [eX3]; exact hX2.wR
  clear eX3
  refine oc.lt (fun X4 eX4 => ?_)
  have hX4 : KTs [25, 3] X4 := by rw [eX4]; exact hX3.wI (by decide)
  clear eX4
  refine oc.lt (fun X5 eX5 => ?_)
  have hX5 : KTs [25, 3] X5 := by rw [eX5]; exact hX4.wI (by decide)
  clear eX5
  refine oc.lt (fun X6 eX6 => ?_)
  have hX6 : KTs [25, 3] X6 := by rw [eX6]; exact hX5.wI (by decide)
  clear eX6
  refine oc.ck ?_
  refine oc.lt (fun X8 eX8 => ?_)
  have hX8 : KTs [25, 3] X8 := by rw [eX8]; exact hX6.zE (by decide)
  clear eX8
  refine oc.ck ?_
  refine oc.lt (fun X15 eX15 => ?_)
  have hX15 : KTs [25, 3] X15 := by rw [eX15]; exact hX8.zE (by decide)
  clear eX15
  refine oc.ck ?_
  refine oc.lt (fun X22 eX22 => ?_)
  have hX22 : KTs [25, 3] X22 := by rw [eX22]; exact hX15.zE (by decide)
  clear eX22
  refine oc.ck ?_
  refine oc.lt (fun X29 eX29 => ?_)
  have hX29 : KTs [25, 3] X29 := by rw [eX29]; exact hX22.zE (by decide)
  clear eX29
  refine oc.ck ?_
  refine oc.lt (fun X36 eX36 => ?_)
  have hX36 : KTs [25, 3] X36 := by rw [eX36]; exact hX29.zE (by decide)
  clear eX36
  refine oc.ck ?_
  refine oc.lt (fun X43 eX43 => ?_)
  have hX43 : KTs [25, 3] X43 := by rw [eX43]; exact hX36.zE (by decide)
  clear eX43
  refine oc.ck ?_
  refine oc.lt (fun X50 eX50 => ?_)
  have hX50 : KTs [25, 3] X50 := by rw [eX50]; exact hX43.zE (by decide)
  clear eX50
  refine oc.ck ?_
  refine oc.lt (fun X57 eX57 => ?_)
  have hX57 : KTs [25, 3] X57 := by rw [eX57]; exact hX50.zE (by decide)
  clear eX57
  refine oc.lt (fun X63 eX63 => ?_)
  have hX63 : KTs [25, 3] X63 := by rw [eX63]; exact hX57.wI (by decide)
  clear eX63
  exact oc.ret hX63
theorem ct_71 {X : St} (hX : KTs [25, 3] X) : oc (ctor_C_71 X) (fun Y => KTs [25, 3] Y) := by
  unfold ctor_C_71
  refine oc.lt (fun X1 eX1 => ?_)
  have hX1 : KTs [25, 3] X1 := by rw [eX1]; exact hX.wI (by decide)
  clear eX1
  refine oc.lt (fun X2 eX2 => ?_)
  have hX2 : KTs [25, 3] X2 := by rw [eX2]; exact hX1.wI (by decide)
  clear eX2
  refine oc.lt (fun X3 eX3 => ?_)
  have hX3 : KTs [25, 3] X3 := by rw [eX3]; exact hX2.wI (by decide)
  clear eX3
  refine oc.ck ?_
  refine oc.lt (fun X5 eX5 => ?_)
  have hX5 : KTs [25, 3] X5 := by rw [eX5]; exact hX3.zE (by decide)
  clear eX5
  refine oc.ck ?_
  refine oc.lt (fun X12 eX12 => ?_)
  have hX12 : KTs [25, 3] X12 := by rw [eX12]; exact hX5.zE (by decide)
  clear eX12
  refine oc.ck ?_
  refine oc.lt (fun X19 eX19 => ?_)
  have hX19 : KTs [25, 3] X19 := by rw [eX19]; exact hX12.zE (by decide)
  clear eX19
  refine oc.ck ?_
  refine oc.lt (fun X26 eX26 => ?_)
  have hX26 : KTs [25, 3] X26 := by rw [eX26]; exact hX19.zE (by decide)
  clear eX26
  refine oc.ck ?_
  refine oc.lt (fun X33 eX33 => ?_)
  have hX33 : KTs [25, 3] X33 := by rw [eX33]; exact hX26.zE (by decide)
  clear eX33
  refine oc.ck ?_
  refine oc.lt (fun X40 eX40 => ?_)
  have hX40 : KTs [25, 3] X40 := by rw [eX40]; exact hX33.zE (by decide)
  clear eX40
  refine oc.ck ?_
  refine oc.lt (fun X47 eX47 => ?_)
  have hX47 : KTs [25, 3] X47 := by rw [eX47]; exact hX40.zE (by decide)
  clear eX47
  refine oc.ck ?_
  refine oc.lt (fun X54 eX54 => ?_)
  have hX54 : KTs [25, 3] X54 := by rw [eX54]; exact hX47.zE (by decide)
  clear eX54
  refine oc.ck ?_
  refine oc.lt (fun X61 eX61 => ?_)
  have hX61 : KTs [25, 3] X61 := by rw [eX61]; exact hX54.zE (by decide)
  clear eX61
  refine oc.ck ?_
  refine oc.lt (fun X68 eX68 => ?_)
  have hX68 : KTs [25, 3] X68 := by rw [eX68]; exact hX61.zE (by decide)
  clear eX68
  exact oc.ret hX68
theorem ct_70 {X : St} (hX : KTs [25, 3] X) : oc (ctor_C_70 X) (fun Y => KTs [25, 3] Y) := by
  unfold ctor_C_70
  refine oc.lt (fun X1 eX1 => ?_)
  have hX1 : KTs [25, 3] X1 := by rw [eX1]; exact hX.wR
  clear eX1
  refine oc.ck ?_
  refine oc.lt (fun X3 eX3 => ?_)
  have hX3 : KTs [25, 3] X3 := by rw [eX3]; exact hX1.zE (by decide)
  clear eX3
  refine oc.bd (ct_71 hX3) (fun X12 hX12 => ?_)
  refine oc.lt (fun X15 eX15 => ?_)
  have hX15 : KTs [25, 3] X15 := by rw [eX15]; exact hX12.wR
  clear eX15
  refine oc.lt (fun X16 eX16 => ?_)
  have hX16 : KTs [25, 3] X16 := by rw [eX16]; exact hX15.wI (by decide)
  clear eX16
  refine oc.lt (fun X17 eX17 => ?_)
  have hX17 : KTs [25, 3] X17 := by rw [eX17]; exact hX16.wI (by decide)
  clear eX17
  refine oc.lt (fun X18 eX18 => ?_)
  have hX18 : KTs [25, 3] X18 := by rw [eX18]; exact hX17.wI (by decide)
  clear eX18
  refine oc.lt (fun X19 eX19 => ?_)
  have hX19 : KTs [25, 3] X19 := by rw [eX19]; exact hX18.wI (by decide)
  clear eX19
  refine oc.lt (fun X20 eX20 => ?_)
  have hX20 : KTs [25, 3] X20 := by rw [eX20]; exact hX19.wI (by decide)
  clear eX20
  refine oc.lt (fun X21 eX21 => ?_)
  have hX21 : KTs [25, 3] X21 := by rw [eX21]; exact hX20.wI (by decide)
  clear eX21
  refine oc.lt (fun X22 eX22 => ?_)
  have hX22 : KTs [25, 3] X22 := by rw [eX22]; exact hX21.wI (by decide)
  clear eX22
  refine oc.lt (fun X23 eX23 => ?_)
  have hX23 : KTs [25, 3] X23 := by rw [eX23]; exact hX22.wI (by decide)
  clear eX23
  refine oc.lt (fun X24 eX24 => ?_)
  have hX24 : KTs [25, 3] X24 := by rw [eX24]; exact hX23.wI (by decide)
  clear eX24
  refine oc.ck ?_
  refine oc.lt (fun X26 eX26 => ?_)
  have hX26 : KTs [25, 3] X26 := by rw [eX26]; exact hX24.zE (by decide)
  clear eX26
  refine oc.ck ?_
  refine oc.lt (fun X33 eX33 => ?_)
  have hX33 : KTs [25, 3] X33 := by rw [eX33]; exact hX26.zE (by decide)
  clear eX33
  refine oc.ck ?_
  refine oc.lt (fun X40 eX40 => ?_)
  have hX40 : KTs [25, 3] X40 := by rw [eX40]; exact hX33.zE (by decide)
  clear eX40
  refine oc.lt (fun X46 eX46 => ?_)
  have hX46 : KTs [25, 3] X46 := by rw [eX46]; exact hX40.wI (by decide)
  clear eX46
  refine oc.ck ?_
  refine oc.lt (fun X48 eX48 => ?_)
  have hX48 : KTs [25, 3] X48 := by rw [eX48]; exact hX46.zE (by decide)
  clear eX48
  refine oc.ck ?_
  refine oc.lt (fun X55 eX55 => ?_)
  have hX55 : KTs [25, 3] X55 := by rw [eX55]; exact hX48.zE (by decide)
  clear eX55
  refine oc.lt (fun X61 eX61 => ?_)
  have hX61 : KTs [25, 3] X61 := by rw [eX61]; exact hX55.wI (by decide)
  clear eX61
  refine oc.ck ?_
  refine oc.lt (fun X63 eX63 => ?_)
  have hX63 : KTs [25, 3] X63 := by rw [eX63]; exact hX61.zE (by decide)
  clear eX63
  exact oc.ret hX63
theorem ct_C (X : St) : oc (ctor_C X) (fun Y => TKS 3 Y K9 ∧ TKS 25 Y K9) := by
  have hX : KTs [] X := fun o h => absurd h List.not_mem_nil
  unfold ctor_C
  refine oc.ck ?_
  refine oc.lt (fun X2 eX2 => ?_)
  have hX2 : KTs [] X2 := by rw [eX2]; exact hX.zE (by decide)
  clear eX2
  refine oc.lt (fun X8 eX8 => ?_)
  have hX8 : KTs [] X8 := by rw [eX8]; exact hX2.wI (by decide)
  clear eX8
  refine oc.ck ?_
  refine oc.lt (fun X10 eX10 => ?_)
  have hX10 : KTs [] X10 := by rw [eX10]; exact hX8.zE (by decide)
  clear eX10
  refine oc.bd (ct_2 hX10) (fun X19 hX19 => ?_)
  refine oc.lt (fun X22 eX22 => ?_)
  have hX22 : KTs [3] X22 := by rw [eX22]; exact hX19.wR
  clear eX22
  refine oc.ck ?_
  refine oc.lt (fun X24 eX24 => ?_)
  have hX24 : KTs [3] X24 := by rw [eX24]; exact hX22.zE (by decide)
  clear eX24
  refine oc.bd (ct_24 hX24) (fun X33 hX33 => ?_)
  refine oc.lt (fun X36 eX36 => ?_)
  have hX36 : KTs [25, 3] X36 := by rw [eX36]; exact hX33.wR
  clear eX36
  refine oc.lt (fun X37 eX37 => ?_)
  have hX37 : KTs [25, 3] X37 := by rw [eX37]; exact hX36.wI (by decide)
  clear eX37
  refine oc.lt (fun X38 eX38 => ?_)
  have hX38 : KTs [25, 3] X38 := by rw [eX38]; exact hX37.wI (by decide)
  clear eX38
  refine oc.lt (fun X39 eX39 => ?_)
  have hX39 : KTs [25, 3] X39 := by rw [eX39]; exact hX38.wI (by decide)
  clear eX39
  refine oc.ck ?_
  refine oc.lt (fun X41 eX41 => ?_)
  have hX41 : KTs [25, 3] X41 := by rw [eX41]; exact hX39.zE (by decide)
  clear eX41
  refine oc.bd (ct_46 hX41) (fun X50 hX50 => ?_)
  refine oc.ck ?_
  refine oc.lt (fun X54 eX54 => ?_)
  have hX54 : KTs [25, 3] X54 := by rw [eX54]; exact hX50.zE (by decide)
  clear eX54
  refine oc.bd (ct_55 hX54) (fun X63 hX63 => ?_)
  refine oc.ck ?_
  refine oc.lt (fun X67 eX67 => ?_)
  have hX67 : KTs [25, 3] X67 := by rw [eX67]; exact hX63.zE (by decide)
  clear eX67
  refine oc.bd (ct_61 hX67) (fun X76 hX76 => ?_)
  refine oc.ck ?_
  refine oc.lt (fun X80 eX80 => ?_)
  have hX80 : KTs [25, 3] X80 := by rw [eX80]; exact hX76.zE (by decide)
  clear eX80
  refine oc.bd (ct_70 hX80) (fun X89 hX89 => ?_)
  refine oc.lt (fun X92 eX92 => ?_)
  have hX92 : KTs [25, 3] X92 := by rw [eX92]; exact hX89.wI (by decide)
  clear eX92
  refine oc.lt (fun X93 eX93 => ?_)
  have hX93 : KTs [25, 3] X93 := by rw [eX93]; exact hX92.wI (by decide)
  clear eX93
  exact oc.ret ⟨hX93 3 (by decide), hX93 25 (by decide)⟩
