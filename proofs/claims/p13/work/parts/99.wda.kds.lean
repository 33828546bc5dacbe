/-! kinds as lists: plain ones 1, 2, 3; 4 and a kind: a row; 5 + n, n kinds and one more: a function -/
/-- the kinds that follow each other in a list -/
def pz : List Int → List (List Int)
  | [] => []
  | a :: r => if a = 4 then (match pz r with | [] => [] | x :: s => (4 :: x) :: s) else if 5 ≤ a then (a :: ((pz r).take ((a - 5).toNat + 1)).flatten) :: (pz r).drop ((a - 5).toNat + 1) else [a] :: pz r
/-- their codes -/
def cz : List Int → List Int32
  | [] => []
  | a :: r => if a = 4 then (match cz r with | [] => [] | x :: s => ((5 : Int32) * x + (4 : Int32)) :: s) else if 5 ≤ a then (((cz r).take ((a - 5).toNat + 1)).foldl (fun v x => (31 : Int32) * v + x) ((7 : Int32) + Int32.ofInt (a - 5))) :: (cz r).drop ((a - 5).toNat + 1) else Int32.ofInt a :: cz r
/-- well made, functions in params nested m deep at most -/
def WKd (m : Nat) (d : List Int) : Prop := ∀ P : Nat → List Int → Prop, (∀ m, P m [1]) → (∀ m, P m [2]) → (∀ m, P m [3]) → (∀ m d, P m d → P m (4 :: d)) → (∀ m (ds : List (List Int)) d, ds.length ≤ 4 → (∀ e ∈ ds, 1 ≤ m ∧ P (m - 1) e) → P m d → P m ((5 + (ds.length : Int)) :: (ds.flatten ++ d))) → P m d
theorem WKd.i1 (m : Nat) : WKd m [1] := fun _ h _ _ _ _ => h m
theorem WKd.i2 (m : Nat) : WKd m [2] := fun _ _ h _ _ _ => h m
theorem WKd.i3 (m : Nat) : WKd m [3] := fun _ _ _ h _ _ => h m
theorem WKd.row {m : Nat} {d : List Int} (h : WKd m d) : WKd m (4 :: d) := fun P h1 h2 h3 h4 h5 => h4 m d (h P h1 h2 h3 h4 h5)
theorem WKd.fn {m : Nat} {ds : List (List Int)} {d : List Int} (hl : ds.length ≤ 4) (hs : ∀ e ∈ ds, 1 ≤ m ∧ WKd (m - 1) e) (h : WKd m d) : WKd m ((5 + (ds.length : Int)) :: (ds.flatten ++ d)) := fun P h1 h2 h3 h4 h5 => h5 m ds d hl (fun e he => ⟨(hs e he).1, (hs e he).2 P h1 h2 h3 h4 h5⟩) (h P h1 h2 h3 h4 h5)
theorem WKd.ind {P : Nat → List Int → Prop} (h1 : ∀ m, P m [1]) (h2 : ∀ m, P m [2]) (h3 : ∀ m, P m [3]) (h4 : ∀ m d, WKd m d → P m d → P m (4 :: d)) (h5 : ∀ m (ds : List (List Int)) d, ds.length ≤ 4 → (∀ e ∈ ds, 1 ≤ m ∧ WKd (m - 1) e ∧ P (m - 1) e) → WKd m d → P m d → P m ((5 + (ds.length : Int)) :: (ds.flatten ++ d))) {m : Nat} {d : List Int} (h : WKd m d) : P m d :=
  (h (fun m d => WKd m d ∧ P m d) (fun m => ⟨WKd.i1 m, h1 m⟩) (fun m => ⟨WKd.i2 m, h2 m⟩) (fun m => ⟨WKd.i3 m, h3 m⟩) (fun m d g => ⟨WKd.row g.1, h4 m d g.1 g.2⟩) (fun m ds d hl hs g => ⟨WKd.fn hl (fun e he => ⟨(hs e he).1, (hs e he).2.1⟩) g.1, h5 m ds d hl hs g.1 g.2⟩)).2
theorem WKd.inv {m : Nat} {d : List Int} (h : WKd m d) : d = [1] ∨ d = [2] ∨ d = [3] ∨ (∃ x, d = 4 :: x ∧ WKd m x) ∨ ∃ (ds : List (List Int)) (x : List Int), d = (5 + (ds.length : Int)) :: (ds.flatten ++ x) ∧ ds.length ≤ 4 ∧ (∀ e ∈ ds, 1 ≤ m ∧ WKd (m - 1) e) ∧ WKd m x :=
  WKd.ind (P := fun m d => d = [1] ∨ d = [2] ∨ d = [3] ∨ (∃ x, d = 4 :: x ∧ WKd m x) ∨ ∃ (ds : List (List Int)) (x : List Int), d = (5 + (ds.length : Int)) :: (ds.flatten ++ x) ∧ ds.length ≤ 4 ∧ (∀ e ∈ ds, 1 ≤ m ∧ WKd (m - 1) e) ∧ WKd m x) (fun _ => Or.inl rfl) (fun _ => Or.inr (Or.inl rfl)) (fun _ => Or.inr (Or.inr (Or.inl rfl))) (fun _ d g _ => Or.inr (Or.inr (Or.inr (Or.inl ⟨d, rfl, g⟩)))) (fun _ ds d hl hs g _ => Or.inr (Or.inr (Or.inr (Or.inr ⟨ds, d, rfl, hl, fun e he => ⟨(hs e he).1, (hs e he).2.1⟩, g⟩)))) h
theorem WKd.up {m m1 : Nat} {d : List Int} (h : WKd m d) (g : m ≤ m1) : WKd m1 d :=
  WKd.ind (P := fun m d => ∀ m1, m ≤ m1 → WKd m1 d) (fun _ m _ => WKd.i1 m) (fun _ m _ => WKd.i2 m) (fun _ m _ => WKd.i3 m) (fun _ _ _ g m1 hm => (g m1 hm).row) (fun m ds d hl hs _ g m1 hm => WKd.fn hl (fun e he => ⟨by have := (hs e he).1; omega, (hs e he).2.2 _ (by omega)⟩) (g m1 hm)) h m1 g
theorem pz_fl {ds : List (List Int)} : (∀ e ∈ ds, ∀ r, pz (e ++ r) = e :: pz r) → ∀ r, pz (ds.flatten ++ r) = ds ++ pz r := by
  induction ds with
  | nil => exact fun _ _ => rfl
  | cons e ds ih =>
    intro h r
    rw [List.flatten_cons, List.append_assoc, h e (List.mem_cons_self ..), ih (fun x hx => h x (List.mem_cons_of_mem _ hx))]
    rfl
theorem len5 (n : Nat) : ((5 + (n : Int)) - 5).toNat = n := by omega
theorem WKd.pz {m : Nat} {d : List Int} (h : WKd m d) : ∀ r, pz (d ++ r) = d :: _root_.Jvm.Pilot.CBlameCourtLaw_law_r8381_f30dd1.pz r := by
  refine WKd.ind (P := fun _ d => ∀ r, _root_.Jvm.Pilot.CBlameCourtLaw_law_r8381_f30dd1.pz (d ++ r) = d :: _root_.Jvm.Pilot.CBlameCourtLaw_law_r8381_f30dd1.pz r) (fun _ _ => rfl) (fun _ _ => rfl) (fun _ _ => rfl) (fun m d _ g r => ?_) (fun m ds d hl hs _ g r => ?_) h
  · show _root_.Jvm.Pilot.CBlameCourtLaw_law_r8381_f30dd1.pz (4 :: (d ++ r)) = _
    rw [_root_.Jvm.Pilot.CBlameCourtLaw_law_r8381_f30dd1.pz, if_pos rfl, g]
  · show _root_.Jvm.Pilot.CBlameCourtLaw_law_r8381_f30dd1.pz ((5 + (ds.length : Int)) :: ((ds.flatten ++ d) ++ r)) = _
    rw [_root_.Jvm.Pilot.CBlameCourtLaw_law_r8381_f30dd1.pz, if_neg (by omega), if_pos (by omega), List.append_assoc, pz_fl (fun e he => (hs e he).2.2), g, len5]
    have e1 : (ds ++ d :: _root_.Jvm.Pilot.CBlameCourtLaw_law_r8381_f30dd1.pz r).take (ds.length + 1) = ds ++ [d] := by
      rw [show ds ++ d :: _root_.Jvm.Pilot.CBlameCourtLaw_law_r8381_f30dd1.pz r = (ds ++ [d]) ++ _root_.Jvm.Pilot.CBlameCourtLaw_law_r8381_f30dd1.pz r by simp, List.take_append_of_le_length (by simp), List.take_of_length_le (by simp)]
    have e2 : (ds ++ d :: _root_.Jvm.Pilot.CBlameCourtLaw_law_r8381_f30dd1.pz r).drop (ds.length + 1) = _root_.Jvm.Pilot.CBlameCourtLaw_law_r8381_f30dd1.pz r := by
      rw [show ds ++ d :: _root_.Jvm.Pilot.CBlameCourtLaw_law_r8381_f30dd1.pz r = (ds ++ [d]) ++ _root_.Jvm.Pilot.CBlameCourtLaw_law_r8381_f30dd1.pz r by simp, List.drop_append_of_le_length (by simp), List.drop_of_length_le (by simp)]
      rfl
    rw [e1, e2, List.flatten_append]
    simp
/-- the code of a kind -/
def kco (d : List Int) : Int32 := (cz d).headD 0
theorem cz_fl {ds : List (List Int)} : (∀ e ∈ ds, ∀ r, cz (e ++ r) = kco e :: cz r) → ∀ r, cz (ds.flatten ++ r) = ds.map kco ++ cz r := by
  induction ds with
  | nil => exact fun _ _ => rfl
  | cons e ds ih =>
    intro h r
    rw [List.flatten_cons, List.append_assoc, h e (List.mem_cons_self ..), ih (fun x hx => h x (List.mem_cons_of_mem _ hx))]
    rfl
theorem WKd.cz {m : Nat} {d : List Int} (h : WKd m d) : ∀ r, cz (d ++ r) = kco d :: _root_.Jvm.Pilot.CBlameCourtLaw_law_r8381_f30dd1.cz r := by
  have key : ∀ (d : List Int) (v : Int32), (∀ r, _root_.Jvm.Pilot.CBlameCourtLaw_law_r8381_f30dd1.cz (d ++ r) = v :: _root_.Jvm.Pilot.CBlameCourtLaw_law_r8381_f30dd1.cz r) → ∀ r, _root_.Jvm.Pilot.CBlameCourtLaw_law_r8381_f30dd1.cz (d ++ r) = kco d :: _root_.Jvm.Pilot.CBlameCourtLaw_law_r8381_f30dd1.cz r := by
    intro d v g r
    have e : kco d = v := by
      have := g []
      rw [List.append_nil] at this
      unfold kco
      rw [this]
      rfl
    rw [e]
    exact g r
  refine WKd.ind (P := fun _ d => ∀ r, _root_.Jvm.Pilot.CBlameCourtLaw_law_r8381_f30dd1.cz (d ++ r) = kco d :: _root_.Jvm.Pilot.CBlameCourtLaw_law_r8381_f30dd1.cz r) (fun _ => key [1] (Int32.ofInt 1) (fun _ => rfl)) (fun _ => key [2] (Int32.ofInt 2) (fun _ => rfl)) (fun _ => key [3] (Int32.ofInt 3) (fun _ => rfl)) (fun m d _ g => key _ ((5 : Int32) * kco d + (4 : Int32)) (fun r => ?_)) (fun m ds d hl hs _ g => key _ ((ds.map kco ++ [kco d]).foldl (fun v x => (31 : Int32) * v + x) ((7 : Int32) + Int32.ofInt (ds.length : Int))) (fun r => ?_)) h
  · show _root_.Jvm.Pilot.CBlameCourtLaw_law_r8381_f30dd1.cz (4 :: (d ++ r)) = _
    rw [_root_.Jvm.Pilot.CBlameCourtLaw_law_r8381_f30dd1.cz, if_pos rfl, g]
  · show _root_.Jvm.Pilot.CBlameCourtLaw_law_r8381_f30dd1.cz ((5 + (ds.length : Int)) :: ((ds.flatten ++ d) ++ r)) = _
    rw [_root_.Jvm.Pilot.CBlameCourtLaw_law_r8381_f30dd1.cz, if_neg (by omega), if_pos (by omega), List.append_assoc, cz_fl (fun e he => (hs e he).2.2), g, len5]
    have e0 : (5 + (ds.length : Int)) - 5 = (ds.length : Int) := by omega
    have e1 : (ds.map kco ++ kco d :: _root_.Jvm.Pilot.CBlameCourtLaw_law_r8381_f30dd1.cz r).take (ds.length + 1) = ds.map kco ++ [kco d] := by
      rw [show ds.map kco ++ kco d :: _root_.Jvm.Pilot.CBlameCourtLaw_law_r8381_f30dd1.cz r = (ds.map kco ++ [kco d]) ++ _root_.Jvm.Pilot.CBlameCourtLaw_law_r8381_f30dd1.cz r by simp, List.take_append_of_le_length (by simp), List.take_of_length_le (by simp)]
    have e2 : (ds.map kco ++ kco d :: _root_.Jvm.Pilot.CBlameCourtLaw_law_r8381_f30dd1.cz r).drop (ds.length + 1) = _root_.Jvm.Pilot.CBlameCourtLaw_law_r8381_f30dd1.cz r := by
      rw [show ds.map kco ++ kco d :: _root_.Jvm.Pilot.CBlameCourtLaw_law_r8381_f30dd1.cz r = (ds.map kco ++ [kco d]) ++ _root_.Jvm.Pilot.CBlameCourtLaw_law_r8381_f30dd1.cz r by simp, List.drop_append_of_le_length (by simp), List.drop_of_length_le (by simp)]
      rfl
    rw [e1, e2, e0]
theorem kco1 : kco [1] = 1 := by decide
theorem kco2 : kco [2] = 2 := by decide
theorem kco3 : kco [3] = 3 := by decide
theorem kco_row {m : Nat} {d : List Int} (h : WKd m d) : kco (4 :: d) = (5 : Int32) * kco d + (4 : Int32) := by
  have := h.cz []
  rw [List.append_nil] at this
  show (_root_.Jvm.Pilot.CBlameCourtLaw_law_r8381_f30dd1.cz (4 :: d)).headD 0 = _
  rw [_root_.Jvm.Pilot.CBlameCourtLaw_law_r8381_f30dd1.cz, if_pos rfl, this]
  rfl
theorem kco_fn {m : Nat} {ds : List (List Int)} {d : List Int} (hs : ∀ e ∈ ds, ∃ m, WKd m e) (h : WKd m d) : kco ((5 + (ds.length : Int)) :: (ds.flatten ++ d)) = (ds.map kco ++ [kco d]).foldl (fun v x => (31 : Int32) * v + x) ((7 : Int32) + Int32.ofInt (ds.length : Int)) := by
  have g := h.cz []
  rw [List.append_nil] at g
  show (_root_.Jvm.Pilot.CBlameCourtLaw_law_r8381_f30dd1.cz ((5 + (ds.length : Int)) :: (ds.flatten ++ d))).headD 0 = _
  rw [_root_.Jvm.Pilot.CBlameCourtLaw_law_r8381_f30dd1.cz, if_neg (by omega), if_pos (by omega), cz_fl (fun e he => by obtain ⟨_, k⟩ := hs e he; exact k.cz), g, len5]
  have e0 : (5 + (ds.length : Int)) - 5 = (ds.length : Int) := by omega
  have e1 : (ds.map kco ++ kco d :: _root_.Jvm.Pilot.CBlameCourtLaw_law_r8381_f30dd1.cz []).take (ds.length + 1) = ds.map kco ++ [kco d] := List.take_of_length_le (by simp [_root_.Jvm.Pilot.CBlameCourtLaw_law_r8381_f30dd1.cz])
  rw [e1, e0]
  rfl
/-- its sort, how many params; a param; what it gives, what a row of it has -/
def sot (d : List Int) : Int := match d with | [] => 2 | a :: _ => if a = 1 then 0 else if a = 2 then 1 else if a = 3 then 2 else if a = 4 then 3 else 4
def tkn (d : List Int) : Nat := match d with | [] => 0 | a :: _ => (a - 5).toNat
def prm (d : List Int) (i : Nat) : List Int := (pz d.tail).getD i [3]
def gvs (d : List Int) : List Int := (pz d.tail).getD (tkn d) [3]
theorem pz1 {m : Nat} {d : List Int} (h : WKd m d) : pz d = [d] := by
  have := h.pz []
  rw [List.append_nil] at this
  exact this
theorem pz_fn {m : Nat} {ds : List (List Int)} {d : List Int} (hs : ∀ e ∈ ds, ∃ m, WKd m e) (h : WKd m d) : pz (ds.flatten ++ d) = ds ++ [d] := by
  rw [pz_fl (fun e he => by obtain ⟨_, k⟩ := hs e he; exact k.pz), pz1 h]
theorem gvs_row {m : Nat} {d : List Int} (h : WKd m d) : gvs (4 :: d) = d := by
  show (pz d).getD 0 [3] = d
  rw [pz1 h]
  rfl
theorem tkn_fn (ds : List (List Int)) (d : List Int) : tkn ((5 + (ds.length : Int)) :: (ds.flatten ++ d)) = ds.length := len5 _
theorem gvs_fn {m : Nat} {ds : List (List Int)} {d : List Int} (hs : ∀ e ∈ ds, ∃ m, WKd m e) (h : WKd m d) : gvs ((5 + (ds.length : Int)) :: (ds.flatten ++ d)) = d := by
  unfold gvs
  rw [tkn_fn]
  show (pz (ds.flatten ++ d)).getD ds.length [3] = d
  rw [pz_fn hs h, List.getD_eq_getElem?_getD, List.getElem?_concat_length]
  rfl
theorem prm_fn {m : Nat} {ds : List (List Int)} {d : List Int} (hs : ∀ e ∈ ds, ∃ m, WKd m e) (h : WKd m d) {i : Nat} (hi : i < ds.length) : prm ((5 + (ds.length : Int)) :: (ds.flatten ++ d)) i = ds.getD i [3] := by
  show (pz (ds.flatten ++ d)).getD i [3] = _
  rw [pz_fn hs h, List.getD_eq_getElem?_getD, List.getD_eq_getElem?_getD, List.getElem?_append_left hi]
theorem sot_fn (n : Nat) (x : List Int) : sot ((5 + (n : Int)) :: x) = 4 := by
  show (if 5 + (n : Int) = 1 then (0 : Int) else _) = 4
  rw [if_neg (by omega), if_neg (by omega), if_neg (by omega), if_neg (by omega)]
theorem WKd.hs {m : Nat} {ds : List (List Int)} (h : ∀ e ∈ ds, 1 ≤ m ∧ WKd (m - 1) e) : ∀ e ∈ ds, ∃ m, WKd m e := fun e he => ⟨_, (h e he).2⟩
/-- what a kind is made of is told by its sort, its params, what it gives -/
theorem WKd.ext {m m1 : Nat} {d d1 : List Int} (h : WKd m d) (h1 : WKd m1 d1) (hs : sot d = sot d1) (ht : tkn d = tkn d1) (hg : gvs d = gvs d1) (hp : ∀ i, i < tkn d → prm d i = prm d1 i) : d = d1 := by
  have s3 : ∀ x : List Int, sot (4 :: x) = 3 := fun _ => rfl
  rcases h.inv with rfl | rfl | rfl | ⟨x, rfl, hx⟩ | ⟨ds, x, rfl, hl, hd, hx⟩
  · rcases h1.inv with rfl | rfl | rfl | ⟨y, rfl, hy⟩ | ⟨es, y, rfl, _, he, hy⟩
    · rfl
    · exact absurd hs (by decide)
    · exact absurd hs (by decide)
    · rw [s3] at hs; exact absurd hs (by decide)
    · rw [sot_fn] at hs; exact absurd hs (by decide)
  · rcases h1.inv with rfl | rfl | rfl | ⟨y, rfl, hy⟩ | ⟨es, y, rfl, _, he, hy⟩
    · exact absurd hs (by decide)
    · rfl
    · exact absurd hs (by decide)
    · rw [s3] at hs; exact absurd hs (by decide)
    · rw [sot_fn] at hs; exact absurd hs (by decide)
  · rcases h1.inv with rfl | rfl | rfl | ⟨y, rfl, hy⟩ | ⟨es, y, rfl, _, he, hy⟩
    · exact absurd hs (by decide)
    · exact absurd hs (by decide)
    · rfl
    · rw [s3] at hs; exact absurd hs (by decide)
    · rw [sot_fn] at hs; exact absurd hs (by decide)
  · rcases h1.inv with rfl | rfl | rfl | ⟨y, rfl, hy⟩ | ⟨es, y, rfl, _, he, hy⟩
    · rw [s3] at hs; exact absurd hs (by decide)
    · rw [s3] at hs; exact absurd hs (by decide)
    · rw [s3] at hs; exact absurd hs (by decide)
    · rw [gvs_row hx, gvs_row hy] at hg
      rw [hg]
    · rw [s3, sot_fn] at hs; exact absurd hs (by decide)
  · rcases h1.inv with rfl | rfl | rfl | ⟨y, rfl, hy⟩ | ⟨es, y, rfl, _, he, hy⟩
    · rw [sot_fn] at hs; exact absurd hs (by decide)
    · rw [sot_fn] at hs; exact absurd hs (by decide)
    · rw [sot_fn] at hs; exact absurd hs (by decide)
    · rw [s3, sot_fn] at hs; exact absurd hs (by decide)
    · rw [tkn_fn, tkn_fn] at ht
      rw [gvs_fn (WKd.hs hd) hx, gvs_fn (WKd.hs he) hy] at hg
      have e : ds = es := by
        refine List.ext_getElem ht (fun i h2 h3 => ?_)
        have := hp i (by rw [tkn_fn]; exact h2)
        rw [prm_fn (WKd.hs hd) hx h2, prm_fn (WKd.hs he) hy h3, List.getD_eq_getElem?_getD, List.getD_eq_getElem?_getD, List.getElem?_eq_getElem h2, List.getElem?_eq_getElem h3] at this
        exact this
      rw [hg, e]
/-- ANY stands in it -/
theorem any_row (d : List Int) : (3 : Int) ∈ (4 :: d) ↔ (3 : Int) ∈ d := by
  rw [List.mem_cons]
  exact ⟨fun h => h.elim (fun e => absurd e (by decide)) (fun e => e), Or.inr⟩
theorem any_fn (ds : List (List Int)) (d : List Int) : (3 : Int) ∈ ((5 + (ds.length : Int)) :: (ds.flatten ++ d)) ↔ (∃ e ∈ ds, (3 : Int) ∈ e) ∨ (3 : Int) ∈ d := by
  rw [List.mem_cons, List.mem_append, List.mem_flatten]
  refine ⟨fun h => h.elim (fun e => absurd e (by omega)) (fun e => e), Or.inr⟩
