/-! what a text says: its code, or none where it has a fault -/
abbrev Ins : Type := Int × Int × Int × List Int
abbrev Wt : Type := Int × Int × Nat
abbrev Out : Type := Nat × List Ins
abbrev EF : Type := Int → List Nm → Nat → List Ins → Option Out
abbrev PFn : Type := Int → Int → Int → List Nm → Nat → List Ins → Option Out
def plc (c : List Ins) (i : Nat) : Int := (c.getD i (0, 0, 0, [])).2.2.1
def addx (c : List Ins) (i : Nat) (d : Int) : List Ins := c.modify i (fun a => (a.1, a.2.1 + d, a.2.2))
def setx (c : List Ins) (i : Nat) (v : Int) : List Ins := c.modify i (fun a => (a.1, v, a.2.2))
def lvl (s : Int) : Int := if s = 60 ∨ s = 61 then 1 else if s = 43 ∨ s = 45 then 2 else if s = 42 ∨ s = 47 ∨ s = 37 then 3 else 0
def opc (s : Int) : Int := if s = 42 then 24 else if s = 43 then 22 else if s = 45 then 23 else if s = 47 then 25 else if s = 60 then 20 else if s = 61 then 21 else 26
def bgE (t : Int) : Bool := decide (t = 33 ∨ t = 40 ∨ t = 45 ∨ t = 91 ∨ t = 123 ∨ t = 258 ∨ t = 259 ∨ t = 262 ∨ t = 264 ∨ t = 267 ∨ t = 268 ∨ t = 269 ∨ t = 270 ∨ t = 271)
def bgK (t : Int) : Bool := decide (t = 91 ∨ (272 ≤ t ∧ t ≤ 275))
/-- the innermost one of that name: where it stands; -1: none -/
def slot : List Nm → Nm → Int
  | [], _ => -1
  | x :: xs, l => if x = l then xs.length else slot xs l
section SPEC
variable (ch : Tx)
def sWant (t : Int) (q : Nat) : Option Nat := if ty ch q = t then some (nx ch q) else none
def sEnter (t : Int) (o : Int) (q : Nat) : Option Nat := if ty ch q = t then (if o < 40 then some (nx ch q) else none) else none
def sKL (sk : Nat → Option (Nat × List Int)) : Nat → Nat → Option (Nat × List (List Int))
  | 0, _ => none
  | j + 1, q => (sk q).bind fun r => if ty ch r.1 = 44 then (sKL sk j (nx ch r.1)).bind fun s => some (s.1, r.2 :: s.2) else some (r.1, [r.2])
def sK : Nat → Int → Nat → Option (Nat × List Int)
  | 0, _, _ => none
  | m + 1, o, q =>
    if ty ch q = 275 then
      (sEnter ch 275 o q).bind fun q1 =>
      (sEnter ch 40 (o + 1) q1).bind fun q2 =>
      (if ty ch q2 = 41 then some (q2, []) else sKL ch (sK m (o + 2)) 4 q2).bind fun s =>
      (sWant ch 41 s.1).bind fun q3 =>
      (sK m (o + 1) q3).bind fun g =>
      some (g.1, (5 + (s.2.length : Int)) :: (s.2.flatten ++ g.2))
    else if ty ch q = 91 then
      (sEnter ch 91 o q).bind fun q1 =>
      (sK m (o + 1) q1).bind fun r =>
      (sWant ch 93 r.1).bind fun q2 => some (q2, 4 :: r.2)
    else if 272 ≤ ty ch q ∧ ty ch q ≤ 274 then some (nx ch q, [ty ch q - 271]) else none
/-- a kind, if a colon stands there -/
def sColon (o : Int) (q : Nat) : Option (Nat × Option (List Int)) := if ty ch q = 58 then (sK ch 64 o (nx ch q)).bind fun r => some (r.1, some r.2) else some (q, none)
/-- the signs that wait, the last one first, are worked off down to a level -/
def sPop (lv : Int) : List Wt → Nat → List Ins → List Wt × Nat × List Ins
  | [], f, c => ([], f, c)
  | w :: ws, f, c => if lvl w.1 < lv then (w :: ws, f, c) else sPop lv ws w.2.2 (addx ((c ++ [(27, 0, plc c f, [])]) ++ [(opc w.1, 0, w.2.1, [])]) w.2.2 1)
def sC1 (U : Nat → List Ins → Option Out) : Nat → Int → Int → Bool → Nat → List Wt → Nat → List Ins → Option Out
  | 0, _, _, _, f, ws, q, c => some (q, (sPop 1 ws f c).2.2)
  | k + 1, sums, prods, cmp, f, ws, q, c =>
    if lvl (ty ch q) = 0 ∨ (lvl (ty ch q) = 1 ∧ cmp = true) then some (q, (sPop 1 ws f c).2.2) else
    if 40 < (if lvl (ty ch q) = 2 then sums + 1 else if lvl (ty ch q) = 1 then 0 else sums) ∨ 40 < (if lvl (ty ch q) = 3 then prods + 1 else 0) then none else
    (U (nx ch q) ((sPop (lvl (ty ch q)) ws f c).2.2 ++ [(27, 0, plc (sPop (lvl (ty ch q)) ws f c).2.2 (sPop (lvl (ty ch q)) ws f c).2.1, [])])).bind fun r =>
    sC1 U k (if lvl (ty ch q) = 2 then sums + 1 else if lvl (ty ch q) = 1 then 0 else sums) (if lvl (ty ch q) = 3 then prods + 1 else 0) (cmp || decide (lvl (ty ch q) = 1)) ((sPop (lvl (ty ch q)) ws f c).2.2.length + 1) ((ty ch q, (pl ch q : Int), (sPop (lvl (ty ch q)) ws f c).2.1) :: (sPop (lvl (ty ch q)) ws f c).1) r.1 r.2
section REC
variable (P : PFn) (E : EF)
def sList1 (o : Int) (sc : List Nm) (cl ask : Int) : Nat → Nat → Nat → List Ins → Option (Nat × Out)
  | 0, i, q, c => (sWant ch cl q).bind fun q1 => some (i, q1, c)
  | k + 1, i, q, c =>
    if i = 0 ∧ ty ch q = cl then (sWant ch cl q).bind fun q1 => some (i, q1, c) else
    if k = 0 ∧ bgE (ty ch q) = true then none else
    (E (o + 1) sc q c).bind fun r =>
    if ty ch r.1 = 44 then sList1 o sc cl ask k (i + 1) (nx ch r.1) (r.2 ++ [(ask, (i : Int), plc r.2 c.length, [])])
    else (sWant ch cl r.1).bind fun q1 => some (i + 1, q1, r.2 ++ [(ask, (i : Int), plc r.2 c.length, [])])
def sList (o : Int) (sc : List Nm) (cl : Int) (most : Nat) (ask : Int) (q : Nat) (c : List Ins) : Option (Nat × Out) :=
  (sEnter ch (ty ch q) o q).bind fun q1 => sList1 ch E o sc cl ask (most + 1) 0 q1 c
def sCall (o : Int) (sc : List Nm) (ask : Int) (q : Nat) (c : List Ins) : Option Out :=
  (sList ch E o sc 41 4 32 q (c ++ [(ask, 0, (pl ch q : Int), [])])).bind fun r =>
  some (r.2.1, setx r.2.2 c.length r.1 ++ [(16, (r.1 : Int), (pl ch q : Int), [])])
def sPlace (o : Int) (sc : List Nm) (q : Nat) (c : List Ins) : Option (Bool × Out) :=
  (sEnter ch 91 o q).bind fun q1 =>
  (E (o + 1) sc q1 (c ++ [(29, 0, (pl ch q : Int), [])])).bind fun r =>
  (sWant ch 93 r.1).bind fun q2 =>
  if ty ch q2 = 256 then
    (sEnter ch 256 o q2).bind fun q3 =>
    (E (o + 1) sc q3 (r.2 ++ [(27, 0, plc r.2 (c.length + 1), [])])).bind fun s =>
    some (true, s.1, (s.2 ++ [(33, 0, plc s.2 (r.2.length + 1), [])]) ++ [(15, 0, (pl ch q : Int), [])])
  else some (false, q2, (r.2 ++ [(27, 0, plc r.2 (c.length + 1), [])]) ++ [(14, 0, (pl ch q : Int), [])])
def sBlock1 (o : Int) (sc : List Nm) : Nat → Nat → List Ins → Option Out
  | 0, q, c => (sWant ch 125 q).bind fun q1 => some (q1, c)
  | k + 1, q, c => if ty ch q = 59 then (E (o + 1) sc (nx ch q) (c ++ [(9, 0, (pl ch q : Int), [])])).bind fun r => sBlock1 o sc k r.1 r.2 else (sWant ch 125 q).bind fun q1 => some (q1, c)
def sBlock (o : Int) (sc : List Nm) (q : Nat) (c : List Ins) : Option Out :=
  (sEnter ch 123 o q).bind fun q1 => (E (o + 1) sc q1 c).bind fun r => sBlock1 ch E o sc 3000 r.1 r.2
def sName (sc : List Nm) (q : Nat) (c : List Ins) : Out :=
  (nx ch q, c ++ [(if slot sc (nm ch q) = -1 then 4 else 3, slot sc (nm ch q), (pl ch q : Int), [])])
def sDigits (q : Nat) (c : List Ins) : Option Out := if num ch q < 2147483648 then some (nx ch q, c ++ [(1, num ch q, (pl ch q : Int), [])]) else none
def sNew (o : Int) (sc : List Nm) (q : Nat) (c : List Ins) : Option Out :=
  (sEnter ch 40 o (nx ch q)).bind fun q1 =>
  (E (o + 1) sc q1 c).bind fun r =>
  (sWant ch 44 r.1).bind fun q2 =>
  (E (o + 1) sc q2 (r.2 ++ [(27, 0, plc r.2 c.length, [])])).bind fun s =>
  (sWant ch 41 s.1).bind fun q3 =>
  some (q3, s.2 ++ [(11, 0, (pl ch q : Int), [])])
def sWork (o : Int) (sc : List Nm) (ask work : Int) (q : Nat) (c : List Ins) : Option Out :=
  (sEnter ch 40 o (nx ch q)).bind fun q1 =>
  (E (o + 1) sc q1 c).bind fun r =>
  (sWant ch 41 r.1).bind fun q2 =>
  some (q2, (r.2 ++ [(ask, 0, plc r.2 c.length, [])]) ++ [(work, 0, (pl ch q : Int), [])])
def sB (o : Int) (sc : List Nm) (q : Nat) (c : List Ins) : Option Out :=
  if ty ch q = 40 then
    (sEnter ch 40 o q).bind fun q1 =>
    (E (o + 1) sc q1 (c ++ [(0, 1, (pl ch q : Int), [])])).bind fun r =>
    (sWant ch 41 r.1).bind fun q2 => some (q2, r.2)
  else if ty ch q = 91 then
    (sList ch E o sc 93 20 36 q (c ++ [(0, 1, (pl ch q : Int), [])])).bind fun r =>
    some (r.2.1, r.2.2 ++ [(10, (r.1 : Int), plc r.2.2 c.length, [])])
  else if ty ch q = 123 then sBlock ch E o sc q (c ++ [(0, 1, (pl ch q : Int), [])])
  else if ty ch q = 258 then some (sName ch sc q (c ++ [(0, 1, (pl ch q : Int), [])]))
  else if ty ch q = 259 then sDigits ch q (c ++ [(0, 1, (pl ch q : Int), [])])
  else if ty ch q = 267 then some (nx ch q, (c ++ [(0, 1, (pl ch q : Int), [])]) ++ [(2, 1, (pl ch q : Int), [])])
  else if ty ch q = 268 then some (nx ch q, (c ++ [(0, 1, (pl ch q : Int), [])]) ++ [(2, 0, (pl ch q : Int), [])])
  else if ty ch q = 269 then sNew ch E o sc q (c ++ [(0, 1, (pl ch q : Int), [])])
  else if ty ch q = 270 then sWork ch E o sc 29 12 q (c ++ [(0, 1, (pl ch q : Int), [])])
  else if ty ch q = 271 then sWork ch E o sc 27 13 q (c ++ [(0, 1, (pl ch q : Int), [])])
  else none
def sU1 (o : Int) (sc : List Nm) (named : Bool) (f : Nat) : Nat → Bool → Nat → List Ins → Option Out
  | 0, _, q, c => some (q, c)
  | k + 1, stored, q, c =>
    if stored = false ∧ (ty ch q = 40 ∨ ty ch q = 91) then
      if k = 0 then none
      else if ty ch q = 40 then (sCall ch E o sc (if named = true ∧ k = 40 then 31 else 30) q (addx c f 1)).bind fun r => sU1 o sc named f k false r.1 r.2
      else (sPlace ch E o sc q (addx c f 1)).bind fun r => sU1 o sc named f k r.1 r.2.1 r.2.2
    else some (q, c)
def sU (o : Int) (sc : List Nm) (q : Nat) (c : List Ins) : Option Out :=
  if ty ch q = 45 then P 27 18 o sc q c
  else if ty ch q = 33 then P 28 19 o sc q c
  else (sB ch E o sc q c).bind fun r => sU1 ch E o sc (decide (ty ch q = 258 ∧ slot sc (nm ch q) = -1)) c.length 41 false r.1 r.2
def sC (o : Int) (sc : List Nm) (q : Nat) (c : List Ins) : Option Out :=
  (sU ch P E o sc q c).bind fun r => sC1 ch (sU ch P E o sc) 3000 0 0 false c.length [] r.1 r.2
def sIf (o : Int) (sc : List Nm) (q : Nat) (c : List Ins) : Option Out :=
  (sEnter ch 264 o q).bind fun q1 =>
  (E (o + 1) sc q1 (c ++ [(0, 1, (pl ch q : Int), [])])).bind fun r =>
  (sWant ch 265 r.1).bind fun q2 =>
  (E (o + 1) sc q2 ((r.2 ++ [(28, 0, plc r.2 (c.length + 1), [])]) ++ [(6, 0, plc (r.2 ++ [(28, 0, plc r.2 (c.length + 1), [])]) (c.length + 1), [])])).bind fun s =>
  (sWant ch 266 s.1).bind fun q3 =>
  (E (o + 1) sc q3 (setx ((s.2 ++ [(36, 0, plc s.2 (r.2.length + 2), [])]) ++ [(7, 0, plc (s.2 ++ [(36, 0, plc s.2 (r.2.length + 2), [])]) (r.2.length + 2), [])]) (r.2.length + 1) ((s.2.length : Int) + 2))).bind fun t =>
  some (t.1, setx ((t.2 ++ [(36, 0, plc t.2 (s.2.length + 2), [])]) ++ [(8, 0, plc (t.2 ++ [(36, 0, plc t.2 (s.2.length + 2), [])]) c.length, [])]) (s.2.length + 1) ((t.2.length : Int) + 1))
def sLet (o : Int) (sc : List Nm) (q : Nat) (c : List Ins) : Option Out :=
  (sEnter ch 262 o q).bind fun q1 =>
  (sWant ch 258 q1).bind fun q2 =>
  (sColon ch (o + 1) q2).bind fun kq =>
  (sWant ch 61 kq.1).bind fun q3 =>
  (E (o + 1) sc q3 (c ++ [(0, 1, (pl ch q : Int), [])])).bind fun r =>
  (sWant ch 263 r.1).bind fun q4 =>
  E (o + 1) (nm ch q1 :: sc) q4 ((match kq.2 with | none => r.2 | some kd => r.2 ++ [(34, 0, plc r.2 (c.length + 1), kd)]) ++ [((5, (sc.length : Int), plc (match kq.2 with | none => r.2 | some kd => r.2 ++ [(34, 0, plc r.2 (c.length + 1), kd)]) (c.length + 1), []) : Ins)])
def sPre (ask work : Int) (o : Int) (sc : List Nm) (q : Nat) (c : List Ins) : Option Out :=
  (sEnter ch (ty ch q) o q).bind fun q1 =>
  (sU ch P E (o + 1) sc q1 (c ++ [(0, 1, (pl ch q : Int), [])])).bind fun r =>
  some (r.1, (r.2 ++ [(ask, 0, plc r.2 (c.length + 1), [])]) ++ [(work, 0, plc (r.2 ++ [(ask, 0, plc r.2 (c.length + 1), [])]) c.length, [])])
def sE1 (o : Int) (sc : List Nm) (q : Nat) (c : List Ins) : Option Out :=
  if ty ch q = 262 then sLet ch E o sc q c else if ty ch q = 264 then sIf ch E o sc q c else sC ch P E o sc q c
end REC
def sEP : Nat → PFn × EF
  | 0 => (fun _ _ _ _ _ _ => none, fun _ _ _ _ => none)
  | m + 1 => (sPre ch (sEP m).1 (sEP m).2, sE1 ch (sEP m).1 (sEP m).2)
def sE : EF := (sEP ch 64).2
/-- a part: where it stands, where its name stands, its name, its params (the last one first), what it gives, where its code begins -/
abbrev Pt : Type := Nat × Nat × Nm × List (Nm × List Int) × List Int × Nat
def sPar1 : Nat → List (Nm × List Int) → Nat → Option (Nat × List (Nm × List Int))
  | 0, ps, q => (sWant ch 41 q).bind fun q1 => some (q1, ps)
  | k + 1, ps, q =>
    if k = 4 ∧ ty ch q = 41 then (sWant ch 41 q).bind fun q1 => some (q1, ps) else
    if ty ch q = 258 ∧ (¬ slot (ps.map Prod.fst) (nm ch q) = -1 ∨ k = 0) then none else
    (sWant ch 258 q).bind fun q1 =>
    (sColon ch 1 q1).bind fun kq =>
    if ty ch kq.1 = 44 then sPar1 k ((nm ch q, kq.2.getD [3]) :: ps) (nx ch kq.1) else (sWant ch 41 kq.1).bind fun q2 => some (q2, (nm ch q, kq.2.getD [3]) :: ps)
def sHead (q : Nat) : Option (Nat × List (Nm × List Int)) := (sEnter ch 40 0 q).bind fun q3 => sPar1 ch 5 [] q3
def sOwn (q : Nat) : Option (Nat × List Int) := (sColon ch 0 q).bind fun kq => (sWant ch 61 kq.1).bind fun q5 => some (q5, kq.2.getD [3])
def sEnd (k : Nat) (q : Nat) (c : List Ins) (i : Nat) : Option Out := (sWant ch 59 q).bind fun q6 => some (q6, (c ++ [(35, (k : Int), plc c i, [])]) ++ [(17, 0, plc (c ++ [(35, (k : Int), plc c i, [])]) i, [])])
def sPart (k : Nat) (q : Nat) (c : List Ins) : Option (Pt × Out) :=
  (sWant ch 258 (nx ch q)).bind fun q2 =>
  (sHead ch q2).bind fun pr =>
  (sOwn ch pr.1).bind fun ow =>
  (sE ch 0 (pr.2.map Prod.fst) ow.1 c).bind fun r =>
  (sEnd ch k r.1 r.2 c.length).bind fun s =>
  some ((pl ch q, pl ch (nx ch q), nm ch (nx ch q), pr.2, ow.2, c.length), s)
/-- the parts, in their order -/
def sParts : Nat → List Pt → Nat → List Ins → Option (List Pt × List Ins)
  | 0, _, _, _ => none
  | k + 1, ps, q, c =>
    if ty ch q = 261 then
      if ps.length < 40 then (sPart ch ps.length q c).bind fun r => sParts k (ps ++ [r.1]) r.2.1 r.2.2 else none
    else if ty ch q = 257 then some (ps, c) else none
def nmsOf (ps : List Pt) : List Nm := ps.map (fun p => p.2.2.1)
def pof : List Nm → Nm → Nat → Option Nat
  | [], _, _ => none
  | x :: xs, l, k => if x = l then some k else pof xs l (k + 1)
/-- which part has that name, the first one -/
def partOf (ns : List Nm) (l : Nm) : Option Nat := pof ns l 0
/-- all names are told once and known, and there is a main without params -/
def sNames (ps : List Pt) (c : List Ins) : Prop :=
  (∀ k, k < ps.length → partOf (nmsOf ps) ((nmsOf ps).getD k []) = some k) ∧
  (∀ a ∈ c, a.1 = 4 → ¬ partOf (nmsOf ps) (nm ch a.2.2.1.toNat) = none) ∧
  ∃ k, partOf (nmsOf ps) MAINr = some k ∧ (ps.getD k (0, 0, [], [], [], 0)).2.2.2.1 = []
end SPEC
