/-! People, and what the calls do to them. -/
abbrev itm : Type := List Nat × Option Bool
/-- id, version, name, age, on, mail -/
abbrev prs : Type := Nat × Nat × List Nat × Option Int × Option Bool × List itm
def pnm (p : prs) : List Nat := p.2.2.1
def pag (p : prs) : Option Int := p.2.2.2.1
def pon (p : prs) : Option Bool := p.2.2.2.2.1
def pit (p : prs) : List itm := p.2.2.2.2.2
def sNm (p : prs) (x : List Nat) : prs := (p.1, p.2.1, x, p.2.2.2.1, p.2.2.2.2.1, p.2.2.2.2.2)
def sAg (p : prs) (x : Option Int) : prs := (p.1, p.2.1, p.2.2.1, x, p.2.2.2.2.1, p.2.2.2.2.2)
def sOn (p : prs) (x : Option Bool) : prs := (p.1, p.2.1, p.2.2.1, p.2.2.2.1, x, p.2.2.2.2.2)
def sIt (p : prs) (x : List itm) : prs := (p.1, p.2.1, p.2.2.1, p.2.2.2.1, p.2.2.2.2.1, x)
def sVr (p : prs) (x : Nat) : prs := (p.1, x, p.2.2.1, p.2.2.2.1, p.2.2.2.2.1, p.2.2.2.2.2)
def dvl (l : List Nat) : Nat := l.foldl (fun v c => 10 * v + (c - 48)) 0
/-- text, number and truth of a token -/
def tx (ts : List tk) (t : Nat) : List Nat := (tA ts t).2
def tv (ts : List tk) (t : Nat) : Int := if (tx ts t).head? = some 45 then - (dvl (tx ts t).tail : Int) else (dvl (tx ts t) : Int)
def tb (ts : List tk) (t : Nat) : Bool := tW ts t w_true
def ftx (ts : List tk) (t : Nat) : Bool := decide (sc ts t = 2 ∧ 1 ≤ (tx ts t).length ∧ (tx ts t).length ≤ 12)
/-- what an item's object says -/
def iS (ts : List tk) : List Nat → Option (List Nat) × Option Bool → Option (Option (List Nat) × Option Bool)
  | [], a => some a
  | m :: l, a => if nmf ts m = w_v then (if ftx ts (m + 2) = true then iS ts l (some (tx ts (m + 2)), a.2) else none)
    else if nmf ts m = w_p then (if sc ts (m + 2) = 3 then iS ts l (a.1, some (tb ts (m + 2))) else none) else none
def iO (ts : List tk) (t : Nat) : Option (Option (List Nat) × Option Bool) := if tI ts t 123 = true then iS ts (kd ts t) (none, none) else none
def iW (ts : List tk) (t : Nat) : Option itm := (iO ts t).bind fun q => q.1.map fun v => (v, q.2)
def iL (ts : List tk) : List Nat → Option (List itm)
  | [] => some []
  | e :: l => (iW ts e).bind fun x => (iL ts l).map fun r => x :: r
def iA (ts : List tk) (t : Nat) : Option (List itm) := if tI ts t 91 = true then iL ts (kd ts t) else none
/-- a whole item or a row of them -/
def iB (ts : List tk) (t : Nat) : Option (List itm) := if tI ts t 91 = true then iL ts (kd ts t) else (iW ts t).map fun x => [x]
def iG (l : List itm) (k : Nat) : itm := l.getD k ([], none)
def twn (l : List itm) : Bool := (List.range l.length).any fun a => (List.range a).any fun b => (iG l a).1 == (iG l b).1
def trs (l : List itm) : Nat := (l.filter fun x => x.2 == some true).length
/-- what an object says of a person -/
def fS (ts : List tk) : List Nat → prs → Option prs
  | [], p => some p
  | m :: l, p =>
    if nmf ts m = w_id ∨ nmf ts m = w_version then fS ts l p
    else if nmf ts m = w_name then (if ftx ts (m + 2) = true then fS ts l (sNm p (tx ts (m + 2))) else none)
    else if nmf ts m = w_age then (if sc ts (m + 2) = 1 then fS ts l (sAg p (some (tv ts (m + 2)))) else none)
    else if nmf ts m = w_on then (if sc ts (m + 2) = 3 then fS ts l (sOn p (some (tb ts (m + 2)))) else none)
    else if nmf ts m = w_mail then (iA ts (m + 2)).bind fun x => if x.length ≤ 4 ∧ twn x = false ∧ trs x < 2 then fS ts l (sIt p x) else none
    else none
def fP (ts : List tk) (t id ver : Nat) : Option prs := (fS ts (kd ts t) (id, ver, [], none, none, [])).bind fun p => if pnm p = [] then none else some p
/-- the name is another's -/
def tkn (ps : List prs) (p : prs) : Bool := ps.any fun x => decide (x.1 ≠ p.1) && ((pnm x).map sml == (pnm p).map sml)
/-- the buffer's tokens are an object -/
def oB (ts : List tk) : Bool := tI ts 0 123 && (pV ts 3 0 == some ts.length)
/-- the people, the last id, the page -/
abbrev sto : Type := List prs × Nat × List Nat
def pOf (ps : List prs) (id : Int) : Option prs := ps.find? fun x => (x.1 : Int) == id
def pSet (ps : List prs) (p : prs) : List prs := ps.map fun x => if x.1 = p.1 then p else x
def s_create (ts : List tk) (good : Bool) (s : sto) : Int × sto :=
  if (good && oB ts) = false then (-400, s) else match fP ts 0 (s.2.1 + 1) 1 with
    | none => (-401, s)
    | some p => if tkn s.1 p = true then (-409, s) else if 8 ≤ s.1.length then (-413, s) else ((s.2.1 + 1 : Nat), (s.1 ++ [p], s.2.1 + 1, s.2.2))
/-- a changed person takes its place -/
def s_set (s : sto) (old p : prs) : Int × sto :=
  if tkn s.1 p = true then (-409, s) else if pnm p = pnm old ∧ pag p = pag old ∧ pon p = pon old ∧ pit p = pit old then (old.2.1, s) else ((old.2.1 + 1 : Nat), (pSet s.1 (sVr p (old.2.1 + 1)), s.2))
def s_chk (s : sto) (id ver : Int) : Int × Option prs := match pOf s.1 id with
  | none => (-404, none)
  | some p => if ver ≠ 0 ∧ ver ≠ (p.2.1 : Int) then (-412, none) else (0, some p)
def s_replace (ts : List tk) (good : Bool) (s : sto) (id ver : Int) : Int × sto := match s_chk s id ver with
  | (e, none) => (e, s)
  | (_, some old) => if (good && oB ts) = false then (-400, s) else match fP ts 0 old.1 old.2.1 with
    | none => (-401, s)
    | some p => s_set s old p
def s_remove (s : sto) (id ver : Int) : Int × sto := match s_chk s id ver with
  | (e, none) => (e, s)
  | (_, some old) => (0, (s.1.filter fun x => decide (x.1 ≠ old.1), s.2))
/-- comparisons -/
def cmpL : List Nat → List Nat → Int
  | [], [] => 0
  | [], _ :: _ => -1
  | _ :: _, [] => 1
  | a :: x, b :: y => if a < b then -1 else if b < a then 1 else cmpL x y
def cmpI (x y : Int) : Int := if x < y then -1 else if y < x then 1 else 0
def askO (op : List Nat) (d : Int) : Bool := decide ((op = w_eq ∧ d = 0) ∨ (op = w_gt ∧ 0 < d) ∨ (op = w_ge ∧ 0 ≤ d) ∨ (op = w_lt ∧ d < 0) ∨ (op = w_le ∧ d ≤ 0))
/-- b stands in a at this place -/
def atP (a b : List Nat) (k : Nat) : Bool := (a.drop k).take b.length == b
def hasT (op a b : List Nat) : Bool := (List.range (a.length + 1 - b.length)).any fun k => (op == w_co || (op == w_sw && k == 0) || (op == w_ew && k + b.length == a.length)) && atP a b k
def hT (op a b : List Nat) : Bool := if op = w_pr then true else if op = w_co ∨ op = w_sw ∨ op = w_ew then hasT op a b else askO op (cmpL a b)
def hN (op : List Nat) (x y : Int) : Bool := if op = w_pr then true else askO op (cmpI x y)
def hB (op : List Nat) (x y : Bool) : Bool := if op = w_pr then true else x == y
def hA (ts : List tk) (p : prs) (i : Option Nat) (way : Nat) (op : List Nat) (t : Nat) : Bool :=
  if way = 1 then hN op p.1 (tv ts t) else if way = 2 then hN op p.2.1 (tv ts t)
  else if way = 3 then hT op ((pnm p).map sml) ((tx ts t).map sml)
  else if way = 4 then (match pag p with | none => false | some v => hN op v (tv ts t))
  else if way = 5 then (match pon p with | none => false | some v => hB op v (tb ts t))
  else (List.range (pit p).length).any fun j => (i == none || i == some j) && (if way = 6 then hT op (iG (pit p) j).1 (tx ts t) else match (iG (pit p) j).2 with | none => false | some v => hB op v (tb ts t))
def hd (ts : List tk) (p : prs) (i : Option Nat) (q : stp) : Bool := if q.2.2.1 = w_ne then !hA ts p i q.2.1 w_eq q.2.2.2 else hA ts p i q.2.1 q.2.2.1 q.2.2.2
def itn (p : prs) : Nat := (pit p).length
abbrev cdP : Type := cdT prs
def cF (ts : List tk) (n : Nat) (w : Bool) (k : Nat) : Option (cdP × Nat) := cO (hd ts) itn ts n w k
/-- sorting -/
def srV (p : prs) (k : Nat) : Option (List Nat × Int) :=
  if k = 0 then some ([], p.1) else if k = 1 then some ((pnm p).map sml, 0) else if k = 2 then (pag p).map fun v => ([], v)
  else if k = 3 then (pon p).map fun v => ([], if v = true then 1 else 0)
  else match pit p with | [] => none | x :: _ => match (pit p).find? (fun y => y.2 == some true) with | some y => some (y.1, 0) | none => some (x.1, 0)
def srC (x y : List Nat × Int) : Int := if cmpL x.1 y.1 ≠ 0 then cmpL x.1 y.1 else cmpI x.2 y.2
def srO (a b : prs) (k : Nat) : Int := match srV a k, srV b k with
  | none, none => 0
  | none, some _ => 1
  | some _, none => -1
  | some x, some y => srC x y
/-- a comes before b -/
def bef (k : Nat) (dn : Bool) (a b : prs) : Bool := if srO a b k = 0 then decide (a.1 < b.1) else (decide (srO a b k < 0) != dn)
/-- from behind: as long as it comes before -/
def insR (lt : prs → prs → Bool) (x : prs) : List prs → List prs
  | [] => [x]
  | y :: l => if lt x y = true then y :: insR lt x l else x :: y :: l
def srt (k : Nat) (dn : Bool) (ps : List prs) : List prs := (ps.foldl (fun acc x => insR (bef k dn) x acc) []).reverse
def s_query (ts : List tk) (good : Bool) (s : sto) (sort : Int) (dn : Bool) (start count : Int) : Int × sto :=
  if good = false then (-400, s) else
  match (if ts = [] then some (fun _ _ => true) else (cF ts 6 false 0).bind fun q => if q.2 = ts.length then some q.1.2 else none : Option (prs → Option Nat → Bool)) with
  | none => (-400, s)
  | some g => if sort < 0 ∨ 4 < sort then (-401, s) else
    let r := srt sort.toNat dn (s.1.filter fun p => g p none)
    ((r.length : Nat), (s.1, s.2.1, ((r.drop (start - 1).toNat).take count.toNat).map fun p => p.1))
/-- an operation: sign, target, filter, value -/
abbrev opr : Type := Nat × Nat × cdP × Nat
def nof : cdP := ([], fun _ _ => true)
def rTg (ts : List tk) (c k : Nat) : Option ((Nat × cdP) × Nat) :=
  if tI ts k 58 = true ∧ c ≠ 45 then some ((0, nof), k)
  else if tW ts k w_mail = false then (if pAt ts false k = 0 then none else some ((pAt ts false k, nof), k + 1))
  else (if tI ts (k + 1) 91 = true then (cF ts 5 true (k + 2)).bind fun q => if tI ts q.2 93 = true then some ((9, q.1), q.2 + 1) else none else some ((6, nof), k + 1) : Option ((Nat × cdP) × Nat)).bind fun b =>
    if tI ts b.2 46 = false then some b else if tW ts (b.2 + 1) w_v = true then some ((b.1.1 + 1, b.1.2), b.2 + 2) else if tW ts (b.2 + 1) w_p = true then some ((b.1.1 + 2, b.1.2), b.2 + 2) else none
def rOp (ts : List tk) (k : Nat) : Option (opr × Nat) :=
  if tI ts k 43 = false ∧ tI ts k 45 = false ∧ tI ts k 61 = false then none else
  (rTg ts (tA ts k).1 (k + 1)).bind fun b => if (tA ts k).1 = 45 then some (((tA ts k).1, b.1.1, b.1.2, 0), b.2)
    else if tI ts b.2 58 = false then none else (pV ts 3 (b.2 + 1)).map fun e => (((tA ts k).1, b.1.1, b.1.2, b.2 + 1), e)
def rOps (ts : List tk) : Nat → Nat → Option (List opr)
  | 0, _ => none
  | f + 1, k => (rOp ts k).bind fun q => if q.2 = ts.length then some [q.1] else if tI ts q.2 10 = true then (rOps ts f (q.2 + 1)).map fun l => q.1 :: l else none
/-- items with a mark: the operation gave it p true -/
abbrev itf : Type := itm × Bool
def mrk (l : List itm) : List itf := l.map fun x => (x, false)
def tr1 (o : Option Bool) : Bool := o == some true
/-- gives what is said -/
def gai (x : itf) (v : Option (List Nat)) (p : Option Bool) : itf := ((v.getD x.1.1, if p = none then x.1.2 else p), if p = none then x.2 else tr1 p)
def mgs (x : itm) : List itf → Option (List itf)
  | [] => none
  | y :: l => if y.1.1 = x.1 then some (gai y none x.2 :: l) else (mgs x l).map fun r => y :: r
def mg (l : List itf) (x : itm) : Option (List itf) := match mgs x l with
  | some r => some r
  | none => if 4 ≤ l.length then none else some (l ++ [(x, tr1 x.2)])
def mgA : List itf → List itm → Option (List itf)
  | l, [] => some l
  | l, x :: r => (mg l x).bind fun l' => mgA l' r
def kpA (x : itf) : itm := if tr1 x.1.2 = true then (x.1.1, some false) else x.1
/-- the foremost of the marked keeps p true alone -/
def kp1 : List itf → Option (List itm)
  | [] => none
  | x :: l => if x.2 = true then some (x.1 :: l.map kpA) else (kp1 l).map fun r => kpA x :: r
def kp (l : List itf) : List itm := (kp1 l).getD (l.map fun x => x.1)
def fin (p : prs) (l : List itf) : Int × prs := if twn (kp l) = true then (-401, p) else (0, sIt p (kp l))
def aPl (ts : List tk) (c way v : Nat) (p : prs) : Int × prs :=
  if way < 3 ∨ (way = 3 ∧ c = 45) then (-402, p)
  else if c = 45 then (0, if way = 4 then sAg p none else sOn p none)
  else if way = 3 then (if ftx ts v = true then (0, sNm p (tx ts v)) else (-401, p))
  else if way = 4 then (if sc ts v = 1 then (0, sAg p (some (tv ts v))) else (-401, p))
  else if sc ts v = 3 then (0, sOn p (some (tb ts v))) else (-401, p)
def aMl (ts : List tk) (c v : Nat) (p : prs) : Int × prs :=
  if c = 45 then (0, sIt p []) else match iB ts v with
    | none => (-401, p)
    | some x => match mgA (mrk (if c = 61 then [] else pit p)) x with
      | none => (-413, p)
      | some l => fin p l
/-- the chosen ones -/
def chs (g : prs → Option Nat → Bool) (p : prs) : List Bool := (List.range (pit p).length).map fun j => g p (some j)
def chM (f : itm → itf) (l : List itm) (b : List Bool) : List itf := List.zipWith (fun x c => if c = true then f x else (x, false)) l b
def aCh (ts : List tk) (c part v : Nat) (g : prs → Option Nat → Bool) (p : prs) : Int × prs :=
  if c = 45 ∧ part = 1 then (-402, p)
  else if c = 45 ∧ part = 0 then (0, sIt p (((pit p).zip (chs g p)).filterMap fun x => if x.2 = true then none else some x.1))
  else if c ≠ 45 ∧ (chs g p).all (fun b => !b) = true then (-403, p)
  else if part = 1 then (if ftx ts v = true then fin p (chM (fun x => ((tx ts v, x.2), false)) (pit p) (chs g p)) else (-401, p))
  else if part = 2 then (if c = 45 then fin p (chM (fun x => ((x.1, none), false)) (pit p) (chs g p)) else if sc ts v = 3 then fin p (chM (fun x => ((x.1, some (tb ts v)), tb ts v)) (pit p) (chs g p)) else (-401, p))
  else match iO ts v with
    | none => (-401, p)
    | some q => if c = 61 then (match q.1 with | none => (-401, p) | some t => fin p (chM (fun _ => ((t, q.2), tr1 q.2)) (pit p) (chs g p))) else fin p (chM (fun x => gai (x, false) q.1 q.2) (pit p) (chs g p))
def aTg (ts : List tk) (c way : Nat) (g : prs → Option Nat → Bool) (v : Nat) (p : prs) : Int × prs :=
  if way < 6 then aPl ts c way v p else if way = 6 then aMl ts c v p else if way < 9 then aCh ts c (way - 6) v (fun _ _ => true) p else aCh ts c (way - 9) v g p
def wyN (w : List Nat) : Nat := if w = w_name then 3 else if w = w_age then 4 else if w = w_on then 5 else if w = w_mail then 6 else 0
def aAl (ts : List tk) (c : Nat) : List Nat → prs → Int × prs
  | [], p => (0, p)
  | m :: l, p => if nmf ts m = w_id ∨ nmf ts m = w_version then aAl ts c l p else if wyN (nmf ts m) = 0 then (-401, p)
    else match aTg ts c (wyN (nmf ts m)) (fun _ _ => true) (m + 2) p with
      | (e, p') => if e = 0 then aAl ts c l p' else (e, p)
def aOp (ts : List tk) (o : opr) (p : prs) : Int × prs :=
  if o.2.1 = 0 then (if tI ts o.2.2.2 123 = true then aAl ts o.1 (kd ts o.2.2.2) p else (-401, p)) else aTg ts o.1 o.2.1 o.2.2.1.2 o.2.2.2 p
def aOps (ts : List tk) : List opr → prs → Int × prs
  | [], p => (0, p)
  | o :: l, p => match aOp ts o p with
    | (e, p') => if e = 0 then aOps ts l p' else (e, p)
def s_patch (ts : List tk) (good : Bool) (s : sto) (id ver : Int) : Int × sto := match s_chk s id ver with
  | (e, none) => (e, s)
  | (_, some old) => match (if good = true then rOps ts 120 0 else none) with
    | none => (-400, s)
    | some l => match aOps ts l old with
      | (e, p) => if e = 0 then s_set s old p else (e, s)
/-- how a person is written -/
def dgs : Nat → Nat → List Nat
  | 0, n => [48 + n % 10]
  | f + 1, n => if n < 10 then [48 + n] else dgs f (n / 10) ++ [48 + n % 10]
def wI (v : Int) : List Nat := if v < 0 then 45 :: dgs 10 (-v).toNat else dgs 10 v.toNat
def wT (l : List Nat) : List Nat := [34] ++ l.flatMap (fun c => if c = 34 ∨ c = 92 then [92, c] else [c]) ++ [34]
def wB (b : Bool) : List Nat := if b = true then w_true else w_false
def wN (w : List Nat) : List Nat := [34] ++ w ++ [34, 58]
def wIt (x : itm) : List Nat := [123] ++ wN w_v ++ wT x.1 ++ (match x.2 with | none => [] | some b => [44] ++ wN w_p ++ wB b) ++ [125]
def wIs : List itm → List Nat
  | [] => []
  | [x] => wIt x
  | x :: y :: l => wIt x ++ [44] ++ wIs (y :: l)
def wP (p : prs) : List Nat := [123] ++ wN w_id ++ wI p.1 ++ [44] ++ wN w_version ++ wI p.2.1 ++ [44] ++ wN w_name ++ wT (pnm p)
  ++ (match pag p with | none => [] | some v => [44] ++ wN w_age ++ wI v) ++ (match pon p with | none => [] | some b => [44] ++ wN w_on ++ wB b)
  ++ (if pit p = [] then [] else [44] ++ wN w_mail ++ [91] ++ wIs (pit p) ++ [93]) ++ [125]
def s_page (s : sto) (k : Int) : Int := if 0 ≤ k ∧ k < (s.2.2.length : Int) then ((s.2.2.getD k.toNat 0 : Nat) : Int) else -404
def s_version (s : sto) (id : Int) : Int := match pOf s.1 id with | none => -404 | some p => (p.2.1 : Int)
def s_length (s : sto) (id : Int) : Int := match pOf s.1 id with | none => -404 | some p => ((wP p).length : Int)
def s_letter (s : sto) (id k : Int) : Int := match pOf s.1 id with | none => 0 | some p => if k < 0 then 0 else (((wP p).getD k.toNat 0 : Nat) : Int)
