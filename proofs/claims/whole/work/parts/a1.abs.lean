/-! the world of the document, once more, with trees for values and lists for rows -/
abbrev Nm : Type := List Nat
/-- what a line doesn't touch: ints, rows, how many cells, names, procedures -/
abbrev KS : Type := (Nat → Int32) × (Nat → Nat → Int32) × Nat × Nat × Nat
abbrev Proc : Type := Nm × List Nm × Tr
abbrev Loc : Type := Nm × Option Tr
/-- what waits: kind (1 a word, 2 a procedure, 4 a paren), code, need, strength, what is there, names, body -/
abbrev Wt : Type := Nat × Nat × Nat × Nat × List Tr × List Nm × Tr
/-- a level: kind, list, next, turns, limit, other, mark, tag, what waits in it (the newest first), what a map has -/
abbrev Lv : Type := Nat × Tr × Nat × Nat × Nat × Tr × Nat × Tr × List Wt × List Tr
/-- procedures, global names, parts of the turtles, dots, the told one, signs of OUT (the latest first), seed -/
abbrev GS : Type := List Proc × List (Nm × Tr) × (Nat → Int32) × (Nat → Int32) × Nat × List Nat × Int32 × KS
/-- of the line: state, error, done, made, caught -/
abbrev LN : Type := Nat × Nat × Nat × Nat × Nat
/-- a call under way: its procedure, its own names -/
abbrev Fr : Type := Nat × List Loc
/-- phase: 0 wanting, 1 having, 2 finishing, 3 something is ready, 4 a turn is ready -/
abbrev Cfg : Type := GS × LN × List Fr × List Lv × Nat × Option Tr × Option Wt
abbrev Rs : Type := Except Nat (Option Tr)
def wK (w : Wt) : Nat := w.1
def wCode (w : Wt) : Nat := w.2.1
def wNeed (w : Wt) : Nat := w.2.2.1
def wStr (w : Wt) : Nat := w.2.2.2.1
def wVals (w : Wt) : List Tr := w.2.2.2.2.1
def wNames (w : Wt) : List Nm := w.2.2.2.2.2.1
def wBody (w : Wt) : Tr := w.2.2.2.2.2.2
def lK (l : Lv) : Nat := l.1
def lLst (l : Lv) : Tr := l.2.1
def lNx (l : Lv) : Nat := l.2.2.1
def lTurns (l : Lv) : Nat := l.2.2.2.1
def lLim (l : Lv) : Nat := l.2.2.2.2.1
def lOth (l : Lv) : Tr := l.2.2.2.2.2.1
def lMark (l : Lv) : Nat := l.2.2.2.2.2.2.1
def lTag (l : Lv) : Tr := l.2.2.2.2.2.2.2.1
def lWs (l : Lv) : List Wt := l.2.2.2.2.2.2.2.2.1
def lVals (l : Lv) : List Tr := l.2.2.2.2.2.2.2.2.2
def lSetNx (l : Lv) (k : Nat) : Lv := (l.1, l.2.1, k, l.2.2.2)
def lSetWs (l : Lv) (ws : List Wt) : Lv := (lK l, lLst l, lNx l, lTurns l, lLim l, lOth l, lMark l, lTag l, ws, lVals l)
def lNew (kind : Nat) (lst : Tr) (limit : Nat) (other : Tr) (mark : Nat) (tag : Tr) : Lv := (kind, lst, 0, 1, limit, other, mark, tag, [], [])
def gProcs (g : GS) : List Proc := g.1
def gGlob (g : GS) : List (Nm × Tr) := g.2.1
def gParts (g : GS) : Nat → Int32 := g.2.2.1
def gDots (g : GS) : Nat → Int32 := g.2.2.2.1
def gTold (g : GS) : Nat := g.2.2.2.2.1
def gOut (g : GS) : List Nat := g.2.2.2.2.2.1
def gSeed (g : GS) : Int32 := g.2.2.2.2.2.2.1
def gKept (g : GS) : KS := g.2.2.2.2.2.2.2
def gSetTold (g : GS) (t : Nat) : GS := (g.1, g.2.1, g.2.2.1, g.2.2.2.1, t, g.2.2.2.2.2)
def gSetParts (g : GS) (p : Nat → Int32) : GS := (g.1, g.2.1, p, g.2.2.2)
def gSetDots (g : GS) (d : Nat → Int32) : GS := (g.1, g.2.1, g.2.2.1, d, g.2.2.2.2)
def gSetProcs (g : GS) (p : List Proc) : GS := (p, g.2)
def gSetGlob (g : GS) (p : List (Nm × Tr)) : GS := (g.1, p, g.2.2)
def gSetOut (g : GS) (o : List Nat) : GS := (g.1, g.2.1, g.2.2.1, g.2.2.2.1, g.2.2.2.2.1, o, g.2.2.2.2.2.2)
def gSetSeed (g : GS) (s : Int32) : GS := (g.1, g.2.1, g.2.2.1, g.2.2.2.1, g.2.2.2.2.1, g.2.2.2.2.2.1, s, g.2.2.2.2.2.2.2)
def gSetKept (g : GS) (k : KS) : GS := (g.1, g.2.1, g.2.2.1, g.2.2.2.1, g.2.2.2.2.1, g.2.2.2.2.2.1, g.2.2.2.2.2.2.1, k)
def nState (n : LN) : Nat := n.1
def nErr (n : LN) : Nat := n.2.1
def nDone (n : LN) : Nat := n.2.2.1
def nMade (n : LN) : Nat := n.2.2.2.1
def nCaught (n : LN) : Nat := n.2.2.2.2
def nSetMade (n : LN) (m : Nat) : LN := (n.1, n.2.1, n.2.2.1, m, n.2.2.2.2)
def nSetCaught (n : LN) (e : Nat) : LN := (n.1, n.2.1, n.2.2.1, n.2.2.2.1, e)
def nSetDone (n : LN) (d : Nat) : LN := (n.1, n.2.1, d, n.2.2.2)
def nEnd (n : LN) (st e : Nat) : LN := (st, e, n.2.2)
/-- how many wait, in all levels -/
def lvWaits : List Lv → Nat
  | [] => 0
  | l :: L => (lWs l).length + lvWaits L
def lvCalls : List Lv → Nat
  | [] => 0
  | l :: L => (if lK l = 1 then 1 else 0) + lvCalls L
/-- the told one when these levels have been left, the newest first -/
def lvTold : List Lv → Nat → Nat
  | [], t => t
  | l :: L, t => lvTold L (if lK l = 7 then lMark l else t)
/-- the first k levels are left; then this is what the E has got -/
def aLeave (k : Nat) (g : GS) (n : LN) (F : List Fr) (L : List Lv) (got : Option Tr) : Cfg :=
  (gSetTold g (lvTold (L.take k) (gTold g)), n, F.drop (lvCalls (L.take k)), L.drop k, 1, got, none)
def aFinish (st e : Nat) (g : GS) (n : LN) (L : List Lv) : Cfg :=
  (gSetTold g (lvTold L (gTold g)), nEnd n st e, [], [], 1, none, none)
def lvAt (p : Lv → Bool) : List Lv → Option Nat
  | [] => none
  | l :: L => if p l then some 0 else (lvAt p L).map (· + 1)
def isErr (l : Lv) : Bool := lK l == 8 && tLet (lTag l) == wError
def isTag (w : List Nat) (l : Lv) : Bool := lK l == 8 && tLet (lTag l) == w
def isCall (l : Lv) : Bool := lK l == 1
def aFail (e : Nat) (g : GS) (n : LN) (F : List Fr) (L : List Lv) : Cfg :=
  match lvAt isErr L with
  | none => aFinish 3 e g n L
  | some k => aLeave (k + 1) g (nSetCaught n e) F L none
def aTake (g : GS) (n : LN) (F : List Fr) (L : List Lv) : Rs → Cfg
  | .ok v => (g, n, F, L, 1, v, none)
  | .error e => aFail e g n F L
def lGet : List Loc → Nm → Option (Option Tr)
  | [], _ => none
  | l :: ls, w => if l.1 = w then some l.2 else lGet ls w
def lSet : List Loc → Nm → Tr → List Loc
  | [], _, _ => []
  | l :: ls, w, v => if l.1 = w then (w, some v) :: ls else l :: lSet ls w v
def fGet : List Fr → Nm → Option (Option Tr)
  | [], _ => none
  | f :: F, w => match lGet f.2 w with
    | some v => some v
    | none => fGet F w
def fSet : List Fr → Nm → Tr → List Fr
  | [], _, _ => []
  | f :: F, w, v => match lGet f.2 w with
    | some _ => (f.1, lSet f.2 w v) :: F
    | none => f :: fSet F w v
def gGet : List (Nm × Tr) → Nm → Option Tr
  | [], _ => none
  | l :: ls, w => if l.1 = w then some l.2 else gGet ls w
def gSet : List (Nm × Tr) → Nm → Tr → List (Nm × Tr)
  | [], _, _ => []
  | l :: ls, w, v => if l.1 = w then (w, v) :: ls else l :: gSet ls w v
/-- the value of a name: none without one -/
def aFind (F : List Fr) (G : List (Nm × Tr)) (w : Nm) : Option Tr := match fGet F w with
  | some v => v
  | none => gGet G w
def pFind : List Proc → Nm → Option Nat
  | [], _ => none
  | p :: ps, w => if p.1 = w then some 0 else (pFind ps w).map (· + 1)
def pTell (ps : List Proc) (w : Nm) (ins : List Nm) (body : Tr) : List Proc := match pFind ps w with
  | some k => ps.set k (w, ins, body)
  | none => ps ++ [(w, ins, body)]
/-- what a word that begins with " is -/
def aQuote (l : List Nat) : Rs := if l.tail = [] then .error 3 else match aPar l.tail with
  | (0, _) => .ok (some (tW l.tail))
  | (1, k) => .ok (some (tN k))
  | _ => .error 9
/-- what has been met waits, or is ready -/
def aSettleLast (g : GS) (n : LN) (F : List Fr) (L : List Lv) (w : Wt) : Cfg :=
  if wNeed w = 0 then (g, n, F, L, 3, none, some w)
  else if 400 ≤ lvWaits L then aFail 6 g n F L
  else match L with
    | [] => (g, n, F, L, 0, none, none)
    | l :: R => (g, n, F, lSetWs l (w :: lWs l) :: R, 0, none, none)
def aMeetW (g : GS) (n : LN) (F : List Fr) (L : List Lv) (l : List Nat) : Cfg :=
  let m := aLex l
  if m = 86 then aTake g n F L (aQuote l)
  else if m = 87 then (if l.tail = [] then aFail 2 g n F L else match aFind F (gGlob g) l.tail with
    | none => aFail 2 g n F L
    | some v => aTake g n F L (.ok (some v)))
  else if m = 0 then (match pFind (gProcs g) l with
    | none => aFail 1 g n F L
    | some k => match (gProcs g)[k]? with
      | none => aFail 1 g n F L
      | some p => aSettleLast g n F L (2, k, p.2.1.length, 0, [], p.2.1, p.2.2))
  else if m ≤ 74 then aSettleLast g n F L (1, m, (aKind m).length, 0, [], [], .nil)
  else if m = 75 then aSettleLast g n F L (4, 75, 1, 0, [], [], .nil)
  else if m = 81 then aSettleLast g n F L (1, 25, 1, 4, [], [], .nil)
  else if m = 84 ∨ m = 85 then aFail 1 g n F L
  else aFail 4 g n F L
def aMeet (g : GS) (n : LN) (F : List Fr) (l : Lv) (R : List Lv) : Cfg :=
  match (tMem (lLst l))[lNx l]? with
  | none => if lWs l = [] then (g, n, F, l :: R, 2, none, none) else aFail 4 g n F (l :: R)
  | some m => if isW m then aMeetW g n F (lSetNx l (lNx l + 1) :: R) (tLet m) else (g, n, F, lSetNx l (lNx l + 1) :: R, 1, some m, none)
/-- which sign the next member is -/
def aSign (l : Lv) : Option Nat := match (tMem (lLst l))[lNx l]? with
  | none => none
  | some m => if isW m ∧ 77 ≤ aLex (tLet m) ∧ aLex (tLet m) ≤ 83 then some (aLex (tLet m) - 77) else none
def aStrength (s : Nat) : Nat := [1, 1, 1, 2, 2, 3, 3].getD s 0
def aSignWord (s : Nat) : Nat := [32, 26, 27, 20, 21, 22, 23].getD s 0
def wsStr (ws : List Wt) : Nat := match ws with
  | [] => 0
  | w :: _ => wStr w
def aMeetSign (g : GS) (n : LN) (F : List Fr) (l : Lv) (R : List Lv) (got : Option Tr) (s : Nat) : Cfg := match got with
  | none => aFail 4 g n F (l :: R)
  | some v => aSettleLast g n F (lSetNx l (lNx l + 1) :: R) (1, aSignWord s, 2, aStrength s, [v], [], .nil)
def aSettleWhole (g : GS) (n : LN) (F : List Fr) (l : Lv) (R : List Lv) (got : Option Tr) : Cfg := match got with
  | none => (g, n, F, l :: R, 0, none, none)
  | some v => if lK l < 6 ∨ lNx l < (tMem (lLst l)).length then aFail 5 g n F (l :: R) else (g, n, F, l :: R, 2, some v, none)
def aClose (g : GS) (n : LN) (F : List Fr) (l : Lv) (R : List Lv) (got : Option Tr) (ws : List Wt) : Cfg := match (tMem (lLst l))[lNx l]? with
  | none => aFail 4 g n F (l :: R)
  | some m => if isW m ∧ aLex (tLet m) = 76 then (g, n, F, lSetWs (lSetNx l (lNx l + 1)) ws :: R, 1, got, none) else aFail 4 g n F (l :: R)
def aSupply (g : GS) (n : LN) (F : List Fr) (l : Lv) (R : List Lv) (w : Wt) (ws : List Wt) (v : Tr) : Cfg :=
  let w' : Wt := (wK w, wCode w, wNeed w, wStr w, wVals w ++ [v], wNames w, wBody w)
  if wNeed w ≤ (wVals w).length + 1 then (g, n, F, lSetWs l ws :: R, 3, none, some w') else (g, n, F, lSetWs l (w' :: ws) :: R, 0, none, none)
def aInner (g : GS) (n : LN) (F : List Fr) (l : Lv) (R : List Lv) (got : Option Tr) : Cfg := match lWs l with
  | [] => aSettleWhole g n F l R got
  | w :: ws => if wK w = 4 then aClose g n F l R got ws else match got with
    | none => aFail 4 g n F (l :: R)
    | some v => aSupply g n F l R w ws v
def aSettle (g : GS) (n : LN) (F : List Fr) (l : Lv) (R : List Lv) (got : Option Tr) : Cfg := match aSign l with
  | some s => if wsStr (lWs l) < aStrength s then aMeetSign g n F l R got s else aInner g n F l R got
  | none => aInner g n F l R got
def aChange (l : Lv) (kind : Nat) : Lv := (kind, lOth l, 0, lTurns l, lLim l, lLst l, lMark l, lTag l, lWs l, lVals l)
def aTest (g : GS) (n : LN) (F : List Fr) (l : Lv) (R : List Lv) (got : Option Tr) : Cfg := match got with
  | none => aFail 4 g n F (l :: R)
  | some v => if isW v = false then aFail 3 g n F (l :: R)
    else if tLet v = wTrue then (g, n, F, aChange l 4 :: R, 0, none, none)
    else if tLet v = wFalse then aLeave 1 g n F (l :: R) none
    else aFail 3 g n F (l :: R)
def lSetMap (l : Lv) (lim : Nat) (vs : List Tr) : Lv := (lK l, lLst l, lNx l, lTurns l, lim, lOth l, lMark l, lTag l, lWs l, vs)
def aMapped (g : GS) (n : LN) (F : List Fr) (l : Lv) (R : List Lv) (got : Option Tr) : Cfg := match got with
  | none => aFail 4 g n F (l :: R)
  | some v => if 600 < lLim l + tSz v ∨ 30000 ≤ nMade n then aFail 8 g n F (l :: R)
    else if lTurns l < (tMem (lOth l)).length then (g, nSetMade n (nMade n + 1), F, lSetMap l (lLim l + tSz v) (lVals l ++ [v]) :: R, 4, none, none)
    else aLeave 1 g (nSetMade n (nMade n + 1)) F (l :: R) (some (tL (lVals l ++ [v])))
def aDone (g : GS) (n : LN) (F : List Fr) (l : Lv) (R : List Lv) (got : Option Tr) : Cfg :=
  if lK l = 0 then aFinish 2 0 g n (l :: R)
  else if lK l = 3 then (if lTurns l < lLim l then (g, n, F, l :: R, 4, none, none) else aLeave 1 g n F (l :: R) none)
  else if lK l = 5 then (if lTurns l < (tMem (lOth l)).length then (g, n, F, l :: R, 4, none, none) else aLeave 1 g n F (l :: R) none)
  else if lK l = 4 then (g, n, F, l :: R, 4, none, none)
  else if lK l = 9 then aTest g n F l R got
  else if lK l = 10 then aMapped g n F l R got
  else aLeave 1 g n F (l :: R) got
/-- a step that is no instruction -/
def aMicro (c : Cfg) : Cfg := match c with
  | (g, n, F, l :: R, ph, got, _) => if ph = 0 then aMeet g n F l R else if ph = 1 then aSettle g n F l R got else aDone g n F l R got
  | c => c
