/-! what the words do -/
/-- floor(q * r), r being the root of 3 -/
def fl3 (q : Int) : Int :=
  let s : Int := if q < 0 then -q else q
  let r : Int := s * 1732050807 / 1000000000
  let r2 : Int := if (r + 1) * (r + 1) ≤ 3 * s * s then r + 1 else r
  if q < 0 then -r2 - 1 else r2
def flH (p q : Int) : Int := (p + fl3 q) / 2
def aSide (p q v : Int) : Int :=
  if q = 0 then (if 0 < 2 * v - p then -1 else if 2 * v - p = 0 then 0 else 1) else if fl3 q < 2 * v - p then -1 else 1
def aSteps (d k : Nat) : Int := [0, 0, 2, 0, 1, 0, 0, 1, 0, 1, 1, 0, 2, 0, 0, 0, 0, 1, -1, 0, 1, 0, 0, -1].getD (4 * d + k) 0
def aSlope (d : Nat) : Int := [0, 1, 1, 0, -1, -1].getD d 0
def aDots (col : Int32) (f : Int → Int) (byc : Bool) : Nat → Int → (Nat → Int32) → (Nat → Int32)
  | 0, _, d => d
  | k + 1, i, d => aDots col f byc k (i + 1) (if -32 ≤ f i ∧ f i < 32 then upd d (if byc then ((f i + 32) * 64 + i + 32).toNat else ((i + 32) * 64 + f i + 32).toNat) col else d)
def aAcross (s low high : Nat → Int) (ld fo : Nat) (slope i : Int) : Int :=
  if 0 < aSide (low ld) (low (ld + 1)) i then flH (low fo + 1) (low (fo + 1))
  else if aSide (high ld) (high (ld + 1)) i < 0 then flH (high fo + 1) (high (fo + 1))
  else (3 * (s fo - slope * s (ld + 1)) + 3 + fl3 (3 * s (fo + 1) + slope * (2 * i - s ld))) / 6
def aDraw (s e : Nat → Int) (dir : Nat) (col : Int32) (d : Nat → Int32) : Nat → Int32 :=
  let byc : Bool := decide (2 ≤ dir ∧ dir ≤ 4)
  let ld : Nat := if byc then 0 else 2
  let fo : Nat := 2 - ld
  let up : Bool := decide (s ld + s (ld + 1) < e ld + e (ld + 1))
  let low : Nat → Int := if up then s else e
  let high : Nat → Int := if up then e else s
  let a : Int := max (flH (low ld + 1) (low (ld + 1))) (-32)
  let b : Int := min (flH (high ld + 1) (high (ld + 1))) 31
  aDots col (aAcross s low high ld fo (aSlope dir)) byc (b + 1 - a).toNat a d
def pI (g : GS) (t k : Nat) : Int := (gParts g (7 * t + k)).toInt
def setP (g : GS) (k : Nat) (v : Int) : GS := gSetParts g (upd (gParts g) (7 * gTold g + k) (Int32.ofInt v))
def set4 (g : GS) (f : Nat → Int) : GS := setP (setP (setP (setP g 0 (f 0)) 1 (f 1)) 2 (f 2)) 3 (f 3)
def aFar (v : Int) : Bool := decide (v < -1000000 ∨ 1000000 < v)
def aFwd (g : GS) (n : Int) : Except Nat GS :=
  if n < -1000 ∨ 1000 < n then .error 3 else
  let h : Nat := (pI g (gTold g) 4).toNat
  let times : Int := if h < 6 then n else -n
  let s : Nat → Int := fun k => pI g (gTold g) k
  let e : Nat → Int := fun k => s k + times * aSteps (h % 6) k
  if aFar (e 0) || aFar (e 1) || aFar (e 2) || aFar (e 3) then .error 7 else
  .ok (set4 (if pI g (gTold g) 6 = 1 then gSetDots g (aDraw s e (h % 6) (gParts g (7 * gTold g + 5)) (gDots g)) else g) e)
def aTurn (g : GS) (b x : Int) : Except Nat GS := if x.tmod 30 ≠ 0 then .error 3 else .ok (setP g 4 ((b + x.tdiv 30) % 12))
def aBelow (g : GS) : Int :=
  let i := flH (pI g (gTold g) 0 + 1) (pI g (gTold g) 1)
  let j := flH (pI g (gTold g) 2 + 1) (pI g (gTold g) 3)
  if -32 ≤ i ∧ i < 32 ∧ -32 ≤ j ∧ j < 32 then (gDots g ((j + 32) * 64 + i + 32).toNat).toInt else 0
def rG (g : GS) : Except Nat GS → Except Nat (GS × Option Tr)
  | .ok g' => .ok (g', none)
  | .error e => .error e
def aTurtle (code : Nat) (x y : Int) (g : GS) : Except Nat (GS × Option Tr) :=
  let t := gTold g
  if code = 1 then rG g (aFwd g x)
  else if code = 2 then rG g (aFwd g (-x))
  else if code = 3 then rG g (aTurn g (pI g t 4) x)
  else if code = 4 then rG g (aTurn g (pI g t 4) (-x))
  else if code = 5 then rG g (aTurn g 0 x)
  else if code = 6 then .ok (setP g 6 0, none)
  else if code = 7 then .ok (setP g 6 1, none)
  else if code = 8 then (if x < 0 ∨ 7 < x then .error 3 else .ok (setP g 5 x, none))
  else if code = 9 then .ok (set4 (setP g 4 0) (fun _ => 0), none)
  else if code = 10 then (if x < -30000 ∨ 30000 < x ∨ y < -30000 ∨ 30000 < y then .error 3 else .ok (set4 g (fun k => if k = 0 then 2 * x else if k = 2 then 2 * y else 0), none))
  else if code = 11 then .ok (gSetDots g (fun _ => 0), none)
  else if code = 12 then (if x < 0 ∨ 7 < x then .error 3 else .ok (gSetTold g x.toNat, none))
  else if code = 13 then .ok (g, some (tN (30 * pI g t 4)))
  else if code = 14 then .ok (g, some (tN (flH (pI g t 0) (pI g t 1))))
  else if code = 15 then .ok (g, some (tN (flH (pI g t 2) (pI g t 3))))
  else if code = 16 then .ok (g, some (tN (pI g t 5)))
  else if code = 17 then .ok (g, some (tN t))
  else if code = 18 then .ok (g, some (tN (aBelow g)))
  else if x < 0 ∨ 7 < x ∨ y < 0 ∨ 7 < y then .error 3
  else .ok (g, some (aTruth (decide (pI g x.toNat 0 = pI g y.toNat 0 ∧ pI g x.toNat 1 = pI g y.toNat 1 ∧ pI g x.toNat 2 = pI g y.toNat 2 ∧ pI g x.toNat 3 = pI g y.toNat 3))))
def aRnd1 (s : Int32) : Int32 := s ^^^ (s <<< 13)
def aRnd2 (s : Int32) : Int32 := s ^^^ (s.toUInt32 >>> 17).toInt32
def aRnd3 (s : Int32) : Int32 := s ^^^ (s <<< 5)
def aRnd (s : Int32) : Int32 := aRnd3 (aRnd2 (aRnd1 s))
def inB (v : Int) : Except Nat Tr := if v < -1000000000 ∨ 1000000000 < v then .error 9 else .ok (tN v)
def aNumber (code : Nat) (x y : Int) (v u : Tr) (g : GS) : Except Nat (GS × Option Tr) :=
  let ret (r : Except Nat Tr) : Except Nat (GS × Option Tr) := match r with
    | .ok t => .ok (g, some t)
    | .error e => .error e
  if code = 20 then ret (inB (x + y))
  else if code = 21 then ret (inB (x - y))
  else if code = 22 then ret (inB (x * y))
  else if code = 23 then (if y = 0 then .error 10 else ret (inB (x.tdiv y)))
  else if code = 24 then (if y = 0 then .error 10 else ret (inB (x.tmod y)))
  else if code = 25 then ret (inB (-x))
  else if code = 26 then ret (.ok (aTruth (decide (x < y))))
  else if code = 27 then ret (.ok (aTruth (decide (y < x))))
  else if code = 28 then (if x < 1 then .error 3 else .ok (gSetSeed g (aRnd (gSeed g)), some (tN ((aRnd (gSeed g) &&& 2147483647).toInt % x))))
  else if code = 29 then ret (.ok (aTruth (tLet v == wTrue && tLet u == wTrue)))
  else if code = 30 then ret (.ok (aTruth (tLet v == wTrue || tLet u == wTrue)))
  else ret (.ok (aTruth (!(tLet v == wTrue))))
noncomputable def dec (p : Prop) : Bool := @decide p (Classical.propDecidable p)
/-- a list that is made -/
def aList (made : Nat) (ms : List Tr) : Except Nat (Nat × Tr) := if 600 < tSz (tL ms) ∨ 30000 < made + ms.length + 1 then .error 8 else .ok (made + ms.length + 1, tL ms)
def aJoin (made : Nat) (v u : Tr) : Except Nat (Nat × Tr) :=
  let l := aSh v 0 ++ aSh u 0
  match aPar l with
  | (1, k) => if 30000 < made + (aNumS k).length then .error 8 else .ok (made + (aNumS k).length, tN k)
  | (0, _) => if 30 < l.length ∨ 30000 < made + l.length then .error 8 else .ok (made + l.length, tW l)
  | _ => .error 9
def aItem (k : Int) (l : Tr) : Except Nat Tr := if 1 ≤ k then (match (tMem l)[k.toNat - 1]? with
  | some v => .ok v
  | none => .error 3) else .error 3
def aSen (v : Tr) : List Tr := if isL v then tMem v else [v]
noncomputable def aValue (code : Nat) (v u : Tr) (made : Nat) : Except Nat (Nat × Tr) :=
  let ret (r : Except Nat Tr) : Except Nat (Nat × Tr) := match r with
    | .ok t => .ok (made, t)
    | .error e => .error e
  if code = 32 then .ok (made, aTruth (dec (v = u)))
  else if code = 33 then .ok (made, aTruth (isL v))
  else if code = 34 then .ok (made, aTruth (isW v))
  else if code = 35 then .ok (made, aTruth (isN v))
  else if code = 36 then .ok (made, tN (if isL v then ((tMem v).length : Int) else 1))
  else if code = 37 then .ok (made, aTruth (tMem v).isEmpty)
  else if code = 38 then ret (aItem 1 v)
  else if code = 39 then ret (aItem (tMem v).length v)
  else if code = 40 then (if tMem v = [] then .error 3 else aList made (tMem v).tail)
  else if code = 41 then (if tMem v = [] then .error 3 else aList made (tMem v).dropLast)
  else if code = 42 then ret (aItem (tNum v) u)
  else if code = 43 then aList made (v :: tMem u)
  else if code = 44 then aList made (tMem u ++ [v])
  else if code = 45 then aList made (aSen v ++ aSen u)
  else if code = 46 then aList made [v, u]
  else if code = 47 then .ok (made, aTruth (dec (v ∈ tMem u)))
  else if code = 48 then aList made (tMem v).reverse
  else aJoin made v u
/-- names that can be inputs -/
def aInputs (l : List Tr) : Option (List Nm) := if l.length ≤ 5 ∧ (∀ v ∈ l, isW v = true) ∧ (l.map tLet).Nodup then some (l.map tLet) else none
def aDefine (w : Nm) (l : Tr) (ps : List Proc) : Except Nat (List Proc) := match tMem l with
  | [i, b] => if aLex w = 0 ∧ isL i = true ∧ isL b = true ∧ tSz b ≤ 600 then (match aInputs (tMem i) with
    | none => .error 3
    | some ns => if pFind ps w = none ∧ 40 ≤ ps.length then .error 8 else .ok (pTell ps w ns b)) else .error 3
  | _ => .error 3
def aPrint (v : Tr) (bare ends : Bool) (g : GS) : GS := gSetOut g ((aShow v bare ++ (if ends then [10] else [])).reverse ++ gOut g)
def aMake (w : Nm) (v : Tr) (g : GS) (F : List Fr) : Except Nat (GS × List Fr) := match fGet F w with
  | some _ => .ok (g, fSet F w v)
  | none => if 300 < tSz v then .error 8 else match gGet (gGlob g) w with
    | some _ => .ok (gSetGlob g (gSet (gGlob g) w v), F)
    | none => if 64 ≤ (gGlob g).length then .error 8 else .ok (gSetGlob g (gGlob g ++ [(w, v)]), F)
def aLocal (w : Nm) (F : List Fr) : Except Nat (List Fr) := match F with
  | [] => .error 12
  | f :: R => match lGet f.2 w with
    | some _ => .ok F
    | none => if 12 ≤ f.2.length then .error 8 else .ok ((f.1, f.2 ++ [(w, none)]) :: R)
/-- levels are opened -/
def aOpen (g : GS) (n : LN) (F : List Fr) (L : List Lv) (l : Lv) : Cfg := if 150 ≤ L.length then aFail 6 g n F L else (g, n, F, l :: L, 0, none, none)
/-- the newest level of these kinds in the newest call -/
def lvNewest (a b : Nat) : List Lv → Option Lv
  | [] => none
  | l :: L => if lK l = 1 then none else if lK l = a ∨ lK l = b then some l else lvNewest a b L
def aStop (g : GS) (n : LN) (F : List Fr) (L : List Lv) : Cfg := match lvAt isCall L with
  | none => aFinish 2 0 g n L
  | some k => aLeave (k + 1) g n F L none
def aOutput (v : Tr) (g : GS) (n : LN) (F : List Fr) (L : List Lv) : Cfg := match lvAt isCall L with
  | none => aFail 12 g n F L
  | some k => aLeave (k + 1) g n F L (some v)
def aThrow (w : List Nat) (g : GS) (n : LN) (F : List Fr) (L : List Lv) : Cfg := match lvAt (isTag w) L with
  | none => aFail 11 g n F L
  | some k => aLeave (k + 1) g n F L none
def retG (g : GS) (n : LN) (F : List Fr) (L : List Lv) : Except Nat (GS × Option Tr) → Cfg
  | .ok (g', v) => (g', n, F, L, 1, v, none)
  | .error e => aFail e g n F L
def retM (g : GS) (n : LN) (F : List Fr) (L : List Lv) : Except Nat (Nat × Tr) → Cfg
  | .ok (m, v) => (g, nSetMade n m, F, L, 1, some v, none)
  | .error e => aFail e g n F L
def aOther (code : Nat) (v u : Tr) (g : GS) (n : LN) (F : List Fr) (L : List Lv) : Cfg :=
  if code = 50 then (match aMake (tLet v) u g F with
    | .ok (g', F') => (g', n, F', L, 1, none, none)
    | .error e => aFail e g n F L)
  else if code = 51 then (match aLocal (tLet v) F with
    | .ok F' => (g, n, F', L, 1, none, none)
    | .error e => aFail e g n F L)
  else if code = 52 then (match aFind F (gGlob g) (tLet v) with
    | none => aFail 2 g n F L
    | some x => (g, n, F, L, 1, some x, none))
  else if code = 53 then (g, n, F, L, 1, some (aTruth (aFind F (gGlob g) (tLet v)).isSome), none)
  else if code = 54 then (match aDefine (tLet v) u (gProcs g) with
    | .ok ps => (gSetProcs g ps, n, F, L, 1, none, none)
    | .error e => aFail e g n F L)
  else if code = 55 then (g, n, F, L, 1, some (tN (match pFind (gProcs g) (tLet v) with
    | none => -1
    | some k => match (gProcs g)[k]? with
      | none => -1
      | some p => (p.2.1.length : Int))), none)
  else if code = 56 then (match pFind (gProcs g) (tLet v) with
    | none => aFail 1 g n F L
    | some k => match (gProcs g)[k]? with
      | none => aFail 1 g n F L
      | some p => (g, n, F, L, 1, some p.2.2, none))
  else if code = 57 then (aPrint v true true g, n, F, L, 1, none, none)
  else if code = 58 then (aPrint v false true g, n, F, L, 1, none, none)
  else (aPrint v true false g, n, F, L, 1, none, none)
def aRunning (code : Nat) (v u z : Tr) (g : GS) (n : LN) (F : List Fr) (L : List Lv) : Cfg :=
  if code = 60 then aOpen g n F L (lNew 6 v 1 .nil 0 .nil)
  else if code = 61 then (if tLet v = wTrue then aOpen g n F L (lNew 2 u 1 .nil 0 .nil) else (g, n, F, L, 1, none, none))
  else if code = 62 then aOpen g n F L (lNew 6 (if tLet v = wTrue then u else z) 1 .nil 0 .nil)
  else if code = 63 then (if tNum v ≤ 0 then (g, n, F, L, 1, none, none) else aOpen g n F L (lNew 3 u (tNum v).toNat .nil 0 .nil))
  else if code = 64 then (g, n, F, L, 1, some (tN (match lvNewest 3 3 L with
    | none => 0
    | some l => (lTurns l : Int))), none)
  else if code = 65 then aOpen g n F L (lNew 9 v 1 u 0 .nil)
  else if code = 66 then (if tMem v = [] then (g, n, F, L, 1, none, none) else aOpen g n F L (lNew 5 u 1 v 0 .nil))
  else if code = 67 then (match lvNewest 5 10 L with
    | none => aFail 1 g n F L
    | some l => match (tMem (lOth l))[lTurns l - 1]? with
      | none => aFail 1 g n F L
      | some x => (g, n, F, L, 1, some x, none))
  else if code = 68 then (if 30000 ≤ nMade n then aFail 8 g n F L
    else if tMem v = [] then (g, nSetMade n (nMade n + 1), F, L, 1, some (tL []), none)
    else if 150 ≤ L.length then aFail 6 g n F L
    else (g, nSetMade n (nMade n + 1), F, lNew 10 u 1 v 0 .nil :: L, 0, none, none))
  else if code = 69 then (if tNum v < 0 ∨ 7 < tNum v then aFail 3 g n F L
    else if 150 ≤ L.length then aFail 6 g n F L
    else (gSetTold g (tNum v).toNat, n, F, lNew 7 u 1 .nil (gTold g) .nil :: L, 0, none, none))
  else if code = 70 then aStop g n F L
  else if code = 71 then aOutput v g n F L
  else if code = 72 then aOpen g n F L (lNew 8 u 1 .nil 0 v)
  else if code = 73 then aThrow (tLet v) g n F L
  else (g, nSetCaught n 0, F, L, 1, some (tN (nCaught n)), none)
def aFit1 (k : Nat) (v : Tr) : Bool :=
  if k = 110 then isN v else if k = 108 then isL v else if k = 119 then isW v else if k = 116 then !isL v
  else if k = 98 then isW v && (tLet v == wTrue || tLet v == wFalse) else true
def aFits : List Nat → List Tr → Bool
  | [], _ => true
  | _ :: _, [] => false
  | k :: ks, v :: vs => aFit1 k v && aFits ks vs
noncomputable def aDo (code : Nat) (vs : List Tr) (g : GS) (n : LN) (F : List Fr) (L : List Lv) : Cfg :=
  let v := vs.getD 0 .nil
  let u := vs.getD 1 .nil
  let z := vs.getD 2 .nil
  if aFits (aKind code) vs = false then aFail 3 g n F L
  else if code ≤ 19 then retG g n F L (aTurtle code (tNum v) (tNum u) g)
  else if code ≤ 31 then retG g n F L (aNumber code (tNum v) (tNum u) v u g)
  else if code ≤ 49 then retM g n F L (aValue code v u (nMade n))
  else if code ≤ 59 then aOther code v u g n F L
  else aRunning code v u z g n F L
def aCall (w : Wt) (g : GS) (n : LN) (F : List Fr) (L : List Lv) : Cfg :=
  if 150 ≤ L.length then aFail 6 g n F L
  else (g, n, (wCode w, (wNames w).zip ((wVals w).map some)) :: F, lNew 1 (wBody w) 1 .nil (wCode w) .nil :: L, 0, none, none)
def aTurnOn (l : Lv) : Lv := if lK l = 4 then aChange l 9 else (lK l, lLst l, 0, lTurns l + 1, lLim l, lOth l, lMark l, lTag l, lWs l, lVals l)
/-- what is ready is applied: an instruction -/
noncomputable def aApply (c : Cfg) : Cfg := match c with
  | (g, n, F, L, ph, _, rd) =>
    let n' := nSetDone n (nDone n + 1)
    if ph = 4 then (match L with
      | [] => (g, n', F, L, 0, none, none)
      | l :: R => (g, n', F, aTurnOn l :: R, 0, none, none))
    else match rd with
      | none => (g, n', F, L, 0, none, none)
      | some w => if wK w = 2 then aCall w g n' F L else aDo (wCode w) (wVals w) g n' F L
def cPh (c : Cfg) : Nat := c.2.2.2.2.1
def cSt (c : Cfg) : Nat := nState c.2.1
def cDone (c : Cfg) : Nat := nDone c.2.1
/-- a step, of a line that has b instructions to go to -/
noncomputable def aStep (b : Nat) (c : Cfg) : Cfg :=
  if cSt c ≠ 1 then c
  else if cPh c < 3 then aMicro c
  else if 20000 ≤ cDone c then aFinish 3 13 c.1 c.2.1 c.2.2.2.1
  else if b ≤ cDone c then c
  else aApply c
noncomputable def aIt (b : Nat) : Nat → Cfg → Cfg
  | 0, c => c
  | k + 1, c => aIt b k (aStep b c)
/-- a line begins -/
def aBegin (g : GS) (line : Tr) : Cfg := (g, (1, 0, 0, 0, 0), [], [lNew 0 line 1 .nil 0 .nil], 0, none, none)
theorem aIt_add (b : Nat) (j k : Nat) (c : Cfg) : aIt b (j + k) c = aIt b k (aIt b j c) := by
  induction j generalizing c with
  | zero => rw [Nat.zero_add]; rfl
  | succ j ih => rw [Nat.succ_add]; exact ih _
/-- it stands: it has ended, or what comes next is beyond b -/
def aStands (b : Nat) (c : Cfg) : Prop := cSt c ≠ 1 ∨ (3 ≤ cPh c ∧ cDone c < 20000 ∧ b ≤ cDone c)
theorem aStep_stands {b : Nat} {c : Cfg} (h : aStands b c) : aStep b c = c := by
  unfold aStep
  rcases h with h | ⟨h1, h2, h3⟩
  · rw [if_pos h]
  · rcases Classical.em (cSt c ≠ 1) with h | h
    · rw [if_pos h]
    · rw [if_neg h, if_neg (by omega), if_neg (by omega), if_pos h3]
theorem aIt_stands {b k : Nat} {c : Cfg} (h : aStands b c) : aIt b k c = c := by
  induction k with
  | zero => rfl
  | succ k ih => show aIt b k (aStep b c) = c; rw [aStep_stands h, ih]
/-- where it stands is one place -/
theorem aIt_unique {b j k : Nat} {c : Cfg} (hj : aStands b (aIt b j c)) (hk : aStands b (aIt b k c)) : aIt b j c = aIt b k c := by
  rcases Nat.le_total j k with h | h
  · obtain ⟨d, rfl⟩ := Nat.exists_eq_add_of_le h
    rw [aIt_add, aIt_stands hj]
  · obtain ⟨d, rfl⟩ := Nat.exists_eq_add_of_le h
    rw [aIt_add, aIt_stands hk]
