/-- values as trees: a number, a word, a list -/
abbrev Tr : Type := Std.Format
def tN (n : Int) : Tr := .nest n .nil
def tW : List Nat → Tr
  | [] => .line
  | c :: l => .tag c (tW l)
def tL : List Tr → Tr
  | [] => .nil
  | m :: l => .append m (tL l)
def tLet : Tr → List Nat
  | .tag c t => c :: tLet t
  | _ => []
def tMem : Tr → List Tr
  | .append m t => m :: tMem t
  | _ => []
def tNum : Tr → Int
  | .nest n _ => n
  | _ => 0
def isN : Tr → Bool
  | .nest _ _ => true
  | _ => false
def isW : Tr → Bool
  | .tag _ _ => true
  | .line => true
  | _ => false
def isL : Tr → Bool
  | .nil => true
  | .append _ _ => true
  | _ => false
/-- SIZE -/
def tSz : Tr → Nat
  | .nest _ _ => 1
  | .tag _ t => tSz t + 1
  | .line => 0
  | .nil => 1
  | .append m t => tSz m + tSz t
  | _ => 0
theorem tLet_tW (l : List Nat) : tLet (tW l) = l := by
  induction l with
  | nil => rfl
  | cons c l ih => show c :: tLet (tW l) = c :: l; rw [ih]
theorem tMem_tL (l : List Tr) : tMem (tL l) = l := by
  induction l with
  | nil => rfl
  | cons c l ih => show c :: tMem (tL l) = c :: l; rw [ih]
theorem isL_tL (l : List Tr) : isL (tL l) = true := by cases l <;> rfl
theorem isW_tW (l : List Nat) : isW (tW l) = true := by cases l <;> rfl
theorem isN_tN (n : Int) : isN (tN n) = true := rfl
theorem tNum_tN (n : Int) : tNum (tN n) = n := rfl
theorem isL_tW (l : List Nat) : isL (tW l) = false := by cases l <;> rfl
theorem isL_tN (n : Int) : isL (tN n) = false := rfl
theorem isW_tL (l : List Tr) : isW (tL l) = false := by cases l <;> rfl
theorem isW_tN (n : Int) : isW (tN n) = false := rfl
theorem isN_tL (l : List Tr) : isN (tL l) = false := by cases l <;> rfl
theorem isN_tW (l : List Nat) : isN (tW l) = false := by cases l <;> rfl
theorem tSz_tN (n : Int) : tSz (tN n) = 1 := rfl
theorem tSz_tW (l : List Nat) : tSz (tW l) = l.length := by
  induction l with
  | nil => rfl
  | cons c l ih => show tSz (tW l) + 1 = l.length + 1; rw [ih]
theorem tSz_tL (l : List Tr) : tSz (tL l) = 1 + (l.map tSz).sum := by
  induction l with
  | nil => rfl
  | cons c l ih => show tSz c + tSz (tL l) = _; rw [ih, List.map_cons, List.sum_cons]; omega
theorem tW_inj {l k : List Nat} (h : tW l = tW k) : l = k := by rw [← tLet_tW l, h, tLet_tW]
theorem tL_inj {l k : List Tr} (h : tL l = tL k) : l = k := by rw [← tMem_tL l, h, tMem_tL]
theorem tN_inj {l k : Int} (h : tN l = tN k) : l = k := by rw [← tNum_tN l, h, tNum_tN]
/-- what is a value at all: mode 0 a value, 1 the rest of a word, 2 the rest of a list -/
def tOk : Tr → Nat → Prop
  | .nest n t, 0 => t = .nil ∧ -1000000000 ≤ n ∧ n ≤ 1000000000
  | .tag c t, 0 => 33 ≤ c ∧ c ≤ 126 ∧ tOk t 1
  | .tag c t, 1 => 33 ≤ c ∧ c ≤ 126 ∧ tOk t 1
  | .line, 1 => True
  | .nil, 0 => True
  | .nil, 2 => True
  | .append m t, 0 => tOk m 0 ∧ tOk t 2
  | .append m t, 2 => tOk m 0 ∧ tOk t 2
  | _, _ => False
def okLs (l : List Nat) : Prop := ∀ c ∈ l, 33 ≤ c ∧ c ≤ 126
theorem tOk_w1 {t : Tr} (h : tOk t 1) : ∃ l, t = tW l ∧ okLs l := by
  induction t with
  | line => exact ⟨[], rfl, fun c hc => absurd hc List.not_mem_nil⟩
  | tag c t ih =>
    obtain ⟨h1, h2, h3⟩ := h
    obtain ⟨l, e, hl⟩ := ih h3
    refine ⟨c :: l, by rw [e]; rfl, ?_⟩
    intro d hd
    rcases List.mem_cons.mp hd with rfl | hd
    · exact ⟨h1, h2⟩
    · exact hl d hd
  | _ => exact h.elim
theorem tOk_l2 {t : Tr} (h : tOk t 2) : ∃ l, t = tL l ∧ ∀ m ∈ l, tOk m 0 := by
  induction t with
  | nil => exact ⟨[], rfl, fun c hc => absurd hc List.not_mem_nil⟩
  | append m t _ ih =>
    obtain ⟨h1, h3⟩ := h
    obtain ⟨l, e, hl⟩ := ih h3
    refine ⟨m :: l, by rw [e]; rfl, ?_⟩
    intro d hd
    rcases List.mem_cons.mp hd with rfl | hd
    · exact h1
    · exact hl d hd
  | _ => exact h.elim
/-- the three kinds of values -/
theorem tOk_cases {t : Tr} (h : tOk t 0) : (∃ n, t = tN n ∧ -1000000000 ≤ n ∧ n ≤ 1000000000) ∨ (∃ c l, t = tW (c :: l) ∧ okLs (c :: l)) ∨ (∃ l, t = tL l ∧ ∀ m ∈ l, tOk m 0) := by
  cases t with
  | nest n t => obtain ⟨h1, h2, h3⟩ := h; subst h1; exact Or.inl ⟨n, rfl, h2, h3⟩
  | tag c t =>
    obtain ⟨h1, h2, h3⟩ := h
    obtain ⟨l, e, hl⟩ := tOk_w1 h3
    refine Or.inr (Or.inl ⟨c, l, by rw [e]; rfl, ?_⟩)
    intro d hd
    rcases List.mem_cons.mp hd with rfl | hd
    · exact ⟨h1, h2⟩
    · exact hl d hd
  | nil => exact Or.inr (Or.inr ⟨[], rfl, fun c hc => absurd hc List.not_mem_nil⟩)
  | append m t =>
    obtain ⟨h1, h3⟩ := h
    obtain ⟨l, e, hl⟩ := tOk_l2 h3
    refine Or.inr (Or.inr ⟨m :: l, by rw [e]; rfl, ?_⟩)
    intro d hd
    rcases List.mem_cons.mp hd with rfl | hd
    · exact h1
    · exact hl d hd
  | _ => exact h.elim
/-- the digits of a number from 0 to 9999999999 -/
def aUnit (n : Nat) : Nat := if n < 10 then 0 else if n < 100 then 1 else if n < 1000 then 2 else if n < 10000 then 3 else if n < 100000 then 4 else if n < 1000000 then 5 else if n < 10000000 then 6 else if n < 100000000 then 7 else if n < 1000000000 then 8 else 9
def aDig (n : Nat) : Nat → List Nat
  | 0 => [48 + n % 10]
  | k + 1 => (48 + n / 10 ^ (k + 1) % 10) :: aDig n k
def aNumS (n : Int) : List Nat := if n < 0 then 45 :: aDig n.natAbs (aUnit n.natAbs) else aDig n.natAbs (aUnit n.natAbs)
/-- a value as it is shown; mode 0 itself, 1 its members, 2 its members behind others -/
def aSh : Tr → Nat → List Nat
  | .nest n _, _ => aNumS n
  | .tag c t, _ => c :: aSh t 0
  | .line, _ => []
  | .nil, 0 => [91, 93]
  | .nil, _ => []
  | .append m t, 0 => 91 :: (aSh m 0 ++ (aSh t 2 ++ [93]))
  | .append m t, 1 => aSh m 0 ++ aSh t 2
  | .append m t, _ => 32 :: (aSh m 0 ++ aSh t 2)
  | _, _ => []
def aShow (v : Tr) (bare : Bool) : List Nat := if isL v && bare then aSh v 1 else aSh v 0
/-- digits alone, with a - ahead or not: 0 no number, 1 this one, 2 below or above -/
def aVal : List Nat → Nat → Option Nat
  | [], v => some v
  | c :: l, v => if 48 ≤ c ∧ c ≤ 57 then aVal l (min (10 * v + (c - 48)) 1000000001) else none
def aPar (l : List Nat) : Nat × Int :=
  let neg := l.head? = some 45
  let ds := if neg then l.tail else l
  if ds = [] then (0, 0) else match aVal ds 0 with
    | none => (0, 0)
    | some v => if 1000000000 < v then (2, 0) else (1, if neg then -(v : Int) else v)
/-- the words that mean something, from 1 on -/
def aWords : List (List Nat) := [[102, 100], [98, 107], [114, 116], [108, 116], [115, 101, 116, 104], [112, 117], [112, 100], [115, 101, 116, 112, 101, 110], [104, 111, 109, 101], [112, 108, 97, 99, 101], [99, 108, 101, 97, 110], [116, 101, 108, 108], [104, 101, 97, 100, 105, 110, 103], [120, 99, 111, 114], [121, 99, 111, 114], [112, 101, 110], [119, 104, 111], [100, 111, 116], [115, 97, 109, 101], [115, 117, 109], [100, 105, 102, 102, 101, 114, 101, 110, 99, 101], [112, 114, 111, 100, 117, 99, 116], [113, 117, 111, 116, 105, 101, 110, 116], [114, 101, 109, 97, 105, 110, 100, 101, 114], [109, 105, 110, 117, 115], [108, 101, 115, 115, 112], [103, 114, 101, 97, 116, 101, 114, 112], [114, 97, 110, 100, 111, 109], [97, 110, 100], [111, 114], [110, 111, 116], [101, 113, 117, 97, 108, 112], [108, 105, 115, 116, 112], [119, 111, 114, 100, 112], [110, 117, 109, 98, 101, 114, 112], [99, 111, 117, 110, 116], [101, 109, 112, 116, 121, 112], [102, 105, 114, 115, 116], [108, 97, 115, 116], [98, 117, 116, 102, 105, 114, 115, 116], [98, 117, 116, 108, 97, 115, 116], [105, 116, 101, 109], [102, 112, 117, 116], [108, 112, 117, 116], [115, 101, 110, 116, 101, 110, 99, 101], [108, 105, 115, 116], [109, 101, 109, 98, 101, 114, 112], [114, 101, 118, 101, 114, 115, 101], [119, 111, 114, 100], [109, 97, 107, 101], [108, 111, 99, 97, 108], [116, 104, 105, 110, 103], [110, 97, 109, 101, 112], [100, 101, 102, 105, 110, 101], [97, 114, 105, 116, 121], [116, 101, 120, 116], [112, 114, 105, 110, 116], [115, 104, 111, 119], [116, 121, 112, 101], [114, 117, 110], [105, 102], [105, 102, 101, 108, 115, 101], [114, 101, 112, 101, 97, 116], [114, 101, 112, 99, 111, 117, 110, 116], [119, 104, 105, 108, 101], [102, 111, 114, 101, 97, 99, 104], [63], [109, 97, 112], [97, 115, 107], [115, 116, 111, 112], [111, 117, 116, 112, 117, 116], [99, 97, 116, 99, 104], [116, 104, 114, 111, 119], [101, 114, 114, 111, 114], [40], [41], [61], [60], [62], [43], [45], [42], [47], [116, 111], [101, 110, 100]]
def aKinds : List (List Nat) := [[110], [110], [110], [110], [110], [], [], [110], [], [110, 110], [], [110], [], [], [], [], [], [], [110, 110], [110, 110], [110, 110], [110, 110], [110, 110], [110, 110], [110], [110, 110], [110, 110], [110], [98, 98], [98, 98], [98], [118, 118], [118], [118], [118], [118], [108], [108], [108], [108], [108], [110, 108], [118, 108], [118, 108], [118, 118], [118, 118], [118, 108], [108], [116, 116], [119, 118], [119], [119], [119], [119, 108], [119], [119], [118], [118], [118], [108], [98, 108], [98, 108, 108], [110, 108], [], [108, 108], [108, 108], [], [108, 108], [110, 108], [], [118], [119, 108], [119], [], [], [], [], [], [], [], [], [], [], [], []]
def aIx (l : List Nat) : List (List Nat) → Nat → Nat
  | [], _ => 0
  | w :: ws, k => if w = l then k else aIx l ws (k + 1)
/-- what a word means; 0 for one that can be a name -/
def aLex (l : List Nat) : Nat := if l.head? = some 34 then 86 else if l.head? = some 58 then 87 else aIx l aWords 1
def aKind (code : Nat) : List Nat := aKinds.getD (code - 1) []
def wTrue : List Nat := [116, 114, 117, 101]
def wFalse : List Nat := [102, 97, 108, 115, 101]
def wError : List Nat := [101, 114, 114, 111, 114]
def aTruth (b : Bool) : Tr := if b then tW wTrue else tW wFalse
