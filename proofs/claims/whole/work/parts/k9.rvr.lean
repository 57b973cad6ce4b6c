/-! what a word for values does in the reference -/
def ctI : List Nat := [97, 98, 99, 103, 104, 105, 106, 107, 116, 117, 118]
def ctA : List Nat := [112, 119, 120, 121]
def ctB : List Nat := [111, 122, 123]
def rCt (i : Nat → Int32) (a : Nat → Nat → Int32) (b : Nat → Nat → Int64) (i' : Nat → Int32) (a' : Nat → Nat → Int32) (b' : Nat → Nat → Int64) : Prop := (∀ q, q ∈ ctI → i' q = i q) ∧ (∀ q, q ∈ ctA → a' q = a q) ∧ (∀ q, q ∈ ctB → b' q = b q)
theorem rCt_refl {i : Nat → Int32} {a : Nat → Nat → Int32} {b : Nat → Nat → Int64} : rCt i a b i a b := ⟨fun _ _ => rfl, fun _ _ => rfl, fun _ _ => rfl⟩
theorem rCt_trans {i i' i2 : Nat → Int32} {a a' a2 : Nat → Nat → Int32} {b b' b2 : Nat → Nat → Int64} (h : rCt i a b i' a' b') (h' : rCt i' a' b' i2 a2 b2) : rCt i a b i2 a2 b2 := ⟨fun q hq => (h'.1 q hq).trans (h.1 q hq), fun q hq => (h'.2.1 q hq).trans (h.2.1 q hq), fun q hq => (h'.2.2 q hq).trans (h.2.2 q hq)⟩
/-- rows grow no more than is made -/
def gR_p (B : RB4) (m : Nat) (B' : RB4) (m' : Nat) : Prop := m ≤ m' ∧ B'.2.2.1 + m ≤ B.2.2.1 + m' ∧ B'.2.2.2 + m ≤ B.2.2.2 + m'
theorem gR_refl {B : RB4} {m : Nat} : gR_p B m B m := ⟨Nat.le_refl _, Nat.le_refl _, Nat.le_refl _⟩
abbrev VRes : Type := Except Nat (GS × LN × List Fr × Option Tr)
def VR (i : Nat → Int32) (j : Nat → Int64) (a : Nat → Nat → Int32) (b : Nat → Nat → Int64) (B : RB4) (bd : Nat) (G : GS) (N : LN) (F : List Fr) (r : VRes) (o : Option ((Nat → Int32) × (Nat → Int64) × (Nat → Nat → Int32) × (Nat → Nat → Int64) × Int64)) : Prop :=
  ∃ i' j' a' b' v B', o = some (i', j', a', b', v) ∧ rUp a b B a' b' B' ∧ rFm i j a b i' j' a' b' ∧ rCt i a b i' a' b' ∧ match r with
    | .error e => i' 102 = 2 ∧ i' 126 = nI e ∧ rWo i' j' a' b' B' bd G N F ∧ gR_p B (nMade N) B' (nMade N)
    | .ok (G', N', F', got) => i' 102 = i 102 ∧ rWo i' j' a' b' B' bd G' N' F' ∧ rO a' b' B' got v ∧ gR_p B (nMade N) B' (nMade N')
/-- the configuration that follows -/
def eC (r : VRes) (G : GS) (N : LN) (F : List Fr) (L : List Lv) : Cfg := match r with
  | .ok (G', N', F', got) => (G', N', F', L, 1, got, none)
  | .error e => aFail e G N F L
def upA : List Nat := [1, 3, 4, 7, 12, 13, 14, 24, 26, 27]
def upB : List Nat := [9, 10, 22, 23]
def upI : List Nat := [18, 19, 20, 21, 25, 28, 96, 102, 126]
theorem upA_ch : ∀ q ∈ upA, q ∈ chA := by decide
theorem upB_ch : ∀ q ∈ upB, q ∈ chB := by decide
theorem upI_ch : ∀ q ∈ upI, q ∈ chI := by decide
theorem ctA_up : ∀ q ∈ ctA, q ∉ upA := by decide
theorem ctB_up : ∀ q ∈ ctB, q ∉ upB := by decide
theorem ctI_up : ∀ q ∈ ctI, q ∉ upI := by decide
theorem rCp_up {a a' : Nat → Nat → Int32} (h : a' 112 = a 112) : ∀ F : List Fr, rCp a F → rCp a' F := by
  intro F
  induction F with
  | nil => intro _; trivial
  | cons f F ih => intro hc; exact ⟨by rw [h]; exact hc.1, ih hc.2⟩
theorem rTu_up {i i' : Nat → Int32} {a a' : Nat → Nat → Int32} {G : GS} (h : rTu i a G) (ha : ∀ q, 37 ≤ q → q ≤ 44 → a' q = a q) (hi : i' 47 = i 47) : rTu i' a' G := by
  obtain ⟨h1, h2, h3⟩ := h
  refine ⟨fun t k h8 h7 => ?_, fun x hx => ?_, hi.trans h3⟩
  · rw [ha _ (by omega) (by omega)]; exact h1 t k h8 h7
  · rw [ha _ (by omega) (by omega)]; exact h2 x hx
theorem rOut_up {j j' : Nat → Int64} {a a' : Nat → Nat → Int32} {o : List Nat} (h : rOut j a o) (hj : j' 48 = j 48) (ha : a' 45 = a 45) : rOut j' a' o := ⟨hj.trans h.1, fun k hk h2 => by rw [ha]; exact h.2.1 k hk h2, fun k hk => by rw [ha]; exact h.2.2 k hk⟩
theorem rTr_up {j j' : Nat → Int64} {a a' : Nat → Nat → Int32} {b b' : Nat → Nat → Int64} {B B' : RB4} (hu : rUp a b B a' b' B') (h : rTr j a b B) (h1 : j' 124 = j 124) (h2 : j' 125 = j 125) : rTr j' a' b' B' := ⟨by rw [h1]; exact (rV_up hu _).1 _ h.1, by rw [h2]; exact (rV_up hu _).1 _ h.2⟩
theorem rWo_up {i : Nat → Int32} {j : Nat → Int64} {a : Nat → Nat → Int32} {b : Nat → Nat → Int64} {i' : Nat → Int32} {a' : Nat → Nat → Int32} {b' : Nat → Nat → Int64} {B : RB4} {bd : Nat} {G : GS} {N : LN} {F : List Fr} {B' : RB4} {m : Nat} (h : rWo i j a b B bd G N F) (hu : rUp a b B a' b' B') (hB : rB i' B') (hC : rC a' b' B') (hR : rRm B' m) (h96 : i' 96 = nI m) (ha : ∀ q, q ∉ upA → a' q = a q) (hb : ∀ q, q ∉ upB → b' q = b q) (hi : ∀ q, q ∉ upI → i' q = i q) : rWo i' j a' b' B' bd G (nSetMade N m) F := by
  obtain ⟨⟨w1, w2, w3⟩, w4, ⟨w5, w6, w7⟩, w8, ⟨w9, w10⟩, w11, ⟨w12, w13⟩, w14, ⟨w15, w16, w17⟩, w18, w19⟩ := h
  refine ⟨⟨hB, hC, hR⟩, rTr_up hu w4 rfl rfl, ⟨rFr_up hu F (fun x _ => by rw [ha 113 (by decide)]) (fun x _ => by rw [ha 114 (by decide), hb 115 (by decide)]; exact ⟨rfl, rfl⟩) w5, rCp_up (ha 112 (by decide)) F w6, (hi 99 (by decide)).trans w7⟩, rGl_up hu (hi 36 (by decide)) (fun m _ => by rw [ha 34 (by decide), hb 35 (by decide)]; exact ⟨rfl, rfl⟩) w8, ⟨rPr_up hu (hi 33 (by decide)) (fun m _ => by rw [ha 29 (by decide), ha 30 (by decide), hb 32 (by decide)]; exact ⟨rfl, rfl, rfl⟩) (fun m _ => by rw [ha 31 (by decide)]) w9, w10⟩, rTu_up w11 (fun q h1 h2 => ha q (fun hm => by simp [upA] at hm; omega)) (hi 47 (by decide)), ⟨rOut_up w12 rfl (ha 45 (by decide)), w13⟩, (hi 46 (by decide)).trans w14, ⟨(hi 93 (by decide)).trans w15, (hi 95 (by decide)).trans w16, h96⟩, w18, w19⟩
theorem rFm_up {i : Nat → Int32} {j : Nat → Int64} {a : Nat → Nat → Int32} {b : Nat → Nat → Int64} {i' : Nat → Int32} {a' : Nat → Nat → Int32} {b' : Nat → Nat → Int64} (ha : ∀ q, q ∉ upA → a' q = a q) (hb : ∀ q, q ∉ upB → b' q = b q) (hi : ∀ q, q ∉ upI → i' q = i q) : rFm i j a b i' j a' b' := ⟨fun q hq => hi q (fun h => hq (upI_ch q h)), fun _ _ => rfl, fun q hq => ha q (fun h => hq (upA_ch q h)), fun q hq => hb q (fun h => hq (upB_ch q h))⟩
theorem rCt_up {i i' : Nat → Int32} {a a' : Nat → Nat → Int32} {b b' : Nat → Nat → Int64} (ha : ∀ q, q ∉ upA → a' q = a q) (hb : ∀ q, q ∉ upB → b' q = b q) (hi : ∀ q, q ∉ upI → i' q = i q) : rCt i a b i' a' b' := ⟨fun q hq => hi q (ctI_up q hq), fun q hq => ha q (ctA_up q hq), fun q hq => hb q (ctB_up q hq)⟩
theorem rWo_B {i : Nat → Int32} {j : Nat → Int64} {a : Nat → Nat → Int32} {b : Nat → Nat → Int64} {B : RB4} {bd : Nat} {G : GS} {N : LN} {F : List Fr} (h : rWo i j a b B bd G N F) : B.1 ≤ 120000 ∧ B.2.1 ≤ 300000 ∧ B.2.2.1 ≤ 90000 ∧ B.2.2.2 ≤ 90000 := h.1.1.2.2.2.2
/-- an error of a word -/
theorem VR_err {i : Nat → Int32} {j : Nat → Int64} {a : Nat → Nat → Int32} {b : Nat → Nat → Int64} {i' : Nat → Int32} {a' : Nat → Nat → Int32} {b' : Nat → Nat → Int64} {B : RB4} {bd : Nat} {G : GS} {N : LN} {F : List Fr} {B' : RB4} {e : Nat} {v : Int64} {o : Option ((Nat → Int32) × (Nat → Int64) × (Nat → Nat → Int32) × (Nat → Nat → Int64) × Int64)} (h : rWo i j a b B bd G N F) (eo : o = some (i', j, a', b', v)) (hu : rUp a b B a' b' B') (hB : rB i' B') (hC : rC a' b' B') (hR : rRm B' (nMade N)) (h96 : i' 96 = i 96) (ha : ∀ q, q ∉ upA → a' q = a q) (hb : ∀ q, q ∉ upB → b' q = b q) (hi : ∀ q, q ∉ upI → i' q = i q) (h1 : i' 102 = 2) (h2 : i' 126 = nI e) (hG : gR_p B (nMade N) B' (nMade N)) : VR i j a b B bd G N F (.error e) o :=
  ⟨i', j, a', b', v, B', eo, hu, rFm_up ha hb hi, rCt_up ha hb hi, h1, h2, rWo_up (m := nMade N) h hu hB hC hR (h96.trans h.2.2.2.2.2.2.2.2.1.2.2) ha hb hi, hG⟩
theorem VR_ok {i : Nat → Int32} {j : Nat → Int64} {a : Nat → Nat → Int32} {b : Nat → Nat → Int64} {i' : Nat → Int32} {a' : Nat → Nat → Int32} {b' : Nat → Nat → Int64} {B : RB4} {bd : Nat} {G : GS} {N : LN} {F : List Fr} {B' : RB4} {m : Nat} {got : Option Tr} {v : Int64} {o : Option ((Nat → Int32) × (Nat → Int64) × (Nat → Nat → Int32) × (Nat → Nat → Int64) × Int64)} (h : rWo i j a b B bd G N F) (eo : o = some (i', j, a', b', v)) (hu : rUp a b B a' b' B') (hB : rB i' B') (hC : rC a' b' B') (hR : rRm B' m) (h96 : i' 96 = nI m) (ha : ∀ q, q ∉ upA → a' q = a q) (hb : ∀ q, q ∉ upB → b' q = b q) (hi : ∀ q, q ∉ upI → i' q = i q) (h1 : i' 102 = i 102) (hv : rO a' b' B' got v) (hG : gR_p B (nMade N) B' m) : VR i j a b B bd G N F (.ok (G, nSetMade N m, F, got)) o :=
  ⟨i', j, a', b', v, B', eo, hu, rFm_up ha hb hi, rCt_up ha hb hi, h1, rWo_up h hu hB hC hR h96 ha hb hi, hv, hG⟩
theorem rUp_refl {a : Nat → Nat → Int32} {b : Nat → Nat → Int64} {B : RB4} (hB : B.1 ≤ 120000 ∧ B.2.1 ≤ 300000 ∧ B.2.2.1 ≤ 90000 ∧ B.2.2.2 ≤ 90000) : rUp a b B a b B := rUp_same ⟨rfl, rfl, rfl, rfl, rfl, rfl, rfl⟩ hB
theorem rFail_up {i : Nat → Int32} {e : Nat} : ∀ q, q ∉ upI → rFail i e q = i q := fun q hq => by
  unfold rFail
  rw [upd_ne (nm_ne hq (by decide)), upd_ne (nm_ne hq (by decide))]
theorem rB_i {i i' : Nat → Int32} {B : RB4} (h : rB i B) (h1 : i' 18 = i 18) (h2 : i' 19 = i 19) (h3 : i' 20 = i 20) (h4 : i' 21 = i 21) : rB i' B := ⟨h2.trans h.1, h1.trans h.2.1, h4.trans h.2.2.1, h3.trans h.2.2.2.1, h.2.2.2.2⟩
/-- a plain error -/
theorem VR_fail {i : Nat → Int32} {j : Nat → Int64} {a : Nat → Nat → Int32} {b : Nat → Nat → Int64} {B : RB4} {bd : Nat} {G : GS} {N : LN} {F : List Fr} {e : Nat} {o : Option ((Nat → Int32) × (Nat → Int64) × (Nat → Nat → Int32) × (Nat → Nat → Int64) × Int64)} (h : rWo i j a b B bd G N F) (eo : o = some (rFail i e, j, a, b, 3)) : VR i j a b B bd G N F (.error e) o :=
  VR_err h eo (rUp_refl (rWo_B h)) (rB_i h.1.1 rfl rfl rfl rfl) h.1.2.1 h.1.2.2 rfl (fun _ _ => rfl) (fun _ _ => rfl) rFail_up rfl rfl gR_refl
/-- nothing changes, a value comes -/
theorem VR_v {i : Nat → Int32} {j : Nat → Int64} {a : Nat → Nat → Int32} {b : Nat → Nat → Int64} {B : RB4} {bd : Nat} {G : GS} {N : LN} {F : List Fr} {got : Option Tr} {v : Int64} {o : Option ((Nat → Int32) × (Nat → Int64) × (Nat → Nat → Int32) × (Nat → Nat → Int64) × Int64)} (h : rWo i j a b B bd G N F) (eo : o = some (i, j, a, b, v)) (hv : rO a b B got v) : VR i j a b B bd G N F (.ok (G, N, F, got)) o :=
  VR_ok (m := nMade N) h eo (rUp_refl (rWo_B h)) h.1.1 h.1.2.1 h.1.2.2 h.2.2.2.2.2.2.2.2.1.2.2 (fun _ _ => rfl) (fun _ _ => rfl) (fun _ _ => rfl) rfl hv gR_refl
def rNo (G : GS) (N : LN) (F : List Fr) (r : Except Nat Tr) : VRes := match r with
  | .ok t => .ok (G, N, F, some t)
  | .error e => .error e
theorem VR_ans {i : Nat → Int32} {j : Nat → Int64} {a : Nat → Nat → Int32} {b : Nat → Nat → Int64} {B : RB4} {bd : Nat} {G : GS} {N : LN} {F : List Fr} {r : Except Nat Tr} {o : Option ((Nat → Int32) × (Nat → Int64) × (Nat → Nat → Int32) × (Nat → Nat → Int64) × Int64)} (h : rWo i j a b B bd G N F) (hr : rAns i j a b B r o) : VR i j a b B bd G N F (rNo G N F r) o := by
  rcases hr with ⟨e, rfl, eo⟩ | ⟨t, v, rfl, eo, hv⟩
  · exact VR_fail h eo
  · exact VR_v h eo hv
def rTG (N : LN) (F : List Fr) (r : Except Nat (GS × Option Tr)) : VRes := match r with
  | .ok (g, v) => .ok (g, N, F, v)
  | .error e => .error e
def gRest (g : GS) : List (Nm × Tr) × List Proc × List Nat × Int32 × KS := (gGlob g, gProcs g, gOut g, gSeed g, gKept g)
theorem gr_rG {g : GS} {r : Except Nat GS} (h : ∀ g', r = .ok g' → gRest g' = gRest g) : ∀ g' v, rG g r = .ok (g', v) → gRest g' = gRest g := by
  intro g' v e
  cases r with
  | ok g2 => cases e; exact h _ rfl
  | error k => cases e
theorem gr_fwd {g g' : GS} {z : Int} (e : aFwd g z = .ok g') : gRest g' = gRest g := by
  unfold aFwd at e
  split at e
  · cases e
  dsimp only at e
  generalize ht : (if (pI g (gTold g) 4).toNat < 6 then z else -z) = tm at e
  split at e
  · cases e
  cases e
  show gRest (if _ then _ else _) = gRest g
  split <;> rfl
theorem gr_turn {g g' : GS} {b z : Int} (e : aTurn g b z = .ok g') : gRest g' = gRest g := by
  unfold aTurn at e
  split at e
  · cases e
  · cases e; rfl
theorem gr_turtle (code : Nat) (x y : Int) (g : GS) : ∀ g' v, aTurtle code x y g = .ok (g', v) → gRest g' = gRest g := by
  intro g' v e
  unfold aTurtle at e
  dsimp only at e
  by_cases c1 : code = 1
  · rw [if_pos c1] at e
    exact gr_rG (fun _ h => gr_fwd h) _ _ e
  rw [if_neg c1] at e
  by_cases c2 : code = 2
  · rw [if_pos c2] at e
    exact gr_rG (fun _ h => gr_fwd h) _ _ e
  rw [if_neg c2] at e
  by_cases c3 : code = 3
  · rw [if_pos c3] at e
    exact gr_rG (fun _ h => gr_turn h) _ _ e
  rw [if_neg c3] at e
  by_cases c4 : code = 4
  · rw [if_pos c4] at e
    exact gr_rG (fun _ h => gr_turn h) _ _ e
  rw [if_neg c4] at e
  by_cases c5 : code = 5
  · rw [if_pos c5] at e
    exact gr_rG (fun _ h => gr_turn h) _ _ e
  rw [if_neg c5] at e
  by_cases c6 : code = 6
  · rw [if_pos c6] at e
    cases e; rfl
  rw [if_neg c6] at e
  by_cases c7 : code = 7
  · rw [if_pos c7] at e
    cases e; rfl
  rw [if_neg c7] at e
  by_cases c8 : code = 8
  · rw [if_pos c8] at e
    split at e
    · cases e
    · cases e; rfl
  rw [if_neg c8] at e
  by_cases c9 : code = 9
  · rw [if_pos c9] at e
    cases e; rfl
  rw [if_neg c9] at e
  by_cases c10 : code = 10
  · rw [if_pos c10] at e
    split at e
    · cases e
    · cases e; rfl
  rw [if_neg c10] at e
  by_cases c11 : code = 11
  · rw [if_pos c11] at e
    cases e; rfl
  rw [if_neg c11] at e
  by_cases c12 : code = 12
  · rw [if_pos c12] at e
    split at e
    · cases e
    · cases e; rfl
  rw [if_neg c12] at e
  by_cases c13 : code = 13
  · rw [if_pos c13] at e
    cases e; rfl
  rw [if_neg c13] at e
  by_cases c14 : code = 14
  · rw [if_pos c14] at e
    cases e; rfl
  rw [if_neg c14] at e
  by_cases c15 : code = 15
  · rw [if_pos c15] at e
    cases e; rfl
  rw [if_neg c15] at e
  by_cases c16 : code = 16
  · rw [if_pos c16] at e
    cases e; rfl
  rw [if_neg c16] at e
  by_cases c17 : code = 17
  · rw [if_pos c17] at e
    cases e; rfl
  rw [if_neg c17] at e
  by_cases c18 : code = 18
  · rw [if_pos c18] at e
    cases e; rfl
  rw [if_neg c18] at e
  split at e
  · cases e
  · cases e; rfl
theorem VR_tur {i : Nat → Int32} {j : Nat → Int64} {a : Nat → Nat → Int32} {b : Nat → Nat → Int64} {B : RB4} {bd : Nat} {G : GS} {N : LN} {F : List Fr} {code : Nat} {x y : Int} {o : Option ((Nat → Int32) × (Nat → Int64) × (Nat → Nat → Int32) × (Nat → Nat → Int64) × Int64)} (h : rWo i j a b B bd G N F) (hr : rTurt i j a b B (aTurtle code x y G) o) : VR i j a b B bd G N F (rTG N F (aTurtle code x y G)) o := by
  have hg := gr_turtle code x y G
  generalize aTurtle code x y G = r at hr hg
  match r, hr with
  | .error e, hr => exact VR_fail h hr
  | .ok (G', v), ⟨i', a', z, eo, h1, h2, h3, h4⟩ =>
    have hgr := hg G' v rfl
    have g1 : gGlob G' = gGlob G := congrArg (fun q => q.1) hgr
    have g2 : gProcs G' = gProcs G := congrArg (fun q => q.2.1) hgr
    have g3 : gOut G' = gOut G := congrArg (fun q => q.2.2.1) hgr
    have g4 : gSeed G' = gSeed G := congrArg (fun q => q.2.2.2.1) hgr
    have g5 : gOb G' = gOb G := by unfold gOb; rw [show gKept G' = gKept G from congrArg (fun q => q.2.2.2.2) hgr]
    have ha : ∀ q, q ∉ [37, 38, 39, 40, 41, 42, 43, 44] → a' q = a q := fun q hq => h3 q (by simp at hq; omega)
    have hs : rSame a a' b b := ⟨ha 1 (by decide), ha 3 (by decide), ha 4 (by decide), ha 12 (by decide), ha 13 (by decide), ha 14 (by decide), rfl⟩
    have hu := rUp_same hs (rWo_B h)
    have hi : ∀ q, q ≠ 47 → i' q = i q := h2
    obtain ⟨⟨w1, w2, w3⟩, w4, ⟨w5, w6, w7⟩, w8, ⟨w9, w10⟩, w11, ⟨w12, w13⟩, w14, ⟨w15, w16, w17⟩, w18, w19⟩ := id h
    refine ⟨i', j, a', b, z, B, eo, hu, ⟨fun q hq => hi q (nm_ne hq (by decide)), fun _ _ => rfl, fun q hq => h3 q (by simp [chA] at hq; omega), fun _ _ => rfl⟩, ⟨fun q hq => hi q (fun e => by subst e; revert hq; decide), fun q hq => ha q (fun e => by revert hq e; revert q; decide), fun _ _ => rfl⟩, hi 102 (by decide), ⟨⟨rB_i w1 (hi 18 (by decide)) (hi 19 (by decide)) (hi 20 (by decide)) (hi 21 (by decide)), rC_same hs (ha 7 (by decide)) rfl (rWo_B h) w2, w3⟩, rTr_up hu w4 rfl rfl, ⟨rFr_up hu F (fun x _ => by rw [ha 113 (by decide)]) (fun x _ => by rw [ha 114 (by decide)]; exact ⟨rfl, rfl⟩) w5, rCp_up (ha 112 (by decide)) F w6, (hi 99 (by decide)).trans w7⟩, ?_, ⟨?_, ?_⟩, h1, ⟨?_, ?_⟩, ?_, ⟨(hi 93 (by decide)).trans w15, (hi 95 (by decide)).trans w16, (hi 96 (by decide)).trans w17⟩, w18, w19⟩, ?_, gR_refl⟩
    · rw [g1]
      exact rGl_up hu (hi 36 (by decide)) (fun m _ => by rw [ha 34 (by decide)]; exact ⟨rfl, rfl⟩) w8
    · rw [g2]
      exact rPr_up hu (hi 33 (by decide)) (fun m _ => by rw [ha 29 (by decide), ha 30 (by decide)]; exact ⟨rfl, rfl, rfl⟩) (fun m _ => by rw [ha 31 (by decide)]) w9
    · rw [g2]; exact w10
    · rw [g3]; exact rOut_up w12 rfl (ha 45 (by decide))
    · rw [g3, g5]; exact w13
    · rw [g4]; exact (hi 46 (by decide)).trans w14
    · cases v with
      | none => exact h4
      | some t => exact (rV_up hu t).1 _ h4

