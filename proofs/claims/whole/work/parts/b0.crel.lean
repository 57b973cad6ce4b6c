/-! how the class holds a line's levels, what waits, its values -/
def wsVals : List Wt → Nat
  | [] => 0
  | w :: ws => (wVals w).length + wsVals ws
def lvVals : List Lv → Nat
  | [] => 0
  | l :: L => (lVals l).length + wsVals (lWs l) + lvVals L
def vsR (f : Nat → Int32) (T : Nat) (vl : Nat → Int32) (b : Nat) (vs : List Tr) : Prop := ∀ k (h : k < vs.length), cV f T (vs[k]'h) none (vl (b + k))
def wtR (f : Nat → Int32) (T : Nat) (w1 w2 w3 w4 w5 w6 w7 w8 : Nat → Int32) (r b : Nat) (w : Wt) : Prop :=
  w1 r = nI (wK w) ∧ w2 r = nI (wCode w) ∧ w3 r = nI (wNeed w) ∧ w4 r = nI (wStr w) ∧ w5 r = nI b ∧ (wK w = 2 → cV f T (tL ((wNames w).map tW)) none (w6 r) ∧ cV f T (wBody w) none (w7 r)) ∧ vsR f T w8 b (wVals w)
def wsR (f : Nat → Int32) (T : Nat) (w1 w2 w3 w4 w5 w6 w7 w8 : Nat → Int32) (r b : Nat) : List Wt → Prop
  | [] => True
  | w :: ws => wtR f T w1 w2 w3 w4 w5 w6 w7 w8 (r + ws.length) (b + wsVals ws) w ∧ wsR f T w1 w2 w3 w4 w5 w6 w7 w8 r b ws
def lv1 (f : Nat → Int32) (T : Nat) (k1 k2 k3 k4 k5 k6 k7 k8 k9 k10 w1 w2 w3 w4 w5 w6 w7 w8 : Nat → Int32) (d W V : Nat) (x : Lv) : Prop :=
  k1 d = nI (lK x) ∧ cV f T (lLst x) none (k2 d) ∧ k3 d = nI (lNx x) ∧ k4 d = nI (lTurns x) ∧ k5 d = nI (lLim x) ∧ (lK x = 4 ∨ lK x = 5 ∨ lK x = 9 ∨ lK x = 10 → cV f T (lOth x) none (k6 d)) ∧ (lK x = 1 ∨ lK x = 7 → k7 d = nI (lMark x)) ∧ (lK x = 8 → cV f T (lTag x) none (k7 d)) ∧ k8 d = nI W ∧ k9 d = nI V ∧ vsR f T w8 V (lVals x) ∧ wsR f T w1 w2 w3 w4 w5 w6 w7 w8 W (V + (lVals x).length) (lWs x)
def lvR (f : Nat → Int32) (T : Nat) (k1 k2 k3 k4 k5 k6 k7 k8 k9 k10 w1 w2 w3 w4 w5 w6 w7 w8 : Nat → Int32) : List Lv → List Fr → Prop
  | [], F => F = []
  | x :: L, F => lv1 f T k1 k2 k3 k4 k5 k6 k7 k8 k9 k10 w1 w2 w3 w4 w5 w6 w7 w8 L.length (lvWaits L) (lvVals L) x ∧ (if lK x = 1 then ∃ fr F', F = fr :: F' ∧ fr.1 = lMark x ∧ k10 L.length = nI (frLocs F') ∧ lvR f T k1 k2 k3 k4 k5 k6 k7 k8 k9 k10 w1 w2 w3 w4 w5 w6 w7 w8 L F' else lvR f T k1 k2 k3 k4 k5 k6 k7 k8 k9 k10 w1 w2 w3 w4 w5 w6 w7 w8 L F)
def outR (nx kept : Int32) (sg : Nat → Int32) (o : List Nat) : Prop := ∃ q, nx = nI q ∧ q < 2000 ∧ kept = nI (min o.length 2000) ∧ ∀ k (h : k < o.length), k < 2000 → sg ((q + 1999 - k) % 2000) = nI (o[k]'h)
def cGen (g : Nat → Nat) (i : Nat → Int32) (a : Nat → Nat → Int32) (T : Nat) : Prop :=
  i 8 = nI T ∧ (21 ≤ T ∧ sA (a 0) T = 0) ∧ T ≤ g 0 ∧ 16384 ≤ g 0 ∧ g 0 ≤ 340000 ∧ lexOk a ∧ cV (a 0) 21 (tW wTrue) none (i 4) ∧ cV (a 0) 21 (tW wFalse) none (i 5) ∧ cV (a 0) 21 (tW wError) none (i 6)
theorem cV_21 {f : Nat → Int32} {T : Nat} {t : Tr} {v : Int32} (h : cV f 21 t none v) (hT : 21 ≤ T) : cV f T t none v := cV_up h hT (fun _ _ => rfl)
/-- what a line doesn't touch -/
def kFr (i : Nat → Int32) (a : Nat → Nat → Int32) (k : KS) : Prop := i 0 = k.1 0 ∧ i 1 = k.1 1 ∧ i 2 = k.1 2 ∧ i 3 = k.1 3 ∧ i 7 = k.1 7 ∧ i 14 = k.1 14 ∧ i 16 = k.1 16 ∧ i 18 = k.1 18 ∧ i 21 = k.1 21 ∧ i 22 = k.1 22 ∧ i 24 = k.1 24 ∧ i 25 = k.1 25 ∧ i 26 = k.1 26 ∧ i 27 = k.1 27 ∧ i 28 = k.1 28 ∧ i 29 = k.1 29 ∧ i 30 = k.1 30 ∧ i 31 = k.1 31 ∧ i 32 = k.1 32 ∧ i 33 = k.1 33 ∧ i 34 = k.1 34 ∧ a 14 = k.2.1 14 ∧ a 18 = k.2.1 18 ∧ a 19 = k.2.1 19 ∧ a 24 = k.2.1 24 ∧ a 25 = k.2.1 25 ∧ a 27 = k.2.1 27 ∧ a 31 = k.2.1 31
def kEx (i : Nat → Int32) (a : Nat → Nat → Int32) (T : Nat) (G : GS) : Prop := kFr i a (gKept G) ∧ (∀ x, x < (gKept G).2.2.1 → a 0 x = (gKept G).2.1 0 x) ∧ (gKept G).2.2.1 ≤ T ∧ (∀ x, x < (gKept G).2.2.2.1 → a 10 x = (gKept G).2.1 10 x) ∧ (gKept G).2.2.2.1 ≤ (gGlob G).length ∧ (∀ x, x < (gKept G).2.2.2.2 → a 15 x = (gKept G).2.1 15 x) ∧ (gKept G).2.2.2.2 ≤ (gProcs G).length
def cWorld (i : Nat → Int32) (a : Nat → Nat → Int32) (T : Nat) (G : GS) : Prop :=
  rGlob (a 0) T (i 12) (a 10) (a 11) (gGlob G) ∧ rProc (a 0) T (i 15) (a 15) (a 16) (a 17) (gProcs G) ∧ (∀ k, k < 56 → a 20 k = gParts G k) ∧ (∀ k, k < 4096 → a 21 k = gDots G k) ∧ i 17 = nI (gTold G) ∧ outR (i 19) (i 20) (a 26) (gOut G) ∧ i 45 = gSeed G ∧ kEx i a T G
def cNum (i : Nat → Int32) (N : LN) : Prop := i 35 = nI (nState N) ∧ i 36 = nI (nErr N) ∧ i 37 = nI (nDone N) ∧ i 38 = nI (nMade N) ∧ i 39 = nI (nCaught N)
def cLev (i : Nat → Int32) (a : Nat → Nat → Int32) (T : Nat) (F : List Fr) (L : List Lv) : Prop :=
  i 40 = nI L.length ∧ i 41 = nI (lvCalls L) ∧ i 42 = nI (lvWaits L) ∧ lvR (a 0) T (a 37) (a 38) (a 39) (a 40) (a 41) (a 42) (a 43) (a 44) (a 45) (a 46) (a 47) (a 48) (a 49) (a 50) (a 51) (a 52) (a 53) (a 54) L F
def kInts : List Nat := [0, 1, 2, 3, 7, 14, 16, 18, 21, 22, 24, 25, 26, 27, 28, 29, 30, 31, 32, 33, 34]
theorem kEx_i {i i' : Nat → Int32} {a : Nat → Nat → Int32} {T : Nat} {G : GS} (h : kEx i a T G) (hi : ∀ q, q ∈ kInts → i' q = i q) : kEx i' a T G := by
  obtain ⟨⟨h0, h1, h2, h3, h4, h5, h6, h7, h8, h9, h10, h11, h12, h13, h14, h15, h16, h17, h18, h19, h20, h21, h22, h23, h24, h25, h26, h27⟩, h⟩ := h
  exact ⟨⟨(hi 0 (by decide)).trans h0, (hi 1 (by decide)).trans h1, (hi 2 (by decide)).trans h2, (hi 3 (by decide)).trans h3, (hi 7 (by decide)).trans h4, (hi 14 (by decide)).trans h5, (hi 16 (by decide)).trans h6, (hi 18 (by decide)).trans h7, (hi 21 (by decide)).trans h8, (hi 22 (by decide)).trans h9, (hi 24 (by decide)).trans h10, (hi 25 (by decide)).trans h11, (hi 26 (by decide)).trans h12, (hi 27 (by decide)).trans h13, (hi 28 (by decide)).trans h14, (hi 29 (by decide)).trans h15, (hi 30 (by decide)).trans h16, (hi 31 (by decide)).trans h17, (hi 32 (by decide)).trans h18, (hi 33 (by decide)).trans h19, (hi 34 (by decide)).trans h20, h21, h22, h23, h24, h25, h26, h27⟩, h⟩
def kRows : List Nat := [0, 10, 15, 14, 18, 19, 24, 25, 27, 31]
theorem kEx_a {i : Nat → Int32} {a a' : Nat → Nat → Int32} {T : Nat} {G : GS} (h : kEx i a T G) (hA : ∀ q, q ∈ kRows → a' q = a q) : kEx i a' T G := by
  obtain ⟨⟨h0, h1, h2, h3, h4, h5, h6, h7, h8, h9, h10, h11, h12, h13, h14, h15, h16, h17, h18, h19, h20, h21, h22, h23, h24, h25, h26, h27⟩, g1, g2, g3, g4, g5, g6⟩ := h
  exact ⟨⟨h0, h1, h2, h3, h4, h5, h6, h7, h8, h9, h10, h11, h12, h13, h14, h15, h16, h17, h18, h19, h20, (hA 14 (by decide)).trans h21, (hA 18 (by decide)).trans h22, (hA 19 (by decide)).trans h23, (hA 24 (by decide)).trans h24, (hA 25 (by decide)).trans h25, (hA 27 (by decide)).trans h26, (hA 31 (by decide)).trans h27⟩, by rw [hA 0 (by decide)]; exact g1, g2, by rw [hA 10 (by decide)]; exact g3, g4, by rw [hA 15 (by decide)]; exact g5, g6⟩
/-- the class stands for this, whatever its phase is -/
def CI (g : Nat → Nat) (i : Nat → Int32) (a : Nat → Nat → Int32) (T : Nat) (G : GS) (N : LN) (F : List Fr) (L : List Lv) : Prop :=
  cGen g i a T ∧ cWorld i a T G ∧ cNum i N ∧ rLoc (a 0) T (i 13) (a 12) (a 13) F ∧ cLev i a T F L
/-- the class stands for a state of the line -/
def CR (g : Nat → Nat) (i : Nat → Int32) (a : Nat → Nat → Int32) (T : Nat) (c : Cfg) : Prop := match c with
  | (G, N, F, L, ph, got, rd) => CI g i a T G N F L ∧ (nState N = 1 →
    (ph = 0 → i 46 = nI 0 ∧ i 44 = nI 0 ∧ i 43 = nI (lvVals L)) ∧
    (ph = 1 → i 46 = nI 1 ∧ i 44 = nI 0 ∧ i 43 = nI (lvVals L) ∧ oV (a 0) T got (i 47)) ∧
    (ph = 2 → i 46 = nI 2 ∧ i 44 = nI 0 ∧ i 43 = nI (lvVals L) ∧ oV (a 0) T got (i 47)) ∧
    (ph = 3 → ∃ w, rd = some w ∧ i 44 = nI (wK w) ∧ i 43 = nI (lvVals L + (wVals w).length) ∧ wtR (a 0) T (a 47) (a 48) (a 49) (a 50) (a 51) (a 52) (a 53) (a 54) (lvWaits L) (lvVals L) w) ∧
    (ph = 4 → i 44 = nI 3 ∧ i 43 = nI (lvVals L)))
/-! what is changed above doesn't touch what is below -/
theorem vsR_keep {f f' : Nat → Int32} {T T' : Nat} {vl vl' : Nat → Int32} {b : Nat} {vs : List Tr} (h : vsR f T vl b vs) (hT : T ≤ T') (hf : ∀ x, x < T → f' x = f x) (hv : ∀ k, k < b + vs.length → vl' k = vl k) : vsR f' T' vl' b vs := by
  intro k hk
  rw [hv _ (by omega)]
  exact cV_up (h k hk) hT hf
theorem wtR_keep {f f' : Nat → Int32} {T T' : Nat} {w1 w2 w3 w4 w5 w6 w7 w8 : Nat → Int32} {w1' w2' w3' w4' w5' w6' w7' w8' : Nat → Int32} {r b : Nat} {w : Wt} (h : wtR f T w1 w2 w3 w4 w5 w6 w7 w8 r b w) (hT : T ≤ T') (hf : ∀ x, x < T → f' x = f x) (hw : w1' r = w1 r ∧ w2' r = w2 r ∧ w3' r = w3 r ∧ w4' r = w4 r ∧ w5' r = w5 r ∧ w6' r = w6 r ∧ w7' r = w7 r) (hv : ∀ k, k < b + (wVals w).length → w8' k = w8 k) : wtR f' T' w1' w2' w3' w4' w5' w6' w7' w8' r b w := by
  obtain ⟨a1, a2, a3, a4, a5, a6, a7⟩ := h
  obtain ⟨e1, e2, e3, e4, e5, e6, e7⟩ := hw
  unfold wtR
  rw [e1, e2, e3, e4, e5, e6, e7]
  exact ⟨a1, a2, a3, a4, a5, fun q => ⟨cV_up (a6 q).1 hT hf, cV_up (a6 q).2 hT hf⟩, vsR_keep a7 hT hf hv⟩
theorem wsR_keep {f f' : Nat → Int32} {T T' : Nat} {w1 w2 w3 w4 w5 w6 w7 w8 : Nat → Int32} {w1' w2' w3' w4' w5' w6' w7' w8' : Nat → Int32} {r b : Nat} (hT : T ≤ T') (hf : ∀ x, x < T → f' x = f x) : ∀ (ws : List Wt), (∀ k, k < r + ws.length → w1' k = w1 k ∧ w2' k = w2 k ∧ w3' k = w3 k ∧ w4' k = w4 k ∧ w5' k = w5 k ∧ w6' k = w6 k ∧ w7' k = w7 k) → (∀ k, k < b + wsVals ws → w8' k = w8 k) → wsR f T w1 w2 w3 w4 w5 w6 w7 w8 r b ws → wsR f' T' w1' w2' w3' w4' w5' w6' w7' w8' r b ws := by
  intro ws
  induction ws with
  | nil => intro _ _ _; trivial
  | cons w ws ih =>
    intro hw hv h
    rw [wsR] at h ⊢
    rw [wsVals] at hv
    simp only [List.length_cons] at hw
    exact ⟨wtR_keep h.1 hT hf (hw _ (by omega)) (fun k hk => hv k (by omega)), ih (fun k hk => hw k (by omega)) (fun k hk => hv k (by omega)) h.2⟩
def agL (D : Nat) (k1 k2 k3 k4 k5 k6 k7 k8 k9 k10 w1 w2 w3 w4 w5 w6 w7 w8 : Nat → Int32) (k1' k2' k3' k4' k5' k6' k7' k8' k9' k10' : Nat → Int32) : Prop := ∀ d, d < D → k1' d = k1 d ∧ k2' d = k2 d ∧ k3' d = k3 d ∧ k4' d = k4 d ∧ k5' d = k5 d ∧ k6' d = k6 d ∧ k7' d = k7 d ∧ k8' d = k8 d ∧ k9' d = k9 d ∧ k10' d = k10 d
def agW (W : Nat) (w1 w2 w3 w4 w5 w6 w7 w8 : Nat → Int32) (w1' w2' w3' w4' w5' w6' w7' : Nat → Int32) : Prop := ∀ k, k < W → w1' k = w1 k ∧ w2' k = w2 k ∧ w3' k = w3 k ∧ w4' k = w4 k ∧ w5' k = w5 k ∧ w6' k = w6 k ∧ w7' k = w7 k
theorem lvR_keep {f f' : Nat → Int32} {T T' : Nat} {k1 k2 k3 k4 k5 k6 k7 k8 k9 k10 w1 w2 w3 w4 w5 w6 w7 w8 : Nat → Int32} {k1' k2' k3' k4' k5' k6' k7' k8' k9' k10' w1' w2' w3' w4' w5' w6' w7' w8' : Nat → Int32} (hT : T ≤ T') (hf : ∀ x, x < T → f' x = f x) : ∀ (L : List Lv) (F : List Fr), agL L.length k1 k2 k3 k4 k5 k6 k7 k8 k9 k10 w1 w2 w3 w4 w5 w6 w7 w8 k1' k2' k3' k4' k5' k6' k7' k8' k9' k10' → agW (lvWaits L) w1 w2 w3 w4 w5 w6 w7 w8 w1' w2' w3' w4' w5' w6' w7' → (∀ k, k < lvVals L → w8' k = w8 k) → lvR f T k1 k2 k3 k4 k5 k6 k7 k8 k9 k10 w1 w2 w3 w4 w5 w6 w7 w8 L F → lvR f' T' k1' k2' k3' k4' k5' k6' k7' k8' k9' k10' w1' w2' w3' w4' w5' w6' w7' w8' L F := by
  intro L
  induction L with
  | nil => intro F _ _ _ h; exact h
  | cons x L ih =>
    intro F hl hw hv h
    rw [lvR] at h ⊢
    obtain ⟨h1, h2⟩ := h
    simp only [List.length_cons] at hl
    rw [lvWaits] at hw
    rw [lvVals] at hv
    have hd := hl L.length (by omega)
    obtain ⟨d1, d2, d3, d4, d5, d6, d7, d8, d9, d10⟩ := hd
    refine ⟨?_, ?_⟩
    · obtain ⟨a1, a2, a3, a4, a5, a6, a7, a8, a9, a10, a11, a12⟩ := h1
      unfold lv1
      rw [d1, d2, d3, d4, d5, d6, d7, d8, d9]
      exact ⟨a1, cV_up a2 hT hf, a3, a4, a5, fun q => cV_up (a6 q) hT hf, a7, fun q => cV_up (a8 q) hT hf, a9, a10, vsR_keep a11 hT hf (fun k hk => hv k (by omega)), wsR_keep hT hf (lWs x) (fun k hk => hw k (by omega)) (fun k hk => hv k (by omega)) a12⟩
    · have hl' : agL L.length k1 k2 k3 k4 k5 k6 k7 k8 k9 k10 w1 w2 w3 w4 w5 w6 w7 w8 k1' k2' k3' k4' k5' k6' k7' k8' k9' k10' := fun d hd => hl d (by omega)
      have hw' : agW (lvWaits L) w1 w2 w3 w4 w5 w6 w7 w8 w1' w2' w3' w4' w5' w6' w7' := fun k hk => hw k (by omega)
      have hv' : ∀ k, k < lvVals L → w8' k = w8 k := fun k hk => hv k (by omega)
      split at h2
      · next hk =>
        rw [if_pos hk]
        obtain ⟨fr, F', e1, e2, e3, e4⟩ := h2
        exact ⟨fr, F', e1, e2, by rw [d10]; exact e3, ih F' hl' hw' hv' e4⟩
      · next hk =>
        rw [if_neg hk]
        exact ih F hl' hw' hv' h2
theorem agL_refl {D : Nat} {k1 k2 k3 k4 k5 k6 k7 k8 k9 k10 w1 w2 w3 w4 w5 w6 w7 w8 : Nat → Int32} : agL D k1 k2 k3 k4 k5 k6 k7 k8 k9 k10 w1 w2 w3 w4 w5 w6 w7 w8 k1 k2 k3 k4 k5 k6 k7 k8 k9 k10 := fun _ _ => ⟨rfl, rfl, rfl, rfl, rfl, rfl, rfl, rfl, rfl, rfl⟩
theorem agW_refl {W : Nat} {w1 w2 w3 w4 w5 w6 w7 w8 : Nat → Int32} : agW W w1 w2 w3 w4 w5 w6 w7 w8 w1 w2 w3 w4 w5 w6 w7 := fun _ _ => ⟨rfl, rfl, rfl, rfl, rfl, rfl, rfl⟩
theorem rGlob_up {f f' : Nat → Int32} {T T' : Nat} {cnt : Int32} {nm vl : Nat → Int32} {G : List (Nm × Tr)} (h : rGlob f T cnt nm vl G) (hT : T ≤ T') (hf : ∀ x, x < T → f' x = f x) : rGlob f' T' cnt nm vl G := ⟨h.1, h.2.1, fun k hk => ⟨cV_up (h.2.2 k hk).1 hT hf, cV_up (h.2.2 k hk).2 hT hf⟩⟩
theorem rProc_up {f f' : Nat → Int32} {T T' : Nat} {cnt : Int32} {nm ins bd : Nat → Int32} {P : List Proc} (h : rProc f T cnt nm ins bd P) (hT : T ≤ T') (hf : ∀ x, x < T → f' x = f x) : rProc f' T' cnt nm ins bd P := ⟨h.1, h.2.1, fun k hk => ⟨cV_up (h.2.2 k hk).1 hT hf, cV_up (h.2.2 k hk).2.1 hT hf, cV_up (h.2.2 k hk).2.2 hT hf⟩⟩
theorem rLoc_up {f f' : Nat → Int32} {T T' : Nat} {cnt : Int32} {nm vl : Nat → Int32} {F : List Fr} (h : rLoc f T cnt nm vl F) (hT : T ≤ T') (hf : ∀ x, x < T → f' x = f x) : rLoc f' T' cnt nm vl F := ⟨h.1, h.2.1, fun k hk => ⟨cV_up (h.2.2 k hk).1 hT hf, oV_up (h.2.2 k hk).2 hT hf⟩⟩
/-- the cells have grown: all stands as it stood -/
theorem CI_grow {g g' : Nat → Nat} {i : Nat → Int32} {a : Nat → Nat → Int32} {T T' : Nat} {G : GS} {N : LN} {F : List Fr} {L : List Lv} {f : Nat → Int32} (h : CI g i a T G N F L) (hT : T ≤ T') (hf : ∀ x, x < T → f x = a 0 x) (hg1 : T' ≤ g' 0 ∧ sA f T' = 0) (hg2 : g 0 ≤ g' 0) (hg3 : g' 0 ≤ 340000) : CI g' (upd i 8 (nI T')) (updA a 0 f) T' G N F L := by
  obtain ⟨⟨a1, a2, a3, a4, a5, a6, a7, a8, a9⟩, ⟨b1, b2, b3, b4, b5, b6, b7⟩, c1, d1, ⟨e1, e2, e3, e4⟩⟩ := h
  refine ⟨⟨rfl, ⟨by omega, hg1.2⟩, hg1.1, by omega, hg3, a6, cV_up a7 (Nat.le_refl 21) (fun x hx => hf x (by omega)), cV_up a8 (Nat.le_refl 21) (fun x hx => hf x (by omega)), cV_up a9 (Nat.le_refl 21) (fun x hx => hf x (by omega))⟩, ⟨rGlob_up b1 hT hf, rProc_up b2 hT hf, b3, b4, b5, b6, b7.1, b7.2.1, fun x hx => (hf x (Nat.lt_of_lt_of_le hx b7.2.2.2.1)).trans (b7.2.2.1 x hx), Nat.le_trans b7.2.2.2.1 hT, b7.2.2.2.2⟩, c1, rLoc_up d1 hT hf, ⟨e1, e2, e3, ?_⟩⟩
  exact lvR_keep hT hf L F agL_refl agW_refl (fun _ _ => rfl) e4

