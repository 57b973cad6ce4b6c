/-! what a piece of the reference's run leads to -/
def lvPend : List Lv → Nat
  | [] => 0
  | l :: L => (lVals l).length + (if lK l = 10 then 1 else 0) + lvPend L
/-- room, with what maps have in hand -/
def rPd (B : RB4) (N : LN) (L : List Lv) : Prop := B.2.2.1 + lvPend L ≤ 56000 + nMade N ∧ B.2.2.2 + lvPend L ≤ 56000 + nMade N
theorem rPd_same {B : RB4} {N : LN} {l l' : Lv} {R : List Lv} (h : sameL l l') (hr : rPd B N (l :: R)) : rPd B N (l' :: R) := by
  unfold rPd at hr ⊢
  rw [lvPend] at hr ⊢
  rw [h.1, h.2.2.2.2.2.2.2]
  exact hr
theorem rPd_pop {B : RB4} {N : LN} {x : Lv} {L : List Lv} (h : rPd B N (x :: L)) : rPd B N L := by
  unfold rPd at h ⊢
  rw [lvPend] at h
  omega
theorem rPd_push {B : RB4} {N : LN} {x : Lv} {L : List Lv} (h : rPd B N L) (h1 : lVals x = []) (h2 : lK x ≠ 10) : rPd B N (x :: L) := by
  unfold rPd at h ⊢
  rw [lvPend, h1, if_neg h2]
  simp only [List.length_nil]
  omega
theorem rPd_gR {B B' : RB4} {N N' : LN} {L : List Lv} (h : rPd B N L) (hg : gR_p B (nMade N) B' (nMade N')) : rPd B' N' L := by
  obtain ⟨g1, g2, g3⟩ := hg
  unfold rPd at h ⊢
  omega
def rWk (i : Nat → Int32) (j : Nat → Int64) (a : Nat → Nat → Int32) (b : Nat → Nat → Int64) (B : RB4) (bd : Nat) (G : GS) (N : LN) (F : List Fr) (L : List Lv) : Prop := rWo i j a b B bd G N F ∧ rRow a b B L ∧ rAs i G L ∧ rPd B N L
def rFull (i : Nat → Int32) (j : Nat → Int64) (a : Nat → Nat → Int32) (b : Nat → Nat → Int64) (B : RB4) (bd : Nat) (G : GS) (N : LN) (F : List Fr) (L : List Lv) : Prop := rWk i j a b B bd G N F L ∧ rLc i L
def rTop (i : Nat → Int32) (a : Nat → Nat → Int32) (b : Nat → Nat → Int64) (B : RB4) (l : Lv) : Prop := ∃ x, (i 105 = nI x ∧ x < 1000000) ∧ rV a b B (lLst l) none (vL x) ∧ i 106 = nI (lNx l)
def kT7 (b b' : Nat → Nat → Int64) (T : Nat) : Prop := ∀ k, k < T → b' 111 k = b 111 k
theorem kT7_refl {b : Nat → Nat → Int64} {T : Nat} : kT7 b b T := fun _ _ => rfl
theorem kT7_trans {b b' b2 : Nat → Nat → Int64} {T T' : Nat} (h : kT7 b b' T) (h' : kT7 b' b2 T') (hT : T ≤ T') : kT7 b b2 T := fun k hk => (h' k (by omega)).trans (h k hk)
def lvSt (i : Nat → Int32) (j : Nat → Int64) (a : Nat → Nat → Int32) (b : Nat → Nat → Int64) (B : RB4) (lv e : Nat) (t : Tr) : Prop := (lv = 2 → i 126 = nI e) ∧ (lv = 3 → isW t = true ∧ rV a b B t none (j 109)) ∧ (lv = 5 → rV a b B t none (j 110)) ∧ (lv = 6 → i 126 = nI 13)
/-- it stands -/
def pStd (i : Nat → Int32) (j : Nat → Int64) (a : Nat → Nat → Int32) (b : Nat → Nat → Int64) (B : RB4) (bd : Nat) (c0 : Cfg) : Prop := ∃ c', i 102 = 1 ∧ To bd c0 c' ∧ aStands bd c' ∧ cSt c' = 1 ∧ aInv2 c' ∧ rFull i j a b B bd c'.1 c'.2.1 c'.2.2.1 c'.2.2.2.1
/-- it leaves -/
def pLv (i : Nat → Int32) (j : Nat → Int64) (a : Nat → Nat → Int32) (b : Nat → Nat → Int64) (B : RB4) (bd : Nat) (c0 : Cfg) (l : Lv) (R : List Lv) (b0 : Nat → Nat → Int64) (T : Nat) : Prop := ∃ G' N' F' l' lv e t, i 102 = nI lv ∧ lvOK lv e t (l' :: R) ∧ lvSt i j a b B lv e t ∧ To bd c0 (aLV lv e t G' N' F' (l' :: R)) ∧ sameL l l' ∧ nState N' = 1 ∧ IV G' N' F' (l' :: R) ∧ rWk i j a b B bd G' N' F' (l' :: R) ∧ kT7 b0 b T
def PG (bd : Nat) (c0 : Cfg) (l : Lv) (R : List Lv) (T : Nat) (i : Nat → Int32) (j : Nat → Int64) (a : Nat → Nat → Int32) (b : Nat → Nat → Int64) (B : RB4) (Z : (Nat → Int32) → (Nat → Int64) → (Nat → Nat → Int32) → (Nat → Nat → Int64) → Int64 → RB4 → Prop) (o : Option ((Nat → Int32) × (Nat → Int64) × (Nat → Nat → Int32) × (Nat → Nat → Int64) × Int64)) : Prop :=
  ∃ i' j' a' b' v B', o = some (i', j', a', b', v) ∧ rUp a b B a' b' B' ∧ rFm i j a b i' j' a' b' ∧ ((i' 102 = 0 ∧ Z i' j' a' b' v B') ∨ pStd i' j' a' b' B' bd c0 ∨ pLv i' j' a' b' B' bd c0 l R b T)
/-- a value has come, or none -/
def ZE (bd : Nat) (c0 : Cfg) (l : Lv) (R : List Lv) (T : Nat) (b0 : Nat → Nat → Int64) (ok : Lv → Prop) (i : Nat → Int32) (j : Nat → Int64) (a : Nat → Nat → Int32) (b : Nat → Nat → Int64) (v : Int64) (B : RB4) : Prop := ∃ G' N' F' l' got, To bd c0 (G', N', F', l' :: R, 1, got, none) ∧ ok l' ∧ sameL l l' ∧ nState N' = 1 ∧ nDone c0.2.1 ≤ nDone N' ∧ IV G' N' F' (l' :: R) ∧ rFull i j a b B bd G' N' F' (l' :: R) ∧ rTop i a b B l' ∧ i 107 = nI T ∧ kT7 b0 b T ∧ rO a b B got v
/-- a list is through -/
def ZR (bd : Nat) (c0 : Cfg) (l : Lv) (R : List Lv) (T : Nat) (i0 : Nat → Int32) (b0 : Nat → Nat → Int64) (i : Nat → Int32) (j : Nat → Int64) (a : Nat → Nat → Int32) (b : Nat → Nat → Int64) (v : Int64) (B : RB4) : Prop := ∃ G' N' F' l' got, To bd c0 (G', N', F', l' :: R, 2, got, none) ∧ sameL l l' ∧ lWs l' = [] ∧ (lK l < 6 → got = none) ∧ nState N' = 1 ∧ nDone c0.2.1 ≤ nDone N' ∧ IV G' N' F' (l' :: R) ∧ rFull i j a b B bd G' N' F' (l' :: R) ∧ i 105 = i0 105 ∧ i 106 = i0 106 ∧ i 107 = nI T ∧ kT7 b0 b T ∧ rO a b B got v
theorem pLv_pre {i : Nat → Int32} {j : Nat → Int64} {a : Nat → Nat → Int32} {b : Nat → Nat → Int64} {B : RB4} {bd : Nat} {c0 c1 : Cfg} {l l1 : Lv} {R : List Lv} {b0 b1 : Nat → Nat → Int64} {T T' : Nat} (h : pLv i j a b B bd c0 l R b1 T') (ht : To bd c1 c0) (hs : sameL l1 l) (hk : kT7 b0 b1 T) (hT : T ≤ T') : pLv i j a b B bd c1 l1 R b0 T := by
  obtain ⟨G', N', F', l', lv, e, t, h1, h2, h3, h4, h5, h6, h7, h8, h9⟩ := h
  exact ⟨G', N', F', l', lv, e, t, h1, h2, h3, To_trans ht h4, sameL_trans hs h5, h6, h7, h8, kT7_trans hk h9 hT⟩
theorem pStd_pre {i : Nat → Int32} {j : Nat → Int64} {a : Nat → Nat → Int32} {b : Nat → Nat → Int64} {B : RB4} {bd : Nat} {c0 c1 : Cfg} (h : pStd i j a b B bd c0) (ht : To bd c1 c0) : pStd i j a b B bd c1 := by
  obtain ⟨c', h1, h2, h3⟩ := h
  exact ⟨c', h1, To_trans ht h2, h3⟩
theorem PG_bind {bd : Nat} {c0 c1 : Cfg} {l l1 : Lv} {R : List Lv} {T T' : Nat} {i : Nat → Int32} {j : Nat → Int64} {a : Nat → Nat → Int32} {b : Nat → Nat → Int64} {i0 : Nat → Int32} {j0 : Nat → Int64} {a0 : Nat → Nat → Int32} {b0 : Nat → Nat → Int64} {B B0 : RB4} {Z Z' : (Nat → Int32) → (Nat → Int64) → (Nat → Nat → Int32) → (Nat → Nat → Int64) → Int64 → RB4 → Prop} {o : Option ((Nat → Int32) × (Nat → Int64) × (Nat → Nat → Int32) × (Nat → Nat → Int64) × Int64)} {K : (Nat → Int32) → (Nat → Int64) → (Nat → Nat → Int32) → (Nat → Nat → Int64) → Int64 → Option ((Nat → Int32) × (Nat → Int64) × (Nat → Nat → Int32) × (Nat → Nat → Int64) × Int64)} (h : PG bd c0 l R T' i j a b B Z o) (ht : To bd c1 c0) (hs : sameL l1 l) (hu : rUp a0 b0 B0 a b B) (hf : rFm i0 j0 a0 b0 i j a b) (hk7 : kT7 b0 b T) (hT : T ≤ T') (h0 : ∀ i' j' a' b' v B', rUp a b B a' b' B' → rFm i j a b i' j' a' b' → i' 102 = 0 → Z i' j' a' b' v B' → PG bd c1 l1 R T i0 j0 a0 b0 B0 Z' (K i' j' a' b' v)) (h1 : ∀ i' j' a' b' v, i' 102 ≠ 0 → ∃ w, K i' j' a' b' v = some (i', j', a', b', w)) : PG bd c1 l1 R T i0 j0 a0 b0 B0 Z' (om o K) := by
  obtain ⟨i', j', a', b', v, B', e1, e2, e3, e4⟩ := h
  rw [e1, om_s]
  rcases e4 with ⟨e4, e5⟩ | e4 | e4
  · exact h0 i' j' a' b' v B' e2 e3 e4 e5
  · have hne : i' 102 ≠ 0 := by
      obtain ⟨c', g1, _⟩ := e4
      rw [g1]; decide
    obtain ⟨w, ew⟩ := h1 i' j' a' b' v hne
    exact ⟨i', j', a', b', w, B', ew, rUp_trans hu e2, rFm_trans hf e3, Or.inr (Or.inl (pStd_pre e4 ht))⟩
  · have hne : i' 102 ≠ 0 := by
      obtain ⟨G', N', F', l', lv, e, t, g1, g2, _⟩ := e4
      rw [g1]
      have h2 := g2.1
      have h6 := g2.2.1
      intro hc
      have := (nI_eq (by omega) (by omega)).mp (show nI lv = nI 0 from hc)
      omega
    obtain ⟨w, ew⟩ := h1 i' j' a' b' v hne
    exact ⟨i', j', a', b', w, B', ew, rUp_trans hu e2, rFm_trans hf e3, Or.inr (Or.inr (pLv_pre e4 ht hs hk7 hT))⟩
/-- what came before is put in front -/
theorem PG_pre {bd : Nat} {c0 c1 : Cfg} {l l1 : Lv} {R : List Lv} {T T' : Nat} {i : Nat → Int32} {j : Nat → Int64} {a : Nat → Nat → Int32} {b : Nat → Nat → Int64} {i0 : Nat → Int32} {j0 : Nat → Int64} {a0 : Nat → Nat → Int32} {b0 : Nat → Nat → Int64} {B B0 : RB4} {Z Z' : (Nat → Int32) → (Nat → Int64) → (Nat → Nat → Int32) → (Nat → Nat → Int64) → Int64 → RB4 → Prop} {o : Option ((Nat → Int32) × (Nat → Int64) × (Nat → Nat → Int32) × (Nat → Nat → Int64) × Int64)} (h : PG bd c0 l R T' i j a b B Z o) (ht : To bd c1 c0) (hs : sameL l1 l) (hu : rUp a0 b0 B0 a b B) (hf : rFm i0 j0 a0 b0 i j a b) (hk7 : kT7 b0 b T) (hT : T ≤ T') (h0 : ∀ i' j' a' b' v B', Z i' j' a' b' v B' → Z' i' j' a' b' v B') : PG bd c1 l1 R T i0 j0 a0 b0 B0 Z' o := by
  obtain ⟨i', j', a', b', v, B', e1, e2, e3, e4⟩ := h
  refine ⟨i', j', a', b', v, B', e1, rUp_trans hu e2, rFm_trans hf e3, ?_⟩
  rcases e4 with ⟨e4, e5⟩ | e4 | e4
  · exact Or.inl ⟨e4, h0 _ _ _ _ _ _ e5⟩
  · exact Or.inr (Or.inl (pStd_pre e4 ht))
  · exact Or.inr (Or.inr (pLv_pre e4 ht hs hk7 hT))
def woI : List Nat := [18, 19, 20, 21, 33, 36, 46, 47, 93, 95, 96, 99]
theorem rWo_i {i : Nat → Int32} {j : Nat → Int64} {a : Nat → Nat → Int32} {b : Nat → Nat → Int64} {i' : Nat → Int32} {B : RB4} {bd : Nat} {G : GS} {N : LN} {F : List Fr} (h : rWo i j a b B bd G N F) (hi : ∀ q, q ∈ woI → i' q = i q) : rWo i' j a b B bd G N F := by
  obtain ⟨⟨w1, w2, w3⟩, w4, ⟨w5, w6, w7⟩, w8, ⟨w9, w10⟩, w11, ⟨w12, w13⟩, w14, ⟨w15, w16, w17⟩, w18, w19⟩ := id h
  have hu := rUp_refl (a := a) (b := b) (rWo_B h)
  exact ⟨⟨rB_i w1 (hi 18 (by decide)) (hi 19 (by decide)) (hi 20 (by decide)) (hi 21 (by decide)), w2, w3⟩, w4, ⟨w5, w6, (hi 99 (by decide)).trans w7⟩, rGl_up hu (hi 36 (by decide)) (fun _ _ => ⟨rfl, rfl⟩) w8, ⟨rPr_up hu (hi 33 (by decide)) (fun _ _ => ⟨rfl, rfl, rfl⟩) (fun _ _ => rfl) w9, w10⟩, rTu_up w11 (fun _ _ _ => rfl) (hi 47 (by decide)), ⟨w12, w13⟩, (hi 46 (by decide)).trans w14, ⟨(hi 93 (by decide)).trans w15, (hi 95 (by decide)).trans w16, (hi 96 (by decide)).trans w17⟩, w18, w19⟩
theorem rAs_i {i i' : Nat → Int32} {G : GS} {L : List Lv} (h : rAs i G L) (h1 : i' 118 = i 118) (h2 : i' 103 = i 103) (h3 : i' 104 = i 104) : rAs i' G L := ⟨h1.trans h.1, h2.trans h.2.1, fun hp => h3.trans (h.2.2 hp)⟩
theorem rLc_i {i i' : Nat → Int32} {L : List Lv} (h : rLc i L) (h1 : i' 97 = i 97) (h2 : i' 98 = i 98) (h3 : i' 116 = i 116) (h4 : i' 117 = i 117) : rLc i' L := ⟨h1.trans h.1, h2.trans h.2.1, h3.trans h.2.2.1, h4.trans h.2.2.2⟩
theorem lvTold_same {l l' : Lv} {R : List Lv} (h : sameL l l') (t : Nat) : lvTold (l' :: R) t = lvTold (l :: R) t := by
  rw [lvTold, lvTold, h.1, h.2.2.1]
theorem lvCn_same {p : Nat → Bool} {l l' : Lv} {R : List Lv} (h : sameL l l') : lvCn p (l' :: R) = lvCn p (l :: R) := by rw [lvCn, lvCn, h.1]
theorem rAs_same {i : Nat → Int32} {G : GS} {l l' : Lv} {R : List Lv} (h : sameL l l') (hr : rAs i G (l :: R)) : rAs i G (l' :: R) := by
  unfold rAs
  rw [lvCn_same h, lvCn_same h, lvTold_same h]
  exact hr
theorem rWk_same {i : Nat → Int32} {j : Nat → Int64} {a : Nat → Nat → Int32} {b : Nat → Nat → Int64} {B : RB4} {bd : Nat} {G : GS} {N : LN} {F : List Fr} {l l' : Lv} {R : List Lv} (h : sameL l l') (hr : rWk i j a b B bd G N F (l :: R)) : rWk i j a b B bd G N F (l' :: R) := ⟨hr.1, rRow_same h hr.2.1, rAs_same h hr.2.2.1, rPd_same h hr.2.2.2⟩
/-- i at ints that don't matter here -/
theorem rWk_i {i : Nat → Int32} {j : Nat → Int64} {a : Nat → Nat → Int32} {b : Nat → Nat → Int64} {i' : Nat → Int32} {B : RB4} {bd : Nat} {G : GS} {N : LN} {F : List Fr} {L : List Lv} (h : rWk i j a b B bd G N F L) (hi : ∀ q, q ∈ woI ++ [118, 103, 104] → i' q = i q) : rWk i' j a b B bd G N F L := ⟨rWo_i h.1 (fun q hq => hi q (List.mem_append_left _ hq)), h.2.1, rAs_i h.2.2.1 (hi 118 (by decide)) (hi 103 (by decide)) (hi 104 (by decide)), h.2.2.2⟩
theorem rFail_at {i : Nat → Int32} {e : Nat} : ∀ q, q ∈ woI ++ [118, 103, 104] → rFail i e q = i q := fun q hq => by
  unfold rFail
  rw [upd_ne (fun h => by subst h; revert hq; decide), upd_ne (fun h => by subst h; revert hq; decide)]
/-- an error here -/
theorem PG_fail {bd : Nat} {c1 : Cfg} {l l' : Lv} {R : List Lv} {T : Nat} {i : Nat → Int32} {j : Nat → Int64} {a : Nat → Nat → Int32} {b : Nat → Nat → Int64} {i0 : Nat → Int32} {j0 : Nat → Int64} {a0 : Nat → Nat → Int32} {b0 : Nat → Nat → Int64} {B B0 : RB4} {Z : (Nat → Int32) → (Nat → Int64) → (Nat → Nat → Int32) → (Nat → Nat → Int64) → Int64 → RB4 → Prop} {G : GS} {N : LN} {F : List Fr} {e : Nat} {v : Int64} (he : e ≤ 13) (ht : To bd c1 (aFail e G N F (l' :: R))) (hs : sameL l l') (hN : nState N = 1) (hI : IV G N F (l' :: R)) (hw : rWk i j a b B bd G N F (l' :: R)) (hu : rUp a0 b0 B0 a b B) (hf : rFm i0 j0 a0 b0 i j a b) (hk : kT7 b0 b T) : PG bd c1 l R T i0 j0 a0 b0 B0 Z (some (rFail i e, j, a, b, v)) :=
  ⟨rFail i e, j, a, b, v, B, rfl, hu, rFm_trans hf ⟨fun q hq => rFail_up q (fun h => hq (upI_ch q h)), fun _ _ => rfl, fun _ _ => rfl, fun _ _ => rfl⟩, Or.inr (Or.inr ⟨G, N, F, l', 2, e, .nil, rfl, ⟨by decide, by decide, he, (fun h => by omega), (fun h => by omega)⟩, ⟨fun _ => rfl, (fun h => by omega), (fun h => by omega), (fun h => by omega)⟩, ht, hs, hN, hI, rWk_i hw rFail_at, hk⟩)⟩
/-- a word's result -/
theorem rRow_ct {a a' : Nat → Nat → Int32} {b b' : Nat → Nat → Int64} {B B' : RB4} {i i' : Nat → Int32} {L : List Lv} (hu : rUp a b B a' b' B') (h : rCt i a b i' a' b') (hr : rRow a b B L) : rRow a' b' B' L := rRow_up hu L hr (fun x _ => by rw [h.2.1 119 (by decide), h.2.1 120 (by decide)]; exact ⟨rfl, rfl⟩) (fun x _ => by rw [h.2.1 121 (by decide), h.2.2 122 (by decide)]; exact ⟨rfl, rfl⟩) (fun x _ => by rw [h.2.2 123 (by decide)])
theorem rTop_ct {a a' : Nat → Nat → Int32} {b b' : Nat → Nat → Int64} {B B' : RB4} {i i' : Nat → Int32} {l : Lv} (hu : rUp a b B a' b' B') (h1 : i' 105 = i 105) (h2 : i' 106 = i 106) (ht : rTop i a b B l) : rTop i' a' b' B' l := by
  obtain ⟨x, e1, e2, e3⟩ := ht
  exact ⟨x, ⟨h1.trans e1.1, e1.2⟩, (rV_up hu _).1 _ e2, h2.trans e3⟩
def gTL (G : GS) : Nat := gTold G
/-- where a word has been applied -/
theorem PG_vr {bd : Nat} {c1 : Cfg} {l l1 : Lv} {R : List Lv} {T : Nat} {i : Nat → Int32} {j : Nat → Int64} {a : Nat → Nat → Int32} {b : Nat → Nat → Int64} {i0 : Nat → Int32} {j0 : Nat → Int64} {a0 : Nat → Nat → Int32} {b0 : Nat → Nat → Int64} {B B0 : RB4} {G : GS} {N : LN} {F : List Fr} {r : VRes} {o : Option ((Nat → Int32) × (Nat → Int64) × (Nat → Nat → Int32) × (Nat → Nat → Int64) × Int64)} {ok : Lv → Prop} {T' : Nat} (h : VR i j a b B bd G N F r o) (ht : To bd c1 (eC r G N F (l :: R))) (hv : aInv2 (eC r G N F (l :: R))) (he : ∀ e, r = .error e → e ≤ 13) (hst : ∀ G' N' F' v, r = .ok (G', N', F', v) → nState N' = 1 ∧ nDone N' = nDone N) (hI : IV G N F (l :: R)) (hN : nState N = 1) (hd : nDone c1.2.1 ≤ nDone N) (h102 : i 102 = 0) (hr : rRow a b B (l :: R)) (has : rAs i G (l :: R)) (hpd : rPd B N (l :: R)) (hasr : ∀ i' G' N' F' v, r = .ok (G', N', F', v) → (∀ q, q ∈ ctI → i' q = i q) → rAs i' G' (l :: R)) (hl : rLc i (l :: R)) (htp : rTop i a b B l) (h107 : i 107 = nI T') (hs : sameL l1 l) (hok : ok l) (hu : rUp a0 b0 B0 a b B) (hf : rFm i0 j0 a0 b0 i j a b) (hk : kT7 b0 b T) : PG bd c1 l1 R T i0 j0 a0 b0 B0 (fun i' j' a' b' v B' => ∃ G' N' F' got, To bd c1 (G', N', F', l :: R, 1, got, none) ∧ nState N' = 1 ∧ nDone c1.2.1 ≤ nDone N' ∧ IV G' N' F' (l :: R) ∧ rFull i' j' a' b' B' bd G' N' F' (l :: R) ∧ rTop i' a' b' B' l ∧ i' 107 = nI T' ∧ b' 111 = b 111 ∧ rO a' b' B' got v) o := by
  obtain ⟨i', j', a', b', v, B', e1, e2, e3, e4, e5⟩ := h
  refine ⟨i', j', a', b', v, B', e1, rUp_trans hu e2, rFm_trans hf e3, ?_⟩
  match r, e5 with
  | .error e, ⟨g1, g2, g3, g4⟩ =>
    refine Or.inr (Or.inr ⟨G, N, F, l, 2, e, .nil, g1, ⟨by decide, by decide, he e rfl, (fun h => by omega), (fun h => by omega)⟩, ⟨fun _ => g2, (fun h => by omega), (fun h => by omega), (fun h => by omega)⟩, ht, hs, hN, hI, ⟨g3, rRow_ct e2 e4 hr, rAs_i has (e4.1 118 (by decide)) (e4.1 103 (by decide)) (e4.1 104 (by decide)), rPd_gR hpd g4⟩, fun k hk9 => by rw [e4.2.2 111 (by decide)]; exact hk k hk9⟩)
  | .ok (G', N', F', got), ⟨g1, g2, g3, g4⟩ =>
    obtain ⟨s1, s2⟩ := hst G' N' F' got rfl
    refine Or.inl ⟨g1.trans h102, G', N', F', got, ht, s1, by omega, iv_of hv, ⟨⟨g2, rRow_ct e2 e4 hr, hasr i' G' N' F' got rfl e4.1, rPd_gR hpd g4⟩, rLc_i hl (e4.1 97 (by decide)) (e4.1 98 (by decide)) (e4.1 116 (by decide)) (e4.1 117 (by decide))⟩, rTop_ct e2 (e4.1 105 (by decide)) (e4.1 106 (by decide)) htp, (e4.1 107 (by decide)).trans h107, e4.2.2 111 (by decide), g3⟩
/-- an instruction begins, or it stands, or it was too long -/
theorem PG_begins {n bd : Nat} {c1 : Cfg} {l l1 : Lv} {R : List Lv} {T ph : Nat} {got : Option Tr} {rd : Option Wt} {i : Nat → Int32} {j : Nat → Int64} {a : Nat → Nat → Int32} {b : Nat → Nat → Int64} {i0 : Nat → Int32} {j0 : Nat → Int64} {a0 : Nat → Nat → Int32} {b0 : Nat → Nat → Int64} {B B0 : RB4} {G : GS} {N : LN} {F : List Fr} {Z : (Nat → Int32) → (Nat → Int64) → (Nat → Nat → Int32) → (Nat → Nat → Int64) → Int64 → RB4 → Prop} {K : (Nat → Int32) → (Nat → Int64) → (Nat → Nat → Int32) → (Nat → Nat → Int64) → Int32 → Option ((Nat → Int32) × (Nat → Int64) × (Nat → Nat → Int32) × (Nat → Nat → Int64) × Int64)} (ht : To bd c1 (G, N, F, l :: R, ph, got, rd)) (hph : ph = 3 ∨ ph = 4) (hv : aInv2 (G, N, F, l :: R, ph, got, rd)) (hN : nState N = 1) (h : rFull i j a b B bd G N F (l :: R)) (hs : sameL l1 l) (hu : rUp a0 b0 B0 a b B) (hf : rFm i0 j0 a0 b0 i j a b) (hk : kT7 b0 b T) (h0 : ∀ i', i' 102 ≠ 0 → ∃ w, K i' j a b 0 = some (i', j, a, b, w)) (h1 : nDone N < 20000 → nDone N < bd → To bd c1 (aApply (G, N, F, l :: R, ph, got, rd)) → PG bd c1 l1 R T i0 j0 a0 b0 B0 Z (K (upd i 93 (nI (nDone N + 1))) j a b 1)) : PG bd c1 l1 R T i0 j0 a0 b0 B0 Z (om (m_Model_begins n i j a b) K) := by
  have h93 : i 93 = nI (nDone N) := h.1.1.2.2.2.2.2.2.2.2.1.1
  have h108 := h.1.1.2.2.2.2.2.2.2.2.2.1
  have hbd := h.1.1.2.2.2.2.2.2.2.2.2.2
  have hd : nDone N ≤ 20000 := (iv_of hv).2.1.2.2.1
  unfold m_Model_begins
  rw [h93, h108]
  rcases (by omega : nDone N = 20000 ∨ nDone N < 20000) with c | c
  · rw [c, if_pos (by decide), ob1_s, ob1_s, om_s]
    obtain ⟨w, ew⟩ := h0 (upd (upd i 102 6) 126 13) (by rw [upd_ne (by decide), upd_at]; decide)
    rw [ew]
    have tl := To_long (bd := bd) (c := (G, N, F, l :: R, ph, got, rd)) hN (by show 3 ≤ ph; omega) (by show 20000 ≤ nDone N; omega)
    refine ⟨_, _, _, _, _, B, rfl, hu, rFm_trans hf (rFm_trans (rFm_i (k := 102) (by decide)) (rFm_i (by decide))), Or.inr (Or.inr ⟨G, N, F, l, 6, 0, .nil, rfl, ⟨by decide, by decide, by decide, (fun h => by omega), (fun h => by omega)⟩, ⟨(fun h => by omega), (fun h => by omega), (fun h => by omega), fun _ => rfl⟩, To_trans ht tl, hs, hN, iv_of hv, rWk_i h.1 (fun q hq => by rw [upd_ne (fun h => by subst h; revert hq; decide), upd_ne (fun h => by subst h; revert hq; decide)]), hk⟩)⟩
  · rw [show (20000 : Int32) = nI 20000 from rfl, ieq_n (by omega), nI_ofInt, i32_64 (by omega) (by omega)]
    rcases Nat.lt_or_ge (nDone N) bd with d | d
    · rw [if_pos ((lg_lt (by omega) (by omega)).mpr (by omega)), ob1_s, ob1_s, om_s]
      have := h1 c d (To_trans ht (To_apply hN (by show 3 ≤ ph; omega) (by show nDone N < 20000; omega) (by show nDone N < bd; omega)))
      rw [show Int32.ofInt ((nDone N : Nat) : Int) + 1 = nI (nDone N + 1) from nI_add (nDone N) 1]
      exact this
    · rw [if_neg (fun e => by have := (lg_lt (by omega) (by omega)).mp e; omega), ob1_s, om_s]
      obtain ⟨w, ew⟩ := h0 (upd i 102 1) (by rw [upd_at]; decide)
      rw [ew]
      refine ⟨_, _, _, _, _, B, rfl, hu, rFm_trans hf (rFm_i (by decide)), Or.inr (Or.inl ⟨_, upd_at, ht, Or.inr ⟨by show 3 ≤ ph; omega, c, d⟩, hN, hv, ?_⟩)⟩
      exact ⟨rWk_i h.1 (fun q hq => upd_ne (fun h => by subst h; revert hq; decide)), rLc_i h.2 (upd_ne (by decide)) (upd_ne (by decide)) (upd_ne (by decide)) (upd_ne (by decide))⟩

