/-! words for names and procedures, as results -/
theorem rCp_eq {a : Nat → Nat → Int32} : ∀ (F F' : List Fr), F'.map (·.1) = F.map (·.1) → rCp a F → rCp a F' := by
  intro F
  induction F with
  | nil =>
    intro F' e _
    cases F' with
    | nil => trivial
    | cons f F' => cases e
  | cons g F ih =>
    intro F' e h
    cases F' with
    | nil => cases e
    | cons f F' =>
      have e1 : f.1 = g.1 := (List.cons.inj e).1
      have e2 := (List.cons.inj e).2
      have el : F'.length = F.length := by have := congrArg List.length e2; rwa [List.length_map, List.length_map] at this
      exact ⟨by rw [el, e1]; exact h.1, ih F' e2 h.2⟩
theorem fSet_fst (w : Nm) (v : Tr) : ∀ F : List Fr, (fSet F w v).map (·.1) = F.map (·.1) := by
  intro F
  induction F with
  | nil => rfl
  | cons f F ih =>
    rw [fSet]
    split
    · rfl
    · rw [List.map_cons, List.map_cons, ih]
theorem make_fst {w : Nm} {v : Tr} {g g' : GS} {F F' : List Fr} (h : aMake w v g F = .ok (g', F')) : g' = gSetGlob g (gGlob g') ∧ F'.map (·.1) = F.map (·.1) := by
  unfold aMake at h
  split at h
  · cases h; exact ⟨rfl, fSet_fst _ _ _⟩
  · split at h
    · cases h
    · split at h
      · cases h; exact ⟨rfl, rfl⟩
      · split at h
        · cases h
        · cases h; exact ⟨rfl, rfl⟩
theorem local_fst {w : Nm} {F F' : List Fr} (h : aLocal w F = .ok F') : F'.map (·.1) = F.map (·.1) := by
  unfold aLocal at h
  split at h
  · cases h
  · split at h
    · cases h; rfl
    · split at h
      · cases h
      · cases h; rfl
theorem len_map {F F' : List Fr} (e : F'.map (·.1) = F.map (·.1)) : F'.length = F.length := by have := congrArg List.length e; rwa [List.length_map, List.length_map] at this
/-- the result of a word for names -/
def rOth (code : Nat) (v u : Tr) (G : GS) (N : LN) (F : List Fr) : VRes :=
  if code = 50 then (match aMake (tLet v) u G F with
    | .ok (g', F') => .ok (g', N, F', none)
    | .error e => .error e)
  else if code = 51 then (match aLocal (tLet v) F with
    | .ok F' => .ok (G, N, F', none)
    | .error e => .error e)
  else if code = 52 then (match aFind F (gGlob G) (tLet v) with
    | none => .error 2
    | some x => .ok (G, N, F, some x))
  else if code = 53 then .ok (G, N, F, some (aTruth (aFind F (gGlob G) (tLet v)).isSome))
  else if code = 54 then (match aDefine (tLet v) u (gProcs G) with
    | .ok ps => .ok (gSetProcs G ps, N, F, none)
    | .error e => .error e)
  else if code = 55 then .ok (G, N, F, some (tN (match pFind (gProcs G) (tLet v) with
    | none => -1
    | some k => match (gProcs G)[k]? with
      | none => -1
      | some p => (p.2.1.length : Int))))
  else if code = 56 then (match pFind (gProcs G) (tLet v) with
    | none => .error 1
    | some k => match (gProcs G)[k]? with
      | none => .error 1
      | some p => .ok (G, N, F, some p.2.2))
  else if code = 57 then .ok (aPrint v true true G, N, F, none)
  else if code = 58 then .ok (aPrint v false true G, N, F, none)
  else .ok (aPrint v true false G, N, F, none)
theorem eC_O {code : Nat} {v u : Tr} {G : GS} {N : LN} {F : List Fr} {L : List Lv} : aOther code v u G N F L = eC (rOth code v u G N F) G N F L := by
  unfold aOther rOth
  split
  · cases aMake (tLet v) u G F with
    | error e => rfl
    | ok p => rfl
  split
  · cases aLocal (tLet v) F with
    | error e => rfl
    | ok p => rfl
  split
  · cases aFind F (gGlob G) (tLet v) with
    | none => rfl
    | some x => rfl
  split
  · rfl
  split
  · cases aDefine (tLet v) u (gProcs G) with
    | error e => rfl
    | ok p => rfl
  split
  · rfl
  split
  · cases pFind (gProcs G) (tLet v) with
    | none => rfl
    | some k =>
      dsimp only
      cases (gProcs G)[k]? with
      | none => rfl
      | some p => rfl
  split
  · rfl
  split
  · rfl
  · rfl
theorem VR_make {n : Nat} {i : Nat → Int32} {j : Nat → Int64} {a : Nat → Nat → Int32} {b : Nat → Nat → Int64} {B : RB4} {bd : Nat} {G : GS} {N : LN} {F : List Fr} {t u : Tr} {x y : Int64} (hn : 1000 ≤ n) (h : rWo i j a b B bd G N F) (hF : F.length ≤ 150) (ht : rV a b B t none x) (hw : isW t = true) (hu : rV a b B u none y) : VR i j a b B bd G N F (rOth 50 t u G N F) (om (m_Model_make n i j a b x y) (fun i j a b r => some (i, j, a, b, r))) := by
  obtain ⟨w, rfl, hx⟩ := r_isW_eq ht hw
  obtain ⟨⟨w1, w2, w3⟩, w4, ⟨w5, w6, w7⟩, w8, ⟨w9, w10⟩, w11, ⟨w12, w13⟩, w14, ⟨w15, w16, w17⟩, w18, w19⟩ := id h
  show VR i j a b B bd G N F (match aMake (tLet t) u G F with | .ok (g', F') => .ok (g', N, F', none) | .error e => .error e) _
  rcases r_make (n := n) (i := i) (j := j) (g := G) hn (rWo_B h) hx hu w7 w5 w8 hF with ⟨e, e1, e2⟩ | ⟨g', F', i', a', b', e1, e2, e3, e4, e5, e6, e7⟩
  · rw [e1, e2, om_s]
    exact VR_fail h rfl
  · obtain ⟨m1, m2⟩ := make_fst e1
    rw [e1, e2, om_s]
    have hs : rSame a a' b b' := ⟨e6 1 (by decide), e6 3 (by decide), e6 4 (by decide), e6 12 (by decide), e6 13 (by decide), e6 14 (by decide), e7 10 (by decide) (by decide)⟩
    have hup := rUp_same hs (rWo_B h)
    refine ⟨i', j, a', b', 3, B, rfl, hup, ⟨fun q hq => e5 q (nm_ne hq (by decide)), fun _ _ => rfl, fun q hq => e6 q (nm_ne hq (by decide)), fun q hq => e7 q (nm_ne hq (by decide)) (nm_ne hq (by decide))⟩, ⟨fun q hq => e5 q (fun e => by subst e; revert hq; decide), fun q hq => e6 q (fun e => by subst e; revert hq; decide), fun q hq => e7 q (fun e => by subst e; revert hq; decide) (fun e => by subst e; revert hq; decide)⟩, e5 102 (by decide), ?_, rfl, gR_refl⟩
    rw [m1]
    exact ⟨⟨rB_i w1 (e5 18 (by decide)) (e5 19 (by decide)) (e5 20 (by decide)) (e5 21 (by decide)), rC_same hs (e6 7 (by decide)) (e7 9 (by decide) (by decide)) (rWo_B h) w2, w3⟩, rTr_up hup w4 rfl rfl, ⟨e3, rCp_eq _ _ m2 (rCp_up (e6 112 (by decide)) F w6), by rw [len_map m2]; exact (e5 99 (by decide)).trans w7⟩, e4, ⟨rPr_up hup (e5 33 (by decide)) (fun m _ => by rw [e6 29 (by decide), e6 30 (by decide), e7 32 (by decide) (by decide)]; exact ⟨rfl, rfl, rfl⟩) (fun m _ => by rw [e6 31 (by decide)]) w9, w10⟩, rTu_up w11 (fun q h1 h2 => e6 q (by omega)) (e5 47 (by decide)), ⟨rOut_up w12 rfl (e6 45 (by decide)), w13⟩, (e5 46 (by decide)).trans w14, ⟨(e5 93 (by decide)).trans w15, (e5 95 (by decide)).trans w16, (e5 96 (by decide)).trans w17⟩, w18, w19⟩
theorem VR_local {n : Nat} {i : Nat → Int32} {j : Nat → Int64} {a : Nat → Nat → Int32} {b : Nat → Nat → Int64} {B : RB4} {bd : Nat} {G : GS} {N : LN} {F : List Fr} {t u : Tr} {x : Int64} (hn : 1000 ≤ n) (h : rWo i j a b B bd G N F) (ht : rV a b B t none x) (hw : isW t = true) : VR i j a b B bd G N F (rOth 51 t u G N F) (om (m_Model_local n i j a b x) (fun i j a b r => some (i, j, a, b, r))) := by
  obtain ⟨w, rfl, hx⟩ := r_isW_eq ht hw
  obtain ⟨⟨w1, w2, w3⟩, w4, ⟨w5, w6, w7⟩, w8, ⟨w9, w10⟩, w11, ⟨w12, w13⟩, w14, ⟨w15, w16, w17⟩, w18, w19⟩ := id h
  show VR i j a b B bd G N F (match aLocal (tLet t) F with | .ok F' => .ok (G, N, F', none) | .error e => .error e) _
  rcases r_local (n := n) (i := i) (j := j) hn (rWo_B h) hx w7 w5 with ⟨e, e1, e2⟩ | ⟨F', a', b', e1, e2, e3, e6, e7⟩
  · rw [e1, e2, om_s]
    exact VR_fail h rfl
  · have m2 := local_fst e1
    rw [e1, e2, om_s]
    have hs : rSame a a' b b' := ⟨e6 1 (by decide) (by decide), e6 3 (by decide) (by decide), e6 4 (by decide) (by decide), e6 12 (by decide) (by decide), e6 13 (by decide) (by decide), e6 14 (by decide) (by decide), e7 10 (by decide)⟩
    have hup := rUp_same hs (rWo_B h)
    refine ⟨i, j, a', b', 3, B, rfl, hup, ⟨fun _ _ => rfl, fun _ _ => rfl, fun q hq => e6 q (nm_ne hq (by decide)) (nm_ne hq (by decide)), fun q hq => e7 q (nm_ne hq (by decide))⟩, ⟨fun _ _ => rfl, fun q hq => e6 q (fun e => by subst e; revert hq; decide) (fun e => by subst e; revert hq; decide), fun q hq => e7 q (fun e => by subst e; revert hq; decide)⟩, rfl, ?_, rfl, gR_refl⟩
    exact ⟨⟨w1, rC_same hs (e6 7 (by decide) (by decide)) (e7 9 (by decide)) (rWo_B h) w2, w3⟩, rTr_up hup w4 rfl rfl, ⟨e3, rCp_eq _ _ m2 (rCp_up (e6 112 (by decide) (by decide)) F w6), by rw [len_map m2]; exact w7⟩, rGl_up hup rfl (fun m _ => by rw [e6 34 (by decide) (by decide), e7 35 (by decide)]; exact ⟨rfl, rfl⟩) w8, ⟨rPr_up hup rfl (fun m _ => by rw [e6 29 (by decide) (by decide), e6 30 (by decide) (by decide), e7 32 (by decide)]; exact ⟨rfl, rfl, rfl⟩) (fun m _ => by rw [e6 31 (by decide) (by decide)]) w9, w10⟩, rTu_up w11 (fun q h1 h2 => e6 q (by omega) (by omega)) rfl, ⟨rOut_up w12 rfl (e6 45 (by decide) (by decide)), w13⟩, w14, ⟨w15, w16, w17⟩, w18, w19⟩
theorem tell_lex {ps : List Proc} {w : Nm} {ns : List Nm} {t : Tr} (h : ∀ p ∈ ps, aLex p.1 = 0) (hw : aLex w = 0) : ∀ p ∈ pTell ps w ns t, aLex p.1 = 0 := by
  intro p hp
  unfold pTell at hp
  split at hp
  · rcases List.mem_or_eq_of_mem_set hp with e | e
    · exact h p e
    · rw [e]; exact hw
  · rcases List.mem_append.mp hp with e | e
    · exact h p e
    · rw [List.mem_singleton.mp e]; exact hw
theorem define_lex {ps ps' : List Proc} {w : Nm} {t : Tr} (h : ∀ p ∈ ps, aLex p.1 = 0) (e : aDefine w t ps = .ok ps') : ∀ p ∈ ps', aLex p.1 = 0 := by
  unfold aDefine at e
  split at e
  · split at e
    · next hc =>
      split at e
      · cases e
      · split at e
        · cases e
        · cases e; exact tell_lex h hc.1
    · cases e
  · cases e
theorem VR_define {n : Nat} {i : Nat → Int32} {j : Nat → Int64} {a : Nat → Nat → Int32} {b : Nat → Nat → Int64} {B : RB4} {bd : Nat} {G : GS} {N : LN} {F : List Fr} {t u : Tr} {x : Nat} {y : Int64} (hn : 1000 ≤ n) (h : rWo i j a b B bd G N F) (hx : rW a B x (tLet t)) (hu : rV a b B u none y) (hl : isL u = true) : VR i j a b B bd G N F (rOth 54 t u G N F) (om (m_Model_defined n i j a b (nI x) y) (fun i j a b r => some (i, j, a, b, r))) := by
  obtain ⟨⟨w1, w2, w3⟩, w4, ⟨w5, w6, w7⟩, w8, ⟨w9, w10⟩, w11, ⟨w12, w13⟩, w14, ⟨w15, w16, w17⟩, w18, w19⟩ := id h
  show VR i j a b B bd G N F (match aDefine (tLet t) u (gProcs G) with | .ok ps => .ok (gSetProcs G ps, N, F, none) | .error e => .error e) _
  rcases r_defined (n := n) (i := i) (j := j) hn (rWo_B h) w2 hx hu hl w9 with ⟨e, a', e1, e2, e3, e4, e5⟩ | ⟨ps', i', a', b', e1, e2, e3, e4, e5, e6, e7, e8⟩
  · rw [e1, e2, om_s]
    exact VR_err h rfl e3 (rB_i w1 rfl rfl rfl rfl) e4 w3 rfl (fun q hq => e5 q (nm_ne hq (by decide))) (fun _ _ => rfl) rFail_up rfl rfl gR_refl
  · rw [e1, e2, om_s]
    have h7 : ∀ q, q ∉ [7, 29, 30, 31] → a' q = a q := fun q hq => e7 q (nm_ne hq (by decide)) (nm_ne hq (by decide)) (nm_ne hq (by decide)) (nm_ne hq (by decide))
    refine ⟨i', j, a', b', 3, B, rfl, e4, ⟨fun q hq => e6 q (nm_ne hq (by decide)), fun _ _ => rfl, fun q hq => h7 q (fun hm => hq ((show ∀ q ∈ [7, 29, 30, 31], q ∈ chA by decide) q hm)), fun q hq => e8 q (nm_ne hq (by decide))⟩, ⟨fun q hq => e6 q (fun e => by subst e; revert hq; decide), fun q hq => h7 q ((show ∀ q ∈ ctA, q ∉ [7, 29, 30, 31] by decide) q hq), fun q hq => e8 q (fun e => by subst e; revert hq; decide)⟩, e6 102 (by decide), ?_, rfl, gR_refl⟩
    exact ⟨⟨rB_i w1 (e6 18 (by decide)) (e6 19 (by decide)) (e6 20 (by decide)) (e6 21 (by decide)), e5, w3⟩, rTr_up e4 w4 rfl rfl, ⟨rFr_up e4 F (fun x _ => by rw [h7 113 (by decide)]) (fun x _ => by rw [h7 114 (by decide), e8 115 (by decide)]; exact ⟨rfl, rfl⟩) w5, rCp_up (h7 112 (by decide)) F w6, (e6 99 (by decide)).trans w7⟩, rGl_up e4 (e6 36 (by decide)) (fun m _ => by rw [h7 34 (by decide), e8 35 (by decide)]; exact ⟨rfl, rfl⟩) w8, ⟨e3, define_lex w10 e1⟩, rTu_up w11 (fun q h1 h2 => h7 q (by simp; omega)) (e6 47 (by decide)), ⟨rOut_up w12 rfl (h7 45 (by decide)), w13⟩, (e6 46 (by decide)).trans w14, ⟨(e6 93 (by decide)).trans w15, (e6 95 (by decide)).trans w16, (e6 96 (by decide)).trans w17⟩, w18, w19⟩
/-- a word for names: 50 to 56 -/
theorem VR_named {n : Nat} {i : Nat → Int32} {j : Nat → Int64} {a : Nat → Nat → Int32} {b : Nat → Nat → Int64} {B : RB4} {bd : Nat} {G : GS} {N : LN} {F : List Fr} {code : Nat} {t u : Tr} {x y : Int64} (hn : 1000 ≤ n) (h : rWo i j a b B bd G N F) (hF : F.length ≤ 150) (hc : 50 ≤ code ∧ code ≤ 56) (ht : rV a b B t none x) (hw : isW t = true) (hu : code = 50 ∨ code = 54 → rV a b B u none y) (hl : code = 54 → isL u = true) : VR i j a b B bd G N F (rOth code t u G N F) (m_Model_named n i j a b (nI (code - 1)) x y) := by
  obtain ⟨w, rfl, hx⟩ := r_isW_eq ht hw
  obtain ⟨⟨w1, w2, w3⟩, w4, ⟨w5, w6, w7⟩, w8, ⟨w9, w10⟩, w11, ⟨w12, w13⟩, w14, ⟨w15, w16, w17⟩, w18, w19⟩ := id h
  have hxb : w < 120000 := by have := hx.1; have := hx.2.1; omega
  have nm : ∀ p : Nat, m_Model_named n i j a b (nI p) (vW w) y = m_Model_named n i j a b (nI p) (vW w) y := fun p => rfl
  rcases (by omega : code = 50 ∨ code = 51 ∨ code = 52 ∨ code = 53 ∨ code = 54 ∨ code = 55 ∨ code = 56) with rfl | rfl | rfl | rfl | rfl | rfl | rfl
  · have := VR_make (n := n) hn h hF ht hw (hu (by omega))
    unfold m_Model_named
    rw [r_whatW (by omega), ob0_s, if_pos (by decide)]
    exact this
  · have := VR_local (n := n) (u := u) hn h ht hw
    unfold m_Model_named
    rw [r_whatW (by omega), ob0_s, if_neg (by decide), if_pos (by decide)]
    exact this
  · obtain ⟨h1, h2, h3, h4, h5, h6, h7, p, h8, h9, h10⟩ := id hx
    have hTx : rT a p (tLet t) := ⟨by omega, by omega, h6, h10⟩
    unfold m_Model_named
    rw [r_whatW (by omega), ob0_s, if_neg (by decide), if_neg (by decide), if_pos (by decide), ck_n (by omega), ck_n (by omega), cl_n (by omega), h8, h7]
    show VR i j a b B bd G N F (match aFind F (gGlob G) (tLet t) with | none => .error 2 | some x => .ok (G, N, F, some x)) _
    rcases r_valueOf (n := n) (i := i) (j := j) hn (rWo_B h) hTx w7 w5 w8 hF with ⟨t', v', e1, e2, e3⟩ | ⟨e1, e3⟩
    · rw [e1, e3, om_s]
      exact VR_v h rfl e2
    · rw [e1, e3, om_s]
      exact VR_fail h rfl
  · exact VR_ans h (r_namep hn (rWo_B h) w4 hx w7 w5 w8 hF)
  · have := VR_define (n := n) (t := t) hn h hx (hu (by omega)) (hl rfl)
    unfold m_Model_named
    rw [r_whatW (by omega), ob0_s, if_neg (by decide), if_neg (by decide), if_neg (by decide), if_neg (by decide), if_pos (by decide)]
    exact this
  · show VR i j a b B bd G N F (.ok (G, N, F, some (tN (match pFind (gProcs G) (tLet t) with | none => -1 | some k => match (gProcs G)[k]? with | none => -1 | some p => (p.2.1.length : Int))))) _
    rcases r_arity (n := n) (i := i) (j := j) (v4 := y) hn hx w9 with ⟨e1, e2⟩ | ⟨k, hk, e1, e2⟩
    · rw [e1]
      show VR i j a b B bd G N F (.ok (G, N, F, some (tN (-1)))) _
      exact VR_v h e2 (show rV a b B (tN (-1)) none (vN (-1)) from rV_tN.mpr ⟨by decide, by decide, rfl⟩)
    · have h5 := (w9.2.2 k hk).2.2.1
      rw [e1]
      dsimp only
      rw [List.getElem?_eq_getElem hk]
      show VR i j a b B bd G N F (.ok (G, N, F, some (tN (((gProcs G)[k]'hk).2.1.length : Int)))) _
      exact VR_v h e2 (show rV a b B (tN (((gProcs G)[k]'hk).2.1.length : Int)) none (vN (((gProcs G)[k]'hk).2.1.length : Int)) from rV_tN.mpr ⟨by omega, by omega, rfl⟩)
  · show VR i j a b B bd G N F (match pFind (gProcs G) (tLet t) with | none => .error 1 | some k => match (gProcs G)[k]? with | none => .error 1 | some p => .ok (G, N, F, some p.2.2)) _
    rcases r_text (n := n) (i := i) (j := j) (v4 := y) hn hx w9 with ⟨e1, e2⟩ | ⟨k, hk, e1, v', e2, e3⟩
    · rw [e1]
      exact VR_fail h e2
    · rw [e1]
      dsimp only
      rw [List.getElem?_eq_getElem hk]
      exact VR_v h e2 e3
/-- word: 49 -/
theorem join_ge {m m' : Nat} {t u w : Tr} (h : aJoin m t u = .ok (m', w)) : m ≤ m' ∧ m' ≤ 30000 := by
  unfold aJoin at h
  dsimp only at h
  split at h
  · split at h
    · cases h
    · cases h; omega
  · split at h
    · cases h
    · cases h; omega
  · cases h
theorem VR_join {n : Nat} {i : Nat → Int32} {j : Nat → Int64} {a : Nat → Nat → Int32} {b : Nat → Nat → Int64} {B : RB4} {bd : Nat} {G : GS} {N : LN} {F : List Fr} {t u : Tr} {x y : Int64} (hn : 1000 ≤ n) (h : rWo i j a b B bd G N F) (hm : nMade N ≤ 30000) (ht : rV a b B t none x) (hu : rV a b B u none y) : VR i j a b B bd G N F (if isL t || isL u then .error 3 else rTM G N F (aValue 49 t u (nMade N))) (m_Model_values n i j a b (nI 48) x y) := by
  obtain ⟨⟨w1, w2, w3⟩, w4, ⟨w5, w6, w7⟩, w8, ⟨w9, w10⟩, w11, ⟨w12, w13⟩, w14, ⟨w15, w16, w17⟩, w18, w19⟩ := id h
  have ev : m_Model_values n i j a b (nI 48) x y = om (m_Model_joined n i j a b x y) (fun i j a b r => some (i, j, a, b, r)) := by
    unfold m_Model_values
    simp only [ob1_s, eq_false (show ¬ nI 48 = (32 : Int32) by decide), eq_false (show ¬ nI 48 = (33 : Int32) by decide), eq_false (show ¬ nI 48 = (34 : Int32) by decide), eq_false (show ¬ nI 48 = (35 : Int32) by decide), eq_false (show ¬ nI 48 = (36 : Int32) by decide), eq_false (show ¬ nI 48 = (37 : Int32) by decide), eq_false (show ¬ nI 48 = (38 : Int32) by decide), eq_false (show ¬ nI 48 = (39 : Int32) by decide), eq_false (show ¬ nI 48 = (40 : Int32) by decide), eq_false (show ¬ nI 48 = (41 : Int32) by decide), eq_false (show ¬ nI 48 = (42 : Int32) by decide), eq_false (show ¬ nI 48 = (43 : Int32) by decide), eq_false (show ¬ nI 48 = (44 : Int32) by decide), eq_false (show ¬ nI 48 = (45 : Int32) by decide), eq_false (show ¬ nI 48 = (46 : Int32) by decide), eq_false (show ¬ nI 48 = (47 : Int32) by decide), eq_true (show nI 48 = (48 : Int32) by decide), if_true, if_false]
  rw [ev]
  obtain ⟨_, _, kt⟩ := r_kinds n ht
  obtain ⟨_, _, ku⟩ := r_kinds n hu
  cases hlt : isL t with
  | true =>
    rw [hlt] at kt
    refine VR_fail h ?_
    unfold m_Model_joined
    rw [kt, ob0_s, b1_t, if_neg (show ¬ nI 1 = (0 : Int32) by decide)]
    rfl
  | false =>
    cases hlu : isL u with
    | true =>
      rw [hlt] at kt
      rw [hlu] at ku
      refine VR_fail h ?_
      unfold m_Model_joined
      rw [kt, ob0_s, b1_f, if_pos (show nI 0 = (0 : Int32) from rfl), ku, ob0_s, b1_t, if_neg (show ¬ nI 1 = (0 : Int32) by decide)]
      rfl
    | false =>
      have hW := (phi_ge (a := a) (b := b) B.1).1
      have hW2 := w2.2
      obtain ⟨r1, r2, r3⟩ := id w3
      obtain ⟨i', a', b', B', v, e1, e2, e3, e4, ⟨e5, e6, e7⟩, e8, e9, e10⟩ := r_joined (n := n) (i := i) (j := j) hn w1 w2 w17 hm ht hu hlt hlu (by omega) (by omega)
      have f1 : B'.2.2.1 = B.2.2.1 := congrArg (fun q => q.1) e7
      have f2 : B'.2.2.2 = B.2.2.2 := congrArg (fun q => q.2) e7
      have ha : ∀ q, q ∉ upA → a' q = a q := fun q hq => e8 q (nm_ne hq (by decide)) (nm_ne hq (by decide)) (nm_ne hq (by decide)) (nm_ne hq (by decide)) (nm_ne hq (by decide))
      have hb : ∀ q, q ∉ upB → b' q = b q := fun q hq => e9 q (nm_ne hq (by decide))
      rw [e1, om_s]
      show VR i j a b B bd G N F (rTM G N F (aJoin (nMade N) t u)) _
      rcases e10 with ⟨e, g1, g2, g3, g4, g5⟩ | ⟨m', w, g1, g2, g3, g4⟩
      · rw [g1] at e6 ⊢
        have f3 : B'.2.1 = B.2.1 := by
          rcases e6 with e6 | ⟨m2, w2, e6, _⟩
          · exact e6
          · cases e6
        exact VR_err h rfl e2 e3 e4 ⟨by omega, by omega, by omega⟩ (g5 96 (by decide) (by decide) (by decide) (by decide)) ha hb (fun q hq => g5 q (nm_ne hq (by decide)) (nm_ne hq (by decide)) (nm_ne hq (by decide)) (nm_ne hq (by decide))) g3 g4 ⟨Nat.le_refl _, by omega, by omega⟩
      · have hj := join_ge g1
        have f3 : B'.2.1 + nMade N ≤ B.2.1 + m' := by
          rcases e6 with e6 | ⟨m2, w2, e6, e62⟩
          · omega
          · rw [g1] at e6
            cases e6
            exact e62
        rw [g1]
        exact VR_ok h rfl e2 e3 e4 ⟨by omega, by omega, by omega⟩ g3 ha hb (fun q hq => g4 q (nm_ne hq (by decide)) (nm_ne hq (by decide)) (nm_ne hq (by decide)) (nm_ne hq (by decide)) (nm_ne hq (by decide))) (g4 102 (by decide) (by decide) (by decide) (by decide) (by decide)) g2 ⟨by omega, by omega, by omega⟩

