/-! define and line, as the class does them -/
/-- what is read changes nothing else -/
theorem CI_frm {g g' : Nat → Nat} {i i' : Nat → Int32} {a a' : Nat → Nat → Int32} {T T' : Nat} {G : GS} {N : LN} {F : List Fr} {L : List Lv} {ks ks' : KS} (h : CI g i a T (gSetKept G ks) N F L) (hi : ∀ q, q ≠ 8 → ¬ (24 ≤ q ∧ q ≤ 34) → i' q = i q) (ha : ∀ q, q ≠ 0 → ¬ (32 ≤ q ∧ q ≤ 36) → a' q = a q) (hf : ∀ x, x < T → a' 0 x = a 0 x) (hT : T ≤ T') (h8 : i' 8 = nI T') (hg1 : T' ≤ g' 0 ∧ sA (a' 0) T' = 0) (hg2 : g 0 ≤ g' 0) (hg3 : g' 0 ≤ 340000) (hk : kEx i' a' T' (gSetKept G ks')) : CI g' i' a' T' (gSetKept G ks') N F L := by
  obtain ⟨⟨a1, a2, a3, a4, a5, a6, a7, a8, a9⟩, ⟨b1, b2, b3, b4, b5, b6, b7⟩, ⟨c1, c2, c3, c4, c5⟩, d1, ⟨e1, e2, e3, e4⟩⟩ := h
  have h21 : ∀ x, x < 21 → a' 0 x = a 0 x := fun x hx => hf x (by omega)
  have Hi : ∀ q, (q = 4 ∨ q = 5 ∨ q = 6 ∨ q = 12 ∨ q = 13 ∨ q = 15 ∨ q = 17 ∨ q = 19 ∨ q = 20 ∨ (35 ≤ q ∧ q ≤ 45)) → i' q = i q := fun q hq => hi q (by omega) (by omega)
  have Ha : ∀ q, ((1 ≤ q ∧ q ≤ 31) ∨ 37 ≤ q) → a' q = a q := fun q hq => ha q (by omega) (by omega)
  refine ⟨⟨h8, ⟨by omega, hg1.2⟩, hg1.1, by omega, hg3, ?_, ?_, ?_, ?_⟩, ⟨?_, ?_, ?_, ?_, ?_, ?_, ?_, hk⟩, ⟨?_, ?_, ?_, ?_, ?_⟩, ?_, ⟨?_, ?_, ?_, ?_⟩⟩
  · unfold lexOk
    rw [Ha 5 (by omega), Ha 6 (by omega), Ha 7 (by omega), Ha 8 (by omega), Ha 9 (by omega)]
    exact a6
  · rw [Hi 4 (by omega)]; exact cV_low a7 h21
  · rw [Hi 5 (by omega)]; exact cV_low a8 h21
  · rw [Hi 6 (by omega)]; exact cV_low a9 h21
  · rw [Hi 12 (by omega), Ha 10 (by omega), Ha 11 (by omega)]; exact rGlob_up b1 hT hf
  · rw [Hi 15 (by omega), Ha 15 (by omega), Ha 16 (by omega), Ha 17 (by omega)]; exact rProc_up b2 hT hf
  · rw [Ha 20 (by omega)]; exact b3
  · rw [Ha 21 (by omega)]; exact b4
  · rw [Hi 17 (by omega)]; exact b5
  · rw [Hi 19 (by omega), Hi 20 (by omega), Ha 26 (by omega)]; exact b6
  · rw [Hi 45 (by omega)]; exact b7.1
  · rw [Hi 35 (by omega)]; exact c1
  · rw [Hi 36 (by omega)]; exact c2
  · rw [Hi 37 (by omega)]; exact c3
  · rw [Hi 38 (by omega)]; exact c4
  · rw [Hi 39 (by omega)]; exact c5
  · rw [Hi 13 (by omega), Ha 12 (by omega), Ha 13 (by omega)]; exact rLoc_up d1 hT hf
  · rw [Hi 40 (by omega)]; exact e1
  · rw [Hi 41 (by omega)]; exact e2
  · rw [Hi 42 (by omega)]; exact e3
  · rw [Ha 37 (by omega), Ha 38 (by omega), Ha 39 (by omega), Ha 40 (by omega), Ha 41 (by omega), Ha 42 (by omega), Ha 43 (by omega), Ha 44 (by omega), Ha 45 (by omega), Ha 46 (by omega), Ha 47 (by omega), Ha 48 (by omega), Ha 49 (by omega), Ha 50 (by omega), Ha 51 (by omega), Ha 52 (by omega), Ha 53 (by omega), Ha 54 (by omega)]
    exact lvR_keep hT hf L F agL_refl agW_refl (fun _ _ => rfl) e4
theorem KP_frm {i i' : Nat → Int32} {a a' : Nat → Nat → Int32} {T kt : Nat} {G : GS} {tl : Tr} (h : KP i a kt G tl) (hk : kt ≤ T) (hi : ∀ q, q ≠ 8 → ¬ (24 ≤ q ∧ q ≤ 34) → i' q = i q) (ha : ∀ q, q ≠ 0 → ¬ (32 ≤ q ∧ q ≤ 36) → a' q = a q) (hf : ∀ x, x < T → a' 0 x = a 0 x) : KP i' a' kt G tl := by
  obtain ⟨p1, p2, p3, p4, p5, p6, p7, p8, p9, p10⟩ := h
  have e0 : ∀ x, x < kt → a' 0 x = a 0 x := fun x hx => hf x (by omega)
  unfold KP
  rw [hi 1 (by decide) (by omega), hi 2 (by decide) (by omega), hi 0 (by decide) (by omega), hi 14 (by decide) (by omega), hi 16 (by decide) (by omega), hi 18 (by decide) (by omega), hi 21 (by decide) (by omega), hi 22 (by decide) (by omega), ha 10 (by decide) (by omega), ha 14 (by decide) (by omega), ha 15 (by decide) (by omega), ha 18 (by decide) (by omega), ha 19 (by decide) (by omega), ha 24 (by decide) (by omega), ha 25 (by decide) (by omega), ha 27 (by decide) (by omega)]
  exact ⟨p1, p2, cV_low p3 e0, ⟨p4.1, by rw [sA_congr kt e0]; exact p4.2⟩, rGlob_up p5 (Nat.le_refl _) e0, rProc_up p6 (Nat.le_refl _) e0, p7, p8, p9, p10⟩
/-- the tape is read by the world: what stands then -/
theorem W_read {n : Nat} {g : Nat → Nat} {i : Nat → Int32} {a : Nat → Nat → Int32} {cc : Nat} {dfn : Bool} {c : Cfg} {G0 : GS} {tl : Tr} {bk : Bool} {tp : Nat → Nat} {N fk fp : Nat} (hn : 10000 ≤ n) (hcc : cc < 512) (h : WC g i a cc (c, G0, tl, bk, tp, N, fk, fp)) (hs : cSt c ≠ 1) : ∃ i' a' g' k T' kt B, m_Reader_read n g i a (b1 dfn) = some (i', a', g', k, if rdF (aRead dfn (gProcs c.1) tp N) = 0 then nI 1 else nI 0) ∧ CR g' i' a' T' (kS (gh i' a' kt bk G0) c) ∧ (aInv2 c ∧ atRest c ∧ gL B (cGP c)) ∧ FX (a' 0) ∧ (16384 ≤ g' 1 ∧ g' 1 ≤ 340000) ∧ i' 3 = b1 bk ∧ i' 7 = nI 21 ∧ (bk = true → KP i' a' kt G0 tl ∧ gOk G0 ∧ isL tl = true ∧ gL B (gGP G0) ∧ kt ≤ 186000 + 4 * B) ∧ T' ≤ 276000 + 4 * (B + N) + (cc + 1) ∧ B + N ≤ 20 * cc ∧ (∀ tp : Nat → Nat, (∀ k, tp k < 256) → tpR i' a' tp 0) ∧ i' 26 = nI (rdF (aRead dfn (gProcs c.1) tp N)) ∧ (rdF (aRead dfn (gProcs c.1) tp N) ≠ 0 → i' 25 = nI (rdP (aRead dfn (gProcs c.1) tp N))) ∧ rdF (aRead dfn (gProcs c.1) tp N) < 100 ∧ Pot g g' k ∧ (rdF (aRead dfn (gProcs c.1) tp N) = 0 → (dfn = false → cV (a' 0) T' (tL ((rdK (aRead dfn (gProcs c.1) tp N)).headD [])) none (i' 27)) ∧ (dfn = true → dfR (a' 0) T' (a' 34) (a' 35) (a' 36) (rdD (aRead dfn (gProcs c.1) tp N)) ∧ i' 33 = nI (rdD (aRead dfn (gProcs c.1) tp N)).length ∧ (rdD (aRead dfn (gProcs c.1) tp N)).length ≤ 200)) := by
  obtain ⟨T, kt, B, h1, h2, h3, h4, h5, h6, h7, h8, h9, h10⟩ := id h
  obtain ⟨G, N', F, L, ph, got, rd⟩ := c
  have hci := h1.1
  have hkx := CR_kEx h1
  obtain ⟨⟨a1, a2, a3, a4, a5, a6, a7, a8, a9⟩, ⟨b1, b2, b3⟩, _⟩ := id hci
  have hgen : rdGen g i a T (gProcs G) := ⟨a1, a2, a3, a4, a5, a6, b2⟩
  have hT : T + 1 + 16001 ≤ 340000 := by omega
  obtain ⟨i', a', g', k, r1, r2⟩ := h_read (n := n) (dfn := dfn) hn hgen h3.1 hT
  obtain ⟨z1, z2, z3, z4, z5, z6, z7⟩ := r2
  have h100 : rdF (aRead dfn (gProcs G) tp N) < 100 := by
    unfold aRead aRdEnd
    have key : ∀ (f k : Nat) (cm : Bool) (r : Rd), rdF r < 100 → rdF (aScan dfn (gProcs G) tp N f k cm r) < 100 := by
      intro f
      induction f with
      | zero => intro k cm r h; exact h
      | succ f ih =>
        intro k cm r h
        rw [aScan]
        rcases Classical.em (N ≤ k ∨ rdF r ≠ 0) with c | c
        · rw [if_pos c]; exact h
        rw [if_neg c]
        refine rdF_ite (rdF_bad (by decide)) (rdF_ite (ih _ _ _ h) (rdF_ite (ih _ _ _ h) (ih _ _ _ (rdF_tok _ _ _ _ _ (Classical.byContradiction (fun e => c (Or.inr e)))))))
    have k0 := key (N + 1) 0 false (rd0 dfn) (by show 0 < 100; decide)
    exact rdF_ite k0 (rdF_ite (rdF_bad (by decide)) (rdF_ite k0 (rdF_ite (rdF_bad (by decide)) (rdF_bad (by decide)))))
  have e7 : i' 7 = nI 21 := (z3 7 (by decide) (by omega)).trans h3.2.2.2.2
  have e3 : i' 3 = _root_.id (i 3) := z3 3 (by decide) (by omega)
  have hFX : FX (a' 0) := FX_keep h4 (fun x hx => z5 x (by omega))
  -- the top, and what it wants
  have top : ∃ T', T ≤ T' ∧ T' ≤ T + 1 + 4 * N ∧ (T' ≤ g' 0 ∧ sA (a' 0) T' = 0) ∧ i' 8 = nI T' ∧ (rdF (aRead dfn (gProcs G) tp N) = 0 → (dfn = false → cV (a' 0) T' (tL ((rdK (aRead dfn (gProcs G) tp N)).headD [])) none (i' 27)) ∧ (dfn = true → dfR (a' 0) T' (a' 34) (a' 35) (a' 36) (rdD (aRead dfn (gProcs G) tp N)) ∧ i' 33 = nI (rdD (aRead dfn (gProcs G) tp N)).length ∧ (rdD (aRead dfn (gProcs G) tp N)).length ≤ 200)) := by
    rcases Classical.em (rdF (aRead dfn (gProcs G) tp N) = 0) with e | e
    · obtain ⟨T', t1, t2, t3, t4, t5, t6, t7⟩ := z6 e
      exact ⟨T', t1, t2, t3, t4, fun _ => ⟨t6, t7⟩⟩
    · exact ⟨T, Nat.le_refl _, by omega, ⟨by have := z1.1; omega, by rw [sA_congr T z5]; exact a2.2⟩, (z7 e).1, fun hh => absurd hh e⟩
  obtain ⟨T', t1, t2, t3, t4, t5⟩ := top
  have hkT : (if bk then kt else 21) ≤ T := hkx.2.2.1
  have hk' : kEx i' a' T' (gSetKept G (gh i' a' kt bk G0)) := kEx_new (by omega) hkx.2.2.2.2.1 hkx.2.2.2.2.2.2
  have hci' := CI_frm (ks' := gh i' a' kt bk G0) hci z3 z4 z5 t1 t4 t3 z1.1 z1.2.1 hk'
  refine ⟨i', a', g', k, T', kt, B, r1, ⟨hci', fun e => absurd e hs⟩, h2, hFX, by rw [z1.2.2.1]; exact h5, (z3 3 (by decide) (by omega)).trans h6, e7, fun hb => ?_, by omega, h10, fun tp' htp => ⟨z2, Nat.zero_le _, fun k hk => absurd hk (Nat.not_lt_zero k), htp⟩, ?_, fun e => (z7 e).2.2, h100, Pot_h z1, t5⟩
  · obtain ⟨k1, k2⟩ := h7 hb
    rw [hb, if_pos rfl] at hkT
    exact ⟨KP_frm k1 hkT z3 z4 z5, k2⟩
  · rcases Classical.em (rdF (aRead dfn (gProcs G) tp N) = 0) with e | e
    · obtain ⟨T9, _, _, _, _, t9, _⟩ := z6 e
      rw [show rdF (aRead dfn (gProcs (G, N', F, L, ph, got, rd).1) tp N) = 0 from e]; exact t9
    · exact (z7 e).2.1
theorem pTells_ge (P : List Proc) : ∀ (D : List Proc), P.length ≤ (pTells P D).length := by
  intro D
  induction D generalizing P with
  | nil => exact Nat.le_refl _
  | cons d D ih =>
    have := ih (pTell P d.1 d.2.1 d.2.2)
    have e := pTell_ln P d.1 d.2.1 d.2.2
    show P.length ≤ (pTells (pTell P d.1 d.2.1 d.2.2) D).length
    omega
theorem pTells_ok {P D : List Proc} (h : ∀ p ∈ P, pOk p) (hD : ∀ p ∈ D, pOk p) : ∀ p ∈ pTells P D, pOk p := by
  induction D generalizing P with
  | nil => exact h
  | cons d D ih => exact ih (P := pTell P d.1 d.2.1 d.2.2) (pOk_tell h (hD d List.mem_cons_self)) (fun p hp => hD p (List.mem_cons_of_mem _ hp))
theorem exP_tell2 {ps : List Proc} {w : Nm} {ins : List Nm} {b : Tr} : exP (pTell ps w ins b) ≤ exP ps + (tSz b - 600) := by
  have hset : ∀ (ps : List Proc) (k : Nat) (q : Proc), exP (ps.set k q) ≤ exP ps + (tSz q.2.2 - 600) := by
    intro ps
    induction ps with
    | nil => intro k q; exact Nat.zero_le _
    | cons p ps ih =>
      intro k q
      cases k with
      | zero =>
        show exP (q :: ps) ≤ exP (p :: ps) + _
        unfold exP
        rw [List.map_cons, List.map_cons, List.sum_cons, List.sum_cons]
        omega
      | succ k =>
        show exP (p :: ps.set k q) ≤ exP (p :: ps) + _
        have := ih k q
        unfold exP at this ⊢
        rw [List.map_cons, List.map_cons, List.sum_cons, List.sum_cons]
        omega
  unfold pTell
  cases pFind ps w with
  | some k => exact hset ps k _
  | none =>
    show exP (ps ++ [(w, ins, b)]) ≤ _
    unfold exP
    rw [List.map_append, List.sum_append]
    simp
theorem exP_tells (P : List Proc) : ∀ (D : List Proc), exP (pTells P D) ≤ exP P + exP D := by
  intro D
  induction D generalizing P with
  | nil => exact Nat.le_refl _
  | cons d D ih =>
    have h1 := ih (pTell P d.1 d.2.1 d.2.2)
    have h2 := exP_tell2 (ps := P) (w := d.1) (ins := d.2.1) (b := d.2.2)
    show exP (pTells (pTell P d.1 d.2.1 d.2.2) D) ≤ _
    have e : exP (d :: D) = (tSz d.2.2 - 600) + exP D := by unfold exP; rw [List.map_cons, List.sum_cons]
    omega
theorem exP_dSz : ∀ (D : List Proc), exP D ≤ dSz D - 600 := by
  intro D
  induction D with
  | nil => exact Nat.zero_le _
  | cons d D ih =>
    have e1 : exP (d :: D) = (tSz d.2.2 - 600) + exP D := by unfold exP; rw [List.map_cons, List.sum_cons]
    have e2 : dSz (d :: D) = tSz d.2.2 + dSz D := by unfold dSz; rw [List.map_cons, List.sum_cons]
    omega
theorem h_tell_b {n : Nat} {g : Nat → Nat} {T : Nat} {N : LN} {F : List Fr} {L : List Lv} {D : List Proc} (hn : 2000 ≤ n) (hD : D.length ≤ 200) : ∀ (m k f : Nat) (i : Nat → Int32) (a : Nat → Nat → Int32) (G : GS), D.length = k + m → m < f → CI g i a T G N F L → dfR (a 0) T (a 34) (a 35) (a 36) D → i 33 = nI D.length → (pTells (gProcs G) (D.drop k)).length ≤ 40 → ∃ i' a', m_Reader_tellAll_b2 n g f i a (nI k) = some (i', a', nI D.length) ∧ CI g i' a' T (gSetProcs G (pTells (gProcs G) (D.drop k))) N F L ∧ (∀ q, q ≠ 15 → i' q = i q) ∧ (∀ q, q ≠ 15 → q ≠ 16 → q ≠ 17 → a' q = a q) := by
  intro m
  induction m with
  | zero =>
    intro k f i a G e hf h hr h33 hl
    obtain ⟨f, rfl⟩ : ∃ f', f = f' + 1 := ⟨f - 1, by omega⟩
    rw [List.drop_of_length_le (by omega), m_Reader_tellAll_b2, h33, ile_p (by omega)]
    exact ⟨i, a, rfl, h, fun _ _ => rfl, fun _ _ _ _ => rfl⟩
  | succ m ih =>
    intro k f i a G e hf h hr h33 hl
    obtain ⟨f, rfl⟩ : ∃ f', f = f' + 1 := ⟨f - 1, by omega⟩
    have hk : k < D.length := by omega
    have ed : D.drop k = D[k] :: D.drop (k + 1) := List.drop_eq_getElem_cons hk
    rw [ed] at hl ⊢
    have hl2 : (pTells (pTell (gProcs G) D[k].1 D[k].2.1 D[k].2.2) (D.drop (k + 1))).length ≤ 40 := hl
    obtain ⟨v1, v2, v3⟩ := hr k hk
    rcases h_ptell (n := n) hn h v1 v2 v3 with ⟨q1, q2, q3⟩ | ⟨q1, i1, a1, q3, q4, q5, q6⟩
    · exfalso
      have h1 := pTells_ge (pTell (gProcs G) D[k].1 D[k].2.1 D[k].2.2) (D.drop (k + 1))
      rw [pTell_ln, q1] at h1
      have h1 : (gProcs G).length + 1 ≤ _ := h1
      omega
    · have hr1 : dfR (a1 0) T (a1 34) (a1 35) (a1 36) D := by
        rw [q6 0 (by decide) (by decide) (by decide), q6 34 (by decide) (by decide) (by decide), q6 35 (by decide) (by decide) (by decide), q6 36 (by decide) (by decide) (by decide)]
        exact hr
      obtain ⟨i', a', w1, w2, w3, w4⟩ := ih (k + 1) f i1 a1 (gSetProcs G (pTell (gProcs G) D[k].1 D[k].2.1 D[k].2.2)) (by omega) (by omega) q4 hr1 (by rw [q5 33 (by decide)]; exact h33) hl2
      refine ⟨i', a', ?_, w2, fun q hq => (w3 q hq).trans (q5 q hq), fun q h1 h2 h3 => (w4 q h1 h2 h3).trans (q6 q h1 h2 h3)⟩
      rw [m_Reader_tellAll_b2, h33, ile_n (by omega), ck_n (by omega), ck_n (by omega), ck_n (by omega), cl_n (by omega), q3, ob_s, show (1 : Int32) = nI 1 from rfl, nI_add, ob1_s]
      exact w1
noncomputable def aDefineW (w : AW) : AW × Int := match w with
  | (c, G0, tl, bk, tp, N, fk, fp) => if cSt c = 1 then (w, -20) else
    let r := aRead true (gProcs c.1) tp N
    if rdF r ≠ 0 then ((c, G0, tl, bk, tp, 0, rdF r, rdP r), -(rdF r : Int))
    else if rdD r = [] then ((c, G0, tl, bk, tp, 0, 0, 0), 0)
    else (((gSetProcs c.1 (pTells (gProcs c.1) (rdD r)), c.2), G0, tl, false, tp, 0, 0, 0), ((rdD r).length : Int))
theorem nI_neg {q : Nat} : -nI q = Int32.ofInt (-(q : Int)) := by
  show -(Int32.ofInt (q : Int)) = _
  rw [← Int32.ofInt_neg]
/-- define -/
theorem W_define {n : Nat} {g : Nat → Nat} {i : Nat → Int32} {a : Nat → Nat → Int32} {cc : Nat} {w : AW} (hn : 10000 ≤ n) (hcc : cc < 512) (h : WC g i a cc w) : ∃ i' a' g' k, m_World_define n g i a = some (i', a', g', k, Int32.ofInt (aDefineW w).2) ∧ WC g' i' a' (cc + 1) (aDefineW w).1 ∧ Pot g g' k := by
  obtain ⟨c, G0, tl, bk, tp, N, fk, fp⟩ := w
  obtain ⟨s1, s2, s3, s4⟩ := WC_st h
  unfold m_World_define aDefineW
  dsimp only
  rcases Classical.em (cSt c = 1) with e | e
  · rw [if_pos e, if_pos (show i 35 = (1 : Int32) by rw [s1, e]; rfl)]
    exact ⟨i, a, g, (0, 0), rfl, cc_up h (by omega), Pot_refl g⟩
  rw [if_neg e, if_neg (show ¬ i 35 = (1 : Int32) by rw [s1]; exact fun e9 => e ((nI_eq (b := 1) (by omega) (by decide)).mp e9))]
  obtain ⟨i1, a1, g1, k1, T1, kt, B, r1, r2, r3, r4, r5, r6, r7, r8, r9, r10, r11, r12, r13, r14, r15, r16⟩ := W_read (n := n) (dfn := true) hn hcc h e
  have htp : ∀ k, tp k < 256 := by
    obtain ⟨T, kt, B, h1, h2, h3, _⟩ := h
    exact h3.1.2.2.2
  rw [show m_Reader_read n g i a (1 : Int32) = m_Reader_read n g i a (b1 true) from rfl, r1]
  rcases Classical.em (rdF (aRead true (gProcs c.1) tp N) = 0) with c0 | c0
  rotate_left
  · rw [if_pos c0, if_neg c0]
    refine ⟨i1, a1, g1, (k1.1 + 0, k1.2 + 0), obG_s (k' := (0, 0)) ?_, ⟨T1, kt, B + N, r2, ⟨r3.1, r3.2.1, r3.2.2.1, Nat.le_trans r3.2.2.2 (Nat.le_add_right _ _)⟩, ⟨r11 tp htp, r12, r14, fun hh => r13 hh, r7⟩, r4, r5, r6, fun hb => ?_, fun hh => absurd hh e, by omega, by omega⟩, r15⟩
    · rw [if_pos (show nI 0 = (0 : Int32) from rfl), r12, nI_neg]
    · obtain ⟨z1, z2, z3, z4, z5⟩ := r8 hb
      exact ⟨z1, z2, z3, ⟨z4.1, Nat.le_trans z4.2 (Nat.le_add_right _ _)⟩, by omega⟩
  rw [if_neg (not_not_intro c0), if_pos c0]
  obtain ⟨hR1, hR2, hR3⟩ := (r16 c0).2 rfl
  have hP40 : (gProcs c.1).length ≤ 40 := by
    obtain ⟨G, N', F, L, ph, got, rd⟩ := c
    exact r3.1.1.1.2.1
  obtain ⟨ri, rt, rl, rs⟩ := RI_read hP40 c0
  have hst0 := rs rfl
  obtain ⟨x1, x2, x3, x4, x5, x6, x7, x8, x9, x10, x11, x12⟩ := ri
  rw [if_neg (fun hh => absurd hh.1 (by rw [hst0]; decide)), Nat.add_zero] at x11
  have hlen : (pTells (gProcs c.1) (rdD (aRead true (gProcs c.1) tp N))).length ≤ 40 := by
    show (pTells (gProcs c.1) (aRead true (gProcs c.1) tp N).2.2.2.1).length ≤ 40
    omega
  have hexD : exP (rdD (aRead true (gProcs c.1) tp N)) ≤ N := by
    have := exP_dSz (rdD (aRead true (gProcs c.1) tp N))
    have x4 : dSz (rdD (aRead true (gProcs c.1) tp N)) + _ + _ ≤ _ := x4
    omega
  obtain ⟨G, N', F, L, ph, got, rd⟩ := c
  have hci1 := r2.1
  generalize hDD : rdD (aRead true (gProcs G) tp N) = D at *
  have hDok : ∀ p ∈ D, pOk p := by rw [← hDD]; exact x10
  obtain ⟨i2, a2, w1, w2, w3, w4⟩ := h_tell_b (n := n) (D := D) (by omega) hR3 D.length 0 n i1 a1 (gSetKept G (gh i1 a1 kt bk G0)) (by omega) (by omega) hci1 hR1 hR2 (by rw [List.drop_zero]; exact hlen)
  rw [List.drop_zero] at w2
  have key : ob (m_Reader_tellAll n g1 i1 a1) (fun i_14 a_15 r_16 => if r_16 ≤ (0 : Int32) then some (i_14, a_15, g1, ((0, 0) : Nat × Nat), r_16) else ob1 (upd i_14 3 0 : Nat → Int32) (fun i_20 => some (i_20, a_15, g1, (0, 0), r_16))) = if nI D.length ≤ (0 : Int32) then some (i2, a2, g1, (0, 0), nI D.length) else some (upd i2 3 0, a2, g1, (0, 0), nI D.length) := by
    unfold m_Reader_tellAll
    rw [show (0 : Int32) = nI 0 from rfl, w1, ob_s]
    rfl
  rcases Classical.em (D = []) with d | d
  · rw [if_pos d]
    subst d
    have hre : CR g1 i2 a2 T1 (kS (gh i2 a2 kt bk G0) (G, N', F, L, ph, got, rd)) := by
      have e1 : gSetProcs (gSetKept G (gh i1 a1 kt bk G0)) (pTells (gProcs (gSetKept G (gh i1 a1 kt bk G0))) []) = gSetKept G (gh i1 a1 kt bk G0) := rfl
      rw [e1] at w2
      have c9 : CR g1 i2 a2 T1 (kS (gh i1 a1 kt bk G0) (G, N', F, L, ph, got, rd)) := ⟨w2, fun e9 => absurd e9 e⟩
      have hkx := CR_kEx c9
      exact CR_re c9 (kEx_new hkx.2.2.1 hkx.2.2.2.2.1 hkx.2.2.2.2.2.2)
    have hrow : ∀ q, q ≠ 16 → q ≠ 17 → q ≠ 15 → a2 q = a1 q := fun q h1 h2 h3 => w4 q h3 h1 h2
    have hc9 : CR g1 i2 a2 T1 (kS (gh i1 a1 kt bk G0) (G, N', F, L, ph, got, rd)) := by
      have e1 : gSetProcs (gSetKept G (gh i1 a1 kt bk G0)) (pTells (gProcs (gSetKept G (gh i1 a1 kt bk G0))) []) = gSetKept G (gh i1 a1 kt bk G0) := rfl
      rw [e1] at w2
      exact ⟨w2, fun e9 => absurd e9 e⟩
    have hkx := CR_kEx hc9
    refine ⟨i2, a2, g1, (k1.1 + 0, k1.2 + 0), obG_s (k' := (0, 0)) ?_, ⟨T1, kt, B + N, hre, ⟨r3.1, r3.2.1, r3.2.2.1, Nat.le_trans r3.2.2.2 (Nat.le_add_right _ _)⟩, ⟨?_, ?_, by decide, fun hh => absurd rfl hh, ?_⟩, ?_, r5, ?_, fun hb => ?_, fun hh => absurd hh e, by omega, by omega⟩, r15⟩
    · rw [if_neg (show ¬ nI 1 = (0 : Int32) from by decide), key, if_pos (show nI ([] : List Proc).length ≤ (0 : Int32) from by decide)]
      rfl
    · obtain ⟨t1, t2, t3, t4⟩ := r11 tp htp
      exact ⟨(w3 24 (by decide)).trans t1, t2, fun k hk => absurd hk (Nat.not_lt_zero k), t4⟩
    · rw [w3 26 (by decide), r12, show rdF (aRead true (gProcs (G, N', F, L, ph, got, rd).1) tp N) = 0 from c0]
    · rw [w3 7 (by decide)]; exact r7
    · rw [hrow 0 (by decide) (by decide) (by decide)]; exact r4
    · rw [w3 3 (by decide)]; exact r6
    · obtain ⟨z1, z2, z3, z4, z5⟩ := r8 hb
      subst hb
      exact ⟨KP_keep z1 hkx, z2, z3, ⟨z4.1, Nat.le_trans z4.2 (Nat.le_add_right _ _)⟩, by omega⟩
  · rw [if_neg d]
    have hpos : 1 ≤ D.length := by
      cases D with
      | nil => exact absurd rfl d
      | cons a b => simp
    have hrow : ∀ q, q ≠ 16 → q ≠ 17 → q ≠ 15 → a2 q = a1 q := fun q h1 h2 h3 => w4 q h3 h1 h2
    have hci2 : CI g1 (upd i2 3 0) a2 T1 (gSetKept (gSetProcs G (pTells (gProcs G) D)) (gh (upd i2 3 0) a2 kt false G0)) N' F L := by
      obtain ⟨q1, ⟨b1, b2, b3, b4, b5, b6, b7⟩, q3, q4, q5⟩ := w2
      exact ⟨q1, ⟨b1, b2, b3, b4, b5, b6, b7.1, kEx_new q1.2.1.1 (Nat.zero_le _) (Nat.zero_le _)⟩, q3, q4, q5⟩
    have hinv : aInv2 (gSetProcs G (pTells (gProcs G) D), N', F, L, ph, got, rd) := by
      obtain ⟨⟨⟨g1, g2, g3, g4⟩, v2⟩, v3⟩ := r3.1
      exact ⟨⟨⟨g1, hlen, pTells_ok g3 hDok, g4⟩, v2⟩, v3⟩
    refine ⟨upd i2 3 0, a2, g1, (k1.1 + 0, k1.2 + 0), obG_s (k' := (0, 0)) ?_, ⟨T1, kt, B + N, ⟨hci2, fun e9 => absurd e9 e⟩, ⟨hinv, r3.2.1, r3.2.2.1, ?_⟩, ⟨?_, ?_, by decide, fun hh => absurd rfl hh, ?_⟩, ?_, r5, rfl, (fun hb => by cases hb), fun hh => absurd hh e, by omega, by omega⟩, r15⟩
    · rw [if_neg (show ¬ nI 1 = (0 : Int32) from by decide), key, if_neg (show ¬ nI D.length ≤ (0 : Int32) from nI_ge (a := 0) (by omega) (by omega))]
      rfl
    · have x1 := exP_tells (gProcs G) D
      have x2 : exP (gProcs G) ≤ B := r3.2.2.2
      show exP (pTells (gProcs G) D) ≤ B + N
      omega
    · obtain ⟨t1, t2, t3, t4⟩ := r11 tp htp
      exact ⟨(w3 24 (by decide)).trans t1, t2, fun k hk => absurd hk (Nat.not_lt_zero k), t4⟩
    · show i2 26 = _
      rw [w3 26 (by decide), r12, show rdF (aRead true (gProcs (G, N', F, L, ph, got, rd).1) tp N) = 0 from c0]
    · show i2 7 = _
      rw [w3 7 (by decide)]; exact r7
    · rw [hrow 0 (by decide) (by decide) (by decide)]; exact r4

