/-! what is ready is applied -/
theorem retG_mp (G : GS) (N : LN) (F : List Fr) (L : List Lv) (r : Except Nat (GS × Option Tr)) : cMp (retG G N F L r) ≤ mapPot L ∧ cMd (retG G N F L r) = nMade N := by
  unfold retG
  split
  · exact ⟨Nat.le_refl _, rfl⟩
  · exact aFail_mp _ _ _ _ _
theorem aOther_mp (code : Nat) (v u : Tr) (G : GS) (N : LN) (F : List Fr) (L : List Lv) : cMp (aOther code v u G N F L) ≤ mapPot L ∧ cMd (aOther code v u G N F L) = nMade N := by
  unfold aOther
  repeat' split
  all_goals first | exact ⟨Nat.le_refl _, rfl⟩ | exact aFail_mp _ _ _ _ _
theorem mapPot_new {k : Nat} {lst : Tr} {lim : Nat} {oth : Tr} {mark : Nat} {tag : Tr} (h : ¬ k = 10) (L : List Lv) : mapPot (lNew k lst lim oth mark tag :: L) = mapPot L := by
  rw [mapPot, if_neg (show ¬ lK (lNew k lst lim oth mark tag) = 10 from h), Nat.zero_add]
theorem aCall_mp (w : Wt) (G : GS) (N : LN) (F : List Fr) (L : List Lv) : cMp (aCall w G N F L) ≤ mapPot L ∧ cMd (aCall w G N F L) = nMade N := by
  unfold aCall
  split
  · exact aFail_mp _ _ _ _ _
  · exact ⟨Nat.le_of_eq (mapPot_new (by decide) L), rfl⟩
theorem aTurnOn_mp (l : Lv) (R : List Lv) : mapPot (aTurnOn l :: R) ≤ mapPot (l :: R) := by
  rw [mapPot, mapPot]
  unfold aTurnOn
  split
  · next h =>
    rw [if_neg (show ¬ lK (aChange l 9) = 10 by show ¬ 9 = 10; decide)]
    omega
  · exact Nat.le_refl _
theorem TG_pass {n : Nat} {g : Nat → Nat} {T T0 : Nat} {o : Option ((Nat → Int32) × (Nat → Nat → Int32) × (Nat → Nat) × (Nat × Nat) × Int32)} {c : Cfg} (h : TG n g T T0 o c) : TG n g T T0 (obG o (fun i a g r => some (i, a, g, (0, 0), r))) c := by
  obtain ⟨i', a', g', k, x, i2, T', e, h1⟩ := h
  exact ⟨i', a', g', (k.1 + 0, k.2 + 0), x, i2, T', by rw [e]; exact obG_s (k' := (0, 0)) rfl, h1⟩
/-- an instruction is counted -/
theorem CI_done {g : Nat → Nat} {i : Nat → Int32} {a : Nat → Nat → Int32} {T : Nat} {G : GS} {N : LN} {F : List Fr} {L : List Lv} {i' : Nat → Int32} {d : Nat} (h : CI g i a T G N F L) (hi : ∀ q, q ≠ 37 → q ≠ 46 → q ≠ 44 → q ≠ 43 → i' q = i q) (hd : i' 37 = nI d) : CI g i' a T G (nSetDone N d) F L := by
  obtain ⟨⟨a1, a2, a3, a4, a5, a6, a7, a8, a9⟩, ⟨b1, b2, b3, b4, b5, b6, b7⟩, ⟨c1, c2, c3, c4, c5⟩, d1, ⟨e1, e2, e3, e4⟩⟩ := h
  have k : ∀ q, q ≠ 37 ∧ q ≠ 46 ∧ q ≠ 44 ∧ q ≠ 43 → i' q = i q := fun q h => hi q h.1 h.2.1 h.2.2.1 h.2.2.2
  refine ⟨⟨?_, a2, a3, a4, a5, a6, ?_, ?_, ?_⟩, ⟨?_, ?_, b3, b4, ?_, ?_, ?_⟩, ⟨?_, ?_, hd, ?_, ?_⟩, ?_, ⟨?_, ?_, ?_, e4⟩⟩
  · rw [k 8 (by decide)]; exact a1
  · rw [k 4 (by decide)]; exact a7
  · rw [k 5 (by decide)]; exact a8
  · rw [k 6 (by decide)]; exact a9
  · rw [k 12 (by decide)]; exact b1
  · rw [k 15 (by decide)]; exact b2
  · rw [k 17 (by decide)]; exact b5
  · rw [k 19 (by decide), k 20 (by decide)]; exact b6
  · exact ⟨by rw [k 45 (by decide)]; exact b7.1, kEx_i b7.2 (fun q hq => k q (by revert hq; revert q; decide))⟩
  · rw [k 35 (by decide)]; exact c1
  · rw [k 36 (by decide)]; exact c2
  · rw [k 38 (by decide)]; exact c4
  · rw [k 39 (by decide)]; exact c5
  · rw [k 13 (by decide)]; exact d1
  · rw [k 40 (by decide)]; exact e1
  · rw [k 41 (by decide)]; exact e2
  · rw [k 42 (by decide)]; exact e3
theorem h_apply {n : Nat} {g : Nat → Nat} {i : Nat → Int32} {a : Nat → Nat → Int32} {T : Nat} {G : GS} {N : LN} {F : List Fr} {L : List Lv} {T0 ph : Nat} {got : Option Tr} {rd : Option Wt} (hn : 300000 ≤ n) (h : CR g i a T (G, N, F, L, ph, got, rd)) (inv : aInv (G, N, F, L, ph, got, rd)) (hs : nState N = 1) (hph : ph = 3 ∨ ph = 4) (hd : nDone N < 20000) (hr : T + mapPot L ≤ T0 + 3 * nMade N) (hT0 : T0 ≤ 250000) : TG n g T T0 (m_Machine_applyReady n g (upd (upd i 37 (i 37 + 1)) 46 0) a) (aApply (G, N, F, L, ph, got, rd)) := by
  obtain ⟨hc, hcs⟩ := h
  obtain ⟨s0, s1, s2, s3, s4⟩ := hcs hs
  obtain ⟨hg, hN, hl, hp4, hst⟩ := inv
  obtain ⟨t1, t3, t4, t2⟩ := hst hs
  have hw400 := hl.2.2.1
  have e37 : i 37 = nI (nDone N) := hc.2.2.1.2.2.1
  have e42 : i 42 = nI (lvWaits L) := hc.2.2.2.2.2.2.1
  have ga : g 0 ≤ 340000 := hc.1.2.2.2.2.1
  have hN' : nOk (nSetDone N (nDone N + 1)) := by
    obtain ⟨n1, n2, n3, n4, n5⟩ := hN
    exact ⟨n1, n2, by show nDone N + 1 ≤ 20000; omega, n4, n5⟩
  have hv := vals_room hl hN
  have hmin : m_Math_min n (nI (lvWaits L)) 400 = some (nI (lvWaits L)) := by
    unfold m_Math_min
    rw [if_neg (show ¬ (400 : Int32) < nI (lvWaits L) from nI_nlt (a := 400) hw400 (by decide))]
  unfold m_Machine_applyReady
  rw [ob1_s, show (upd (upd i 37 (i 37 + 1)) 46 0) 42 = i 42 from rfl, e42, hmin, ob0_s, ck_n (by omega), ob1_s, ob1_s, show (upd (upd i 37 (i 37 + 1)) 46 0) 44 = i 44 from rfl, cl_n (by omega)]
  rcases hph with rfl | rfl
  · obtain ⟨w, e1, e2, e3, e4⟩ := s3 rfl
    obtain ⟨w', f1, f2, f3, f4⟩ := t3 rfl
    rw [e1] at f1
    cases f1
    have k12 : wK w = 1 ∨ wK w = 2 := by rcases f2.2.2.2.1 with h | h | h <;> omega
    have h5 := f2.1
    have hrel : m_Waiting_release n g (upd (upd (upd i 37 (i 37 + 1)) 46 0) 44 0) a (nI (wNeed w)) = some (upd (upd (upd (upd i 37 (i 37 + 1)) 46 0) 44 0) 43 (nI (lvVals L)), a, 0) := by
      unfold m_Waiting_release m_Math_max
      rw [show (upd (upd (upd i 37 (i 37 + 1)) 46 0) 44 0) 43 = i 43 from rfl, e3, sub_n (by omega), show lvVals L + (wVals w).length - wNeed w = lvVals L by omega]
      rw [if_neg (show ¬ nI (lvVals L) < (0 : Int32) from nI_nlt (b := 0) (by omega) (by omega)), ob0_s, ob1_s]
    have hc2 : CI g (upd (upd (upd (upd i 37 (i 37 + 1)) 46 0) 44 0) 43 (nI (lvVals L))) a T G (nSetDone N (nDone N + 1)) F L := CI_done hc (fun q h1 h2 h3 h4 => by rw [upd_ne h4, upd_ne h3, upd_ne h2, upd_ne h1]) (by show i 37 + 1 = _; rw [e37]; exact nI_add _ 1)
    obtain ⟨w1, w2, w3, w4, w5, w6, w7⟩ := id e4
    have hI : INP g (upd (upd (upd (upd i 37 (i 37 + 1)) 46 0) 44 0) 43 (nI (lvVals L))) a T G (nSetDone N (nDone N + 1)) F L (wVals w) := ⟨hc2, hl, hg, hN', rfl, rfl, rfl, hv, w7⟩
    rw [e2, if_neg (show ¬ nI (wK w) = (3 : Int32) by rcases k12 with h | h <;> rw [h] <;> decide), ck_n (by omega), w3, hrel, ob_s]
    rw [e1]
    rcases k12 with hk | hk
    · obtain ⟨c1, c2, c3⟩ := f2.2.2.2.2.1 hk
      have hlen : (wVals w).length = (aKind (wCode w)).length := by rw [f3, c3]
      rw [hk, if_neg (show ¬ nI 1 = (2 : Int32) by decide), w2, h_inputsFit (by omega) hI c1 (by omega) hlen, ob0_s]
      have eA : aApply (G, N, F, L, 3, got, some w) = aDo (wCode w) (wVals w) G (nSetDone N (nDone N + 1)) F L := by
        unfold aApply
        dsimp only
        rw [if_neg (by decide), if_neg (by omega)]
      rw [eA]
      unfold aDo
      dsimp only
      cases hfit : aFits (aKind (wCode w)) (wVals w) with
      | false =>
        rw [if_pos rfl, b1_f, if_pos (show nI 0 = (0 : Int32) from rfl)]
        have := TG_of (T0 := T0) (TK_er (n := n) (e := 3) (o := some (_, a, -2147483645)) rfl (by omega) hc2 hl rfl (by decide) (by decide)) ga hr (aFail_mp 3 G (nSetDone N (nDone N + 1)) F L)
        exact this
      | true =>
        rw [if_neg (show ¬ true = false by decide), b1_t, if_neg (show ¬ nI 1 = (0 : Int32) by decide)]
        rcases Nat.lt_or_ge 19 (wCode w) with g1 | g1
        · rw [if_pos (show (19 : Int32) < nI (wCode w) from nI_lt (a := 19) g1 (by omega)), if_neg (show ¬ wCode w ≤ 19 by omega)]
          rcases Nat.lt_or_ge 31 (wCode w) with g2 | g2
          · rw [if_pos (show (31 : Int32) < nI (wCode w) from nI_lt (a := 31) g2 (by omega)), if_neg (show ¬ wCode w ≤ 31 by omega)]
            rcases Nat.lt_or_ge 49 (wCode w) with g3 | g3
            · rw [if_pos (show (49 : Int32) < nI (wCode w) from nI_lt (a := 49) g3 (by omega)), if_neg (show ¬ wCode w ≤ 49 by omega)]
              rcases Nat.lt_or_ge 59 (wCode w) with g4 | g4
              · rw [if_pos (show (59 : Int32) < nI (wCode w) from nI_lt (a := 59) g4 (by omega)), if_neg (show ¬ wCode w ≤ 59 by omega)]
                exact TG_pass (h_runningWord (by omega) hI (by omega) c2 rfl rfl rfl hlen hfit hr hT0)
              · rw [if_neg (show ¬ (59 : Int32) < nI (wCode w) from nI_nlt (a := 59) g4 (by decide)), if_pos g4]
                exact TG_of (h_otherWord hn hI (by omega) g4 rfl rfl hlen hfit) ga hr (aOther_mp _ _ _ _ _ _ _)
            · rw [if_neg (show ¬ (49 : Int32) < nI (wCode w) from nI_nlt (a := 49) g3 (by decide)), if_pos g3]
              exact TG_pass (h_valueWord hn hI (by omega) g3 rfl rfl hlen hfit hr hT0)
          · rw [if_neg (show ¬ (31 : Int32) < nI (wCode w) from nI_nlt (a := 31) g2 (by decide)), if_pos g2]
            exact TG_of (h_numberWord (by omega) hI (by omega) g2 rfl rfl hlen hfit) ga hr (retG_mp _ _ _ _ _)
        · rw [if_neg (show ¬ (19 : Int32) < nI (wCode w) from nI_nlt (a := 19) g1 (by decide)), if_pos g1]
          exact TG_of (h_turtleWord (by omega) hI c1 g1 rfl rfl hlen hfit) ga hr (retG_mp _ _ _ _ _)
    · have eA : aApply (G, N, F, L, 3, got, some w) = aCall w G (nSetDone N (nDone N + 1)) F L := by
        unfold aApply
        dsimp only
        rw [if_neg (by decide), if_pos hk]
      rw [hk, if_pos (show nI 2 = (2 : Int32) from rfl), eA]
      exact TG_of (h_openCall (vs := []) (by omega) hI e4 hk f2 f3) ga hr (aCall_mp _ _ _ _ _)
  · obtain ⟨e1, e2⟩ := s4 rfl
    obtain ⟨l, R, rfl, _⟩ := t4 rfl
    rw [e1, if_pos (show nI 3 = (3 : Int32) from rfl)]
    have hc2 : CI g (upd (upd (upd i 37 (i 37 + 1)) 46 0) 44 0) a T G (nSetDone N (nDone N + 1)) F (l :: R) := CI_done hc (fun q h1 h2 h3 h4 => by rw [upd_ne h3, upd_ne h2, upd_ne h1]) (by show i 37 + 1 = _; rw [e37]; exact nI_add _ 1)
    exact TG_of (h_turn (by omega) hc2 hl rfl rfl e2) ga hr ⟨aTurnOn_mp l R, rfl⟩

