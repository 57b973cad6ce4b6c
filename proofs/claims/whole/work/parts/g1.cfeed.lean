/-! the tape of the class, and what is left to show -/
theorem CR_tape {g : Nat → Nat} {i : Nat → Int32} {a : Nat → Nat → Int32} {T : Nat} {ks ks' : KS} {c : Cfg} {x : Int32} {f : Nat → Int32} (h : CR g i a T (kS ks c)) (hk : kEx (upd i 24 x) (updA a 31 f) T (gSetKept c.1 ks')) : CR g (upd i 24 x) (updA a 31 f) T (kS ks' c) := by
  obtain ⟨G, N, F, L, ph, got, rd⟩ := c
  obtain ⟨⟨h1, ⟨b1, b2, b3, b4, b5, b6, b7⟩, h3⟩, h4⟩ := h
  exact ⟨⟨h1, ⟨b1, b2, b3, b4, b5, b6, b7.1, hk⟩, h3⟩, h4⟩
theorem KP_tape {i : Nat → Int32} {a : Nat → Nat → Int32} {kt : Nat} {G : GS} {tl : Tr} {x : Int32} {f : Nat → Int32} (h : KP i a kt G tl) : KP (upd i 24 x) (updA a 31 f) kt G tl := h
theorem W_tape {g : Nat → Nat} {i : Nat → Int32} {a : Nat → Nat → Int32} {cc : Nat} {c : Cfg} {G0 : GS} {tl : Tr} {bk : Bool} {tp : Nat → Nat} {N fk fp : Nat} {tp' : Nat → Nat} {N' cc' : Nat} {f : Nat → Int32} (h : WC g i a cc (c, G0, tl, bk, tp, N, fk, fp)) (ht : tpR (upd i 24 (nI N')) (updA a 31 f) tp' N') (hc : N' + 20 * cc ≤ N + 20 * cc') (hc2 : cc ≤ cc') : WC g (upd i 24 (nI N')) (updA a 31 f) cc' (c, G0, tl, bk, tp', N', fk, fp) := by
  obtain ⟨T, kt, B, h1, h2, ⟨t1, t2, t3, t4, t5⟩, h4, h5, h6, h7, h8, h9, h10⟩ := h
  have hkx := CR_kEx h1
  exact ⟨T, kt, B, CR_tape h1 (kEx_new hkx.2.2.1 hkx.2.2.2.2.1 hkx.2.2.2.2.2.2), h2, ⟨ht, t2, t3, t4, t5⟩, h4, h5, h6, fun hb => ⟨KP_tape (h7 hb).1, (h7 hb).2⟩, h8, by omega, by omega⟩
theorem by4_n (v s : Int32) : ∃ m, m < 256 ∧ by4 v s = nI m := by
  unfold by4
  generalize (v.toUInt32 >>> (s.toUInt32 &&& Int32.toUInt32 31)).toInt32 = y
  have e : y = nI y.toBitVec.toNat := by
    apply Int32.toBitVec_inj.mp
    show y.toBitVec = BitVec.ofNat 32 y.toBitVec.toNat
    rw [BitVec.ofNat_toNat, BitVec.setWidth_eq]
  refine ⟨y.toBitVec.toNat % 256, Nat.mod_lt _ (by decide), ?_⟩
  conv => lhs; rw [e]
  rw [show (255 : Int32) = nI 255 from rfl, nI_255]
def btN (v : Int32) (j : Nat) : Nat := (by4 v (nI (24 - 8 * j))).toNatClampNeg
theorem btN_eq (v : Int32) (j : Nat) : by4 v (nI (24 - 8 * j)) = nI (btN v j) ∧ btN v j < 256 := by
  unfold btN
  obtain ⟨m, h1, h2⟩ := by4_n v (nI (24 - 8 * j))
  rw [h2, cl_n (by omega)]
  exact ⟨rfl, h1⟩
theorem put4_low {f : Nat → Int32} {t k : Nat} {v : Int32} (h : k < t) : put4 f t v k = f k := by
  unfold put4
  rw [upd_ne (by omega), upd_ne (by omega), upd_ne (by omega), upd_ne (by omega)]
theorem put4_at {f : Nat → Int32} {t j : Nat} {v : Int32} (h : j < 4) : put4 f t v (t + j) = nI (btN v j) := by
  unfold put4
  rw [← (btN_eq v j).1]
  have : j = 0 ∨ j = 1 ∨ j = 2 ∨ j = 3 := by omega
  rcases this with rfl | rfl | rfl | rfl
  · rw [upd_ne (by omega), upd_ne (by omega), upd_ne (by omega), Nat.add_zero, upd_at]; rfl
  · rw [upd_ne (by omega), upd_ne (by omega), upd_at]; rfl
  · rw [upd_ne (by omega), upd_at]; rfl
  · rw [upd_at]; rfl
def sel5 (v1 v2 v3 v4 v5 : Int32) (m : Nat) : Int32 := if m < 4 then v1 else if m < 8 then v2 else if m < 12 then v3 else if m < 16 then v4 else v5
def aFeedT (tp : Nat → Nat) (N : Nat) (v1 v2 v3 v4 v5 : Int32) : Nat → Nat := fun k => if N ≤ k ∧ k < N + 20 then btN (sel5 v1 v2 v3 v4 v5 (k - N)) ((k - N) % 4) else tp k
theorem W_feed {n : Nat} {g : Nat → Nat} {i : Nat → Int32} {a : Nat → Nat → Int32} {cc : Nat} {c : Cfg} {G0 : GS} {tl : Tr} {bk : Bool} {tp : Nat → Nat} {N fk fp : Nat} {v1 v2 v3 v4 v5 : Int32} (hn : 5 ≤ n) (h : WC g i a cc (c, G0, tl, bk, tp, N, fk, fp)) : (4000 < N + 20 ∧ m_World_feed n g i a v1 v2 v3 v4 v5 = some (i, a, nI 0)) ∨ (N + 20 ≤ 4000 ∧ ∃ i' a', m_World_feed n g i a v1 v2 v3 v4 v5 = some (i', a', nI 1) ∧ WC g i' a' (cc + 1) (c, G0, tl, bk, aFeedT tp N v1 v2 v3 v4 v5, N + 20, fk, fp)) := by
  obtain ⟨T, ks, hci, hv, ⟨⟨t1, t2, t3, t4⟩, hw⟩⟩ := WC_ci h
  rcases Nat.lt_or_ge 4000 (N + 20) with c1 | c1
  · left
    refine ⟨c1, ?_⟩
    unfold m_World_feed m_Reader_hasRoom
    rw [t1, show (20 : Int32) = Int32.ofNat 20 from rfl, nI_plusX, if_pos (show (4000 : Int32) < nI (N + 20) from nI_lt (a := 4000) c1 (by omega)), ob0_s, if_pos rfl]
    rfl
  · right
    refine ⟨c1, _, _, feed_w hn t1 c1, W_tape h ⟨upd_at, c1, fun k hk => ?_, fun k => ?_⟩ (by omega) (by omega)⟩
    · rw [updA_at]
      unfold aFeedT
      rcases Nat.lt_or_ge k N with d | d
      · rw [if_neg (by omega), put4_low (by omega), put4_low (by omega), put4_low (by omega), put4_low (by omega), put4_low (by omega)]
        exact t3 k d
      · rw [if_pos ⟨d, hk⟩]
        unfold sel5
        rcases Nat.lt_or_ge k (N + 4) with d1 | d1
        · rw [if_pos (by omega), put4_low (by omega), put4_low (by omega), put4_low (by omega), put4_low (by omega)]
          have := put4_at (f := a 31) (t := N) (j := k - N) (v := v1) (by omega)
          rw [show N + (k - N) = k by omega] at this
          rw [this, show (k - N) % 4 = k - N by omega]
        rw [if_neg (by omega)]
        rcases Nat.lt_or_ge k (N + 8) with d2 | d2
        · rw [if_pos (by omega), put4_low (by omega), put4_low (by omega), put4_low (by omega)]
          have := put4_at (f := put4 (a 31) N v1) (t := N + 4) (j := k - (N + 4)) (v := v2) (by omega)
          rw [show N + 4 + (k - (N + 4)) = k by omega] at this
          rw [this, show (k - N) % 4 = k - (N + 4) by omega]
        rw [if_neg (by omega)]
        rcases Nat.lt_or_ge k (N + 12) with d3 | d3
        · rw [if_pos (by omega), put4_low (by omega), put4_low (by omega)]
          have := put4_at (f := put4 (put4 (a 31) N v1) (N + 4) v2) (t := N + 8) (j := k - (N + 8)) (v := v3) (by omega)
          rw [show N + 8 + (k - (N + 8)) = k by omega] at this
          rw [this, show (k - N) % 4 = k - (N + 8) by omega]
        rw [if_neg (by omega)]
        rcases Nat.lt_or_ge k (N + 16) with d4 | d4
        · rw [if_pos (by omega), put4_low (by omega)]
          have := put4_at (f := put4 (put4 (put4 (a 31) N v1) (N + 4) v2) (N + 8) v3) (t := N + 12) (j := k - (N + 12)) (v := v4) (by omega)
          rw [show N + 12 + (k - (N + 12)) = k by omega] at this
          rw [this, show (k - N) % 4 = k - (N + 12) by omega]
        rw [if_neg (by omega)]
        have := put4_at (f := put4 (put4 (put4 (put4 (a 31) N v1) (N + 4) v2) (N + 8) v3) (N + 12) v4) (t := N + 16) (j := k - (N + 16)) (v := v5) (by omega)
        rw [show N + 16 + (k - (N + 16)) = k by omega] at this
        rw [this, show (k - N) % 4 = k - (N + 16) by omega]
    · unfold aFeedT
      split
      · exact (btN_eq _ _).2
      · exact t4 k
theorem W_end {n : Nat} {g : Nat → Nat} {i : Nat → Int32} {a : Nat → Nat → Int32} {cc : Nat} {c : Cfg} {G0 : GS} {tl : Tr} {bk : Bool} {tp : Nat → Nat} {N fk fp : Nat} {x : Int32} (h : WC g i a cc (c, G0, tl, bk, tp, N, fk, fp)) : ((x < 0 ∨ nI N < x) ∧ m_World_end n g i a x = some (i, a, nI 0)) ∨ (∃ z, z ≤ N ∧ x = nI z ∧ ∃ i', m_World_end n g i a x = some (i', a, nI 1) ∧ WC g i' a (cc + 1) (c, G0, tl, bk, tp, z, fk, fp)) := by
  obtain ⟨T, ks, hci, hv, ⟨⟨t1, t2, t3, t4⟩, hw⟩⟩ := WC_ci h
  unfold m_World_end m_Reader_cut
  rw [t1]
  rcases i32_cases x with hx | ⟨hx, z, hz, rfl⟩
  · left
    refine ⟨Or.inl hx, ?_⟩
    rw [if_pos hx, ob_s, cb_0]
    rfl
  rw [if_neg hx]
  rcases Nat.lt_or_ge N z with c1 | c1
  · left
    refine ⟨Or.inr (nI_lt c1 (by omega)), ?_⟩
    rw [ile_n (by omega), ob_s, cb_0]
    rfl
  · right
    refine ⟨z, c1, rfl, upd i 24 (nI z), ?_, ?_⟩
    · rw [ile_p (by omega), ob1_s, ob_s, cb_1]
      rfl
    · have := W_tape (tp' := tp) (N' := z) (f := a 31) h ⟨upd_at, by omega, fun k hk => by rw [updA_self]; exact t3 k (by omega), t4⟩ (show z + 20 * cc ≤ N + 20 * (cc + 1) by omega) (by omega)
      rw [updA_self] at this
      exact this
def aFaultW (fk fp : Nat) (x : Int32) : Int32 := if fk = 0 then -1 else if x = 0 then nI fp else if x = 1 then nI fk else -1
theorem W_fault {n : Nat} {g : Nat → Nat} {i : Nat → Int32} {a : Nat → Nat → Int32} {cc : Nat} {c : Cfg} {G0 : GS} {tl : Tr} {bk : Bool} {tp : Nat → Nat} {N fk fp : Nat} {x : Int32} (h : WC g i a cc (c, G0, tl, bk, tp, N, fk, fp)) : m_World_fault n g i a x = some (aFaultW fk fp x) := by
  obtain ⟨T, ks, hci, hv, ⟨t, t2, t3, t4, t5⟩⟩ := WC_ci h
  unfold m_World_fault aFaultW
  rw [t2]
  rcases Classical.em (fk = 0) with c1 | c1
  · subst c1
    rw [if_pos (show nI 0 = (0 : Int32) from rfl), if_pos rfl]
  · rw [if_neg (show ¬ nI fk = (0 : Int32) from fun e => c1 ((nI_eq (b := 0) (by omega) (by omega)).mp e)), if_neg c1, t4 c1]
    rcases Classical.em (x = 0) with c2 | c2
    · rw [if_pos c2, if_pos c2]
    rw [if_neg c2, if_neg c2]
    rcases Classical.em (x = 1) with c3 | c3
    · rw [if_pos c3, if_pos c3]
    · rw [if_neg c3, if_neg c3]
theorem oF_kEx {i i' : Nat → Int32} {a a' : Nat → Nat → Int32} {T : Nat} {G : GS} (h : kEx i a T G) (ho : oF i a i' a') : kEx i' a' T G := by
  refine kEx_a (kEx_i h (fun q hq => ho.1 q ?_)) (fun q hq => ho.2 q ?_ ?_ ?_)
  · unfold kInts at hq
    simp only [List.mem_cons, List.not_mem_nil, or_false] at hq
    omega
  all_goals
    unfold kRows at hq
    simp only [List.mem_cons, List.not_mem_nil, or_false] at hq
    omega
theorem W_oF {g : Nat → Nat} {i : Nat → Int32} {a : Nat → Nat → Int32} {i' : Nat → Int32} {a' : Nat → Nat → Int32} {cc : Nat} {c : Cfg} {G0 : GS} {tl : Tr} {bk : Bool} {tp : Nat → Nat} {N fk fp : Nat} (h : WC g i a cc (c, G0, tl, bk, tp, N, fk, fp)) (ho : oF i a i' a') : WC g i' a' cc (c, G0, tl, bk, tp, N, fk, fp) := by
  obtain ⟨T, kt, B, h1, h2, ⟨⟨t1, t6, t7, t8⟩, t2, t3, t4, t5⟩, h4, h5, h6, h7, h8, h9, h10⟩ := h
  have hkx := CR_kEx h1
  have e0 : a' 0 = a 0 := ho.2 0 (by decide) (by decide) (by decide)
  have hcr : CR g i' a' T (kS (gh i a kt bk G0) c) := by
    obtain ⟨G, N', F, L, ph, got, rd⟩ := c
    refine ⟨CI_oF h1.1 ho, fun hs => ?_⟩
    have := h1.2 hs
    rw [ho.1 46 (by decide), ho.1 44 (by decide), ho.1 43 (by decide), ho.1 47 (by decide), e0, ho.2 47 (by decide) (by decide) (by decide), ho.2 48 (by decide) (by decide) (by decide), ho.2 49 (by decide) (by decide) (by decide), ho.2 50 (by decide) (by decide) (by decide), ho.2 51 (by decide) (by decide) (by decide), ho.2 52 (by decide) (by decide) (by decide), ho.2 53 (by decide) (by decide) (by decide), ho.2 54 (by decide) (by decide) (by decide)]
    exact this
  refine ⟨T, kt, B, CR_re hcr (kEx_new hkx.2.2.1 hkx.2.2.2.2.1 hkx.2.2.2.2.2.2), h2, ⟨⟨(ho.1 24 (by decide)).trans t1, t6, fun k hk => by rw [ho.2 31 (by decide) (by decide) (by decide)]; exact t7 k hk, t8⟩, (ho.1 26 (by decide)).trans t2, t3, fun e => (ho.1 25 (by decide)).trans (t4 e), (ho.1 7 (by decide)).trans t5⟩, by rw [e0]; exact h4, h5, (ho.1 3 (by decide)).trans h6, fun hb => ⟨?_, (h7 hb).2⟩, h8, h9, h10⟩
  subst hb
  exact KP_keep (h7 rfl).1 (CR_kEx hcr)
def aValW (G : GS) (k x : Int32) : Int32 := if k < 0 then -1 else match (gGlob G)[k.toNatClampNeg]? with
  | none => -1
  | some p => aLetter (aSh p.2 0) x
theorem W_value {n : Nat} {g : Nat → Nat} {i : Nat → Int32} {a : Nat → Nat → Int32} {cc : Nat} {c : Cfg} {G0 : GS} {tl : Tr} {bk : Bool} {tp : Nat → Nat} {N fk fp : Nat} {x y : Int32} (hn : 300000 ≤ n) (h : WC g i a cc (c, G0, tl, bk, tp, N, fk, fp)) : ∃ i' a', m_World_value n g i a x y = some (i', a', aValW c.1 x y) ∧ WC g i' a' (cc + 1) (c, G0, tl, bk, tp, N, fk, fp) := by
  obtain ⟨T, ks, ⟨⟨a1, a2, a3, a4, a5, a6⟩, ⟨b1, b2⟩, h3⟩, hv, hw⟩ := WC_ci h
  have b11 : i 12 = nI (gGlob c.1).length := b1.1
  have b12 : (gGlob c.1).length ≤ 64 := b1.2.1
  unfold m_World_value m_Names_globalValue aValW
  rcases i32_cases x with hx | ⟨hx, z, hz, rfl⟩
  · rw [if_pos hx, ob0_s, if_pos rfl, if_pos hx]
    exact ⟨i, a, rfl, cc_up h (by omega)⟩
  rw [if_neg hx, if_neg hx, b11, cl_n hz]
  rcases Nat.lt_or_ge z (gGlob c.1).length with c1 | c1
  rotate_left
  · rw [ile_p (by omega), ob0_s, if_pos rfl, List.getElem?_eq_none c1]
    exact ⟨i, a, rfl, cc_up h (by omega)⟩
  have hv := (b1.2.2 z c1).2
  have hv : cV (a 0) T ((gGlob c.1)[z]'c1).2 none (a 11 z) := hv
  rw [ile_n (by omega), ck_n (by omega), ob0_s, if_neg (show ¬ a 11 z = (-2147483648 : Int32) from cV_no (by omega) hv), List.getElem?_eq_getElem c1]
  unfold m_Output_begin
  rw [ob1_s, ob_s]
  have tx0 : TX (upd i 23 (nI 0)) a [] := ⟨rfl, Nat.zero_le _, fun k hk => absurd hk (Nat.not_lt_zero k)⟩
  obtain ⟨i', a', q1, q2, q3, q4, q5⟩ := h_shown (n := n) (g := g) (i := upd i 23 (nI 0)) (a := a) (bare := false) hn a3 a5 tx0 hv (Nat.zero_le _)
  have q1' : m_Output_addShown n g (upd i 23 0) a (a 11 z) (0 : Int32) = some (i', a', nI 0) := q1
  rw [q1', ob_s]
  have esh : [] ++ aShow ((gGlob c.1)[z]'c1).2 false = aSh ((gGlob c.1)[z]'c1).2 0 := by
    unfold aShow
    rw [Bool.and_false, if_neg (by decide), List.nil_append]
  rw [esh] at q2
  have ho : oF i a i' a' := oF_trans (i' := upd i 23 (nI 0)) (a' := a) ⟨fun q hq => upd_ne hq, fun _ _ _ _ => rfl⟩ q3
  refine ⟨i', a', ?_, cc_up (W_oF h ho) (by omega)⟩
  dsimp only
  unfold m_Output_signAt aLetter
  obtain ⟨x1, x2, x3⟩ := q2
  rw [x1]
  rcases i32_cases y with hy | ⟨hy, u, hu, rfl⟩
  · rw [if_pos hy, ob0_s, if_pos hy]
  rw [if_neg hy, if_neg hy, cl_n hu]
  rcases Nat.lt_or_ge u (aSh ((gGlob c.1)[z]'c1).2 0).length with d | d
  · rw [ile_n (by omega), ck_n (by omega), ob0_s, List.getElem?_eq_getElem d, x3 u d]
  · rw [ile_p (by omega), ob0_s, List.getElem?_eq_none d]

