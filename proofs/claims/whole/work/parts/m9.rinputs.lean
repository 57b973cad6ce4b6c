/-! the inputs of a word, in the reference -/
/-- which word it is: one of the language (false), or a procedure -/
def WD (a : Nat → Nat → Int32) (b : Nat → Nat → Int64) (B : RB4) (T many : Nat) (v9 v10 : Int32) (v12 : Int64) (ks cd : Nat) (ns : List Nm) (bdy : Tr) (pr : Bool) : Prop :=
  (pr = false ∧ ∃ p, p < 74 ∧ v9 = nI p ∧ ks = 1 ∧ cd = pCode p ∧ ns = [] ∧ bdy = .nil ∧ many = (aKind (pCode p)).length) ∨ (pr = true ∧ ∃ ys : Nat → Nat, v9 = -1 ∧ v10 = nI cd ∧ cd < 40 ∧ ks = 2 ∧ ns.length = many ∧ many ≤ 5 ∧ (∀ q (h : q < ns.length), b 111 (T + q) = vW (ys q) ∧ rW a B (ys q) (ns[q]'h)) ∧ rV a b B bdy none v12)
theorem WD_up {a a' : Nat → Nat → Int32} {b b' : Nat → Nat → Int64} {B B' : RB4} {T many : Nat} {v9 v10 : Int32} {v12 : Int64} {ks cd : Nat} {ns : List Nm} {bdy : Tr} {pr : Bool} (hu : rUp a b B a' b' B') (h : WD a b B T many v9 v10 v12 ks cd ns bdy pr) (hk : ∀ q, q < many → pr = true → b' 111 (T + q) = b 111 (T + q)) : WD a' b' B' T many v9 v10 v12 ks cd ns bdy pr := by
  rcases h with ⟨h0, h⟩ | ⟨h0, ys, h1, h2, h3, h4, h5, h6, h7, h8⟩
  · exact Or.inl ⟨h0, h⟩
  · exact Or.inr ⟨h0, ys, h1, h2, h3, h4, h5, h6, fun q hq => ⟨by rw [hk q (by omega) h0]; exact (h7 q hq).1, rW_up hu (h7 q hq).2⟩, (rV_up hu _).1 _ h8⟩
theorem WD_k {a : Nat → Nat → Int32} {b : Nat → Nat → Int64} {B : RB4} {T many : Nat} {v9 v10 : Int32} {v12 : Int64} {ks cd : Nat} {ns : List Nm} {bdy : Tr} {pr : Bool} (h : WD a b B T many v9 v10 v12 ks cd ns bdy pr) : ks ≠ 4 ∧ many ≤ 5 := by
  rcases h with ⟨h0, p, h1, h2, h3, h4, h5, h6, h7⟩ | ⟨h0, ys, h1, h2, h3, h4, h5, h6, h7, h8⟩
  · exact ⟨by omega, by have := aKind_le (pCode p); omega⟩
  · exact ⟨by omega, h6⟩
theorem in_l {n k bd : Nat} (hn : 100000 ≤ n) (hE : EvalS bd (k + 3) (mG n (k + 3)).1) (hRun : RunsS bd k (mG n k).2.2.2.1) (hRan : RanS bd k (mG n k).2.2.1) (hRan1 : RanS bd (k + 1) (mG n (k + 1)).2.2.1) (hRan2 : RanS bd (k + 2) (mG n (k + 2)).2.2.1) (hA : At105 (mG n (k + 2)).2.2.1) {c0 : Cfg} {l : Lv} {R : List Lv} {T s : Nat} {i0 : Nat → Int32} {j0 : Nat → Int64} {a0 : Nat → Nat → Int32} {b0 : Nat → Nat → Int64} {B0 : RB4} (hsl : s = wsStr (lWs l)) (hs4 : s ≤ 4) (hD : 6 * (151 - (l :: R).length) + (401 - lvWaits (l :: R)) ≤ k + 4) (hT : tpOk T (l :: R)) {many ks cd : Nat} {ns : List Nm} {bdy : Tr} {pr : Bool} {v9 v10 : Int32} {v12 : Int64} (hm1 : 1 ≤ many) : ∀ (m f : Nat) (i : Nat → Int32) (j : Nat → Int64) (a : Nat → Nat → Int32) (b : Nat → Nat → Int64) (B : RB4) (G : GS) (N : LN) (F : List Fr) (l2 : Lv) (vs : List Tr), m = many - vs.length → m < f → vs.length < many → To bd c0 (G, N, F, l2 :: R, 0, none, none) → sameL l l2 → lWs l2 = (ks, cd, many, 0, vs, ns, bdy) :: lWs l → lNx l < lNx l2 → nState N = 1 → IV G N F (l2 :: R) → rFull i j a b B bd G N F (l2 :: R) → rTop i a b B l2 → i 102 = 0 → i 107 = nI (T + (if pr then many else 0) + vs.length) → WD a b B T many v9 v10 v12 ks cd ns bdy pr → (∀ q (h : q < vs.length), rV a b B (vs[q]'h) none (b 111 (T + (if pr then many else 0) + q))) → rUp a0 b0 B0 a b B → rFm i0 j0 a0 b0 i j a b → kT7 b0 b T → PG bd c0 l R T i0 j0 a0 b0 B0 (ZE bd c0 l R T b0 (fun l' => lWs l' = lWs l ∧ lNx l < lNx l' ∧ (∀ s, aSign l' = some s → aStrength s ≤ wsStr (lWs l)))) (m_Model_eval_b426 n (mG n (k + 3)) f i j a b (nI s) v9 v10 (nI many) v12 (nI T) (nI vs.length)) := by
  intro m
  induction m with
  | zero => intro f i j a b B G N F l2 vs h1 _ h2; omega
  | succ m ih =>
    intro f i j a b B G N F l2 vs hm hf hvm ht hs hws hnx hN hI hw htp h102 h107 hwd hvs hu hfm hk7
    obtain ⟨f, rfl⟩ : ∃ f', f = f' + 1 := ⟨f - 1, by omega⟩
    obtain ⟨f, rfl⟩ : ∃ f', f = f' + 1 := ⟨f - 1, by omega⟩
    obtain ⟨k4, m5⟩ := WD_k hwd
    obtain ⟨off, eoff⟩ : ∃ off, off = (if pr then many else 0) := ⟨_, rfl⟩
    have hoff : off ≤ many := by rw [eoff]; split <;> omega
    rw [← eoff] at h107 hvs
    have l2wt : lvWaits (l2 :: R) = lvWaits (l :: R) + 1 := by rw [lvW_c, lvW_c, hws, List.length_cons]; omega
    have hmv : mapVals (l2 :: R) = mapVals (l :: R) := by rw [mapVals, mapVals, hs.2.2.2.2.2.2.2]
    have hlen2 : (l2 :: R).length = (l :: R).length := rfl
    have hT2 : tpOk (T + off + vs.length) (l2 :: R) := by
      unfold tpOk at hT ⊢
      rw [l2wt, hmv, hlen2]
      omega
    have htb := tp_le hT2 hI
    have hw400 : lvWaits (l2 :: R) ≤ 400 := hI.2.2.1.2.2.1
    have l2s : wsStr (lWs l2) = 0 := by rw [hws]; rfl
    have hev := hE i j a b B G N F l2 R (T + off + vs.length) hN hI hw htp h102 h107 hT2 (fun h => by rw [hws] at h; cases h) (by rw [l2wt, hlen2]; rw [l2wt] at hw400; omega)
    rw [l2s] at hev
    rw [m_Model_eval_b426, ile_n (by omega)]
    refine PG_bind hev ht hs hu hfm hk7 (by omega) ?_ ?_
    · intro i' j' a' b' v' B' gu gf g102 gz
      obtain ⟨G', N', F', l3, got, z1, ⟨z2, z3, z4⟩, z5, z6, z7, z8, z9, z10, z11, z12, z13⟩ := gz
      have l3w : lWs l3 = (ks, cd, many, 0, vs, ns, bdy) :: lWs l := z2.trans hws
      have hs3 := sameL_trans hs z5
      have hto3 := To_trans (To_trans ht z1) (To1 (bd := bd) z6)
      have hv3 := iv_settle (got := got) z8
      have hno : aSettle G' N' F' l3 R got = aInner G' N' F' l3 R got := settle_no (by rw [z2, l2s]; exact z4)
      rw [hno] at hto3 hv3
      have hu3 := rUp_trans hu gu
      have hf3 := rFm_trans hfm gf
      have hk3 : kT7 b0 b' T := kT7_trans hk7 z12 (by omega)
      have kNe : ¬ wK (ks, cd, many, 0, vs, ns, bdy) = 4 := k4
      rw [if_pos g102]
      cases got with
      | none =>
        have ei : aInner G' N' F' l3 R none = aFail 4 G' N' F' (l3 :: R) := by
          unfold aInner
          rw [l3w]
          dsimp only
          rw [if_neg kNe]
        rw [ei] at hto3
        rw [if_pos (rO_none z13), show (4 : Int32) = nI 4 from rfl, r_fails, om_s]
        exact PG_fail (by decide) hto3 hs3 z6 z8 z9.1 hu3 hf3 hk3
      | some y =>
        rw [if_neg (rO_some z13), z11, ck_n (by omega), cl_n (by omega), ob1_s, ob1_s, ob1_s, ob1_s, show nI (T + off + vs.length) + (1 : Int32) = nI (T + off + vs.length + 1) from nI_add _ 1, show nI vs.length + (1 : Int32) = nI (vs.length + 1) from nI_add _ 1]
        obtain ⟨i3, ei3⟩ : ∃ i3, i3 = upd i' 107 (nI (T + off + vs.length + 1)) := ⟨_, rfl⟩
        obtain ⟨b3, eb3⟩ : ∃ b3, b3 = svl b' 111 (T + off + vs.length) v' := ⟨_, rfl⟩
        rw [← ei3, ← eb3]
        have hi3 : ∀ q, q ≠ 107 → i3 q = i' q := fun q hq => by rw [ei3, upd_ne hq]
        have i3107 : i3 107 = nI (T + off + vs.length + 1) := by rw [ei3, upd_at]
        have h111 : b3 111 (T + off + vs.length) = v' := by rw [eb3]; exact svl_at
        have h111n : ∀ q, q ≠ T + off + vs.length → b3 111 q = b' 111 q := fun q hq => by rw [eb3]; exact svl_ne hq
        have hbn : ∀ q, q ≠ 111 → b3 q = b' q := fun q hq => by rw [eb3]; exact updB_ne hq
        obtain ⟨hu4, hwt4⟩ := rFull_top (T := T + off + vs.length) (v := v') z9
        rw [← eb3] at hu4 hwt4
        have hk4 : kT7 b0 b3 T := fun q hq => by rw [h111n q (by omega)]; exact hk3 q hq
        have hf4 : rFm i0 j0 a0 b0 i3 j' a' b3 := rFm_trans hf3 ⟨fun q hq => hi3 q (nm_ne hq (by decide)), fun _ _ => rfl, fun _ _ => rfl, fun q hq => hbn q (nm_ne hq (by decide))⟩
        have hvs4 : ∀ q (h : q < (vs ++ [y]).length), rV a' b3 B' ((vs ++ [y])[q]'h) none (b3 111 (T + off + q)) := by
          intro q hq
          rw [List.length_append] at hq
          have hq : q < vs.length + 1 := hq
          rcases Nat.lt_or_ge q vs.length with c | c
          · rw [List.getElem_append_left c, h111n _ (by omega), z12 _ (by omega)]
            exact (rV_up (rUp_trans gu hu4) _).1 _ (hvs q c)
          · have eq : q = vs.length := by omega
            subst eq
            rw [List.getElem_concat_length rfl, h111]
            exact (rV_up hu4 _).1 _ z13
        have hwd4 : WD a' b3 B' T many v9 v10 v12 ks cd ns bdy pr := WD_up (rUp_trans gu hu4) hwd (fun q hq hp9 => by
          have : off = many := by rw [eoff, hp9]; rfl
          rw [h111n _ (by omega)]
          exact z12 _ (by omega))
        have hvl : (vs ++ [y]).length = vs.length + 1 := by rw [List.length_append]; rfl
        have l3wt : lvWaits (l3 :: R) = lvWaits (l :: R) + 1 := by rw [lvW_c, lvW_c, l3w, List.length_cons]; omega
        have htp3 : rTop i3 a' b3 B' l3 := rTop_ct hu4 (hi3 105 (by decide)) (hi3 106 (by decide)) z10
        rcases (by omega : vs.length + 1 = many ∨ vs.length + 1 < many) with c | c
        · have ei : aInner G' N' F' l3 R (some y) = (G', N', F', lSetWs l3 (lWs l) :: R, 3, none, some (ks, cd, many, 0, vs ++ [y], ns, bdy)) := by
            unfold aInner
            rw [l3w]
            dsimp only
            rw [if_neg kNe]
            unfold aSupply
            dsimp only
            rw [if_pos (by show many ≤ vs.length + 1; omega)]
            rfl
          rw [ei] at hto3 hv3
          obtain ⟨l4, el4⟩ : ∃ l4, l4 = lSetWs l3 (lWs l) := ⟨_, rfl⟩
          rw [← el4] at hto3 hv3
          have hs4' : sameL l3 l4 := by rw [el4]; exact sameL_ws _ _
          have l4w : lWs l4 = lWs l := by rw [el4]; rfl
          have l4n : lNx l4 = lNx l3 := by rw [el4]; rfl
          have l4wt : lvWaits (l4 :: R) = lvWaits (l :: R) := by rw [lvW_c, lvW_c, l4w]
          have hw400' : lvWaits (l3 :: R) ≤ 400 := z8.2.2.1.2.2.1
          have p98 : i3 98 - 1 = nI (lvWaits (l4 :: R)) := by
            rw [hi3 98 (by decide), z9.2.2.1, l3wt, l4wt, rI_pred (by omega) (by omega), Nat.add_sub_cancel]
          have hq98 : ∀ q, q ≠ 98 → upd i3 98 (nI (lvWaits (l4 :: R))) q = i3 q := fun q hq => upd_ne hq
          have hw4 : rFull (upd i3 98 (nI (lvWaits (l4 :: R)))) j' a' b3 B' bd G' N' F' (l4 :: R) := rFull_ws hwt4 hs4' (fun q hq => by rw [upd_ne (nm_ne hq (by decide))]; exact hi3 q (nm_ne hq (by decide))) (by rw [upd_ne (by decide)]; exact hi3 97 (by decide)) upd_at (by rw [upd_ne (by decide)]; exact hi3 116 (by decide)) (by rw [upd_ne (by decide)]; exact hi3 117 (by decide))
          rw [m_Model_eval_b426, ile_p (by omega), show (0 : Int32) = nI 0 from rfl, ile_n (by omega)]
          refine app_l hn hE hRun hRan hRan1 hRan2 hA hsl hs4 hD hT (vs := vs ++ [y]) (T' := T + off + vs.length + 1) hto3 hv3 (sameL_trans hs3 hs4') l4w (by omega) z6 hw4 p98 (by
            obtain ⟨x', ⟨xx1, xx2⟩, xx3, xx4⟩ := htp3
            exact ⟨x', ⟨xx1, xx2⟩, by rw [hs4'.2.2.2.2.2.1]; exact xx3, by rw [l4n]; exact xx4⟩) ((hi3 102 (by decide)).trans g102) i3107 ⟨by omega, by omega⟩ ?_ (rUp_trans hu3 hu4) hf4 hk4
          rcases hwd4 with ⟨q0, p, q1, q2, q3, q4, q5, q6, q7⟩ | ⟨q0, ys, q1, q2, q3, q4, q5, q6, q7, q8⟩
          · have o0 : off = 0 := by rw [eoff, q0]; rfl
            refine Or.inl ⟨p, q1, q2, by rw [q3, q4, q5, q6], by omega, fun q hq => ?_⟩
            have := hvs4 q hq
            rw [o0, Nat.add_zero] at this
            exact this
          · have o0 : off = many := by rw [eoff, q0]; rfl
            refine Or.inr ⟨cd, ns, bdy, ys, q1, q2, q3, by rw [q4], q5, by omega, q6, q7, fun q hq => ?_, q8⟩
            have := hvs4 q hq
            rw [o0] at this
            exact this
        · have ei : aInner G' N' F' l3 R (some y) = (G', N', F', lSetWs l3 ((ks, cd, many, 0, vs ++ [y], ns, bdy) :: lWs l) :: R, 0, none, none) := by
            unfold aInner
            rw [l3w]
            dsimp only
            rw [if_neg kNe]
            unfold aSupply
            dsimp only
            rw [if_neg (by show ¬ many ≤ vs.length + 1; omega)]
            rfl
          rw [ei] at hto3 hv3
          obtain ⟨l4, el4⟩ : ∃ l4, l4 = lSetWs l3 ((ks, cd, many, 0, vs ++ [y], ns, bdy) :: lWs l) := ⟨_, rfl⟩
          rw [← el4] at hto3 hv3
          have hs4' : sameL l3 l4 := by rw [el4]; exact sameL_ws _ _
          have l4w : lWs l4 = (ks, cd, many, 0, vs ++ [y], ns, bdy) :: lWs l := by rw [el4]; rfl
          have l4n : lNx l4 = lNx l3 := by rw [el4]; rfl
          have l4wt : lvWaits (l4 :: R) = lvWaits (l3 :: R) := by rw [lvW_c, lvW_c, l4w, l3w, List.length_cons, List.length_cons]
          have hw4 : rFull i3 j' a' b3 B' bd G' N' F' (l4 :: R) := rFull_ws hwt4 hs4' (fun q hq => hi3 q (nm_ne hq (by decide))) (hi3 97 (by decide)) (by rw [hi3 98 (by decide), z9.2.2.1, l4wt]) (hi3 116 (by decide)) (hi3 117 (by decide))
          have := ih (f + 1) i3 j' a' b3 B' G' N' F' l4 (vs ++ [y]) (by omega) (by omega) (by omega) hto3 (sameL_trans hs3 hs4') l4w (by omega) z6 (iv_of hv3) hw4 (by
            obtain ⟨x', ⟨xx1, xx2⟩, xx3, xx4⟩ := htp3
            exact ⟨x', ⟨xx1, xx2⟩, by rw [hs4'.2.2.2.2.2.1]; exact xx3, by rw [l4n]; exact xx4⟩) ((hi3 102 (by decide)).trans g102) (by rw [i3107, hvl, ← eoff]; rfl) hwd4 (by rw [← eoff]; exact hvs4) (rUp_trans hu3 hu4) hf4 hk4
          rw [hvl] at this
          exact this
    · intro i' j' a' b' v' h'
      rw [if_neg h']
      exact ⟨3, rfl⟩

