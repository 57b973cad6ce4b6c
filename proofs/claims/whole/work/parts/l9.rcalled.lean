/-! calls of procedures in the reference -/
theorem sv_at {a : Nat → Nat → Int32} {k s : Nat} {v : Int32} : sv a k s v k s = v := by
  show updA a k (upd (a k) s v) k s = v
  rw [updA_at, upd_at]
theorem sv_ne {a : Nat → Nat → Int32} {k s q : Nat} {v : Int32} (h : q ≠ s) : sv a k s v k q = a k q := by
  show updA a k (upd (a k) s v) k q = a k q
  rw [updA_at, upd_ne h]
theorem called_l {n : Nat} {g : GB} {i : Nat → Int32} {j : Nat → Int64} {base many c : Nat} {v4 : Int64} {v6 v7 v8 v9 : Int32} {ys : Nat → Nat} {r0 : Nat → Int64} (hb : base + 2 * many ≤ 36000) (hc : c < 150) (hm : many ≤ 12) (hy : ∀ q, q < many → r0 (base + q) = vW (ys q) ∧ ys q < 120000) : ∀ (m q f : Nat) (a : Nat → Nat → Int32) (b : Nat → Nat → Int64), q + m = many → m < f → b 111 = r0 → ∃ a' b' f', m_Model_called_b60 n g f i j a b (nI base) (nI many) v4 v6 v7 v8 v9 (nI c) (nI q) = m_Model_called_b60 n g (f' + 1) i j a' b' (nI base) (nI many) v4 v6 v7 v8 v9 (nI c) (nI many) ∧ (∀ r, r ≠ 114 → a' r = a r) ∧ (∀ r, r ≠ 115 → b' r = b r) ∧ (∀ k, k < 12 * c + q → a' 114 k = a 114 k ∧ b' 115 k = b 115 k) ∧ ∀ k, q ≤ k → k < many → a' 114 (12 * c + k) = nI (ys k) ∧ b' 115 (12 * c + k) = r0 (base + many + k) := by
  intro m
  induction m with
  | zero =>
    intro q f a b hq hf hr
    obtain ⟨f, rfl⟩ : ∃ f', f = f' + 1 := ⟨f - 1, by omega⟩
    have : q = many := by omega
    subst this
    exact ⟨a, b, f, rfl, fun _ _ => rfl, fun _ _ => rfl, fun _ _ => ⟨rfl, rfl⟩, fun k h1 h2 => by omega⟩
  | succ m ih =>
    intro q f a b hq hf hr
    obtain ⟨f, rfl⟩ : ∃ f', f = f' + 1 := ⟨f - 1, by omega⟩
    obtain ⟨y1, y2⟩ := hy q (by omega)
    have e12 : (12 : Int32) * nI c = nI (12 * c) := by rw [show (12 : Int32) = nI 12 from rfl, pk_mul]
    obtain ⟨a', b', f', h1, h2, h3, h4, h5⟩ := ih (q + 1) f (sv a 114 (12 * c + q) (nI (ys q))) (svl b 115 (12 * c + q) (r0 (base + many + q))) (by omega) (by omega) ((updB_ne (by decide)).trans hr)
    refine ⟨a', b', f', ?_, fun r hr9 => (h2 r hr9).trans (updA_ne hr9), fun r hr9 => (h3 r hr9).trans (updB_ne hr9), fun k hk => ?_, fun k k1 k2 => ?_⟩
    · rw [m_Model_called_b60, ile_n (by omega), nI_add, ck_n (by omega), cl_n (by omega), hr, y1, r_whatW (by omega), ob0_s, e12, nI_add, ck_n (by omega), ob1_s, cl_n (by omega), nI_add, nI_add, ck_n (by omega), ck_n (by omega), cl_n (by omega), ob1_s, show nI q + (1 : Int32) = nI (q + 1) from nI_add q 1, ob1_s]
      exact h1
    · obtain ⟨g1, g2⟩ := h4 k (by omega)
      rw [g1, g2, sv_ne (by omega), svl_ne (by omega)]
      exact ⟨rfl, rfl⟩
    · rcases (by omega : k = q ∨ q + 1 ≤ k) with e | e
      · subst e
        obtain ⟨g1, g2⟩ := h4 (12 * c + k) (by omega)
        rw [g1, g2, sv_at, svl_at]
        exact ⟨rfl, rfl⟩
      · exact h5 k e k2
theorem rWk_pop1 {i : Nat → Int32} {j : Nat → Int64} {a : Nat → Nat → Int32} {b : Nat → Nat → Int64} {B : RB4} {bd : Nat} {G : GS} {N : LN} {F : List Fr} {x : Lv} {L : List Lv} (h : rWk i j a b B bd G N F (x :: L)) (h1 : lK x = 1) (hF : 1 ≤ F.length ∧ F.length ≤ 1000) : rWk (upd i 99 (i 99 - 1)) j a b B bd (popG G x) N (popF F x) L := by
  obtain ⟨w, r, hs, hpd⟩ := h
  obtain ⟨⟨w1, w2, w3⟩, w4, ⟨w5, w6, w7⟩, w8, ⟨w9, w10⟩, w11, ⟨w12, w13⟩, w14, ⟨w15, w16, w17⟩, w18, w19⟩ := id w
  have hur := rUp_refl (a := a) (b := b) (rWo_B w)
  have hi : ∀ q, q ≠ 99 → upd i 99 (i 99 - 1) q = i q := fun q hq => upd_ne hq
  have eF : popF F x = F.tail := by unfold popF; rw [if_pos h1]; cases F <;> rfl
  rw [popG_7 (by omega), eF]
  match F, hF, w5, w6, w7 with
  | f :: F2, hF, w5, w6, w7 =>
    refine ⟨⟨⟨rB_i w1 (hi 18 (by decide)) (hi 19 (by decide)) (hi 20 (by decide)) (hi 21 (by decide)), w2, w3⟩, w4, ⟨w5.2.2, w6.2, ?_⟩, rGl_up hur (hi 36 (by decide)) (fun _ _ => ⟨rfl, rfl⟩) w8, ⟨rPr_up hur (hi 33 (by decide)) (fun _ _ => ⟨rfl, rfl, rfl⟩) (fun _ _ => rfl) w9, w10⟩, rTu_up w11 (fun _ _ _ => rfl) (hi 47 (by decide)), ⟨w12, w13⟩, (hi 46 (by decide)).trans w14, ⟨(hi 93 (by decide)).trans w15, (hi 95 (by decide)).trans w16, (hi 96 (by decide)).trans w17⟩, w18, w19⟩, r.2.2.2, rAs_i (rAs_pop hs (by omega) (by omega)) (hi 118 (by decide)) (hi 103 (by decide)) (hi 104 (by decide)), rPd_pop hpd⟩
    rw [upd_at, w7, rI_pred hF.1 (by omega)]
    rfl
/-- a call -/
theorem r_called {n D : Nat} {i : Nat → Int32} {j : Nat → Int64} {a : Nat → Nat → Int32} {b : Nat → Nat → Int64} {B : RB4} {bd : Nat} {G : GS} {N : LN} {F : List Fr} {g : GB} (hn : 1000 ≤ n) (hR : RanS bd D g.2.2.1) (hA : At105 g.2.2.1) {l : Lv} {R : List Lv} {T k base many : Nat} {ns : List Nm} {vs : List Tr} {body : Tr} {v : Int64} {ys : Nat → Nat} (hN : nState N = 1) (hI : IV G N F (l :: R)) (hv : aInv2 (aCall (2, k, many, 0, vs, ns, body) G N F (l :: R))) (hw : rFull i j a b B bd G N F (l :: R)) (htp : rTop i a b B l) (h102 : i 102 = 0) (h107 : i 107 = nI T) (hTb : T ≤ base + 10) (hbT : base ≤ T) (hT : tpOk base (l :: R)) (hl1 : ns.length = many) (hl2 : vs.length = many) (hm5 : many ≤ 5) (hk : k < 40) (hy : ∀ q (h : q < ns.length), b 111 (base + q) = vW (ys q) ∧ rW a B (ys q) (ns[q]'h)) (hx : ∀ q (h : q < vs.length), rV a b B (vs[q]'h) none (b 111 (base + many + q))) (hbv : rV a b B body none v) (hD : 6 * (151 - (l :: R).length - 1) + (401 - lvWaits (l :: R)) + 2 ≤ D) : PG bd (aCall (2, k, many, 0, vs, ns, body) G N F (l :: R)) l R base i j a b B (ZL bd (aCall (2, k, many, 0, vs, ns, body) G N F (l :: R)) N l R base b) (m_Model_called n g i j a b (nI k) (nI base) (nI many) v) := by
  have h97 : i 97 = nI (l :: R).length := hw.2.1
  have h99 : i 99 = nI F.length := hw.1.1.2.2.1.2.2
  have hlen := hI.2.2.1.2.1
  have hFl : F.length ≤ (l :: R).length := by rw [hI.2.2.1.2.2.2.2.1]; exact lvCalls_le _
  have htb : base ≤ 35500 := tp_le hT hI
  unfold m_Model_called m_Model_hasLevel
  rw [h97, show (150 : Int32) = nI 150 from rfl]
  rcases (by omega : (l :: R).length = 150 ∨ (l :: R).length < 150) with c | c
  · have ea : aCall (2, k, many, 0, vs, ns, body) G N F (l :: R) = aFail 6 G N F (l :: R) := by unfold aCall; rw [if_pos (by omega)]
    rw [ieq_p (by omega), show (6 : Int32) = nI 6 from rfl, r_fails, om_s, om_s, if_pos rfl, ea]
    exact PG_fail (by decide) To_refl (sameL_refl l) hN hI hw.1 (rUp_refl (rWo_B hw.1.1)) rFm_refl kT7_refl
  have ea : aCall (2, k, many, 0, vs, ns, body) G N F (l :: R) = (G, N, (k, ns.zip (vs.map some)) :: F, lNew 1 body 1 .nil k .nil :: l :: R, 0, none, none) := by unfold aCall; rw [if_neg (by omega)]; rfl
  rw [ea] at hv ⊢
  obtain ⟨x, ex⟩ : ∃ x, x = lNew 1 body 1 .nil k .nil := ⟨_, rfl⟩
  obtain ⟨fr, efr⟩ : ∃ fr : Fr, fr = (k, ns.zip (vs.map some)) := ⟨_, rfl⟩
  rw [← ex, ← efr] at hv ⊢
  have xk : lK x = 1 := by rw [ex]; rfl
  have xw : lWs x = [] := by rw [ex]; rfl
  have xn : lNx x = 0 := by rw [ex]; rfl
  have xl : lLst x = body := by rw [ex]; rfl
  have hI2 : IV G N (fr :: F) (x :: l :: R) := iv_of hv
  rw [ieq_n (by omega), om_s, if_neg (by decide)]
  simp only [ob1_s]
  rw [h99, ck_n (by omega), ck_n (by omega), cl_n (by omega)]
  have hyy : ∀ q, q < many → b 111 (base + q) = vW (ys q) ∧ ys q < 120000 := fun q hq => by
    obtain ⟨g1, g2⟩ := hy q (by omega)
    exact ⟨g1, by have := g2.1; have := g2.2.1; omega⟩
  obtain ⟨a2, b2, f2, k1, k2, k3, k4, k5⟩ := called_l (n := n) (g := g) (i := i) (j := j) (base := base) (many := many) (c := F.length) (v4 := v) (v6 := i 98) (v7 := i 97) (v8 := i 116) (v9 := i 117) (ys := ys) (r0 := b 111) (by omega) (by omega) (by omega) hyy many 0 n (sv (sv a 112 F.length (nI k)) 113 F.length (nI many)) b (by omega) (by omega) rfl
  rw [show (0 : Int32) = nI 0 from rfl, k1, m_Model_called_b60, ile_p (by omega), ob1_s, ob1_s, h99, show nI F.length + (1 : Int32) = nI (F.length + 1) from nI_add _ 1]
  have ha2 : ∀ q, q ∉ [112, 113, 114] → a2 q = a q := fun q hq => by
    rw [k2 q (nm_ne hq (by decide))]
    show updA (updA a 112 _) 113 _ q = a q
    rw [updA_ne (nm_ne hq (by decide)), updA_ne (nm_ne hq (by decide))]
  have h112 : a2 112 F.length = nI k ∧ ∀ q, q ≠ F.length → a2 112 q = a 112 q := by
    rw [k2 112 (by decide)]
    show updA (updA a 112 (upd (a 112) F.length (nI k))) 113 _ 112 F.length = nI k ∧ ∀ q, q ≠ F.length → updA (updA a 112 (upd (a 112) F.length (nI k))) 113 _ 112 q = a 112 q
    rw [updA_ne (by decide), updA_at]
    exact ⟨upd_at, fun q hq => upd_ne hq⟩
  have h113 : a2 113 F.length = nI many ∧ ∀ q, q ≠ F.length → a2 113 q = a 113 q := by
    rw [k2 113 (by decide)]
    refine ⟨sv_at, fun q hq => ?_⟩
    rw [sv_ne hq]
    show updA a 112 _ 113 q = a 113 q
    rw [updA_ne (by decide)]
  have h114 : ∀ q, q < 12 * F.length → a2 114 q = a 114 q ∧ b2 115 q = b 115 q := fun q hq => by
    obtain ⟨g1, g2⟩ := k4 q (by omega)
    rw [g1, g2]
    refine ⟨?_, rfl⟩
    show updA (updA a 112 _) 113 _ 114 q = a 114 q
    rw [updA_ne (by decide), updA_ne (by decide)]
  have hs : rSame a a2 b b2 := ⟨ha2 1 (by decide), ha2 3 (by decide), ha2 4 (by decide), ha2 12 (by decide), ha2 13 (by decide), ha2 14 (by decide), k3 10 (by decide)⟩
  have hu2 := rUp_same hs (rWo_B hw.1.1)
  obtain ⟨i2, e2⟩ : ∃ i2, i2 = upd i 99 (nI (F.length + 1)) := ⟨_, rfl⟩
  rw [← e2]
  have q2 : ∀ q, q ≠ 99 → i2 q = i q := fun q hq => by rw [e2, upd_ne hq]
  have hzl : (ns.zip (vs.map some)).length = many := by rw [List.length_zip, List.length_map]; omega
  have hwk : rWk i2 j a2 b2 B bd G N (fr :: F) (x :: l :: R) := by
    obtain ⟨⟨w1, w2, w3⟩, w4, ⟨w5, w6, w7⟩, w8, ⟨w9, w10⟩, w11, ⟨w12, w13⟩, w14, ⟨w15, w16, w17⟩, w18, w19⟩ := id hw.1.1
    have rcp : ∀ F2 : List Fr, F2.length ≤ F.length → rCp a F2 → rCp a2 F2 := by
      intro F2
      induction F2 with
      | nil => intro _ _; trivial
      | cons f F2 ih =>
        intro h1 h2
        simp only [List.length_cons] at h1
        exact ⟨by rw [h112.2 _ (by omega)]; exact h2.1, ih (by omega) h2.2⟩
    refine ⟨⟨⟨rB_i w1 (q2 18 (by decide)) (q2 19 (by decide)) (q2 20 (by decide)) (q2 21 (by decide)), rC_same hs (ha2 7 (by decide)) (k3 9 (by decide)) (rWo_B hw.1.1) w2, w3⟩, rTr_up hu2 w4 rfl rfl, ⟨⟨⟨?_, ?_, by omega⟩, ?_, rFr_up hu2 F (fun q hq => h113.2 q (by omega)) h114 w5⟩, ⟨by rw [efr]; exact h112.1, rcp F (Nat.le_refl _) w6⟩, by rw [e2, upd_at]; rfl⟩, rGl_up hu2 (q2 36 (by decide)) (fun m _ => by rw [ha2 34 (by decide), k3 35 (by decide)]; exact ⟨rfl, rfl⟩) w8, ⟨rPr_up hu2 (q2 33 (by decide)) (fun m _ => by rw [ha2 29 (by decide), ha2 30 (by decide), k3 32 (by decide)]; exact ⟨rfl, rfl, rfl⟩) (fun m _ => by rw [ha2 31 (by decide)]) w9, w10⟩, rTu_up w11 (fun q h1 h2 => ha2 q (by simp; omega)) (q2 47 (by decide)), ⟨rOut_up w12 rfl (ha2 45 (by decide)), w13⟩, (q2 46 (by decide)).trans w14, ⟨(q2 93 (by decide)).trans w15, (q2 95 (by decide)).trans w16, (q2 96 (by decide)).trans w17⟩, w18, w19⟩, ⟨(fun h => by omega), (fun h => by omega), (fun h => by omega), rRow_up hu2 (l :: R) hw.1.2.1 (fun q _ => by rw [ha2 119 (by decide), ha2 120 (by decide)]; exact ⟨rfl, rfl⟩) (fun q _ => by rw [ha2 121 (by decide), k3 122 (by decide)]; exact ⟨rfl, rfl⟩) (fun q _ => by rw [k3 123 (by decide)])⟩, rAs_push (rAs_i hw.1.2.2.1 (q2 118 (by decide)) (q2 103 (by decide)) (q2 104 (by decide))) (by omega) (by omega), rPd_push hw.1.2.2.2 (by rw [ex]; rfl) (by omega)⟩
    · rw [h113.1, efr]
      show nI many = nI (ns.zip (vs.map some)).length
      rw [hzl]
    · rw [efr]
      show (ns.zip (vs.map some)).length ≤ 12
      omega
    · rw [efr]
      intro m hm
      have hm2 : m < many := by rw [← hzl]; exact hm
      obtain ⟨g1, g2⟩ := k5 m (by omega) hm2
      obtain ⟨y1, y2⟩ := hy m (by omega)
      have ez : (ns.zip (vs.map some))[m]'hm = (ns[m]'(by omega), some (vs[m]'(by omega))) := by
        rw [List.getElem_zip, List.getElem_map]
      refine ⟨⟨ys m, g1, ?_⟩, ?_⟩
      · show rW a2 B (ys m) ((ns.zip (vs.map some))[m]'hm).1
        rw [ez]
        exact rW_up hu2 y2
      · show rO a2 b2 B ((ns.zip (vs.map some))[m]'hm).2 _
        rw [ez, g2]
        exact (rV_up hu2 _).1 _ (hx m (by omega))
  have hl2c : rLc i2 (l :: R) := rLc_i hw.2 (q2 97 (by decide)) (q2 98 (by decide)) (q2 116 (by decide)) (q2 117 (by decide))
  have hf2 : rFm i j a b i2 j a2 b2 := ⟨fun q hq => q2 q (nm_ne hq (by decide)), fun _ _ => rfl, fun q hq => ha2 q (fun hm => hq ((show ∀ q ∈ [112, 113, 114], q ∈ chA by decide) q hm)), fun q hq => k3 q (nm_ne hq (by decide))⟩
  have hk2 : kT7 b b2 T := fun q _ => by rw [k3 111 (by decide)]
  have hT2 : tpOk T (x :: l :: R) := by
    have e1 : mapVals (x :: l :: R) = mapVals (l :: R) := by rw [mapVals, show lVals x = [] by rw [ex]; rfl]; exact Nat.zero_add _
    have e3 : lvWaits (x :: l :: R) = lvWaits (l :: R) := by rw [lvWaits, xw]; exact Nat.zero_add _
    unfold tpOk at hT ⊢
    rw [e1, e3]
    simp only [List.length_cons] at hT ⊢
    omega
  obtain ⟨i', j', a', b', w, B', e1, gu, gf, e4⟩ := hR i2 j a2 b2 B G N (fr :: F) x l R T v hN hI2 hwk hl2c (by omega) (by omega) (by omega) xw xn ((q2 102 (by decide)).trans h102) ((q2 107 (by decide)).trans h107) hT2 (by rw [xl]; exact (rV_up hu2 _).1 _ hbv) (by simp only [List.length_cons] at hD ⊢; omega)
  rw [show decide (6 ≤ lK x) = false by rw [xk]; rfl, b1_f, show nI 0 = (0 : Int32) from rfl] at e1
  rw [e1, om_s]
  have gf0 : rFm i j a b i' j' a' b' := rFm_trans hf2 gf
  have gu0 := rUp_trans hu2 gu
  have g105 := fun h => hA _ _ _ _ _ _ _ _ _ _ _ e1 h
  rcases e4 with ⟨e4, G', N', F', x', got, z1, z2, z3, z4, z5, z6, z7, z8, z8', z9, z10, z11, z12, z13⟩ | e4 | e4
  · have hF1 : 1 ≤ F'.length ∧ F'.length ≤ 1000 := by
      have h1 := z7.2.2.1.2.2.2.2.1
      have h2 := lvCalls_le (x' :: l :: R)
      have h3 := z7.2.2.1.2.1
      rw [lvCalls, if_pos (z2.1.trans xk)] at h1
      rw [lvCalls, if_pos (z2.1.trans xk)] at h2
      omega
    have hi : ∀ q, q ≠ 99 → upd i' 99 (i' 99 - 1) q = i' q := fun q hq => upd_ne hq
    have h2 : upd i' 99 (i' 99 - 1) 102 = 0 := (hi 102 (by decide)).trans e4
    unfold m_Model_called_b180
    rw [if_neg (show ¬ i' 102 = (1 : Int32) by rw [e4]; decide), ob1_s, ob1_s, h2, if_neg (by decide), if_neg (by decide), if_neg (by decide)]
    refine ⟨_, j', a', b', 3, B', rfl, gu0, rFm_trans gf0 (rFm_i (by decide)), Or.inl ⟨h2, popG G' x', N', popF F' x', none, ?_, z5, z6, IV_pop z7, ⟨rWk_pop1 z8 (z2.1.trans xk) hF1, rLc_i z8' (hi 97 (by decide)) (hi 98 (by decide)) (hi 116 (by decide)) (hi 117 (by decide))⟩, rTop_ct gu0 ((hi 105 (by decide)).trans (z9.trans (q2 105 (by decide)))) ((hi 106 (by decide)).trans (z10.trans (q2 106 (by decide)))) htp, kT7_trans (fun q hq => hk2 q (by omega)) z12 hbT, rfl⟩⟩
    have ed : aDone G' N' F' x' (l :: R) got = aLeave 1 G' N' F' (x' :: l :: R) none := by
      unfold aDone
      have := z2.1
      rw [if_neg (by omega), if_neg (by omega), if_neg (by omega), if_neg (by omega), if_neg (by omega), if_neg (by omega), z4 (by omega)]
    rw [← leave1, ← ed]
    exact To_trans z1 (To2 z5)
  · obtain ⟨c', g1, g2⟩ := e4
    rw [if_pos g1]
    exact ⟨i', j', a', b', _, B', rfl, gu0, gf0, Or.inr (Or.inl ⟨c', g1, g2⟩)⟩
  · have n102 := pLv_102 e4
    obtain ⟨r105, r106⟩ := g105 n102.2
    rw [if_neg n102.2, ob1_s, ob1_s]
    obtain ⟨G', N', F', x', lv, e, t, g1, g2, ⟨s1, s2, s3, s4⟩, g4, g5, g6, g7, g8, g9⟩ := e4
    have xk' : lK x' = 1 := g5.1.trans xk
    have hF1 : 1 ≤ F'.length ∧ F'.length ≤ 1000 := by
      have h1 := g7.2.2.1.2.2.2.2.1
      have h2 := lvCalls_le (x' :: l :: R)
      have h3 := g7.2.2.1.2.1
      rw [lvCalls, if_pos xk'] at h1
      rw [lvCalls, if_pos xk'] at h2
      omega
    obtain ⟨i3, e3⟩ : ∃ i3, i3 = upd i' 99 (i' 99 - 1) := ⟨_, rfl⟩
    rw [← e3]
    have hi : ∀ q, q ≠ 99 → i3 q = i' q := fun q hq => by rw [e3]; exact upd_ne hq
    have hp : rWk i3 j' a' b' B' bd (popG G' x') N' (popF F' x') (l :: R) := by rw [e3]; exact rWk_pop1 g8 xk' hF1
    have h3 : i3 102 = nI lv := (hi 102 (by decide)).trans g1
    have hlv := g2.1
    have hlv6 := g2.2.1
    have hk9 : kT7 b b' base := kT7_trans (fun q hq => hk2 q (by omega)) g9 hbT
    have gf3 : rFm i j a b i3 j' a' b' := rFm_trans gf0 (by rw [e3]; exact rFm_i (by decide))
    have back : ∀ (got : Option Tr) (w : Int64), To bd (G, N, fr :: F, x :: l :: R, 0, none, none) (popG G' x', N', popF F' x', l :: R, 1, got, none) → rO a' b' B' got w → PG bd (G, N, fr :: F, x :: l :: R, 0, none, none) l R base i j a b B (ZL bd (G, N, fr :: F, x :: l :: R, 0, none, none) N l R base b) (m_Model_called_b198 n g i3 j' a' b' (i 98) (i 97) (i 116) (i 117) w) := by
      intro got w hto hrw
      unfold m_Model_called_b198
      simp only [ob1_s]
      obtain ⟨i5, e5⟩ : ∃ i5, i5 = upd (upd (upd (upd (upd i3 102 0) 98 (i 98)) 97 (i 97)) 116 (i 116)) 117 (i 117) := ⟨_, rfl⟩
      rw [← e5]
      have hq : ∀ q, q ∉ [102, 98, 97, 116, 117] → i5 q = i3 q := fun q hq => by
        rw [e5, upd_ne (nm_ne hq (by decide)), upd_ne (nm_ne hq (by decide)), upd_ne (nm_ne hq (by decide)), upd_ne (nm_ne hq (by decide)), upd_ne (nm_ne hq (by decide))]
      refine ⟨i5, j', a', b', w, B', rfl, gu0, rFm_trans gf3 ⟨fun q hq9 => hq q (fun hm => hq9 ((show ∀ q ∈ [102, 98, 97, 116, 117], q ∈ chI by decide) q hm)), fun _ _ => rfl, fun _ _ => rfl, fun _ _ => rfl⟩, Or.inl ⟨?_, popG G' x', N', popF F' x', got, hto, g6, dn_To hto, IV_pop g7, ⟨rWk_i hp (fun q hq9 => hq q ((show ∀ q ∈ woI ++ [118, 103, 104], q ∉ [102, 98, 97, 116, 117] by decide) q hq9)), ?_⟩, rTop_ct gu0 ((hq 105 (by decide)).trans ((hi 105 (by decide)).trans (r105.trans (q2 105 (by decide))))) ((hq 106 (by decide)).trans ((hi 106 (by decide)).trans (r106.trans (q2 106 (by decide))))) htp, hk9, hrw⟩⟩
      · rw [e5, upd_ne (by decide), upd_ne (by decide), upd_ne (by decide), upd_ne (by decide), upd_at]
      · refine rLc_i hw.2 ?_ ?_ ?_ ?_
        · rw [e5, upd_ne (by decide), upd_ne (by decide), upd_at]
        · rw [e5, upd_ne (by decide), upd_ne (by decide), upd_ne (by decide), upd_at]
        · rw [e5, upd_ne (by decide), upd_at]
        · rw [e5, upd_at]
    unfold m_Model_called_b180
    have isc : isCall x' = true := by unfold isCall; rw [xk']; rfl
    rcases (by omega : lv = 4 ∨ lv = 5 ∨ (lv ≠ 4 ∧ lv ≠ 5)) with c4 | c5 | ⟨c4, c5⟩
    · subst c4
      rw [h3, if_neg (show ¬ nI 4 = (5 : Int32) by decide), if_pos (show nI 4 = (4 : Int32) from rfl)]
      refine back none 3 ?_ rfl
      have : aLV 4 e t G' N' F' (x' :: l :: R) = aLeave 1 G' N' F' (x' :: l :: R) none := by
        show aStop G' N' F' (x' :: l :: R) = _
        unfold aStop
        rw [lvAt_yes isc]
      rw [this, leave1] at g4
      exact g4
    · subst c5
      rw [h3, if_pos (show nI 5 = (5 : Int32) from rfl), if_neg (show ¬ nI 5 = (4 : Int32) by decide), if_pos (show nI 5 = (5 : Int32) from rfl)]
      refine back (some t) (j' 110) ?_ (s3 rfl)
      have : aLV 5 e t G' N' F' (x' :: l :: R) = aLeave 1 G' N' F' (x' :: l :: R) (some t) := by
        show aOutput t G' N' F' (x' :: l :: R) = _
        unfold aOutput
        rw [lvAt_yes isc]
      rw [this, leave1] at g4
      exact g4
    · rw [h3, if_neg (fun h => by have := (nI_eq (by omega) (by omega)).mp (show nI lv = nI 5 from h); omega), if_neg (fun h => by have := (nI_eq (by omega) (by omega)).mp (show nI lv = nI 4 from h); omega), if_neg (fun h => by have := (nI_eq (by omega) (by omega)).mp (show nI lv = nI 5 from h); omega)]
      have hno : lvNo lv t x' := ⟨fun _ => by unfold isErr; rw [xk']; rfl, fun _ => by unfold isTag; rw [xk']; rfl, (fun h => by omega)⟩
      obtain ⟨p1, p2⟩ := aLV_pop (g := G') (n := N') (F := F') g2 hno
      rw [p1] at g4
      exact ⟨i3, j', a', b', 3, B', rfl, gu0, gf3, Or.inr (Or.inr ⟨popG G' x', N', popF F' x', l, lv, e, t, h3, p2, ⟨fun h => (hi 126 (by decide)).trans (s1 h), s2, s3, fun h => (hi 126 (by decide)).trans (s4 h)⟩, g4, sameL_refl l, g6, IV_pop g7, hp, hk9⟩)⟩

