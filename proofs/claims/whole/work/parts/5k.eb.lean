/-! PURE: a document enters, in step -/
theorem en_ne2 {e : Nat} (he : e < 30) : ¬ nI e = -2 := fun q => by
  have h : (nI e).toInt = (e : Int) := nI_toInt (by omega)
  rw [q] at h
  have : (-2 : Int32).toInt = -2 := by decide
  omega
theorem en_kaim {vec aim : Nat → Int32} {n : Nat} (h : ∀ j, j < 4 → aim j = vec (4 * n + j)) : pn_key vec aim = fun a => ch_bt vec a n := funext (ti_key vec aim n h)
theorem en_mono {P : Nat → Prop} {layer n : Nat} {D R : Nat → Int32} (h : tl_G P layer D R) (hn : n < 30) (hD : D (4 * n + layer) = nI 0) : tl_G (fun a => P a ∨ a = n) layer D R := by
  intro o ho
  rcases ho with ho | ho
  · obtain ⟨g1, u, g2, g3, g4, g5⟩ := h o ho
    exact ⟨g1, u, g2, g3, g4, fun a ha => Or.inl (g5 a ha)⟩
  · subst ho
    exact ⟨hn, [], ⟨hD, fun i hi => absurd hi (Nat.not_lt_zero _)⟩, List.nodup_nil, Nat.zero_le _, fun a ha => absurd ha List.not_mem_nil⟩
theorem en_frame {P : Nat → Prop} {layer j : Nat} {D R D' R' : Nat → Int32} (h : tl_G P j D R) (hF : tl_F D R D' R' layer) (hj : j < 4) (hne : j ≠ layer) : tl_G P j D' R' := by
  intro o ho
  obtain ⟨g1, u, g2, g3, g4, g5⟩ := h o ho
  have := (ti_most6 j).1
  have q := hF (4 * o + j) (by omega)
  exact ⟨g1, u, tl_row g2 (by omega) q.1 q.2, g3, g4, g5⟩
theorem en_B {N : Nat} (hN : 64 ≤ N) {V : Nat → Nat → Int32} {vec : Nat → Int32} (hV : ch_V V vec) {P : Nat → Prop} {n l e lt : Nat} (hn : n < 30) (hnP : ¬ P n) (he : e < 30) (hl3 : l ≤ 3) {lev : Nat → Int32} (hlev : upd lev n (nI l) e = nI lt) (hlt : lt ≤ 3) (ord que isN isL ent : Nat → Int32) (sz many : Int32) :
    ∀ (k m1 m2 : Nat) (D R : Nat → Int32) (C : T_Ch) (K : T_Rk) (hn0 hv0 : Nat → Int32) (O : T_Rk) (dist : Nat → Int32) (M seC : Int32) (l0 : List Nat) (rm : Int32) (sn hd op ch hr pk pool aim : Nat → Int32) (picks pools : Int32) (se : Int64), k ≤ l + 1 → (∀ j, j < 4 → aim j = vec (4 * n + j)) → (∀ a, a < 30 → dist a = ch_bt vec a n) → so_ok (pn_lt (fun a => ch_bt vec a n)) l0 → (∀ a ∈ l0, P a) → l0.length ≤ 30 → pr_A (fun a => ch_bt vec a n) l0 hn0 hv0 → hr_A l0 hr → (∀ j, j < k → tl_G P j D R) → (∀ j, k ≤ j → j < 4 → tl_G (fun a => P a ∨ a = n) j D R) → seC = se.toInt32 →
    ∃ D' R' C' K' Wa' seC' se' aim' sn' hd' op' ch' hr' pk' pool' heres' picks' pools', f_Gr_enter_55 N (nI e) V (nI n) (nI l) (m1 + k + 1) (ord, upd lev n (nI l), D, R, que, sz) C K ((hn0, hv0, nI l0.length, rm, 0), O, dist, M) seC (nI k + (-1)) = some ((ord, upd lev n (nI l), D', R', que, sz), Wa', C', K', (if l ≤ lt then nI e else nI n), seC') ∧ f_Mo_enter_160 N isN isL vec lev ent (nI e) many (nI n) (nI l) (m2 + k + 1) sn hd op ch hr pk pool R D aim (nI l0.length) picks pools se (nI k + (-1)) = some (upd isN n 1, upd isL n 1, upd lev n (nI l), upd ent n (many + 1), R', D', (if l ≤ lt then nI e else nI n), many + 1, aim', sn', hd', op', ch', hr', pk', pool', heres', picks', pools', se') ∧ (∀ j, j < 4 → tl_G (fun a => P a ∨ a = n) j D' R') ∧ seC' = se'.toInt32 := by
  intro k
  induction k with
  | zero =>
    intro m1 m2 D R C K hn0 hv0 O dist M seC l0 rm sn hd op ch hr pk pool aim picks pools se hk haim hdist hs hlP hlen hA hH hG1 hG2 hse
    refine ⟨D, R, C, K, ((hn0, hv0, nI l0.length, rm, 0), O, dist, M), seC, se, aim, sn, hd, op, ch, hr, pk, pool, nI l0.length, picks, pools, ?_, ?_, fun j hj => hG2 j (Nat.zero_le _) hj, hse⟩
    · rw [f_Gr_enter_55, if_pos (show nI 0 + (-1) < 0 by decide)]
      unfold f_Gr_top f_Li_level
      dsimp only
      rw [if_neg (en_ne2 he), pb_at he (by decide), pd_cl (show e < 2147483648 by omega), hlev, Option.bind_some, Option.bind_some]
      by_cases c : l ≤ lt
      · rw [if_pos (nI_le c (by omega)), if_pos c]
      · rw [if_neg (nI_ge (show lt < l by omega) (by omega)), if_neg c]
    · rw [f_Mo_enter_160, if_pos (show nI 0 + (-1) < 0 by decide), pb_at hn (by decide), pb_at hn (by decide), if_neg (pn_neg he), pb_at he (by decide), pd_cl (show e < 2147483648 by omega), pd_cl (show n < 2147483648 by omega), hlev, pz_n1]
      by_cases c : l ≤ lt
      · rw [if_pos (nI_le c (by omega)), if_pos c]
      · rw [if_neg (nI_ge (show lt < l by omega) (by omega)), if_neg c]
  | succ k ih =>
    intro m1 m2 D R C K hn0 hv0 O dist M seC l0 rm sn hd op ch hr pk pool aim picks pools se hk haim hdist hs hlP hlen hA hH hG1 hG2 hse
    have hkk := en_kaim haim
    obtain ⟨S, l1, sn1, hd1, op1, hr1, M1, hn1, hv1, O1, w1, w2, w3, w4, w5, w6, w7, w8⟩ := wp_walk (N := N) hN (w := 5) (by decide) (by decide) (dist := dist) (vec := vec) (aim := aim) (fun a ha => by rw [hkk]; exact hdist a ha) (layer := k) (by omega) (en_wp (hG1 k (by omega))) (l := l0) (by rw [hkk]; exact hs) hlP hlen hn0 hv0 hr rm (by rw [hkk]; exact hA) hH O sn hd op
    obtain ⟨D2, R2, C2, K2, op2, ch2, pk2, pool2, aim2, picks2, pools2, t1, t2, t3, t4⟩ := en_tie (N := N) hN hV hn (show k < 4 by omega) hnP (hG1 k (by omega)) w4 w5 (by omega) w7 w8 ord (upd lev n (nI l)) que sz (nI 5) O1 dist (nI M1) C K op1 ch pk pool
    obtain ⟨aim3, a1, a2⟩ := ti_aimAt hN vec aim2 hn
    rw [hkk] at w4 w7
    obtain ⟨D', R', C', K', Wa', seC', se', aim', sn', hd', op', ch', hr', pk', pool', heres', picks', pools', e1, e2, e3, e4⟩ := ih m1 m2 D2 R2 C2 K2 hn1 hv1 O1 dist (nI M1) (seC + nI S) l1 (nI 5) sn1 hd1 op2 ch2 hr1 pk2 pool2 aim3 picks2 pools2 (se + (nI S).toInt64) (by omega) a2 hdist w4 w5 (by omega) w7 w8 (fun j hj => en_frame (hG1 j (by omega)) t4 (by omega) (by omega)) (fun j h1 h2 => by
      by_cases ee : j = k
      · subst ee; exact t3
      · exact en_frame (hG2 j (by omega) h2) t4 h2 ee) (by rw [hse, en_seen])
    refine ⟨D', R', C', K', Wa', seC', se', aim', sn', hd', op', ch', hr', pk', pool', heres', picks', pools', ?_, ?_, e3, e4⟩
    · rw [pr_m1, show m1 + (k + 1) + 1 = (m1 + k + 1) + 1 from rfl, f_Gr_enter_55, if_neg (nI_pos (show k < 2 ^ 31 by omega)), if_pos (nI_le (show k ≤ l by omega) (by omega))]
      dsimp only
      rw [show f_Wa_walk N (hn0, hv0, nI l0.length, rm, 0) O dist D R (nI k) 5 = _ from w1, Option.bind_some]
      dsimp only
      rw [t1, Option.bind_some]
      exact e1
    · rw [pr_m1, show m2 + (k + 1) + 1 = (m2 + k + 1) + 1 from rfl, f_Mo_enter_160, if_neg (nI_pos (show k < 2 ^ 31 by omega)), show f_Mo_walk N vec R D aim sn hd op hr (nI l0.length) (nI k) 5 = _ from w2, Option.bind_some]
      dsimp only
      rw [t2, Option.bind_some]
      dsimp only
      rw [a1, Option.bind_some]
      exact e2
theorem en_A {N : Nat} (hN : 64 ≤ N) {V : Nat → Nat → Int32} {vec aim : Nat → Int32} {P : Nat → Prop} {n l e : Nat} (hn : n < 30) (he : e < 30) {lev : Nat → Int32} {D R : Nat → Int32} (hG : ∀ j, j < 4 → tl_G P j D R) (ord que isN isL ent : Nat → Int32) (sz many : Int32) (haim : ∀ j, j < 4 → aim j = vec (4 * n + j)) {dist : Nat → Int32} (hdist : ∀ a, a < 30 → dist a = ch_bt vec a n) (C : T_Ch) (K : T_Rk) (ch pk pool : Nat → Int32) (picks pools : Int32) :
    ∀ (k m1 m2 : Nat) (hn0 hv0 : Nat → Int32) (O : T_Rk) (M seC : Int32) (l0 : List Nat) (rm : Int32) (sn hd op hr : Nat → Int32) (se : Int64), l + k ≤ 3 → so_ok (pn_lt (fun a => ch_bt vec a n)) l0 → (∀ a ∈ l0, P a) → l0.length ≤ 30 → pr_A (fun a => ch_bt vec a n) l0 hn0 hv0 → hr_A l0 hr → seC = se.toInt32 →
    ∃ hn1 hv1 O1 M1 seC1 l1 rm1 sn1 hd1 op1 hr1 se1, f_Gr_enter_55 N (nI e) V (nI n) (nI l) (m1 + k) (ord, lev, D, R, que, sz) C K ((hn0, hv0, nI l0.length, rm, 0), O, dist, M) seC (nI (l + k)) = f_Gr_enter_55 N (nI e) V (nI n) (nI l) m1 (ord, lev, D, R, que, sz) C K ((hn1, hv1, nI l1.length, rm1, 0), O1, dist, M1) seC1 (nI l) ∧ (∀ lv, f_Mo_enter_119 N isN isL vec lv ent R (nI e) many ch pk pool picks pools (nI n) (nI l) D aim (m2 + k) sn hd op hr (nI l0.length) se (nI (l + k)) = f_Mo_enter_119 N isN isL vec lv ent R (nI e) many ch pk pool picks pools (nI n) (nI l) D aim m2 sn1 hd1 op1 hr1 (nI l1.length) se1 (nI l)) ∧ so_ok (pn_lt (fun a => ch_bt vec a n)) l1 ∧ (∀ a ∈ l1, P a) ∧ l1.length ≤ 30 ∧ pr_A (fun a => ch_bt vec a n) l1 hn1 hv1 ∧ hr_A l1 hr1 ∧ seC1 = se1.toInt32 := by
  have hkk := en_kaim haim
  intro k
  induction k with
  | zero =>
    intro m1 m2 hn0 hv0 O M seC l0 rm sn hd op hr se h3 hs hlP hlen hA hH hse
    exact ⟨hn0, hv0, O, M, seC, l0, rm, sn, hd, op, hr, se, rfl, fun _ => rfl, hs, hlP, hlen, hA, hH, hse⟩
  | succ k ih =>
    intro m1 m2 hn0 hv0 O M seC l0 rm sn hd op hr se h3 hs hlP hlen hA hH hse
    obtain ⟨S, l1, sn1, hd1, op1, hr1, M1, hn1, hv1, O1, w1, w2, w3, w4, w5, w6, w7, w8⟩ := wp_walk (N := N) hN (w := 1) (by decide) (by decide) (dist := dist) (vec := vec) (aim := aim) (fun a ha => by rw [hkk]; exact hdist a ha) (layer := l + (k + 1)) (by omega) (en_wp (hG (l + (k + 1)) (by omega))) (l := l0) (by rw [hkk]; exact hs) hlP hlen hn0 hv0 hr rm (by rw [hkk]; exact hA) hH O sn hd op
    rw [hkk] at w4 w7
    obtain ⟨hn2, hv2, O2, M2, seC2, l2, rm2, sn2, hd2, op2, hr2, se2, e1, e2, e3⟩ := ih m1 m2 hn1 hv1 O1 (nI M1) (seC + nI S) l1 (nI 1) sn1 hd1 op1 hr1 (se + (nI S).toInt64) (by omega) w4 w5 (by omega) w7 w8 (by rw [hse, en_seen])
    refine ⟨hn2, hv2, O2, M2, seC2, l2, rm2, sn2, hd2, op2, hr2, se2, ?_, ?_, e3⟩
    · rw [show m1 + (k + 1) = (m1 + k) + 1 from rfl, f_Gr_enter_55, if_neg (nI_pos (by omega)), if_neg (nI_ge (show l < l + (k + 1) by omega) (by omega))]
      dsimp only
      rw [show f_Wa_walk N (hn0, hv0, nI l0.length, rm, 0) O dist D R (nI (l + (k + 1))) 1 = _ from w1, Option.bind_some, show nI (l + (k + 1)) + (-1) = nI (l + k) from pr_m1]
      exact e1
    · intro lv
      rw [show m2 + (k + 1) = (m2 + k) + 1 from rfl, f_Mo_enter_119, if_neg (nI_ge (show l < l + (k + 1) by omega) (by omega)), show f_Mo_walk N vec R D aim sn hd op hr (nI l0.length) (nI (l + (k + 1))) 1 = _ from w2, Option.bind_some, show nI (l + (k + 1)) + (-1) = nI (l + k) from pr_m1]
      exact e2 lv
/-- levels -/
theorem en_level {N : Nat} (isN isL vec lev ent R D aim sn hd op ch hr pk pool : Nat → Int32) (entry many heres picks pools : Int32) (se : Int64) (nn : Int32) : ∀ (k v1 v2 m1 m2 : Nat), v1 + k = 3 → v2 < 2147483648 →
    ∃ l, l ≤ 3 ∧ f_Li_levelOf_4 N (m1 + k + 1) (nI v1) (nI v2) = some (nI l) ∧ f_Mo_enter_27 N isN isL vec lev ent R D entry many aim sn hd op ch hr pk pool heres picks pools se nn (m2 + k + 1) (nI v1) (nI v2) = g_at nn 30 (f_Mo_enter_57 N isN isL vec lev ent R entry many aim sn hd op ch hr pk pool heres picks pools se nn (nI l) N D 0) := by
  intro k
  induction k with
  | zero =>
    intro v1 v2 m1 m2 h1 h2
    have : v1 = 3 := by omega
    subst this
    refine ⟨3, by omega, ?_, ?_⟩
    · rw [f_Li_levelOf_4, if_pos (by decide)]
    · rw [f_Mo_enter_27, if_pos (show (3 : Int32) ≤ nI 3 by decide)]
      by_cases c : nI v2 - nI v2 / 3 * 3 = 0
      · rw [if_pos c]
      · rw [if_neg c]
  | succ k ih =>
    intro v1 v2 m1 m2 h1 h2
    have hr := pk_rem (a := v2) (d := 3) h2 (by decide) (by decide)
    have hdv := pk_div (a := v2) (d := 3) h2 (by decide) (by decide)
    by_cases c : nI v2 - nI v2 / 3 * 3 = 0
    · obtain ⟨l, l1, l2, l3⟩ := ih (v1 + 1) (v2 / 3) m1 m2 (by omega) (by omega)
      refine ⟨l, l1, ?_, ?_⟩
      · rw [show m1 + (k + 1) + 1 = (m1 + k + 1) + 1 from rfl, f_Li_levelOf_4, if_neg (show ¬ (3 : Int32) ≤ nI v1 from nI_ge (b := 3) (by omega) (by decide)), if_pos c, nI_1, show nI v2 / 3 = nI (v2 / 3) from hdv]
        exact l2
      · rw [show m2 + (k + 1) + 1 = (m2 + k + 1) + 1 from rfl, f_Mo_enter_27, if_pos c, if_neg (show ¬ (3 : Int32) ≤ nI v1 from nI_ge (b := 3) (by omega) (by decide)), nI_1, show nI v2 / 3 = nI (v2 / 3) from hdv]
        exact l3
    · refine ⟨v1, by omega, ?_, ?_⟩
      · rw [show m1 + (k + 1) + 1 = (m1 + k + 1) + 1 from rfl, f_Li_levelOf_4, if_neg (show ¬ (3 : Int32) ≤ nI v1 from nI_ge (b := 3) (by omega) (by decide)), if_neg c]
      · rw [show m2 + (k + 1) + 1 = (m2 + k + 1) + 1 from rfl, f_Mo_enter_27, if_neg c]
def en_z (D : Nat → Int32) (n : Nat) : Nat → Nat → Int32
  | 0 => D
  | k + 1 => upd (en_z D n k) (4 * n + k) 0
theorem en_zG (D : Nat → Int32) (n : Nat) : ∀ k j : Nat, en_z D n k j = if 4 * n ≤ j ∧ j < 4 * n + k then 0 else D j
  | 0, j => by rw [if_neg (by omega)]; rfl
  | k + 1, j => by
    rw [en_z]
    by_cases e : j = 4 * n + k
    · subst e
      rw [pk_us, if_pos (by omega)]
    · rw [pk_un e, en_zG D n k j]
      by_cases c : 4 * n ≤ j ∧ j < 4 * n + k
      · rw [if_pos c, if_pos (by omega)]
      · rw [if_neg c, if_neg (by omega)]
theorem en_35 {N : Nat} {ord lev D : Nat → Int32} {sz p4 : Int32} {n : Nat} (hn : n < 30) : ∀ (k j m : Nat), j + k = 4 → f_Li_addNode_35 N ord lev sz (nI n) p4 (m + k + 1) (en_z D n j) (nI j) = some (upd ord n (sz + 1), upd lev n p4, en_z D n 4, sz + 1) := by
  intro k
  induction k with
  | zero =>
    intro j m hj
    have : j = 4 := by omega
    subst this
    rw [f_Li_addNode_35, if_pos (by decide), pd_cl (show n < 2147483648 by omega)]
  | succ k ih =>
    intro j m hj
    rw [show m + (k + 1) + 1 = (m + k + 1) + 1 from rfl, f_Li_addNode_35, if_neg (show ¬ (4 : Int32) ≤ nI j from nI_ge (b := 4) (by omega) (by decide)), wk_x4, pb_at (show 4 * n + j < 120 by omega) (by decide), pd_cl (show 4 * n + j < 2147483648 by omega), nI_1]
    exact ih (j + 1) m (by omega)
theorem en_57 {N : Nat} (isN isL vec lev ent R D aim sn hd op ch hr pk pool : Nat → Int32) (entry many heres picks pools : Int32) (se : Int64) {n : Nat} (hn : n < 30) (l : Int32) : ∀ (k j m : Nat), j + k = 4 → f_Mo_enter_57 N isN isL vec lev ent R entry many aim sn hd op ch hr pk pool heres picks pools se (nI n) l (m + k + 1) (en_z D n j) (nI j) = f_Mo_enter_57 N isN isL vec lev ent R entry many aim sn hd op ch hr pk pool heres picks pools se (nI n) l (m + 1) (en_z D n 4) (nI 4) := by
  intro k
  induction k with
  | zero =>
    intro j m hj
    have : j = 4 := by omega
    subst this
    rfl
  | succ k ih =>
    intro j m hj
    rw [← ih (j + 1) m (by omega)]
    rw [show m + (k + 1) + 1 = (m + k + 1) + 1 from rfl, f_Mo_enter_57, if_neg (show ¬ (4 : Int32) ≤ nI j from nI_ge (b := 4) (by omega) (by decide)), pd_4, pb_at (show 4 * n + j < 120 by omega) (by decide), pd_cl (show 4 * n + j < 2147483648 by omega), nI_1]
    rfl
