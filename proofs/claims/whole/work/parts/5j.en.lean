/-! PURE: tie and link; standing at a node; levels -/
def tl_G (P : Nat → Prop) (layer : Nat) (D R : Nat → Int32) : Prop := ∀ o, P o → o < 30 ∧ ∃ u, ti_row D R (4 * o + layer) u ∧ u.Nodup ∧ u.length ≤ ti_most layer ∧ ∀ a ∈ u, P a
theorem en_wp {P : Nat → Prop} {layer : Nat} {D R : Nat → Int32} (h : tl_G P layer D R) : wp_P D R layer P := by
  intro n hn
  obtain ⟨h1, u, h2, h3, h4, h5⟩ := h n hn
  have := (ti_most6 layer).1
  exact ⟨h1, u.length, by omega, h2.1, fun i hi => ⟨u.getD i 0, h2.2 i hi, (h _ (h5 _ (wp_getD hi))).1, h5 _ (wp_getD hi)⟩⟩
theorem en_tie_10 {N : Nat} (vec R D aim op ch hr pk : Nat → Int32) {n layer : Nat} {l : List Nat} (hl30 : l.length ≤ 30) (hH : hr_A l hr) : ∀ (k i m : Nat) (pool : Nat → Int32), i + k = l.length → (∀ a, a < i → pool a = nI (l.getD a 0)) → ∃ pool', f_Mo_tie_10 N vec R D aim op ch hr pk (nI l.length) (nI n) (nI layer) (m + k + 1) pool (nI i) = ((f_Mo_choose N vec aim op ch pk pool' (nI l.length) 3).bind fun p3 => ((f_Mo_take N R D p3.2.2.1 p3.2.2.2 ((4 * nI n) + nI layer)).bind fun p5 => (if nI layer = 0 then (f_Mo_tie_64 N vec (nI n) (nI layer) N p3.1 p3.2.1 p3.2.2.1 pool' p5.1 p5.2 aim p3.2.2.2 (nI l.length) 6 0) else (f_Mo_tie_64 N vec (nI n) (nI layer) N p3.1 p3.2.1 p3.2.2.1 pool' p5.1 p5.2 aim p3.2.2.2 (nI l.length) 3 0)))) ∧ hr_A l pool' := by
  intro k
  induction k with
  | zero =>
    intro i m pool hi h
    refine ⟨pool, ?_, fun a ha => h a (by omega)⟩
    rw [f_Mo_tie_10, if_pos (nI_le (by omega) (by omega))]
  | succ k ih =>
    intro i m pool hi h
    rw [show m + (k + 1) + 1 = (m + k + 1) + 1 from rfl, f_Mo_tie_10, if_neg (nI_ge (by omega) (by omega)), pb_at (show i < 30 by omega) (by decide), pb_at (show i < 30 by omega) (by decide), pd_cl (show i < 2147483648 by omega), hH i (by omega), nI_1]
    refine ih (i + 1) m _ (by omega) (fun a ha => ?_)
    by_cases e : a = i
    · subst e; rw [pk_us]
    · rw [pk_un e]; exact h a (by omega)
theorem en_tie {N : Nat} (hN : 64 ≤ N) {V : Nat → Nat → Int32} {vec aim : Nat → Int32} (hV : ch_V V vec) {P : Nat → Prop} {n layer : Nat} (hn : n < 30) (hl : layer < 4) (hnP : ¬ P n) {D R : Nat → Int32} (hG : tl_G P layer D R) {l : List Nat} (hs : so_ok (pn_lt (pn_key vec aim)) l) (hlP : ∀ a ∈ l, P a) (hlen : l.length ≤ 30) {hn0 hv0 hr : Nat → Int32} (hA : pr_A (pn_key vec aim) l hn0 hv0) (hH : hr_A l hr) (ord lev que : Nat → Int32) (sz rm : Int32) (O : T_Rk) (dist : Nat → Int32) (M : Int32) (C : T_Ch) (K : T_Rk) (op ch pk pool : Nat → Int32) :
    ∃ D' R' C' K' op' ch' pk' pool' aim' picks' pools', f_Gr_link N (ord, lev, D, R, que, sz) ((hn0, hv0, nI l.length, rm, 0), O, dist, M) C K V (nI n) (nI layer) = some ((ord, lev, D', R', que, sz), C', K') ∧ f_Mo_tie N vec R D aim op ch hr pk pool (nI l.length) (nI n) (nI layer) = some (R', D', aim', op', ch', pk', pool', picks', pools') ∧ tl_G (fun a => P a ∨ a = n) layer D' R' ∧ tl_F D R D' R' layer := by
  have m6 := ti_most6 layer
  have hl30 : ∀ a ∈ l, a < 30 := fun a ha => (hG a (hlP a ha)).1
  obtain ⟨pool1, a1, a2⟩ := en_tie_10 (N := N) vec R D aim op ch hr pk (n := n) (layer := layer) hlen hH l.length 0 (N - l.length - 1) pool (by omega) (fun a ha => absurd ha (Nat.not_lt_zero _))
  rw [show N - l.length - 1 + l.length + 1 = N by omega] at a1
  obtain ⟨q, row2, M2, op2, ch2, pk2, w1, w2, w3, w4, w5, w6, w7⟩ := cr_ok hN hV hs hl30 hlen (u := l) (fun a => Iff.rfl) rfl hA a2 (m := 3) (by decide) C.1 op ch pk
  have hx : 4 * n + layer < 120 := by omega
  have hI0 : tl_I P n layer q (upd D (4 * n + layer) (nI q.length)) (ti_w R (4 * n + layer) q q.length) 0 := by
    refine ⟨⟨pk_us, fun j hj => by rw [ti_wG, if_pos (by omega), Nat.add_sub_cancel_left]⟩, fun o ho => ?_⟩
    obtain ⟨g1, u, g2, g3, g4, g5⟩ := hG o ho
    have hon : o ≠ n := fun e => hnP (e ▸ ho)
    refine ⟨g1, hon, u, tl_row g2 (by omega) (pk_un (by omega)) (fun j hj => by rw [ti_wG, if_neg (by omega)]), g3, g4, fun a ha => Or.inl (g5 a ha), fun h => absurd (g5 n h) hnP⟩
  obtain ⟨D', R', C', K', op', ch', pk', pool', aim', picks', pools', e1, e2, e3, e4⟩ := tl_loop hN hV hn hl (fun a ha => hlP a (w6 a ha)) w5 (by omega) ord lev que sz q 0 (N - q.length - 1) (N - q.length - 1) _ _ (row2, nI q.length, M2) K op2 ch2 pk2 pool1 aim (nI q.length) (nI l.length) (Nat.zero_le _) rfl hI0
  rw [show N - q.length - 1 + q.length + 1 = N by omega] at e1 e2
  refine ⟨D', R', C', K', op', ch', pk', pool', aim', picks', pools', ?_, ?_, ?_, ?_⟩
  · unfold f_Gr_link f_Wa_held
    rw [Option.bind_some]
    dsimp only
    rw [show f_Ch_choose N C.1 V hn0 hv0 (nI l.length) 3 = _ from w1, Option.bind_some, ti_replace hN hn hl (by omega) w3, Option.bind_some]
    exact e1
  · unfold f_Mo_tie
    rw [show f_Mo_tie_10 N vec R D aim op ch hr pk (nI l.length) (nI n) (nI layer) N pool 0 = _ from a1, show f_Mo_choose N vec aim op ch pk pool1 (nI l.length) 3 = _ from w2, Option.bind_some, pd_4, ti_take hN hx (by omega) w4, Option.bind_some]
    by_cases c : layer = 0
    · rw [show ti_most layer = 6 by unfold ti_most; rw [if_pos c]] at e2
      rw [if_pos (show nI layer = 0 by rw [c]; rfl)]
      exact e2
    · rw [show ti_most layer = 3 by unfold ti_most; rw [if_neg c]] at e2
      rw [if_neg (nI_ne0 (by omega) (by omega))]
      exact e2
  · obtain ⟨i1, i2⟩ := e3
    intro o ho
    rcases ho with ho | ho
    · obtain ⟨g1, g2, u, g3, g4, g5, g6, g7⟩ := i2 o ho
      exact ⟨g1, u, g3, g4, g5, g6⟩
    · subst ho
      exact ⟨hn, q, i1, w5, by omega, fun a ha => Or.inl (hlP a (w6 a ha))⟩
  · intro x hx
    obtain ⟨g1, g2⟩ := e4 x hx
    have hne : x ≠ 4 * n + layer := fun e => hx (by omega)
    exact ⟨g1.trans (pk_un hne), fun j hj => (g2 j hj).trans (by rw [ti_wG, if_neg (by omega)])⟩
/-- standing at a node -/
theorem en_measure_2 {N : Nat} (hN : 5 ≤ N) {V : Nat → Nat → Int32} {vec aim v : Nat → Int32} (hV : ch_V V vec) (hv : ∀ j, j < 4 → aim j = v j) : ∀ (k j m : Nat) (dist : Nat → Int32), j + k = 30 → (∀ a, a < j → dist a = pn_key vec aim a) → ∃ dist', f_Do_measure_2 N V v (m + k + 1) dist (nI j) = some dist' ∧ ∀ a, a < 30 → dist' a = pn_key vec aim a := by
  intro k
  induction k with
  | zero =>
    intro j m dist hj h
    refine ⟨dist, ?_, fun a ha => h a (by omega)⟩
    rw [f_Do_measure_2, if_pos (show (30 : Int32) ≤ nI j from nI_le (a := 30) (by omega) (by omega))]
  | succ k ih =>
    intro j m dist hj h
    rw [show m + (k + 1) + 1 = (m + k + 1) + 1 from rfl, f_Do_measure_2, if_neg (show ¬ (30 : Int32) ≤ nI j from nI_ge (b := 30) (by omega) (by omega)), pb_at (show j < 30 by omega) (by decide), pd_cl (show j < 2147483648 by omega), pd_distance hN, Option.bind_some, pb_at (show j < 30 by omega) (by decide), nI_1]
    refine ih (j + 1) m _ (by omega) (fun a ha => ?_)
    by_cases e : a = j
    · subst e
      rw [pk_us]
      unfold pn_key
      exact ch_sum 4 (fun i hi => by unfold pd_F; rw [hV a (by omega) i hi, hv i hi]; exact ti_sq _ _)
    · rw [pk_un e]; exact h a (by omega)
theorem en_distA {N : Nat} (hN : 5 ≤ N) {V : Nat → Nat → Int32} {vec aim v : Nat → Int32} (hV : ch_V V vec) (hv : ∀ j, j < 4 → aim j = v j) {a : Nat} (ha : a < 30) : f_Nd_distance N v (V a) = some (pn_key vec aim a) := by
  rw [pd_distance hN]
  unfold pn_key
  rw [ch_sum (F := pd_F v (V a)) (G := pd_F (fun j => vec (4 * a + j)) aim) 4 (fun i hi => by unfold pd_F; rw [hV a ha i hi, hv i hi]; exact ti_sq _ _)]
theorem en_stand {N : Nat} (hN : 64 ≤ N) {V : Nat → Nat → Int32} {vec aim v : Nat → Int32} (hV : ch_V V vec) (hv : ∀ j, j < 4 → aim j = v j) {e : Nat} (he : e < 30) (H : T_Rk) (dist : Nat → Int32) : ∃ hn hv0 dist', f_Wa_standAt N H dist V v (nI e) = some ((hn, hv0, nI 1, nI 1, 0), dist') ∧ pr_A (pn_key vec aim) [e] hn hv0 ∧ ∀ a, a < 30 → dist' a = pn_key vec aim a := by
  obtain ⟨dist', d1, d2⟩ := en_measure_2 (N := N) (by omega) hV hv 30 0 (N - 31) dist (by omega) (fun a ha => absurd ha (Nat.not_lt_zero _))
  rw [show N - 31 + 30 + 1 = N by omega] at d1
  obtain ⟨n1, v1, a1, a2⟩ := pa_ok (N := N) (room := 1) (x := e) (l := []) (by omega) (pn_T (pn_key vec aim)) (wk_hp N (pn_key vec aim)) he (fun a ha => absurd ha List.not_mem_nil) (by decide) (by decide) List.Pairwise.nil H.1 H.2.1 (fun i hi => absurd hi (Nat.not_lt_zero _))
  have opa : pa_add (pn_lt (pn_key vec aim)) 1 e [] = (true, [e]) := rfl
  rw [opa] at a1 a2
  refine ⟨n1, v1, dist', ?_, a2, d2⟩
  unfold f_Wa_standAt f_Do_measure
  rw [show f_Do_measure_2 N V v N dist 0 = _ from d1, Option.bind_some, show f_Rk_start N 1 0 = some (0, nI 1, 0) from (pl_start N (r := 1) (by decide)).1, Option.bind_some, pb_at he (by decide), pd_cl (show e < 2147483648 by omega), d2 e he]
  rw [show f_Rk_add N H.1 H.2.1 (0, nI 1, (0 : Int32)).1 (0, nI 1, (0 : Int32)).2.1 (0, nI 1, (0 : Int32)).2.2 (nI e) (pn_key vec aim e) = _ from a1, Option.bind_some]
  rfl
theorem en_seen (x : Int64) (s : Int32) : (x + s.toInt64).toInt32 = x.toInt32 + s := by
  rw [Int64.toInt32_add, Int32.toInt32_toInt64]
