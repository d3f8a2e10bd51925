/-! PURE: near and exact -/
def re_F (rn rv : Nat → Int32) (rs : Int32) (number worth : Nat → Int32) (found : Int32) : Prop := ∃ f, f ≤ 30 ∧ rs = nI f ∧ found = nI f ∧ ∀ i, i < f → number i = rn i ∧ worth i = rv i ∧ ∃ a, a < 30 ∧ rn i = nI a
theorem re_ofA {key : Nat → Int32} {c : List Nat} (hc : ∀ a ∈ c, a < 30) (h30 : c.length ≤ 30) {rn rv number worth : Nat → Int32} (h1 : pr_A key c rn rv) (h2 : pr_A key c number worth) : re_F rn rv (nI c.length) number worth (nI c.length) :=
  ⟨c.length, h30, rfl, rfl, fun i hi => ⟨by rw [(h1 i hi).1, (h2 i hi).1], by rw [(h1 i hi).2, (h2 i hi).2], c.getD i 0, hc _ (wp_getD hi), (h1 i hi).1⟩⟩
theorem ne_in {a : Int32} {lo hi : Nat} (hlo : lo < 2147483648) (hh : hi < 2147483648) (h : nI lo ≤ a ∧ a ≤ nI hi) : ∃ k, lo ≤ k ∧ k ≤ hi ∧ a = nI k := by
  have h0 : ¬ a < 0 := fun q => by
    have h1 := h.1
    rw [Int32.le_iff_toInt_le, nI_toInt (n := lo) (by omega)] at h1
    rw [Int32.lt_iff_toInt_lt] at q
    have : (0 : Int32).toInt = 0 := by decide
    omega
  obtain ⟨j, h1, h2⟩ := nI_of h0
  subst h2
  exact ⟨j, (nI_leI (by omega) (by omega)).mp h.1, (nI_leI (by omega) (by omega)).mp h.2, rfl⟩
theorem ne_cat {key : Nat → Int32} {l : List Nat} {n : Nat} {nums vals : Nat → Int32} (h : pr_A key l nums vals) : pr_A key (l ++ [n]) (upd nums l.length (nI n)) (upd vals l.length (key n)) := by
  intro i hi
  rw [List.length_append, List.length_singleton] at hi
  by_cases e : i = l.length
  · subst e
    rw [pk_us, pk_us, List.getD_eq_getElem?_getD, List.getElem?_append_right (Nat.le_refl _), Nat.sub_self]
    exact ⟨rfl, rfl⟩
  · rw [pk_un e, pk_un e, List.getD_eq_getElem?_getD, List.getElem?_append_left (by omega), ← List.getD_eq_getElem?_getD]
    exact h i (by omega)
theorem ne_58 {N : Nat} (hN : 64 ≤ N) (vec aim sn hd op hr : Nat → Int32) {c : List Nat} (hc : ∀ a ∈ c, a < 30) (hA : hr_A c hr) (heres : Int32) (sA : Int64) {f : Nat} (hf : f ≤ c.length) (hf30 : f ≤ 30) : ∀ (k i m : Nat) (num wor : Nat → Int32), i + k = f → (∀ j, j < i → num j = nI (c.getD j 0) ∧ wor j = pn_key vec aim (c.getD j 0)) →
    ∃ num' wor', f_Mo_near_58 N vec (m + k + 1) sn hd op hr num wor aim heres (nI f) sA (nI i) = some (nI f, aim, sn, hd, op, hr, heres, num', wor', nI f, sA) ∧ pr_A (pn_key vec aim) (c.take f) num' wor' := by
  intro k
  induction k with
  | zero =>
    intro i m num wor hi h
    refine ⟨num, wor, ?_, fun j hj => ?_⟩
    · rw [f_Mo_near_58, if_pos (nI_le (by omega) (by omega))]
    · rw [List.length_take] at hj
      rw [List.getD_eq_getElem?_getD, List.getElem?_take_of_lt (by omega), ← List.getD_eq_getElem?_getD]
      exact h j (by omega)
  | succ k ih =>
    intro i m num wor hi h
    have g1 := hc _ (wp_getD (show i < c.length by omega))
    rw [show m + (k + 1) + 1 = (m + k + 1) + 1 from rfl, f_Mo_near_58, if_neg (nI_ge (by omega) (by omega))]
    simp only [pb_at (show i < 30 by omega) (show 30 < 2147483648 by decide), pd_cl (show i < 2147483648 by omega), hA i (by omega)]
    rw [ch_far (by omega) vec aim g1, Option.bind_some, nI_1]
    refine ih (i + 1) m _ _ (by omega) (fun j hj => ?_)
    by_cases e : j = i
    · subst e; rw [pk_us, pk_us]; exact ⟨rfl, rfl⟩
    · rw [pk_un e, pk_un e]; exact h j (by omega)
theorem ne_start {N k : Nat} (hk : k ≤ 30) : f_Rk_start N (nI k) 0 = some (0, nI k, 0) := (pl_start N hk).1
theorem ne_near {N : Nat} (hN : 64 ≤ N) {V : Nat → Nat → Int32} {vec : Nat → Int32} (hV : ch_V V vec) {ord lev D R isN ent : Nat → Int32} {sz entry entryM : Int32} (hE : en_R ord lev D R isN ent sz entry entryM) (cw wg que isL asked : Nat → Int32) {lv : Int32} (hlv : lv_R lv isL) (Wa : T_Wa) (C : T_Ch) (K : T_Rk) (sS sE : Int32) (sA : Int64) (hse : sS = sA.toInt32) (rn rv : Nat → Int32) (rs rr rg : Int32) (aim sn hd op hr number worth : Nat → Int32) (heres found : Int32) (hF : re_F rn rv rs number worth found) (a1 a2 : Int32) :
    ∃ r Wa' sS' rn' rv' rs' rr' rg' aim' sn' hd' op' hr' heres' number' worth' found' sA', f_Nd_near N (V, cw, wg, lv) ((ord, lev, D, R, que, sz), Wa, C, K, entry, sS, sE) (rn, rv, rs, rr, rg) asked a1 a2 = some (r, ((ord, lev, D, R, que, sz), Wa', C, K, entry, sS', sE), (rn', rv', rs', rr', rg')) ∧ f_Mo_near N isL vec lev R D entryM aim asked sn hd op hr heres number worth found sA a1 a2 = some (r, aim', sn', hd', op', hr', heres', number', worth', found', sA') ∧ re_F rn' rv' rs' number' worth' found' ∧ sS' = sA'.toInt32 := by
  unfold f_Nd_near f_Mo_near
  simp only [pb_isWithin, pb_in, Option.bind_some]
  by_cases c1 : (1 : Int32) ≤ a1 ∧ a1 ≤ 10
  · simp only [if_pos c1, if_neg pz_10]
    by_cases c2 : (1 : Int32) ≤ a2 ∧ a2 ≤ 10
    · simp only [if_pos c2, if_neg pz_10]
      obtain ⟨k, k1, k2, rfl⟩ := ne_in (lo := 1) (hi := 10) (by decide) (by decide) c1
      obtain ⟨w, w1, w2, rfl⟩ := ne_in (lo := 1) (hi := 10) (by decide) (by decide) c2
      have main : ∀ W, W = max k w → ∃ r Wa' sS' rn' rv' rs' rr' rg' aim' sn' hd' op' hr' heres' number' worth' found' sA', ((f_Rk_start N (nI k) 0).bind fun p5 => ((f_Nd_searchInto_results N (V, cw, wg, lv) ((ord, lev, D, R, que, sz), Wa, C, K, entry, sS, sE) (rn, rv, p5.1, p5.2.1, p5.2.2) asked (nI W)).bind fun p7 => ((f_Rk_size N p7.2.2.2.1).bind fun p9 => (some (p9, p7.1, p7.2))))) = some (r, ((ord, lev, D, R, que, sz), Wa', C, K, entry, sS', sE), (rn', rv', rs', rr', rg')) ∧ ((f_Mo_search N isL vec lev R D entryM aim asked sn hd op hr sA (nI W)).bind fun p6 => (if nI k ≤ p6.2.2.2.2.2.1 then (f_Mo_near_58 N vec N p6.2.1 p6.2.2.1 p6.2.2.2.1 p6.2.2.2.2.1 number worth p6.1 p6.2.2.2.2.2.1 (nI k) p6.2.2.2.2.2.2 0) else (f_Mo_near_58 N vec N p6.2.1 p6.2.2.1 p6.2.2.2.1 p6.2.2.2.2.1 number worth p6.1 p6.2.2.2.2.2.1 p6.2.2.2.2.2.1 p6.2.2.2.2.2.2 0))) = some (r, aim', sn', hd', op', hr', heres', number', worth', found', sA') ∧ re_F rn' rv' rs' number' worth' found' ∧ sS' = sA'.toInt32 := by
        intro W hW
        obtain ⟨l, hn0, hv0, rm, O1, dist1, M1, sS', aim', sn', hd', op', hr', sA', s1, s2, s3, s4, s5, s6, s7, s8, s9⟩ := se_ok hN hV hE que isL asked Wa sS sA hse (w := W) (by omega) (by omega) aim sn hd op hr
        obtain ⟨tn, tv, t1, t2⟩ := se_20 (N := N) (isL := isL) (x0 := (V, cw, wg, lv)) hN hlv ((ord, lev, D, R, que, sz), Wa, C, K, entry, sS, sE) s3 s4 (by omega) (kk := k) (by omega) s6 rm O1 dist1 M1 sS' l.length 0 (N - l.length - 1) rn rv (by omega) (by intro i hi; simp at hi)
        rw [show N - l.length - 1 + l.length + 1 = N by omega, List.take_zero, List.filter_nil, List.take_nil] at t1
        have hfl : (l.filter (lv_f isL)).length ≤ 30 := Nat.le_trans (List.length_filter_le _ _) (by omega)
        have hcl : ((l.filter (lv_f isL)).take k).length = min k (l.filter (lv_f isL)).length := List.length_take
        have hm : ∀ a ∈ l.filter (lv_f isL), a < 30 := fun a ha => s4 a (List.mem_filter.mp ha).1
        obtain ⟨num', wor', n1, n2⟩ := ne_58 (N := N) hN vec aim' sn' hd' op' hr' hm s7 (nI (l.filter (lv_f isL)).length) sA' (f := min k (l.filter (lv_f isL)).length) (by omega) (by omega) (min k (l.filter (lv_f isL)).length) 0 (N - (min k (l.filter (lv_f isL)).length) - 1) number worth (by omega) (fun j hj => absurd hj (Nat.not_lt_zero _))
        rw [show N - (min k (l.filter (lv_f isL)).length) - 1 + (min k (l.filter (lv_f isL)).length) + 1 = N by omega] at n1
        have htk : (l.filter (lv_f isL)).take (min k (l.filter (lv_f isL)).length) = (l.filter (lv_f isL)).take k := by
          by_cases q : k ≤ (l.filter (lv_f isL)).length
          · rw [Nat.min_eq_left q]
          · rw [Nat.min_eq_right (by omega), List.take_of_length_le (Nat.le_refl _), List.take_of_length_le (by omega)]
        rw [htk] at n2
        refine ⟨nI ((l.filter (lv_f isL)).take k).length, ((hn0, hv0, nI l.length, rm, 0), O1, dist1, M1), sS', tn, tv, nI ((l.filter (lv_f isL)).take k).length, nI k, 0, aim', sn', hd', op', hr', nI (l.filter (lv_f isL)).length, num', wor', nI ((l.filter (lv_f isL)).take k).length, sA', ?_, ?_, re_ofA (fun a ha => hm a (List.mem_of_mem_take ha)) (by omega) t2 n2, s9⟩
        · rw [ne_start (by omega), Option.bind_some]
          unfold f_Nd_searchInto_results
          dsimp only
          rw [s1, Option.bind_some]
          rw [show f_Nd_searchInto_results_20 N (V, cw, wg, lv) ((ord, lev, D, R, que, sz), Wa, C, K, entry, sS, sE) (((hn0, hv0, nI l.length, rm, 0), O1, dist1, M1), sS') N (rn, rv, 0, nI k, 0) 0 = _ from t1, Option.bind_some]
          rfl
        · rw [s2, Option.bind_some]
          dsimp only
          rw [hcl]
          by_cases q : k ≤ (l.filter (lv_f isL)).length
          · rw [if_pos (nI_le q (by omega))]
            rw [Nat.min_eq_left q] at n1 ⊢
            exact n1
          · rw [if_neg (nI_ge (show (l.filter (lv_f isL)).length < k by omega) (by omega))]
            rw [Nat.min_eq_right (show (l.filter (lv_f isL)).length ≤ k by omega)] at n1 ⊢
            exact n1
      by_cases q : k < w
      · rw [if_pos (nI_lt q (by omega)), if_pos (nI_le (show k ≤ w by omega) (by omega))]
        exact main w (by omega)
      · rw [if_neg (nI_nlt (show w ≤ k by omega) (by omega))]
        by_cases q2 : k = w
        · subst q2
          rw [if_pos (nI_le (Nat.le_refl k) (by omega))]
          exact main k (by omega)
        · rw [if_neg (nI_ge (show w < k by omega) (by omega))]
          exact main k (by omega)
    · simp only [if_neg c2, if_true]
      exact ⟨-1, Wa, sS, rn, rv, rs, rr, rg, aim, sn, hd, op, hr, heres, number, worth, found, sA, rfl, rfl, hF, hse⟩
  · simp only [if_neg c1, if_true]
    exact ⟨-1, Wa, sS, rn, rv, rs, rr, rg, aim, sn, hd, op, hr, heres, number, worth, found, sA, rfl, rfl, hF, hse⟩
/-! exact -/
theorem ne_rank {N : Nat} (hN : 64 ≤ N) {V : Nat → Nat → Int32} {vec aim asked : Nat → Int32} (hV : ch_V V vec) (haim : ∀ j, j < 4 → aim j = asked j) {isL : Nat → Int32} {lv : Int32} (hlv : lv_R lv isL) {kk : Nat} (hkk : kk ≤ 30) : ∀ (k j m : Nat) (tn tv : Nat → Int32), j + k = 30 → pr_A (pn_key vec aim) ((so_set (pn_lt (pn_key vec aim)) (lv_f isL) j).take kk) tn tv →
    ∃ tn' tv', f_Do_rankByDistance_2 N V lv asked (m + k + 1) (tn, tv, nI ((so_set (pn_lt (pn_key vec aim)) (lv_f isL) j).take kk).length, nI kk, 0) (nI j) = some (tn', tv', nI ((so_set (pn_lt (pn_key vec aim)) (lv_f isL) 30).take kk).length, nI kk, 0) ∧ pr_A (pn_key vec aim) ((so_set (pn_lt (pn_key vec aim)) (lv_f isL) 30).take kk) tn' tv' := by
  have T := pn_T (pn_key vec aim)
  intro k
  induction k with
  | zero =>
    intro j m tn tv hj h
    have : j = 30 := by omega
    subst this
    refine ⟨tn, tv, ?_, h⟩
    rw [f_Do_rankByDistance_2, if_pos (by decide)]
  | succ k ih =>
    intro j m tn tv hj h
    have hj30 : j < 30 := by omega
    have hst : so_set (pn_lt (pn_key vec aim)) (lv_f isL) (j + 1) = if isL j = 0 then so_set (pn_lt (pn_key vec aim)) (lv_f isL) j else so_ins (pn_lt (pn_key vec aim)) j (so_set (pn_lt (pn_key vec aim)) (lv_f isL) j) := pn_step (P := isL)
    rw [show m + (k + 1) + 1 = (m + k + 1) + 1 from rfl, f_Do_rankByDistance_2, if_neg (show ¬ (30 : Int32) ≤ nI j from nI_ge (b := 30) (by omega) (by omega)), lv_is hlv hj30, Option.bind_some]
    by_cases c : isL j = 0
    · simp only [if_pos c, if_true]
      rw [if_pos c] at hst
      rw [nI_1, ← hst]
      exact ih (j + 1) m tn tv (by omega) (by rw [hst]; exact h)
    · simp only [if_neg c, if_neg pz_10]
      rw [if_neg c] at hst
      have hsf : so_ok (pn_lt (pn_key vec aim)) (so_set (pn_lt (pn_key vec aim)) (lv_f isL) j) := so_set_ok T _
      have hnx : j ∉ so_set (pn_lt (pn_key vec aim)) (lv_f isL) j := fun q => absurd (so_set_mem.mp q).1 (Nat.lt_irrefl _)
      obtain ⟨n1, v1, a1, a2⟩ := pa_ok (N := N) (room := kk) (x := j) (l := (so_set (pn_lt (pn_key vec aim)) (lv_f isL) j).take kk) (by omega) T (wk_hp N (pn_key vec aim)) hj30 (fun a ha => Nat.lt_trans (so_set_mem.mp (List.mem_of_mem_take ha)).1 hj30) hkk (by rw [List.length_take]; omega) (List.Pairwise.sublist (List.take_sublist _ _) hsf) tn tv h
      rw [se_add T hsf hnx, ← hst] at a1 a2
      rw [pb_at hj30 (by decide), pd_cl (show j < 2147483648 by omega), en_distA (by omega) hV haim hj30, Option.bind_some, a1, Option.bind_some, nI_1]
      exact ih (j + 1) m n1 v1 (by omega) a2
theorem ne_56 {N : Nat} (hN : 64 ≤ N) (vec aim : Nat → Int32) {k : Nat} (hk : k ≤ 30) : ∀ (s : List Nat) (m : Nat) (hd num wor : Nat → Int32) (q : List Nat), so_set (pn_lt (pn_key vec aim)) (pn_P hd) 30 = s → q.length ≤ k → pr_A (pn_key vec aim) q num wor →
    ∃ hd' num' wor', f_Mo_exact_56 N vec (nI k) aim (m + s.length + 1) hd num wor (nI q.length) (pn_o s.head?) = some (nI (q ++ s.take (k - q.length)).length, aim, hd', num', wor', nI (q ++ s.take (k - q.length)).length) ∧ pr_A (pn_key vec aim) (q ++ s.take (k - q.length)) num' wor' := by
  have T := pn_T (pn_key vec aim)
  intro s
  induction s with
  | nil =>
    intro m hd num wor q hs h1 h2
    rw [List.take_nil, List.append_nil]
    refine ⟨hd, num, wor, ?_, h2⟩
    rw [f_Mo_exact_56, if_pos (show pn_o ([] : List Nat).head? < 0 by decide)]
  | cons n r ih =>
    intro m hd num wor q hs h1 h2
    obtain ⟨hn, hs2⟩ := cr_pop T hs
    rw [show pn_o (n :: r).head? = nI n from rfl, List.length_cons, show m + (r.length + 1) + 1 = (m + r.length + 1) + 1 from rfl, f_Mo_exact_56, if_neg (pn_neg hn)]
    by_cases c1 : q.length < k
    · rw [if_neg (nI_ge c1 (by omega)), pb_at hn (by decide), pb_at (show q.length < 30 by omega) (by decide), ch_far (by omega) vec aim hn, Option.bind_some, pb_at (show q.length < 30 by omega) (by decide), pd_cl (show q.length < 2147483648 by omega), pd_cl (show n < 2147483648 by omega), pz_n0, nI_1, pn_nearest_held (by omega), hs2, Option.bind_some]
      have e : q.length + 1 = (q ++ [n]).length := by rw [List.length_append, List.length_singleton]
      obtain ⟨d, hd2⟩ : ∃ d, k - q.length = d + 1 := ⟨k - q.length - 1, by omega⟩
      have e2 : q ++ (n :: r).take (k - q.length) = (q ++ [n]) ++ r.take (k - (q ++ [n]).length) := by
        rw [hd2, List.take_succ_cons, ← e, show k - (q.length + 1) = d by omega, List.append_assoc]
        rfl
      rw [e2, e]
      exact ih m (upd hd n 0) _ _ (q ++ [n]) hs2 (by omega) (ne_cat h2)
    · rw [if_pos (nI_le (show k ≤ q.length by omega) (by omega)), show k - q.length = 0 by omega, List.take_zero, List.append_nil]
      exact ⟨hd, num, wor, rfl, h2⟩
theorem ne_18 {N : Nat} (vec isL num wor aim : Nat → Int32) (a1 : Int32) (h01 : ∀ a, a < 30 → isL a = 0 ∨ isL a = 1) : ∀ (k j m : Nat) (hd : Nat → Int32), j + k = 30 → (∀ a, a < j → hd a = isL a) →
    ∃ hd', f_Mo_exact_18 N isL vec num wor a1 aim (m + k + 1) hd (nI j) = ((f_Mo_nearest_held N vec aim hd').bind fun p7 => (f_Mo_exact_56 N vec a1 aim N hd' num wor 0 p7)) ∧ ∀ a, a < 30 → hd' a = isL a := by
  intro k
  induction k with
  | zero =>
    intro j m hd hj h
    refine ⟨hd, ?_, fun a ha => h a (by omega)⟩
    rw [f_Mo_exact_18, if_pos (show (30 : Int32) ≤ nI j from nI_le (a := 30) (by omega) (by omega))]
  | succ k ih =>
    intro j m hd hj h
    have hb : vp_nar .boolean (isL j) = isL j := by
      rcases h01 j (by omega) with q | q <;> rw [q] <;> decide
    rw [show m + (k + 1) + 1 = (m + k + 1) + 1 from rfl, f_Mo_exact_18, if_neg (show ¬ (30 : Int32) ≤ nI j from nI_ge (b := 30) (by omega) (by omega)), pb_at (show j < 30 by omega) (by decide), pb_at (show j < 30 by omega) (by decide), pd_cl (show j < 2147483648 by omega), hb, nI_1]
    refine ih (j + 1) m _ (by omega) (fun a ha => ?_)
    by_cases e : a = j
    · subst e; rw [pk_us]
    · rw [pk_un e]; exact h a (by omega)
theorem ne_setE {lt : Nat → Nat → Bool} {P Q : Nat → Bool} : ∀ n : Nat, (∀ a, a < n → P a = Q a) → so_set lt P n = so_set lt Q n
  | 0, _ => rfl
  | n + 1, h => by
    rw [so_set, so_set, h n (Nat.lt_succ_self n), ne_setE n (fun a ha => h a (Nat.lt_succ_of_lt ha))]
theorem ne_exact {N : Nat} (hN : 64 ≤ N) {V : Nat → Nat → Int32} {vec : Nat → Int32} (hV : ch_V V vec) (cw wg isL asked : Nat → Int32) {lv : Int32} (hlv : lv_R lv isL) (rn rv : Nat → Int32) (rs rr rg : Int32) (aim hd number worth : Nat → Int32) (found : Int32) (hF : re_F rn rv rs number worth found) (a1 : Int32) :
    ∃ r rn' rv' rs' rr' rg' aim' hd' number' worth' found', f_Nd_exact N (V, cw, wg, lv) (rn, rv, rs, rr, rg) asked a1 = some (r, (rn', rv', rs', rr', rg')) ∧ f_Mo_exact N isL vec aim asked hd number worth found a1 = some (r, aim', hd', number', worth', found') ∧ re_F rn' rv' rs' number' worth' found' := by
  unfold f_Nd_exact f_Mo_exact
  simp only [pb_isWithin, pb_in, Option.bind_some]
  by_cases c1 : (1 : Int32) ≤ a1 ∧ a1 ≤ 10
  · simp only [if_pos c1, if_neg pz_10]
    obtain ⟨k, k1, k2, rfl⟩ := ne_in (lo := 1) (hi := 10) (by decide) (by decide) c1
    obtain ⟨aim1, b1, b2⟩ := se_aim hN aim asked
    obtain ⟨tn, tv, t1, t2⟩ := ne_rank (N := N) (aim := aim1) hN hV b2 hlv (kk := k) (by omega) 30 0 (N - 31) rn rv (by omega) (by intro i hi; simp [so_set] at hi)
    rw [show N - 31 + 30 + 1 = N by omega, show so_set (pn_lt (pn_key vec aim1)) (lv_f isL) 0 = [] from rfl, List.take_nil] at t1
    obtain ⟨Lm, -, -, hL⟩ := hlv
    obtain ⟨hd1, d1, d2⟩ := ne_18 (N := N) vec isL number worth aim1 (nI k) (fun a ha => (hL a ha).2) 30 0 (N - 31) hd (by omega) (fun a ha => absurd ha (Nat.not_lt_zero _))
    rw [show N - 31 + 30 + 1 = N by omega] at d1
    have hset : so_set (pn_lt (pn_key vec aim1)) (pn_P hd1) 30 = so_set (pn_lt (pn_key vec aim1)) (lv_f isL) 30 := ne_setE 30 (fun a ha => by unfold pn_P lv_f; rw [d2 a ha])
    have hl30 := so_set_len (lt := pn_lt (pn_key vec aim1)) (P := lv_f isL) 30
    obtain ⟨hd2, num', wor', e1, e2⟩ := ne_56 (N := N) hN vec aim1 (k := k) (by omega) _ (N - (so_set (pn_lt (pn_key vec aim1)) (lv_f isL) 30).length - 1) hd1 number worth [] hset (Nat.zero_le _) (fun i hi => absurd hi (Nat.not_lt_zero _))
    rw [show N - (so_set (pn_lt (pn_key vec aim1)) (lv_f isL) 30).length - 1 + (so_set (pn_lt (pn_key vec aim1)) (lv_f isL) 30).length + 1 = N by omega, List.nil_append, List.length_nil, Nat.sub_zero] at e1
    rw [List.nil_append, List.length_nil, Nat.sub_zero] at e2
    refine ⟨nI ((so_set (pn_lt (pn_key vec aim1)) (lv_f isL) 30).take k).length, tn, tv, nI ((so_set (pn_lt (pn_key vec aim1)) (lv_f isL) 30).take k).length, nI k, 0, aim1, hd2, num', wor', nI ((so_set (pn_lt (pn_key vec aim1)) (lv_f isL) 30).take k).length, ?_, ?_, re_ofA (fun a ha => (so_set_mem.mp (List.mem_of_mem_take ha)).1) (by rw [List.length_take]; omega) t2 e2⟩
    · rw [ne_start (by omega), Option.bind_some]
      unfold f_Do_rankByDistance
      dsimp only
      rw [show f_Do_rankByDistance_2 N V lv asked N (rn, rv, 0, nI k, 0) 0 = _ from t1, Option.bind_some]
      rfl
    · rw [b1, Option.bind_some, show f_Mo_exact_18 N isL vec number worth (nI k) aim1 N hd 0 = _ from d1, pn_nearest_held (by omega), hset, Option.bind_some]
      exact e1
  · simp only [if_neg c1, if_true]
    exact ⟨-1, rn, rv, rs, rr, rg, aim, hd, number, worth, found, rfl, rfl, hF⟩
