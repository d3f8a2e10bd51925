/-! PURE: found, node, neighbour -/
theorem fo_lt {a : Int32} {f : Nat} (hf : f ≤ 30) (h : (0 : Int32) ≤ a ∧ a ≤ nI f - 1) : ∃ i, i < f ∧ a = nI i := by
  cases f with
  | zero =>
    exfalso
    have h1 := h.1
    have h2 := h.2
    rw [Int32.le_iff_toInt_le] at h1 h2
    have e1 : (nI 0 - 1).toInt = -1 := by decide
    have e2 : (0 : Int32).toInt = 0 := by decide
    omega
  | succ f =>
    rw [nI_pred] at h
    obtain ⟨k, -, k1, k2⟩ := ne_in (lo := 0) (hi := f) (by decide) (by omega) h
    exact ⟨k, by omega, k2⟩
theorem fo_found {N : Nat} (V : Nat → Nat → Int32) (cw wg isL : Nat → Int32) {lv : Int32} (hlv : lv_R lv isL) {rn rv number worth : Nat → Int32} {rs found : Int32} (rr rg : Int32) (hF : re_F rn rv rs number worth found) (a1 a2 : Int32) : ∃ r, f_Nd_found N (V, cw, wg, lv) (rn, rv, rs, rr, rg) a1 a2 = some r ∧ f_Mo_found N isL number worth found a1 a2 = some r := by
  obtain ⟨f, f1, rfl, rfl, f4⟩ := hF
  unfold f_Nd_found f_Mo_found f_Rk_size
  simp only [pb_isWithin, pb_in, Option.bind_some]
  by_cases c1 : (0 : Int32) ≤ a2 ∧ a2 ≤ 2
  · simp only [if_pos c1, if_neg pz_10]
    by_cases c2 : (0 : Int32) ≤ a1 ∧ a1 ≤ nI f - 1
    · simp only [if_pos c2, if_neg pz_10]
      obtain ⟨i, i1, rfl⟩ := fo_lt f1 c2
      obtain ⟨g1, g2, a, g3, g4⟩ := f4 i i1
      unfold f_Rk_numberAt f_Rk_valueAt
      simp only [pb_at (show i < 30 by omega) (show 30 < 2147483648 by decide), pd_cl (show i < 2147483648 by omega), Option.bind_some, g1, g2, g4, lv_is hlv g3, pb_at g3 (show 30 < 2147483648 by decide), pd_cl (show a < 2147483648 by omega)]
      by_cases d1 : a2 = 0
      · rw [if_pos d1, if_pos d1]; exact ⟨_, rfl, rfl⟩
      · rw [if_neg d1, if_neg d1]
        by_cases d2 : a2 = 1
        · rw [if_pos d2, if_pos d2]; exact ⟨_, rfl, rfl⟩
        · rw [if_neg d2, if_neg d2]
          by_cases d3 : isL a = 0
          · simp only [if_pos d3, if_true]; exact ⟨_, rfl, rfl⟩
          · simp only [if_neg d3, if_neg pz_10]; exact ⟨_, rfl, rfl⟩
    · simp only [if_neg c2, if_true]
      exact ⟨_, rfl, rfl⟩
  · simp only [if_neg c1, if_true]
    exact ⟨_, rfl, rfl⟩
theorem fo_isNode {N : Nat} {ord lev D R isN ent : Nat → Int32} {sz entry entryM : Int32} (hE : en_R ord lev D R isN ent sz entry entryM) {n : Nat} (hn : n < 30) : f_Li_isNode N ord (nI n) = some (if isN n = 0 then 0 else 1) := by
  unfold f_Li_isNode
  rw [lv_doc N hn, Option.bind_some, if_neg pz_10, pb_at hn (by decide), pd_cl (show n < 2147483648 by omega)]
  rcases hE.2.1 n hn with ⟨h1, h2⟩ | ⟨h1, k, h2, h3, h4, -⟩
  · rw [if_pos h1, h2, if_pos (by decide)]
  · have hz : ¬ isN n = 0 := by rw [h1]; exact pz_10
    rw [h4, if_neg (nI_nle h2 (by omega)), if_neg hz]
theorem fo_noNode {N : Nat} (ord : Nat → Int32) {a : Int32} (h : ¬ ((0 : Int32) ≤ a ∧ a ≤ 29)) : f_Li_isNode N ord a = some 0 := by
  unfold f_Li_isNode
  rw [pb_isDocumentNumber, if_neg h]
  rfl
theorem fo_neighbour {N : Nat} {ord lev D R isN ent : Nat → Int32} {sz entry entryM : Int32} (hE : en_R ord lev D R isN ent sz entry entryM) (que : Nat → Int32) (Wa : T_Wa) (C : T_Ch) (K : T_Rk) (sS sE : Int32) (a1 a2 a3 : Int32) : ∃ r, f_Nd_neighbour N ((ord, lev, D, R, que, sz), Wa, C, K, entry, sS, sE) a1 a2 a3 = some r ∧ f_Mo_neighbour N isN lev R D a1 a2 a3 = some r := by
  unfold f_Nd_neighbour f_Mo_neighbour f_Li_isInLayer
  dsimp only
  rw [pb_in, Option.bind_some]
  by_cases c1 : (0 : Int32) ≤ a1 ∧ a1 ≤ 29
  · obtain ⟨n, -, n1, rfl⟩ := ne_in (lo := 0) (hi := 29) (by decide) (by decide) c1
    have hn : n < 30 := by omega
    simp only [if_pos c1, if_neg pz_10]
    rw [fo_isNode hE hn, pb_at hn (by decide), pd_cl (show n < 2147483648 by omega), Option.bind_some]
    by_cases c2 : isN n = 0
    · simp only [if_pos c2, if_true, Option.bind_some, pb_at hn (show 30 < 2147483648 by decide)]
      exact ⟨_, rfl, rfl⟩
    · simp only [if_neg c2, if_neg pz_10, pb_isWithin, pb_in, Option.bind_some, pb_at hn (show 30 < 2147483648 by decide)]
      obtain ⟨l, l1, l2⟩ := hE.2.2.1 n hn
      rw [l2]
      by_cases c3 : (0 : Int32) ≤ a2 ∧ a2 ≤ nI l
      · obtain ⟨y, -, y1, rfl⟩ := ne_in (lo := 0) (hi := l) (by decide) (by omega) c3
        have c4 : (0 : Int32) ≤ nI y ∧ nI y ≤ 3 := ⟨c3.1, nI_le (b := 3) (by omega) (by decide)⟩
        obtain ⟨g1, u, g2, g3, g4, g5⟩ := hE.2.2.2.1 y (by omega) n ⟨hn, c2⟩
        have m6 := (ti_most6 y).1
        simp only [if_pos c3, if_pos c4, if_neg pz_10, Option.bind_some]
        rw [if_neg (nI_nlt y1 (by omega))]
        unfold f_Li_degree f_Li_linked
        rw [wk_x4, pb_at (show 4 * n + y < 120 by omega) (by decide), pd_cl (show 4 * n + y < 2147483648 by omega), g2.1, Option.bind_some, pd_4, pb_at (show 4 * n + y < 120 by omega) (by decide), pd_cl (show 4 * n + y < 2147483648 by omega), g2.1]
        by_cases c5 : (0 : Int32) ≤ a3 ∧ a3 ≤ nI u.length - 1
        · obtain ⟨i, i1, rfl⟩ := fo_lt (by omega) c5
          simp only [if_pos c5, if_neg pz_10]
          rw [wk_x7, wk_7x, pb_at (show 7 * (4 * n + y) + i < 840 by omega) (by decide), Option.bind_some]
          exact ⟨_, rfl, rfl⟩
        · simp only [if_neg c5, if_true]
          exact ⟨_, rfl, rfl⟩
      · simp only [if_neg c3, if_true, Option.bind_some]
        refine ⟨-2, rfl, ?_⟩
        by_cases c4 : (0 : Int32) ≤ a2 ∧ a2 ≤ 3
        · simp only [if_pos c4, if_neg pz_10]
          rw [if_pos (Int32.not_le.mp (fun q => c3 ⟨c4.1, q⟩))]
        · simp only [if_neg c4, if_true]
  · simp only [if_neg c1, if_true]
    rw [fo_noNode ord c1, Option.bind_some]
    exact ⟨_, rfl, rfl⟩
theorem fo_node {N : Nat} {V : Nat → Nat → Int32} {vec : Nat → Int32} (hV : ch_V V vec) {ord lev D R isN ent : Nat → Int32} {sz entry entryM : Int32} (hE : en_R ord lev D R isN ent sz entry entryM) (cw wg que isL : Nat → Int32) {lv : Int32} (hlv : lv_R lv isL) (Wa : T_Wa) (C : T_Ch) (K : T_Rk) (sS sE : Int32) (a1 a2 : Int32) : ∃ r, f_Nd_node N (V, cw, wg, lv) ((ord, lev, D, R, que, sz), Wa, C, K, entry, sS, sE) a1 a2 = some r ∧ f_Mo_node N isN isL vec cw lev ent D a1 a2 = some r := by
  unfold f_Nd_node f_Mo_node
  simp only [pb_isWithin, pb_in, Option.bind_some]
  have h12 : (0 : Int32) ≤ a2 ∧ a2 ≤ 7 ∨ ¬ ((0 : Int32) ≤ a2 ∧ a2 ≤ 7) := Classical.em _
  by_cases c0 : (0 : Int32) ≤ a2 ∧ a2 ≤ 7
  · simp only [if_pos c0, if_neg pz_10]
    by_cases c1 : (0 : Int32) ≤ a1 ∧ a1 ≤ 29
    · obtain ⟨n, -, n1, rfl⟩ := ne_in (lo := 0) (hi := 29) (by decide) (by decide) c1
      have hn : n < 30 := by omega
      obtain ⟨w, -, w1, rfl⟩ := ne_in (lo := 0) (hi := 7) (by decide) (by decide) c0
      simp only [if_pos c1, if_neg pz_10]
      rw [fo_isNode hE hn, Option.bind_some, pb_at hn (by decide), pd_cl (show n < 2147483648 by omega)]
      by_cases c2 : isN n = 0
      · simp only [if_pos c2, if_true]
        exact ⟨_, rfl, rfl⟩
      · simp only [if_neg c2, if_neg pz_10]
        have hord : ord n = ent n := by
          rcases hE.2.1 n hn with ⟨h1, h2⟩ | ⟨h1, k, h2, h3, h4, h5⟩
          · exact absurd h1 c2
          · rw [h4, h5]
        rw [if_pos (show nI w < 10 from nI_lt (b := 10) (by omega) (by decide)), if_pos (show nI w < 10 from nI_lt (b := 10) (by omega) (by decide))]
        unfold f_Li_level f_Li_order f_Do_coordinate f_Do_counts
        simp only [pb_at hn (show 30 < 2147483648 by decide), pd_cl (show n < 2147483648 by omega), Option.bind_some, lv_is hlv hn, hord]
        rcases (show w = 0 ∨ w = 1 ∨ w = 2 ∨ w = 7 ∨ (∃ j, j < 4 ∧ w = j + 3) from by
          rcases (show w = 0 ∨ w = 1 ∨ w = 2 ∨ w = 7 ∨ (3 ≤ w ∧ w ≤ 6) by omega) with h | h | h | h | h
          · exact Or.inl h
          · exact Or.inr (Or.inl h)
          · exact Or.inr (Or.inr (Or.inl h))
          · exact Or.inr (Or.inr (Or.inr (Or.inl h)))
          · exact Or.inr (Or.inr (Or.inr (Or.inr ⟨w - 3, by omega, by omega⟩)))) with rfl | rfl | rfl | rfl | ⟨j, hj, rfl⟩
        · refine ⟨lev n, ?_, ?_⟩
          · rw [if_pos (by decide)]
          · rw [if_pos (by decide)]
        · refine ⟨ent n, ?_, ?_⟩
          · rw [if_neg (by decide), if_pos (by decide)]
          · rw [if_neg (by decide), if_pos (by decide)]
        · refine ⟨if isL n = 0 then 0 else 1, ?_, ?_⟩
          · rw [if_neg (by decide), if_neg (by decide), if_pos (by decide)]
            by_cases d3 : isL n = 0
            · simp only [if_pos d3, if_true]
            · simp only [if_neg d3, if_neg pz_10]
          · rw [if_neg (by decide), if_neg (by decide), if_pos (by decide)]
            by_cases d3 : isL n = 0
            · simp only [if_pos d3]
            · simp only [if_neg d3]
        · refine ⟨cw n, ?_, ?_⟩
          · rw [if_neg (by decide), if_neg (by decide), if_neg (by decide), if_neg (by decide), if_neg (by decide), if_neg (by decide), if_neg (by decide), if_pos (by decide)]
          · rw [if_neg (by decide), if_neg (by decide), if_neg (by decide), if_pos (by decide)]
        · have e3 : nI (j + 3) - 3 = nI j := by
            rw [show (3 : Int32) = nI 3 from rfl, pk_sub (by omega), Nat.add_sub_cancel]
          have e4 : 4 * nI n + nI (j + 3) - 3 = nI (4 * n + j) := by
            rw [pd_4, show (3 : Int32) = nI 3 from rfl, pk_sub (by omega), show 4 * n + (j + 3) - 3 = 4 * n + j by omega]
          have k0 : ¬ nI (j + 3) = 0 := nI_ne0 (by omega) (by omega)
          have k1 : ¬ nI (j + 3) = 1 := fun q => by have := (nI_eq (a := j + 3) (b := 1) (by omega) (by omega)).mp q; omega
          have k2 : ¬ nI (j + 3) = 2 := fun q => by have := (nI_eq (a := j + 3) (b := 2) (by omega) (by omega)).mp q; omega
          have k7 : ¬ nI (j + 3) = 7 := fun q => by have := (nI_eq (a := j + 3) (b := 7) (by omega) (by omega)).mp q; omega
          rw [if_neg k0, if_neg k1, if_neg k2, if_neg k0, if_neg k1, if_neg k2, if_neg k7, if_neg k7, e3, e4]
          simp only [pb_at hj (show 4 < 2147483648 by decide), pb_at (show 4 * n + j < 120 by omega) (show 120 < 2147483648 by decide), Option.bind_some, ite_self]
          rw [pd_cl (show j < 2147483648 by omega), pd_cl (show 4 * n + j < 2147483648 by omega), hV n hn j hj]
          exact ⟨_, rfl, rfl⟩
    · simp only [if_neg c1, if_true]
      rw [fo_noNode ord c1, Option.bind_some]
      exact ⟨_, rfl, rfl⟩
  · simp only [if_neg c0, if_true]
    by_cases c9 : (10 : Int32) ≤ a2 ∧ a2 ≤ 13
    · simp only [if_pos c9, if_neg pz_10]
      by_cases c1 : (0 : Int32) ≤ a1 ∧ a1 ≤ 29
      · obtain ⟨n, -, n1, rfl⟩ := ne_in (lo := 0) (hi := 29) (by decide) (by decide) c1
        have hn : n < 30 := by omega
        obtain ⟨w, w0, w1, rfl⟩ := ne_in (lo := 10) (hi := 13) (by decide) (by decide) c9
        obtain ⟨y, rfl⟩ : ∃ y, w = y + 10 := ⟨w - 10, by omega⟩
        simp only [if_pos c1, if_neg pz_10]
        unfold f_Li_isInLayer
        rw [fo_isNode hE hn, Option.bind_some, pb_at hn (by decide), pd_cl (show n < 2147483648 by omega)]
        by_cases c2 : isN n = 0
        · simp only [if_pos c2, if_true, pb_at hn (show 30 < 2147483648 by decide)]
          exact ⟨_, rfl, rfl⟩
        · simp only [if_neg c2, if_neg pz_10]
          obtain ⟨l, l1, l2⟩ := hE.2.2.1 n hn
          have e3 : nI (y + 10) - 10 = nI y := by
            rw [show (10 : Int32) = nI 10 from rfl, pk_sub (by omega), Nat.add_sub_cancel]
          have e4 : 4 * nI n + nI (y + 10) - 10 = nI (4 * n + y) := by
            rw [pd_4, show (10 : Int32) = nI 10 from rfl, pk_sub (by omega), show 4 * n + (y + 10) - 10 = 4 * n + y by omega]
          rw [if_neg (show ¬ nI (y + 10) < 10 from nI_nlt (b := 10) (by omega) (by omega)), if_neg (show ¬ nI (y + 10) < 10 from nI_nlt (b := 10) (by omega) (by omega)), e3, e4, l2]
          simp only [Option.bind_some, if_neg pz_10, pb_at hn (show 30 < 2147483648 by decide), pb_isWithin]
          by_cases c3 : y ≤ l
          · simp only [if_pos (show (0 : Int32) ≤ nI y ∧ nI y ≤ nI l from ⟨nI_pos' (by omega), nI_le c3 (by omega)⟩), if_neg pz_10, Option.bind_some]
            rw [if_neg (nI_nlt c3 (by omega))]
            unfold f_Li_degree
            rw [wk_x4, pb_at (show 4 * n + y < 120 by omega) (by decide), Option.bind_some]
            exact ⟨_, rfl, rfl⟩
          · simp only [if_neg (show ¬ ((0 : Int32) ≤ nI y ∧ nI y ≤ nI l) from fun q => nI_ge (show l < y by omega) (by omega) q.2), if_true, Option.bind_some]
            rw [if_pos (nI_lt (show l < y by omega) (by omega))]
            exact ⟨_, rfl, rfl⟩
      · simp only [if_neg c1, if_true]
        rw [fo_noNode ord c1, Option.bind_some]
        exact ⟨_, rfl, rfl⟩
    · simp only [if_neg c9, if_true]
      exact ⟨_, rfl, rfl⟩
