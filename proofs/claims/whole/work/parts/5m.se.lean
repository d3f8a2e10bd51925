/-! PURE: adding to a ranking with room is inserting and cutting -/
theorem se_cut {lt : Nat → Nat → Bool} {x : Nat} : ∀ (l : List Nat) (k : Nat), (so_ins lt x (l.take k)).take k = (so_ins lt x l).take k
  | [], k => by rw [List.take_nil]
  | y :: t, 0 => by simp
  | y :: t, k + 1 => by
    rw [List.take_succ_cons, so_ins, so_ins]
    by_cases h : lt x y = true
    · rw [if_pos h, if_pos h, List.take_succ_cons, List.take_succ_cons]
      congr 1
      rw [← List.take_succ_cons, List.take_take, Nat.min_eq_left (by omega)]
    · rw [if_neg h, if_neg h, List.take_succ_cons, List.take_succ_cons, se_cut t k]
theorem se_last {lt : Nat → Nat → Bool} (T : so_T lt) {x : Nat} {t : List Nat} {y : Nat} (hs : so_ok lt (t ++ [y])) (hx : x ∉ t ++ [y]) : (so_ins lt x (t ++ [y])).dropLast = if lt x y = true then so_ins lt x t else t ++ [y] := by
  induction t with
  | nil =>
    by_cases h : lt x y = true
    · simp [so_ins, h]
    · simp [so_ins, h]
  | cons z t ih =>
    have h1 := List.pairwise_cons.mp hs
    rw [List.cons_append, so_ins]
    by_cases h : lt x z = true
    · have h2 : lt x y = true := T.2.1 _ _ _ h (h1.1 y (List.mem_append_right _ List.mem_cons_self))
      rw [if_pos h, if_pos h2, so_ins, if_pos h]
      rw [show x :: z :: (t ++ [y]) = (x :: z :: t) ++ [y] from rfl, List.dropLast_concat]
    · rw [if_neg h]
      have hne : so_ins lt x (t ++ [y]) ≠ [] := fun q => by
        have : x ∈ so_ins lt x (t ++ [y]) := so_mem.mpr (Or.inl rfl)
        rw [q] at this
        exact absurd this List.not_mem_nil
      rw [List.dropLast_cons_of_ne_nil hne, ih h1.2 (fun q => hx (List.mem_cons_of_mem _ q))]
      by_cases h2 : lt x y = true
      · rw [if_pos h2, if_pos h2, so_ins, if_neg h]
      · rw [if_neg h2, if_neg h2]
theorem se_add {lt : Nat → Nat → Bool} (T : so_T lt) {x k : Nat} {l : List Nat} (hs : so_ok lt l) (hx : x ∉ l) : (pa_add lt k x (l.take k)).2 = (so_ins lt x l).take k := by
  have hs2 : so_ok lt (l.take k) := List.Pairwise.sublist (List.take_sublist k l) hs
  have hx2 : x ∉ l.take k := fun q => hx (List.mem_of_mem_take q)
  have hlk : (l.take k).length ≤ k := by rw [List.length_take]; omega
  rw [← se_cut]
  generalize l.take k = c at *
  by_cases h : c.length < k
  · unfold pa_add
    rw [if_pos h, List.take_of_length_le (by rw [so_len]; omega)]
  · by_cases hk : c.length = k
    · cases hd : c.getLast? with
      | none =>
        have := List.getLast?_eq_none_iff.mp hd
        subst this
        unfold pa_add
        rw [if_neg h]
        have hk0 : k = 0 := by simp at hk; omega
        subst hk0
        rfl
      | some y =>
        rw [pa_full h hd]
        obtain ⟨t, rfl⟩ := List.getLast?_eq_some_iff.mp hd
        have e : (so_ins lt x (t ++ [y])).take k = (so_ins lt x (t ++ [y])).dropLast := by
          rw [List.dropLast_eq_take, so_len, ← hk]
          rfl
        rw [e, se_last T hs2 hx2, List.dropLast_concat]
        by_cases d : lt x y = true
        · rw [if_pos d, if_pos d]
        · rw [if_neg d, if_neg d]
    · omega
/-! PURE: the live ones -/
def lv_R (lv : Int32) (isL : Nat → Int32) : Prop := ∃ Lm, Lm < 2 ^ 30 ∧ lv = nI Lm ∧ ∀ a, a < 30 → (Lm.testBit a = true ↔ isL a ≠ 0) ∧ (isL a = 0 ∨ isL a = 1)
def lv_f (isL : Nat → Int32) (a : Nat) : Bool := decide (isL a ≠ 0)
theorem lv_doc (N : Nat) {a : Nat} (ha : a < 30) : f_Nd_isDocumentNumber N (nI a) = some 1 := by
  rw [pb_isDocumentNumber, if_pos ⟨nI_pos' (by omega), show nI a ≤ nI 29 from nI_le (by omega) (by decide)⟩]
theorem lv_is {N : Nat} {lv : Int32} {isL : Nat → Int32} (h : lv_R lv isL) {a : Nat} (ha : a < 30) : f_Do_isLive N lv (nI a) = some (if isL a = 0 then 0 else 1) := by
  obtain ⟨Lm, h1, h2, h3⟩ := h
  unfold f_Do_isLive
  rw [lv_doc N ha, Option.bind_some, if_neg pz_10, h2, pm_isIn N h1 ha, Option.bind_some]
  by_cases c : isL a = 0
  · rw [if_neg (fun q => (h3 a ha).1.mp q c), if_pos rfl, if_pos c]
  · rw [if_pos ((h3 a ha).1.mpr c), if_neg pz_10, if_neg c]
theorem se_filt {isL : Nat → Int32} (t : List Nat) (a : Nat) : (t ++ [a]).filter (lv_f isL) = if isL a = 0 then t.filter (lv_f isL) else t.filter (lv_f isL) ++ [a] := by
  rw [List.filter_append]
  by_cases c : isL a = 0
  · have : lv_f isL a = false := by unfold lv_f; simp [c]
    rw [if_pos c]
    simp [this]
  · have : lv_f isL a = true := by unfold lv_f; simp [c]
    rw [if_neg c]
    simp [this]
/-! PURE: search, in step -/
theorem se_96 {N : Nat} {isL : Nat → Int32} {l : List Nat} (hl : ∀ a ∈ l, a < 30) (hl30 : l.length ≤ 30) (aim sn hd op hr0 : Nat → Int32) (S : Int32) (sA : Int64) : ∀ (k i m : Nat) (hr : Nat → Int32) (q : List Nat), i + k = l.length → q = (l.take i).filter (lv_f isL) → hr_A q hr → (∀ j, i ≤ j → j < l.length → hr j = nI (l.getD j 0)) →
    ∃ hr', f_Mo_search_96 N isL aim sA (S, sn, hd, op, hr0, nI l.length) (m + k + 1) hr (nI q.length) (nI i) = some (aim, sn, hd, op, hr', nI (l.filter (lv_f isL)).length, sA + S.toInt64) ∧ hr_A (l.filter (lv_f isL)) hr' := by
  intro k
  induction k with
  | zero =>
    intro i m hr q hi hq h1 h2
    rw [List.take_of_length_le (by omega)] at hq
    subst hq
    refine ⟨hr, ?_, h1⟩
    rw [f_Mo_search_96, if_pos (nI_le (by omega) (by omega))]
  | succ k ih =>
    intro i m hr q hi hq h1 h2
    have hil : i < l.length := by omega
    have g1 := hl _ (wp_getD hil)
    have hg : l.getD i 0 = l[i]'hil := by rw [List.getD_eq_getElem?_getD, List.getElem?_eq_getElem hil]; rfl
    have hql : q.length ≤ i := by
      rw [hq]
      have := List.length_filter_le (lv_f isL) (l.take i)
      rw [List.length_take] at this
      omega
    have hst : (l.take (i + 1)).filter (lv_f isL) = (if isL (l.getD i 0) = 0 then q else q ++ [l.getD i 0]) := by
      rw [← List.take_append_getElem hil, ← hg, se_filt, ← hq]
    rw [show m + (k + 1) + 1 = (m + k + 1) + 1 from rfl, f_Mo_search_96]
    dsimp only
    rw [if_neg (nI_ge hil (by omega))]
    simp only [pd_cl (show i < 2147483648 by omega), h2 i (Nat.le_refl _) hil, pb_at (show i < 30 by omega) (show 30 < 2147483648 by decide), pb_at g1 (show 30 < 2147483648 by decide), pd_cl (show l.getD i 0 < 2147483648 by omega), nI_1]
    by_cases c : isL (l.getD i 0) = 0
    · rw [if_pos c] at hst ⊢
      exact ih (i + 1) m hr q (by omega) hst.symm h1 (fun j hj => h2 j (by omega))
    · rw [if_neg c] at hst ⊢
      rw [pb_at (show q.length < 30 by omega) (by decide), pd_cl (show q.length < 2147483648 by omega), show q.length + 1 = (q ++ [l.getD i 0]).length by rw [List.length_append, List.length_singleton]]
      exact ih (i + 1) m _ _ (by omega) hst.symm (ch_cat h1) (fun j hj hj2 => by rw [pk_un (by omega)]; exact h2 j (by omega) hj2)
theorem se_20 {N : Nat} (hN : 64 ≤ N) {isL : Nat → Int32} {x0 : T_Do} (hlv : lv_R x0.2.2.2 isL) (x1 : T_Gr) {key : Nat → Int32} {l : List Nat} (hs : so_ok (pn_lt key) l) (hl : ∀ a ∈ l, a < 30) (hl30 : l.length ≤ 30) {kk : Nat} (hkk : kk ≤ 30) {hn hv : Nat → Int32} (hA : pr_A key l hn hv) (rm : Int32) (O : T_Rk) (dist : Nat → Int32) (M sS : Int32) : ∀ (k i m : Nat) (tn tv : Nat → Int32), i + k = l.length → pr_A key (((l.take i).filter (lv_f isL)).take kk) tn tv →
    ∃ tn' tv', f_Nd_searchInto_results_20 N x0 x1 (((hn, hv, nI l.length, rm, 0), O, dist, M), sS) (m + k + 1) (tn, tv, nI (((l.take i).filter (lv_f isL)).take kk).length, nI kk, 0) (nI i) = some ((x1.1, ((hn, hv, nI l.length, rm, 0), O, dist, M), x1.2.2.1, x1.2.2.2.1, x1.2.2.2.2.1, sS, x1.2.2.2.2.2.2), (tn', tv', nI ((l.filter (lv_f isL)).take kk).length, nI kk, 0)) ∧ pr_A key ((l.filter (lv_f isL)).take kk) tn' tv' := by
  have T := pn_T key
  intro k
  induction k with
  | zero =>
    intro i m tn tv hi h
    rw [show l.take i = l from List.take_of_length_le (by omega)] at h ⊢
    refine ⟨tn, tv, ?_, h⟩
    rw [f_Nd_searchInto_results_20]
    unfold f_Rk_size
    dsimp only
    rw [Option.bind_some, if_pos (nI_le (by omega) (by omega))]
  | succ k ih =>
    intro i m tn tv hi h
    have hil : i < l.length := by omega
    have g1 := hl _ (wp_getD hil)
    have hg : l.getD i 0 = l[i]'hil := by rw [List.getD_eq_getElem?_getD, List.getElem?_eq_getElem hil]; rfl
    have hbig : ∀ a ∈ (l.take i).filter (lv_f isL), pn_lt key a (l.getD i 0) = true := fun a ha => by
      obtain ⟨j, hj, rfl⟩ := List.mem_iff_getElem.mp (List.mem_filter.mp ha).1
      rw [List.length_take] at hj
      rw [List.getElem_take, hg]
      exact List.pairwise_iff_getElem.mp hs j i (by omega) hil (by omega)
    have hst : (l.take (i + 1)).filter (lv_f isL) = (if isL (l.getD i 0) = 0 then (l.take i).filter (lv_f isL) else so_ins (pn_lt key) (l.getD i 0) ((l.take i).filter (lv_f isL))) := by
      rw [wp_end T hbig, ← List.take_append_getElem hil, ← hg, se_filt]
    rw [show m + (k + 1) + 1 = (m + k + 1) + 1 from rfl, f_Nd_searchInto_results_20]
    unfold f_Rk_size f_Rk_numberAt f_Rk_valueAt
    dsimp only
    rw [Option.bind_some, if_neg (nI_ge hil (by omega)), pb_at (show i < 30 by omega) (by decide), Option.bind_some, pd_cl (show i < 2147483648 by omega), (hA i hil).1, lv_is hlv g1, Option.bind_some]
    by_cases c : isL (l.getD i 0) = 0
    · simp only [if_pos c]
      rw [if_pos c] at hst
      rw [if_pos trivial, nI_1, ← hst]
      exact ih (i + 1) m tn tv (by omega) (by rw [hst]; exact h)
    · simp only [if_neg c]
      rw [if_neg c] at hst
      have hsf : so_ok (pn_lt key) ((l.take i).filter (lv_f isL)) := List.Pairwise.filter _ (List.Pairwise.sublist (List.take_sublist i l) hs)
      have hnx : l.getD i 0 ∉ (l.take i).filter (lv_f isL) := fun q => by
        have := hbig _ q
        rw [T.1] at this
        cases this
      obtain ⟨n1, v1, a1, a2⟩ := pa_ok (N := N) (room := kk) (x := l.getD i 0) (l := ((l.take i).filter (lv_f isL)).take kk) (by omega) T (wk_hp N key) g1 (fun a ha => hl a (List.mem_of_mem_take (List.mem_filter.mp (List.mem_of_mem_take ha)).1)) hkk (by rw [List.length_take]; omega) (List.Pairwise.sublist (List.take_sublist _ _) hsf) tn tv h
      rw [se_add T hsf hnx, ← hst] at a1 a2
      rw [if_neg pz_10, pb_at (show i < 30 by omega) (by decide), Option.bind_some, (hA i hil).2, a1, Option.bind_some, nI_1]
      exact ih (i + 1) m n1 v1 (by omega) a2
theorem se_20s {N : Nat} (hN : 64 ≤ N) {isL : Nat → Int32} {x0 : T_Do} (hlv : lv_R x0.2.2.2 isL) (x1 : T_Gr) {key : Nat → Int32} {l : List Nat} (hs : so_ok (pn_lt key) l) (hl : ∀ a ∈ l, a < 30) (hl30 : l.length ≤ 30) {kk : Nat} (hkk : kk ≤ 30) {hn hv : Nat → Int32} (hA : pr_A key l hn hv) (rm : Int32) (O : T_Rk) (dist : Nat → Int32) (M sS : Int32) : ∀ (k i m : Nat) (tn tv : Nat → Int32), i + k = l.length → pr_A key (((l.take i).filter (lv_f isL)).take kk) tn tv →
    ∃ tn' tv', f_Nd_searchInto_scratch_20 N x0 x1 (((hn, hv, nI l.length, rm, 0), O, dist, M), sS) (m + k + 1) (tn, tv, nI (((l.take i).filter (lv_f isL)).take kk).length, nI kk, 0) (nI i) = some ((x1.1, ((hn, hv, nI l.length, rm, 0), O, dist, M), x1.2.2.1, x1.2.2.2.1, x1.2.2.2.2.1, sS, x1.2.2.2.2.2.2), (tn', tv', nI ((l.filter (lv_f isL)).take kk).length, nI kk, 0)) ∧ pr_A key ((l.filter (lv_f isL)).take kk) tn' tv' := by
  have T := pn_T key
  intro k
  induction k with
  | zero =>
    intro i m tn tv hi h
    rw [show l.take i = l from List.take_of_length_le (by omega)] at h ⊢
    refine ⟨tn, tv, ?_, h⟩
    rw [f_Nd_searchInto_scratch_20]
    unfold f_Rk_size
    dsimp only
    rw [Option.bind_some, if_pos (nI_le (by omega) (by omega))]
  | succ k ih =>
    intro i m tn tv hi h
    have hil : i < l.length := by omega
    have g1 := hl _ (wp_getD hil)
    have hg : l.getD i 0 = l[i]'hil := by rw [List.getD_eq_getElem?_getD, List.getElem?_eq_getElem hil]; rfl
    have hbig : ∀ a ∈ (l.take i).filter (lv_f isL), pn_lt key a (l.getD i 0) = true := fun a ha => by
      obtain ⟨j, hj, rfl⟩ := List.mem_iff_getElem.mp (List.mem_filter.mp ha).1
      rw [List.length_take] at hj
      rw [List.getElem_take, hg]
      exact List.pairwise_iff_getElem.mp hs j i (by omega) hil (by omega)
    have hst : (l.take (i + 1)).filter (lv_f isL) = (if isL (l.getD i 0) = 0 then (l.take i).filter (lv_f isL) else so_ins (pn_lt key) (l.getD i 0) ((l.take i).filter (lv_f isL))) := by
      rw [wp_end T hbig, ← List.take_append_getElem hil, ← hg, se_filt]
    rw [show m + (k + 1) + 1 = (m + k + 1) + 1 from rfl, f_Nd_searchInto_scratch_20]
    unfold f_Rk_size f_Rk_numberAt f_Rk_valueAt
    dsimp only
    rw [Option.bind_some, if_neg (nI_ge hil (by omega)), pb_at (show i < 30 by omega) (by decide), Option.bind_some, pd_cl (show i < 2147483648 by omega), (hA i hil).1, lv_is hlv g1, Option.bind_some]
    by_cases c : isL (l.getD i 0) = 0
    · simp only [if_pos c]
      rw [if_pos c] at hst
      rw [if_pos trivial, nI_1, ← hst]
      exact ih (i + 1) m tn tv (by omega) (by rw [hst]; exact h)
    · simp only [if_neg c]
      rw [if_neg c] at hst
      have hsf : so_ok (pn_lt key) ((l.take i).filter (lv_f isL)) := List.Pairwise.filter _ (List.Pairwise.sublist (List.take_sublist i l) hs)
      have hnx : l.getD i 0 ∉ (l.take i).filter (lv_f isL) := fun q => by
        have := hbig _ q
        rw [T.1] at this
        cases this
      obtain ⟨n1, v1, a1, a2⟩ := pa_ok (N := N) (room := kk) (x := l.getD i 0) (l := ((l.take i).filter (lv_f isL)).take kk) (by omega) T (wk_hp N key) g1 (fun a ha => hl a (List.mem_of_mem_take (List.mem_filter.mp (List.mem_of_mem_take ha)).1)) hkk (by rw [List.length_take]; omega) (List.Pairwise.sublist (List.take_sublist _ _) hsf) tn tv h
      rw [se_add T hsf hnx, ← hst] at a1 a2
      rw [if_neg pz_10, pb_at (show i < 30 by omega) (by decide), Option.bind_some, (hA i hil).2, a1, Option.bind_some, nI_1]
      exact ih (i + 1) m n1 v1 (by omega) a2
theorem se_38 {N : Nat} (hN : 64 ≤ N) {vec aim dist D R : Nat → Int32} {P : Nat → Prop} {w : Nat} (hw0 : 0 < w) (hw : w ≤ 30) (hG : ∀ j, j < 4 → tl_G P j D R) (hdist : ∀ a, a < 30 → dist a = pn_key vec aim a) (ord lev que isL : Nat → Int32) (sz : Int32) :
    ∀ (k m1 m2 : Nat) (hn0 hv0 : Nat → Int32) (O : T_Rk) (M sS : Int32) (l0 : List Nat) (rm : Int32) (sn hd op hr : Nat → Int32) (sA : Int64), k ≤ 3 → so_ok (pn_lt (pn_key vec aim)) l0 → (∀ a ∈ l0, P a) → l0.length ≤ 30 → pr_A (pn_key vec aim) l0 hn0 hv0 → hr_A l0 hr → sS = sA.toInt32 →
    ∃ S l1 sn1 hd1 op1 hr1 M1 hn1 hv1 O1 sS1 sA1, f_Gr_search_38 N (ord, lev, D, R, que, sz) (nI w) (m1 + k + 2) ((hn0, hv0, nI l0.length, rm, 0), O, dist, M) sS (nI k) = some (((hn1, hv1, nI l1.length, nI w, 0), O1, dist, M1), sS1) ∧ f_Mo_search_42 N isL vec R D (nI w) aim (m2 + k + 1) sn hd op hr (nI l0.length) sA (nI k) = f_Mo_search_96 N isL aim sA1 (nI S, sn1, hd1, op1, hr1, nI l1.length) N hr1 0 0 ∧ so_ok (pn_lt (pn_key vec aim)) l1 ∧ (∀ a ∈ l1, P a) ∧ l1.length ≤ w ∧ pr_A (pn_key vec aim) l1 hn1 hv1 ∧ hr_A l1 hr1 ∧ sS1 = (sA1 + (nI S).toInt64).toInt32 := by
  intro k
  induction k with
  | zero =>
    intro m1 m2 hn0 hv0 O M sS l0 rm sn hd op hr sA h3 hs hlP hlen hA hH hse
    obtain ⟨S, l1, sn1, hd1, op1, hr1, M1, hn1, hv1, O1, w1, w2, w3, w4, w5, w6, w7, w8⟩ := wp_walk (N := N) hN (w := w) hw0 hw hdist (layer := 0) (by decide) (en_wp (hG 0 (by decide))) hs hlP hlen hn0 hv0 hr rm hA hH O sn hd op
    refine ⟨S, l1, sn1, hd1, op1, hr1, nI M1, hn1, hv1, O1, sS + nI S, sA, ?_, ?_, w4, w5, w6, w7, w8, by rw [hse, en_seen]⟩
    · rw [show m1 + 0 + 2 = (m1 + 1) + 1 from rfl, f_Gr_search_38, if_neg (show ¬ nI 0 < 0 by decide), if_pos (show nI 0 ≤ 0 by decide)]
      dsimp only
      rw [w1, Option.bind_some, f_Gr_search_38, if_pos (show nI 0 + (-1) < 0 by decide)]
      rfl
    · rw [f_Mo_search_42, if_pos (show nI 0 ≤ 0 by decide), show f_Mo_walk N vec R D aim sn hd op hr (nI l0.length) 0 (nI w) = _ from w2, Option.bind_some]
  | succ k ih =>
    intro m1 m2 hn0 hv0 O M sS l0 rm sn hd op hr sA h3 hs hlP hlen hA hH hse
    obtain ⟨S, l1, sn1, hd1, op1, hr1, M1, hn1, hv1, O1, w1, w2, w3, w4, w5, w6, w7, w8⟩ := wp_walk (N := N) hN (w := 1) (by decide) (by decide) hdist (layer := k + 1) (by omega) (en_wp (hG (k + 1) (by omega))) hs hlP hlen hn0 hv0 hr rm hA hH O sn hd op
    obtain ⟨S2, l2, sn2, hd2, op2, hr2, M2, hn2, hv2, O2, sS2, sA2, e1, e2, e3⟩ := ih m1 m2 hn1 hv1 O1 (nI M1) (sS + nI S) l1 (nI 1) sn1 hd1 op1 hr1 (sA + (nI S).toInt64) (by omega) w4 w5 (by omega) w7 w8 (by rw [hse, en_seen])
    refine ⟨S2, l2, sn2, hd2, op2, hr2, M2, hn2, hv2, O2, sS2, sA2, ?_, ?_, e3⟩
    · rw [show m1 + (k + 1) + 2 = (m1 + k + 2) + 1 from rfl, f_Gr_search_38, if_neg (nI_pos (by omega)), if_neg (nI_nle (by omega) (by omega))]
      dsimp only
      rw [show f_Wa_walk N (hn0, hv0, nI l0.length, rm, 0) O dist D R (nI (k + 1)) 1 = _ from w1, Option.bind_some, pr_m1]
      exact e1
    · rw [show m2 + (k + 1) + 1 = (m2 + k + 1) + 1 from rfl, f_Mo_search_42, if_neg (nI_nle (by omega) (by omega)), show f_Mo_walk N vec R D aim sn hd op hr (nI l0.length) (nI (k + 1)) 1 = _ from w2, Option.bind_some, pr_m1]
      exact e2
theorem se_aim_2 {N : Nat} (asked : Nat → Int32) : ∀ (k j m : Nat) (aim : Nat → Int32), j + k = 4 → (∀ a, a < j → aim a = asked a) → ∃ aim', f_Mo_aimAsked_2 N asked (m + k + 1) aim (nI j) = some aim' ∧ ∀ a, a < 4 → aim' a = asked a := by
  intro k
  induction k with
  | zero =>
    intro j m aim hj h
    refine ⟨aim, ?_, fun a ha => h a (by omega)⟩
    rw [f_Mo_aimAsked_2, if_pos (show (4 : Int32) ≤ nI j from nI_le (a := 4) (by omega) (by omega))]
  | succ k ih =>
    intro j m aim hj h
    rw [show m + (k + 1) + 1 = (m + k + 1) + 1 from rfl, f_Mo_aimAsked_2, if_neg (show ¬ (4 : Int32) ≤ nI j from nI_ge (b := 4) (by omega) (by omega)), pb_at (show j < 4 by omega) (by decide), pb_at (show j < 4 by omega) (by decide), pd_cl (show j < 2147483648 by omega), nI_1]
    refine ih (j + 1) m _ (by omega) (fun a ha => ?_)
    by_cases e : a = j
    · subst e; rw [pk_us]
    · rw [pk_un e]; exact h a (by omega)
theorem se_aim {N : Nat} (hN : 64 ≤ N) (aim asked : Nat → Int32) : ∃ aim', f_Mo_aimAsked N aim asked = some aim' ∧ ∀ a, a < 4 → aim' a = asked a := by
  have := se_aim_2 (N := N) asked 4 0 (N - 5) aim (by omega) (fun a ha => absurd ha (Nat.not_lt_zero _))
  rw [show N - 5 + 4 + 1 = N by omega] at this
  exact this
theorem se_ok {N : Nat} (hN : 64 ≤ N) {V : Nat → Nat → Int32} {vec : Nat → Int32} (hV : ch_V V vec) {ord lev D R isN ent : Nat → Int32} {sz entry entryM : Int32} (hE : en_R ord lev D R isN ent sz entry entryM) (que isL asked : Nat → Int32) (Wa : T_Wa) (sS : Int32) (sA : Int64) (hse : sS = sA.toInt32) {w : Nat} (hw0 : 0 < w) (hw : w ≤ 30) (aim sn hd op hr : Nat → Int32) :
    ∃ l hn0 hv0 rm O1 dist1 M1 sS' aim' sn' hd' op' hr' sA', f_Gr_search N (ord, lev, D, R, que, sz) Wa entry sS V asked (nI w) = some (((hn0, hv0, nI l.length, rm, 0), O1, dist1, M1), sS') ∧ f_Mo_search N isL vec lev R D entryM aim asked sn hd op hr sA (nI w) = some (aim', sn', hd', op', hr', nI (l.filter (lv_f isL)).length, sA') ∧ so_ok (pn_lt (pn_key vec aim')) l ∧ (∀ a ∈ l, a < 30) ∧ l.length ≤ w ∧ pr_A (pn_key vec aim') l hn0 hv0 ∧ hr_A (l.filter (lv_f isL)) hr' ∧ (∀ j, j < 4 → aim' j = asked j) ∧ sS' = sA'.toInt32 := by
  obtain ⟨q1, q2, q3, q4, q5⟩ := hE
  obtain ⟨aim1, a1, a2⟩ := se_aim hN aim asked
  rcases q5 with ⟨p1, p2, p3⟩ | ⟨e, p1, p2, p3, p4⟩
  · refine ⟨[], Wa.1.1, Wa.1.2.1, 0, Wa.2.1, Wa.2.2.1, Wa.2.2.2, sS, aim1, sn, hd, op, hr, sA, ?_, ?_, List.Pairwise.nil, fun a ha => absurd ha List.not_mem_nil, Nat.zero_le _, fun i hi => absurd hi (Nat.not_lt_zero _), fun i hi => absurd hi (Nat.not_lt_zero _), a2, hse⟩
    · unfold f_Gr_search f_Wa_standNowhere f_Wa_held
      rw [if_pos p1, show f_Rk_start N 0 0 = some (0, nI 0, 0) from (pl_start N (r := 0) (by decide)).1]
      rfl
    · unfold f_Mo_search
      rw [a1, Option.bind_some, p2, if_neg (show ¬ (0 : Int32) ≤ -1 by decide)]
      rfl
  · obtain ⟨lt, t1, t2⟩ := q3 e p1
    obtain ⟨hn1, hv1, dist1, s1, s2, s3⟩ := en_stand (N := N) (vec := vec) (aim := aim1) (v := asked) hN hV a2 p1 Wa.1 Wa.2.2.1
    have hH : hr_A [e] (upd hr 0 (nI e)) := fun i hi => by
      have : i = 0 := by simpa using hi
      subst this
      rw [pk_us]
      rfl
    obtain ⟨S, l1, sn1, hd1, op1, hr1, M1, hn2, hv2, O2, sS1, sA1, e1, e2, e3, e4, e5, e6, e7, e8⟩ := se_38 (N := N) (w := w) hN hw0 hw q4 s3 ord lev que isL sz lt (N - lt - 2) (N - lt - 1) hn1 hv1 Wa.2.1 Wa.2.2.2 sS [e] (nI 1) sn hd op (upd hr 0 (nI e)) sA t1 (List.pairwise_singleton _ _) (fun a ha => by rw [List.mem_singleton.mp ha]; exact ⟨p1, p2⟩) (by simp) s2 hH hse
    rw [show N - lt - 2 + lt + 2 = N by omega] at e1
    rw [show N - lt - 1 + lt + 1 = N by omega] at e2
    obtain ⟨hr2, f1, f2⟩ := se_96 (N := N) (isL := isL) (fun a ha => (e4 a ha).1) (by omega) aim1 sn1 hd1 op1 hr1 (nI S) sA1 l1.length 0 (N - l1.length - 1) hr1 [] (by omega) rfl (fun i hi => absurd hi (Nat.not_lt_zero _)) (fun j _ hj => e7 j hj)
    rw [show N - l1.length - 1 + l1.length + 1 = N by omega] at f1
    refine ⟨l1, hn2, hv2, nI w, O2, dist1, M1, sS1, aim1, sn1, hd1, op1, hr2, sA1 + (nI S).toInt64, ?_, ?_, e3, fun a ha => (e4 a ha).1, e5, e6, f2, a2, e8⟩
    · unfold f_Gr_search f_Gr_top f_Li_level
      dsimp only
      rw [p3, if_neg (en_ne2 p1), s1, Option.bind_some, if_neg (en_ne2 p1), pb_at p1 (by decide), pd_cl (show e < 2147483648 by omega), t2, Option.bind_some, Option.bind_some]
      exact e1
    · unfold f_Mo_search
      rw [a1, Option.bind_some, p4, if_pos (nI_pos' (by omega)), pz_at0, pb_at p1 (by decide), pd_cl (show e < 2147483648 by omega), t2]
      refine Eq.trans ?_ (e2.trans f1)
      rfl
