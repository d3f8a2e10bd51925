/-! PURE: the best, by places -/
def sc_lt (key : Nat → Int32) (a b : Nat) : Bool := decide (key b < key a ∨ key a = key b ∧ a < b)
theorem sc_T (key : Nat → Int32) : so_T (sc_lt key) := by
  refine ⟨fun a => ?_, fun a b c h1 h2 => ?_, fun a b h => ?_⟩
  · unfold sc_lt
    rw [decide_eq_false_iff_not]
    rintro (h | ⟨-, h⟩)
    · exact absurd h (by rw [Int32.lt_iff_toInt_lt]; omega)
    · omega
  · unfold sc_lt at h1 h2 ⊢
    rw [decide_eq_true_iff] at h1 h2 ⊢
    rw [Int32.lt_iff_toInt_lt, ← Int32.toInt_inj] at h1 h2 ⊢
    omega
  · unfold sc_lt
    rw [decide_eq_true_iff, decide_eq_true_iff, Int32.lt_iff_toInt_lt, Int32.lt_iff_toInt_lt, ← Int32.toInt_inj, ← Int32.toInt_inj]
    omega
theorem sc_hp (N : Nat) (key : Nat → Int32) : ∀ a b, a < 30 → b < 30 → f_Rk_precedes N 1 (nI a) (key a) (nI b) (key b) = some (if sc_lt key a b = true then 1 else 0) := by
  intro a b ha hb
  rw [pr_prec1 N _ _ ha hb]
  unfold sc_lt
  simp only [decide_eq_true_iff]
theorem rk_idx {lt : Nat → Nat → Bool} (T : so_T lt) {P : Nat → Bool} {a : Nat} (ha : a < 30) (hP : P a = true) : (so_set lt (fun m => P m && lt m a) 30).length < (so_set lt P 30).length ∧ (so_set lt P 30).getD (so_set lt (fun m => P m && lt m a) 30).length 0 = a ∧ ∀ k, (a ∈ (so_set lt P 30).take k ↔ (so_set lt (fun m => P m && lt m a) 30).length < k) := by
  have hs : so_ok lt (so_set lt P 30) := so_set_ok T _
  have hmem : ∀ m, m ∈ so_set lt P 30 ↔ m < 30 ∧ P m = true := fun m => so_set_mem
  have hQ : ∀ m, m ∈ so_set lt (fun m => P m && lt m a) 30 ↔ m < 30 ∧ (P m && lt m a) = true := fun m => so_set_mem
  have hQs : so_ok lt (so_set lt (fun m => P m && lt m a) 30) := so_set_ok T _
  generalize so_set lt (fun m => P m && lt m a) 30 = q at *
  generalize so_set lt P 30 = s at *
  obtain ⟨i, hi, hia⟩ := List.mem_iff_getElem.mp ((hmem a).mpr ⟨ha, hP⟩)
  have e : q = s.take i := by
    refine so_uniq T hQs (List.Pairwise.sublist (List.take_sublist i s) hs) (fun m => ?_)
    rw [hQ m, Bool.and_eq_true]
    constructor
    · rintro ⟨h1, h2, h3⟩
      obtain ⟨j, hj, hjm⟩ := List.mem_iff_getElem.mp ((hmem m).mpr ⟨h1, h2⟩)
      rcases Nat.lt_trichotomy j i with g | g | g
      · rw [← hjm, List.mem_iff_getElem]
        exact ⟨j, by rw [List.length_take]; omega, by rw [List.getElem_take]⟩
      · subst g
        rw [hjm] at hia
        rw [hia, T.1] at h3
        cases h3
      · have := List.pairwise_iff_getElem.mp hs i j hi hj g
        rw [hia, hjm] at this
        exact absurd this (so_asym T h3)
    · intro h
      have h1 := (hmem m).mp (List.mem_of_mem_take h)
      obtain ⟨j, hj, hjm⟩ := List.mem_iff_getElem.mp h
      rw [List.length_take] at hj
      rw [List.getElem_take] at hjm
      refine ⟨h1.1, h1.2, ?_⟩
      rw [← hjm, ← hia]
      exact List.pairwise_iff_getElem.mp hs j i (by omega) hi (by omega)
  have hlen : q.length = i := by rw [e, List.length_take]; omega
  rw [hlen]
  refine ⟨hi, by rw [List.getD_eq_getElem?_getD, List.getElem?_eq_getElem hi, hia]; rfl, fun k => ?_⟩
  constructor
  · intro h
    obtain ⟨j, hj, hjm⟩ := List.mem_iff_getElem.mp h
    rw [List.length_take] at hj
    rw [List.getElem_take] at hjm
    rcases Nat.lt_trichotomy j i with g | g | g
    · have := List.pairwise_iff_getElem.mp hs j i (by omega) hi g
      rw [hia, hjm, T.1] at this
      cases this
    · omega
    · have := List.pairwise_iff_getElem.mp hs i j hi (by omega) g
      rw [hia, hjm, T.1] at this
      cases this
  · intro h
    rw [← hia, List.mem_iff_getElem]
    exact ⟨i, by rw [List.length_take]; omega, by rw [List.getElem_take]⟩
def be_r (sc : Nat → Int32) (n : Nat) : Nat := (so_set (sc_lt sc) (fun m => sc_lt sc m n) 30).length
theorem be_r30 (sc : Nat → Int32) (n : Nat) : be_r sc n ≤ 30 := so_set_len _
theorem be_len {lt : Nat → Nat → Bool} {P : Nat → Bool} (j : Nat) : (so_set lt P (j + 1)).length = if P j = true then (so_set lt P j).length + 1 else (so_set lt P j).length := by
  rw [so_set]
  by_cases c : P j = true
  · rw [if_pos c, if_pos c, so_len]
  · rw [if_neg c, if_neg c]
theorem be_place_4 {N : Nat} (sc : Nat → Int32) {n : Nat} (hn : n < 30) : ∀ (k j m : Nat), j + k = 30 → f_Mo_placeOf_4 N sc (nI n) (m + k + 1) (nI (so_set (sc_lt sc) (fun m => sc_lt sc m n) j).length) (nI j) = some (nI (be_r sc n)) := by
  intro k
  induction k with
  | zero =>
    intro j m hj
    have : j = 30 := by omega
    subst this
    rw [f_Mo_placeOf_4, if_pos (by decide)]
    rfl
  | succ k ih =>
    intro j m hj
    have hj30 : j < 30 := by omega
    have hi := ih (j + 1) m (by omega)
    rw [be_len] at hi
    have e : (sc_lt sc j n = true) = (sc n < sc j ∨ sc j = sc n ∧ j < n) := by unfold sc_lt; rw [decide_eq_true_iff]
    rw [show m + (k + 1) + 1 = (m + k + 1) + 1 from rfl, f_Mo_placeOf_4, if_neg (show ¬ (30 : Int32) ≤ nI j from nI_ge (b := 30) (by omega) (by omega)), pb_at hj30 (by decide), pb_at hn (by decide), pb_at hj30 (by decide), pb_at hn (by decide), pd_cl (show j < 2147483648 by omega), pd_cl (show n < 2147483648 by omega), nI_1, nI_1]
    by_cases c1 : sc n < sc j
    · rw [if_pos c1]
      rw [if_pos (by rw [e]; exact Or.inl c1)] at hi
      exact hi
    · rw [if_neg c1]
      by_cases c2 : sc j = sc n
      · rw [if_pos c2]
        by_cases c3 : j < n
        · rw [if_neg (nI_ge c3 (by omega))]
          rw [if_pos (by rw [e]; exact Or.inr ⟨c2, c3⟩)] at hi
          exact hi
        · rw [if_pos (nI_le (show n ≤ j by omega) (by omega))]
          rw [if_neg (by rw [e]; exact fun q => q.elim c1 (fun q => c3 q.2))] at hi
          exact hi
      · rw [if_neg c2]
        rw [if_neg (by rw [e]; exact fun q => q.elim c1 (fun q => c2 q.1))] at hi
        exact hi
theorem be_place {N : Nat} (hN : 64 ≤ N) (sc : Nat → Int32) {n : Nat} (hn : n < 30) : f_Mo_placeOf N sc (nI n) = some (nI (be_r sc n)) := by
  have := be_place_4 (N := N) sc hn 30 0 (N - 31) (by omega)
  rw [show N - 31 + 30 + 1 = N by omega] at this
  exact this
/-- places of those that have a score -/
theorem be_idx {sc : Nat → Int32} (hv : ∀ n, n < 30 → ∃ v, v ≤ 100000 ∧ sc n = nI v) {n : Nat} (hn : n < 30) (h0 : sc n ≠ 0) : be_r sc n < (so_set (sc_lt sc) (pn_P sc) 30).length ∧ (so_set (sc_lt sc) (pn_P sc) 30).getD (be_r sc n) 0 = n ∧ ∀ k, (n ∈ (so_set (sc_lt sc) (pn_P sc) 30).take k ↔ be_r sc n < k) := by
  have e : so_set (sc_lt sc) (fun m => sc_lt sc m n) 30 = so_set (sc_lt sc) (fun m => pn_P sc m && sc_lt sc m n) 30 := by
    refine ne_setE 30 (fun m hm => ?_)
    by_cases c : sc_lt sc m n = true
    · rw [c, Bool.and_true]
      unfold pn_P
      refine (decide_eq_true ?_).symm
      intro q
      unfold sc_lt at c
      rw [decide_eq_true_iff, q] at c
      obtain ⟨v, v1, v2⟩ := hv n hn
      rw [v2] at c h0
      rcases c with c | c
      · exact nI_pos (by omega) c
      · exact h0 c.1.symm
    · rw [Bool.not_eq_true] at c
      rw [c, Bool.and_false]
  unfold be_r
  rw [e]
  exact rk_idx (sc_T sc) hn (by unfold pn_P; exact decide_eq_true h0)
theorem be_7 {N : Nat} (hN : 64 ≤ N) {sc : Nat → Int32} (hv : ∀ n, n < 30 → ∃ v, v ≤ 100000 ∧ sc n = nI v) {kk : Nat} (hkk : kk ≤ 30) : ∀ (k j m : Nat) (num wor : Nat → Int32), j + k = 30 → (∀ i, i < ((so_set (sc_lt sc) (pn_P sc) 30).take kk).length → (so_set (sc_lt sc) (pn_P sc) 30).getD i 0 < j → num i = nI ((so_set (sc_lt sc) (pn_P sc) 30).getD i 0) ∧ wor i = sc ((so_set (sc_lt sc) (pn_P sc) 30).getD i 0)) →
    ∃ num' wor', f_Mo_best_7 N sc (nI kk) (m + k + 1) num wor (nI (so_set (sc_lt sc) (fun a => decide (a ∈ (so_set (sc_lt sc) (pn_P sc) 30).take kk)) j).length) (nI j) = some (nI ((so_set (sc_lt sc) (pn_P sc) 30).take kk).length, num', wor', nI ((so_set (sc_lt sc) (pn_P sc) 30).take kk).length) ∧ pr_A sc ((so_set (sc_lt sc) (pn_P sc) 30).take kk) num' wor' := by
  have T := sc_T sc
  have hs : so_ok (sc_lt sc) (so_set (sc_lt sc) (pn_P sc) 30) := so_set_ok T _
  have hidx := fun n hn h0 => be_idx hv (n := n) hn h0
  have hmem : ∀ m, m ∈ so_set (sc_lt sc) (pn_P sc) 30 → m < 30 ∧ sc m ≠ 0 := fun m hm => ⟨(so_set_mem.mp hm).1, (pw_set_mem (so_set_mem.mp hm).1).mp hm⟩
  generalize so_set (sc_lt sc) (pn_P sc) 30 = s at *
  have hlast : so_set (sc_lt sc) (fun a => decide (a ∈ s.take kk)) 30 = s.take kk := so_uniq T (so_set_ok T _) (List.Pairwise.sublist (List.take_sublist kk s) hs) (fun a => by
    rw [so_set_mem, decide_eq_true_iff]
    exact ⟨fun q => q.2, fun q => ⟨(hmem a (List.mem_of_mem_take q)).1, q⟩⟩)
  have hgd : ∀ i, i < (s.take kk).length → (s.take kk).getD i 0 = s.getD i 0 := fun i hi => by
    rw [List.length_take] at hi
    rw [List.getD_eq_getElem?_getD, List.getElem?_take_of_lt (by omega), ← List.getD_eq_getElem?_getD]
  intro k
  induction k with
  | zero =>
    intro j m num wor hj h
    have : j = 30 := by omega
    subst this
    refine ⟨num, wor, ?_, fun i hi => ?_⟩
    · rw [f_Mo_best_7, if_pos (by decide), hlast]
    · rw [hgd i hi]
      refine h i hi ?_
      rw [← hgd i hi]
      exact (hmem _ (List.mem_of_mem_take (wp_getD hi))).1
  | succ k ih =>
    intro j m num wor hj h
    have hj30 : j < 30 := by omega
    have hst := be_len (lt := sc_lt sc) (P := fun a => decide (a ∈ s.take kk)) j
    rw [show m + (k + 1) + 1 = (m + k + 1) + 1 from rfl, f_Mo_best_7, if_neg (show ¬ (30 : Int32) ≤ nI j from nI_ge (b := 30) (by omega) (by omega)), be_place hN sc hj30, Option.bind_some, pb_at hj30 (by decide), pd_cl (show j < 2147483648 by omega)]
    have hr30 := be_r30 sc j
    have skip : j ∉ s.take kk → ∃ num' wor', f_Mo_best_7 N sc (nI kk) (m + k + 1) num wor (nI (so_set (sc_lt sc) (fun a => decide (a ∈ s.take kk)) j).length) (nI j + 1) = some (nI (s.take kk).length, num', wor', nI (s.take kk).length) ∧ pr_A sc (s.take kk) num' wor' := by
      intro hnm
      rw [if_neg (by rw [decide_eq_true_iff]; exact hnm)] at hst
      rw [nI_1, ← hst]
      refine ih (j + 1) m num wor (by omega) (fun i hi hlt => h i hi ?_)
      have : s.getD i 0 ≠ j := fun q => hnm (by rw [← q, ← hgd i hi]; exact wp_getD hi)
      omega
    by_cases c : sc j = 0
    · rw [if_pos c]
      exact skip (fun q => (hmem j (List.mem_of_mem_take q)).2 c)
    · rw [if_neg c]
      obtain ⟨i1, i2, i3⟩ := hidx j hj30 c
      by_cases d : be_r sc j < kk
      · rw [if_pos (nI_lt d (by omega)), pb_at (show be_r sc j < 30 by omega) (by decide), pb_at hj30 (by decide), pb_at (show be_r sc j < 30 by omega) (by decide), pd_cl (show be_r sc j < 2147483648 by omega), nI_1, nI_1]
        rw [if_pos (by rw [decide_eq_true_iff]; exact (i3 kk).mpr d)] at hst
        rw [← hst]
        refine ih (j + 1) m _ _ (by omega) (fun i hi hlt => ?_)
        by_cases e : i = be_r sc j
        · rw [e, pk_us, pk_us, i2]
          exact ⟨rfl, rfl⟩
        · rw [pk_un e, pk_un e]
          refine h i hi ?_
          have : s.getD i 0 ≠ j := fun q => e (by
            have hil : i < s.length := by rw [List.length_take] at hi; omega
            have g1 : s.getD i 0 = s[i] := by rw [List.getD_eq_getElem?_getD, List.getElem?_eq_getElem hil]; rfl
            have g2 : s.getD (be_r sc j) 0 = s[be_r sc j] := by rw [List.getD_eq_getElem?_getD, List.getElem?_eq_getElem i1]; rfl
            rw [g1] at q
            rw [g2] at i2
            rcases Nat.lt_trichotomy i (be_r sc j) with g | g | g
            · have := List.pairwise_iff_getElem.mp hs i (be_r sc j) hil i1 g
              rw [q, i2, T.1] at this
              cases this
            · exact g
            · have := List.pairwise_iff_getElem.mp hs (be_r sc j) i i1 hil g
              rw [q, i2, T.1] at this
              cases this)
          omega
      · rw [if_neg (nI_nlt (show kk ≤ be_r sc j by omega) (by omega))]
        exact skip (fun q => d ((i3 kk).mp q))
theorem be_best {N : Nat} (hN : 64 ≤ N) {sc : Nat → Int32} (hv : ∀ n, n < 30 → ∃ v, v ≤ 100000 ∧ sc n = nI v) {kk : Nat} (hkk : kk ≤ 30) (num wor : Nat → Int32) : ∃ num' wor', f_Mo_best N num wor sc (nI kk) = some (nI ((so_set (sc_lt sc) (pn_P sc) 30).take kk).length, num', wor', nI ((so_set (sc_lt sc) (pn_P sc) 30).take kk).length) ∧ pr_A sc ((so_set (sc_lt sc) (pn_P sc) 30).take kk) num' wor' := by
  have := be_7 hN hv hkk 30 0 (N - 31) num wor (by omega) (fun i hi hlt => absurd hlt (Nat.not_lt_zero _))
  rw [show N - 31 + 30 + 1 = N by omega] at this
  exact this
