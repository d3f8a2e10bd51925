/-! PURE: to choose -/
theorem ch_sum {F G : Nat → Int32} : ∀ n : Nat, (∀ j, j < n → F j = G j) → pd_sum F n = pd_sum G n
  | 0, _ => rfl
  | n + 1, h => by rw [pd_sum, pd_sum, ch_sum n (fun j hj => h j (Nat.lt_succ_of_lt hj)), h n (Nat.lt_succ_self n)]
def ch_bt (vec : Nat → Int32) (a b : Nat) : Int32 := pd_sum (pd_F (fun j => vec (4 * a + j)) (fun j => vec (4 * b + j))) 4
def ch_V (V : Nat → Nat → Int32) (vec : Nat → Int32) : Prop := ∀ n, n < 30 → ∀ j, j < 4 → V n j = vec (4 * n + j)
theorem ch_dist {N : Nat} (hN : 5 ≤ N) {V : Nat → Nat → Int32} {vec : Nat → Int32} (hV : ch_V V vec) {a b : Nat} (ha : a < 30) (hb : b < 30) : f_Nd_distance N (V a) (V b) = some (ch_bt vec a b) := by
  rw [pd_distance hN]
  unfold ch_bt
  rw [ch_sum 4 (fun j hj => by unfold pd_F; rw [hV a ha j hj, hV b hb j hj])]
  rfl
theorem ch_between_5 (N : Nat) (vec : Nat → Int32) (a b : Nat) (ha : a < 30) (hb : b < 30) : ∀ (k j m : Nat), j + k = 4 → f_Mo_between_5 N vec (nI a) (nI b) (m + k + 1) (pd_sum (pd_F (fun j => vec (4 * a + j)) (fun j => vec (4 * b + j))) j) (nI j) = some (ch_bt vec a b) := by
  intro k
  induction k with
  | zero =>
    intro j m h
    have hj : j = 4 := by omega
    subst hj
    rw [f_Mo_between_5, if_pos (by decide)]
    rfl
  | succ k ih =>
    intro j m h
    rw [show m + (k + 1) + 1 = (m + k + 1) + 1 from rfl, f_Mo_between_5, if_neg (show ¬ (4 : Int32) ≤ nI j from nI_ge (show j < 4 by omega) (by decide)), pd_4, pd_4, pb_at (show 4 * a + j < 120 by omega) (by decide), pb_at (show 4 * b + j < 120 by omega) (by decide), pb_at (show 4 * a + j < 120 by omega) (by decide), pb_at (show 4 * b + j < 120 by omega) (by decide), pd_cl (show 4 * a + j < 2147483648 by omega), pd_cl (show 4 * b + j < 2147483648 by omega), nI_1]
    exact ih (j + 1) m (by omega)
theorem ch_between {N : Nat} (hN : 5 ≤ N) (vec : Nat → Int32) {a b : Nat} (ha : a < 30) (hb : b < 30) : f_Mo_between N vec (nI a) (nI b) = some (ch_bt vec a b) := by
  obtain ⟨m, rfl⟩ : ∃ m, N = m + 4 + 1 := ⟨N - 5, by omega⟩
  unfold f_Mo_between
  exact ch_between_5 _ vec a b ha hb 4 0 m rfl
theorem ch_far {N : Nat} (hN : 5 ≤ N) (vec aim : Nat → Int32) {n : Nat} (hn : n < 30) : f_Mo_far N vec aim (nI n) = some (pn_key vec aim n) := pd_far hN vec aim hn
theorem ch_dr {c r : List Nat} {i n : Nat} (h : c.drop i = n :: r) : i < c.length ∧ c.getD i 0 = n ∧ c.drop (i + 1) = r ∧ n ∈ c := by
  have hi : i < c.length := by
    rcases Nat.lt_or_ge i c.length with q | q
    · exact q
    · rw [List.drop_eq_nil_of_le q] at h; cases h
  rw [List.drop_eq_getElem_cons hi] at h
  injection h with h1 h2
  exact ⟨hi, by rw [List.getD_eq_getElem?_getD, List.getElem?_eq_getElem hi, ← h1]; rfl, h2, by rw [← h1]; exact List.getElem_mem _⟩
theorem ch_nil {c : List Nat} {i : Nat} (h : c.drop i = []) : c.length ≤ i := List.drop_eq_nil_iff.mp h
def ch_g (key : Nat → Int32) (bt : Nat → Nat → Int32) (n : Nat) (p : List Nat) : Bool := p.all (fun q => decide (key n < bt n q))
def ch_1 (key : Nat → Int32) (bt : Nat → Nat → Int32) (m : Nat) : List Nat → List Nat → List Nat
  | [], p => p
  | n :: c, p => ch_1 key bt m c (if p.length < m ∧ ch_g key bt n p = true then p ++ [n] else p)
def ch_2 (m : Nat) : List Nat → List Nat → List Nat
  | [], p => p
  | n :: c, p => ch_2 m c (if p.length < m ∧ n ∉ p then p ++ [n] else p)
theorem ch_1_full {key : Nat → Int32} {bt : Nat → Nat → Int32} {m : Nat} : ∀ {c p : List Nat}, m ≤ p.length → ch_1 key bt m c p = p
  | [], _, _ => rfl
  | n :: c, p, h => by
    rw [ch_1, if_neg (fun q => by omega)]
    exact ch_1_full h
theorem ch_2_full {m : Nat} : ∀ {c p : List Nat}, m ≤ p.length → ch_2 m c p = p
  | [], _, _ => rfl
  | n :: c, p, h => by
    rw [ch_2, if_neg (fun q => by omega)]
    exact ch_2_full h
theorem ch_2_eq {m : Nat} : ∀ {c p : List Nat}, c.Nodup → ch_2 m c p = p ++ (c.filter (fun a => decide (a ∉ p))).take (m - p.length)
  | [], p, _ => by simp [ch_2]
  | n :: c, p, h => by
    have h1 := List.nodup_cons.mp h
    rw [ch_2]
    by_cases c1 : p.length < m
    · by_cases c2 : n ∈ p
      · rw [if_neg (fun q => q.2 c2), ch_2_eq h1.2, List.filter_cons, if_neg (by rw [decide_eq_true_iff]; exact fun q => q c2)]
      · rw [if_pos ⟨c1, c2⟩, ch_2_eq h1.2, List.filter_cons, if_pos (by rw [decide_eq_true_iff]; exact c2), List.length_append, List.length_singleton]
        have e : c.filter (fun a => decide (a ∉ p ++ [n])) = c.filter (fun a => decide (a ∉ p)) := by
          refine List.filter_congr (fun a ha => ?_)
          have : a ≠ n := fun q => h1.1 (by rw [← q]; exact ha)
          simp [this]
        rw [e]
        obtain ⟨d, hd⟩ : ∃ d, m - p.length = d + 1 := ⟨m - p.length - 1, by omega⟩
        rw [hd, List.take_succ_cons, show m - (p.length + 1) = d by omega, List.append_assoc]
        rfl
    · rw [if_neg (fun q => c1 q.1), ch_2_full (by omega), show m - p.length = 0 by omega, List.take_zero, List.append_nil]
theorem ch_1_pr {key : Nat → Int32} {bt : Nat → Nat → Int32} {m : Nat} : ∀ {c p : List Nat}, (p ++ c).Nodup → p.length ≤ m → (ch_1 key bt m c p).Nodup ∧ (ch_1 key bt m c p).length ≤ m ∧ ∀ a ∈ ch_1 key bt m c p, a ∈ p ++ c
  | [], p, h, hl => by
    rw [List.append_nil] at *
    exact ⟨h, hl, fun a ha => ha⟩
  | n :: c, p, h, hl => by
    rw [ch_1]
    by_cases q : p.length < m ∧ ch_g key bt n p = true
    · rw [if_pos q]
      have := ch_1_pr (key := key) (bt := bt) (m := m) (c := c) (p := p ++ [n]) (by rw [List.append_assoc]; exact h) (by rw [List.length_append, List.length_singleton]; omega)
      rw [List.append_assoc] at this
      exact this
    · rw [if_neg q]
      have hsub : (p ++ c).Sublist (p ++ n :: c) := List.Sublist.append_left (List.sublist_cons_self n c) p
      have := ch_1_pr (key := key) (bt := bt) (m := m) (c := c) (p := p) (h.sublist hsub) hl
      exact ⟨this.1, this.2.1, fun a ha => hsub.subset (this.2.2 a ha)⟩
theorem ch_cat {l : List Nat} {n : Nat} {row : Nat → Int32} (h : hr_A l row) : hr_A (l ++ [n]) (upd row l.length (nI n)) := by
  intro i hi
  rw [List.length_append, List.length_singleton] at hi
  by_cases e : i = l.length
  · subst e
    rw [pk_us, List.getD_eq_getElem?_getD, List.getElem?_append_right (Nat.le_refl _), Nat.sub_self]
    rfl
  · rw [pk_un e, h i (by omega), List.getD_eq_getElem?_getD, List.getD_eq_getElem?_getD, List.getElem?_append_left (by omega)]
theorem ch_near {N : Nat} (hN : 5 ≤ N) {V : Nat → Nat → Int32} {vec : Nat → Int32} (hV : ch_V V vec) {key : Nat → Int32} {n : Nat} (hn : n < 30) {p : List Nat} (hp : ∀ a ∈ p, a < 30) (hp30 : p.length ≤ 30) {row : Nat → Int32} (hA : hr_A p row) : ∀ (r : List Nat) (i m : Nat), i ≤ p.length → p.drop i = r → f_Ch_isNearestToVector_3 N row (nI p.length) V (nI n) (key n) (m + r.length + 1) (nI i) = some (if ch_g key (ch_bt vec) n r = true then 1 else 0) := by
  intro r
  induction r with
  | nil =>
    intro i m hi h
    have := ch_nil h
    rw [f_Ch_isNearestToVector_3, if_pos (nI_le this (by omega))]
    rfl
  | cons q r ih =>
    intro i m hi h
    obtain ⟨h1, h2, h3, h4⟩ := ch_dr h
    have hq := hp q h4
    unfold ch_g
    rw [List.length_cons, show m + (r.length + 1) + 1 = (m + r.length + 1) + 1 from rfl, f_Ch_isNearestToVector_3, if_neg (nI_ge h1 (by omega))]
    unfold f_Do_vector
    rw [pb_at hn (by decide), Option.bind_some, pb_at (show i < 30 by omega) (by decide), pd_cl (show i < 2147483648 by omega), hA i h1, h2, pb_at hq (by decide), Option.bind_some, pd_cl (show n < 2147483648 by omega), pd_cl (show q < 2147483648 by omega), ch_dist hN hV hn hq, Option.bind_some, nI_1, ih (i + 1) m h1 h3]
    unfold ch_g
    rw [List.all_cons]
    by_cases c : key n < ch_bt vec n q
    · rw [if_pos c, decide_eq_true c, Bool.true_and]
    · rw [if_neg c, decide_eq_false c, Bool.false_and]
      rfl
/-- the class -/
theorem ch_c69 {N : Nat} {c : List Nat} (hc : ∀ a ∈ c, a < 30) (hc30 : c.length ≤ 30) {nums : Nat → Int32} (hA : hr_A c nums) {m : Nat} (hm : m ≤ 6) : ∀ (r : List Nat) (i m1 : Nat) (p : List Nat) (row : Nat → Int32) (M : Nat), i ≤ c.length → c.drop i = r → p.length ≤ m → (∀ a ∈ p, a < 30) → hr_A p row → M < 2 ^ 30 → (∀ a, M.testBit a = true ↔ a ∈ p) →
    ∃ row' M', f_Ch_choose_69 N nums (nI c.length) (nI m) (m1 + r.length + 1) row (nI p.length) (nI M) (nI i) = some (row', nI (ch_2 m r p).length, nI M') ∧ hr_A (ch_2 m r p) row' := by
  intro r
  induction r with
  | nil =>
    intro i m1 p row M hi h h1 h2 h3 h4 h5
    have := ch_nil h
    refine ⟨row, M, ?_, h3⟩
    rw [f_Ch_choose_69]
    unfold f_Rk_size
    rw [Option.bind_some, if_pos (nI_le this (by omega))]
    rfl
  | cons n r ih =>
    intro i m1 p row M hi h h1 h2 h3 h4 h5
    obtain ⟨d1, d2, d3, d4⟩ := ch_dr h
    have hn := hc n d4
    rw [List.length_cons, show m1 + (r.length + 1) + 1 = (m1 + r.length + 1) + 1 from rfl, f_Ch_choose_69]
    unfold f_Rk_size f_Rk_numberAt
    rw [Option.bind_some, if_neg (nI_ge d1 (by omega)), ch_2]
    by_cases c1 : p.length < m
    · rw [if_neg (nI_ge c1 (by omega)), pb_at (show i < 30 by omega) (by decide), pd_cl (show i < 2147483648 by omega), hA i d1, d2, Option.bind_some, pm_isIn N h4 hn, Option.bind_some]
      by_cases c2 : n ∈ p
      · simp only [if_pos ((h5 n).mpr c2)]
        rw [if_neg pz_10, if_neg (fun q => q.2 c2), nI_1]
        exact ih (i + 1) m1 p row M d1 d3 h1 h2 h3 h4 h5
      · simp only [if_neg (fun q => c2 ((h5 n).mp q))]
        rw [if_pos trivial, if_pos ⟨c1, c2⟩]
        unfold f_Ch_take
        rw [pb_at (show p.length < 30 by omega) (by decide), Option.bind_some, pd_cl (show p.length < 2147483648 by omega), pm_set hn, nI_1, nI_1]
        have e : p.length + 1 = (p ++ [n]).length := by rw [List.length_append, List.length_singleton]
        rw [e]
        refine ih (i + 1) m1 (p ++ [n]) _ (M ||| 2 ^ n) d1 d3 (by omega) (fun a ha => ?_) (ch_cat h3) (pm_set_lt h4 hn) (fun a => ?_)
        · rcases List.mem_append.mp ha with q | q
          · exact h2 a q
          · rw [List.mem_singleton.mp q]; exact hn
        · rw [pm_set_bit, List.mem_append, List.mem_singleton, ← h5 a, Bool.or_eq_true, decide_eq_true_iff, eq_comm (a := a)]
    · rw [if_pos (nI_le (show m ≤ p.length by omega) (by omega)), if_neg (fun q => c1 q.1), ch_2_full (by omega)]
      exact ⟨row, M, rfl, h3⟩
theorem ch_c13 {N : Nat} (hN : 64 ≤ N) {V : Nat → Nat → Int32} {vec : Nat → Int32} (hV : ch_V V vec) {key : Nat → Int32} {c : List Nat} (hc : ∀ a ∈ c, a < 30) (hc30 : c.length ≤ 30) {nums vals : Nat → Int32} (hA : pr_A key c nums vals) {m : Nat} (hm : m ≤ 6) : ∀ (r : List Nat) (i m1 : Nat) (p : List Nat) (row : Nat → Int32) (M : Nat), i ≤ c.length → c.drop i = r → p.length ≤ m → (∀ a ∈ p, a < 30) → hr_A p row → M < 2 ^ 30 → (∀ a, M.testBit a = true ↔ a ∈ p) →
    ∃ row' M', f_Ch_choose_13 N V nums vals (nI c.length) (nI m) (m1 + r.length + 1) row (nI p.length) (nI M) (nI i) = f_Ch_choose_69 N nums (nI c.length) (nI m) N row' (nI (ch_1 key (ch_bt vec) m r p).length) (nI M') 0 ∧ hr_A (ch_1 key (ch_bt vec) m r p) row' ∧ (∀ a ∈ ch_1 key (ch_bt vec) m r p, a < 30) ∧ M' < 2 ^ 30 ∧ (∀ a, M'.testBit a = true ↔ a ∈ ch_1 key (ch_bt vec) m r p) := by
  intro r
  induction r with
  | nil =>
    intro i m1 p row M hi h h1 h2 h3 h4 h5
    have := ch_nil h
    refine ⟨row, M, ?_, h3, h2, h4, h5⟩
    rw [f_Ch_choose_13]
    unfold f_Rk_size
    rw [Option.bind_some, if_pos (nI_le this (by omega))]
    rfl
  | cons n r ih =>
    intro i m1 p row M hi h h1 h2 h3 h4 h5
    obtain ⟨d1, d2, d3, d4⟩ := ch_dr h
    have hn := hc n d4
    rw [List.length_cons, show m1 + (r.length + 1) + 1 = (m1 + r.length + 1) + 1 from rfl, f_Ch_choose_13]
    unfold f_Rk_size f_Rk_numberAt f_Rk_valueAt
    rw [Option.bind_some, if_neg (nI_ge d1 (by omega)), ch_1]
    by_cases c1 : p.length < m
    · have hnr := ch_near (N := N) (by omega) hV (key := key) hn h2 (by omega) h3 p 0 (N - p.length - 1) (by omega) rfl
      rw [show N - p.length - 1 + p.length + 1 = N by omega, nI_0] at hnr
      rw [if_neg (nI_ge c1 (by omega)), pb_at (show i < 30 by omega) (by decide), pd_cl (show i < 2147483648 by omega), (hA i d1).1, (hA i d1).2, d2, Option.bind_some, pb_at (show i < 30 by omega) (by decide), Option.bind_some]
      unfold f_Ch_isNearestToVector
      rw [hnr, Option.bind_some]
      by_cases c2 : ch_g key (ch_bt vec) n p = true
      · simp only [if_pos c2]
        rw [if_neg pz_10, if_pos ⟨c1, c2⟩]
        unfold f_Ch_take
        rw [pb_at (show p.length < 30 by omega) (by decide), Option.bind_some, pd_cl (show p.length < 2147483648 by omega), pm_set hn, nI_1, nI_1]
        have e : p.length + 1 = (p ++ [n]).length := by rw [List.length_append, List.length_singleton]
        rw [e]
        refine ih (i + 1) m1 (p ++ [n]) _ (M ||| 2 ^ n) d1 d3 (by omega) (fun a ha => ?_) (ch_cat h3) (pm_set_lt h4 hn) (fun a => ?_)
        · rcases List.mem_append.mp ha with q | q
          · exact h2 a q
          · rw [List.mem_singleton.mp q]; exact hn
        · rw [pm_set_bit, List.mem_append, List.mem_singleton, ← h5 a, Bool.or_eq_true, decide_eq_true_iff, eq_comm (a := a)]
      · simp only [if_neg c2]
        rw [if_pos trivial, if_neg (fun q => by first | exact c2 q.2 | exact q.2), nI_1]
        exact ih (i + 1) m1 p row M d1 d3 h1 h2 h3 h4 h5
    · rw [if_pos (nI_le (show m ≤ p.length by omega) (by omega)), if_neg (fun q => c1 q.1), ch_1_full (by omega)]
      exact ⟨row, M, rfl, h3, h2, h4, h5⟩
