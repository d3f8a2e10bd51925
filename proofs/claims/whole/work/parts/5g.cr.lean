/-! PURE: to choose, the reference -/
theorem cr_105 {N : Nat} (hN : 5 ≤ N) (vec aim : Nat → Int32) {n : Nat} (hn : n < 30) {p : List Nat} (hp : ∀ a ∈ p, a < 30) (hp8 : p.length < 8) {pk : Nat → Int32} (hA : hr_A p pk) (kk : Int32 → Int32 → Option ((Nat → Int32) × (Nat → Int32) × (Nat → Int32) × Int32)) : ∀ (r : List Nat) (i m : Nat) (g : Int32), i ≤ p.length → p.drop i = r → f_Mo_choose_105 N vec aim pk (nI p.length) (nI n) kk (m + r.length + 1) g (nI i) = kk (if ch_g (pn_key vec aim) (ch_bt vec) n r = true then g else 0) (nI p.length) := by
  intro r
  induction r with
  | nil =>
    intro i m g hi h
    have := ch_nil h
    rw [f_Mo_choose_105, if_pos (nI_le this (by omega)), show i = p.length by omega]
    rfl
  | cons q r ih =>
    intro i m g hi h
    obtain ⟨h1, h2, h3, h4⟩ := ch_dr h
    have hq := hp q h4
    have e : ch_g (pn_key vec aim) (ch_bt vec) n (q :: r) = (decide (pn_key vec aim n < ch_bt vec n q) && ch_g (pn_key vec aim) (ch_bt vec) n r) := rfl
    rw [e, List.length_cons, show m + (r.length + 1) + 1 = (m + r.length + 1) + 1 from rfl, f_Mo_choose_105, if_neg (nI_ge h1 (by omega)), ch_far hN vec aim hn, Option.bind_some, pb_at (show i < 8 by omega) (by decide), pd_cl (show i < 2147483648 by omega), hA i h1, h2, ch_between hN vec hn hq, Option.bind_some, nI_1]
    by_cases c : pn_key vec aim n < ch_bt vec n q
    · rw [if_pos c, ih (i + 1) m g h1 h3, decide_eq_true c, Bool.true_and]
    · rw [if_neg c, ih (i + 1) m 0 h1 h3, decide_eq_false c, Bool.false_and]
      simp
theorem cr_pop {lt : Nat → Nat → Bool} (T : so_T lt) {op : Nat → Int32} {y : Nat} {t : List Nat} (h : so_set lt (pn_P op) 30 = y :: t) : y < 30 ∧ so_set lt (pn_P (upd op y 0)) 30 = t := by
  have hym : y ∈ so_set lt (pn_P op) 30 := by rw [h]; exact List.mem_cons_self
  have so : so_ok lt (y :: t) := by rw [← h]; exact so_set_ok T _
  have hyt : y ∉ t := fun q => by
    have := (List.pairwise_cons.mp so).1 y q
    rw [T.1] at this
    cases this
  refine ⟨(so_set_mem.mp hym).1, ?_⟩
  rw [pf_del T, h, List.filter_cons]
  simp only [bne_self_eq_false, Bool.false_eq_true, if_false]
  exact List.filter_eq_self.mpr (fun a ha => by rw [bne_iff_ne]; exact fun e => hyt (by rw [← e]; exact ha))
theorem cr_ch {p : List Nat} {ch : Nat → Int32} {n : Nat} (h : ∀ a, a < 30 → (ch a ≠ 0 ↔ a ∈ p)) : ∀ a, a < 30 → (upd ch n 1 a ≠ 0 ↔ a ∈ p ++ [n]) := by
  intro a ha
  rw [List.mem_append, List.mem_singleton]
  by_cases e : a = n
  · subst e
    rw [pk_us]
    exact ⟨fun _ => Or.inr rfl, fun _ => pz_10⟩
  · rw [pk_un e, h a ha]
    exact ⟨Or.inl, fun q => q.elim id (fun r => absurd r e)⟩
theorem cr_63 {N : Nat} (hN : 64 ≤ N) (vec aim pool : Nat → Int32) {L m : Nat} (hL : L ≤ 30) (hm : m ≤ 6) : ∀ (r : List Nat) (i m1 : Nat) (op ch pk : Nat → Int32) (p : List Nat), i + r.length = L → so_set (pn_lt (pn_key vec aim)) (pn_P op) 30 = r → p.length ≤ m → (∀ a ∈ p, a < 30) → hr_A p pk → (∀ a, a < 30 → (ch a ≠ 0 ↔ a ∈ p)) →
    ∃ op' ch' pk', f_Mo_choose_63 N vec aim pool (nI L) (nI m) (m1 + r.length + 1) op ch pk (nI p.length) (nI i) = f_Mo_choose_161 N vec aim pool (nI L) (nI m) ch' pk' (nI (ch_1 (pn_key vec aim) (ch_bt vec) m r p).length) N op' 0 ∧ hr_A (ch_1 (pn_key vec aim) (ch_bt vec) m r p) pk' ∧ (∀ a, a < 30 → (ch' a ≠ 0 ↔ a ∈ ch_1 (pn_key vec aim) (ch_bt vec) m r p)) ∧ ∀ a, a < 30 → op' a = 0 := by
  have T := pn_T (pn_key vec aim)
  intro r
  induction r with
  | nil =>
    intro i m1 op ch pk p hi hs h1 h2 h3 h4
    refine ⟨op, ch, pk, ?_, h3, h4, fun a ha => Decidable.byContradiction fun q => ?_⟩
    · rw [f_Mo_choose_63, if_pos (nI_le (by simp at hi; omega) (by omega))]
      rfl
    · have := (pw_set_mem (lt := pn_lt (pn_key vec aim)) ha).mpr q
      rw [hs] at this
      exact absurd this List.not_mem_nil
  | cons n r ih =>
    intro i m1 op ch pk p hi hs h1 h2 h3 h4
    rw [List.length_cons] at hi
    obtain ⟨hn, hs2⟩ := cr_pop T hs
    rw [List.length_cons, show m1 + (r.length + 1) + 1 = (m1 + r.length + 1) + 1 from rfl, f_Mo_choose_63, if_neg (nI_ge (by omega) (by omega)), pn_nearest_open (by omega), hs, Option.bind_some, ch_1]
    simp only [List.head?_cons, pn_o]
    rw [pb_at hn (by decide), pd_cl (show n < 2147483648 by omega), pz_n0]
    have fu : N = (N - p.length - 1) + p.length + 1 := by omega
    by_cases c1 : p.length < m
    · rw [if_neg (nI_ge c1 (by omega))]
      have q := cr_105 (N := N) (by omega) vec aim hn h2 (by omega) h3 (fun v4_21 v5_21 => (if v4_21 = 0 then (f_Mo_choose_63 N vec aim pool (nI L) (nI m) (m1 + r.length + 1) (upd op n 0) ch pk (nI p.length) (nI i + 1)) else ((f_Mo_pick N ch pk (nI p.length) (nI n)).bind fun p24 => (f_Mo_choose_63 N vec aim pool (nI L) (nI m) (m1 + r.length + 1) (upd op n 0) p24.1 p24.2.1 p24.2.2 (nI i + 1))))) p 0 (N - p.length - 1) 1 (by omega) rfl
      rw [← fu, nI_0] at q
      rw [q]
      by_cases c2 : ch_g (pn_key vec aim) (ch_bt vec) n p = true
      · simp only [if_pos c2]
        rw [if_neg pz_10, if_pos ⟨c1, c2⟩]
        unfold f_Mo_pick
        rw [pb_at (show p.length < 8 by omega) (by decide), pb_at hn (by decide), Option.bind_some, pd_cl (show p.length < 2147483648 by omega), pd_cl (show n < 2147483648 by omega), pz_n1, nI_1, nI_1]
        have e : p.length + 1 = (p ++ [n]).length := by rw [List.length_append, List.length_singleton]
        rw [e]
        exact ih (i + 1) m1 (upd op n 0) _ _ (p ++ [n]) (by omega) hs2 (by omega) (fun a ha => (List.mem_append.mp ha).elim (h2 a) (fun q => by rw [List.mem_singleton.mp q]; exact hn)) (ch_cat h3) (cr_ch h4)
      · simp only [if_neg c2]
        rw [if_pos trivial, if_neg (fun q => c2 q.2), nI_1]
        exact ih (i + 1) m1 (upd op n 0) ch pk p (by omega) hs2 h1 h2 h3 h4
    · rw [if_pos (nI_le (show m ≤ p.length by omega) (by omega)), if_neg (fun q => c1 q.1)]
      have q := cr_105 (N := N) (by omega) vec aim hn h2 (by omega) h3 (fun v4_16 v5_16 => (if v4_16 = 0 then (f_Mo_choose_63 N vec aim pool (nI L) (nI m) (m1 + r.length + 1) (upd op n 0) ch pk (nI p.length) (nI i + 1)) else ((f_Mo_pick N ch pk (nI p.length) (nI n)).bind fun p19 => (f_Mo_choose_63 N vec aim pool (nI L) (nI m) (m1 + r.length + 1) (upd op n 0) p19.1 p19.2.1 p19.2.2 (nI i + 1))))) p 0 (N - p.length - 1) 0 (by omega) rfl
      rw [← fu, nI_0] at q
      rw [q]
      simp only [ite_self]
      rw [if_pos trivial, nI_1]
      exact ih (i + 1) m1 (upd op n 0) ch pk p (by omega) hs2 h1 h2 h3 h4
theorem cr_161 {N : Nat} (vec aim pool : Nat → Int32) {u p : List Nat} (hu : ∀ a ∈ u, a < 30) (hu30 : u.length ≤ 30) (hA : hr_A u pool) (m pl : Int32) {ch : Nat → Int32} (hch : ∀ a, a < 30 → (ch a ≠ 0 ↔ a ∈ p)) (pk : Nat → Int32) : ∀ (k i m1 : Nat) (op : Nat → Int32), i + k = u.length → (∀ a, a < 30 → (op a ≠ 0 ↔ a ∈ u.take i ∧ a ∉ p)) →
    ∃ op', f_Mo_choose_161 N vec aim pool (nI u.length) m ch pk pl (m1 + k + 1) op (nI i) = ((f_Mo_nearest_open N vec aim op').bind fun p27 => (f_Mo_choose_214 N vec aim m N op' ch pk pl p27)) ∧ ∀ a, a < 30 → (op' a ≠ 0 ↔ a ∈ u ∧ a ∉ p) := by
  intro k
  induction k with
  | zero =>
    intro i m1 op hi h
    rw [List.take_of_length_le (by omega)] at h
    refine ⟨op, ?_, h⟩
    rw [f_Mo_choose_161, if_pos (nI_le (by omega) (by omega))]
  | succ k ih =>
    intro i m1 op hi h
    have g1 := hu _ (wp_getD (show i < u.length by omega))
    have hg : u.getD i 0 = u[i]'(by omega) := by rw [List.getD_eq_getElem?_getD, List.getElem?_eq_getElem (by omega)]; rfl
    have mm : ∀ a, a ∈ u.take (i + 1) ↔ a ∈ u.take i ∨ a = u.getD i 0 := fun a => by
      rw [← List.take_append_getElem (show i < u.length by omega), List.mem_append, List.mem_singleton, ← hg]
    rw [show m1 + (k + 1) + 1 = (m1 + k + 1) + 1 from rfl, f_Mo_choose_161, if_neg (nI_ge (by omega) (by omega))]
    simp only [pd_cl (show i < 2147483648 by omega), hA i (by omega), pb_at (show i < 30 by omega) (show 30 < 2147483648 by decide), pb_at g1 (show 30 < 2147483648 by decide), pd_cl (show u.getD i 0 < 2147483648 by omega), pz_n1, pz_n0, nI_1]
    by_cases c : ch (u.getD i 0) = 0
    · rw [if_pos c]
      refine ih (i + 1) m1 _ (by omega) (fun a ha => ?_)
      rw [mm]
      by_cases e : a = u.getD i 0
      · rw [e, pk_us]
        exact ⟨fun _ => ⟨Or.inr rfl, fun q => (hch _ g1).mpr q c⟩, fun _ => pz_10⟩
      · rw [pk_un e, h a ha]
        exact ⟨fun q => ⟨Or.inl q.1, q.2⟩, fun q => ⟨q.1.elim id (fun r => absurd r e), q.2⟩⟩
    · rw [if_neg c]
      have hp : u.getD i 0 ∈ p := (hch _ g1).mp c
      refine ih (i + 1) m1 _ (by omega) (fun a ha => ?_)
      rw [mm]
      by_cases e : a = u.getD i 0
      · rw [e, pk_us]
        exact ⟨fun q => absurd rfl q, fun q => absurd hp q.2⟩
      · rw [pk_un e, h a ha]
        exact ⟨fun q => ⟨Or.inl q.1, q.2⟩, fun q => ⟨q.1.elim id (fun r => absurd r e), q.2⟩⟩
theorem cr_214 {N : Nat} (hN : 31 ≤ N) (vec aim : Nat → Int32) {m : Nat} (hm : m ≤ 6) : ∀ (r : List Nat) (m1 : Nat) (op ch pk : Nat → Int32) (p : List Nat), so_set (pn_lt (pn_key vec aim)) (pn_P op) 30 = r → p.length ≤ m → hr_A p pk →
    ∃ op' ch' pk', f_Mo_choose_214 N vec aim (nI m) (m1 + r.length + 1) op ch pk (nI p.length) (pn_o r.head?) = some (op', ch', pk', nI (p ++ r.take (m - p.length)).length) ∧ hr_A (p ++ r.take (m - p.length)) pk' := by
  have T := pn_T (pn_key vec aim)
  intro r
  induction r with
  | nil =>
    intro m1 op ch pk p hs h1 h2
    rw [List.take_nil, List.append_nil]
    refine ⟨op, ch, pk, ?_, h2⟩
    rw [f_Mo_choose_214, if_pos (show pn_o ([] : List Nat).head? < 0 by decide)]
  | cons n r ih =>
    intro m1 op ch pk p hs h1 h2
    obtain ⟨hn, hs2⟩ := cr_pop T hs
    rw [show pn_o (n :: r).head? = nI n from rfl, List.length_cons, show m1 + (r.length + 1) + 1 = (m1 + r.length + 1) + 1 from rfl, f_Mo_choose_214]
    rw [if_neg (pn_neg hn)]
    by_cases c1 : p.length < m
    · rw [if_neg (nI_ge c1 (by omega)), pb_at hn (by decide)]
      unfold f_Mo_pick
      rw [pb_at (show p.length < 8 by omega) (by decide), pb_at hn (by decide), Option.bind_some, pd_cl (show p.length < 2147483648 by omega), pd_cl (show n < 2147483648 by omega), pz_n1, pz_n0, nI_1, pn_nearest_open hN, hs2, Option.bind_some]
      have e : p.length + 1 = (p ++ [n]).length := by rw [List.length_append, List.length_singleton]
      obtain ⟨d, hd⟩ : ∃ d, m - p.length = d + 1 := ⟨m - p.length - 1, by omega⟩
      have e2 : p ++ (n :: r).take (m - p.length) = (p ++ [n]) ++ r.take (m - (p ++ [n]).length) := by
        rw [hd, List.take_succ_cons, ← e, show m - (p.length + 1) = d by omega, List.append_assoc]
        rfl
      rw [e2, e]
      exact ih m1 (upd op n 0) _ _ (p ++ [n]) hs2 (by omega) (ch_cat h2)
    · rw [if_pos (nI_le (show m ≤ p.length by omega) (by omega)), show m - p.length = 0 by omega, List.take_zero, List.append_nil]
      exact ⟨op, ch, pk, rfl, h2⟩
theorem cr_30 {N : Nat} (vec aim pk pool : Nat → Int32) {u : List Nat} (hu : ∀ a ∈ u, a < 30) (hu30 : u.length ≤ 30) (hA : hr_A u pool) (m : Int32) (ch : Nat → Int32) : ∀ (k i m1 : Nat) (op : Nat → Int32), i + k = u.length → (∀ a, a < 30 → (op a ≠ 0 ↔ a ∈ u.take i)) →
    ∃ op', f_Mo_choose_30 N vec aim pk pool (nI u.length) m ch (m1 + k + 1) op (nI i) = f_Mo_choose_63 N vec aim pool (nI u.length) m N op' ch pk 0 0 ∧ ∀ a, a < 30 → (op' a ≠ 0 ↔ a ∈ u) := by
  intro k
  induction k with
  | zero =>
    intro i m1 op hi h
    rw [List.take_of_length_le (by omega)] at h
    refine ⟨op, ?_, h⟩
    rw [f_Mo_choose_30, if_pos (nI_le (by omega) (by omega))]
  | succ k ih =>
    intro i m1 op hi h
    have g1 := hu _ (wp_getD (show i < u.length by omega))
    have hg : u.getD i 0 = u[i]'(by omega) := by rw [List.getD_eq_getElem?_getD, List.getElem?_eq_getElem (by omega)]; rfl
    have mm : ∀ a, a ∈ u.take (i + 1) ↔ a ∈ u.take i ∨ a = u.getD i 0 := fun a => by
      rw [← List.take_append_getElem (show i < u.length by omega), List.mem_append, List.mem_singleton, ← hg]
    rw [show m1 + (k + 1) + 1 = (m1 + k + 1) + 1 from rfl, f_Mo_choose_30, if_neg (nI_ge (by omega) (by omega))]
    simp only [pd_cl (show i < 2147483648 by omega), hA i (by omega), pb_at (show i < 30 by omega) (show 30 < 2147483648 by decide), pb_at g1 (show 30 < 2147483648 by decide), pd_cl (show u.getD i 0 < 2147483648 by omega), pz_n1, nI_1]
    refine ih (i + 1) m1 _ (by omega) (fun a ha => ?_)
    rw [mm]
    by_cases e : a = u.getD i 0
    · rw [e, pk_us]
      exact ⟨fun _ => Or.inr rfl, fun _ => pz_10⟩
    · rw [pk_un e, h a ha]
      exact ⟨Or.inl, fun q => q.elim id (fun r => absurd r e)⟩
theorem cr_2 {N : Nat} (vec aim pk pool : Nat → Int32) (L m : Int32) : ∀ (k j m1 : Nat) (op ch : Nat → Int32), j + k = 30 → (∀ a, a < j → op a = 0 ∧ ch a = 0) →
    ∃ op' ch', f_Mo_choose_2 N vec aim pk pool L m (m1 + k + 1) op ch (nI j) = f_Mo_choose_30 N vec aim pk pool L m ch' N op' 0 ∧ ∀ a, a < 30 → op' a = 0 ∧ ch' a = 0 := by
  intro k
  induction k with
  | zero =>
    intro j m1 op ch hj h
    refine ⟨op, ch, ?_, fun a ha => h a (by omega)⟩
    rw [f_Mo_choose_2, if_pos (show (30 : Int32) ≤ nI j from nI_le (a := 30) (by omega) (by omega))]
  | succ k ih =>
    intro j m1 op ch hj h
    rw [show m1 + (k + 1) + 1 = (m1 + k + 1) + 1 from rfl, f_Mo_choose_2, if_neg (show ¬ (30 : Int32) ≤ nI j from nI_ge (b := 30) (by omega) (by omega)), pb_at (show j < 30 by omega) (by decide), pb_at (show j < 30 by omega) (by decide), pd_cl (show j < 2147483648 by omega), pz_n0, nI_1]
    refine ih (j + 1) m1 _ _ (by omega) (fun a ha => ?_)
    by_cases e : a = j
    · subst e; rw [pk_us, pk_us]; exact ⟨rfl, rfl⟩
    · rw [pk_un e, pk_un e]; exact h a (by omega)
theorem cr_ok {N : Nat} (hN : 64 ≤ N) {V : Nat → Nat → Int32} {vec aim : Nat → Int32} (hV : ch_V V vec) {c u : List Nat} (hs : so_ok (pn_lt (pn_key vec aim)) c) (hc : ∀ a ∈ c, a < 30) (hc30 : c.length ≤ 30) (huc : ∀ a, a ∈ u ↔ a ∈ c) (hul : u.length = c.length) {nums vals pool : Nat → Int32} (hA : pr_A (pn_key vec aim) c nums vals) (hU : hr_A u pool) {m : Nat} (hm : m ≤ 6) (row op ch pk : Nat → Int32) :
    ∃ q row' M' op' ch' pk', f_Ch_choose N row V nums vals (nI c.length) (nI m) = some (row', nI q.length, M') ∧ f_Mo_choose N vec aim op ch pk pool (nI u.length) (nI m) = some (op', ch', pk', nI q.length) ∧ hr_A q row' ∧ hr_A q pk' ∧ q.Nodup ∧ (∀ a ∈ q, a ∈ c) ∧ q.length ≤ m := by
  have T := pn_T (pn_key vec aim)
  have hnd : c.Nodup := so_nodup T hs
  have hpr := ch_1_pr (key := pn_key vec aim) (bt := ch_bt vec) (m := m) (c := c) (p := []) hnd (Nat.zero_le _)
  have nilA : ∀ f : Nat → Int32, hr_A [] f := fun f i hi => absurd hi (Nat.not_lt_zero _)
  have hu : ∀ a ∈ u, a < 30 := fun a ha => hc a ((huc a).mp ha)
  obtain ⟨row1, M1, a1, a2, a3, a4, a5⟩ := ch_c13 hN hV hc hc30 hA hm c 0 (N - c.length - 1) [] row 0 (Nat.zero_le _) rfl (Nat.zero_le _) (fun a ha => absurd ha List.not_mem_nil) (nilA _) (by decide) (fun a => by simp)
  rw [show N - c.length - 1 + c.length + 1 = N by omega] at a1
  obtain ⟨row2, M2, b1, b2⟩ := ch_c69 (N := N) hc hc30 (nums := nums) (fun i hi => (hA i hi).1) hm c 0 (N - c.length - 1) _ row1 M1 (Nat.zero_le _) rfl hpr.2.1 a3 a2 a4 a5
  rw [show N - c.length - 1 + c.length + 1 = N by omega] at b1
  obtain ⟨op1, ch1, c1, c2⟩ := cr_2 (N := N) vec aim pk pool (nI u.length) (nI m) 30 0 (N - 31) op ch (by omega) (fun a ha => absurd ha (Nat.not_lt_zero _))
  rw [show N - 31 + 30 + 1 = N by omega] at c1
  obtain ⟨op2, d1, d2⟩ := cr_30 (N := N) vec aim pk pool hu (by omega) hU (nI m) ch1 u.length 0 (N - u.length - 1) op1 (by omega) (fun a ha => by rw [(c2 a ha).1]; simp)
  rw [show N - u.length - 1 + u.length + 1 = N by omega] at d1
  have hset : so_set (pn_lt (pn_key vec aim)) (pn_P op2) 30 = c := so_uniq T (so_set_ok T _) hs (fun a => by
    constructor
    · intro q
      have h30 := (so_set_mem.mp q).1
      exact (huc a).mp ((d2 a h30).mp ((pw_set_mem h30).mp q))
    · intro q
      exact (pw_set_mem (hc a q)).mpr ((d2 a (hc a q)).mpr ((huc a).mpr q)))
  obtain ⟨op3, ch3, pk3, e1, e2, e3, e4⟩ := cr_63 hN vec aim pool (L := u.length) (by omega) hm c 0 (N - c.length - 1) op2 ch1 pk [] (by omega) hset (Nat.zero_le _) (fun a ha => absurd ha List.not_mem_nil) (nilA _) (fun a ha => by rw [(c2 a ha).2]; simp)
  rw [show N - c.length - 1 + c.length + 1 = N by omega] at e1
  obtain ⟨op4, f1, f2⟩ := cr_161 (N := N) vec aim pool (p := ch_1 (pn_key vec aim) (ch_bt vec) m c []) hu (by omega) hU (nI m) (nI (ch_1 (pn_key vec aim) (ch_bt vec) m c []).length) e3 pk3 u.length 0 (N - u.length - 1) op3 (by omega) (fun a ha => by rw [e4 a ha]; simp)
  rw [show N - u.length - 1 + u.length + 1 = N by omega] at f1
  have hset4 : so_set (pn_lt (pn_key vec aim)) (pn_P op4) 30 = c.filter (fun a => decide (a ∉ ch_1 (pn_key vec aim) (ch_bt vec) m c [])) := so_uniq T (so_set_ok T _) (List.Pairwise.filter _ hs) (fun a => by
    rw [List.mem_filter, decide_eq_true_iff]
    constructor
    · intro q
      have h30 := (so_set_mem.mp q).1
      have := (f2 a h30).mp ((pw_set_mem h30).mp q)
      exact ⟨(huc a).mp this.1, this.2⟩
    · intro q
      exact (pw_set_mem (hc a q.1)).mpr ((f2 a (hc a q.1)).mpr ⟨(huc a).mpr q.1, q.2⟩))
  have hfl : (c.filter (fun a => decide (a ∉ ch_1 (pn_key vec aim) (ch_bt vec) m c []))).length ≤ 30 := Nat.le_trans (List.length_filter_le _ _) hc30
  obtain ⟨op5, ch5, pk5, g1, g2⟩ := cr_214 (N := N) (by omega) vec aim hm _ (N - (c.filter (fun a => decide (a ∉ ch_1 (pn_key vec aim) (ch_bt vec) m c []))).length - 1) op4 ch3 pk3 _ hset4 hpr.2.1 e2
  rw [show N - (c.filter (fun a => decide (a ∉ ch_1 (pn_key vec aim) (ch_bt vec) m c []))).length - 1 + (c.filter (fun a => decide (a ∉ ch_1 (pn_key vec aim) (ch_bt vec) m c []))).length + 1 = N by omega] at g1
  rw [← ch_2_eq hnd] at g1 g2
  refine ⟨ch_2 m c (ch_1 (pn_key vec aim) (ch_bt vec) m c []), row2, nI M2, op5, ch5, pk5, ?_, ?_, b2, g2, ?_, ?_, ?_⟩
  · unfold f_Ch_choose
    rw [show f_Ch_choose_13 N V nums vals (nI c.length) (nI m) N row 0 0 0 = _ from a1]
    exact b1
  · unfold f_Mo_choose
    rw [show f_Mo_choose_2 N vec aim pk pool (nI u.length) (nI m) N op ch 0 = _ from c1, show f_Mo_choose_30 N vec aim pk pool (nI u.length) (nI m) ch1 N op1 0 = _ from d1, show f_Mo_choose_63 N vec aim pool (nI u.length) (nI m) N op2 ch1 pk 0 0 = _ from e1, show f_Mo_choose_161 N vec aim pool (nI u.length) (nI m) ch3 pk3 _ N op3 0 = _ from f1, pn_nearest_open (by omega), hset4, Option.bind_some]
    exact g1
  · rw [ch_2_eq hnd]
    refine List.nodup_append.mpr ⟨hpr.1, (hnd.sublist ((List.take_sublist _ _).trans List.filter_sublist)), fun a ha b hb => ?_⟩
    have := (List.mem_filter.mp (List.mem_of_mem_take hb)).2
    rw [decide_eq_true_iff] at this
    exact fun e => this (by rw [← e]; exact ha)
  · intro a ha
    rw [ch_2_eq hnd] at ha
    rcases List.mem_append.mp ha with q | q
    · exact hpr.2.2 a q
    · exact (List.mem_filter.mp (List.mem_of_mem_take q)).1
  · rw [ch_2_eq hnd, List.length_append, List.length_take]
    have := hpr.2.1
    omega
