/-! PURE: how a walk begins, and the whole walk -/
theorem wp_end {lt : Nat → Nat → Bool} (T : so_T lt) {x : Nat} : ∀ {t : List Nat}, (∀ a ∈ t, lt a x = true) → so_ins lt x t = t ++ [x]
  | [], _ => rfl
  | y :: t, h => by
    unfold so_ins
    rw [if_neg (so_asym T (h y List.mem_cons_self)), wp_end T (fun a ha => h a (List.mem_cons_of_mem _ ha))]
    rfl
theorem wp_take {lt : Nat → Nat → Bool} (T : so_T lt) {l : List Nat} (hs : so_ok lt l) {i : Nat} (hi : i < l.length) : so_ins lt (l.getD i 0) (l.take i) = l.take (i + 1) := by
  have hg : l.getD i 0 = l[i] := by rw [List.getD_eq_getElem?_getD, List.getElem?_eq_getElem hi]; rfl
  rw [hg, wp_end T, List.take_append_getElem hi]
  intro a ha
  obtain ⟨j, hj, rfl⟩ := List.mem_iff_getElem.mp ha
  rw [List.length_take] at hj
  rw [List.getElem_take]
  exact List.pairwise_iff_getElem.mp hs j i (by omega) hi (by omega)
theorem wp_getD {l : List Nat} {i : Nat} (hi : i < l.length) : l.getD i 0 ∈ l := by
  rw [List.getD_eq_getElem?_getD, List.getElem?_eq_getElem hi]
  exact List.getElem_mem _
/-- the class: seen, and the open ones -/
theorem wp_63 {N : Nat} (hN : 31 ≤ N) {key : Nat → Int32} {l : List Nat} (hs : so_ok (pn_lt key) l) (hl : ∀ a ∈ l, a < 30) (hlen : l.length ≤ 30) (X : T_Rk) (v : Int32) (rm : Int32) (hA : pr_A key l X.1 X.2.1) : ∀ (k i m : Nat) (on ov : Nat → Int32), i + k = l.length → pr_A key (l.take i) on ov →
    ∃ on' ov', f_Wa_begin_63 N X v (nI l.length, rm) (m + k + 1) (on, ov, nI (l.take i).length, nI 30, 0) (nI i) = some ((X.1, X.2.1, nI l.length, rm, X.2.2.2.2), (on', ov', nI l.length, nI 30, 0), v) ∧ pr_A key l on' ov' := by
  intro k
  induction k with
  | zero =>
    intro i m on ov hi h1
    have : l.take i = l := List.take_of_length_le (by omega)
    rw [this] at h1 ⊢
    refine ⟨on, ov, ?_, h1⟩
    rw [f_Wa_begin_63]
    unfold f_Rk_size
    rw [Option.bind_some, if_pos (nI_le (by omega) (by omega))]
  | succ k ih =>
    intro i m on ov hi h1
    have T := pn_T key
    have lt1 : (l.take i).length = i := by rw [List.length_take]; omega
    have g1 := hl _ (wp_getD (show i < l.length by omega))
    obtain ⟨n1, v1, a1, a2⟩ := pa_ok (room := 30) (x := l.getD i 0) (l := l.take i) hN T (wk_hp N key) g1 (fun a ha => hl a (List.mem_of_mem_take ha)) (Nat.le_refl _) (by omega) (List.Pairwise.sublist (List.take_sublist i l) hs) on ov h1
    have e : pa_add (pn_lt key) 30 (l.getD i 0) (l.take i) = (true, l.take (i + 1)) := by
      unfold pa_add
      rw [if_pos (by omega), wp_take T hs (by omega)]
    rw [e] at a1 a2
    obtain ⟨on', ov', b1, b2⟩ := ih (i + 1) m n1 v1 (by omega) a2
    refine ⟨on', ov', ?_, b2⟩
    rw [show m + (k + 1) + 1 = (m + k + 1) + 1 from rfl, f_Wa_begin_63]
    unfold f_Rk_size f_Rk_numberAt f_Rk_valueAt
    dsimp only
    rw [Option.bind_some, if_neg (nI_ge (by omega) (by omega)), pb_at (show i < 30 by omega) (by decide), Option.bind_some, pb_at (show i < 30 by omega) (by decide), Option.bind_some, pd_cl (show i < 2147483648 by omega), (hA i (by omega)).1, (hA i (by omega)).2, a1, Option.bind_some, nI_1]
    exact b1
theorem wp_7 {N : Nat} (hN : 31 ≤ N) {key : Nat → Int32} {l : List Nat} (hs : so_ok (pn_lt key) l) (hl : ∀ a ∈ l, a < 30) (hlen : l.length ≤ 30) {w : Nat} (hw : w ≤ 30) (hn hv : Nat → Int32) (rm : Int32) (O : T_Rk) (hA : pr_A key l hn hv) : ∀ (k i m M : Nat), i + k = l.length → M < 2 ^ 30 → (∀ a, M.testBit a = true ↔ a ∈ l.take i) →
    ∃ M' on' ov', f_Wa_begin_7 N (hn, hv, nI l.length, rm, 0) O (nI w) (m + k + 1) (nI M) (nI i) = some ((hn, hv, nI (l.take w).length, nI w, 0), (on', ov', nI (l.take w).length, nI 30, 0), nI M') ∧ pr_A key (l.take w) on' ov' ∧ M' < 2 ^ 30 ∧ ∀ a, M'.testBit a = true ↔ a ∈ l := by
  intro k
  induction k with
  | zero =>
    intro i m M hi h1 h2
    have : l.take i = l := List.take_of_length_le (by omega)
    rw [this] at h2
    have hlw : (l.take w).length = min l.length w := by rw [List.length_take, Nat.min_comm]
    obtain ⟨on', ov', b1, b2⟩ := wp_63 (l := l.take w) hN (List.Pairwise.sublist (List.take_sublist w l) hs) (fun a ha => hl a (List.mem_of_mem_take ha)) (by omega) (hn, hv, nI l.length, rm, 0) (nI M) (nI w) (pl_take hA w) (l.take w).length 0 (N - (l.take w).length - 1) O.1 O.2.1 (by omega) (by rw [List.take_zero]; intro i hi; exact absurd hi (Nat.not_lt_zero _))
    rw [show N - (l.take w).length - 1 + (l.take w).length + 1 = N by omega] at b1
    refine ⟨M, on', ov', ?_, b2, h1, h2⟩
    rw [f_Wa_begin_7]
    unfold f_Rk_size
    dsimp only
    rw [Option.bind_some, if_pos (nI_le (by omega) (by omega)), pl_changeRoom N hlen hw, Option.bind_some, show f_Rk_start N 30 0 = some (0, nI 30, 0) from (pl_start N (r := 30) (by decide)).1, Option.bind_some, ← hlw]
    exact b1
  | succ k ih =>
    intro i m M hi h1 h2
    have g1 := hl _ (wp_getD (show i < l.length by omega))
    have hg : l.getD i 0 = l[i]'(by omega) := by rw [List.getD_eq_getElem?_getD, List.getElem?_eq_getElem (by omega)]; rfl
    obtain ⟨M', on', ov', b1, b2⟩ := ih (i + 1) m (M ||| 2 ^ (l.getD i 0)) (by omega) (pm_set_lt h1 g1) (fun a => by
      rw [pm_set_bit, ← List.take_append_getElem (show i < l.length by omega), List.mem_append, List.mem_singleton, ← hg, ← h2 a, Bool.or_eq_true, decide_eq_true_iff, eq_comm (a := a)])
    refine ⟨M', on', ov', ?_, b2⟩
    rw [show m + (k + 1) + 1 = (m + k + 1) + 1 from rfl, f_Wa_begin_7]
    unfold f_Rk_size f_Rk_numberAt
    dsimp only
    rw [Option.bind_some, if_neg (nI_ge (by omega) (by omega)), pb_at (show i < 30 by omega) (by decide), Option.bind_some, pd_cl (show i < 2147483648 by omega), (hA i (by omega)).1, pm_set g1, nI_1]
    exact b1
/-- the reference: seen, held, open -/
theorem wp_98 {N : Nat} (vec aim D R hr sn hd : Nat → Int32) (a1 a2 : Int32) (h01 : ∀ a, a < 30 → hd a = 0 ∨ hd a = 1) : ∀ (k j m : Nat) (op : Nat → Int32), j + k = 30 → (∀ a, a < j → op a = hd a) →
    ∃ op', f_Mo_walk_98 N vec R D aim hr a1 a2 sn hd (m + k + 1) op (nI j) = ((f_Mo_nearest_open N vec aim op').bind fun p19 => (f_Mo_walk_131 N vec R D aim hr a1 a2 N sn hd op' p19)) ∧ ∀ a, a < 30 → op' a = hd a := by
  intro k
  induction k with
  | zero =>
    intro j m op hj h
    refine ⟨op, ?_, fun a ha => h a (by omega)⟩
    rw [f_Mo_walk_98, if_pos (show (30 : Int32) ≤ nI j from nI_le (a := 30) (by omega) (by omega))]
  | succ k ih =>
    intro j m op hj h
    obtain ⟨op', b1, b2⟩ := ih (j + 1) m (upd op j (hd j)) (by omega) (fun a ha => by
      by_cases e : a = j
      · subst e; rw [pk_us]
      · rw [pk_un e]; exact h a (by omega))
    refine ⟨op', ?_, b2⟩
    have hb : vp_nar .boolean (hd j) = hd j := by
      rcases h01 j (by omega) with q | q <;> rw [q] <;> decide
    rw [show m + (k + 1) + 1 = (m + k + 1) + 1 from rfl, f_Mo_walk_98, if_neg (show ¬ (30 : Int32) ≤ nI j from nI_ge (b := 30) (by omega) (by omega)), pb_at (show j < 30 by omega) (by decide), pb_at (show j < 30 by omega) (by decide), pd_cl (show j < 2147483648 by omega), hb, nI_1]
    exact b1
theorem wp_68 {N : Nat} (hN : 31 ≤ N) (vec aim D R op hr sn : Nat → Int32) (a1 : Int32) {w : Nat} (hw : w ≤ 30) : ∀ (k m : Nat) (hd : Nat → Int32) (l : List Nat), l.length ≤ w + k → so_set (pn_lt (pn_key vec aim)) (pn_P hd) 30 = l → (∀ a, a < 30 → hd a = 0 ∨ hd a = 1) →
    ∃ hd', f_Mo_walk_68 N vec R D aim op hr a1 (nI w) sn (m + k + 1) hd = f_Mo_walk_98 N vec R D aim hr a1 (nI w) sn hd' N op 0 ∧ so_set (pn_lt (pn_key vec aim)) (pn_P hd') 30 = l.take w ∧ ∀ a, a < 30 → hd' a = 0 ∨ hd' a = 1 := by
  have T := pn_T (pn_key vec aim)
  intro k
  induction k with
  | zero =>
    intro m hd l h1 h2 h3
    refine ⟨hd, ?_, ?_, h3⟩
    · rw [f_Mo_walk_68, pf_size hN (pn_lt (pn_key vec aim)), h2, Option.bind_some, if_pos (nI_le (by omega) (by omega))]
    · rw [h2, List.take_of_length_le (by omega)]
  | succ k ih =>
    intro m hd l h1 h2 h3
    have hl30 : l.length ≤ 30 := by rw [← h2]; exact so_set_len _
    by_cases c : l.length ≤ w
    · refine ⟨hd, ?_, ?_, h3⟩
      · rw [show m + (k + 1) + 1 = (m + k + 1) + 1 from rfl, f_Mo_walk_68, pf_size hN (pn_lt (pn_key vec aim)), h2, Option.bind_some, if_pos (nI_le (by omega) (by omega))]
      · rw [h2, List.take_of_length_le (by omega)]
    · cases hd0 : l.getLast? with
      | none =>
        have := List.getLast?_eq_none_iff.mp hd0
        rw [this] at c
        exact absurd (Nat.zero_le w) c
      | some y =>
        have hym : y ∈ l := List.mem_of_getLast? hd0
        have hy : y < 30 := by rw [← h2] at hym; exact (so_set_mem.mp hym).1
        obtain ⟨t, rfl⟩ := List.getLast?_eq_some_iff.mp hd0
        have hs : so_ok (pn_lt (pn_key vec aim)) (t ++ [y]) := by rw [← h2]; exact so_set_ok T _
        have hyt : y ∉ t := fun q => by
          have := (List.pairwise_append.mp hs).2.2 y q y List.mem_cons_self
          rw [T.1] at this
          cases this
        have h4 : so_set (pn_lt (pn_key vec aim)) (pn_P (upd hd y 0)) 30 = t := by
          rw [pf_del T, h2, List.filter_append, List.filter_cons]
          simp only [bne_self_eq_false, Bool.false_eq_true, if_false, List.filter_nil, List.append_nil]
          exact List.filter_eq_self.mpr (fun a ha => by rw [bne_iff_ne]; exact fun e => hyt (by rw [← e]; exact ha))
        rw [List.length_append, List.length_singleton] at h1 c hl30
        obtain ⟨hd', b1, b2, b3⟩ := ih m (upd hd y 0) t (by omega) h4 (fun a ha => by
          by_cases e : a = y
          · subst e; rw [pk_us]; exact Or.inl rfl
          · rw [pk_un e]; exact h3 a ha)
        refine ⟨hd', ?_, ?_, b3⟩
        · rw [show m + (k + 1) + 1 = (m + k + 1) + 1 from rfl, f_Mo_walk_68, pf_size hN (pn_lt (pn_key vec aim)), h2, Option.bind_some, if_neg (nI_ge (by rw [List.length_append, List.length_singleton]; omega) (by rw [List.length_append, List.length_singleton]; omega)), pf_farthest_held hN, h2, hd0, Option.bind_some]
          simp only [pn_o]
          rw [pb_at hy (by decide), pd_cl (show y < 2147483648 by omega), pz_n0]
          exact b1
        · rw [b2, List.take_append_of_le_length (by omega)]
theorem wp_30 {N : Nat} (vec aim D R op hr : Nat → Int32) (a1 a2 : Int32) {l : List Nat} (hl : ∀ a ∈ l, a < 30) (hlen : l.length ≤ 30) (hA : hr_A l hr) : ∀ (k i m : Nat) (sn hd : Nat → Int32), i + k = l.length → (∀ a, a < 30 → (sn a = 0 ∨ sn a = 1) ∧ (hd a = 0 ∨ hd a = 1) ∧ (sn a ≠ 0 ↔ a ∈ l.take i) ∧ (hd a ≠ 0 ↔ a ∈ l.take i)) →
    ∃ sn' hd', f_Mo_walk_30 N vec R D aim op hr (nI l.length) a1 a2 (m + k + 1) sn hd (nI i) = f_Mo_walk_68 N vec R D aim op hr a1 a2 sn' N hd' ∧ ∀ a, a < 30 → (sn' a = 0 ∨ sn' a = 1) ∧ (hd' a = 0 ∨ hd' a = 1) ∧ (sn' a ≠ 0 ↔ a ∈ l) ∧ (hd' a ≠ 0 ↔ a ∈ l) := by
  intro k
  induction k with
  | zero =>
    intro i m sn hd hi h
    have : l.take i = l := List.take_of_length_le (by omega)
    rw [this] at h
    refine ⟨sn, hd, ?_, h⟩
    rw [f_Mo_walk_30, if_pos (nI_le (by omega) (by omega))]
  | succ k ih =>
    intro i m sn hd hi h
    have g1 := hl _ (wp_getD (show i < l.length by omega))
    have hg : l.getD i 0 = l[i]'(by omega) := by rw [List.getD_eq_getElem?_getD, List.getElem?_eq_getElem (by omega)]; rfl
    have mm : ∀ a, a ∈ l.take (i + 1) ↔ a ∈ l.take i ∨ a = l.getD i 0 := fun a => by
      rw [← List.take_append_getElem (show i < l.length by omega), List.mem_append, List.mem_singleton, ← hg]
    obtain ⟨sn', hd', b1, b2⟩ := ih (i + 1) m (upd sn (l.getD i 0) 1) (upd hd (l.getD i 0) 1) (by omega) (fun a ha => by
      rw [mm]
      by_cases e : a = l.getD i 0
      · rw [e, pk_us, pk_us]
        exact ⟨Or.inr rfl, Or.inr rfl, ⟨fun _ => Or.inr rfl, fun _ => pz_10⟩, ⟨fun _ => Or.inr rfl, fun _ => pz_10⟩⟩
      · rw [pk_un e, pk_un e]
        obtain ⟨q1, q2, q3, q4⟩ := h a ha
        exact ⟨q1, q2, q3.trans ⟨Or.inl, fun q => q.elim id (fun r => absurd r e)⟩, q4.trans ⟨Or.inl, fun q => q.elim id (fun r => absurd r e)⟩⟩)
    refine ⟨sn', hd', ?_, b2⟩
    rw [show m + (k + 1) + 1 = (m + k + 1) + 1 from rfl, f_Mo_walk_30, if_neg (nI_ge (by omega) (by omega))]
    simp only [pd_cl (show i < 2147483648 by omega), hA i (by omega), pb_at (show i < 30 by omega) (show 30 < 2147483648 by decide), pb_at g1 (show 30 < 2147483648 by decide), pd_cl (show l.getD i 0 < 2147483648 by omega), pz_n1, nI_1]
    exact b1
theorem wp_2 {N : Nat} (vec aim D R op hr : Nat → Int32) (hs a1 a2 : Int32) : ∀ (k j m : Nat) (sn hd : Nat → Int32), j + k = 30 → (∀ a, a < j → sn a = 0 ∧ hd a = 0) →
    ∃ sn' hd', f_Mo_walk_2 N vec R D aim op hr hs a1 a2 (m + k + 1) sn hd (nI j) = f_Mo_walk_30 N vec R D aim op hr hs a1 a2 N sn' hd' 0 ∧ ∀ a, a < 30 → sn' a = 0 ∧ hd' a = 0 := by
  intro k
  induction k with
  | zero =>
    intro j m sn hd hj h
    refine ⟨sn, hd, ?_, fun a ha => h a (by omega)⟩
    rw [f_Mo_walk_2, if_pos (show (30 : Int32) ≤ nI j from nI_le (a := 30) (by omega) (by omega))]
  | succ k ih =>
    intro j m sn hd hj h
    obtain ⟨sn', hd', b1, b2⟩ := ih (j + 1) m (upd sn j 0) (upd hd j 0) (by omega) (fun a ha => by
      by_cases e : a = j
      · subst e; rw [pk_us, pk_us]; exact ⟨rfl, rfl⟩
      · rw [pk_un e, pk_un e]; exact h a (by omega))
    refine ⟨sn', hd', ?_, b2⟩
    rw [show m + (k + 1) + 1 = (m + k + 1) + 1 from rfl, f_Mo_walk_2, if_neg (show ¬ (30 : Int32) ≤ nI j from nI_ge (b := 30) (by omega) (by omega)), pb_at (show j < 30 by omega) (by decide), pb_at (show j < 30 by omega) (by decide), pd_cl (show j < 2147483648 by omega), pz_n0, nI_1]
    exact b1
def wp_P (D R : Nat → Int32) (layer : Nat) (P : Nat → Prop) : Prop := ∀ n, P n → n < 30 ∧ ∃ d, d ≤ 7 ∧ D (4 * n + layer) = nI d ∧ ∀ i, i < d → ∃ a, R (7 * (4 * n + layer) + i) = nI a ∧ a < 30 ∧ P a
theorem wp_walk {N : Nat} (hN : 64 ≤ N) {vec aim dist D R : Nat → Int32} {P : Nat → Prop} {w : Nat} (hw0 : 0 < w) (hw : w ≤ 30) (hdist : ∀ a, a < 30 → dist a = pn_key vec aim a) {layer : Nat} (hlay : layer < 4) (hP : wp_P D R layer P) {l : List Nat} (hs : so_ok (pn_lt (pn_key vec aim)) l) (hlP : ∀ a ∈ l, P a) (hlen : l.length ≤ 30) (hn hv hr : Nat → Int32) (rm : Int32) (hA : pr_A (pn_key vec aim) l hn hv) (hH : hr_A l hr) (O : T_Rk) (sn hd op : Nat → Int32) :
    ∃ S l' sn' hd' op' hr' M' hn' hv' O', f_Wa_walk N (hn, hv, nI l.length, rm, 0) O dist D R (nI layer) (nI w) = some (nI S, (hn', hv', nI l'.length, nI w, 0), O', nI M') ∧ f_Mo_walk N vec R D aim sn hd op hr (nI l.length) (nI layer) (nI w) = some (nI S, sn', hd', op', hr', nI l'.length) ∧ S ≤ 30 ∧ so_ok (pn_lt (pn_key vec aim)) l' ∧ (∀ a ∈ l', P a) ∧ l'.length ≤ w ∧ pr_A (pn_key vec aim) l' hn' hv' ∧ hr_A l' hr' := by
  have T := pn_T (pn_key vec aim)
  have hl30 : ∀ a ∈ l, a < 30 := fun a ha => (hP a (hlP a ha)).1
  obtain ⟨M, on, ov, a1, a2, a3, a4⟩ := wp_7 (N := N) (by omega) hs hl30 hlen hw hn hv rm O hA l.length 0 (N - l.length - 1) 0 (by omega) (by omega) (fun a => by simp)
  rw [show N - l.length - 1 + l.length + 1 = N by omega] at a1
  obtain ⟨sn1, hd1, b1, b2⟩ := wp_2 vec aim D R op hr (nI l.length) (nI layer) (nI w) (N := N) 30 0 (N - 31) sn hd (by omega) (fun a ha => absurd ha (Nat.not_lt_zero _))
  rw [show N - 31 + 30 + 1 = N by omega] at b1
  obtain ⟨sn2, hd2, c1, c2⟩ := wp_30 (N := N) vec aim D R op hr (nI layer) (nI w) hl30 hlen hH l.length 0 (N - l.length - 1) sn1 hd1 (by omega) (fun a ha => by
    obtain ⟨q1, q2⟩ := b2 a ha
    rw [q1, q2]
    simp)
  rw [show N - l.length - 1 + l.length + 1 = N by omega] at c1
  have hset : so_set (pn_lt (pn_key vec aim)) (pn_P hd2) 30 = l := so_uniq T (so_set_ok T _) hs (fun a => by
    constructor
    · intro q
      have h30 := (so_set_mem.mp q).1
      exact (c2 a h30).2.2.2.mp ((pw_set_mem h30).mp q)
    · intro q
      exact (pw_set_mem (hl30 a q)).mpr ((c2 a (hl30 a q)).2.2.2.mpr q))
  have hsetS : so_set (pn_lt (pn_key vec aim)) (pn_P sn2) 30 = l := so_uniq T (so_set_ok T _) hs (fun a => by
    constructor
    · intro q
      have h30 := (so_set_mem.mp q).1
      exact (c2 a h30).2.2.1.mp ((pw_set_mem h30).mp q)
    · intro q
      exact (pw_set_mem (hl30 a q)).mpr ((c2 a (hl30 a q)).2.2.1.mpr q))
  obtain ⟨hd3, d1, d2, d3⟩ := wp_68 (N := N) (by omega) vec aim D R op hr sn2 (nI layer) hw 30 (N - 31) hd2 l (by omega) hset (fun a ha => (c2 a ha).2.1)
  rw [show N - 31 + 30 + 1 = N by omega] at d1
  obtain ⟨op3, e1, e2⟩ := wp_98 (N := N) vec aim D R hr sn2 hd3 (nI layer) (nI w) d3 30 0 (N - 31) op (by omega) (fun a ha => absurd ha (Nat.not_lt_zero _))
  rw [show N - 31 + 30 + 1 = N by omega] at e1
  have hop : so_set (pn_lt (pn_key vec aim)) (pn_P op3) 30 = l.take w := by
    rw [← d2]
    refine so_uniq T (so_set_ok T _) (so_set_ok T _) (fun a => ?_)
    rw [so_set_mem, so_set_mem]
    constructor
    · rintro ⟨q1, q2⟩
      exact ⟨q1, by unfold pn_P at q2 ⊢; rw [e2 a q1] at q2; exact q2⟩
    · rintro ⟨q1, q2⟩
      exact ⟨q1, by unfold pn_P at q2 ⊢; rw [e2 a q1]; exact q2⟩
  have cnt : pd_cnt sn2 30 = l.length := by rw [pf_cnt (pn_lt (pn_key vec aim)), hsetS]
  have htk : (l.take w).length ≤ l.length := by rw [List.length_take]; omega
  obtain ⟨S, l', sn', hd', op', hr', M', hn', hv', O', g1, g2, g3⟩ := wl_loop (N := N) (P := P) (by omega) hw0 hw hdist hlay hP hr 30 0 (N - 31) (N - 31) sn2 hd3 op3 (l.take w) (l.take w) M hn hv on ov (by omega) ⟨d2, hop, a3, fun a ha => (a4 a).trans (c2 a ha).2.2.1.symm, fun a ha => ⟨(c2 a (hl30 a (List.mem_of_mem_take ha))).2.2.1.mpr (List.mem_of_mem_take ha), hlP a (List.mem_of_mem_take ha)⟩, fun a ha => ⟨(c2 a (hl30 a (List.mem_of_mem_take ha))).2.2.1.mpr (List.mem_of_mem_take ha), hlP a (List.mem_of_mem_take ha)⟩, by rw [List.length_take]; omega, pl_take hA w, a2⟩ (by omega)
  rw [show N - 31 + 30 + 1 = N by omega] at g1 g2
  refine ⟨S, l', sn', hd', op', hr', M', hn', hv', O', ?_, ?_, g3⟩
  · unfold f_Wa_walk f_Wa_begin
    rw [show f_Wa_begin_7 N (hn, hv, nI l.length, rm, 0) O (nI w) N 0 0 = _ from a1, Option.bind_some]
    exact g1
  · unfold f_Mo_walk
    rw [show f_Mo_walk_2 N vec R D aim op hr (nI l.length) (nI layer) (nI w) N sn hd 0 = _ from b1, show f_Mo_walk_30 N vec R D aim op hr (nI l.length) (nI layer) (nI w) N sn1 hd1 0 = _ from c1, d1, show f_Mo_walk_98 N vec R D aim hr (nI layer) (nI w) sn2 hd3 N op 0 = _ from e1, pn_nearest_open (by omega), hop, Option.bind_some]
    exact g2
