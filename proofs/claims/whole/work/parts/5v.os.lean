/-! PURE: count 8 -/
def os_N (isN : Nat → Int32) (a : Nat) : Prop := a < 30 ∧ isN a ≠ 0
theorem os_map : ∀ (d : Nat) (f : Nat → Nat) (i : Nat), i < d → ((List.range d).map f).getD i 0 = f i := by
  intro d f i hi
  rw [List.getD_eq_getElem?_getD, List.getElem?_map, List.getElem?_range hi]
  rfl
def os_r (D R : Nat → Int32) (a : Nat) : List Nat := (List.range (D (4 * a)).toNatClampNeg).map (fun i => (R (7 * (4 * a) + i)).toNatClampNeg)
theorem os_eq {D R : Nat → Int32} {a : Nat} {u : List Nat} (h : ti_row D R (4 * a) u) (h6 : u.length ≤ 7) (hu : ∀ b ∈ u, b < 30) : os_r D R a = u := by
  unfold os_r
  rw [h.1, pd_cl (show u.length < 2147483648 by omega)]
  apply List.ext_getElem
  · rw [List.length_map, List.length_range]
  · intro i h1 h2
    rw [List.getElem_map, List.getElem_range, h.2 i h2]
    have hg : u.getD i 0 = u[i] := by rw [List.getD_eq_getElem?_getD, List.getElem?_eq_getElem h2]; rfl
    have := hu _ (List.getElem_mem h2)
    rw [hg, pd_cl (show u[i] < 2147483648 by omega)]
def os_G (D R isN : Nat → Int32) : Prop := ∀ a, os_N isN a → ti_row D R (4 * a) (os_r D R a) ∧ (os_r D R a).Nodup ∧ (os_r D R a).length ≤ 6 ∧ ∀ b ∈ os_r D R a, os_N isN b
theorem os_of {D R isN : Nat → Int32} (h : tl_G (fun a => a < 30 ∧ isN a ≠ 0) 0 D R) : os_G D R isN := by
  intro a ha
  obtain ⟨g1, u, g2, g3, g4, g5⟩ := h a ha
  have m6 := (ti_most6 0).1
  have e : os_r D R a = u := os_eq g2 (by omega) (fun b hb => (g5 b hb).1)
  rw [e]
  exact ⟨g2, g3, by omega, g5⟩
theorem os_linked {N : Nat} (hN : 64 ≤ N) {D R isN : Nat → Int32} (hG : os_G D R isN) {b a : Nat} (hb : os_N isN b) (ha : a < 30) : f_Li_isLinked N D R (nI b) (nI a) = some (if a ∈ os_r D R b then 1 else 0) := by
  obtain ⟨g1, g2, g3, g4⟩ := hG b hb
  have hb30 := hb.1
  have key : ∀ (r : List Nat) (i m : Nat), i ≤ (os_r D R b).length → (os_r D R b).drop i = r → f_Li_isLinked_2 N D R (nI b) (nI a) (m + r.length + 1) (nI i) = some (if a ∈ r then 1 else 0) := by
    intro r
    induction r with
    | nil =>
      intro i m hi h
      have := ch_nil h
      rw [f_Li_isLinked_2]
      unfold f_Li_degree
      rw [show (0 : Int32) = nI 0 from rfl, wk_x4, Nat.add_zero, pb_at (show 4 * b < 120 by omega) (by decide), pd_cl (show 4 * b < 2147483648 by omega), g1.1, Option.bind_some, if_pos (nI_le this (by omega)), if_neg List.not_mem_nil]
    | cons c r ih =>
      intro i m hi h
      obtain ⟨h1, h2, h3, h4⟩ := ch_dr h
      have hc := (g4 c h4).1
      have hi' := ih (i + 1) m h1 h3
      rw [List.length_cons, show m + (r.length + 1) + 1 = (m + r.length + 1) + 1 from rfl, f_Li_isLinked_2]
      unfold f_Li_degree f_Li_linked
      rw [show nI b * 4 + 0 = nI (4 * b) from wk_x4 b 0, pb_at (show 4 * b < 120 by omega) (by decide), pd_cl (show 4 * b < 2147483648 by omega), g1.1, Option.bind_some, if_neg (nI_ge h1 (by omega)), wk_x7, pb_at (show 7 * (4 * b) + i < 840 by omega) (by decide), pd_cl (show 7 * (4 * b) + i < 2147483648 by omega), g1.2 i h1, h2, Option.bind_some, nI_1, hi']
      by_cases e : c = a
      · subst e
        rw [if_pos rfl, if_pos List.mem_cons_self]
      · rw [if_neg (fun q => e ((nI_eq (by omega) (by omega)).mp q))]
        by_cases d : a ∈ r
        · rw [if_pos d, if_pos (List.mem_cons_of_mem _ d)]
        · rw [if_neg d, if_neg (fun q => (List.mem_cons.mp q).elim (fun q => e q.symm) d)]
  have := key _ 0 (N - (os_r D R b).length - 1) (Nat.zero_le _) rfl
  rw [List.drop_zero, show N - (os_r D R b).length - 1 + (os_r D R b).length + 1 = N by omega] at this
  exact this
theorem os_neighbour {N : Nat} (hN : 64 ≤ N) {D R isN : Nat → Int32} (hG : os_G D R isN) {b a : Nat} (hb : os_N isN b) (ha : a < 30) : f_Mo_isNeighbour N R D (nI a) (nI b) = some (if a ∈ os_r D R b then 1 else 0) := by
  obtain ⟨g1, g2, g3, g4⟩ := hG b hb
  have hb30 := hb.1
  have e4 : (4 : Int32) * nI b = nI (4 * b) := by rw [show (4 : Int32) = nI 4 from rfl, pk_mul]
  have e28 : (28 : Int32) * nI b = nI (7 * (4 * b)) := by rw [show (28 : Int32) = nI 28 from rfl, pk_mul, show 28 * b = 7 * (4 * b) by omega]
  have key : ∀ (r : List Nat) (i m : Nat), i ≤ (os_r D R b).length → (os_r D R b).drop i = r → f_Mo_isNeighbour_5 N R D (nI a) (nI b) (m + r.length + 1) (nI (7 * (4 * b) + i)) = some (if a ∈ r then 1 else 0) := by
    intro r
    induction r with
    | nil =>
      intro i m hi h
      have := ch_nil h
      rw [f_Mo_isNeighbour_5, e4, pb_at (show 4 * b < 120 by omega) (by decide), pd_cl (show 4 * b < 2147483648 by omega), g1.1, e28, nI_add, if_pos (nI_le (by omega) (by omega)), if_neg List.not_mem_nil]
    | cons c r ih =>
      intro i m hi h
      obtain ⟨h1, h2, h3, h4⟩ := ch_dr h
      have hc := (g4 c h4).1
      have hi' := ih (i + 1) m h1 h3
      rw [List.length_cons, show m + (r.length + 1) + 1 = (m + r.length + 1) + 1 from rfl, f_Mo_isNeighbour_5, e4, pb_at (show 4 * b < 120 by omega) (by decide), pd_cl (show 4 * b < 2147483648 by omega), g1.1, e28, nI_add, if_neg (nI_ge (show 7 * (4 * b) + i < 7 * (4 * b) + (os_r D R b).length by omega) (by omega)), pb_at (show 7 * (4 * b) + i < 840 by omega) (by decide), pd_cl (show 7 * (4 * b) + i < 2147483648 by omega), g1.2 i h1, h2, nI_1, show 7 * (4 * b) + i + 1 = 7 * (4 * b) + (i + 1) from rfl, hi']
      by_cases e : c = a
      · subst e
        rw [if_pos rfl, if_pos List.mem_cons_self]
      · rw [if_neg (fun q => e ((nI_eq (by omega) (by omega)).mp q))]
        by_cases d : a ∈ r
        · rw [if_pos d, if_pos (List.mem_cons_of_mem _ d)]
        · rw [if_neg d, if_neg (fun q => (List.mem_cons.mp q).elim (fun q => e q.symm) d)]
  have := key _ 0 (N - (os_r D R b).length - 1) (Nat.zero_le _) rfl
  rw [List.drop_zero, show N - (os_r D R b).length - 1 + (os_r D R b).length + 1 = N by omega, Nat.add_zero] at this
  unfold f_Mo_isNeighbour
  rw [e28]
  exact this
def os_q (D R : Nat → Int32) (a b : Nat) : Bool := decide (a ∉ os_r D R b)
theorem os_unret {N : Nat} (hN : 64 ≤ N) {D R isN : Nat → Int32} (hG : os_G D R isN) {a : Nat} (ha : os_N isN a) : f_Li_unreturned N D R (nI a) = some (nI ((os_r D R a).filter (os_q D R a)).length) := by
  obtain ⟨g1, g2, g3, g4⟩ := hG a ha
  have ha30 := ha.1
  have key : ∀ (r : List Nat) (i m t : Nat), i ≤ (os_r D R a).length → (os_r D R a).drop i = r → f_Li_unreturned_4 N D R (nI a) (m + r.length + 1) (nI t) (nI i) = some (nI (t + (r.filter (os_q D R a)).length)) := by
    intro r
    induction r with
    | nil =>
      intro i m t hi h
      have := ch_nil h
      rw [f_Li_unreturned_4]
      unfold f_Li_degree
      rw [show nI a * 4 + 0 = nI (4 * a) from wk_x4 a 0, pb_at (show 4 * a < 120 by omega) (by decide), pd_cl (show 4 * a < 2147483648 by omega), g1.1, Option.bind_some, if_pos (nI_le this (by omega))]
      rfl
    | cons c r ih =>
      intro i m t hi h
      obtain ⟨h1, h2, h3, h4⟩ := ch_dr h
      have hc := g4 c h4
      rw [List.length_cons, show m + (r.length + 1) + 1 = (m + r.length + 1) + 1 from rfl, f_Li_unreturned_4]
      unfold f_Li_degree f_Li_linked
      rw [show nI a * 4 + 0 = nI (4 * a) from wk_x4 a 0, pb_at (show 4 * a < 120 by omega) (by decide), pd_cl (show 4 * a < 2147483648 by omega), g1.1, Option.bind_some, if_neg (nI_ge h1 (by omega)), wk_x7, pb_at (show 7 * (4 * a) + i < 840 by omega) (by decide), pd_cl (show 7 * (4 * a) + i < 2147483648 by omega), g1.2 i h1, h2, Option.bind_some, os_linked hN hG hc ha30, Option.bind_some, nI_1, nI_1, List.filter_cons]
      by_cases d : a ∈ os_r D R c
      · simp only [if_pos d, if_neg pz_10]
        rw [if_neg (show ¬ os_q D R a c = true by unfold os_q; simp [d])]
        exact ih (i + 1) m t h1 h3
      · simp only [if_neg d, if_true]
        rw [if_pos (show os_q D R a c = true by unfold os_q; simp [d]), List.length_cons, show t + ((r.filter (os_q D R a)).length + 1) = (t + 1) + (r.filter (os_q D R a)).length by omega]
        exact ih (i + 1) m (t + 1) h1 h3
  have := key _ 0 (N - (os_r D R a).length - 1) 0 (Nat.zero_le _) rfl
  rw [List.drop_zero, show N - (os_r D R a).length - 1 + (os_r D R a).length + 1 = N by omega, Nat.zero_add] at this
  exact this
theorem os_12 {N : Nat} (hN : 64 ≤ N) {D R isN : Nat → Int32} (hG : os_G D R isN) {a : Nat} (ha : os_N isN a) (kk : Int32 → Int32 → Option Int32) (t : Nat) : ∀ (k j m : Nat), j + k = 30 → f_Mo_oneSided_12 N isN R D (nI a) kk (m + k + 1) (nI (t + (so_set (pn_lt (fun _ => 0)) (fun b => decide (isN b ≠ 0) && (decide (b ∈ os_r D R a) && os_q D R a b)) j).length)) (nI j) = kk (nI (t + (so_set (pn_lt (fun _ => 0)) (fun b => decide (isN b ≠ 0) && (decide (b ∈ os_r D R a) && os_q D R a b)) 30).length)) (nI 30) := by
  have ha30 := ha.1
  intro k
  induction k with
  | zero =>
    intro j m hj
    have : j = 30 := by omega
    subst this
    rw [f_Mo_oneSided_12, if_pos (by decide)]
  | succ k ih =>
    intro j m hj
    have hj30 : j < 30 := by omega
    have hI := ih (j + 1) m (by omega)
    rw [be_len] at hI
    rw [show m + (k + 1) + 1 = (m + k + 1) + 1 from rfl, f_Mo_oneSided_12, if_neg (show ¬ (30 : Int32) ≤ nI j from nI_ge (b := 30) (by omega) (by omega)), pb_at ha30 (by decide), pb_at hj30 (by decide), pd_cl (show a < 2147483648 by omega), pd_cl (show j < 2147483648 by omega), if_neg ha.2, nI_1, nI_1]
    by_cases c : isN j = 0
    · rw [if_pos c]
      rw [if_neg (show ¬ (decide (isN j ≠ 0) && (decide (j ∈ os_r D R a) && os_q D R a j)) = true by simp [c])] at hI
      exact hI
    · rw [if_neg c, os_neighbour hN hG ha hj30, Option.bind_some]
      by_cases d : j ∈ os_r D R a
      · simp only [if_pos d, if_neg pz_10]
        rw [os_neighbour hN hG ⟨hj30, c⟩ ha30, Option.bind_some]
        by_cases e : a ∈ os_r D R j
        · simp only [if_pos e, if_neg pz_10]
          rw [if_neg (show ¬ (decide (isN j ≠ 0) && (decide (j ∈ os_r D R a) && os_q D R a j)) = true by unfold os_q; simp [e])] at hI
          exact hI
        · simp only [if_neg e, if_true]
          rw [if_pos (show (decide (isN j ≠ 0) && (decide (j ∈ os_r D R a) && os_q D R a j)) = true by unfold os_q; simp [c, d, e])] at hI
          exact hI
      · simp only [if_neg d, if_true]
        rw [if_neg (show ¬ (decide (isN j ≠ 0) && (decide (j ∈ os_r D R a) && os_q D R a j)) = true by simp [d])] at hI
        exact hI
theorem os_12z {N : Nat} {D R isN : Nat → Int32} {a : Nat} (ha : a < 30) (h0 : isN a = 0) (kk : Int32 → Int32 → Option Int32) (t : Int32) : ∀ (k j m : Nat), j + k = 30 → f_Mo_oneSided_12 N isN R D (nI a) kk (m + k + 1) t (nI j) = kk t (nI 30) := by
  intro k
  induction k with
  | zero =>
    intro j m hj
    have : j = 30 := by omega
    subst this
    rw [f_Mo_oneSided_12, if_pos (by decide)]
  | succ k ih =>
    intro j m hj
    rw [show m + (k + 1) + 1 = (m + k + 1) + 1 from rfl, f_Mo_oneSided_12, if_neg (show ¬ (30 : Int32) ≤ nI j from nI_ge (b := 30) (by omega) (by omega)), pb_at ha (by decide), pd_cl (show a < 2147483648 by omega), if_pos h0, nI_1]
    exact ih (j + 1) m (by omega)
theorem os_len {l1 l2 : List Nat} (h1 : l1.Nodup) (h2 : l2.Nodup) (h : ∀ a, a ∈ l1 ↔ a ∈ l2) : l1.length = l2.length := ((List.perm_ext_iff_of_nodup h1 h2).mpr h).length_eq
theorem os_same {D R isN : Nat → Int32} (hG : os_G D R isN) {a : Nat} (ha : os_N isN a) : (so_set (pn_lt (fun _ => 0)) (fun b => decide (isN b ≠ 0) && (decide (b ∈ os_r D R a) && os_q D R a b)) 30).length = ((os_r D R a).filter (os_q D R a)).length := by
  obtain ⟨g1, g2, g3, g4⟩ := hG a ha
  have T := pn_T (fun _ => 0)
  refine os_len (so_nodup T (so_set_ok T _)) (g2.filter _) (fun b => ?_)
  rw [so_set_mem, List.mem_filter, Bool.and_eq_true, Bool.and_eq_true, decide_eq_true_iff, decide_eq_true_iff]
  exact ⟨fun q => ⟨q.2.2.1, q.2.2.2⟩, fun q => ⟨(g4 b q.1).1, (g4 b q.1).2, q.1, q.2⟩⟩
theorem os_count {N : Nat} (hN : 64 ≤ N) {ord lev D R isN ent : Nat → Int32} {sz entry entryM : Int32} (hE : en_R ord lev D R isN ent sz entry entryM) : ∃ r, f_Li_oneSidedPairs N ord D R = some r ∧ f_Mo_oneSided N isN R D = some r := by
  have hG : os_G D R isN := os_of (hE.2.2.2.1 0 (by decide))
  have key : ∀ (k j m1 m2 t : Nat), j + k = 30 → ∃ r, f_Li_oneSidedPairs_4 N ord D R (m1 + k + 1) (nI t) (nI j) = some r ∧ f_Mo_oneSided_4 N isN R D (m2 + k + 1) (nI t) (nI j) = some r := by
    intro k
    induction k with
    | zero =>
      intro j m1 m2 t hj
      have : j = 30 := by omega
      subst this
      refine ⟨nI t, ?_, ?_⟩
      · rw [f_Li_oneSidedPairs_4, if_pos (by decide)]
      · rw [f_Mo_oneSided_4, if_pos (by decide)]
    | succ k ih =>
      intro j m1 m2 t hj
      have hj30 : j < 30 := by omega
      rw [show m1 + (k + 1) + 1 = (m1 + k + 1) + 1 from rfl, f_Li_oneSidedPairs_4, if_neg (show ¬ (30 : Int32) ≤ nI j from nI_ge (b := 30) (by omega) (by omega)), fo_isNode hE hj30, Option.bind_some, show m2 + (k + 1) + 1 = (m2 + k + 1) + 1 from rfl, f_Mo_oneSided_4, if_neg (show ¬ (30 : Int32) ≤ nI j from nI_ge (b := 30) (by omega) (by omega))]
      by_cases c : isN j = 0
      · have hz := os_12z (N := N) (D := D) (R := R) hj30 c (fun v1_2 v3_2 => (f_Mo_oneSided_4 N isN R D (m2 + k + 1) v1_2 (nI j + 1))) (nI t) 30 0 (N - 31) (by omega)
        rw [show N - 31 + 30 + 1 = N by omega] at hz
        simp only [if_pos c, if_true]
        rw [show f_Mo_oneSided_12 N isN R D (nI j) (fun v1_2 v3_2 => (f_Mo_oneSided_4 N isN R D (m2 + k + 1) v1_2 (nI j + 1))) N (nI t) 0 = _ from hz, nI_1]
        exact ih (j + 1) m1 m2 t (by omega)
      · have hz := os_12 (N := N) hN hG ⟨hj30, c⟩ (fun v1_2 v3_2 => (f_Mo_oneSided_4 N isN R D (m2 + k + 1) v1_2 (nI j + 1))) t 30 0 (N - 31) (by omega)
        rw [show N - 31 + 30 + 1 = N by omega, os_same hG ⟨hj30, c⟩] at hz
        simp only [if_neg c, if_neg pz_10]
        rw [os_unret hN hG ⟨hj30, c⟩, Option.bind_some, nI_add]
        rw [show f_Mo_oneSided_12 N isN R D (nI j) (fun v1_2 v3_2 => (f_Mo_oneSided_4 N isN R D (m2 + k + 1) v1_2 (nI j + 1))) N (nI t) 0 = _ from hz, nI_1]
        exact ih (j + 1) m1 m2 _ (by omega)
  obtain ⟨r, e1, e2⟩ := key 30 0 (N - 31) (N - 31) 0 (by omega)
  rw [show N - 31 + 30 + 1 = N by omega] at e1 e2
  exact ⟨r, e1, e2⟩
