/-! PURE: the farthest of a set, its size -/
theorem pf_llt {lt : Nat → Nat → Bool} {P : Nat → Bool} {n a : Nat} (h : (so_set lt P n).getLast? = some a) : a < n := (so_set_mem.mp (List.mem_of_getLast? h)).1
theorem pf_farthest_held_4 {N : Nat} (hN : 5 ≤ N) (vec aim P : Nat → Int32) : ∀ (k j m : Nat), j + k = 30 → f_Mo_farthest_held_4 N vec aim P (m + k + 1) (pn_o (so_set (pn_lt (pn_key vec aim)) (pn_P P) j).getLast?) (nI j) = some (pn_o (so_set (pn_lt (pn_key vec aim)) (pn_P P) 30).getLast?) := by
  intro k
  induction k with
  | zero =>
    intro j m h
    have hj : j = 30 := by omega
    subst hj
    rw [f_Mo_farthest_held_4, if_pos (by decide)]
  | succ k ih =>
    intro j m h
    have h1 := ih (j + 1) m (by omega)
    rw [pn_step] at h1
    rw [show m + (k + 1) + 1 = (m + k + 1) + 1 from rfl, f_Mo_farthest_held_4, if_neg (show ¬ (30 : Int32) ≤ nI j from nI_ge (show j < 30 by omega) (by decide)), pb_at (show j < 30 by omega) (by decide), pd_cl (show j < 2147483648 by omega), nI_1]
    by_cases c : P j = 0
    · rw [if_pos c] at h1 ⊢
      exact h1
    · rw [if_neg c] at h1 ⊢
      rw [pn_last (pn_T _) (so_set_ok (pn_T _) j) (fun q => absurd (so_set_mem.mp q).1 (Nat.lt_irrefl _))] at h1
      cases hd : (so_set (pn_lt (pn_key vec aim)) (pn_P P) j).getLast? with
      | none =>
        rw [hd] at h1
        rw [if_pos (show pn_o none < 0 by decide)]
        exact h1
      | some y =>
        rw [hd] at h1
        have hy : y < 30 := Nat.lt_of_lt_of_le (pf_llt hd) (by omega)
        rw [if_neg (show ¬ pn_o (some y) < 0 from pn_neg hy)]
        show (f_Mo_isNearer N vec aim (nI y) (nI j)).bind _ = _
        rw [pn_isNearer hN vec aim hy (show j < 30 by omega), Option.bind_some]
        by_cases q : pn_lt (pn_key vec aim) y j = true
        · simp only [if_pos q] at h1 ⊢
          rw [if_neg (show ¬ (1 : Int32) = 0 by decide)]
          exact h1
        · simp only [if_neg q] at h1 ⊢
          rw [if_pos trivial]
          exact h1
theorem pf_farthest_held {N : Nat} (hN : 31 ≤ N) (vec aim P : Nat → Int32) : f_Mo_farthest_held N vec aim P = some (pn_o (so_set (pn_lt (pn_key vec aim)) (pn_P P) 30).getLast?) := by
  have h := pf_farthest_held_4 (show 5 ≤ N by omega) vec aim P 30 0 (N - 31) rfl
  rw [show N - 31 + 30 + 1 = N by omega] at h
  exact h
theorem pf_cnt (lt : Nat → Nat → Bool) (P : Nat → Int32) : ∀ n : Nat, pd_cnt P n = (so_set lt (pn_P P) n).length
  | 0 => rfl
  | n + 1 => by
    rw [pn_step, pd_cnt]
    by_cases c : P n = 0
    · rw [if_pos c, if_pos c]
      exact pf_cnt lt P n
    · rw [if_neg c, if_neg c, so_len, pf_cnt lt P n]
theorem pf_size {N : Nat} (hN : 31 ≤ N) (lt : Nat → Nat → Bool) (P : Nat → Int32) : f_Mo_size N P = some (nI (so_set lt (pn_P P) 30).length) := by
  rw [pd_size hN, pf_cnt lt]
/-- one more, one less: what the list of a set's members does -/
theorem pf_add {lt : Nat → Nat → Bool} (T : so_T lt) {P : Nat → Int32} {x : Nat} {v : Int32} (hx : x < 30) (h0 : P x = 0) (hv : v ≠ 0) : so_set lt (pn_P (upd P x v)) 30 = so_ins lt x (so_set lt (pn_P P) 30) := by
  have hn : x ∉ so_set lt (pn_P P) 30 := fun q => by
    have := (so_set_mem.mp q).2
    unfold pn_P at this
    rw [decide_eq_true_iff] at this
    exact this h0
  refine so_uniq T (so_set_ok T _) (so_ins_ok T (so_set_ok T _) hn) (fun a => ?_)
  rw [so_mem, so_set_mem, so_set_mem]
  unfold pn_P
  simp only [decide_eq_true_iff]
  by_cases e : a = x
  · subst e
    rw [pk_us]
    exact ⟨fun _ => Or.inl rfl, fun _ => ⟨hx, hv⟩⟩
  · rw [pk_un e]
    exact ⟨fun q => Or.inr q, fun q => q.elim (fun r => absurd r e) id⟩
theorem pf_del {lt : Nat → Nat → Bool} (T : so_T lt) {P : Nat → Int32} {x : Nat} : so_set lt (pn_P (upd P x 0)) 30 = (so_set lt (pn_P P) 30).filter (fun a => a != x) := by
  refine so_uniq T (so_set_ok T _) (List.Pairwise.filter _ (so_set_ok T _)) (fun a => ?_)
  rw [List.mem_filter, so_set_mem, so_set_mem]
  unfold pn_P
  simp only [decide_eq_true_iff, bne_iff_ne]
  by_cases e : a = x
  · subst e
    rw [pk_us]
    simp
  · rw [pk_un e]
    simp [e]
