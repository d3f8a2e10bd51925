/-! PURE: a ranking without its first -/
theorem pq_drop_2 {N : Nat} {key : Nat → Int32} {t : List Nat} (ht : t.length < 30) : ∀ (k j m : Nat) (nums vals : Nat → Int32), j + k = t.length + 1 → 1 ≤ j → (∀ i, i + 1 < j → nums i = nI (t.getD i 0) ∧ vals i = key (t.getD i 0)) → (∀ i, j ≤ i → i < t.length + 1 → nums i = nI (t.getD (i - 1) 0) ∧ vals i = key (t.getD (i - 1) 0)) →
    ∃ nums' vals', f_Rk_dropFirst_2 N (nI (t.length + 1)) (m + k + 1) nums vals (nI j) = some (nums', vals', nI t.length) ∧ pr_A key t nums' vals' := by
  intro k
  induction k with
  | zero =>
    intro j m nums vals hj h1 h2 h3
    refine ⟨nums, vals, ?_, fun i hi => h2 i (by omega)⟩
    rw [f_Rk_dropFirst_2, if_pos (nI_le (show t.length + 1 ≤ j by omega) (by omega)), nI_pred]
    by_cases c : 0 < t.length
    · rw [if_pos (show (0 : Int32) < nI t.length from nI_lt (a := 0) c (by omega))]
    · have h0 : t.length = 0 := by omega
      rw [h0]
      rfl
  | succ k ih =>
    intro j m nums vals hj h1 h2 h3
    obtain ⟨q, rfl⟩ : ∃ q, j = q + 1 := ⟨j - 1, by omega⟩
    have hs : f_Rk_dropFirst_2 N (nI (t.length + 1)) (m + (k + 1) + 1) nums vals (nI (q + 1)) = f_Rk_dropFirst_2 N (nI (t.length + 1)) (m + k + 1) (upd nums q (nums (q + 1))) (upd vals q (vals (q + 1))) (nI (q + 1 + 1)) := by
      rw [show m + (k + 1) + 1 = (m + k + 1) + 1 from rfl, f_Rk_dropFirst_2, if_neg (nI_ge (show q + 1 < t.length + 1 by omega) (by omega)), nI_pred]
      simp only [pb_at (show q < 30 by omega) (show 30 < 2147483648 by decide), pb_at (show q + 1 < 30 by omega) (show 30 < 2147483648 by decide), pd_cl (show q < 2147483648 by omega), pd_cl (show q + 1 < 2147483648 by omega), nI_1]
    rw [hs]
    have a1 := h3 (q + 1) (Nat.le_refl _) (by omega)
    refine ih (q + 1 + 1) m _ _ (by omega) (by omega) (fun i hi => ?_) (fun i hi hi2 => ?_)
    · by_cases d : i = q
      · subst d
        rw [pk_us, pk_us]
        exact a1
      · rw [pk_un d, pk_un d]
        exact h2 i (by omega)
    · rw [pk_un (by omega), pk_un (by omega)]
      exact h3 i (by omega) hi2
theorem pq_drop {N : Nat} (hN : 31 ≤ N) {key : Nat → Int32} {y : Nat} {t : List Nat} (ht : t.length < 30) (nums vals : Nat → Int32) (hA : pr_A key (y :: t) nums vals) : ∃ nums' vals', f_Rk_dropFirst N nums vals (nI (y :: t).length) = some (nums', vals', nI t.length) ∧ pr_A key t nums' vals' := by
  have h := pq_drop_2 (N := N) (key := key) ht t.length 1 (N - t.length - 1) nums vals (by omega) (Nat.le_refl _) (fun i hi => absurd hi (by omega)) (fun i h1 h2 => by
    have := hA i (by simpa using h2)
    obtain ⟨j, rfl⟩ : ∃ j, i = j + 1 := ⟨i - 1, by omega⟩
    rw [List.getD_cons_succ] at this
    exact this)
  rw [show N - t.length - 1 + t.length + 1 = N by omega] at h
  exact h
