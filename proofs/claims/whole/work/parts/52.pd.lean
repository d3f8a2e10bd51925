/-! PURE: distances -/
def pd_sum (F : Nat → Int32) : Nat → Int32
  | 0 => 0
  | k + 1 => pd_sum F k + F k
theorem pd_cl {i : Nat} (h : i < 2147483648) : (nI i).toNatClampNeg = i := nI_clamp h
theorem pd_4 (n j : Nat) : (4 : Int32) * nI n + nI j = nI (4 * n + j) := by
  rw [show (4 : Int32) = nI 4 from rfl, pk_mul, nI_add]
def pd_F (u v : Nat → Int32) (j : Nat) : Int32 := (u j - v j) * (u j - v j)
theorem pd_far_4 (N : Nat) (vec aim : Nat → Int32) (n : Nat) (hn : n < 30) : ∀ (k j m : Nat), j + k = 4 → f_Mo_far_4 N vec aim (nI n) (m + k + 1) (pd_sum (pd_F (fun j => vec (4 * n + j)) aim) j) (nI j) = some (pd_sum (pd_F (fun j => vec (4 * n + j)) aim) 4) := by
  intro k
  induction k with
  | zero =>
    intro j m h
    have hj : j = 4 := by omega
    subst hj
    rw [f_Mo_far_4, if_pos (by decide)]
  | succ k ih =>
    intro j m h
    rw [show m + (k + 1) + 1 = (m + k + 1) + 1 from rfl, f_Mo_far_4, if_neg (show ¬ (4 : Int32) ≤ nI j from nI_ge (show j < 4 by omega) (by decide)), pd_4, pb_at (show 4 * n + j < 120 by omega) (by decide), pb_at (show j < 4 by omega) (by decide), pb_at (show 4 * n + j < 120 by omega) (by decide), pb_at (show j < 4 by omega) (by decide), pd_cl (show 4 * n + j < 2147483648 by omega), pd_cl (show j < 2147483648 by omega), nI_1]
    exact ih (j + 1) m (by omega)
theorem pd_far {N : Nat} (hN : 5 ≤ N) (vec aim : Nat → Int32) {n : Nat} (hn : n < 30) : f_Mo_far N vec aim (nI n) = some (pd_sum (pd_F (fun j => vec (4 * n + j)) aim) 4) := by
  obtain ⟨m, rfl⟩ : ∃ m, N = m + 4 + 1 := ⟨N - 5, by omega⟩
  unfold f_Mo_far
  exact pd_far_4 _ vec aim n hn 4 0 m rfl
theorem pd_distance_4 (N : Nat) (u v : Nat → Int32) : ∀ (k j m : Nat), j + k = 4 → f_Nd_distance_4 N u v (m + k + 1) (pd_sum (pd_F u v) j) (nI j) = some (pd_sum (pd_F u v) 4) := by
  intro k
  induction k with
  | zero =>
    intro j m h
    have hj : j = 4 := by omega
    subst hj
    rw [f_Nd_distance_4, if_pos (by decide)]
  | succ k ih =>
    intro j m h
    rw [show m + (k + 1) + 1 = (m + k + 1) + 1 from rfl, f_Nd_distance_4, if_neg (show ¬ (4 : Int32) ≤ nI j from nI_ge (show j < 4 by omega) (by decide)), pb_at (show j < 4 by omega) (by decide), pb_at (show j < 4 by omega) (by decide), pd_cl (show j < 2147483648 by omega), nI_1]
    exact ih (j + 1) m (by omega)
theorem pd_distance {N : Nat} (hN : 5 ≤ N) (u v : Nat → Int32) : f_Nd_distance N u v = some (pd_sum (pd_F u v) 4) := by
  obtain ⟨m, rfl⟩ : ∃ m, N = m + 4 + 1 := ⟨N - 5, by omega⟩
  unfold f_Nd_distance
  exact pd_distance_4 _ u v 4 0 m rfl
/-- how many of the first n are not 0 -/
def pd_cnt (P : Nat → Int32) : Nat → Nat
  | 0 => 0
  | n + 1 => if P n = 0 then pd_cnt P n else pd_cnt P n + 1
theorem pd_size_4 (N : Nat) (P : Nat → Int32) : ∀ (k j m : Nat), j + k = 30 → f_Mo_size_4 N P (m + k + 1) (nI (pd_cnt P j)) (nI j) = some (nI (pd_cnt P 30)) := by
  intro k
  induction k with
  | zero =>
    intro j m h
    have hj : j = 30 := by omega
    subst hj
    rw [f_Mo_size_4, if_pos (by decide)]
  | succ k ih =>
    intro j m h
    rw [show m + (k + 1) + 1 = (m + k + 1) + 1 from rfl, f_Mo_size_4, if_neg (show ¬ (30 : Int32) ≤ nI j from nI_ge (show j < 30 by omega) (by decide)), pb_at (show j < 30 by omega) (by decide), pd_cl (show j < 2147483648 by omega), nI_1, nI_1]
    have h1 := ih (j + 1) m (by omega)
    unfold pd_cnt at h1
    by_cases c : P j = 0
    · rw [if_pos c] at h1 ⊢
      exact h1
    · rw [if_neg c] at h1 ⊢
      exact h1
theorem pd_size {N : Nat} (hN : 31 ≤ N) (P : Nat → Int32) : f_Mo_size N P = some (nI (pd_cnt P 30)) := by
  obtain ⟨m, rfl⟩ : ∃ m, N = m + 30 + 1 := ⟨N - 31, by omega⟩
  unfold f_Mo_size
  exact pd_size_4 _ P 30 0 m rfl
