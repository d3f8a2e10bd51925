/-! PURE: the rest of a ranking -/
theorem pl_lastPrecedes {N : Nat} {gf : Int32} {key : Nat → Int32} {lt : Nat → Nat → Bool} {n : Nat} {l : List Nat} (hp : ∀ a b, a < 30 → b < 30 → f_Rk_precedes N gf (nI a) (key a) (nI b) (key b) = some (if lt a b = true then 1 else 0)) (hn : n < 30) (hl : ∀ a ∈ l, a < 30) (hlen : l.length ≤ 30) (nums vals : Nat → Int32) (hA : pr_A key l nums vals) :
    f_Rk_lastPrecedes N nums vals (nI l.length) gf (nI n) (key n) = some (match l.getLast? with | none => 0 | some y => if lt y n = true then 1 else 0) := by
  unfold f_Rk_lastPrecedes
  cases hd : l.getLast? with
  | none =>
    have h0 : l = [] := List.getLast?_eq_none_iff.mp hd
    subst h0
    rw [if_pos (show nI ([] : List Nat).length ≤ 0 by decide)]
  | some y =>
    obtain ⟨hy, hpos⟩ := pa_last hd
    obtain ⟨q, hq⟩ : ∃ q, l.length = q + 1 := ⟨l.length - 1, by omega⟩
    have a1 := hA q (by omega)
    rw [show l.length - 1 = q by omega] at hy
    rw [hy] at a1
    rw [hq, if_neg (nI_nle (by omega) (by omega)), nI_pred, pb_at (show q < 30 by omega) (by decide), pb_at (show q < 30 by omega) (by decide), pd_cl (show q < 2147483648 by omega), a1.1, a1.2, hp y n (hl y (List.mem_of_getLast? hd)) hn, Option.bind_some]
    by_cases c : lt y n = true
    · simp only [if_pos c]
      rw [if_neg (show ¬ (1 : Int32) = 0 by decide)]
    · simp only [if_neg c]
      rw [if_pos trivial]
theorem pl_isFull (N : Nat) {a b : Nat} (ha : a ≤ 30) (hb : b ≤ 30) : f_Rk_isFull N (nI a) (nI b) = some (if b ≤ a then 1 else 0) := by
  unfold f_Rk_isFull
  by_cases c : b ≤ a
  · rw [if_neg (nI_nlt c (by omega)), if_pos c]
  · rw [if_pos (nI_lt (show a < b by omega) (by omega)), if_neg c]
theorem pl_min {a : Nat} (ha : a ≤ 30) : (if (30 : Int32) < nI a then 30 else nI a) = nI a := by
  rw [if_neg (show ¬ (30 : Int32) < nI a from nI_nlt (a := 30) (b := a) ha (by decide))]
theorem pl_start (N : Nat) {r : Nat} (hr : r ≤ 30) : f_Rk_start N (nI r) 0 = some (0, nI r, 0) ∧ f_Rk_start N (nI r) 1 = some (0, nI r, 1) := by
  unfold f_Rk_start
  rw [if_neg (show ¬ (0 : Int32) = 1 by decide), if_pos rfl, pl_min hr]
  exact ⟨rfl, rfl⟩
theorem pl_changeRoom (N : Nat) {s r : Nat} (hs : s ≤ 30) (hr : r ≤ 30) : f_Rk_changeRoom N (nI s) (nI r) = some (nI (min s r), nI r) := by
  unfold f_Rk_changeRoom
  rw [pl_min hr]
  by_cases c : r < s
  · rw [if_pos (nI_lt c (by omega)), Nat.min_eq_right (by omega)]
  · rw [if_neg (nI_nlt (show s ≤ r by omega) (by omega)), Nat.min_eq_left (by omega)]
theorem pl_take {key : Nat → Int32} {l : List Nat} {nums vals : Nat → Int32} (h : pr_A key l nums vals) (r : Nat) : pr_A key (l.take r) nums vals := by
  intro i hi
  rw [List.length_take] at hi
  have := h i (by omega)
  rw [List.getD_eq_getElem?_getD, List.getElem?_take_of_lt (by omega), ← List.getD_eq_getElem?_getD]
  exact this
