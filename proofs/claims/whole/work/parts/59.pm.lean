/-! PURE: sets as bits of one number -/
theorem pm_s : ∀ n, n < 32 → ((nI n &&& 31).toBitVec.smod 32).toNat = n := by decide
theorem pm_isIn (N : Nat) {M n : Nat} (hM : M < 2 ^ 30) (hn : n < 30) : f_Nd_isIn N (nI M) (nI n) = some (if M.testBit n = true then 1 else 0) := by
  unfold f_Nd_isIn
  rw [pk_shrN (by omega) _ n (pm_s n (by omega)), show (1 : Int32) = nI 1 from rfl, pk_andN (m := nI 1) (n := M / 2 ^ n) (by have := Nat.div_le_self M (2 ^ n); omega) 1 rfl]
  have e : M.testBit n = decide (M / 2 ^ n % 2 = 1) := Nat.testBit_eq_decide_div_mod_eq
  rw [e]
  rcases Nat.mod_two_eq_zero_or_one (M / 2 ^ n) with h | h
  · simp [h, nI_0]
  · simp [h]
    decide
