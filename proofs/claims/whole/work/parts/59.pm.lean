/-! PURE: sets as bits of one number -/
theorem pm_s : ∀ n, n < 32 → ((nI n &&& 31).toBitVec.smod 32).toNat = n := by decide
theorem pm_isIn (N : Nat) {M n : Nat} (hM : M < 2 ^ 30) (hn : n < 30) : f_Nd_isIn N (nI M) (nI n) = some (if M.testBit n = true then 1 else 0) := by
  unfold f_Nd_isIn
  rw [pk_shrN (by omega) _ n (pm_s n (by omega)), show (1 : Int32) = nI 1 from rfl, pk_andN (m := nI 1) (n := M / 2 ^ n) (by have := Nat.div_le_self M (2 ^ n); omega) 1 rfl]
  have e : M.testBit n = decide (M / 2 ^ n % 2 = 1) := Nat.testBit_eq_decide_div_mod_eq
  rw [e]
  rcases Nat.mod_two_eq_zero_or_one (M / 2 ^ n) with h | h
  · simp [h, nI_0]
  · simp [h]
    decide
theorem pm_or (a b : Nat) : nI a ||| nI b = nI (a ||| b) := by
  apply Int32.toBitVec_inj.mp
  show (nI a).toBitVec ||| (nI b).toBitVec = (nI (a ||| b)).toBitVec
  show BitVec.ofNat 32 a ||| BitVec.ofNat 32 b = BitVec.ofNat 32 (a ||| b)
  apply BitVec.eq_of_getLsbD_eq
  intro i hi
  simp [BitVec.getLsbD_or, BitVec.getLsbD_ofNat, hi]
theorem pm_shl {n : Nat} (hn : n < 30) : (1 : Int32) <<< (nI n &&& 31) = nI (2 ^ n) := by
  have h : 2 ^ n < 2 ^ 30 := Nat.pow_lt_pow_right (by decide) hn
  rw [show (1 : Int32) = nI 1 from rfl, pk_shlN _ n (pm_s n (by omega)) (by omega), Nat.one_mul]
theorem pm_set {M n : Nat} (hn : n < 30) : nI M ||| ((1 : Int32) <<< (nI n &&& 31)) = nI (M ||| 2 ^ n) := by
  rw [pm_shl hn, pm_or]
theorem pm_set_lt {M n : Nat} (hM : M < 2 ^ 30) (hn : n < 30) : M ||| 2 ^ n < 2 ^ 30 := Nat.or_lt_two_pow hM (Nat.pow_lt_pow_right (by decide) hn)
theorem pm_set_bit (M n i : Nat) : (M ||| 2 ^ n).testBit i = (M.testBit i || decide (n = i)) := by
  rw [Nat.testBit_or, Nat.testBit_two_pow]
