/-! PURE: numbers and small functions -/
theorem pb_at {α : Type} {i n : Nat} {k : Option α} (h : i < n) (hn : n < 2147483648) : g_at (nI i) n k = k := by
  unfold g_at
  rw [if_neg (nI_in h hn)]
theorem pb_in (N : Nat) (a lo hi : Int32) : f_Mo_in N a lo hi = some (if lo ≤ a ∧ a ≤ hi then 1 else 0) := by
  unfold f_Mo_in
  by_cases h1 : a < lo
  · rw [if_pos h1, if_neg (fun q => absurd q.1 (Int32.not_le.mpr h1))]
  · rw [if_neg h1]
    by_cases h2 : hi < a
    · rw [if_pos h2, if_neg (fun q => absurd q.2 (Int32.not_le.mpr h2))]
    · rw [if_neg h2, if_pos ⟨Int32.not_lt.mp h1, Int32.not_lt.mp h2⟩]
theorem pb_isWithin (N : Nat) (a lo hi : Int32) : f_Nd_isWithin N a lo hi = some (if lo ≤ a ∧ a ≤ hi then 1 else 0) := by
  unfold f_Nd_isWithin
  by_cases h1 : a < lo
  · rw [if_pos h1, if_neg (fun q => absurd q.1 (Int32.not_le.mpr h1))]
  · rw [if_neg h1]
    by_cases h2 : hi < a
    · rw [if_pos h2, if_neg (fun q => absurd q.2 (Int32.not_le.mpr h2))]
    · rw [if_neg h2, if_pos ⟨Int32.not_lt.mp h1, Int32.not_lt.mp h2⟩]
theorem pb_bl {α : Type} {c : Prop} [Decidable c] {k : Option α} : g_bl (if c then (1 : Int32) else 0) k = k := by
  unfold g_bl
  by_cases h : c
  · rw [if_pos h, if_pos (Or.inr rfl)]
  · rw [if_neg h, if_pos (Or.inl rfl)]
theorem pb_isCoordinate (N : Nat) (a : Int32) : f_Nd_isCoordinate N a = some (if (0 : Int32) ≤ a ∧ a ≤ 99 then 1 else 0) := by
  unfold f_Nd_isCoordinate
  rw [pb_isWithin, Option.bind_some, pb_bl]
theorem pb_isDocumentNumber (N : Nat) (a : Int32) : f_Nd_isDocumentNumber N a = some (if (0 : Int32) ≤ a ∧ a ≤ 29 then 1 else 0) := by
  unfold f_Nd_isDocumentNumber
  rw [pb_isWithin, Option.bind_some, pb_bl]
