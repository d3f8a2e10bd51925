/-! THE START: two new objects are related; the law's body -/
theorem hp_i0 : re_R i0_Nd i0_Mo := by
  refine ⟨fun _ _ => 0, fun _ => 0, fun _ => 0, 0, fun _ => 0, fun _ => 0, fun _ => 0, fun _ => 0, fun _ => 0, 0, i0_Wa, i0_Ch, i0_Rk, -2, 0, 0, fun _ => 0, fun _ => 0, 0, 0, 0, i0_Rk, fun _ => 0, fun _ => 0, fun _ => 0, fun _ => 0, fun _ => 0, fun _ => 0, -1, fun _ => 0, fun _ => 0, fun _ => 0, fun _ => 0, fun _ => 0, fun _ => 0, fun _ => 0, fun _ => 0, 0, 0, 0, fun _ => 0, fun _ => 0, fun _ => 0, 0, 0, 0, rfl, rfl, fun _ _ _ _ => rfl, ⟨0, by decide, rfl, fun a ha => ⟨by simp, Or.inl rfl⟩⟩, ?_, by decide, by decide, ⟨0, by decide, rfl, rfl, fun i hi => absurd hi (Nat.not_lt_zero _)⟩⟩
  refine ⟨by rw [rm_zero 30 (fun _ _ => rfl)]; rfl, fun n hn => Or.inl ⟨rfl, rfl⟩, fun n hn => ⟨0, by decide, rfl⟩, fun j hj o ho => absurd rfl ho.2, Or.inl ⟨rfl, rfl, fun n hn => rfl⟩⟩
theorem hp_pure (L : Nat) (xs : Nat → Int32) (hL : L ≤ 3072) : f_La_law 4096 L xs 4096 i0_Nd i0_Mo 0 = some 1 := by
  have h := hp_law (N := 4096) (by decide) hL xs 600 0 3495 i0_Nd i0_Mo (by omega) (by omega) hp_i0
  rw [show 3495 + 600 + 1 = 4096 from rfl] at h
  exact h
