/-! PURE: the shapes of the functional images -/
def g_at {α : Type} (i : Int32) (n : Nat) (k : Option α) : Option α := if i < 0 ∨ n ≤ i.toNatClampNeg then none else k
theorem g_atE {α : Type} {i : Int32} {n : Nat} {k : Option α} {r : α} (h : g_at i n k = some r) : vp_in i n ∧ k = some r := by
  unfold g_at at h
  by_cases c : i < 0 ∨ n ≤ i.toNatClampNeg
  · rw [if_pos c] at h; cases h
  · rw [if_neg c] at h; exact ⟨c, h⟩
theorem g_inLt {i : Int32} {n : Nat} (h : vp_in i n) : i.toNatClampNeg < n := Nat.not_le.mp fun q => h (Or.inr q)
def g_dv {α : Type} (y : Int32) (k : Option α) : Option α := if y = 0 then none else k
theorem g_dvE {α : Type} {y : Int32} {k : Option α} {r : α} (h : g_dv y k = some r) : ¬ y = 0 ∧ k = some r := by
  unfold g_dv at h
  by_cases c : y = 0
  · rw [if_pos c] at h; cases h
  · rw [if_neg c] at h; exact ⟨c, h⟩
def g_bl {α : Type} (v : Int32) (k : Option α) : Option α := if v = 0 ∨ v = 1 then k else none
theorem g_blE {α : Type} {v : Int32} {k : Option α} {r : α} (h : g_bl v k = some r) : (v = 0 ∨ v = 1) ∧ k = some r := by
  unfold g_bl at h
  by_cases c : v = 0 ∨ v = 1
  · rw [if_pos c] at h; exact ⟨c, h⟩
  · rw [if_neg c] at h; cases h
theorem g_zn {v : Int32} (h : v = 0 ∨ v = 1) : narrow .boolean (.int v) = .int v := by
  rcases h with rfl | rfl <;> rfl
theorem g_bd {α β : Type} {o : Option α} {k : α → Option β} {r : β} (h : o.bind k = some r) : ∃ p, o = some p ∧ k p = some r := Option.bind_eq_some_iff.mp h
/-! THE WORLD: a list of cells, each known by its place; addresses are 'ad place' -/
theorem hs_up {D : va_G} {cl : List vw_C} {A : Nat → Prop} {ws : va_W} {H : Heap} {q : Nat} {e0 e : Nat × va_E} (hP : va_P D cl (ws.set q e) H) (hD : va_D A (ws.set q e)) (m : ws[q]? = some e0) : ∃ w1 : va_W, va_P D cl w1 H ∧ va_D A w1 ∧ (∀ j : Nat, j ≠ q → w1[j]? = ws[j]?) ∧ w1[q]? = some e :=
  ⟨ws.set q e, hP, hD, fun _ h => List.getElem?_set_ne (Ne.symm h), List.getElem?_set_self (List.getElem?_eq_some_iff.mp m).1⟩
