/-! PURE: lists in a strict total order -/
def so_T (lt : Nat → Nat → Bool) : Prop := (∀ a, lt a a = false) ∧ (∀ a b c, lt a b = true → lt b c = true → lt a c = true) ∧ ∀ a b, a ≠ b → lt a b = true ∨ lt b a = true
def so_ok (lt : Nat → Nat → Bool) (l : List Nat) : Prop := List.Pairwise (fun a b => lt a b = true) l
def so_ins (lt : Nat → Nat → Bool) (x : Nat) : List Nat → List Nat
  | [] => [x]
  | y :: l => if lt x y = true then x :: y :: l else y :: so_ins lt x l
theorem so_mem {lt : Nat → Nat → Bool} {x a : Nat} : ∀ {l : List Nat}, a ∈ so_ins lt x l ↔ a = x ∨ a ∈ l
  | [] => by simp [so_ins]
  | y :: l => by
    unfold so_ins
    by_cases h : lt x y = true
    · rw [if_pos h]; simp
    · rw [if_neg h]
      simp only [List.mem_cons, so_mem (l := l)]
      constructor
      · rintro (h1 | h1 | h1)
        · exact Or.inr (Or.inl h1)
        · exact Or.inl h1
        · exact Or.inr (Or.inr h1)
      · rintro (h1 | h1 | h1)
        · exact Or.inr (Or.inl h1)
        · exact Or.inl h1
        · exact Or.inr (Or.inr h1)
theorem so_len {lt : Nat → Nat → Bool} {x : Nat} : ∀ {l : List Nat}, (so_ins lt x l).length = l.length + 1
  | [] => rfl
  | y :: l => by
    unfold so_ins
    by_cases h : lt x y = true
    · rw [if_pos h]; simp
    · rw [if_neg h]
      simp only [List.length_cons, so_len (l := l)]
theorem so_ins_ok {lt : Nat → Nat → Bool} (T : so_T lt) {x : Nat} : ∀ {l : List Nat}, so_ok lt l → x ∉ l → so_ok lt (so_ins lt x l)
  | [], _, _ => by simp [so_ins, so_ok]
  | y :: l, hs, hx => by
    unfold so_ins
    have h1 := List.pairwise_cons.mp hs
    by_cases h : lt x y = true
    · rw [if_pos h]
      refine List.pairwise_cons.mpr ⟨fun a ha => ?_, hs⟩
      rcases List.mem_cons.mp ha with rfl | ha
      · exact h
      · exact T.2.1 _ _ _ h (h1.1 a ha)
    · rw [if_neg h]
      have hne : x ≠ y := fun e => hx (by rw [e]; exact List.mem_cons_self)
      refine List.pairwise_cons.mpr ⟨fun a ha => ?_, so_ins_ok T h1.2 (fun q => hx (List.mem_cons_of_mem _ q))⟩
      rcases so_mem.mp ha with rfl | ha
      · rcases T.2.2 _ _ hne with q | q
        · exact absurd q h
        · exact q
      · exact h1.1 a ha
theorem so_asym {lt : Nat → Nat → Bool} (T : so_T lt) {a b : Nat} (h : lt a b = true) : ¬ lt b a = true := fun q => by
  have := T.2.1 _ _ _ h q
  rw [T.1] at this
  cases this
/-- a list in order is what its members say -/
theorem so_uniq {lt : Nat → Nat → Bool} (T : so_T lt) : ∀ {l1 l2 : List Nat}, so_ok lt l1 → so_ok lt l2 → (∀ a, a ∈ l1 ↔ a ∈ l2) → l1 = l2
  | [], [], _, _, _ => rfl
  | [], b :: l2, _, _, h => absurd ((h b).mpr List.mem_cons_self) List.not_mem_nil
  | a :: l1, [], _, _, h => absurd ((h a).mp List.mem_cons_self) List.not_mem_nil
  | a :: l1, b :: l2, h1, h2, h => by
    have p1 := List.pairwise_cons.mp h1
    have p2 := List.pairwise_cons.mp h2
    have e : a = b := by
      rcases List.mem_cons.mp ((h a).mp List.mem_cons_self) with q | q
      · exact q
      · rcases List.mem_cons.mp ((h b).mpr List.mem_cons_self) with r | r
        · exact r.symm
        · exact absurd (p1.1 b r) (so_asym T (p2.1 a q))
    subst e
    have n1 : a ∉ l1 := fun q => by have := p1.1 a q; rw [T.1] at this; cases this
    have n2 : a ∉ l2 := fun q => by have := p2.1 a q; rw [T.1] at this; cases this
    rw [so_uniq T p1.2 p2.2 (fun x => by
      constructor
      · intro q
        rcases List.mem_cons.mp ((h x).mp (List.mem_cons_of_mem _ q)) with r | r
        · exact absurd (r ▸ q) n1
        · exact r
      · intro q
        rcases List.mem_cons.mp ((h x).mpr (List.mem_cons_of_mem _ q)) with r | r
        · exact absurd (r ▸ q) n2
        · exact r)]
theorem so_nodup {lt : Nat → Nat → Bool} (T : so_T lt) {l : List Nat} (h : so_ok lt l) : l.Nodup := by
  refine List.Pairwise.imp (fun {a b} (q : lt a b = true) (e : a = b) => ?_) h
  rw [e, T.1] at q
  cases q
/-- the members of a set of numbers below n, in order -/
def so_set (lt : Nat → Nat → Bool) (P : Nat → Bool) : Nat → List Nat
  | 0 => []
  | n + 1 => if P n = true then so_ins lt n (so_set lt P n) else so_set lt P n
theorem so_set_mem {lt : Nat → Nat → Bool} {P : Nat → Bool} {a : Nat} : ∀ {n : Nat}, a ∈ so_set lt P n ↔ a < n ∧ P a = true
  | 0 => by simp [so_set]
  | n + 1 => by
    unfold so_set
    by_cases h : P n = true
    · rw [if_pos h, so_mem, so_set_mem (n := n)]
      constructor
      · rintro (rfl | ⟨h1, h2⟩)
        · exact ⟨Nat.lt_succ_self _, h⟩
        · exact ⟨Nat.lt_succ_of_lt h1, h2⟩
      · rintro ⟨h1, h2⟩
        rcases Nat.lt_or_eq_of_le (Nat.le_of_lt_succ h1) with q | q
        · exact Or.inr ⟨q, h2⟩
        · exact Or.inl q
    · rw [if_neg h, so_set_mem (n := n)]
      constructor
      · rintro ⟨h1, h2⟩
        exact ⟨Nat.lt_succ_of_lt h1, h2⟩
      · rintro ⟨h1, h2⟩
        rcases Nat.lt_or_eq_of_le (Nat.le_of_lt_succ h1) with q | q
        · exact ⟨q, h2⟩
        · exact absurd (q ▸ h2) h
theorem so_set_ok {lt : Nat → Nat → Bool} (T : so_T lt) {P : Nat → Bool} : ∀ (n : Nat), so_ok lt (so_set lt P n)
  | 0 => List.Pairwise.nil
  | n + 1 => by
    unfold so_set
    by_cases h : P n = true
    · rw [if_pos h]
      exact so_ins_ok T (so_set_ok T n) (fun q => absurd (so_set_mem.mp q).1 (Nat.lt_irrefl _))
    · rw [if_neg h]
      exact so_set_ok T n
