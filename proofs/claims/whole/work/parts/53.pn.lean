/-! PURE: the nearer of two, the nearest and the farthest of a set -/
def pn_lt (key : Nat → Int32) (a b : Nat) : Bool := decide (key a < key b ∨ key a = key b ∧ a < b)
theorem pn_T (key : Nat → Int32) : so_T (pn_lt key) := by
  refine ⟨fun a => ?_, fun a b c h1 h2 => ?_, fun a b h => ?_⟩
  · unfold pn_lt
    rw [decide_eq_false_iff_not]
    rintro (h | ⟨-, h⟩)
    · exact absurd h (by rw [Int32.lt_iff_toInt_lt]; omega)
    · omega
  · unfold pn_lt at h1 h2 ⊢
    rw [decide_eq_true_iff] at h1 h2 ⊢
    rw [Int32.lt_iff_toInt_lt, ← Int32.toInt_inj] at h1 h2 ⊢
    omega
  · unfold pn_lt
    rw [decide_eq_true_iff, decide_eq_true_iff, Int32.lt_iff_toInt_lt, Int32.lt_iff_toInt_lt, ← Int32.toInt_inj, ← Int32.toInt_inj]
    omega
/-- the distances to the aim, as the reference computes them -/
def pn_key (vec aim : Nat → Int32) (n : Nat) : Int32 := pd_sum (pd_F (fun j => vec (4 * n + j)) aim) 4
theorem pn_isNearer {N : Nat} (hN : 5 ≤ N) (vec aim : Nat → Int32) {a b : Nat} (ha : a < 30) (hb : b < 30) : f_Mo_isNearer N vec aim (nI a) (nI b) = some (if pn_lt (pn_key vec aim) a b = true then 1 else 0) := by
  unfold f_Mo_isNearer
  rw [pd_far hN vec aim ha, pd_far hN vec aim hb]
  simp only [Option.bind_some]
  have e : (pn_lt (pn_key vec aim) a b = true) = (pd_sum (pd_F (fun j => vec (4 * a + j)) aim) 4 < pd_sum (pd_F (fun j => vec (4 * b + j)) aim) 4 ∨ pd_sum (pd_F (fun j => vec (4 * a + j)) aim) 4 = pd_sum (pd_F (fun j => vec (4 * b + j)) aim) 4 ∧ a < b) := by
    unfold pn_lt pn_key
    rw [decide_eq_true_iff]
  generalize pd_sum (pd_F (fun j => vec (4 * a + j)) aim) 4 = u at e ⊢
  generalize pd_sum (pd_F (fun j => vec (4 * b + j)) aim) 4 = v at e ⊢
  by_cases h1 : u < v
  · rw [if_pos h1, if_pos (by rw [e]; exact Or.inl h1)]
  · rw [if_neg h1]
    by_cases h2 : u = v
    · rw [if_pos h2]
      by_cases h3 : a < b
      · rw [if_neg (show ¬ nI b ≤ nI a from nI_ge h3 (by omega)), if_pos (by rw [e]; exact Or.inr ⟨h2, h3⟩)]
      · rw [if_pos (show nI b ≤ nI a from nI_le (by omega) (by omega)), if_neg (by rw [e]; exact fun q => q.elim h1 (fun q => h3 q.2))]
    · rw [if_neg h2, if_neg (by rw [e]; exact fun q => q.elim h1 (fun q => h2 q.1))]
def pn_P (P : Nat → Int32) (n : Nat) : Bool := decide (P n ≠ 0)
def pn_o (o : Option Nat) : Int32 := match o with
  | none => -1
  | some a => nI a
theorem pn_head {lt : Nat → Nat → Bool} {x : Nat} : ∀ {l : List Nat}, (so_ins lt x l).head? = some (match l.head? with | none => x | some y => if lt x y = true then x else y)
  | [] => rfl
  | y :: l => by
    unfold so_ins
    by_cases h : lt x y = true
    · simp [h]
    · simp [h]
theorem pn_step {lt : Nat → Nat → Bool} {P : Nat → Int32} {j : Nat} : so_set lt (pn_P P) (j + 1) = if P j = 0 then so_set lt (pn_P P) j else so_ins lt j (so_set lt (pn_P P) j) := by
  rw [so_set]
  by_cases h : P j = 0
  · rw [if_pos h, if_neg (by unfold pn_P; rw [decide_eq_true_iff]; exact fun q => q h)]
  · rw [if_neg h, if_pos (by unfold pn_P; rw [decide_eq_true_iff]; exact h)]
theorem pn_hlt {lt : Nat → Nat → Bool} {P : Nat → Bool} {n a : Nat} (h : (so_set lt P n).head? = some a) : a < n := (so_set_mem.mp (List.mem_of_mem_head? h)).1
theorem pn_neg {a : Nat} (h : a < 30) : ¬ nI a < 0 := nI_pos (by omega)
theorem pn_nearest_open_4 {N : Nat} (hN : 5 ≤ N) (vec aim P : Nat → Int32) : ∀ (k j m : Nat), j + k = 30 → f_Mo_nearest_open_4 N vec aim P (m + k + 1) (pn_o (so_set (pn_lt (pn_key vec aim)) (pn_P P) j).head?) (nI j) = some (pn_o (so_set (pn_lt (pn_key vec aim)) (pn_P P) 30).head?) := by
  intro k
  induction k with
  | zero =>
    intro j m h
    have hj : j = 30 := by omega
    subst hj
    rw [f_Mo_nearest_open_4, if_pos (by decide)]
  | succ k ih =>
    intro j m h
    have h1 := ih (j + 1) m (by omega)
    rw [pn_step] at h1
    rw [show m + (k + 1) + 1 = (m + k + 1) + 1 from rfl, f_Mo_nearest_open_4, if_neg (show ¬ (30 : Int32) ≤ nI j from nI_ge (show j < 30 by omega) (by decide)), pb_at (show j < 30 by omega) (by decide), pd_cl (show j < 2147483648 by omega), nI_1]
    by_cases c : P j = 0
    · rw [if_pos c] at h1 ⊢
      exact h1
    · rw [if_neg c] at h1 ⊢
      rw [pn_head] at h1
      cases hd : (so_set (pn_lt (pn_key vec aim)) (pn_P P) j).head? with
      | none =>
        rw [hd] at h1
        rw [if_pos (show pn_o none < 0 by decide)]
        exact h1
      | some y =>
        rw [hd] at h1
        have hy : y < 30 := Nat.lt_of_lt_of_le (pn_hlt hd) (by omega)
        rw [if_neg (show ¬ pn_o (some y) < 0 from pn_neg hy)]
        show (f_Mo_isNearer N vec aim (nI j) (nI y)).bind _ = _
        rw [pn_isNearer hN vec aim (show j < 30 by omega) hy, Option.bind_some]
        by_cases q : pn_lt (pn_key vec aim) j y = true
        · simp only [if_pos q] at h1 ⊢
          rw [if_neg (show ¬ (1 : Int32) = 0 by decide)]
          exact h1
        · simp only [if_neg q] at h1 ⊢
          rw [if_pos trivial]
          exact h1
theorem pn_nearest_open {N : Nat} (hN : 31 ≤ N) (vec aim P : Nat → Int32) : f_Mo_nearest_open N vec aim P = some (pn_o (so_set (pn_lt (pn_key vec aim)) (pn_P P) 30).head?) := by
  have h := pn_nearest_open_4 (show 5 ≤ N by omega) vec aim P 30 0 (N - 31) rfl
  rw [show N - 31 + 30 + 1 = N by omega] at h
  exact h
theorem pn_nearest_held_4 {N : Nat} (hN : 5 ≤ N) (vec aim P : Nat → Int32) : ∀ (k j m : Nat), j + k = 30 → f_Mo_nearest_held_4 N vec aim P (m + k + 1) (pn_o (so_set (pn_lt (pn_key vec aim)) (pn_P P) j).head?) (nI j) = some (pn_o (so_set (pn_lt (pn_key vec aim)) (pn_P P) 30).head?) := by
  intro k
  induction k with
  | zero =>
    intro j m h
    have hj : j = 30 := by omega
    subst hj
    rw [f_Mo_nearest_held_4, if_pos (by decide)]
  | succ k ih =>
    intro j m h
    have h1 := ih (j + 1) m (by omega)
    rw [pn_step] at h1
    rw [show m + (k + 1) + 1 = (m + k + 1) + 1 from rfl, f_Mo_nearest_held_4, if_neg (show ¬ (30 : Int32) ≤ nI j from nI_ge (show j < 30 by omega) (by decide)), pb_at (show j < 30 by omega) (by decide), pd_cl (show j < 2147483648 by omega), nI_1]
    by_cases c : P j = 0
    · rw [if_pos c] at h1 ⊢
      exact h1
    · rw [if_neg c] at h1 ⊢
      rw [pn_head] at h1
      cases hd : (so_set (pn_lt (pn_key vec aim)) (pn_P P) j).head? with
      | none =>
        rw [hd] at h1
        rw [if_pos (show pn_o none < 0 by decide)]
        exact h1
      | some y =>
        rw [hd] at h1
        have hy : y < 30 := Nat.lt_of_lt_of_le (pn_hlt hd) (by omega)
        rw [if_neg (show ¬ pn_o (some y) < 0 from pn_neg hy)]
        show (f_Mo_isNearer N vec aim (nI j) (nI y)).bind _ = _
        rw [pn_isNearer hN vec aim (show j < 30 by omega) hy, Option.bind_some]
        by_cases q : pn_lt (pn_key vec aim) j y = true
        · simp only [if_pos q] at h1 ⊢
          rw [if_neg (show ¬ (1 : Int32) = 0 by decide)]
          exact h1
        · simp only [if_neg q] at h1 ⊢
          rw [if_pos trivial]
          exact h1
theorem pn_nearest_held {N : Nat} (hN : 31 ≤ N) (vec aim P : Nat → Int32) : f_Mo_nearest_held N vec aim P = some (pn_o (so_set (pn_lt (pn_key vec aim)) (pn_P P) 30).head?) := by
  have h := pn_nearest_held_4 (show 5 ≤ N by omega) vec aim P 30 0 (N - 31) rfl
  rw [show N - 31 + 30 + 1 = N by omega] at h
  exact h
theorem pn_last {lt : Nat → Nat → Bool} (T : so_T lt) {x : Nat} : ∀ {l : List Nat}, so_ok lt l → x ∉ l → (so_ins lt x l).getLast? = some (match l.getLast? with | none => x | some y => if lt y x = true then x else y)
  | [], _, _ => rfl
  | [y], _, hx => by
    have hne : x ≠ y := fun e => hx (by rw [e]; exact List.mem_cons_self)
    unfold so_ins so_ins
    by_cases h : lt x y = true
    · have h2 := so_asym T h
      simp [h, h2]
    · have h2 : lt y x = true := (T.2.2 _ _ hne).elim (fun q => absurd q h) id
      simp [h, h2]
  | y :: z :: l, hs, hx => by
    have p1 := List.pairwise_cons.mp hs
    unfold so_ins
    by_cases h : lt x y = true
    · rw [if_pos h]
      have hm : ∀ w, (z :: l).getLast? = some w → lt w x = true → False := fun w hw q => by
        have h1 : lt y w = true := p1.1 w (List.mem_of_getLast? hw)
        exact so_asym T (T.2.1 _ _ _ h h1) q
      rw [List.getLast?_cons_cons, List.getLast?_cons_cons]
      cases hw : (z :: l).getLast? with
      | none => simp at hw
      | some w =>
        simp only
        rw [if_neg (hm w hw)]
    · rw [if_neg h]
      have ih := pn_last T p1.2 (fun q => hx (List.mem_cons_of_mem _ q))
      have hne : so_ins lt x (z :: l) ≠ [] := fun q => by have := so_len (lt := lt) (x := x) (l := z :: l); rw [q] at this; simp at this
      obtain ⟨b, t, hbt⟩ := List.exists_cons_of_ne_nil hne
      rw [hbt, List.getLast?_cons_cons, ← hbt, ih, List.getLast?_cons_cons]
