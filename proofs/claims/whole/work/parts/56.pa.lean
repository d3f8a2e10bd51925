/-! PURE: a ranking with room: what add does -/
def pa_add (lt : Nat → Nat → Bool) (room x : Nat) (l : List Nat) : Bool × List Nat := if l.length < room then (true, so_ins lt x l) else match l.getLast? with
  | none => (false, l)
  | some y => if lt x y = true then (true, so_ins lt x l.dropLast) else (false, l)
theorem pa_drop {l : List Nat} {i : Nat} (h : i < l.dropLast.length) : l.dropLast.getD i 0 = l.getD i 0 := by
  have h2 : i < l.length := by rw [List.length_dropLast] at h; omega
  rw [List.getD_eq_getElem?_getD, List.getD_eq_getElem?_getD, List.getElem?_eq_getElem h, List.getElem?_eq_getElem h2, List.getElem_dropLast]
theorem pa_last {l : List Nat} {y : Nat} (h : l.getLast? = some y) : l.getD (l.length - 1) 0 = y ∧ 0 < l.length := by
  have hne : l ≠ [] := fun q => by rw [q] at h; cases h
  have hpos : 0 < l.length := List.length_pos_iff.mpr hne
  refine ⟨?_, hpos⟩
  rw [List.getLast?_eq_getElem?] at h
  rw [List.getD_eq_getElem?_getD, h]
  rfl
theorem pa_ok {N : Nat} (hN : 31 ≤ N) {gf : Int32} {key : Nat → Int32} {lt : Nat → Nat → Bool} {x room : Nat} {l : List Nat} (T : so_T lt) (hp : ∀ a b, a < 30 → b < 30 → f_Rk_precedes N gf (nI a) (key a) (nI b) (key b) = some (if lt a b = true then 1 else 0)) (hx : x < 30) (hl : ∀ a ∈ l, a < 30) (hr : room ≤ 30) (hlr : l.length ≤ room) (hs : so_ok lt l) (nums vals : Nat → Int32) (hA : pr_A key l nums vals) :
    ∃ nums' vals', f_Rk_add N nums vals (nI l.length) (nI room) gf (nI x) (key x) = some (if (pa_add lt room x l).1 = true then 1 else 0, nums', vals', nI (pa_add lt room x l).2.length) ∧ pr_A key (pa_add lt room x l).2 nums' vals' := by
  unfold f_Rk_add f_Rk_isFull
  by_cases c : l.length < room
  · obtain ⟨n1, v1, h1, h2⟩ := pr_62 T hp hx hl (by omega) hs (nI l.length) l.length (N - l.length - 1) nums vals (Nat.le_refl _) hA (fun i h3 h4 => absurd h4 (by omega)) (fun i h3 h4 => absurd h4 (by omega))
    rw [show N - l.length - 1 + l.length + 1 = N by omega] at h1
    refine ⟨n1, v1, ?_, ?_⟩
    · rw [if_pos (nI_lt c (by omega)), Option.bind_some, if_pos rfl, h1, nI_1]
      unfold pa_add
      rw [if_pos c, so_len]
      rfl
    · unfold pa_add
      rw [if_pos c]
      exact h2
  · rw [if_neg (nI_nlt (show room ≤ l.length by omega) (by omega)), Option.bind_some, if_neg (show ¬ (1 : Int32) = 0 by decide)]
    unfold pa_add
    rw [if_neg c]
    cases hd : l.getLast? with
    | none =>
      have h0 : l = [] := List.getLast?_eq_none_iff.mp hd
      subst h0
      refine ⟨nums, vals, ?_, hA⟩
      rw [if_pos (show nI ([] : List Nat).length = 0 from rfl)]
      rfl
    | some y =>
      obtain ⟨hy, hpos⟩ := pa_last hd
      obtain ⟨q, hq⟩ : ∃ q, l.length = q + 1 := ⟨l.length - 1, by omega⟩
      have hym : y ∈ l := List.mem_of_getLast? hd
      have hq30 : q < 30 := by omega
      have a1 := hA q (by omega)
      rw [show l.length - 1 = q by omega] at hy
      rw [hy] at a1
      rw [hq, if_neg (nI_ne0 (by omega) (by omega)), nI_pred, pb_at hq30 (by decide), pb_at hq30 (by decide), pd_cl (show q < 2147483648 by omega), a1.1, a1.2, hp x y hx (hl y hym), Option.bind_some]
      by_cases d : lt x y = true
      · simp only [if_pos d]
        rw [if_neg (show ¬ (1 : Int32) = 0 by decide)]
        have hdl : l.dropLast.length = q := by rw [List.length_dropLast, hq]; rfl
        obtain ⟨n1, v1, h1, h2⟩ := pr_62 (l := l.dropLast) T hp hx (fun a ha => hl a ((List.dropLast_sublist l).subset ha)) (by omega) (List.Pairwise.sublist (List.dropLast_sublist l) hs) (nI q) q (N - q - 1) nums vals (by omega) (fun i hi => by rw [pa_drop (by omega)]; exact hA i (by omega)) (fun i h3 h4 => absurd h4 (by omega)) (fun i h3 h4 => absurd h4 (by omega))
        rw [show N - q - 1 + q + 1 = N by omega] at h1
        refine ⟨n1, v1, ?_, h2⟩
        rw [h1, nI_1, so_len, hdl]
        rfl
      · simp only [if_neg d]
        refine ⟨nums, vals, ?_, hA⟩
        rw [if_pos trivial, ← hq]
        rfl
