/-! PURE: a ranking is a list in order -/
theorem pr_getD {lt : Nat → Nat → Bool} {x : Nat} : ∀ (l : List Nat) (p : Nat), (∀ i, i < p → ¬ lt x (l.getD i 0) = true) → (∀ i, p ≤ i → i < l.length → lt x (l.getD i 0) = true) → p ≤ l.length → ∀ i, (so_ins lt x l).getD i 0 = if i < p then l.getD i 0 else if i = p then x else l.getD (i - 1) 0
  | [], p, _, _, h3, i => by
    have hp : p = 0 := by simpa using h3
    subst hp
    cases i with
    | zero => simp [so_ins]
    | succ i => simp [so_ins]
  | y :: l, 0, _, h2, _, i => by
    have h : lt x y = true := h2 0 (Nat.le_refl _) (by simp)
    unfold so_ins
    rw [if_pos h]
    cases i with
    | zero => simp
    | succ i => simp
  | y :: l, p + 1, h1, h2, h3, i => by
    have h : ¬ lt x y = true := h1 0 (Nat.succ_pos _)
    unfold so_ins
    rw [if_neg h]
    cases i with
    | zero => simp
    | succ i =>
      have ih := pr_getD l p (fun j hj => by have := h1 (j + 1) (by omega); simpa using this) (fun j hj hl => by have := h2 (j + 1) (by omega) (by simpa using hl); simpa using this) (by simpa using h3) i
      rw [List.getD_cons_succ, ih, List.getD_cons_succ]
      by_cases c : i < p
      · rw [if_pos c, if_pos (show i + 1 < p + 1 by omega)]
      · rw [if_neg c, if_neg (show ¬ i + 1 < p + 1 by omega)]
        by_cases d : i = p
        · rw [if_pos d, if_pos (show i + 1 = p + 1 by omega)]
        · rw [if_neg d, if_neg (show ¬ i + 1 = p + 1 by omega)]
          obtain ⟨j, rfl⟩ : ∃ j, i = j + 1 := ⟨i - 1, by omega⟩
          simp
theorem pr_prec0 (N : Nat) (u v : Int32) {a b : Nat} (ha : a < 30) (hb : b < 30) : f_Rk_precedes N 0 (nI a) u (nI b) v = some (if u < v ∨ u = v ∧ a < b then 1 else 0) := by
  unfold f_Rk_precedes
  by_cases h : u = v
  · rw [if_pos h]
    by_cases c : a < b
    · rw [if_neg (show ¬ nI b ≤ nI a from nI_ge c (by omega)), if_pos (Or.inr ⟨h, c⟩)]
    · rw [if_pos (show nI b ≤ nI a from nI_le (by omega) (by omega)), if_neg (fun q => q.elim (fun r => by rw [h, Int32.lt_iff_toInt_lt] at r; omega) (fun r => c r.2))]
  · rw [if_neg h]
    by_cases c : u ≤ v
    · have hlt : u < v := by
        rw [Int32.lt_iff_toInt_lt]
        rw [Int32.le_iff_toInt_le] at c
        rw [← Int32.toInt_inj] at h
        omega
      rw [if_pos c, if_pos rfl, if_pos (Or.inl hlt)]
    · rw [if_neg c, if_neg (by decide), if_neg (fun q => q.elim (fun r => c (by rw [Int32.lt_iff_toInt_lt] at r; rw [Int32.le_iff_toInt_le]; omega)) (fun r => h r.1))]
theorem pr_prec1 (N : Nat) (u v : Int32) {a b : Nat} (ha : a < 30) (hb : b < 30) : f_Rk_precedes N 1 (nI a) u (nI b) v = some (if v < u ∨ u = v ∧ a < b then 1 else 0) := by
  unfold f_Rk_precedes
  by_cases h : u = v
  · rw [if_pos h]
    by_cases c : a < b
    · rw [if_neg (show ¬ nI b ≤ nI a from nI_ge c (by omega)), if_pos (Or.inr ⟨h, c⟩)]
    · rw [if_pos (show nI b ≤ nI a from nI_le (by omega) (by omega)), if_neg (fun q => q.elim (fun r => by rw [h, Int32.lt_iff_toInt_lt] at r; omega) (fun r => c r.2))]
  · rw [if_neg h]
    by_cases c : u ≤ v
    · rw [if_pos c, if_neg (by decide), if_neg (fun q => q.elim (fun r => by rw [Int32.lt_iff_toInt_lt] at r; rw [Int32.le_iff_toInt_le] at c; omega) (fun r => h r.1))]
    · have hlt : v < u := by
        rw [Int32.lt_iff_toInt_lt]
        rw [Int32.le_iff_toInt_le] at c
        omega
      rw [if_neg c, if_pos rfl, if_pos (Or.inl hlt)]
/-- the members of a ranking stand in its rows -/
def pr_A (key : Nat → Int32) (l : List Nat) (nums vals : Nat → Int32) : Prop := ∀ i, i < l.length → nums i = nI (l.getD i 0) ∧ vals i = key (l.getD i 0)
theorem pr_m1 {p : Nat} : nI (p + 1) + (-1) = nI p := pk_m1 p
theorem pr_62 {N : Nat} {gf : Int32} {key : Nat → Int32} {lt : Nat → Nat → Bool} {x : Nat} {l : List Nat} (T : so_T lt) (hp : ∀ a b, a < 30 → b < 30 → f_Rk_precedes N gf (nI a) (key a) (nI b) (key b) = some (if lt a b = true then 1 else 0)) (hx : x < 30) (hl : ∀ a ∈ l, a < 30) (hlen : l.length < 30) (hs : so_ok lt l) (sz : Int32) : ∀ (p m : Nat) (nums vals : Nat → Int32), p ≤ l.length → (∀ i, i < p → nums i = nI (l.getD i 0) ∧ vals i = key (l.getD i 0)) → (∀ i, p ≤ i → i < l.length → nums (i + 1) = nI (l.getD i 0) ∧ vals (i + 1) = key (l.getD i 0)) → (∀ i, p ≤ i → i < l.length → lt x (l.getD i 0) = true) →
    ∃ nums' vals', f_Rk_add_62 N gf (nI x) (key x) (m + p + 1) nums vals sz (nI p) = some (1, nums', vals', sz + 1) ∧ pr_A key (so_ins lt x l) nums' vals' := by
  have fin : ∀ (p : Nat) (nums vals : Nat → Int32), p ≤ l.length → (∀ i, i < p → nums i = nI (l.getD i 0) ∧ vals i = key (l.getD i 0)) → (∀ i, p ≤ i → i < l.length → nums (i + 1) = nI (l.getD i 0) ∧ vals (i + 1) = key (l.getD i 0)) → (∀ i, i < p → ¬ lt x (l.getD i 0) = true) → (∀ i, p ≤ i → i < l.length → lt x (l.getD i 0) = true) → pr_A key (so_ins lt x l) (upd nums p (nI x)) (upd vals p (key x)) := by
    intro p nums vals h0 h1 h2 h3 h4 i hi
    rw [so_len] at hi
    rw [pr_getD l p h3 h4 h0 i]
    by_cases c : i < p
    · rw [if_pos c, pk_un (by omega), pk_un (by omega)]
      exact h1 i c
    · rw [if_neg c]
      by_cases d : i = p
      · subst d
        rw [if_pos rfl, pk_us, pk_us]
        exact ⟨rfl, rfl⟩
      · rw [if_neg d, pk_un d, pk_un d]
        obtain ⟨j, rfl⟩ : ∃ j, i = j + 1 := ⟨i - 1, by omega⟩
        exact h2 j (by omega) (by omega)
  intro p
  induction p with
  | zero =>
    intro m nums vals h0 h1 h2 h4
    refine ⟨_, _, ?_, fin 0 nums vals h0 h1 h2 (fun i hi => absurd hi (Nat.not_lt_zero _)) h4⟩
    rw [f_Rk_add_62, if_pos (by decide), pb_at (show 0 < 30 by decide) (by decide), pb_at (show 0 < 30 by decide) (by decide)]
    rfl
  | succ p ih =>
    intro m nums vals h0 h1 h2 h4
    have hgm : l.getD p 0 ∈ l := by
      rw [List.getD_eq_getElem?_getD, List.getElem?_eq_getElem (by omega)]
      exact List.getElem_mem _
    have e1 : nI (p + 1) - 1 = nI p := nI_pred p
    have hstep : f_Rk_add_62 N gf (nI x) (key x) (m + (p + 1) + 1) nums vals sz (nI (p + 1)) = (f_Rk_precedes N gf (nI x) (key x) (nI (l.getD p 0)) (key (l.getD p 0))).bind fun p17 => (if p17 = 0 then (some (1, upd nums (p + 1) (nI x), upd vals (p + 1) (key x), sz + 1)) else f_Rk_add_62 N gf (nI x) (key x) (m + p + 1) (upd nums (p + 1) (nums p)) (upd vals (p + 1) (vals p)) sz (nI p)) := by
      rw [show m + (p + 1) + 1 = (m + p + 1) + 1 from rfl, f_Rk_add_62, if_neg (show ¬ nI (p + 1) ≤ 0 from nI_nle (by omega) (by omega)), e1]
      simp only [pb_at (show p < 30 by omega) (show 30 < 2147483648 by decide), pb_at (show p + 1 < 30 by omega) (show 30 < 2147483648 by decide), pd_cl (show p < 2147483648 by omega), pd_cl (show p + 1 < 2147483648 by omega), pr_m1]
      rw [(h1 p (by omega)).1, (h1 p (by omega)).2]
    rw [hp x _ hx (hl _ hgm), Option.bind_some] at hstep
    by_cases c : lt x (l.getD p 0) = true
    · rw [if_pos c, if_neg (show ¬ (1 : Int32) = 0 by decide)] at hstep
      rw [hstep]
      refine ih m _ _ (by omega) (fun i hi => ?_) (fun i hi hi2 => ?_) (fun i hi hi2 => ?_)
      · rw [pk_un (by omega), pk_un (by omega)]
        exact h1 i (by omega)
      · by_cases d : i = p
        · subst d
          rw [pk_us, pk_us]
          exact h1 i (by omega)
        · rw [pk_un (by omega), pk_un (by omega)]
          exact h2 i (by omega) hi2
      · by_cases d : i = p
        · subst d
          exact c
        · exact h4 i (by omega) hi2
    · rw [if_neg c, if_pos rfl] at hstep
      rw [hstep]
      refine ⟨_, _, rfl, fin (p + 1) nums vals h0 h1 h2 (fun i hi q => ?_) h4⟩
      by_cases d : i = p
      · subst d
        exact c q
      · have hlt : lt (l.getD i 0) (l.getD p 0) = true := by
          rw [List.getD_eq_getElem?_getD, List.getD_eq_getElem?_getD, List.getElem?_eq_getElem (by omega), List.getElem?_eq_getElem (by omega)]
          exact List.pairwise_iff_getElem.mp hs i p (by omega) (by omega) (by omega)
        exact c (T.2.1 _ _ _ q hlt)
