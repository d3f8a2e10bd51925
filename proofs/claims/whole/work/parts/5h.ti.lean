/-! PURE: rows of neighbours -/
theorem ti_uu {f : Nat → Int32} {k : Nat} {a b : Int32} : upd (upd f k a) k b = upd f k b := by
  funext j
  by_cases e : j = k
  · subst e; rw [pk_us, pk_us]
  · rw [pk_un e, pk_un e, pk_un e]
theorem ti_sq (a b : Int32) : (a - b) * (a - b) = (b - a) * (b - a) := by
  have h : a - b = -(b - a) := by rw [Int32.neg_sub]
  rw [h, Int32.neg_mul, Int32.mul_neg, Int32.neg_neg]
theorem ti_sym (vec : Nat → Int32) (a b : Nat) : ch_bt vec a b = ch_bt vec b a := by
  unfold ch_bt
  exact ch_sum 4 (fun j _ => by unfold pd_F; exact ti_sq _ _)
theorem ti_key (vec aim : Nat → Int32) (o : Nat) (h : ∀ j, j < 4 → aim j = vec (4 * o + j)) (n : Nat) : pn_key vec aim n = ch_bt vec n o := by
  unfold pn_key ch_bt
  exact ch_sum 4 (fun j hj => by unfold pd_F; rw [h j hj])
def ti_w (R : Nat → Int32) (x : Nat) (q : List Nat) : Nat → Nat → Int32
  | 0 => R
  | k + 1 => upd (ti_w R x q k) (7 * x + k) (nI (q.getD k 0))
theorem ti_wG (R : Nat → Int32) (x : Nat) (q : List Nat) : ∀ k j : Nat, ti_w R x q k j = if 7 * x ≤ j ∧ j < 7 * x + k then nI (q.getD (j - 7 * x) 0) else R j
  | 0, j => by rw [if_neg (by omega)]; rfl
  | k + 1, j => by
    rw [ti_w]
    by_cases e : j = 7 * x + k
    · subst e
      rw [pk_us, if_pos (by omega), Nat.add_sub_cancel_left]
    · rw [pk_un e, ti_wG R x q k j]
      by_cases c : 7 * x ≤ j ∧ j < 7 * x + k
      · rw [if_pos c, if_pos (by omega)]
      · rw [if_neg c, if_neg (by omega)]
def ti_row (D R : Nat → Int32) (x : Nat) (u : List Nat) : Prop := D x = nI u.length ∧ ∀ i, i < u.length → R (7 * x + i) = nI (u.getD i 0)
theorem ti_append {N : Nat} {D R : Nat → Int32} {o layer d : Nat} (ho : o < 30) (hl : layer < 4) (hd : d < 7) (hD : D (4 * o + layer) = nI d) (v : Int32) : f_Li_append N D R (nI o) (nI layer) v = some (upd D (4 * o + layer) (nI (d + 1)), upd R (7 * (4 * o + layer) + d) v) := by
  unfold f_Li_append
  simp only [wk_x4, pb_at (show 4 * o + layer < 120 by omega) (show 120 < 2147483648 by decide), pd_cl (show 4 * o + layer < 2147483648 by omega), hD]
  rw [if_neg (show ¬ (7 : Int32) ≤ nI d from nI_ge (b := 7) hd (by decide)), wk_x7, pb_at (show 7 * (4 * o + layer) + d < 840 by omega) (by decide), pd_cl (show 7 * (4 * o + layer) + d < 2147483648 by omega), nI_1]
theorem ti_replace_14 {N : Nat} {D R row : Nat → Int32} {o layer : Nat} (ho : o < 30) (hl : layer < 4) {q : List Nat} (hq : q.length ≤ 6) (hA : hr_A q row) : ∀ (k i m : Nat), i + k = q.length → f_Li_replace_14 N row (nI q.length) (nI o) (nI layer) (m + k + 1) (upd D (4 * o + layer) (nI i)) (ti_w R (4 * o + layer) q i) (nI i) = some (upd D (4 * o + layer) (nI q.length), ti_w R (4 * o + layer) q q.length) := by
  intro k
  induction k with
  | zero =>
    intro i m hi
    rw [f_Li_replace_14]
    unfold f_Ch_size
    rw [Option.bind_some, if_pos (nI_le (by omega) (by omega)), show i = q.length by omega]
  | succ k ih =>
    intro i m hi
    rw [show m + (k + 1) + 1 = (m + k + 1) + 1 from rfl, f_Li_replace_14]
    unfold f_Ch_size f_Ch_chosen
    rw [Option.bind_some, if_neg (nI_ge (by omega) (by omega)), pb_at (show i < 30 by omega) (by decide), pd_cl (show i < 2147483648 by omega), hA i (by omega), Option.bind_some, ti_append ho hl (show i < 7 by omega) pk_us, Option.bind_some, ti_uu, nI_1]
    exact ih (i + 1) m (by omega)
theorem ti_replace {N : Nat} (hN : 64 ≤ N) {D R row : Nat → Int32} {o layer : Nat} (ho : o < 30) (hl : layer < 4) {q : List Nat} (hq : q.length ≤ 6) (hA : hr_A q row) : f_Li_replace N D R row (nI q.length) (nI o) (nI layer) = some (upd D (4 * o + layer) (nI q.length), ti_w R (4 * o + layer) q q.length) := by
  unfold f_Li_replace
  rw [wk_x4, pb_at (show 4 * o + layer < 120 by omega) (by decide), pd_cl (show 4 * o + layer < 2147483648 by omega)]
  have := ti_replace_14 (N := N) (D := D) (R := R) ho hl hq hA q.length 0 (N - q.length - 1) (by omega)
  rw [show N - q.length - 1 + q.length + 1 = N by omega] at this
  exact this
theorem ti_take_2 {N : Nat} {D R pk : Nat → Int32} {x : Nat} (hx : x < 120) {q : List Nat} (hq : q.length ≤ 6) (hA : hr_A q pk) : ∀ (k i m : Nat), i + k = q.length → f_Mo_take_2 N D pk (nI q.length) (nI x) (m + k + 1) (ti_w R x q i) (nI i) = some (ti_w R x q q.length, upd D x (nI q.length)) := by
  intro k
  induction k with
  | zero =>
    intro i m hi
    rw [f_Mo_take_2, if_pos (nI_le (by omega) (by omega)), pb_at hx (by decide), pd_cl (show x < 2147483648 by omega), show i = q.length by omega]
  | succ k ih =>
    intro i m hi
    rw [show m + (k + 1) + 1 = (m + k + 1) + 1 from rfl, f_Mo_take_2, if_neg (nI_ge (by omega) (by omega)), pb_at (show i < 8 by omega) (by decide), wk_7x, pb_at (show 7 * x + i < 840 by omega) (by decide), pd_cl (show 7 * x + i < 2147483648 by omega), pd_cl (show i < 2147483648 by omega), hA i (by omega), nI_1]
    exact ih (i + 1) m (by omega)
theorem ti_take {N : Nat} (hN : 64 ≤ N) {D R pk : Nat → Int32} {x : Nat} (hx : x < 120) {q : List Nat} (hq : q.length ≤ 6) (hA : hr_A q pk) : f_Mo_take N R D pk (nI q.length) (nI x) = some (ti_w R x q q.length, upd D x (nI q.length)) := by
  unfold f_Mo_take
  have := ti_take_2 (N := N) (D := D) (R := R) hx hq hA q.length 0 (N - q.length - 1) (by omega)
  rw [show N - q.length - 1 + q.length + 1 = N by omega] at this
  exact this
theorem ti_aimAt_2 {N : Nat} (vec : Nat → Int32) {o : Nat} (ho : o < 30) : ∀ (k j m : Nat) (aim : Nat → Int32), j + k = 4 → (∀ a, a < j → aim a = vec (4 * o + a)) → ∃ aim', f_Mo_aimAt_2 N vec (nI o) (m + k + 1) aim (nI j) = some aim' ∧ ∀ a, a < 4 → aim' a = vec (4 * o + a) := by
  intro k
  induction k with
  | zero =>
    intro j m aim hj h
    refine ⟨aim, ?_, fun a ha => h a (by omega)⟩
    rw [f_Mo_aimAt_2, if_pos (show (4 : Int32) ≤ nI j from nI_le (a := 4) (by omega) (by omega))]
  | succ k ih =>
    intro j m aim hj h
    rw [show m + (k + 1) + 1 = (m + k + 1) + 1 from rfl, f_Mo_aimAt_2, if_neg (show ¬ (4 : Int32) ≤ nI j from nI_ge (b := 4) (by omega) (by omega)), pd_4, pb_at (show 4 * o + j < 120 by omega) (by decide), pb_at (show j < 4 by omega) (by decide), pd_cl (show j < 2147483648 by omega), pd_cl (show 4 * o + j < 2147483648 by omega), nI_1]
    refine ih (j + 1) m _ (by omega) (fun a ha => ?_)
    by_cases e : a = j
    · subst e; rw [pk_us]
    · rw [pk_un e]; exact h a (by omega)
theorem ti_aimAt {N : Nat} (hN : 64 ≤ N) (vec aim : Nat → Int32) {o : Nat} (ho : o < 30) : ∃ aim', f_Mo_aimAt N vec aim (nI o) = some aim' ∧ ∀ a, a < 4 → aim' a = vec (4 * o + a) := by
  have := ti_aimAt_2 (N := N) vec ho 4 0 (N - 5) aim (by omega) (fun a ha => absurd ha (Nat.not_lt_zero _))
  rw [show N - 5 + 4 + 1 = N by omega] at this
  exact this
def ti_most (layer : Nat) : Nat := if layer = 0 then 6 else 3
theorem ti_most6 (layer : Nat) : ti_most layer ≤ 6 ∧ 3 ≤ ti_most layer := by
  unfold ti_most
  by_cases h : layer = 0
  · rw [if_pos h]; omega
  · rw [if_neg h]; omega
theorem ti_mostI (N : Nat) {layer : Nat} (hl : layer < 4) : f_Li_most N (nI layer) = some (nI (ti_most layer)) := by
  unfold f_Li_most ti_most
  by_cases h : layer = 0
  · subst h; rfl
  · rw [if_neg (nI_ne0 (by omega) (by omega)), if_neg h]; rfl
/-- the class shortens: the candidates in order -/
theorem ti_13 {N : Nat} (hN : 64 ≤ N) {V : Nat → Nat → Int32} {vec : Nat → Int32} (hV : ch_V V vec) {key : Nat → Int32} {D R : Nat → Int32} {o layer : Nat} (ho : o < 30) (hl : layer < 4) (hk : ∀ a, a < 30 → ch_bt vec o a = key a) {u : List Nat} (hrow : ti_row D R (4 * o + layer) u) (hnd : u.Nodup) (hu : ∀ a ∈ u, a < 30) (hu7 : u.length ≤ 7) (ord lev que : Nat → Int32) (sz : Int32) (C : T_Ch) :
    ∀ (k i m1 : Nat) (c : List Nat) (kn kv : Nat → Int32), i + k = u.length → so_ok (pn_lt key) c → (∀ a, a ∈ c ↔ a ∈ u.take i) → c.length = i → pr_A key c kn kv →
    ∃ c' kn' kv', f_Gr_shorten_13 N (ord, lev, D, R, que, sz) C V (nI o) (nI layer) (m1 + k + 1) (kn, kv, nI c.length, nI 30, 0) (nI i) = ((f_Ch_choose N C.1 V kn' kv' (nI c'.length) (nI (ti_most layer))).bind fun p6 => ((f_Li_replace N D R p6.1 p6.2.1 (nI o) (nI layer)).bind fun p8 => (some ((ord, lev, p8.1, p8.2, que, sz), (p6.1, p6.2.1, p6.2.2), (kn', kv', nI c'.length, nI 30, 0))))) ∧ so_ok (pn_lt key) c' ∧ (∀ a, a ∈ c' ↔ a ∈ u) ∧ c'.length = u.length ∧ pr_A key c' kn' kv' := by
  have T := pn_T key
  intro k
  induction k with
  | zero =>
    intro i m1 c kn kv hi h1 h2 h3 h4
    rw [List.take_of_length_le (by omega)] at h2
    refine ⟨c, kn, kv, ?_, h1, h2, by omega, h4⟩
    rw [f_Gr_shorten_13]
    unfold f_Li_degree
    dsimp only
    rw [wk_x4, pb_at (show 4 * o + layer < 120 by omega) (by decide), pd_cl (show 4 * o + layer < 2147483648 by omega), hrow.1, Option.bind_some, if_pos (nI_le (by omega) (by omega)), ti_mostI N hl, Option.bind_some]
  | succ k ih =>
    intro i m1 c kn kv hi h1 h2 h3 h4
    have hg : u.getD i 0 = u[i]'(by omega) := by rw [List.getD_eq_getElem?_getD, List.getElem?_eq_getElem (by omega)]; rfl
    have mm : ∀ a, a ∈ u.take (i + 1) ↔ a ∈ u.take i ∨ a = u.getD i 0 := fun a => by
      rw [← List.take_append_getElem (show i < u.length by omega), List.mem_append, List.mem_singleton, ← hg]
    have g1 := hu _ (wp_getD (show i < u.length by omega))
    have hnc : u.getD i 0 ∉ c := fun q => by
      have q2 := (h2 _).mp q
      obtain ⟨j, hj, hj2⟩ := List.mem_iff_getElem.mp q2
      rw [List.length_take] at hj
      rw [List.getElem_take, hg] at hj2
      have := (List.nodup_iff_pairwise_ne.mp hnd)
      exact (List.pairwise_iff_getElem.mp this j i (by omega) (by omega) (by omega)) hj2
    obtain ⟨kn1, kv1, a1, a2⟩ := pa_ok (N := N) (room := 30) (by omega) T (wk_hp N key) g1 (fun a ha => hu a (List.mem_of_mem_take ((h2 a).mp ha))) (Nat.le_refl _) (by omega) h1 kn kv h4
    have opa : pa_add (pn_lt key) 30 (u.getD i 0) c = (true, so_ins (pn_lt key) (u.getD i 0) c) := by unfold pa_add; rw [if_pos (by omega)]
    rw [opa] at a1 a2
    rw [show m1 + (k + 1) + 1 = (m1 + k + 1) + 1 from rfl, f_Gr_shorten_13]
    unfold f_Li_degree f_Li_linked f_Do_vector
    dsimp only
    rw [wk_x4, pb_at (show 4 * o + layer < 120 by omega) (by decide), pd_cl (show 4 * o + layer < 2147483648 by omega), hrow.1, Option.bind_some, if_neg (nI_ge (by omega) (by omega)), wk_x7, pb_at (show 7 * (4 * o + layer) + i < 840 by omega) (by decide), pd_cl (show 7 * (4 * o + layer) + i < 2147483648 by omega), hrow.2 i (by omega), Option.bind_some, pb_at ho (by decide), Option.bind_some, pb_at g1 (by decide), Option.bind_some, pd_cl (show o < 2147483648 by omega), pd_cl (show u.getD i 0 < 2147483648 by omega), ch_dist (by omega) hV ho g1, Option.bind_some, hk _ g1, a1, Option.bind_some, nI_1]
    exact ih (i + 1) m1 _ kn1 kv1 (by omega) (so_ins_ok T h1 hnc) (fun a => by rw [so_mem, mm, h2, or_comm]) (by rw [so_len]; omega) a2
theorem ti_169 {N : Nat} {n layer o i d : Nat} {R D : Nat → Int32} (kk : (Nat → Int32) → Int32 → Option ((Nat → Int32) × (Nat → Int32) × (Nat → Int32) × (Nat → Int32) × (Nat → Int32) × (Nat → Int32) × (Nat → Int32) × Int32 × Int32)) (hn : n < 30) (hl : layer < 4) (ho : o < 30) (hi7 : i < 7) (hRn : R (7 * (4 * n + layer) + i) = nI o) (hD : D (4 * o + layer) = nI d) {u : List Nat} (hu7 : u.length ≤ 7) (hud : u.length = d + 1) (hru : ∀ j, j < u.length → upd R (7 * (4 * o + layer) + d) (nI n) (7 * (4 * o + layer) + j) = nI (u.getD j 0)) :
    ∀ (k j m : Nat) (pool : Nat → Int32), j + k = u.length → (∀ a, a < j → pool a = nI (u.getD a 0)) → ∃ pool', f_Mo_tie_169 N (nI n) (nI layer) R D (nI i) kk (m + k + 1) pool (nI j) = kk pool' (nI u.length) ∧ hr_A u pool' := by
  intro k
  induction k with
  | zero =>
    intro j m pool hj h
    refine ⟨pool, ?_, fun a ha => h a (by omega)⟩
    rw [f_Mo_tie_169]
    simp only [pd_4, wk_7x, pd_cl (show 7 * (4 * n + layer) + i < 2147483648 by omega), hRn, pd_cl (show 4 * o + layer < 2147483648 by omega), pk_us, hD, nI_1]
    rw [if_pos (nI_le (by omega) (by omega)), show j = u.length by omega]
  | succ k ih =>
    intro j m pool hj h
    rw [show m + (k + 1) + 1 = (m + k + 1) + 1 from rfl, f_Mo_tie_169]
    simp only [pd_4, wk_7x, pd_cl (show 7 * (4 * n + layer) + i < 2147483648 by omega), hRn, pd_cl (show 4 * o + layer < 2147483648 by omega), pk_us, hD, nI_1]
    rw [if_neg (nI_ge (by omega) (by omega)), pb_at (show 7 * (4 * o + layer) + j < 840 by omega) (by decide), pb_at (show j < 30 by omega) (by decide), pd_cl (show 7 * (4 * o + layer) + j < 2147483648 by omega), pd_cl (show 7 * (4 * o + layer) + d < 2147483648 by omega), hru j (by omega), pd_cl (show j < 2147483648 by omega)]
    refine ih (j + 1) m _ (by omega) (fun a ha => ?_)
    by_cases e : a = j
    · subst e; rw [pk_us]
    · rw [pk_un e]; exact h a (by omega)
