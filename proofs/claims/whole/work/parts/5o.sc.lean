/-! PURE: scores -/
def sc_c (cw : Nat → Int32) (n w : Nat) : Nat := ((cw n >>> ((3 * nI w) &&& 31)) &&& 7).toNatClampNeg
theorem sc_cI (cw : Nat → Int32) (n w : Nat) : (cw n >>> ((3 * nI w) &&& 31)) &&& 7 = nI (sc_c cw n w) ∧ sc_c cw n w < 8 := by
  obtain ⟨j, h1, h2⟩ := pk_andE (cw n >>> ((3 * nI w) &&& 31)) (m := 7) 3 (by decide)
  unfold sc_c
  rw [h2, pd_cl (show j < 2147483648 by omega)]
  exact ⟨rfl, h1⟩
def sc_h (cw isL : Nat → Int32) (w : Nat) : Nat → Nat
  | 0 => 0
  | j + 1 => if isL j = 0 ∨ sc_c cw j w = 0 then sc_h cw isL w j else sc_h cw isL w j + 1
theorem sc_hle (cw isL : Nat → Int32) (w : Nat) : ∀ j : Nat, sc_h cw isL w j ≤ j
  | 0 => Nat.le_refl 0
  | j + 1 => by
    have := sc_hle cw isL w j
    unfold sc_h
    by_cases c : isL j = 0 ∨ sc_c cw j w = 0
    · rw [if_pos c]; omega
    · rw [if_neg c]; omega
theorem sc_hpos (cw isL : Nat → Int32) (w : Nat) {n : Nat} (h1 : isL n ≠ 0) (h2 : sc_c cw n w ≠ 0) : ∀ j : Nat, n < j → 0 < sc_h cw isL w j
  | 0, h => absurd h (Nat.not_lt_zero _)
  | j + 1, h => by
    unfold sc_h
    by_cases e : n = j
    · subst e
      rw [if_neg (fun q => q.elim h1 h2)]
      omega
    · have := sc_hpos cw isL w h1 h2 j (by omega)
      by_cases c : isL j = 0 ∨ sc_c cw j w = 0
      · rw [if_pos c]; exact this
      · rw [if_neg c]; omega
theorem sc_lw {N : Nat} {cw isL : Nat → Int32} {lv : Int32} (hlv : lv_R lv isL) (w : Nat) : ∀ (k j m : Nat), j + k = 30 → f_Do_liveWith_4 N cw lv (nI w) (m + k + 1) (nI (sc_h cw isL w j)) (nI j) = some (nI (sc_h cw isL w 30)) := by
  intro k
  induction k with
  | zero =>
    intro j m hj
    have : j = 30 := by omega
    subst this
    rw [f_Do_liveWith_4, if_pos (by decide)]
  | succ k ih =>
    intro j m hj
    have hj30 : j < 30 := by omega
    have hst : sc_h cw isL w (j + 1) = if isL j = 0 ∨ sc_c cw j w = 0 then sc_h cw isL w j else sc_h cw isL w j + 1 := rfl
    have hi := ih (j + 1) m (by omega)
    rw [hst] at hi
    rw [show m + (k + 1) + 1 = (m + k + 1) + 1 from rfl, f_Do_liveWith_4, if_neg (show ¬ (30 : Int32) ≤ nI j from nI_ge (b := 30) (by omega) (by omega)), lv_is hlv hj30, Option.bind_some, nI_1, nI_1]
    by_cases c : isL j = 0
    · simp only [if_pos c, if_true]
      rw [if_pos (Or.inl c)] at hi
      exact hi
    · simp only [if_neg c, if_neg pz_10]
      unfold f_Do_countOfWord
      rw [pb_at hj30 (by decide), Option.bind_some, pd_cl (show j < 2147483648 by omega), (sc_cI cw j w).1]
      by_cases d : sc_c cw j w = 0
      · rw [if_pos (show nI (sc_c cw j w) ≤ 0 by rw [d]; decide)]
        rw [if_pos (Or.inr d)] at hi
        exact hi
      · rw [if_neg (nI_nle (by omega) (by have := (sc_cI cw j w).2; omega))]
        rw [if_neg (fun q => q.elim c d)] at hi
        exact hi
theorem sc_53 {N : Nat} {cw isL : Nat → Int32} (w : Nat) (kk : Int32 → Int32 → Option Int32) : ∀ (k j m : Nat), j + k = 30 → f_Mo_scoreOf_53 N isL cw (nI w) kk (m + k + 1) (nI (sc_h cw isL w j)) (nI j) = kk (nI (sc_h cw isL w 30)) (nI 30) := by
  intro k
  induction k with
  | zero =>
    intro j m hj
    have : j = 30 := by omega
    subst this
    rw [f_Mo_scoreOf_53, if_pos (by decide)]
  | succ k ih =>
    intro j m hj
    have hj30 : j < 30 := by omega
    have hst : sc_h cw isL w (j + 1) = if isL j = 0 ∨ sc_c cw j w = 0 then sc_h cw isL w j else sc_h cw isL w j + 1 := rfl
    have hi := ih (j + 1) m (by omega)
    rw [hst] at hi
    rw [show m + (k + 1) + 1 = (m + k + 1) + 1 from rfl, f_Mo_scoreOf_53, if_neg (show ¬ (30 : Int32) ≤ nI j from nI_ge (b := 30) (by omega) (by omega)), pb_at hj30 (by decide), pd_cl (show j < 2147483648 by omega), nI_1, nI_1]
    by_cases c : isL j = 0
    · rw [if_pos c]
      rw [if_pos (Or.inl c)] at hi
      exact hi
    · rw [if_neg c]
      unfold f_Mo_countOf
      rw [pb_at hj30 (by decide), Option.bind_some, pd_cl (show j < 2147483648 by omega), (sc_cI cw j w).1]
      by_cases d : sc_c cw j w = 0
      · rw [if_pos (show nI (sc_c cw j w) ≤ 0 by rw [d]; decide)]
        rw [if_pos (Or.inr d)] at hi
        exact hi
      · rw [if_neg (nI_nle (by omega) (by have := (sc_cI cw j w).2; omega))]
        rw [if_neg (fun q => q.elim c d)] at hi
        exact hi
def sc_wt (cw isL : Nat → Int32) (w : Nat) : Int32 := if sc_h cw isL w 30 = 0 then 0 else nI (1 + pd_cnt isL 30 / sc_h cw isL w 30)
theorem sc_live {N : Nat} {isL : Nat → Int32} {lv : Int32} (hlv : lv_R lv isL) : f_Do_liveCount N lv = some (nI (pd_cnt isL 30)) := by
  obtain ⟨Lm, h1, h2, h3⟩ := hlv
  unfold f_Do_liveCount
  rw [h2, pc_ok h1 (fun a ha => (h3 a ha).1), Option.bind_some]
theorem sc_1p {L h : Nat} (hL : L ≤ 30) (h0 : 0 < h) (hh : h ≤ 30) : 1 + nI L / nI h = nI (1 + L / h) := by
  rw [pk_div (by omega) h0 (by omega), show (1 : Int32) = nI 1 from rfl, nI_add]
theorem sc_weigh {N : Nat} (hN : 64 ≤ N) {cw isL : Nat → Int32} {lv : Int32} (hlv : lv_R lv isL) : ∀ (k v m : Nat) (wg : Nat → Int32), v + k = 8 → (∀ a, a < v → wg a = sc_wt cw isL a) → ∃ wg', f_Do_weighWords_2 N cw lv (m + k + 1) wg (nI v) = some wg' ∧ ∀ a, a < 8 → wg' a = sc_wt cw isL a := by
  intro k
  induction k with
  | zero =>
    intro v m wg hv h
    refine ⟨wg, ?_, fun a ha => h a (by omega)⟩
    rw [f_Do_weighWords_2, if_pos (show (8 : Int32) ≤ nI v from nI_le (a := 8) (by omega) (by omega))]
  | succ k ih =>
    intro v m wg hv h
    have hlw := sc_lw (N := N) (cw := cw) hlv v 30 0 (N - 31) (by omega)
    rw [show N - 31 + 30 + 1 = N by omega] at hlw
    have hle := sc_hle cw isL v 30
    have hcn := wk_cnt30 isL
    have upn : ∀ x, x = sc_wt cw isL v → ∀ a, a < v + 1 → upd wg v x a = sc_wt cw isL a := fun x hx a ha => by
      by_cases e : a = v
      · subst e; rw [pk_us, hx]
      · rw [pk_un e]; exact h a (by omega)
    rw [show m + (k + 1) + 1 = (m + k + 1) + 1 from rfl, f_Do_weighWords_2, if_neg (show ¬ (8 : Int32) ≤ nI v from nI_ge (b := 8) (by omega) (by omega))]
    unfold f_Do_liveWith
    rw [show f_Do_liveWith_4 N cw lv (nI v) N 0 0 = _ from hlw, Option.bind_some, nI_1, pd_cl (show v < 2147483648 by omega)]
    by_cases c : sc_h cw isL v 30 = 0
    · rw [if_pos (show nI (sc_h cw isL v 30) ≤ 0 by rw [c]; decide), pb_at (show v < 8 by omega) (by decide)]
      exact ih (v + 1) m _ (by omega) (upn 0 (by unfold sc_wt; rw [if_pos c]))
    · rw [if_neg (nI_nle (by omega) (by omega)), sc_live hlv, Option.bind_some]
      unfold g_dv
      rw [if_neg (nI_ne0 (by omega) (by omega)), pb_at (show v < 8 by omega) (by decide), sc_1p hcn (by omega) hle]
      exact ih (v + 1) m _ (by omega) (upn _ (by unfold sc_wt; rw [if_neg c]))
theorem sc_term {c x v : Nat} (hc : c < 8) (hx : x ≤ 31) : nI v + (((100 * nI c) / (nI c + 1)) * nI x) = nI (v + 100 * c / (c + 1) * x) ∧ 100 * c / (c + 1) * x ≤ 3100 := by
  constructor
  · rw [show (100 : Int32) = nI 100 from rfl, pk_mul, nI_1, pk_div (by omega) (by omega) (by omega), pk_mul, nI_add]
  · have h1 : 100 * c / (c + 1) ≤ 100 := by
      apply Nat.div_le_of_le_mul
      omega
    exact Nat.le_trans (Nat.mul_le_mul h1 hx) (by decide)
theorem sc_lock {N : Nat} (hN : 64 ≤ N) {cw isL wg : Nat → Int32} (hwg : ∀ a, a < 8 → wg a = sc_wt cw isL a) {n : Nat} (hn : n < 30) (hL : isL n ≠ 0) (st : Int32) : ∀ (k w m1 m2 v : Nat), w + k = 8 → v ≤ 3100 * w →
    ∃ v', v' ≤ 24800 ∧ f_Do_score_5 N cw wg (nI n) st (m1 + k + 1) (nI v) (nI w) = some (nI v') ∧ f_Mo_scoreOf_14 N isL cw (nI n) st (nI (pd_cnt isL 30)) (m2 + k + 1) (nI v) (nI w) = some (nI v') := by
  intro k
  induction k with
  | zero =>
    intro w m1 m2 v hw hv
    have : w = 8 := by omega
    subst this
    refine ⟨v, by omega, ?_, ?_⟩
    · rw [f_Do_score_5, if_pos (by decide)]
    · rw [f_Mo_scoreOf_14, if_pos (by decide)]
  | succ k ih =>
    intro w m1 m2 v hw hv
    have hcc := sc_cI cw n w
    have hle := sc_hle cw isL w 30
    have hcn := wk_cnt30 isL
    rw [show m1 + (k + 1) + 1 = (m1 + k + 1) + 1 from rfl, f_Do_score_5, if_neg (show ¬ (8 : Int32) ≤ nI w from nI_ge (b := 8) (by omega) (by omega)), show m2 + (k + 1) + 1 = (m2 + k + 1) + 1 from rfl, f_Mo_scoreOf_14, if_neg (show ¬ (8 : Int32) ≤ nI w from nI_ge (b := 8) (by omega) (by omega))]
    unfold f_Nd_isIn f_Mo_countOf f_Do_countOfWord
    simp only [pb_at hn (show 30 < 2147483648 by decide), Option.bind_some, pd_cl (show n < 2147483648 by omega), hcc.1, nI_1]
    by_cases c : (st >>> (nI w &&& 31)) &&& 1 = 0
    · simp only [if_pos c, Option.bind_some, if_true]
      exact ih (w + 1) m1 m2 v (by omega) (by omega)
    · simp only [if_neg c, Option.bind_some, if_neg pz_10]
      unfold g_dv
      rw [if_neg (nI_ne0 (by omega) (by omega)), pb_at (show w < 8 by omega) (by decide), pd_cl (show w < 2147483648 by omega), hwg w (by omega)]
      by_cases d : sc_c cw n w = 0
      · rw [if_pos (show nI (sc_c cw n w) = 0 by rw [d]; rfl), d]
        rw [show nI v + 100 * nI 0 / nI (0 + 1) * sc_wt cw isL w = nI v by
          rw [show (100 : Int32) * nI 0 / nI (0 + 1) = 0 by decide, Int32.zero_mul, Int32.add_zero]]
        exact ih (w + 1) m1 m2 v (by omega) (by omega)
      · have hp := sc_hpos cw isL w hL d 30 hn
        rw [if_neg (nI_ne0 (by omega) (by omega))]
        have h53 := sc_53 (N := N) (cw := cw) (isL := isL) w (fun v7_6 v8_6 => (if nI (sc_c cw n w + 1) = 0 then none else (if v7_6 = 0 then none else (f_Mo_scoreOf_14 N isL cw (nI n) st (nI (pd_cnt isL 30)) (m2 + k + 1) (nI v + (((100 * nI (sc_c cw n w)) / nI (sc_c cw n w + 1)) * (1 + (nI (pd_cnt isL 30) / v7_6)))) (nI (w + 1)))))) 30 0 (N - 31) (by omega)
        rw [show N - 31 + 30 + 1 = N by omega] at h53
        have hx : 1 + pd_cnt isL 30 / sc_h cw isL w 30 ≤ 31 := by
          have := Nat.div_le_self (pd_cnt isL 30) (sc_h cw isL w 30)
          omega
        have ht := sc_term (v := v) hcc.2 hx
        rw [nI_1] at ht
        have hwt : sc_wt cw isL w = nI (1 + pd_cnt isL 30 / sc_h cw isL w 30) := by unfold sc_wt; rw [if_neg (by omega)]
        rw [hwt, ht.1]
        obtain ⟨v', e1, e2, e3⟩ := ih (w + 1) m1 m2 _ (by omega) (show v + 100 * sc_c cw n w / (sc_c cw n w + 1) * (1 + pd_cnt isL 30 / sc_h cw isL w 30) ≤ 3100 * (w + 1) by have := ht.2; omega)
        refine ⟨v', e1, e2, ?_⟩
        refine Eq.trans h53 ?_
        rw [if_neg (nI_ne0 (by omega) (by omega)), if_neg (nI_ne0 (by omega) (by omega)), sc_1p hcn hp hle, ht.1]
        exact e3
theorem sc_array {N : Nat} (hN : 64 ≤ N) {cw isL wg : Nat → Int32} (hwg : ∀ a, a < 8 → wg a = sc_wt cw isL a) (st : Int32) : ∀ (k j m : Nat) (sc : Nat → Int32), j + k = 30 → (∀ n, n < j → (isL n = 0 → sc n = 0) ∧ (isL n ≠ 0 → f_Do_score N cw wg (nI n) st = some (sc n)) ∧ ∃ v, v ≤ 24800 ∧ sc n = nI v) →
    ∃ sc', f_Mo_score_2 N isL cw st (m + k + 1) sc (nI j) = some sc' ∧ ∀ n, n < 30 → (isL n = 0 → sc' n = 0) ∧ (isL n ≠ 0 → f_Do_score N cw wg (nI n) st = some (sc' n)) ∧ ∃ v, v ≤ 24800 ∧ sc' n = nI v := by
  intro k
  induction k with
  | zero =>
    intro j m sc hj h
    refine ⟨sc, ?_, fun a ha => h a (by omega)⟩
    rw [f_Mo_score_2, if_pos (show (30 : Int32) ≤ nI j from nI_le (a := 30) (by omega) (by omega))]
  | succ k ih =>
    intro j m sc hj h
    have hj30 : j < 30 := by omega
    rw [show m + (k + 1) + 1 = (m + k + 1) + 1 from rfl, f_Mo_score_2, if_neg (show ¬ (30 : Int32) ≤ nI j from nI_ge (b := 30) (by omega) (by omega)), pb_at hj30 (by decide), pd_cl (show j < 2147483648 by omega), nI_1]
    by_cases c : isL j = 0
    · rw [if_pos c, pb_at hj30 (by decide)]
      refine ih (j + 1) m _ (by omega) (fun a ha => ?_)
      by_cases e : a = j
      · subst e
        rw [pk_us]
        exact ⟨fun _ => rfl, fun q => absurd c q, 0, by omega, rfl⟩
      · rw [pk_un e]; exact h a (by omega)
    · obtain ⟨v', e1, e2, e3⟩ := sc_lock hN hwg hj30 c st 8 0 (N - 9) (N - 9) 0 (by omega) (by omega)
      rw [show N - 9 + 8 + 1 = N by omega] at e2 e3
      have hso : f_Mo_scoreOf N isL cw (nI j) st = some (nI v') := by
        unfold f_Mo_scoreOf
        rw [pd_size (by omega), Option.bind_some]
        exact e3
      rw [if_neg c, hso, Option.bind_some, pb_at hj30 (by decide)]
      refine ih (j + 1) m _ (by omega) (fun a ha => ?_)
      by_cases e : a = j
      · subst e
        rw [pk_us]
        exact ⟨fun q => absurd q c, fun _ => e2, v', e1, rfl⟩
      · rw [pk_un e]; exact h a (by omega)
