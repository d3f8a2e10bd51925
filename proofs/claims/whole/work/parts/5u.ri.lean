/-! PURE: count 7 -/
theorem ri_holds {N : Nat} {c : List Nat} (hc : ∀ a ∈ c, a < 30) (hc30 : c.length ≤ 30) {cn : Nat → Int32} (hA : hr_A c cn) {a : Nat} (ha : a < 30) : ∀ (r : List Nat) (i m : Nat), i ≤ c.length → c.drop i = r → f_Rk_holds_2 N cn (nI c.length) (nI a) (m + r.length + 1) (nI i) = some (if a ∈ r then 1 else 0) := by
  intro r
  induction r with
  | nil =>
    intro i m hi h
    have := ch_nil h
    rw [f_Rk_holds_2, if_pos (nI_le this (by omega)), if_neg List.not_mem_nil]
  | cons b r ih =>
    intro i m hi h
    obtain ⟨h1, h2, h3, h4⟩ := ch_dr h
    have hb := hc b h4
    rw [List.length_cons, show m + (r.length + 1) + 1 = (m + r.length + 1) + 1 from rfl, f_Rk_holds_2, if_neg (nI_ge h1 (by omega)), pb_at (show i < 30 by omega) (by decide), pd_cl (show i < 2147483648 by omega), hA i h1, h2, nI_1, ih (i + 1) m h1 h3]
    by_cases e : b = a
    · subst e
      rw [if_pos rfl, if_pos List.mem_cons_self]
    · rw [if_neg (fun q => e ((nI_eq (by omega) (by omega)).mp q))]
      by_cases d : a ∈ r
      · rw [if_pos d, if_pos (List.mem_cons_of_mem _ d)]
      · rw [if_neg d, if_neg (fun q => (List.mem_cons.mp q).elim (fun q => e q.symm) d)]
theorem ri_21 {N : Nat} (hN : 64 ≤ N) {isL vec number aim : Nat → Int32} {a i : Nat} (ha : a < 30) (hi : i < 30) (hna : number i = nI a) (kk : Int32 → Int32 → Option (Int32 × (Nat → Int32))) : ∀ (k j m : Nat), j + k = 30 → f_Mo_right_21 N isL vec number aim (nI i) kk (m + k + 1) (nI (so_set (pn_lt (pn_key vec aim)) (fun m => lv_f isL m && pn_lt (pn_key vec aim) m a) j).length) (nI j) = kk (nI (so_set (pn_lt (pn_key vec aim)) (fun m => lv_f isL m && pn_lt (pn_key vec aim) m a) 30).length) (nI 30) := by
  intro k
  induction k with
  | zero =>
    intro j m hj
    have : j = 30 := by omega
    subst this
    rw [f_Mo_right_21, if_pos (by decide)]
  | succ k ih =>
    intro j m hj
    have hj30 : j < 30 := by omega
    have hI := ih (j + 1) m (by omega)
    rw [be_len] at hI
    rw [show m + (k + 1) + 1 = (m + k + 1) + 1 from rfl, f_Mo_right_21, if_neg (show ¬ (30 : Int32) ≤ nI j from nI_ge (b := 30) (by omega) (by omega)), pb_at hj30 (by decide), pd_cl (show j < 2147483648 by omega), nI_1, nI_1]
    by_cases c : isL j = 0
    · have hf : (lv_f isL j && pn_lt (pn_key vec aim) j a) = false := by unfold lv_f; simp [c]
      rw [if_pos c]
      rw [hf] at hI
      simp only [Bool.false_eq_true, if_false] at hI
      exact hI
    · rw [if_neg c, pb_at hi (by decide), pd_cl (show i < 2147483648 by omega), hna, pn_isNearer (by omega) vec aim hj30 ha, Option.bind_some]
      have hf : (lv_f isL j && pn_lt (pn_key vec aim) j a) = pn_lt (pn_key vec aim) j a := by unfold lv_f; simp [c]
      rw [hf] at hI
      by_cases d : pn_lt (pn_key vec aim) j a = true
      · simp only [if_pos d, if_neg pz_10] at hI ⊢
        exact hI
      · simp only [if_neg d, if_true] at hI ⊢
        exact hI
theorem ri_count {N : Nat} (hN : 64 ≤ N) {V : Nat → Nat → Int32} {vec : Nat → Int32} (hV : ch_V V vec) (cw wg isL asked : Nat → Int32) {lv : Int32} (hlv : lv_R lv isL) {rn rv number worth : Nat → Int32} {rs found : Int32} (rr rg : Int32) (hF : re_F rn rv rs number worth found) (X : T_Rk) (aim : Nat → Int32) : ∃ r X' aim', f_Nd_foundAmongNearest N (V, cw, wg, lv) (rn, rv, rs, rr, rg) X asked = some (r, X') ∧ f_Mo_right N isL vec aim asked number found = some (r, aim') := by
  obtain ⟨f, f1, rfl, rfl, f4⟩ := hF
  obtain ⟨aim1, b1, b2⟩ := se_aim hN aim asked
  obtain ⟨tn, tv, t1, t2⟩ := ne_rank (N := N) (aim := aim1) hN hV b2 hlv (kk := f) f1 30 0 (N - 31) X.1 X.2.1 (by omega) (by intro i hi; simp [so_set] at hi)
  rw [show N - 31 + 30 + 1 = N by omega, show so_set (pn_lt (pn_key vec aim1)) (lv_f isL) 0 = [] from rfl, List.take_nil] at t1
  have hl30 := so_set_len (lt := pn_lt (pn_key vec aim1)) (P := lv_f isL) 30
  have T := pn_T (pn_key vec aim1)
  have hcl : ((so_set (pn_lt (pn_key vec aim1)) (lv_f isL) 30).take f).length ≤ 30 := by rw [List.length_take]; omega
  have lock : ∀ (k i m1 m2 t : Nat), i + k = f → ∃ r, f_Nd_foundAmongNearest_34 N (rn, rv, nI f, rr, rg) (tn, tv, nI ((so_set (pn_lt (pn_key vec aim1)) (lv_f isL) 30).take f).length, nI f, 0) (m1 + k + 1) (nI t) (nI i) = some (r, (tn, tv, nI ((so_set (pn_lt (pn_key vec aim1)) (lv_f isL) 30).take f).length, nI f, 0)) ∧ f_Mo_right_8 N isL vec number (nI f) aim1 (m2 + k + 1) (nI t) (nI i) = some (r, aim1) := by
    intro k
    induction k with
    | zero =>
      intro i m1 m2 t hi
      refine ⟨nI t, ?_, ?_⟩
      · rw [f_Nd_foundAmongNearest_34]
        unfold f_Rk_size
        dsimp only
        rw [Option.bind_some, if_pos (nI_le (by omega) (by omega))]
      · rw [f_Mo_right_8, if_pos (nI_le (by omega) (by omega))]
    | succ k ih =>
      intro i m1 m2 t hi
      obtain ⟨g1, g2, a, g3, g4⟩ := f4 i (by omega)
      have hna : number i = nI a := by rw [g1, g4]
      have hh := ri_holds (N := N) (c := (so_set (pn_lt (pn_key vec aim1)) (lv_f isL) 30).take f) (fun a ha => (so_set_mem.mp (List.mem_of_mem_take ha)).1) hcl (cn := tn) (fun i hi => (t2 i hi).1) g3 _ 0 (N - ((so_set (pn_lt (pn_key vec aim1)) (lv_f isL) 30).take f).length - 1) (Nat.zero_le _) rfl
      rw [List.drop_zero, show N - ((so_set (pn_lt (pn_key vec aim1)) (lv_f isL) 30).take f).length - 1 + ((so_set (pn_lt (pn_key vec aim1)) (lv_f isL) 30).take f).length + 1 = N by omega] at hh
      have h21 := ri_21 (N := N) hN (isL := isL) (vec := vec) (number := number) (aim := aim1) (i := i) g3 (by omega) hna (fun v3_4 v4_4 => (g_at (nI i) 30 (g_at (number (nI i).toNatClampNeg) 30 (if (isL (number (nI i).toNatClampNeg).toNatClampNeg) = 0 then (f_Mo_right_8 N isL vec number (nI f) aim1 (m2 + k + 1) (nI t) (nI i + 1)) else (if nI f ≤ v3_4 then (f_Mo_right_8 N isL vec number (nI f) aim1 (m2 + k + 1) (nI t) (nI i + 1)) else (f_Mo_right_8 N isL vec number (nI f) aim1 (m2 + k + 1) (nI t + 1) (nI i + 1))))))) 30 0 (N - 31) (by omega)
      rw [show N - 31 + 30 + 1 = N by omega] at h21
      have cls : f_Nd_foundAmongNearest_34 N (rn, rv, nI f, rr, rg) (tn, tv, nI ((so_set (pn_lt (pn_key vec aim1)) (lv_f isL) 30).take f).length, nI f, 0) (m1 + (k + 1) + 1) (nI t) (nI i) = f_Nd_foundAmongNearest_34 N (rn, rv, nI f, rr, rg) (tn, tv, nI ((so_set (pn_lt (pn_key vec aim1)) (lv_f isL) 30).take f).length, nI f, 0) (m1 + k + 1) (nI (if a ∈ (so_set (pn_lt (pn_key vec aim1)) (lv_f isL) 30).take f then t + 1 else t)) (nI (i + 1)) := by
        rw [show m1 + (k + 1) + 1 = (m1 + k + 1) + 1 from rfl, f_Nd_foundAmongNearest_34]
        unfold f_Rk_size f_Rk_numberAt f_Rk_holds
        dsimp only
        rw [Option.bind_some, if_neg (nI_ge (by omega) (by omega)), pb_at (show i < 30 by omega) (by decide), pd_cl (show i < 2147483648 by omega), g4, Option.bind_some, show f_Rk_holds_2 N tn (nI ((so_set (pn_lt (pn_key vec aim1)) (lv_f isL) 30).take f).length) (nI a) N 0 = _ from hh, Option.bind_some, nI_1, nI_1]
        by_cases d : a ∈ (so_set (pn_lt (pn_key vec aim1)) (lv_f isL) 30).take f
        · simp only [if_pos d, if_neg pz_10]
        · simp only [if_neg d, if_true]
      have ref : f_Mo_right_8 N isL vec number (nI f) aim1 (m2 + (k + 1) + 1) (nI t) (nI i) = f_Mo_right_8 N isL vec number (nI f) aim1 (m2 + k + 1) (nI (if a ∈ (so_set (pn_lt (pn_key vec aim1)) (lv_f isL) 30).take f then t + 1 else t)) (nI (i + 1)) := by
        rw [show m2 + (k + 1) + 1 = (m2 + k + 1) + 1 from rfl, f_Mo_right_8, if_neg (nI_ge (by omega) (by omega))]
        refine Eq.trans h21 ?_
        rw [pb_at (show i < 30 by omega) (by decide), pd_cl (show i < 2147483648 by omega), hna, pb_at g3 (by decide), pd_cl (show a < 2147483648 by omega), nI_1, nI_1]
        by_cases d : isL a = 0
        · rw [if_pos d, if_neg (fun q => by
            have := (so_set_mem.mp (List.mem_of_mem_take q)).2
            unfold lv_f at this
            simp [d] at this)]
        · rw [if_neg d]
          have hr := (rk_idx T (P := lv_f isL) g3 (by unfold lv_f; simp [d])).2.2 f
          have hr30 := so_set_len (lt := pn_lt (pn_key vec aim1)) (P := fun m => lv_f isL m && pn_lt (pn_key vec aim1) m a) 30
          by_cases q : f ≤ (so_set (pn_lt (pn_key vec aim1)) (fun m => lv_f isL m && pn_lt (pn_key vec aim1) m a) 30).length
          · rw [if_pos (nI_le q (by omega)), if_neg (fun z => by have := hr.mp z; omega)]
          · rw [if_neg (nI_ge (show (so_set (pn_lt (pn_key vec aim1)) (fun m => lv_f isL m && pn_lt (pn_key vec aim1) m a) 30).length < f by omega) (by omega)), if_pos (hr.mpr (by omega))]
      rw [cls, ref]
      exact ih (i + 1) m1 m2 _ (by omega)
  obtain ⟨r, e1, e2⟩ := lock f 0 (N - f - 1) (N - f - 1) 0 (by omega)
  rw [show N - f - 1 + f + 1 = N by omega] at e1 e2
  refine ⟨r, (tn, tv, nI ((so_set (pn_lt (pn_key vec aim1)) (lv_f isL) 30).take f).length, nI f, 0), aim1, ?_, ?_⟩
  · unfold f_Nd_foundAmongNearest f_Rk_size f_Do_rankByDistance
    dsimp only
    rw [Option.bind_some, ne_start f1, Option.bind_some]
    dsimp only
    rw [show f_Do_rankByDistance_2 N V lv asked N (X.1, X.2.1, 0, nI f, 0) 0 = _ from t1, Option.bind_some]
    exact e1
  · unfold f_Mo_right
    rw [b1, Option.bind_some]
    exact e2
