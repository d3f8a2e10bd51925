/-! PURE: match and fuse -/
theorem fu_score {N : Nat} (hN : 64 ≤ N) {cw isL wg sc : Nat → Int32} {lv st : Int32} (hlv : lv_R lv isL) (hsc : ∀ n, n < 30 → (isL n = 0 → sc n = 0) ∧ (isL n ≠ 0 → f_Do_score N cw wg (nI n) st = some (sc n)) ∧ ∃ v, v ≤ 24800 ∧ sc n = nI v) {kk : Nat} (hkk : kk ≤ 30) : ∀ (k j m : Nat) (tn tv : Nat → Int32), j + k = 30 → pr_A sc ((so_set (sc_lt sc) (pn_P sc) j).take kk) tn tv →
    ∃ tn' tv', f_Do_rankByScore_6 N cw lv st wg (m + k + 1) (tn, tv, nI ((so_set (sc_lt sc) (pn_P sc) j).take kk).length, nI kk, 1) (nI j) = some (wg, tn', tv', nI ((so_set (sc_lt sc) (pn_P sc) 30).take kk).length, nI kk, 1) ∧ pr_A sc ((so_set (sc_lt sc) (pn_P sc) 30).take kk) tn' tv' := by
  have T := sc_T sc
  intro k
  induction k with
  | zero =>
    intro j m tn tv hj h
    have : j = 30 := by omega
    subst this
    refine ⟨tn, tv, ?_, h⟩
    rw [f_Do_rankByScore_6, if_pos (by decide)]
  | succ k ih =>
    intro j m tn tv hj h
    have hj30 : j < 30 := by omega
    obtain ⟨q1, q2, v, q3, q4⟩ := hsc j hj30
    have hst : so_set (sc_lt sc) (pn_P sc) (j + 1) = if sc j = 0 then so_set (sc_lt sc) (pn_P sc) j else so_ins (sc_lt sc) j (so_set (sc_lt sc) (pn_P sc) j) := pn_step (P := sc)
    have skip : sc j = 0 → ∃ tn' tv', f_Do_rankByScore_6 N cw lv st wg (m + k + 1) (tn, tv, nI ((so_set (sc_lt sc) (pn_P sc) j).take kk).length, nI kk, 1) (nI j + 1) = some (wg, tn', tv', nI ((so_set (sc_lt sc) (pn_P sc) 30).take kk).length, nI kk, 1) ∧ pr_A sc ((so_set (sc_lt sc) (pn_P sc) 30).take kk) tn' tv' := by
      intro c
      rw [if_pos c] at hst
      rw [nI_1, ← hst]
      exact ih (j + 1) m tn tv (by omega) (by rw [hst]; exact h)
    rw [show m + (k + 1) + 1 = (m + k + 1) + 1 from rfl, f_Do_rankByScore_6, if_neg (show ¬ (30 : Int32) ≤ nI j from nI_ge (b := 30) (by omega) (by omega)), lv_is hlv hj30, Option.bind_some]
    by_cases c : isL j = 0
    · simp only [if_pos c, if_true]
      exact skip (q1 c)
    · simp only [if_neg c, if_neg pz_10]
      rw [q2 c, Option.bind_some]
      by_cases d : v = 0
      · have hz : sc j = 0 := by rw [q4, d]; rfl
        rw [if_pos (show sc j ≤ 0 by rw [hz]; decide)]
        exact skip hz
      · have hz : ¬ sc j = 0 := by rw [q4]; exact nI_ne0 (by omega) (by omega)
        rw [if_neg (show ¬ sc j ≤ 0 by rw [q4]; exact nI_nle (by omega) (by omega))]
        rw [if_neg hz] at hst
        have hsf : so_ok (sc_lt sc) (so_set (sc_lt sc) (pn_P sc) j) := so_set_ok T _
        have hnx : j ∉ so_set (sc_lt sc) (pn_P sc) j := fun q => absurd (so_set_mem.mp q).1 (Nat.lt_irrefl _)
        obtain ⟨n1, v1, a1, a2⟩ := pa_ok (N := N) (room := kk) (x := j) (l := (so_set (sc_lt sc) (pn_P sc) j).take kk) (by omega) T (sc_hp N sc) hj30 (fun a ha => Nat.lt_trans (so_set_mem.mp (List.mem_of_mem_take ha)).1 hj30) hkk (by rw [List.length_take]; omega) (List.Pairwise.sublist (List.take_sublist _ _) hsf) tn tv h
        rw [se_add T hsf hnx, ← hst] at a1 a2
        rw [a1, Option.bind_some, nI_1]
        exact ih (j + 1) m n1 v1 (by omega) a2
theorem fu_points {N : Nat} (hN : 64 ≤ N) {pts sc : Nat → Int32} (hp : ∀ n, n < 30 → pts n = sc n ∧ ∃ v, v ≤ 100000 ∧ sc n = nI v) {kk : Nat} (hkk : kk ≤ 30) : ∀ (k j m : Nat) (tn tv : Nat → Int32), j + k = 30 → pr_A sc ((so_set (sc_lt sc) (pn_P sc) j).take kk) tn tv →
    ∃ tn' tv', f_Nd_rankByPoints_results_2 N pts (m + k + 1) (tn, tv, nI ((so_set (sc_lt sc) (pn_P sc) j).take kk).length, nI kk, 1) (nI j) = some (tn', tv', nI ((so_set (sc_lt sc) (pn_P sc) 30).take kk).length, nI kk, 1) ∧ pr_A sc ((so_set (sc_lt sc) (pn_P sc) 30).take kk) tn' tv' := by
  have T := sc_T sc
  intro k
  induction k with
  | zero =>
    intro j m tn tv hj h
    have : j = 30 := by omega
    subst this
    refine ⟨tn, tv, ?_, h⟩
    rw [f_Nd_rankByPoints_results_2, if_pos (by decide)]
  | succ k ih =>
    intro j m tn tv hj h
    have hj30 : j < 30 := by omega
    obtain ⟨q1, v, q3, q4⟩ := hp j hj30
    have hst : so_set (sc_lt sc) (pn_P sc) (j + 1) = if sc j = 0 then so_set (sc_lt sc) (pn_P sc) j else so_ins (sc_lt sc) j (so_set (sc_lt sc) (pn_P sc) j) := pn_step (P := sc)
    rw [show m + (k + 1) + 1 = (m + k + 1) + 1 from rfl, f_Nd_rankByPoints_results_2, if_neg (show ¬ (30 : Int32) ≤ nI j from nI_ge (b := 30) (by omega) (by omega)), pb_at hj30 (by decide), pb_at hj30 (by decide), pd_cl (show j < 2147483648 by omega), q1]
    by_cases d : v = 0
    · have hz : sc j = 0 := by rw [q4, d]; rfl
      rw [if_pos (show sc j ≤ 0 by rw [hz]; decide)]
      rw [if_pos hz] at hst
      rw [nI_1, ← hst]
      exact ih (j + 1) m tn tv (by omega) (by rw [hst]; exact h)
    · have hz : ¬ sc j = 0 := by rw [q4]; exact nI_ne0 (by omega) (by omega)
      rw [if_neg (show ¬ sc j ≤ 0 by rw [q4]; exact nI_nle (by omega) (by omega))]
      rw [if_neg hz] at hst
      have hsf : so_ok (sc_lt sc) (so_set (sc_lt sc) (pn_P sc) j) := so_set_ok T _
      have hnx : j ∉ so_set (sc_lt sc) (pn_P sc) j := fun q => absurd (so_set_mem.mp q).1 (Nat.lt_irrefl _)
      obtain ⟨n1, v1, a1, a2⟩ := pa_ok (N := N) (room := kk) (x := j) (l := (so_set (sc_lt sc) (pn_P sc) j).take kk) (by omega) T (sc_hp N sc) hj30 (fun a ha => Nat.lt_trans (so_set_mem.mp (List.mem_of_mem_take ha)).1 hj30) hkk (by rw [List.length_take]; omega) (List.Pairwise.sublist (List.take_sublist _ _) hsf) tn tv h
      rw [se_add T hsf hnx, ← hst] at a1 a2
      rw [a1, Option.bind_some, nI_1]
      exact ih (j + 1) m n1 v1 (by omega) a2
theorem fu_all {N : Nat} (hN : 64 ≤ N) {cw isL wg scores : Nat → Int32} {lv st : Int32} (hlv : lv_R lv isL) {kk : Nat} (hkk : kk ≤ 30) (tn tv : Nat → Int32) : ∃ wg' sc tn' tv', f_Mo_score N isL cw scores st = some sc ∧ f_Do_rankByScore N cw wg lv tn tv 0 (nI kk) 1 st = some (wg', tn', tv', nI ((so_set (sc_lt sc) (pn_P sc) 30).take kk).length, nI kk, 1) ∧ pr_A sc ((so_set (sc_lt sc) (pn_P sc) 30).take kk) tn' tv' ∧ ∀ n, n < 30 → ∃ v, v ≤ 24800 ∧ sc n = nI v := by
  obtain ⟨wg', w1, w2⟩ := sc_weigh hN (cw := cw) hlv 8 0 (N - 9) wg (by omega) (fun a ha => absurd ha (Nat.not_lt_zero _))
  rw [show N - 9 + 8 + 1 = N by omega] at w1
  obtain ⟨sc, s1, s2⟩ := sc_array hN w2 st 30 0 (N - 31) scores (by omega) (fun a ha => absurd ha (Nat.not_lt_zero _))
  rw [show N - 31 + 30 + 1 = N by omega] at s1
  obtain ⟨tn', tv', t1, t2⟩ := fu_score hN hlv s2 hkk 30 0 (N - 31) tn tv (by omega) (by intro i hi; simp [so_set] at hi)
  rw [show N - 31 + 30 + 1 = N by omega, show so_set (sc_lt sc) (pn_P sc) 0 = [] from rfl, List.take_nil] at t1
  refine ⟨wg', sc, tn', tv', s1, ?_, t2, fun n hn => (s2 n hn).2.2⟩
  unfold f_Do_rankByScore f_Do_weighWords
  rw [show f_Do_weighWords_2 N cw lv N wg 0 = _ from w1, Option.bind_some]
  exact t1
theorem fu_start {N k : Nat} (hk : k ≤ 30) : f_Rk_start N (nI k) 1 = some (0, nI k, 1) := (pl_start N hk).2
theorem fu_match {N : Nat} (hN : 64 ≤ N) (V : Nat → Nat → Int32) (cw wg isL : Nat → Int32) {lv : Int32} (hlv : lv_R lv isL) (rn rv : Nat → Int32) (rs rr rg : Int32) (scores number worth : Nat → Int32) (found : Int32) (hF : re_F rn rv rs number worth found) (a1 a2 : Int32) :
    ∃ r wg' rn' rv' rs' rr' rg' number' worth' scores' found', f_Nd_match N (V, cw, wg, lv) (rn, rv, rs, rr, rg) a1 a2 = some (r, (V, cw, wg', lv), (rn', rv', rs', rr', rg')) ∧ f_Mo_match N isL cw number worth scores found a1 a2 = some (r, number', worth', scores', found') ∧ re_F rn' rv' rs' number' worth' found' := by
  unfold f_Nd_match f_Mo_match
  simp only [pb_isWithin, pb_in, Option.bind_some]
  by_cases c1 : (1 : Int32) ≤ a1 ∧ a1 ≤ 10
  · simp only [if_pos c1, if_neg pz_10]
    by_cases c2 : (0 : Int32) ≤ a2 ∧ a2 ≤ 255
    · simp only [if_pos c2, if_neg pz_10]
      obtain ⟨k, k1, k2, rfl⟩ := ne_in (lo := 1) (hi := 10) (by decide) (by decide) c1
      obtain ⟨wg', sc, tn, tv, s1, s2, s3, s4⟩ := fu_all (N := N) hN (cw := cw) (wg := wg) (scores := scores) (st := a2) hlv (kk := k) (by omega) rn rv
      obtain ⟨num', wor', b1, b2⟩ := be_best hN (fun n hn => by obtain ⟨v, v1, v2⟩ := s4 n hn; exact ⟨v, by omega, v2⟩) (kk := k) (by omega) number worth
      have hl30 := so_set_len (lt := sc_lt sc) (P := pn_P sc) 30
      refine ⟨nI ((so_set (sc_lt sc) (pn_P sc) 30).take k).length, wg', tn, tv, nI ((so_set (sc_lt sc) (pn_P sc) 30).take k).length, nI k, 1, num', wor', sc, nI ((so_set (sc_lt sc) (pn_P sc) 30).take k).length, ?_, ?_, re_ofA (fun a ha => (so_set_mem.mp (List.mem_of_mem_take ha)).1) (by rw [List.length_take]; omega) s3 b2⟩
      · rw [fu_start (by omega), Option.bind_some]
        dsimp only
        rw [s2, Option.bind_some]
        rfl
      · rw [s1, Option.bind_some, b1, Option.bind_some]
    · simp only [if_neg c2, if_true]
      exact ⟨-1, wg, rn, rv, rs, rr, rg, number, worth, scores, found, rfl, rfl, hF⟩
  · simp only [if_neg c1, if_true]
    exact ⟨-1, wg, rn, rv, rs, rr, rg, number, worth, scores, found, rfl, rfl, hF⟩
/-! fuse -/
theorem fu_clear {N : Nat} : ∀ (k j m : Nat) (P : Nat → Int32), j + k = 30 → (∀ a, a < j → P a = 0) → ∃ P', f_Nd_clearPoints_2 N (m + k + 1) P (nI j) = some P' ∧ ∀ a, a < 30 → P' a = 0 := by
  intro k
  induction k with
  | zero =>
    intro j m P hj h
    refine ⟨P, ?_, fun a ha => h a (by omega)⟩
    rw [f_Nd_clearPoints_2, if_pos (show (30 : Int32) ≤ nI j from nI_le (a := 30) (by omega) (by omega))]
  | succ k ih =>
    intro j m P hj h
    rw [show m + (k + 1) + 1 = (m + k + 1) + 1 from rfl, f_Nd_clearPoints_2, if_neg (show ¬ (30 : Int32) ≤ nI j from nI_ge (b := 30) (by omega) (by omega)), pb_at (show j < 30 by omega) (by decide), pd_cl (show j < 2147483648 by omega), nI_1]
    refine ih (j + 1) m _ (by omega) (fun a ha => ?_)
    by_cases e : a = j
    · subst e; rw [pk_us]
    · rw [pk_un e]; exact h a (by omega)
def fu_pv (sc : Nat → Int32) (a : Nat) : Int32 := if sc a = 0 then 0 else if 10 ≤ be_r sc a then 0 else nI (1000 / (10 + be_r sc a))
theorem fu_10 {i : Nat} (hi : i ≤ 30) : 1000 / (10 + nI i) = nI (1000 / (10 + i)) ∧ ¬ (10 : Int32) + nI i = 0 := by
  rw [show (10 : Int32) = nI 10 from rfl, nI_add, show (1000 : Int32) = nI 1000 from rfl, pk_div (by omega) (by omega) (by omega)]
  exact ⟨rfl, nI_ne0 (by omega) (by omega)⟩
theorem fu_ap1 {N : Nat} {sc : Nat → Int32} (hv : ∀ n, n < 30 → ∃ v, v ≤ 100000 ∧ sc n = nI v) {tn tv : Nat → Int32} {rm gf : Int32} (hA : pr_A sc ((so_set (sc_lt sc) (pn_P sc) 30).take 10) tn tv) : ∀ (k i m : Nat) (P : Nat → Int32), i + k = ((so_set (sc_lt sc) (pn_P sc) 30).take 10).length → (∀ a, a < 30 → P a = if a ∈ (so_set (sc_lt sc) (pn_P sc) 30).take i then nI (1000 / (10 + be_r sc a)) else 0) →
    ∃ P', f_Nd_addPoints_scratch_2 N (tn, tv, nI ((so_set (sc_lt sc) (pn_P sc) 30).take 10).length, rm, gf) (m + k + 1) P (nI i) = some P' ∧ ∀ a, a < 30 → P' a = fu_pv sc a := by
  have T := sc_T sc
  have hs : so_ok (sc_lt sc) (so_set (sc_lt sc) (pn_P sc) 30) := so_set_ok T _
  have hidx := fun n hn h0 => be_idx hv (n := n) hn h0
  have hmem : ∀ m, m ∈ so_set (sc_lt sc) (pn_P sc) 30 ↔ m < 30 ∧ sc m ≠ 0 := fun m => ⟨fun hm => ⟨(so_set_mem.mp hm).1, (pw_set_mem (so_set_mem.mp hm).1).mp hm⟩, fun h => (pw_set_mem h.1).mpr h.2⟩
  generalize so_set (sc_lt sc) (pn_P sc) 30 = s at *
  have hl : (s.take 10).length = min 10 s.length := List.length_take
  intro k
  induction k with
  | zero =>
    intro i m P hi h
    refine ⟨P, ?_, fun a ha => ?_⟩
    · rw [f_Nd_addPoints_scratch_2]
      unfold f_Rk_size
      dsimp only
      rw [Option.bind_some, if_pos (nI_le (by omega) (by omega))]
    · rw [h a ha]
      unfold fu_pv
      have e10 : s.take i = s.take 10 := by
        rw [show i = min 10 s.length by omega]
        by_cases q : 10 ≤ s.length
        · rw [Nat.min_eq_left q]
        · rw [Nat.min_eq_right (by omega), List.take_of_length_le (Nat.le_refl _), List.take_of_length_le (by omega)]
      rw [e10]
      by_cases c : sc a = 0
      · rw [if_pos c, if_neg (fun q => ((hmem a).mp (List.mem_of_mem_take q)).2 c)]
      · rw [if_neg c]
        have := (hidx a ha c).2.2 10
        by_cases d : 10 ≤ be_r sc a
        · rw [if_pos d, if_neg (fun q => by have := this.mp q; omega)]
        · rw [if_neg d, if_pos (this.mpr (by omega))]
  | succ k ih =>
    intro i m P hi h
    have hi10 : i < (s.take 10).length := by omega
    have his : i < s.length := by omega
    have hg : (s.take 10).getD i 0 = s[i] := by rw [List.getD_eq_getElem?_getD, List.getElem?_take_of_lt (by omega), List.getElem?_eq_getElem his]; rfl
    have hsi : s[i] ∈ s := List.getElem_mem _
    have hm := (hmem _).mp hsi
    have hni : s[i] ∉ s.take i := fun q => by
      obtain ⟨j, hj, hjm⟩ := List.mem_iff_getElem.mp q
      rw [List.length_take] at hj
      rw [List.getElem_take] at hjm
      have := List.pairwise_iff_getElem.mp hs j i (by omega) his (by omega)
      rw [hjm, T.1] at this
      cases this
    have hr : be_r sc s[i] = i := by
      have g := (hidx _ hm.1 hm.2).2.2
      have g1 := (g (i + 1)).mp (by rw [← List.take_append_getElem his]; exact List.mem_append_right _ List.mem_cons_self)
      have g2 : ¬ be_r sc s[i] < i := fun q => hni ((g i).mpr q)
      omega
    rw [show m + (k + 1) + 1 = (m + k + 1) + 1 from rfl, f_Nd_addPoints_scratch_2]
    unfold f_Rk_size f_Rk_numberAt g_dv
    dsimp only
    rw [Option.bind_some, if_neg (nI_ge hi10 (by omega)), pb_at (show i < 30 by omega) (by decide), Option.bind_some, pd_cl (show i < 2147483648 by omega), (hA i hi10).1, hg, pb_at hm.1 (by decide), if_neg (fu_10 (by omega)).2, pb_at hm.1 (by decide), pd_cl (show s[i] < 2147483648 by omega), (fu_10 (by omega)).1, nI_1, h _ hm.1, if_neg hni, Int32.zero_add]
    refine ih (i + 1) m _ (by omega) (fun a ha => ?_)
    rw [← List.take_append_getElem his]
    by_cases e : a = s[i]
    · subst e
      rw [pk_us, if_pos (List.mem_append_right _ List.mem_cons_self), hr]
    · rw [pk_un e, h a ha]
      by_cases c : a ∈ s.take i
      · rw [if_pos c, if_pos (List.mem_append_left _ c)]
      · rw [if_neg c, if_neg (fun q => (List.mem_append.mp q).elim c (fun r => e (List.mem_singleton.mp r)))]
theorem fu_30 {N : Nat} (hN : 64 ≤ N) {sc : Nat → Int32} (hv : ∀ n, n < 30 → ∃ v, v ≤ 100000 ∧ sc n = nI v) (isL vec lev R D aim asked sn hd op hr number worth : Nat → Int32) (entryM : Int32) (sA : Int64) (a1 : Int32) : ∀ (k j m : Nat) (pool : Nat → Int32), j + k = 30 → (∀ a, a < j → pool a = fu_pv sc a) →
    ∃ pool', f_Mo_fuse_30 N isL vec lev R D entryM aim asked sn hd op hr number worth sA a1 sc (m + k + 1) pool (nI j) = ((f_Mo_search N isL vec lev R D entryM aim asked sn hd op hr sA 10).bind fun p8 => (f_Mo_fuse_92 N number worth a1 pool' p8 N sc 0)) ∧ ∀ a, a < 30 → pool' a = fu_pv sc a := by
  intro k
  induction k with
  | zero =>
    intro j m pool hj h
    refine ⟨pool, ?_, fun a ha => h a (by omega)⟩
    rw [f_Mo_fuse_30, if_pos (show (30 : Int32) ≤ nI j from nI_le (a := 30) (by omega) (by omega))]
  | succ k ih =>
    intro j m pool hj h
    have hj30 : j < 30 := by omega
    have hr30 := be_r30 sc j
    obtain ⟨v, v1, v2⟩ := hv j hj30
    have upn : ∀ x, x = fu_pv sc j → ∀ a, a < j + 1 → upd pool j x a = fu_pv sc a := fun x hx a ha => by
      by_cases e : a = j
      · subst e; rw [pk_us, hx]
      · rw [pk_un e]; exact h a (by omega)
    rw [show m + (k + 1) + 1 = (m + k + 1) + 1 from rfl, f_Mo_fuse_30, if_neg (show ¬ (30 : Int32) ≤ nI j from nI_ge (b := 30) (by omega) (by omega)), be_place hN sc hj30, Option.bind_some, pb_at hj30 (by decide), pb_at hj30 (by decide), pb_at hj30 (by decide), pd_cl (show j < 2147483648 by omega), nI_1]
    by_cases d : v = 0
    · have hz : sc j = 0 := by rw [v2, d]; rfl
      rw [if_pos (show sc j ≤ 0 by rw [hz]; decide)]
      exact ih (j + 1) m _ (by omega) (upn 0 (by unfold fu_pv; rw [if_pos hz]))
    · have hz : ¬ sc j = 0 := by rw [v2]; exact nI_ne0 (by omega) (by omega)
      rw [if_neg (show ¬ sc j ≤ 0 by rw [v2]; exact nI_nle (by omega) (by omega))]
      by_cases c : 10 ≤ be_r sc j
      · rw [if_pos (show (10 : Int32) ≤ nI (be_r sc j) from nI_le (a := 10) c (by omega))]
        exact ih (j + 1) m _ (by omega) (upn 0 (by unfold fu_pv; rw [if_neg hz, if_pos c]))
      · rw [if_neg (show ¬ (10 : Int32) ≤ nI (be_r sc j) from nI_ge (b := 10) (by omega) (by omega))]
        unfold g_dv
        rw [if_neg (fu_10 hr30).2, (fu_10 hr30).1]
        exact ih (j + 1) m _ (by omega) (upn _ (by unfold fu_pv; rw [if_neg hz, if_neg c]))
theorem fu_92 {N : Nat} (number worth : Nat → Int32) (a1 : Int32) (pool : Nat → Int32) (p8 : (Nat → Int32) × (Nat → Int32) × (Nat → Int32) × (Nat → Int32) × (Nat → Int32) × Int32 × Int64) : ∀ (k j m : Nat) (sc : Nat → Int32), j + k = 30 → (∀ a, a < j → sc a = pool a) →
    ∃ sc', f_Mo_fuse_92 N number worth a1 pool p8 (m + k + 1) sc (nI j) = f_Mo_fuse_118 N number worth a1 pool p8 N sc' 0 ∧ ∀ a, a < 30 → sc' a = pool a := by
  intro k
  induction k with
  | zero =>
    intro j m sc hj h
    refine ⟨sc, ?_, fun a ha => h a (by omega)⟩
    rw [f_Mo_fuse_92, if_pos (show (30 : Int32) ≤ nI j from nI_le (a := 30) (by omega) (by omega))]
  | succ k ih =>
    intro j m sc hj h
    rw [show m + (k + 1) + 1 = (m + k + 1) + 1 from rfl, f_Mo_fuse_92, if_neg (show ¬ (30 : Int32) ≤ nI j from nI_ge (b := 30) (by omega) (by omega)), pb_at (show j < 30 by omega) (by decide), pb_at (show j < 30 by omega) (by decide), pd_cl (show j < 2147483648 by omega), nI_1]
    refine ih (j + 1) m _ (by omega) (fun a ha => ?_)
    by_cases e : a = j
    · subst e; rw [pk_us]
    · rw [pk_un e]; exact h a (by omega)
theorem fu_118 {N : Nat} (number worth : Nat → Int32) (a1 : Int32) (pool aim sn hd op hr : Nat → Int32) (sA : Int64) {c : List Nat} (hc : ∀ a ∈ c, a < 30) (hc10 : c.length ≤ 10) (hH : hr_A c hr) {tn : Nat → Int32} (hT : hr_A c tn) (tv : Nat → Int32) (rm gf : Int32) : ∀ (k i m1 m2 : Nat) (P Q : Nat → Int32), i + k = c.length → (∀ a, a < 30 → P a = Q a ∧ ∃ v, v ≤ 100 + 100 * i ∧ Q a = nI v) →
    ∃ P' Q', f_Nd_addPoints_scratch_2 N (tn, tv, nI c.length, rm, gf) (m1 + k + 1) P (nI i) = some P' ∧ f_Mo_fuse_118 N number worth a1 pool (aim, sn, hd, op, hr, nI c.length, sA) (m2 + k + 1) Q (nI i) = ((f_Mo_best N number worth Q' a1).bind fun p26 => (some (p26.1, aim, sn, hd, op, hr, pool, nI c.length, p26.2.1, p26.2.2.1, Q', p26.2.2.2, sA))) ∧ ∀ a, a < 30 → P' a = Q' a ∧ ∃ v, v ≤ 100000 ∧ Q' a = nI v := by
  intro k
  induction k with
  | zero =>
    intro i m1 m2 P Q hi h
    refine ⟨P, Q, ?_, ?_, fun a ha => ⟨(h a ha).1, by obtain ⟨v, v1, v2⟩ := (h a ha).2; exact ⟨v, by omega, v2⟩⟩⟩
    · rw [f_Nd_addPoints_scratch_2]
      unfold f_Rk_size
      dsimp only
      rw [Option.bind_some, if_pos (nI_le (by omega) (by omega))]
    · rw [f_Mo_fuse_118]
      dsimp only
      rw [if_pos (nI_le (by omega) (by omega))]
  | succ k ih =>
    intro i m1 m2 P Q hi h
    have hic : i < c.length := by omega
    have g1 := hc _ (wp_getD hic)
    obtain ⟨q1, v, q2, q3⟩ := h _ g1
    obtain ⟨P', Q', e1, e2, e3⟩ := ih (i + 1) m1 m2 (upd P (c.getD i 0) (P (c.getD i 0) + nI (1000 / (10 + i)))) (upd Q (c.getD i 0) (Q (c.getD i 0) + nI (1000 / (10 + i)))) (by omega) (fun a ha => by
      by_cases e : a = c.getD i 0
      · rw [e, pk_us, pk_us, q1]
        refine ⟨rfl, v + 1000 / (10 + i), ?_, by rw [q3, nI_add]⟩
        have : 1000 / (10 + i) ≤ 100 := by
          apply Nat.div_le_of_le_mul
          omega
        omega
      · rw [pk_un e, pk_un e]
        obtain ⟨r1, v', r2, r3⟩ := h a ha
        exact ⟨r1, v', by omega, r3⟩)
    refine ⟨P', Q', ?_, ?_, e3⟩
    · rw [show m1 + (k + 1) + 1 = (m1 + k + 1) + 1 from rfl, f_Nd_addPoints_scratch_2]
      unfold f_Rk_size f_Rk_numberAt g_dv
      dsimp only
      rw [Option.bind_some, if_neg (nI_ge hic (by omega)), pb_at (show i < 30 by omega) (by decide), Option.bind_some, pd_cl (show i < 2147483648 by omega), hT i hic, pb_at g1 (by decide), if_neg (fu_10 (by omega)).2, pb_at g1 (by decide), pd_cl (show c.getD i 0 < 2147483648 by omega), (fu_10 (by omega)).1, nI_1]
      exact e1
    · rw [show m2 + (k + 1) + 1 = (m2 + k + 1) + 1 from rfl, f_Mo_fuse_118]
      unfold g_dv
      dsimp only
      rw [if_neg (nI_ge hic (by omega)), if_neg (show ¬ (10 : Int32) ≤ nI i from nI_ge (b := 10) (by omega) (by omega)), pb_at (show i < 30 by omega) (by decide), pd_cl (show i < 2147483648 by omega), hH i hic, pb_at g1 (by decide), if_neg (fu_10 (by omega)).2, pb_at g1 (by decide), pd_cl (show c.getD i 0 < 2147483648 by omega), (fu_10 (by omega)).1, nI_1]
      exact e2
theorem fu_fuse {N : Nat} (hN : 64 ≤ N) {V : Nat → Nat → Int32} {vec : Nat → Int32} (hV : ch_V V vec) {ord lev D R isN ent : Nat → Int32} {sz entry entryM : Int32} (hE : en_R ord lev D R isN ent sz entry entryM) (cw wg que isL asked : Nat → Int32) {lv : Int32} (hlv : lv_R lv isL) (Wa : T_Wa) (C : T_Ch) (K : T_Rk) (sS sE : Int32) (sA : Int64) (hse : sS = sA.toInt32) (rn rv : Nat → Int32) (rs rr rg : Int32) (X : T_Rk) (pts : Nat → Int32) (aim sn hd op hr pool number worth scores : Nat → Int32) (heres found : Int32) (hF : re_F rn rv rs number worth found) (a1 a2 : Int32) :
    ∃ r wg' Wa' sS' rn' rv' rs' rr' rg' X' pts' aim' sn' hd' op' hr' pool' heres' number' worth' scores' found' sA', f_Nd_fuse N (V, cw, wg, lv) ((ord, lev, D, R, que, sz), Wa, C, K, entry, sS, sE) (rn, rv, rs, rr, rg) X asked pts a1 a2 = some (r, (V, cw, wg', lv), ((ord, lev, D, R, que, sz), Wa', C, K, entry, sS', sE), (rn', rv', rs', rr', rg'), X', pts') ∧ f_Mo_fuse N isL vec cw lev R D entryM aim asked sn hd op hr pool heres number worth scores found sA a1 a2 = some (r, aim', sn', hd', op', hr', pool', heres', number', worth', scores', found', sA') ∧ re_F rn' rv' rs' number' worth' found' ∧ sS' = sA'.toInt32 := by
  unfold f_Nd_fuse f_Mo_fuse
  simp only [pb_isWithin, pb_in, Option.bind_some]
  by_cases c1 : (1 : Int32) ≤ a1 ∧ a1 ≤ 10
  · simp only [if_pos c1, if_neg pz_10]
    by_cases c2 : (0 : Int32) ≤ a2 ∧ a2 ≤ 255
    · simp only [if_pos c2, if_neg pz_10]
      obtain ⟨k, k1, k2, rfl⟩ := ne_in (lo := 1) (hi := 10) (by decide) (by decide) c1
      obtain ⟨P0, p1, p2⟩ := fu_clear (N := N) 30 0 (N - 31) pts (by omega) (fun a ha => absurd ha (Nat.not_lt_zero _))
      rw [show N - 31 + 30 + 1 = N by omega] at p1
      obtain ⟨wg', sc, tn, tv, s1, s2, s3, s4⟩ := fu_all (N := N) hN (cw := cw) (wg := wg) (scores := scores) (st := a2) hlv (kk := 10) (by decide) X.1 X.2.1
      have hv : ∀ n, n < 30 → ∃ v, v ≤ 100000 ∧ sc n = nI v := fun n hn => by obtain ⟨v, v1, v2⟩ := s4 n hn; exact ⟨v, by omega, v2⟩
      have hl30 := so_set_len (lt := sc_lt sc) (P := pn_P sc) 30
      have htl : ((so_set (sc_lt sc) (pn_P sc) 30).take 10).length ≤ 10 := by rw [List.length_take]; omega
      obtain ⟨P1, q1, q2⟩ := fu_ap1 (N := N) (rm := nI 10) (gf := 1) hv s3 ((so_set (sc_lt sc) (pn_P sc) 30).take 10).length 0 (N - ((so_set (sc_lt sc) (pn_P sc) 30).take 10).length - 1) P0 (by omega) (fun a ha => by rw [p2 a ha, List.take_zero, if_neg List.not_mem_nil])
      rw [show N - ((so_set (sc_lt sc) (pn_P sc) 30).take 10).length - 1 + ((so_set (sc_lt sc) (pn_P sc) 30).take 10).length + 1 = N by omega] at q1
      obtain ⟨l, hn0, hv0, rm, O1, dist1, M1, sS', aim', sn', hd', op', hr', sA', g1, g2, g3, g4, g5, g6, g7, g8, g9⟩ := se_ok hN hV hE que isL asked Wa sS sA hse (w := 10) (by decide) (by decide) aim sn hd op hr
      obtain ⟨tn2, tv2, t1, t2⟩ := se_20s (N := N) (isL := isL) (x0 := (V, cw, wg', lv)) hN hlv ((ord, lev, D, R, que, sz), Wa, C, K, entry, sS, sE) g3 g4 (by omega) (kk := 10) (by omega) g6 rm O1 dist1 M1 sS' l.length 0 (N - l.length - 1) tn tv (by omega) (by intro i hi; simp at hi)
      rw [show N - l.length - 1 + l.length + 1 = N by omega, List.take_zero, List.filter_nil, List.take_nil] at t1
      have hfl : (l.filter (lv_f isL)).length ≤ 10 := Nat.le_trans (List.length_filter_le _ _) g5
      have htk : (l.filter (lv_f isL)).take 10 = l.filter (lv_f isL) := List.take_of_length_le hfl
      rw [htk] at t1 t2
      have hm : ∀ a ∈ l.filter (lv_f isL), a < 30 := fun a ha => g4 a (List.mem_filter.mp ha).1
      obtain ⟨pool1, f1, f2⟩ := fu_30 hN hv isL vec lev R D aim asked sn hd op hr number worth entryM sA (nI k) 30 0 (N - 31) pool (by omega) (fun a ha => absurd ha (Nat.not_lt_zero _))
      rw [show N - 31 + 30 + 1 = N by omega] at f1
      obtain ⟨sc1, h1, h2⟩ := fu_92 (N := N) number worth (nI k) pool1 (aim', sn', hd', op', hr', nI (l.filter (lv_f isL)).length, sA') 30 0 (N - 31) sc (by omega) (fun a ha => absurd ha (Nat.not_lt_zero _))
      rw [show N - 31 + 30 + 1 = N by omega] at h1
      obtain ⟨P2, sc2, i1, i2, i3⟩ := fu_118 (N := N) number worth (nI k) pool1 aim' sn' hd' op' hr' sA' hm hfl g7 (tn := tn2) (fun i hi => (t2 i hi).1) tv2 (nI 10) 0 (l.filter (lv_f isL)).length 0 (N - (l.filter (lv_f isL)).length - 1) (N - (l.filter (lv_f isL)).length - 1) P1 sc1 (by omega) (fun a ha => by
        rw [q2 a ha, h2 a ha, f2 a ha]
        refine ⟨rfl, ?_⟩
        unfold fu_pv
        by_cases c : sc a = 0
        · rw [if_pos c]; exact ⟨0, by omega, rfl⟩
        · rw [if_neg c]
          by_cases d : 10 ≤ be_r sc a
          · rw [if_pos d]; exact ⟨0, by omega, rfl⟩
          · rw [if_neg d]
            refine ⟨1000 / (10 + be_r sc a), ?_, rfl⟩
            have : 1000 / (10 + be_r sc a) ≤ 100 := by
              apply Nat.div_le_of_le_mul
              omega
            omega)
      rw [show N - (l.filter (lv_f isL)).length - 1 + (l.filter (lv_f isL)).length + 1 = N by omega] at i1 i2
      obtain ⟨tn3, tv3, j1, j2⟩ := fu_points hN i3 (kk := k) (by omega) 30 0 (N - 31) rn rv (by omega) (by intro i hi; simp [so_set] at hi)
      rw [show N - 31 + 30 + 1 = N by omega, show so_set (sc_lt sc2) (pn_P sc2) 0 = [] from rfl, List.take_nil] at j1
      obtain ⟨num', wor', b1, b2⟩ := be_best hN (fun n hn => (i3 n hn).2) (kk := k) (by omega) number worth
      have hl30' := so_set_len (lt := sc_lt sc2) (P := pn_P sc2) 30
      refine ⟨nI ((so_set (sc_lt sc2) (pn_P sc2) 30).take k).length, wg', ((hn0, hv0, nI l.length, rm, 0), O1, dist1, M1), sS', tn3, tv3, nI ((so_set (sc_lt sc2) (pn_P sc2) 30).take k).length, nI k, 1, (tn2, tv2, nI (l.filter (lv_f isL)).length, nI 10, 0), P2, aim', sn', hd', op', hr', pool1, nI (l.filter (lv_f isL)).length, num', wor', sc2, nI ((so_set (sc_lt sc2) (pn_P sc2) 30).take k).length, sA', ?_, ?_, re_ofA (fun a ha => (so_set_mem.mp (List.mem_of_mem_take ha)).1) (by rw [List.length_take]; omega) j2 b2, g9⟩
      · unfold f_Nd_clearPoints
        rw [show f_Nd_clearPoints_2 N N pts 0 = _ from p1, Option.bind_some, show f_Rk_start N 10 1 = some (0, nI 10, 1) from fu_start (k := 10) (by decide), Option.bind_some]
        dsimp only
        rw [s2, Option.bind_some]
        unfold f_Nd_addPoints_scratch
        dsimp only
        rw [show f_Nd_addPoints_scratch_2 N (tn, tv, nI ((so_set (sc_lt sc) (pn_P sc) 30).take 10).length, nI 10, 1) N P0 0 = _ from q1, Option.bind_some, show f_Rk_start N 10 0 = some (0, nI 10, 0) from ne_start (k := 10) (by decide), Option.bind_some]
        unfold f_Nd_searchInto_scratch
        dsimp only
        rw [show f_Gr_search N (ord, lev, D, R, que, sz) Wa entry sS V asked 10 = _ from g1, Option.bind_some]
        rw [show f_Nd_searchInto_scratch_20 N (V, cw, wg', lv) ((ord, lev, D, R, que, sz), Wa, C, K, entry, sS, sE) (((hn0, hv0, nI l.length, rm, 0), O1, dist1, M1), sS') N (tn, tv, 0, nI 10, 0) 0 = _ from t1, Option.bind_some]
        dsimp only
        rw [show f_Nd_addPoints_scratch_2 N (tn2, tv2, nI (l.filter (lv_f isL)).length, nI 10, 0) N P1 0 = _ from i1, Option.bind_some, fu_start (show k ≤ 30 by omega), Option.bind_some]
        unfold f_Nd_rankByPoints_results
        dsimp only
        rw [show f_Nd_rankByPoints_results_2 N P2 N (rn, rv, 0, nI k, 1) 0 = _ from j1, Option.bind_some]
        rfl
      · rw [s1, Option.bind_some, show f_Mo_fuse_30 N isL vec lev R D entryM aim asked sn hd op hr number worth sA (nI k) sc N pool 0 = _ from f1, show f_Mo_search N isL vec lev R D entryM aim asked sn hd op hr sA 10 = _ from g2, Option.bind_some, show f_Mo_fuse_92 N number worth (nI k) pool1 (aim', sn', hd', op', hr', nI (l.filter (lv_f isL)).length, sA') N sc 0 = _ from h1, show f_Mo_fuse_118 N number worth (nI k) pool1 (aim', sn', hd', op', hr', nI (l.filter (lv_f isL)).length, sA') N sc1 0 = _ from i2, b1, Option.bind_some]
    · simp only [if_neg c2, if_true]
      exact ⟨-1, wg, Wa, sS, rn, rv, rs, rr, rg, X, pts, aim, sn, hd, op, hr, pool, heres, number, worth, scores, found, sA, rfl, rfl, hF, hse⟩
  · simp only [if_neg c1, if_true]
    exact ⟨-1, wg, Wa, sS, rn, rv, rs, rr, rg, X, pts, aim, sn, hd, op, hr, pool, heres, number, worth, scores, found, sA, rfl, rfl, hF, hse⟩
