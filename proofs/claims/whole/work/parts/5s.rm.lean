/-! PURE: ask, remove, renew -/
theorem rm_ask {N : Nat} (asked : Nat → Int32) (a b c d : Int32) : ∃ r asked', f_Nd_ask N asked a b c d = some (r, asked') ∧ f_Mo_ask N asked a b c d = some (r, asked') := by
  unfold f_Nd_ask f_Nd_isVector f_Mo_ask f_Nd_writeVector
  simp only [pb_isCoordinate, pb_in, Option.bind_some]
  by_cases c1 : (0 : Int32) ≤ a ∧ a ≤ 99
  · simp only [if_pos c1, if_neg pz_10]
    by_cases c2 : (0 : Int32) ≤ b ∧ b ≤ 99
    · simp only [if_pos c2, if_neg pz_10]
      by_cases c3 : (0 : Int32) ≤ c ∧ c ≤ 99
      · simp only [if_pos c3, if_neg pz_10]
        by_cases c4 : (0 : Int32) ≤ d ∧ d ≤ 99
        · simp only [if_pos c4, if_neg pz_10, Option.bind_some]
          refine ⟨1, upd (upd (upd (upd asked 0 a) 1 b) 2 c) 3 d, ?_, ?_⟩
          · rw [show ∀ k : Option (Nat → Int32), g_at 0 4 k = k from fun k => pb_at (i := 0) (by decide) (by decide), show ∀ k : Option (Nat → Int32), g_at 1 4 k = k from fun k => pb_at (i := 1) (by decide) (by decide), show ∀ k : Option (Nat → Int32), g_at 2 4 k = k from fun k => pb_at (i := 2) (by decide) (by decide), show ∀ k : Option (Nat → Int32), g_at 3 4 k = k from fun k => pb_at (i := 3) (by decide) (by decide), Option.bind_some]
            rfl
          · rw [show ∀ k : Option (Int32 × (Nat → Int32)), g_at 0 4 k = k from fun k => pb_at (i := 0) (by decide) (by decide), show ∀ k : Option (Int32 × (Nat → Int32)), g_at 1 4 k = k from fun k => pb_at (i := 1) (by decide) (by decide), show ∀ k : Option (Int32 × (Nat → Int32)), g_at 2 4 k = k from fun k => pb_at (i := 2) (by decide) (by decide), show ∀ k : Option (Int32 × (Nat → Int32)), g_at 3 4 k = k from fun k => pb_at (i := 3) (by decide) (by decide)]
            rfl
        · simp only [if_neg c4, if_true, Option.bind_some]
          exact ⟨0, asked, rfl, rfl⟩
      · simp only [if_neg c3, if_true, Option.bind_some]
        exact ⟨0, asked, rfl, rfl⟩
    · simp only [if_neg c2, if_true, Option.bind_some]
      exact ⟨0, asked, rfl, rfl⟩
  · simp only [if_neg c1, if_true, Option.bind_some]
    exact ⟨0, asked, rfl, rfl⟩
theorem rm_xor (a b : Nat) : nI a ^^^ nI b = nI (a ^^^ b) := by
  apply Int32.toBitVec_inj.mp
  show BitVec.ofNat 32 a ^^^ BitVec.ofNat 32 b = BitVec.ofNat 32 (a ^^^ b)
  apply BitVec.eq_of_getLsbD_eq
  intro i hi
  simp [BitVec.getLsbD_xor, BitVec.getLsbD_ofNat, hi]
theorem rm_clr {Lm n : Nat} (hL : Lm < 2 ^ 30) (hn : n < 30) : ∃ L', nI Lm &&& (((1 : Int32) <<< (nI n &&& 31)) ^^^ (-1)) = nI L' ∧ L' < 2 ^ 30 ∧ ∀ a, a < 30 → L'.testBit a = (Lm.testBit a && decide (a ≠ n)) := by
  refine ⟨Lm &&& (2 ^ n ^^^ (2 ^ 32 - 1)), ?_, Nat.lt_of_le_of_lt Nat.and_le_left hL, fun a ha => ?_⟩
  · rw [pm_shl hn, show (-1 : Int32) = nI (2 ^ 32 - 1) from by decide, rm_xor, pc_andI]
  · rw [Nat.testBit_and, Nat.testBit_xor, Nat.testBit_two_pow, Nat.testBit_two_pow_sub_one]
    by_cases e : n = a
    · subst e
      simp
      omega
    · have : a ≠ n := fun q => e q.symm
      have h32 : a < 32 := by omega
      simp [e, this, h32]
theorem rm_remove {N : Nat} (V : Nat → Nat → Int32) (cw wg isL : Nat → Int32) {lv : Int32} (hlv : lv_R lv isL) (a : Int32) : ∃ r lv' isL', f_Nd_remove N (V, cw, wg, lv) a = some (r, (V, cw, wg, lv')) ∧ f_Mo_remove N isL a = some (r, isL') ∧ lv_R lv' isL' := by
  unfold f_Nd_remove f_Do_retire f_Mo_remove
  rw [pb_in, Option.bind_some]
  by_cases c : (0 : Int32) ≤ a ∧ a ≤ 29
  · obtain ⟨n, -, n1, rfl⟩ := ne_in (lo := 0) (hi := 29) (by decide) (by decide) c
    have hn : n < 30 := by omega
    dsimp only
    simp only [if_pos c, if_neg pz_10]
    rw [lv_is hlv hn, Option.bind_some, pb_at hn (by decide), pd_cl (show n < 2147483648 by omega)]
    by_cases d : isL n = 0
    · simp only [if_pos d, if_true, Option.bind_some]
      refine ⟨0, lv, isL, ?_, rfl, hlv⟩
      rfl
    · simp only [if_neg d, if_neg pz_10, Option.bind_some]
      obtain ⟨Lm, h1, h2, h3⟩ := hlv
      obtain ⟨L', g1, g2, g3⟩ := rm_clr h1 hn
      rw [h2, g1, pb_at hn (by decide), pz_n0]
      refine ⟨1, nI L', upd isL n 0, rfl, rfl, L', g2, rfl, fun b hb => ?_⟩
      rw [g3 b hb]
      by_cases e : b = n
      · subst e
        rw [pk_us]
        simp
      · rw [pk_un e]
        have := h3 b hb
        simp only [ne_eq, e, not_false_eq_true, decide_true, Bool.and_true]
        exact this
  · dsimp only
    simp only [if_neg c, if_true]
    refine ⟨0, lv, isL, ?_, rfl, hlv⟩
    unfold f_Do_isLive
    rw [pb_isDocumentNumber, if_neg c]
    rfl
theorem rm_zero {P : Nat → Int32} : ∀ n : Nat, (∀ a, a < n → P a = 0) → pd_cnt P n = 0
  | 0, _ => rfl
  | n + 1, h => by rw [pd_cnt, if_pos (h n (Nat.lt_succ_self n)), rm_zero n (fun a ha => h a (Nat.lt_succ_of_lt ha))]
theorem rm_clear {N : Nat} : ∀ (k j m : Nat) (P : Nat → Int32), j + k = 30 → (∀ a, a < j → P a = 0) → ∃ P', f_Li_clear_2 N (m + k + 1) P (nI j) = some (P', 0) ∧ ∀ a, a < 30 → P' a = 0 := by
  intro k
  induction k with
  | zero =>
    intro j m P hj h
    refine ⟨P, ?_, fun a ha => h a (by omega)⟩
    rw [f_Li_clear_2, if_pos (show (30 : Int32) ≤ nI j from nI_le (a := 30) (by omega) (by omega))]
  | succ k ih =>
    intro j m P hj h
    rw [show m + (k + 1) + 1 = (m + k + 1) + 1 from rfl, f_Li_clear_2, if_neg (show ¬ (30 : Int32) ≤ nI j from nI_ge (b := 30) (by omega) (by omega)), pb_at (show j < 30 by omega) (by decide), pd_cl (show j < 2147483648 by omega), nI_1]
    refine ih (j + 1) m _ (by omega) (fun a ha => ?_)
    by_cases e : a = j
    · subst e; rw [pk_us]
    · rw [pk_un e]; exact h a (by omega)
theorem rm_28 {N : Nat} (isL vec lev ent R D aim sn hd op ch hr pk pool : Nat → Int32) (heres picks pools : Int32) (se : Int64) (p1 p2 : Int32) : ∀ (k j m : Nat) (isN : Nat → Int32), j + k = 30 → (∀ a, a < j → isN a = 0) → ∃ isN', f_Mo_renew_28 N isL vec lev ent R D aim sn hd op ch hr pk pool heres picks pools se p1 p2 (m + k + 1) isN (nI j) = f_Mo_renew_49 N vec p1 p2 N isN' sn hd op ch hr pk pool isL lev ent R D aim heres picks pools (-1) 0 se 0 ∧ ∀ a, a < 30 → isN' a = 0 := by
  intro k
  induction k with
  | zero =>
    intro j m P hj h
    refine ⟨P, ?_, fun a ha => h a (by omega)⟩
    rw [f_Mo_renew_28, if_pos (show (30 : Int32) ≤ nI j from nI_le (a := 30) (by omega) (by omega))]
  | succ k ih =>
    intro j m P hj h
    rw [show m + (k + 1) + 1 = (m + k + 1) + 1 from rfl, f_Mo_renew_28, if_neg (show ¬ (30 : Int32) ≤ nI j from nI_ge (b := 30) (by omega) (by omega)), pb_at (show j < 30 by omega) (by decide), pd_cl (show j < 2147483648 by omega), pz_n0, nI_1]
    refine ih (j + 1) m _ (by omega) (fun a ha => ?_)
    by_cases e : a = j
    · subst e; rw [pk_us]
    · rw [pk_un e]; exact h a (by omega)
theorem rm_same {lv : Int32} {isL : Nat → Int32} (h : lv_R lv isL) {n : Nat} (hn : isL n ≠ 0) : lv_R lv (upd isL n 1) := by
  obtain ⟨Lm, h1, h2, h3⟩ := h
  refine ⟨Lm, h1, h2, fun a ha => ?_⟩
  by_cases e : a = n
  · subst e
    rw [pk_us]
    exact ⟨⟨fun _ => pz_10, fun _ => (h3 a ha).1.mpr hn⟩, Or.inr rfl⟩
  · rw [pk_un e]
    exact h3 a ha
theorem rm_49 {N : Nat} (hN : 64 ≤ N) {V : Nat → Nat → Int32} {vec : Nat → Int32} (hV : ch_V V vec) (cw wg que : Nat → Int32) (lv : Int32) (sS p1 p2 : Int32) : ∀ (k j m1 m2 : Nat) (ord lev D R isN ent : Nat → Int32) (sz entry entryM : Int32) (Wa : T_Wa) (C : T_Ch) (K : T_Rk) (sE : Int32) (se : Int64) (isL aim sn hd op ch hr pk pool : Nat → Int32) (heres picks pools : Int32), j + k = 30 → en_R ord lev D R isN ent sz entry entryM → (∀ a, j ≤ a → a < 30 → isN a = 0) → lv_R lv isL → sE = se.toInt32 →
    ∃ ord' lev' D' R' sz' Wa' C' K' entry' sE' isN' isL' ent' entryM' aim' sn' hd' op' ch' hr' pk' pool' heres' picks' pools' se', f_Nd_renew_28 N (V, cw, wg, lv) p1 p2 (m1 + k + 1) ((ord, lev, D, R, que, sz), Wa, C, K, entry, sS, sE) (nI j) = some (p1 - p2, ((ord', lev', D', R', que, sz'), Wa', C', K', entry', sS, sE')) ∧ f_Mo_renew_49 N vec p1 p2 (m2 + k + 1) isN sn hd op ch hr pk pool isL lev ent R D aim heres picks pools entryM sz se (nI j) = some (p1 - p2, isN', isL', lev', ent', R', D', entryM', sz', aim', sn', hd', op', ch', hr', pk', pool', heres', picks', pools', se') ∧ lv_R lv isL' ∧ en_R ord' lev' D' R' isN' ent' sz' entry' entryM' ∧ sE' = se'.toInt32 := by
  intro k
  induction k with
  | zero =>
    intro j m1 m2 ord lev D R isN ent sz entry entryM Wa C K sE se isL aim sn hd op ch hr pk pool heres picks pools hj hE hz hlv hse
    have : j = 30 := by omega
    subst this
    refine ⟨ord, lev, D, R, sz, Wa, C, K, entry, sE, isN, isL, ent, entryM, aim, sn, hd, op, ch, hr, pk, pool, heres, picks, pools, se, ?_, ?_, hlv, hE, hse⟩
    · rw [f_Nd_renew_28, if_pos (by decide)]
    · rw [f_Mo_renew_49, if_pos (by decide)]
  | succ k ih =>
    intro j m1 m2 ord lev D R isN ent sz entry entryM Wa C K sE se isL aim sn hd op ch hr pk pool heres picks pools hj hE hz hlv hse
    have hj30 : j < 30 := by omega
    rw [show m1 + (k + 1) + 1 = (m1 + k + 1) + 1 from rfl, f_Nd_renew_28, if_neg (show ¬ (30 : Int32) ≤ nI j from nI_ge (b := 30) (by omega) (by omega)), show m2 + (k + 1) + 1 = (m2 + k + 1) + 1 from rfl, f_Mo_renew_49, if_neg (show ¬ (30 : Int32) ≤ nI j from nI_ge (b := 30) (by omega) (by omega)), pb_at hj30 (by decide), pd_cl (show j < 2147483648 by omega)]
    dsimp only
    rw [lv_is hlv hj30, Option.bind_some]
    by_cases c : isL j = 0
    · simp only [if_pos c, if_true]
      rw [nI_1]
      exact ih (j + 1) m1 m2 ord lev D R isN ent sz entry entryM Wa C K sE se isL aim sn hd op ch hr pk pool heres picks pools (by omega) hE (fun a h1 h2 => hz a (by omega) h2) hlv hse
    · simp only [if_neg c, if_neg pz_10]
      obtain ⟨lev', D', R', C', K', Wa', entry', entryM', seC', se', aim', sn', hd', op', ch', hr', pk', pool', heres', picks', pools', e1, e2, e3, e4⟩ := en_ok hN hV hE hj30 (hz j (Nat.le_refl _) hj30) que isL Wa C K sE se hse aim sn hd op ch hr pk pool heres picks pools
      rw [e1, e2, Option.bind_some, Option.bind_some, nI_1]
      exact ih (j + 1) m1 m2 (upd ord j (sz + 1)) lev' D' R' (upd isN j 1) (upd ent j (sz + 1)) (sz + 1) entry' entryM' Wa' C' K' seC' se' (upd isL j 1) aim' sn' hd' op' ch' hr' pk' pool' heres' picks' pools' (by omega) e3 (fun a h1 h2 => by rw [pk_un (by omega)]; exact hz a (by omega) h2) (rm_same hlv c) e4
theorem rm_renew {N : Nat} (hN : 64 ≤ N) {V : Nat → Nat → Int32} {vec : Nat → Int32} (hV : ch_V V vec) {ord lev D R isN ent : Nat → Int32} {sz entry entryM : Int32} (hE : en_R ord lev D R isN ent sz entry entryM) (cw wg que isL : Nat → Int32) {lv : Int32} (hlv : lv_R lv isL) (Wa : T_Wa) (C : T_Ch) (K : T_Rk) (sS sE : Int32) (se : Int64) (hse : sE = se.toInt32) (aim sn hd op ch hr pk pool : Nat → Int32) (heres picks pools : Int32) :
    ∃ r ord' lev' D' R' sz' Wa' C' K' entry' sE' isN' isL' ent' entryM' aim' sn' hd' op' ch' hr' pk' pool' heres' picks' pools' se', f_Nd_renew N (V, cw, wg, lv) ((ord, lev, D, R, que, sz), Wa, C, K, entry, sS, sE) = some (r, ((ord', lev', D', R', que, sz'), Wa', C', K', entry', sS, sE')) ∧ f_Mo_renew N isN isL vec lev ent R D aim sn hd op ch hr pk pool heres picks pools se = some (r, isN', isL', lev', ent', R', D', entryM', sz', aim', sn', hd', op', ch', hr', pk', pool', heres', picks', pools', se') ∧ lv_R lv isL' ∧ en_R ord' lev' D' R' isN' ent' sz' entry' entryM' ∧ sE' = se'.toInt32 := by
  obtain ⟨ord1, o1, o2⟩ := rm_clear (N := N) 30 0 (N - 31) ord (by omega) (fun a ha => absurd ha (Nat.not_lt_zero _))
  rw [show N - 31 + 30 + 1 = N by omega] at o1
  obtain ⟨isN1, i1, i2⟩ := rm_28 (N := N) isL vec lev ent R D aim sn hd op ch hr pk pool heres picks pools se (nI (pd_cnt isN 30)) (nI (pd_cnt isL 30)) 30 0 (N - 31) isN (by omega) (fun a ha => absurd ha (Nat.not_lt_zero _))
  rw [show N - 31 + 30 + 1 = N by omega] at i1
  have hE1 : en_R ord1 lev D R isN1 ent 0 (-2) (-1) := by
    refine ⟨by rw [rm_zero 30 i2]; rfl, fun n hn => Or.inl ⟨i2 n hn, o2 n hn⟩, hE.2.2.1, fun j hj o ho => absurd (i2 o ho.1) ho.2, Or.inl ⟨rfl, rfl, i2⟩⟩
  obtain ⟨ord', lev', D', R', sz', Wa', C', K', entry', sE', isN', isL', ent', entryM', aim', sn', hd', op', ch', hr', pk', pool', heres', picks', pools', se', e1, e2, e3, e4, e5⟩ := rm_49 (N := N) hN hV cw wg que lv sS (nI (pd_cnt isN 30)) (nI (pd_cnt isL 30)) 30 0 (N - 31) (N - 31) ord1 lev D R isN1 ent 0 (-2) (-1) Wa C K sE se isL aim sn hd op ch hr pk pool heres picks pools (by omega) hE1 (fun a _ ha => i2 a ha) hlv hse
  rw [show N - 31 + 30 + 1 = N by omega] at e1 e2
  refine ⟨nI (pd_cnt isN 30) - nI (pd_cnt isL 30), ord', lev', D', R', sz', Wa', C', K', entry', sE', isN', isL', ent', entryM', aim', sn', hd', op', ch', hr', pk', pool', heres', picks', pools', se', ?_, ?_, e3, e4, e5⟩
  · unfold f_Nd_renew f_Li_size f_Gr_clear f_Li_clear
    dsimp only
    rw [Option.bind_some, sc_live hlv, Option.bind_some, show f_Li_clear_2 N N ord 0 = _ from o1, Option.bind_some, Option.bind_some, hE.1]
    exact e1
  · unfold f_Mo_renew
    rw [pd_size (by omega), Option.bind_some, pd_size (by omega), Option.bind_some, show f_Mo_renew_28 N isL vec lev ent R D aim sn hd op ch hr pk pool heres picks pools se (nI (pd_cnt isN 30)) (nI (pd_cnt isL 30)) N isN 0 = _ from i1]
    exact e2
