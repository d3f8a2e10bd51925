/-! PURE: put, remove, renew, ask -/
theorem pu_free {N : Nat} {ord isN : Nat → Int32} (hn : ∀ n, n < 30 → (isN n = 0 ↔ ord n = 0)) (isL vec cw lev ent R D aim sn hd op ch hr pk pool : Nat → Int32) (entryM sz heres picks pools : Int32) (se : Int64) (a b c d w : Int32) : ∀ (k j m1 m2 : Nat), j + k = 30 →
    (∃ n m3, n < 30 ∧ isN n = 0 ∧ f_Li_freeNumber_2 N ord (m1 + k + 1) (nI j) = some (nI n) ∧ f_Mo_put_57 N isN isL vec cw lev ent R D entryM sz aim sn hd op ch hr pk pool heres picks pools se a b c d w (m2 + k + 1) (nI j) = f_Mo_put_57 N isN isL vec cw lev ent R D entryM sz aim sn hd op ch hr pk pool heres picks pools se a b c d w (m3 + 1) (nI n)) ∨ (f_Li_freeNumber_2 N ord (m1 + k + 1) (nI j) = some (-2) ∧ f_Mo_put_57 N isN isL vec cw lev ent R D entryM sz aim sn hd op ch hr pk pool heres picks pools se a b c d w (m2 + k + 1) (nI j) = some (-3, isN, isL, vec, cw, lev, ent, R, D, entryM, sz, aim, sn, hd, op, ch, hr, pk, pool, heres, picks, pools, se)) := by
  intro k
  induction k with
  | zero =>
    intro j m1 m2 hj
    have : j = 30 := by omega
    subst this
    refine Or.inr ⟨?_, ?_⟩
    · rw [f_Li_freeNumber_2, if_pos (by decide)]
    · rw [f_Mo_put_57, if_pos (by decide), if_pos (by decide)]
  | succ k ih =>
    intro j m1 m2 hj
    have hj30 : j < 30 := by omega
    by_cases c0 : isN j = 0
    · refine Or.inl ⟨j, m2 + k + 1, hj30, c0, ?_, rfl⟩
      rw [show m1 + (k + 1) + 1 = (m1 + k + 1) + 1 from rfl, f_Li_freeNumber_2, if_neg (show ¬ (30 : Int32) ≤ nI j from nI_ge (b := 30) (by omega) (by omega)), pb_at hj30 (by decide), pd_cl (show j < 2147483648 by omega), if_pos ((hn j hj30).mp c0)]
    · rw [show m1 + (k + 1) + 1 = (m1 + k + 1) + 1 from rfl, f_Li_freeNumber_2, if_neg (show ¬ (30 : Int32) ≤ nI j from nI_ge (b := 30) (by omega) (by omega)), pb_at hj30 (by decide), pd_cl (show j < 2147483648 by omega), if_neg (fun q => c0 ((hn j hj30).mpr q)), show m2 + (k + 1) + 1 = (m2 + k + 1) + 1 from rfl, f_Mo_put_57, if_neg (show ¬ (30 : Int32) ≤ nI j from nI_ge (b := 30) (by omega) (by omega)), pb_at hj30 (by decide), pd_cl (show j < 2147483648 by omega), if_neg c0, nI_1]
      exact ih (j + 1) m1 m2 (by omega)
theorem pu_nodes {ord lev D R isN ent : Nat → Int32} {sz entry entryM : Int32} (hE : en_R ord lev D R isN ent sz entry entryM) : ∀ n, n < 30 → (isN n = 0 ↔ ord n = 0) := by
  intro n hn
  rcases hE.2.1 n hn with ⟨h1, h2⟩ | ⟨h1, k, h2, h3, h4, -⟩
  · rw [h1, h2]
  · rw [h1, h4]
    exact ⟨fun q => absurd q pz_10, fun q => absurd q (nI_ne0 h2 (by omega))⟩
def pu_v (V : Nat → Nat → Int32) (n : Nat) (a b c d : Int32) : Nat → Nat → Int32 := va_up V n (upd (upd (upd (upd (V n) 0 a) 1 b) 2 c) 3 d)
def pu_w (vec : Nat → Int32) (n : Nat) (a b c d : Int32) : Nat → Int32 := upd (upd (upd (upd vec (4 * n) a) (4 * n + 1) b) (4 * n + 2) c) (4 * n + 3) d
theorem pu_V {V : Nat → Nat → Int32} {vec : Nat → Int32} (hV : ch_V V vec) (n : Nat) (a b c d : Int32) : ch_V (pu_v V n a b c d) (pu_w vec n a b c d) := by
  intro m hm j hj
  unfold pu_v pu_w va_up
  by_cases e : m = n
  · subst e
    simp only [if_true]
    rcases (show j = 0 ∨ j = 1 ∨ j = 2 ∨ j = 3 by omega) with rfl | rfl | rfl | rfl
    · rw [pk_un (by omega), pk_un (by omega), pk_un (by omega), pk_us, pk_un (by omega), pk_un (by omega), pk_un (by omega), Nat.add_zero, pk_us]
    · rw [pk_un (by omega), pk_un (by omega), pk_us, pk_un (by omega), pk_un (by omega), pk_us]
    · rw [pk_un (by omega), pk_us, pk_un (by omega), pk_us]
    · rw [pk_us, pk_us]
  · rw [if_neg e, pk_un (by omega), pk_un (by omega), pk_un (by omega), pk_un (by omega)]
    exact hV m hm j hj
theorem pu_lv {lv : Int32} {isL : Nat → Int32} (h : lv_R lv isL) {n : Nat} (hn : n < 30) : lv_R (lv ||| (1 <<< (nI n &&& 31))) (upd isL n 1) := by
  obtain ⟨Lm, h1, h2, h3⟩ := h
  refine ⟨Lm ||| 2 ^ n, pm_set_lt h1 hn, by rw [h2, pm_set hn], fun a ha => ?_⟩
  rw [pm_set_bit]
  by_cases e : a = n
  · subst e
    rw [pk_us]
    exact ⟨⟨fun _ => pz_10, fun _ => by simp⟩, Or.inr rfl⟩
  · rw [pk_un e]
    have : ¬ n = a := fun q => e q.symm
    simp only [this, decide_false, Bool.or_false]
    exact h3 a ha
theorem pu_put {N : Nat} (hN : 64 ≤ N) {V : Nat → Nat → Int32} {vec : Nat → Int32} (hV : ch_V V vec) {ord lev D R isN ent : Nat → Int32} {sz entry entryM : Int32} (hE : en_R ord lev D R isN ent sz entry entryM) (cw wg que isL : Nat → Int32) {lv : Int32} (hlv : lv_R lv isL) (Wa : T_Wa) (C : T_Ch) (K : T_Rk) (sS sE : Int32) (se : Int64) (hse : sE = se.toInt32) (aim sn hd op ch hr pk pool : Nat → Int32) (heres picks pools : Int32) (a b c d w : Int32) :
    ∃ r V' cw' lv' ord' lev' D' R' sz' Wa' C' K' entry' sE' isN' isL' vec' ent' entryM' aim' sn' hd' op' ch' hr' pk' pool' heres' picks' pools' se', f_Nd_put N (V, cw, wg, lv) ((ord, lev, D, R, que, sz), Wa, C, K, entry, sS, sE) a b c d w = some (r, (V', cw', wg, lv'), ((ord', lev', D', R', que, sz'), Wa', C', K', entry', sS, sE')) ∧ f_Mo_put N isN isL vec cw lev ent R D entryM sz aim sn hd op ch hr pk pool heres picks pools se a b c d w = some (r, isN', isL', vec', cw', lev', ent', R', D', entryM', sz', aim', sn', hd', op', ch', hr', pk', pool', heres', picks', pools', se') ∧ ch_V V' vec' ∧ lv_R lv' isL' ∧ en_R ord' lev' D' R' isN' ent' sz' entry' entryM' ∧ sE' = se'.toInt32 := by
  have bad : ∀ r : Int32, ∃ V' cw' lv' ord' lev' D' R' sz' Wa' C' K' entry' sE' isN' isL' vec' ent' entryM' aim' sn' hd' op' ch' hr' pk' pool' heres' picks' pools' se', some (r, (V, cw, wg, lv), ((ord, lev, D, R, que, sz), Wa, C, K, entry, sS, sE)) = some (r, (V', cw', wg, lv'), ((ord', lev', D', R', que, sz'), Wa', C', K', entry', sS, sE')) ∧ some (r, isN, isL, vec, cw, lev, ent, R, D, entryM, sz, aim, sn, hd, op, ch, hr, pk, pool, heres, picks, pools, se) = some (r, isN', isL', vec', cw', lev', ent', R', D', entryM', sz', aim', sn', hd', op', ch', hr', pk', pool', heres', picks', pools', se') ∧ ch_V V' vec' ∧ lv_R lv' isL' ∧ en_R ord' lev' D' R' isN' ent' sz' entry' entryM' ∧ sE' = se'.toInt32 := fun r => ⟨V, cw, lv, ord, lev, D, R, sz, Wa, C, K, entry, sE, isN, isL, vec, ent, entryM, aim, sn, hd, op, ch, hr, pk, pool, heres, picks, pools, se, rfl, rfl, hV, hlv, hE, hse⟩
  unfold f_Nd_put f_Nd_isVector f_Mo_put
  simp only [pb_isCoordinate, pb_isWithin, pb_in, Option.bind_some]
  by_cases c1 : (0 : Int32) ≤ a ∧ a ≤ 99
  · simp only [if_pos c1, if_neg pz_10]
    by_cases c2 : (0 : Int32) ≤ b ∧ b ≤ 99
    · simp only [if_pos c2, if_neg pz_10]
      by_cases c3 : (0 : Int32) ≤ c ∧ c ≤ 99
      · simp only [if_pos c3, if_neg pz_10]
        by_cases c4 : (0 : Int32) ≤ d ∧ d ≤ 99
        · simp only [if_pos c4, if_neg pz_10, Option.bind_some]
          by_cases c5 : (0 : Int32) ≤ w ∧ w ≤ 16777215
          · simp only [if_pos c5, if_neg pz_10]
            have hfr := pu_free (N := N) (pu_nodes hE) isL vec cw lev ent R D aim sn hd op ch hr pk pool entryM sz heres picks pools se a b c d w 30 0 (N - 31) (N - 31) (by omega)
            rw [show N - 31 + 30 + 1 = N by omega] at hfr
            rcases hfr with ⟨n, m3, n1, n2, n3, n4⟩ | ⟨n3, n4⟩
            · have hV' := pu_V hV n a b c d
              obtain ⟨lev', D', R', C', K', Wa', entry', entryM', seC', se', aim', sn', hd', op', ch', hr', pk', pool', heres', picks', pools', e1, e2, e3, e4⟩ := en_ok hN hV' hE n1 n2 que isL Wa C K sE se hse aim sn hd op ch hr pk pool heres picks pools
              refine ⟨nI n, pu_v V n a b c d, upd cw n w, _, upd ord n (sz + 1), lev', D', R', sz + 1, Wa', C', K', entry', seC', upd isN n 1, upd isL n 1, pu_w vec n a b c d, upd ent n (sz + 1), entryM', aim', sn', hd', op', ch', hr', pk', pool', heres', picks', pools', se', ?_, ?_, hV', pu_lv hlv n1, e3, e4⟩
              · unfold f_Li_freeNumber
                rw [show f_Li_freeNumber_2 N ord N 0 = _ from n3, Option.bind_some, if_neg (en_ne2 n1)]
                unfold f_Do_store f_Nd_writeVector
                rw [pb_at n1 (by decide), show ∀ k : Option (Nat → Int32), g_at 0 4 k = k from fun k => pb_at (i := 0) (by decide) (by decide), show ∀ k : Option (Nat → Int32), g_at 1 4 k = k from fun k => pb_at (i := 1) (by decide) (by decide), show ∀ k : Option (Nat → Int32), g_at 2 4 k = k from fun k => pb_at (i := 2) (by decide) (by decide), show ∀ k : Option (Nat → Int32), g_at 3 4 k = k from fun k => pb_at (i := 3) (by decide) (by decide), Option.bind_some, pb_at n1 (by decide), Option.bind_some, pd_cl (show n < 2147483648 by omega)]
                dsimp only
                rw [show f_Gr_enter N (ord, lev, D, R, que, sz) Wa C K entry sE (va_up V n (upd (upd (upd (upd (V n) (0 : Int32).toNatClampNeg a) (1 : Int32).toNatClampNeg b) (2 : Int32).toNatClampNeg c) (3 : Int32).toNatClampNeg d)) (nI n) = _ from e1, Option.bind_some]
                rfl
              · rw [show f_Mo_put_57 N isN isL vec cw lev ent R D entryM sz aim sn hd op ch hr pk pool heres picks pools se a b c d w N 0 = _ from n4, f_Mo_put_57, if_neg (show ¬ (30 : Int32) ≤ nI n from nI_ge (b := 30) n1 (by decide)), pb_at n1 (by decide), pd_cl (show n < 2147483648 by omega), if_pos n2, if_neg (show ¬ nI n = 30 from fun q => by have := (nI_eq (a := n) (b := 30) (by omega) (by omega)).mp q; omega)]
                have x0 : (4 : Int32) * nI n = nI (4 * n) := by rw [show (4 : Int32) = nI 4 from rfl, pk_mul]
                have x1 : nI (4 * n) + 1 = nI (4 * n + 1) := nI_1 _
                have x2 : nI (4 * n) + 2 = nI (4 * n + 2) := nI_add _ 2
                have x3 : nI (4 * n) + 3 = nI (4 * n + 3) := nI_add _ 3
                rw [x0, x1, x2, x3, pb_at (show 4 * n < 120 by omega) (by decide), pb_at (show 4 * n + 1 < 120 by omega) (by decide), pb_at (show 4 * n + 2 < 120 by omega) (by decide), pb_at (show 4 * n + 3 < 120 by omega) (by decide), pb_at n1 (by decide), pd_cl (show 4 * n < 2147483648 by omega), pd_cl (show 4 * n + 1 < 2147483648 by omega), pd_cl (show 4 * n + 2 < 2147483648 by omega), pd_cl (show 4 * n + 3 < 2147483648 by omega)]
                rw [show f_Mo_enter N isN isL (upd (upd (upd (upd vec (4 * n) a) (4 * n + 1) b) (4 * n + 2) c) (4 * n + 3) d) lev ent R D entryM sz aim sn hd op ch hr pk pool heres picks pools se (nI n) = _ from e2, Option.bind_some]
                rfl
            · unfold f_Li_freeNumber
              rw [show f_Li_freeNumber_2 N ord N 0 = _ from n3, Option.bind_some, if_pos rfl, show f_Mo_put_57 N isN isL vec cw lev ent R D entryM sz aim sn hd op ch hr pk pool heres picks pools se a b c d w N 0 = _ from n4]
              exact ⟨-3, bad (-3)⟩
          · simp only [if_neg c5, if_true]
            exact ⟨-1, bad (-1)⟩
        · simp only [if_neg c4, if_true, Option.bind_some]
          exact ⟨-1, bad (-1)⟩
      · simp only [if_neg c3, if_true, Option.bind_some]
        exact ⟨-1, bad (-1)⟩
    · simp only [if_neg c2, if_true, Option.bind_some]
      exact ⟨-1, bad (-1)⟩
  · simp only [if_neg c1, if_true, Option.bind_some]
    exact ⟨-1, bad (-1)⟩
