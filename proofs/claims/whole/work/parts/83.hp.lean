/-! PURE: every run of calls -/
def re_R (x : T_Nd) (y : T_Mo) : Prop := ∃ (V : Nat → Nat → Int32) (cw wg : Nat → Int32) (lv : Int32) (ord lev D R que : Nat → Int32) (sz : Int32) (Wa : T_Wa) (C : T_Ch) (K : T_Rk) (entry sS sE : Int32) (rn rv : Nat → Int32) (rs rr rg : Int32) (X : T_Rk) (asked pts isN isL vec ent : Nat → Int32) (entryM : Int32) (aim sn hd op ch hr pk pool : Nat → Int32) (heres picks pools : Int32) (number worth scores : Nat → Int32) (found : Int32) (sA sEn : Int64), x = ((V, cw, wg, lv), ((ord, lev, D, R, que, sz), Wa, C, K, entry, sS, sE), (rn, rv, rs, rr, rg), X, asked, pts) ∧ y = (isN, isL, vec, cw, lev, ent, R, D, entryM, sz, aim, asked, sn, hd, op, ch, hr, pk, pool, heres, picks, pools, number, worth, scores, found, sA, sEn) ∧ ch_V V vec ∧ lv_R lv isL ∧ en_R ord lev D R isN ent sz entry entryM ∧ sS = sA.toInt32 ∧ sE = sEn.toInt32 ∧ re_F rn rv rs number worth found
theorem hp_end {L j : Nat} (hL : L ≤ 3072) (hj : j ≤ 3072) : (Int32.ofNat L - 6 < nI (6 * j)) ↔ L < 6 * j + 6 := by
  rw [Int32.lt_iff_toInt_lt, show Int32.ofNat L - 6 = nI L - nI 6 from rfl, pk_sub_toInt (by omega) (by omega), nI_toInt (by omega)]
  omega
set_option maxHeartbeats 4000000 in
theorem hp_law {N : Nat} (hN : 64 ≤ N) {L : Nat} (hL : L ≤ 3072) (xs : Nat → Int32) : ∀ (k j m : Nat) (x : T_Nd) (y : T_Mo), L < 6 * (j + k) + 6 → j ≤ 3000 → re_R x y → f_La_law N L xs (m + k + 1) x y (nI (6 * j)) = some 1 := by
  intro k
  induction k with
  | zero =>
    intro j m x y h1 h2 h3
    rw [f_La_law, if_pos ((hp_end hL (by omega)).mpr (by omega))]
  | succ k ih =>
    intro j m x y h1 h2 h3
    rw [show m + (k + 1) + 1 = (m + k + 1) + 1 from rfl, f_La_law]
    by_cases hend : L < 6 * j + 6
    · rw [if_pos ((hp_end hL (by omega)).mpr hend)]
    · rw [if_neg (fun q => hend ((hp_end hL (by omega)).mp q))]
      obtain ⟨V, cw, wg, lv, ord, lev, D, R, que, sz, Wa, C, K, entry, sS, sE, rn, rv, rs, rr, rg, X, asked, pts, isN, isL, vec, ent, entryM, aim, sn, hd, op, ch, hr, pk, pool, heres, picks, pools, number, worth, scores, found, sA, sEn, rfl, rfl, r1, r2, r3, r4, r5, r6⟩ := h3
      have nxt : ∀ (x : T_Nd) (y : T_Mo), re_R x y → f_La_law N L xs (m + k + 1) x y (nI (6 * (j + 1))) = some 1 := fun x y h => ih (j + 1) m x y (by omega) (by omega) h
      have hLb : L < 2147483648 := by omega
      have i1 : nI (6 * j) + 1 = nI (6 * j + 1) := nI_1 _
      have i2 : nI (6 * j) + 2 = nI (6 * j + 2) := nI_add _ 2
      have i3 : nI (6 * j) + 3 = nI (6 * j + 3) := nI_add _ 3
      have i4 : nI (6 * j) + 4 = nI (6 * j + 4) := nI_add _ 4
      have i5 : nI (6 * j) + 5 = nI (6 * j + 5) := nI_add _ 5
      have i6 : nI (6 * j) + 6 = nI (6 * (j + 1)) := nI_add _ 6
      rw [pb_at (show 6 * j < L by omega) hLb, pd_cl (show 6 * j < 2147483648 by omega)]
      generalize xs (6 * j) &&& 15 = o
      by_cases c0 : o = 0
      · rw [if_pos c0, i1, i2, i3, i4, i5, i6]
        simp only [pb_at (show 6 * j + 1 < L by omega) hLb, pb_at (show 6 * j + 2 < L by omega) hLb, pb_at (show 6 * j + 3 < L by omega) hLb, pb_at (show 6 * j + 4 < L by omega) hLb, pb_at (show 6 * j + 5 < L by omega) hLb, pd_cl (show 6 * j + 1 < 2147483648 by omega), pd_cl (show 6 * j + 2 < 2147483648 by omega), pd_cl (show 6 * j + 3 < 2147483648 by omega), pd_cl (show 6 * j + 4 < 2147483648 by omega), pd_cl (show 6 * j + 5 < 2147483648 by omega)]
        obtain ⟨r, V', cw', lv', ord', lev', D', R', sz', Wa', C', K', entry', sE', isN', isL', vec', ent', entryM', aim', sn', hd', op', ch', hr', pk', pool', heres', picks', pools', se', e1, e2, e3, e4, e5, e6⟩ := pu_put hN r1 r3 cw wg que isL r2 Wa C K sS sE sEn r5 aim sn hd op ch hr pk pool heres picks pools (xs (6 * j + 1)) (xs (6 * j + 2)) (xs (6 * j + 3)) (xs (6 * j + 4)) (xs (6 * j + 5))
        rw [e1, Option.bind_some, e2, Option.bind_some, if_pos rfl]
        exact nxt _ _ ⟨V', cw', wg, lv', ord', lev', D', R', que, sz', Wa', C', K', entry', sS, sE', rn, rv, rs, rr, rg, X, asked, pts, isN', isL', vec', ent', entryM', aim', sn', hd', op', ch', hr', pk', pool', heres', picks', pools', number, worth, scores, found, sA, se', rfl, rfl, e3, e4, e5, r4, e6, r6⟩
      rw [if_neg c0]
      by_cases c1 : o = 1
      · rw [if_pos c1, i1, i6]
        simp only [pb_at (show 6 * j + 1 < L by omega) hLb, pd_cl (show 6 * j + 1 < 2147483648 by omega)]
        obtain ⟨r, lv', isL', e1, e2, e3⟩ := rm_remove (N := N) V cw wg isL r2 (xs (6 * j + 1))
        rw [e1, Option.bind_some, e2, Option.bind_some, if_pos rfl]
        exact nxt _ _ ⟨V, cw, wg, lv', ord, lev, D, R, que, sz, Wa, C, K, entry, sS, sE, rn, rv, rs, rr, rg, X, asked, pts, isN, isL', vec, ent, entryM, aim, sn, hd, op, ch, hr, pk, pool, heres, picks, pools, number, worth, scores, found, sA, sEn, rfl, rfl, r1, e3, r3, r4, r5, r6⟩
      rw [if_neg c1]
      by_cases c2 : o = 2
      · rw [if_pos c2, i6]
        obtain ⟨r, ord', lev', D', R', sz', Wa', C', K', entry', sE', isN', isL', ent', entryM', aim', sn', hd', op', ch', hr', pk', pool', heres', picks', pools', se', e1, e2, e3, e4, e5⟩ := rm_renew hN r1 r3 cw wg que isL r2 Wa C K sS sE sEn r5 aim sn hd op ch hr pk pool heres picks pools
        rw [e1, Option.bind_some, e2, Option.bind_some, if_pos rfl]
        exact nxt _ _ ⟨V, cw, wg, lv, ord', lev', D', R', que, sz', Wa', C', K', entry', sS, sE', rn, rv, rs, rr, rg, X, asked, pts, isN', isL', vec, ent', entryM', aim', sn', hd', op', ch', hr', pk', pool', heres', picks', pools', number, worth, scores, found, sA, se', rfl, rfl, r1, e3, e4, r4, e5, r6⟩
      rw [if_neg c2]
      by_cases c3 : o = 3
      · rw [if_pos c3, i1, i2, i3, i4, i6]
        simp only [pb_at (show 6 * j + 1 < L by omega) hLb, pb_at (show 6 * j + 2 < L by omega) hLb, pb_at (show 6 * j + 3 < L by omega) hLb, pb_at (show 6 * j + 4 < L by omega) hLb, pd_cl (show 6 * j + 1 < 2147483648 by omega), pd_cl (show 6 * j + 2 < 2147483648 by omega), pd_cl (show 6 * j + 3 < 2147483648 by omega), pd_cl (show 6 * j + 4 < 2147483648 by omega)]
        obtain ⟨r, asked', e1, e2⟩ := rm_ask (N := N) asked (xs (6 * j + 1)) (xs (6 * j + 2)) (xs (6 * j + 3)) (xs (6 * j + 4))
        rw [e1, Option.bind_some, e2, Option.bind_some, if_pos rfl]
        exact nxt _ _ ⟨V, cw, wg, lv, ord, lev, D, R, que, sz, Wa, C, K, entry, sS, sE, rn, rv, rs, rr, rg, X, asked', pts, isN, isL, vec, ent, entryM, aim, sn, hd, op, ch, hr, pk, pool, heres, picks, pools, number, worth, scores, found, sA, sEn, rfl, rfl, r1, r2, r3, r4, r5, r6⟩
      rw [if_neg c3]
      by_cases c4 : o = 4
      · rw [if_pos c4, i1, i2, i6]
        simp only [pb_at (show 6 * j + 1 < L by omega) hLb, pb_at (show 6 * j + 2 < L by omega) hLb, pd_cl (show 6 * j + 1 < 2147483648 by omega), pd_cl (show 6 * j + 2 < 2147483648 by omega)]
        obtain ⟨r, Wa', sS', rn', rv', rs', rr', rg', aim', sn', hd', op', hr', heres', number', worth', found', sA', e1, e2, e3, e4⟩ := ne_near hN r1 r3 cw wg que isL asked r2 Wa C K sS sE sA r4 rn rv rs rr rg aim sn hd op hr number worth heres found r6 (xs (6 * j + 1)) (xs (6 * j + 2))
        rw [e1, Option.bind_some, e2, Option.bind_some, if_pos rfl]
        exact nxt _ _ ⟨V, cw, wg, lv, ord, lev, D, R, que, sz, Wa', C, K, entry, sS', sE, rn', rv', rs', rr', rg', X, asked, pts, isN, isL, vec, ent, entryM, aim', sn', hd', op', ch, hr', pk, pool, heres', picks, pools, number', worth', scores, found', sA', sEn, rfl, rfl, r1, r2, r3, e4, r5, e3⟩
      rw [if_neg c4]
      by_cases c5 : o = 5
      · rw [if_pos c5, i1, i6]
        simp only [pb_at (show 6 * j + 1 < L by omega) hLb, pd_cl (show 6 * j + 1 < 2147483648 by omega)]
        obtain ⟨r, rn', rv', rs', rr', rg', aim', hd', number', worth', found', e1, e2, e3⟩ := ne_exact hN r1 cw wg isL asked r2 rn rv rs rr rg aim hd number worth found r6 (xs (6 * j + 1))
        rw [e1, Option.bind_some, e2, Option.bind_some, if_pos rfl]
        exact nxt _ _ ⟨V, cw, wg, lv, ord, lev, D, R, que, sz, Wa, C, K, entry, sS, sE, rn', rv', rs', rr', rg', X, asked, pts, isN, isL, vec, ent, entryM, aim', sn, hd', op, ch, hr, pk, pool, heres, picks, pools, number', worth', scores, found', sA, sEn, rfl, rfl, r1, r2, r3, r4, r5, e3⟩
      rw [if_neg c5]
      by_cases c6 : o = 6
      · rw [if_pos c6, i1, i2, i6]
        simp only [pb_at (show 6 * j + 1 < L by omega) hLb, pb_at (show 6 * j + 2 < L by omega) hLb, pd_cl (show 6 * j + 1 < 2147483648 by omega), pd_cl (show 6 * j + 2 < 2147483648 by omega)]
        obtain ⟨r, wg', rn', rv', rs', rr', rg', number', worth', scores', found', e1, e2, e3⟩ := fu_match hN V cw wg isL r2 rn rv rs rr rg scores number worth found r6 (xs (6 * j + 1)) (xs (6 * j + 2))
        rw [e1, Option.bind_some, e2, Option.bind_some, if_pos rfl]
        exact nxt _ _ ⟨V, cw, wg', lv, ord, lev, D, R, que, sz, Wa, C, K, entry, sS, sE, rn', rv', rs', rr', rg', X, asked, pts, isN, isL, vec, ent, entryM, aim, sn, hd, op, ch, hr, pk, pool, heres, picks, pools, number', worth', scores', found', sA, sEn, rfl, rfl, r1, r2, r3, r4, r5, e3⟩
      rw [if_neg c6]
      by_cases c7 : o = 7
      · rw [if_pos c7, i1, i2, i6]
        simp only [pb_at (show 6 * j + 1 < L by omega) hLb, pb_at (show 6 * j + 2 < L by omega) hLb, pd_cl (show 6 * j + 1 < 2147483648 by omega), pd_cl (show 6 * j + 2 < 2147483648 by omega)]
        obtain ⟨r, wg', Wa', sS', rn', rv', rs', rr', rg', X', pts', aim', sn', hd', op', hr', pool', heres', number', worth', scores', found', sA', e1, e2, e3, e4⟩ := fu_fuse hN r1 r3 cw wg que isL asked r2 Wa C K sS sE sA r4 rn rv rs rr rg X pts aim sn hd op hr pool number worth scores heres found r6 (xs (6 * j + 1)) (xs (6 * j + 2))
        rw [e1, Option.bind_some, e2, Option.bind_some, if_pos rfl]
        exact nxt _ _ ⟨V, cw, wg', lv, ord, lev, D, R, que, sz, Wa', C, K, entry, sS', sE, rn', rv', rs', rr', rg', X', asked, pts', isN, isL, vec, ent, entryM, aim', sn', hd', op', ch, hr', pk, pool', heres', picks, pools, number', worth', scores', found', sA', sEn, rfl, rfl, r1, r2, r3, e4, r5, e3⟩
      rw [if_neg c7]
      by_cases c8 : o = 8
      · rw [if_pos c8, i1, i2, i6]
        simp only [pb_at (show 6 * j + 1 < L by omega) hLb, pb_at (show 6 * j + 2 < L by omega) hLb, pd_cl (show 6 * j + 1 < 2147483648 by omega), pd_cl (show 6 * j + 2 < 2147483648 by omega)]
        obtain ⟨r, e1, e2⟩ := fo_found (N := N) V cw wg isL r2 rr rg r6 (xs (6 * j + 1)) (xs (6 * j + 2))
        rw [e1, Option.bind_some, e2, Option.bind_some, if_pos rfl]
        exact nxt _ _ ⟨V, cw, wg, lv, ord, lev, D, R, que, sz, Wa, C, K, entry, sS, sE, rn, rv, rs, rr, rg, X, asked, pts, isN, isL, vec, ent, entryM, aim, sn, hd, op, ch, hr, pk, pool, heres, picks, pools, number, worth, scores, found, sA, sEn, rfl, rfl, r1, r2, r3, r4, r5, r6⟩
      rw [if_neg c8]
      by_cases c9 : o = 9
      · rw [if_pos c9, i1, i2, i6]
        simp only [pb_at (show 6 * j + 1 < L by omega) hLb, pb_at (show 6 * j + 2 < L by omega) hLb, pd_cl (show 6 * j + 1 < 2147483648 by omega), pd_cl (show 6 * j + 2 < 2147483648 by omega)]
        obtain ⟨r, e1, e2⟩ := fo_node (N := N) r1 r3 cw wg que isL r2 Wa C K sS sE (xs (6 * j + 1)) (xs (6 * j + 2))
        rw [e1, Option.bind_some, e2, Option.bind_some, if_pos rfl]
        exact nxt _ _ ⟨V, cw, wg, lv, ord, lev, D, R, que, sz, Wa, C, K, entry, sS, sE, rn, rv, rs, rr, rg, X, asked, pts, isN, isL, vec, ent, entryM, aim, sn, hd, op, ch, hr, pk, pool, heres, picks, pools, number, worth, scores, found, sA, sEn, rfl, rfl, r1, r2, r3, r4, r5, r6⟩
      rw [if_neg c9]
      by_cases c10 : o = 10
      · rw [if_pos c10, i1, i2, i3, i6]
        simp only [pb_at (show 6 * j + 1 < L by omega) hLb, pb_at (show 6 * j + 2 < L by omega) hLb, pb_at (show 6 * j + 3 < L by omega) hLb, pd_cl (show 6 * j + 1 < 2147483648 by omega), pd_cl (show 6 * j + 2 < 2147483648 by omega), pd_cl (show 6 * j + 3 < 2147483648 by omega)]
        obtain ⟨r, e1, e2⟩ := fo_neighbour (N := N) r3 que Wa C K sS sE (xs (6 * j + 1)) (xs (6 * j + 2)) (xs (6 * j + 3))
        rw [e1, Option.bind_some, e2, Option.bind_some, if_pos rfl]
        exact nxt _ _ ⟨V, cw, wg, lv, ord, lev, D, R, que, sz, Wa, C, K, entry, sS, sE, rn, rv, rs, rr, rg, X, asked, pts, isN, isL, vec, ent, entryM, aim, sn, hd, op, ch, hr, pk, pool, heres, picks, pools, number, worth, scores, found, sA, sEn, rfl, rfl, r1, r2, r3, r4, r5, r6⟩
      rw [if_neg c10]
      by_cases c11 : o = 11
      · rw [if_pos c11, i1, i6]
        simp only [pb_at (show 6 * j + 1 < L by omega) hLb, pd_cl (show 6 * j + 1 < 2147483648 by omega)]
        obtain ⟨r, que', X', aim', sn', e1, e2⟩ := rf_count hN r1 r3 cw wg que isL asked r2 Wa C K r4 r5 rr rg r6 X aim sn (xs (6 * j + 1))
        rw [e1, Option.bind_some, e2, Option.bind_some, if_pos rfl]
        exact nxt _ _ ⟨V, cw, wg, lv, ord, lev, D, R, que', sz, Wa, C, K, entry, sS, sE, rn, rv, rs, rr, rg, X', asked, pts, isN, isL, vec, ent, entryM, aim', sn', hd, op, ch, hr, pk, pool, heres, picks, pools, number, worth, scores, found, sA, sEn, rfl, rfl, r1, r2, r3, r4, r5, r6⟩
      rw [if_neg c11, i6]
      exact nxt _ _ ⟨V, cw, wg, lv, ord, lev, D, R, que, sz, Wa, C, K, entry, sS, sE, rn, rv, rs, rr, rg, X, asked, pts, isN, isL, vec, ent, entryM, aim, sn, hd, op, ch, hr, pk, pool, heres, picks, pools, number, worth, scores, found, sA, sEn, rfl, rfl, r1, r2, r3, r4, r5, r6⟩
