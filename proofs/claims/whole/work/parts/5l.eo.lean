/-! PURE: enter as a whole -/
def en_R (ord lev D R isN ent : Nat → Int32) (sz entry entryM : Int32) : Prop := sz = nI (pd_cnt isN 30) ∧ (∀ n, n < 30 → (isN n = 0 ∧ ord n = 0) ∨ (isN n = 1 ∧ ∃ k, 0 < k ∧ k ≤ 30 ∧ ord n = nI k ∧ ent n = nI k)) ∧ (∀ n, n < 30 → ∃ l, l ≤ 3 ∧ lev n = nI l) ∧ (∀ j, j < 4 → tl_G (fun a => a < 30 ∧ isN a ≠ 0) j D R) ∧ ((entry = -2 ∧ entryM = -1 ∧ ∀ n, n < 30 → isN n = 0) ∨ ∃ e, e < 30 ∧ isN e ≠ 0 ∧ entry = nI e ∧ entryM = nI e)
theorem en_iff {P Q : Nat → Prop} {j : Nat} {D R : Nat → Int32} (h : ∀ a, P a ↔ Q a) (hG : tl_G P j D R) : tl_G Q j D R := by
  intro o ho
  obtain ⟨g1, u, g2, g3, g4, g5⟩ := hG o ((h o).mpr ho)
  exact ⟨g1, u, g2, g3, g4, fun a ha => (h a).mp (g5 a ha)⟩
theorem en_zero {P : Nat → Prop} {j n : Nat} {D R : Nat → Int32} (hj : j < 4) (hn : ¬ P n) (hG : tl_G P j D R) : tl_G P j (en_z D n 4) R := by
  intro o ho
  obtain ⟨g1, u, g2, g3, g4, g5⟩ := hG o ho
  have hne : o ≠ n := fun e => hn (e ▸ ho)
  exact ⟨g1, u, ⟨by rw [en_zG, if_neg (by omega)]; exact g2.1, g2.2⟩, g3, g4, g5⟩
theorem en_nodes {isN : Nat → Int32} {n : Nat} (hn : n < 30) (a : Nat) : ((a < 30 ∧ isN a ≠ 0) ∨ a = n) ↔ (a < 30 ∧ upd isN n 1 a ≠ 0) := by
  by_cases e : a = n
  · subst e
    rw [pk_us]
    exact ⟨fun _ => ⟨hn, pz_10⟩, fun _ => Or.inr rfl⟩
  · rw [pk_un e]
    exact ⟨fun q => q.elim id (fun r => absurd r e), Or.inl⟩
theorem en_ok {N : Nat} (hN : 64 ≤ N) {V : Nat → Nat → Int32} {vec : Nat → Int32} (hV : ch_V V vec) {ord lev D R isN ent : Nat → Int32} {sz entry entryM : Int32} (hE : en_R ord lev D R isN ent sz entry entryM) {n : Nat} (hn : n < 30) (h0 : isN n = 0) (que isL : Nat → Int32) (Wa : T_Wa) (C : T_Ch) (K : T_Rk) (seC : Int32) (se : Int64) (hse : seC = se.toInt32) (aim sn hd op ch hr pk pool : Nat → Int32) (heres picks pools : Int32) :
    ∃ lev' D' R' C' K' Wa' entry' entryM' seC' se' aim' sn' hd' op' ch' hr' pk' pool' heres' picks' pools', f_Gr_enter N (ord, lev, D, R, que, sz) Wa C K entry seC V (nI n) = some ((upd ord n (sz + 1), lev', D', R', que, sz + 1), Wa', C', K', entry', seC') ∧ f_Mo_enter N isN isL vec lev ent R D entryM sz aim sn hd op ch hr pk pool heres picks pools se (nI n) = some (upd isN n 1, upd isL n 1, lev', upd ent n (sz + 1), R', D', entryM', sz + 1, aim', sn', hd', op', ch', hr', pk', pool', heres', picks', pools', se') ∧ en_R (upd ord n (sz + 1)) lev' D' R' (upd isN n 1) (upd ent n (sz + 1)) (sz + 1) entry' entryM' ∧ seC' = se'.toInt32 := by
  obtain ⟨q1, q2, q3, q4, q5⟩ := hE
  have hcnt : pd_cnt (upd isN n 1) 30 = pd_cnt isN 30 + 1 := wk_cnt hn h0
  have hs30 : pd_cnt isN 30 + 1 ≤ 30 := by rw [← hcnt]; exact wk_cnt30 _
  have hnP : ¬ (n < 30 ∧ isN n ≠ 0) := fun q => q.2 h0
  have hsz : sz + 1 = nI (pd_cnt isN 30 + 1) := by rw [q1, nI_1]
  obtain ⟨l, l1, l2, l3⟩ := en_level (N := N) isN isL vec lev ent R D aim sn hd op ch hr pk pool entryM sz heres picks pools se (nI n) 3 0 (pd_cnt isN 30 + 1) (N - 4) (N - 4) (by omega) (by omega)
  rw [show N - 4 + 3 + 1 = N by omega] at l2 l3
  have hadd : f_Li_addNode N ord lev D sz (nI n) = some (upd ord n (sz + 1), upd lev n (nI l), en_z D n 4, sz + 1) := by
    unfold f_Li_addNode f_Li_levelOf
    rw [pb_at hn (by decide), hsz, show f_Li_levelOf_4 N N 0 (nI (pd_cnt isN 30 + 1)) = _ from l2, Option.bind_some, pb_at hn (by decide)]
    have := en_35 (N := N) (ord := ord) (lev := lev) (D := D) (sz := sz) (p4 := nI l) hn 4 0 (N - 5) (by omega)
    rw [show N - 5 + 4 + 1 = N by omega, hsz] at this
    exact this
  have href : f_Mo_enter N isN isL vec lev ent R D entryM sz aim sn hd op ch hr pk pool heres picks pools se (nI n) = f_Mo_enter_57 N isN isL vec lev ent R entryM sz aim sn hd op ch hr pk pool heres picks pools se (nI n) (nI l) (N - 5 + 1) (en_z D n 4) (nI 4) := by
    unfold f_Mo_enter
    rw [pb_at hn (by decide), hsz, show f_Mo_enter_27 N isN isL vec lev ent R D entryM sz aim sn hd op ch hr pk pool heres picks pools se (nI n) N 0 (nI (pd_cnt isN 30 + 1)) = _ from l3, pb_at hn (by decide)]
    have := en_57 (N := N) isN isL vec lev ent R D aim sn hd op ch hr pk pool entryM sz heres picks pools se hn (nI l) 4 0 (N - 5) (by omega)
    rw [show N - 5 + 4 + 1 = N by omega] at this
    exact this
  have hG0 : ∀ j, j < 4 → tl_G (fun a => a < 30 ∧ isN a ≠ 0) j (en_z D n 4) R := fun j hj => en_zero hj hnP (q4 j hj)
  have hG1 : ∀ j, j < 4 → tl_G (fun a => (a < 30 ∧ isN a ≠ 0) ∨ a = n) j (en_z D n 4) R := fun j hj => en_mono (hG0 j hj) hn (by rw [en_zG, if_pos (by omega)]; rfl)
  have r2 : ∀ b, b < 30 → (upd isN n 1 b = 0 ∧ upd ord n (sz + 1) b = 0) ∨ (upd isN n 1 b = 1 ∧ ∃ k, 0 < k ∧ k ≤ 30 ∧ upd ord n (sz + 1) b = nI k ∧ upd ent n (sz + 1) b = nI k) := by
    intro b hb
    by_cases e : b = n
    · subst e
      rw [pk_us, pk_us, pk_us]
      exact Or.inr ⟨rfl, pd_cnt isN 30 + 1, by omega, hs30, hsz, hsz⟩
    · rw [pk_un e, pk_un e, pk_un e]
      exact q2 b hb
  have r3 : ∀ b, b < 30 → ∃ l', l' ≤ 3 ∧ upd lev n (nI l) b = nI l' := by
    intro b hb
    by_cases e : b = n
    · subst e
      rw [pk_us]
      exact ⟨l, l1, rfl⟩
    · rw [pk_un e]
      exact q3 b hb
  have r1 : sz + 1 = nI (pd_cnt (upd isN n 1) 30) := by rw [hcnt, hsz]
  rw [href]
  rcases q5 with ⟨p1, p2, p3⟩ | ⟨e, p1, p2, p3, p4⟩
  · refine ⟨upd lev n (nI l), en_z D n 4, R, C, K, Wa, nI n, nI n, seC, se, aim, sn, hd, op, ch, hr, pk, pool, heres, picks, pools, ?_, ?_, ?_, hse⟩
    · unfold f_Gr_enter
      dsimp only
      rw [hadd, Option.bind_some, if_pos p1]
    · rw [f_Mo_enter_57, if_pos (show (4 : Int32) ≤ nI 4 by decide), p2, if_pos (show (-1 : Int32) < 0 by decide), pb_at hn (by decide), pb_at hn (by decide), if_pos (show (-1 : Int32) < 0 by decide), pd_cl (show n < 2147483648 by omega), pz_n1]
    · exact ⟨r1, r2, r3, fun j hj => en_iff (en_nodes hn) (hG1 j hj), Or.inr ⟨n, hn, by rw [pk_us]; exact pz_10, rfl, rfl⟩⟩
  · have hen : e ≠ n := fun q => by rw [q] at p2; exact p2 h0
    obtain ⟨lt, t1, t2⟩ := q3 e p1
    have hlev : upd lev n (nI l) e = nI lt := by rw [pk_un hen]; exact t2
    obtain ⟨aim1, a1, a2⟩ := ti_aimAt hN vec aim hn
    have hkk := en_kaim a2
    obtain ⟨hn1, hv1, dist1, s1, s2, s3⟩ := en_stand (N := N) (vec := vec) (aim := aim1) (v := V n) hN hV (fun j hj => by rw [a2 j hj, hV n hn j hj]) p1 Wa.1 Wa.2.2.1
    rw [hkk] at s2
    have s3' : ∀ a, a < 30 → dist1 a = ch_bt vec a n := fun a ha => by rw [s3 a ha, hkk]
    have hso : so_ok (pn_lt (fun a => ch_bt vec a n)) [e] := List.pairwise_singleton _ _
    have hmem : ∀ a ∈ [e], a < 30 ∧ isN a ≠ 0 := fun a ha => by rw [List.mem_singleton.mp ha]; exact ⟨p1, p2⟩
    have hH : hr_A [e] (upd hr 0 (nI e)) := fun i hi => by
      have : i = 0 := by simpa using hi
      subst this
      rw [pk_us]
      rfl
    have fin : ∀ (k : Nat), k = (if lt ≤ l then lt else l) + 1 → ∀ (m1 : Nat) (hn0 hv0 : Nat → Int32) (O : T_Rk) (M seC1 : Int32) (l0 : List Nat) (rm : Int32) (sn hd op hr : Nat → Int32) (se1 : Int64), so_ok (pn_lt (fun a => ch_bt vec a n)) l0 → (∀ a ∈ l0, a < 30 ∧ isN a ≠ 0) → l0.length ≤ 30 → pr_A (fun a => ch_bt vec a n) l0 hn0 hv0 → hr_A l0 hr → seC1 = se1.toInt32 →
        ∃ D' R' C' K' Wa' entry' seC' se' aim' sn' hd' op' ch' hr' pk' pool' heres' picks' pools', f_Gr_enter_55 N (nI e) V (nI n) (nI l) (m1 + 5) (upd ord n (sz + 1), upd lev n (nI l), en_z D n 4, R, que, sz + 1) C K ((hn0, hv0, nI l0.length, rm, 0), O, dist1, M) seC1 (nI (if lt ≤ l then lt else l)) = some ((upd ord n (sz + 1), upd lev n (nI l), D', R', que, sz + 1), Wa', C', K', entry', seC') ∧ f_Mo_enter_160 N isN isL vec lev ent (nI e) sz (nI n) (nI l) N sn hd op ch hr pk pool R (en_z D n 4) aim1 (nI l0.length) picks pools se1 (nI (if lt ≤ l then lt else l)) = some (upd isN n 1, upd isL n 1, upd lev n (nI l), upd ent n (sz + 1), R', D', entry', sz + 1, aim', sn', hd', op', ch', hr', pk', pool', heres', picks', pools', se') ∧ en_R (upd ord n (sz + 1)) (upd lev n (nI l)) D' R' (upd isN n 1) (upd ent n (sz + 1)) (sz + 1) entry' entry' ∧ seC' = se'.toInt32 := by
      intro k hk m1 hn0 hv0 O M seC1 l0 rm sn hd op hr se1 g1 g2 g3 g4 g5 g6
      have hk4 : k ≤ 4 ∧ k ≤ l + 1 ∧ 1 ≤ k := by
        by_cases c : lt ≤ l
        · rw [if_pos c] at hk; omega
        · rw [if_neg c] at hk; omega
      obtain ⟨D', R', C', K', Wa', seC', se', aim', sn', hd', op', ch', hr', pk', pool', heres', picks', pools', e1, e2, e3, e4⟩ := en_B (N := N) (P := fun a => a < 30 ∧ isN a ≠ 0) hN hV hn hnP p1 l1 hlev t1 (upd ord n (sz + 1)) que isN isL ent (sz + 1) sz k (m1 + 4 - k) (N - k - 1) (en_z D n 4) R C K hn0 hv0 O dist1 M seC1 l0 rm sn hd op ch hr pk pool aim1 picks pools se1 hk4.2.1 a2 s3' g1 g2 g3 g4 g5 (fun j hj => hG0 j (by omega)) (fun j _ hj => hG1 j hj) g6
      rw [show m1 + 4 - k + k + 1 = m1 + 5 by omega] at e1
      rw [show N - k - 1 + k + 1 = N by omega] at e2
      have hkm : nI k + (-1) = nI (if lt ≤ l then lt else l) := by rw [hk]; exact pr_m1
      rw [hkm] at e1 e2
      refine ⟨D', R', C', K', Wa', _, seC', se', aim', sn', hd', op', ch', hr', pk', pool', heres', picks', pools', e1, e2, ⟨r1, r2, r3, fun j hj => en_iff (en_nodes hn) (e3 j hj), Or.inr ?_⟩, e4⟩
      by_cases c : l ≤ lt
      · rw [if_pos c]
        exact ⟨e, p1, by rw [pk_un hen]; exact p2, rfl, rfl⟩
      · rw [if_neg c]
        exact ⟨n, hn, by rw [pk_us]; exact pz_10, rfl, rfl⟩
    have cls : f_Gr_enter N (ord, lev, D, R, que, sz) Wa C K entry seC V (nI n) = f_Gr_enter_55 N (nI e) V (nI n) (nI l) N (upd ord n (sz + 1), upd lev n (nI l), en_z D n 4, R, que, sz + 1) C K ((hn1, hv1, nI 1, nI 1, 0), Wa.2.1, dist1, Wa.2.2.2) seC (nI lt) := by
      unfold f_Gr_enter f_Li_level f_Do_vector f_Gr_top f_Li_level
      dsimp only
      rw [hadd, Option.bind_some, p3, if_neg (en_ne2 p1)]
      dsimp only
      rw [pb_at hn (by decide), pd_cl (show n < 2147483648 by omega), Option.bind_some, pk_us, pb_at hn (by decide), Option.bind_some, s1, Option.bind_some, if_neg (en_ne2 p1), pb_at p1 (by decide), pd_cl (show e < 2147483648 by omega), hlev, Option.bind_some, Option.bind_some]
    have ref : f_Mo_enter_57 N isN isL vec lev ent R entryM sz aim sn hd op ch hr pk pool heres picks pools se (nI n) (nI l) (N - 5 + 1) (en_z D n 4) (nI 4) = f_Mo_enter_119 N isN isL vec lev ent R (nI e) sz ch pk pool picks pools (nI n) (nI l) (en_z D n 4) aim1 N sn hd op (upd hr 0 (nI e)) 1 se (nI lt) := by
      rw [f_Mo_enter_57, if_pos (show (4 : Int32) ≤ nI 4 by decide), p4, if_neg (pn_neg p1), a1, Option.bind_some, pz_at0, pb_at p1 (by decide), pd_cl (show n < 2147483648 by omega), pd_cl (show e < 2147483648 by omega), hlev]
      rfl
    rw [cls, ref]
    by_cases c : lt ≤ l
    · obtain ⟨D', R', C', K', Wa', entry', seC', se', aim', sn', hd', op', ch', hr', pk', pool', heres', picks', pools', e1, e2, e3, e4⟩ := fin _ rfl (N - 5) hn1 hv1 Wa.2.1 Wa.2.2.2 seC [e] (nI 1) sn hd op (upd hr 0 (nI e)) se hso hmem (by simp) s2 hH hse
      rw [if_pos c] at e1 e2
      rw [show N - 5 + 5 = N by omega] at e1
      refine ⟨upd lev n (nI l), D', R', C', K', Wa', entry', entry', seC', se', aim', sn', hd', op', ch', hr', pk', pool', heres', picks', pools', e1, ?_, e3, e4⟩
      obtain ⟨N1, rfl⟩ : ∃ N1, N = N1 + 1 := ⟨N - 1, by omega⟩
      rw [f_Mo_enter_119, if_pos (nI_le c (by omega)), pd_cl (show e < 2147483648 by omega), pd_cl (show n < 2147483648 by omega), hlev, if_pos (nI_le c (by omega))]
      exact e2
    · obtain ⟨hn2, hv2, O2, M2, seC2, l2', rm2, sn2, hd2, op2, hr2, se2, b1, b2, b3, b4, b5, b6, b7, b8⟩ := en_A (N := N) (V := V) (l := l) (e := e) (lev := upd lev n (nI l)) hN hn p1 hG0 (upd ord n (sz + 1)) que isN isL ent (sz + 1) sz a2 s3' C K ch pk pool picks pools (lt - l) (N - (lt - l)) (N - (lt - l)) hn1 hv1 Wa.2.1 Wa.2.2.2 seC [e] (nI 1) sn hd op (upd hr 0 (nI e)) se (by omega) hso hmem (by simp) s2 hH hse
      rw [show N - (lt - l) + (lt - l) = N by omega, show l + (lt - l) = lt by omega] at b1
      have b2' := b2 lev
      rw [show N - (lt - l) + (lt - l) = N by omega, show l + (lt - l) = lt by omega] at b2'
      obtain ⟨D', R', C', K', Wa', entry', seC', se', aim', sn', hd', op', ch', hr', pk', pool', heres', picks', pools', e1, e2, e3, e4⟩ := fin _ rfl (N - (lt - l) - 5) hn2 hv2 O2 M2 seC2 l2' rm2 sn2 hd2 op2 hr2 se2 b3 b4 b5 b6 b7 b8
      rw [if_neg c] at e1 e2
      rw [show N - (lt - l) - 5 + 5 = N - (lt - l) by omega] at e1
      refine ⟨upd lev n (nI l), D', R', C', K', Wa', entry', entry', seC', se', aim', sn', hd', op', ch', hr', pk', pool', heres', picks', pools', ?_, ?_, e3, e4⟩
      · refine Eq.trans ?_ (b1.trans e1)
        rfl
      · refine Eq.trans ?_ (b2'.trans ?_)
        · rfl
        · obtain ⟨N1, hN1⟩ : ∃ N1, N - (lt - l) = N1 + 1 := ⟨N - (lt - l) - 1, by omega⟩
          rw [hN1, f_Mo_enter_119, if_pos (nI_le (Nat.le_refl l) (by omega)), pd_cl (show e < 2147483648 by omega), pd_cl (show n < 2147483648 by omega), hlev, if_neg (nI_ge (show l < lt by omega) (by omega))]
          exact e2
