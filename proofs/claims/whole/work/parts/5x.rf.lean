/-! PURE: count 9, the class; count -/
theorem rf_len {l : List Nat} (h : l.Nodup) (hl : ∀ x ∈ l, x < 30) : l.length ≤ 30 := by
  have T := pn_T (fun _ => 0)
  rw [os_len h (so_nodup T (so_set_ok T 30)) (l2 := so_set (pn_lt (fun _ => 0)) (fun a => decide (a ∈ l)) 30) (fun a => by
    rw [so_set_mem, decide_eq_true_iff]
    exact ⟨fun q => ⟨hl a q, q⟩, fun q => q.2⟩)]
  exact so_set_len _
theorem rf_42 {N : Nat} {D R isN : Nat → Int32} (hG : os_G D R isN) {a h : Nat} (ha : os_N isN a) (hh : h < 30) (kk : (Nat → Int32) → Int32 → Int32 → Int32 → Option (Int32 × (Nat → Int32))) : ∀ (r : List Nat) (i m : Nat) (Q : List Nat) (qu : Nat → Int32) (M : Nat), i ≤ (os_r D R a).length → (os_r D R a).drop i = r → hr_A Q qu → h < Q.length → Q.getD h 0 = a → M < 2 ^ 30 → (∀ x, M.testBit x = true ↔ x ∈ Q) → Q.Nodup → (∀ x ∈ Q, os_N isN x) →
    ∃ Q' qu' M', f_Li_reachedFrom_42 N D R (nI h) kk (m + r.length + 1) qu (nI M) (nI Q.length) (nI i) = kk qu' (nI M') (nI Q'.length) (nI (os_r D R a).length) ∧ hr_A Q' qu' ∧ h < Q'.length ∧ M' < 2 ^ 30 ∧ (∀ x, M'.testBit x = true ↔ x ∈ Q') ∧ Q'.Nodup ∧ (∀ x ∈ Q', os_N isN x) ∧ (∃ t, Q' = Q ++ t) ∧ (∀ b ∈ r, b ∈ Q') ∧ ∀ x ∈ Q', x ∈ Q ∨ x ∈ r := by
  obtain ⟨g1, g2, g3, g4⟩ := hG a ha
  have ha30 := ha.1
  have e0 : nI a * 4 + 0 = nI (4 * a) := wk_x4 a 0
  intro r
  induction r with
  | nil =>
    intro i m Q qu M hi hd h1 h2 h3 h4 h5 h6 h7
    have hle := ch_nil hd
    refine ⟨Q, qu, M, ?_, h1, h2, h4, h5, h6, h7, ⟨[], by rw [List.append_nil]⟩, fun b hb => absurd hb List.not_mem_nil, fun x hx => Or.inl hx⟩
    rw [f_Li_reachedFrom_42, pb_at hh (by decide), pd_cl (show h < 2147483648 by omega), h1 h h2, h3]
    unfold f_Li_degree
    rw [e0, pb_at (show 4 * a < 120 by omega) (by decide), pd_cl (show 4 * a < 2147483648 by omega), g1.1, Option.bind_some, if_pos (nI_le hle (by omega)), show i = (os_r D R a).length by omega]
  | cons b r ih =>
    intro i m Q qu M hi hd h1 h2 h3 h4 h5 h6 h7
    obtain ⟨d1, d2, d3, d4⟩ := ch_dr hd
    have hb := g4 b d4
    have hb30 := hb.1
    have hstep : f_Li_reachedFrom_42 N D R (nI h) kk (m + (b :: r).length + 1) qu (nI M) (nI Q.length) (nI i) = ((f_Nd_isIn N (nI M) (nI b)).bind fun p14 => (if p14 = 0 then (g_at (nI Q.length) 30 (f_Li_reachedFrom_42 N D R (nI h) kk (m + r.length + 1) (upd qu (nI Q.length).toNatClampNeg (nI b)) (nI M ||| (1 <<< (nI b &&& 31))) (nI Q.length + 1) (nI i + 1))) else (f_Li_reachedFrom_42 N D R (nI h) kk (m + r.length + 1) qu (nI M) (nI Q.length) (nI i + 1)))) := by
      rw [List.length_cons, show m + (r.length + 1) + 1 = (m + r.length + 1) + 1 from rfl, f_Li_reachedFrom_42, pb_at hh (by decide), pb_at hh (by decide), pd_cl (show h < 2147483648 by omega), h1 h h2, h3]
      unfold f_Li_degree f_Li_linked
      rw [e0, pb_at (show 4 * a < 120 by omega) (by decide), pd_cl (show 4 * a < 2147483648 by omega), g1.1, Option.bind_some, if_neg (nI_ge d1 (by omega)), wk_x7, pb_at (show 7 * (4 * a) + i < 840 by omega) (by decide), pd_cl (show 7 * (4 * a) + i < 2147483648 by omega), g1.2 i d1, d2, Option.bind_some]
    rw [hstep, pm_isIn N h4 hb30, Option.bind_some]
    by_cases c : b ∈ Q
    · simp only [if_pos ((h5 b).mpr c), if_neg pz_10]
      rw [nI_1]
      obtain ⟨Q', qu', M', e1, e2, e3, e4, e5, e6, e7, e8, e9, e10⟩ := ih (i + 1) m Q qu M d1 d3 h1 h2 h3 h4 h5 h6 h7
      refine ⟨Q', qu', M', e1, e2, e3, e4, e5, e6, e7, e8, fun x hx => ?_, fun x hx => (e10 x hx).imp id (List.mem_cons_of_mem _)⟩
      rcases List.mem_cons.mp hx with q | q
      · subst q
        obtain ⟨t, ht⟩ := e8
        rw [ht]
        exact List.mem_append_left _ c
      · exact e9 x q
    · simp only [if_neg (fun q => c ((h5 b).mp q)), if_true]
      have hnd : (Q ++ [b]).Nodup := List.nodup_append.mpr ⟨h6, List.nodup_cons.mpr ⟨List.not_mem_nil, List.nodup_nil⟩, fun x hx y hy => by rw [List.mem_singleton.mp hy]; exact fun e => c (by rw [← e]; exact hx)⟩
      have hall : ∀ x ∈ Q ++ [b], os_N isN x := fun x hx => (List.mem_append.mp hx).elim (h7 x) (fun q => by rw [List.mem_singleton.mp q]; exact hb)
      have hl := rf_len hnd (fun x hx => (hall x hx).1)
      rw [List.length_append, List.length_singleton] at hl
      rw [pb_at (show Q.length < 30 by omega) (by decide), pd_cl (show Q.length < 2147483648 by omega), pm_set hb30, nI_1, nI_1, show Q.length + 1 = (Q ++ [b]).length by rw [List.length_append, List.length_singleton]]
      obtain ⟨Q', qu', M', e1, e2, e3, e4, e5, e6, e7, e8, e9, e10⟩ := ih (i + 1) m (Q ++ [b]) _ (M ||| 2 ^ b) d1 d3 (ch_cat h1) (by rw [List.length_append]; omega) (by rw [List.getD_eq_getElem?_getD, List.getElem?_append_left h2, ← List.getD_eq_getElem?_getD]; exact h3) (pm_set_lt h4 hb30) (fun x => by rw [pm_set_bit, List.mem_append, List.mem_singleton, ← h5 x, Bool.or_eq_true, decide_eq_true_iff, eq_comm (a := x)]) hnd hall
      obtain ⟨t, ht⟩ := e8
      refine ⟨Q', qu', M', e1, e2, e3, e4, e5, e6, e7, ⟨b :: t, by rw [ht, List.append_assoc]; rfl⟩, fun x hx => ?_, fun x hx => ?_⟩
      · rcases List.mem_cons.mp hx with q | q
        · subst q
          rw [ht]
          exact List.mem_append_left _ (List.mem_append_right _ List.mem_cons_self)
        · exact e9 x q
      · rcases e10 x hx with q | q
        · rcases List.mem_append.mp q with q | q
          · exact Or.inl q
          · exact Or.inr (by rw [List.mem_singleton.mp q]; exact List.mem_cons_self)
        · exact Or.inr (List.mem_cons_of_mem _ q)
theorem rf_26 {N : Nat} (hN : 64 ≤ N) {D R isN : Nat → Int32} (hG : os_G D R isN) {e : Nat} : ∀ (k h m : Nat) (Q : List Nat) (qu : Nat → Int32) (M : Nat), h + k = 30 → hr_A Q qu → M < 2 ^ 30 → (∀ x, M.testBit x = true ↔ x ∈ Q) → Q.Nodup → (∀ x ∈ Q, os_N isN x) → (∀ i, i < h → i < Q.length → ∀ b ∈ os_r D R (Q.getD i 0), b ∈ Q) → (∀ C, rc_C D R isN e C → ∀ x ∈ Q, C x) → e ∈ Q →
    ∃ (Q' : List Nat) (qu' : Nat → Int32), f_Li_reachedFrom_26 N D R (m + k + 1) qu (nI M) (nI Q.length) (nI h) = some (nI Q'.length, qu') ∧ Q'.Nodup ∧ (∀ x ∈ Q', os_N isN x) ∧ (∀ C, rc_C D R isN e C → ∀ x ∈ Q', C x) ∧ e ∈ Q' ∧ ∀ x ∈ Q', ∀ b ∈ os_r D R x, b ∈ Q' := by
  have done : ∀ (Q : List Nat) (h : Nat), Q.length ≤ h → (∀ i, i < h → i < Q.length → ∀ b ∈ os_r D R (Q.getD i 0), b ∈ Q) → ∀ x ∈ Q, ∀ b ∈ os_r D R x, b ∈ Q := by
    intro Q h hle hp x hx b hb
    obtain ⟨i, hi, hix⟩ := List.mem_iff_getElem.mp hx
    have hg : Q.getD i 0 = x := by rw [List.getD_eq_getElem?_getD, List.getElem?_eq_getElem hi, ← hix]; rfl
    exact hp i (by omega) hi b (by rw [hg]; exact hb)
  intro k
  induction k with
  | zero =>
    intro h m Q qu M hh h1 h2 h3 h4 h5 h6 h7 h8
    have hl := rf_len h4 (fun x hx => (h5 x hx).1)
    refine ⟨Q, qu, ?_, h4, h5, h7, h8, done Q h (by omega) h6⟩
    rw [f_Li_reachedFrom_26, if_pos (show (30 : Int32) ≤ nI h from nI_le (a := 30) (by omega) (by omega))]
  | succ k ih =>
    intro h m Q qu M hh h1 h2 h3 h4 h5 h6 h7 h8
    have hl := rf_len h4 (fun x hx => (h5 x hx).1)
    rw [show m + (k + 1) + 1 = (m + k + 1) + 1 from rfl, f_Li_reachedFrom_26, if_neg (show ¬ (30 : Int32) ≤ nI h from nI_ge (b := 30) (by omega) (by omega))]
    by_cases c : Q.length ≤ h
    · rw [if_pos (nI_le c (by omega))]
      exact ⟨Q, qu, rfl, h4, h5, h7, h8, done Q h c h6⟩
    · rw [if_neg (nI_ge (show h < Q.length by omega) (by omega))]
      have hhl : h < Q.length := by omega
      have haN := h5 _ (wp_getD hhl)
      have hr6 := (hG _ haN).2.2.1
      obtain ⟨Q1, qu1, M1, e1, e2, e3, e4, e5, e6, e7, ⟨t, ht⟩, e9, e10⟩ := rf_42 (N := N) hG haN (show h < 30 by omega) (fun vak0_5_7 v2_7 v3_7 v5_7 => (f_Li_reachedFrom_26 N D R (m + k + 1) vak0_5_7 v2_7 v3_7 (nI h + 1))) (os_r D R (Q.getD h 0)) 0 (N - (os_r D R (Q.getD h 0)).length - 1) Q qu M (Nat.zero_le _) rfl h1 hhl rfl h2 h3 h4 h5
      rw [show N - (os_r D R (Q.getD h 0)).length - 1 + (os_r D R (Q.getD h 0)).length + 1 = N by omega] at e1
      obtain ⟨Q', qu', f1, f2⟩ := ih (h + 1) m Q1 qu1 M1 (by omega) e2 e4 e5 e6 e7 (fun i hi hiq b hb => by
        by_cases hiQ : i < Q.length
        · have hg : Q1.getD i 0 = Q.getD i 0 := by rw [ht, List.getD_eq_getElem?_getD, List.getElem?_append_left hiQ, ← List.getD_eq_getElem?_getD]
          rw [hg] at hb
          by_cases q : i = h
          · subst q; exact e9 b hb
          · rw [ht]; exact List.mem_append_left _ (h6 i (by omega) hiQ b hb)
        · omega) (fun C hC x hx => (e10 x hx).elim (h7 C hC x) (fun q => hC.2 _ haN (h7 C hC _ (wp_getD hhl)) x q)) (by rw [ht]; exact List.mem_append_left _ h8)
      refine ⟨Q', qu', ?_, f2⟩
      refine Eq.trans e1 ?_
      rw [nI_1]
      exact f1
theorem rf_reached {N : Nat} (hN : 64 ≤ N) {ord lev D R isN ent : Nat → Int32} {sz entry entryM : Int32} (hE : en_R ord lev D R isN ent sz entry entryM) (que sn : Nat → Int32) : ∃ r que' sn', f_Li_reachedFrom N ord D R que entry = some (r, que') ∧ f_Mo_reached N R D entryM sn = some (r, sn') := by
  have hG : os_G D R isN := os_of (hE.2.2.2.1 0 (by decide))
  obtain ⟨S0, s1, s2⟩ := rc_2 (N := N) (D := D) (R := R) entryM 30 0 (N - 31) sn (by omega) (fun a ha => absurd ha (Nat.not_lt_zero _))
  rw [show N - 31 + 30 + 1 = N by omega] at s1
  unfold f_Li_reachedFrom f_Mo_reached
  rw [show f_Mo_reached_2 N R D entryM N sn 0 = _ from s1]
  rcases hE.2.2.2.2 with ⟨p1, p2, p3⟩ | ⟨e, p1, p2, p3, p4⟩
  · have hz := rc_z35 (N := N) hN (D := D) (R := R) S0 (fun a ha => Decidable.byContradiction fun q => by
      have := (s2 a ha).mp q
      rw [p2] at this
      have h1 : (nI a).toInt = (a : Int) := nI_toInt (by omega)
      rw [this] at h1
      have : (-1 : Int32).toInt = -1 := by decide
      omega) 30 0 (N - 31) (by omega)
    rw [show N - 31 + 30 + 1 = N by omega] at hz
    refine ⟨0, que, S0, ?_, hz⟩
    rw [p1, fo_noNode ord (by decide), Option.bind_some, if_pos rfl]
  · have hS0 : ∀ a, a < 30 → S0 a ≠ 0 → a = e := fun a ha q => (nI_eq (by omega) (by omega)).mp (((s2 a ha).mp q).trans p4)
    have hSe : S0 e ≠ 0 := (s2 e p1).mpr p4.symm
    obtain ⟨S, t1, t2, t3, t4⟩ := rc_35 (N := N) hN hG (e := e) 30 0 (N - 31) S0 (by omega) (fun C hC a ha q => by rw [hS0 a ha q]; exact hC.1) (fun a ha q => by rw [hS0 a ha q]; exact ⟨p1, p2⟩) hSe p1 (Or.inr (by
      have hc := (rc_cnt (S := upd (fun _ => 0) e 1) (S' := S0) 30 (fun a ha q => by
        by_cases z : a = e
        · subst z; exact hSe
        · rw [pk_un z] at q; exact absurd rfl q)).1
      rw [wk_cnt p1 rfl] at hc
      omega))
    rw [show N - 31 + 30 + 1 = N by omega] at t1
    obtain ⟨Q, qu, u1, u2, u3, u4, u5, u6⟩ := rf_26 (N := N) hN hG (e := e) 30 0 (N - 31) [e] (upd que 0 (nI e)) (2 ^ e) (by omega) (fun i hi => by
      have : i = 0 := by simpa using hi
      subst this
      rw [pk_us]
      rfl) (Nat.pow_lt_pow_right (by decide) p1) (fun x => by rw [Nat.testBit_two_pow, decide_eq_true_iff, List.mem_singleton, eq_comm]) (List.nodup_cons.mpr ⟨List.not_mem_nil, List.nodup_nil⟩) (fun x hx => by rw [List.mem_singleton.mp hx]; exact ⟨p1, p2⟩) (fun i hi => absurd hi (Nat.not_lt_zero _)) (fun C hC x hx => by rw [List.mem_singleton.mp hx]; exact hC.1) List.mem_cons_self
    rw [show N - 31 + 30 + 1 = N by omega] at u1
    have T := pn_T (fun _ => 0)
    have hlen : pd_cnt S 30 = Q.length := by
      rw [pf_cnt (pn_lt (fun _ => 0))]
      refine os_len (so_nodup T (so_set_ok T 30)) u2 (fun a => ?_)
      constructor
      · intro q
        have h30 := (so_set_mem.mp q).1
        have hs := (pw_set_mem h30).mp q
        exact t2 (fun x => x ∈ Q) ⟨u5, fun x _ hx b hb => u6 x hx b hb⟩ a h30 hs
      · intro q
        have := u4 (fun x => x < 30 ∧ S x ≠ 0) ⟨⟨p1, t3⟩, fun x hx hcx b hb => ⟨((hG x hx).2.2.2 b hb).1, t4 x hcx.1 hcx.2 b hb⟩⟩ a q
        exact (pw_set_mem this.1).mpr this.2
    refine ⟨nI Q.length, qu, S, ?_, ?_⟩
    · rw [p3, fo_isNode hE p1, Option.bind_some, if_neg (show ¬ (if isN e = 0 then (0 : Int32) else 1) = 0 by rw [if_neg p2]; exact pz_10), pz_at0, pm_shl p1]
      exact u1
    · rw [← hlen]
      exact t1
theorem rf_count {N : Nat} (hN : 64 ≤ N) {V : Nat → Nat → Int32} {vec : Nat → Int32} (hV : ch_V V vec) {ord lev D R isN ent : Nat → Int32} {sz entry entryM : Int32} (hE : en_R ord lev D R isN ent sz entry entryM) (cw wg que isL asked : Nat → Int32) {lv : Int32} (hlv : lv_R lv isL) (Wa : T_Wa) (C : T_Ch) (K : T_Rk) {sS sE : Int32} {sA sEn : Int64} (hsS : sS = sA.toInt32) (hsE : sE = sEn.toInt32) {rn rv number worth : Nat → Int32} {rs found : Int32} (rr rg : Int32) (hF : re_F rn rv rs number worth found) (X : T_Rk) (aim sn : Nat → Int32) (a : Int32) :
    ∃ r que' X' aim' sn', f_Nd_count N (V, cw, wg, lv) ((ord, lev, D, R, que, sz), Wa, C, K, entry, sS, sE) (rn, rv, rs, rr, rg) X asked a = some (r, ((ord, lev, D, R, que', sz), Wa, C, K, entry, sS, sE), X') ∧ f_Mo_count N isN isL vec lev R D entryM aim asked sn number found sA sEn a = some (r, aim', sn') := by
  unfold f_Nd_count f_Mo_count f_Li_size f_Gr_entry f_Gr_top f_Li_level f_Gr_seenInSearches f_Gr_seenInEntering f_Rk_size
  dsimp only
  by_cases c0 : a = 0
  · rw [if_pos c0, if_pos c0, Option.bind_some, pd_size (by omega), Option.bind_some, hE.1]
    exact ⟨_, que, X, aim, sn, rfl, rfl⟩
  rw [if_neg c0, if_neg c0]
  by_cases c1 : a = 1
  · rw [if_pos c1, if_pos c1, sc_live hlv, Option.bind_some, pd_size (by omega), Option.bind_some]
    exact ⟨_, que, X, aim, sn, rfl, rfl⟩
  rw [if_neg c1, if_neg c1]
  by_cases c2 : a = 2
  · rw [if_pos c2, if_pos c2, Option.bind_some]
    rcases hE.2.2.2.2 with ⟨p1, p2, p3⟩ | ⟨e, p1, p2, p3, p4⟩
    · rw [p2, if_neg (show ¬ (0 : Int32) ≤ -1 by decide), p1]
      exact ⟨_, que, X, aim, sn, rfl, rfl⟩
    · rw [p4, if_pos (nI_pos' (by omega)), p3]
      exact ⟨_, que, X, aim, sn, rfl, rfl⟩
  rw [if_neg c2, if_neg c2]
  by_cases c3 : a = 3
  · rw [if_pos c3, if_pos c3]
    rcases hE.2.2.2.2 with ⟨p1, p2, p3⟩ | ⟨e, p1, p2, p3, p4⟩
    · rw [p2, if_neg (show ¬ (0 : Int32) ≤ -1 by decide), p1, if_pos rfl, Option.bind_some]
      exact ⟨_, que, X, aim, sn, rfl, rfl⟩
    · rw [p4, if_pos (nI_pos' (by omega)), p3, if_neg (en_ne2 p1), pb_at p1 (by decide), pb_at p1 (by decide), Option.bind_some, Option.bind_some]
      exact ⟨_, que, X, aim, sn, rfl, rfl⟩
  rw [if_neg c3, if_neg c3]
  by_cases c4 : a = 4
  · rw [if_pos c4, if_pos c4, Option.bind_some, hsS]
    exact ⟨_, que, X, aim, sn, rfl, rfl⟩
  rw [if_neg c4, if_neg c4]
  by_cases c5 : a = 5
  · rw [if_pos c5, if_pos c5, Option.bind_some, hsE]
    exact ⟨_, que, X, aim, sn, rfl, rfl⟩
  rw [if_neg c5, if_neg c5]
  by_cases c6 : a = 6
  · rw [if_pos c6, if_pos c6, Option.bind_some]
    obtain ⟨f, f1, f2, f3, f4⟩ := hF
    rw [f2, f3]
    exact ⟨_, que, X, aim, sn, rfl, rfl⟩
  rw [if_neg c6, if_neg c6]
  by_cases c7 : a = 7
  · rw [if_pos c7, if_pos c7]
    obtain ⟨r, X', aim', e1, e2⟩ := ri_count hN hV cw wg isL asked hlv rr rg hF X aim
    rw [e1, e2, Option.bind_some, Option.bind_some]
    exact ⟨_, que, X', aim', sn, rfl, rfl⟩
  rw [if_neg c7, if_neg c7]
  by_cases c8 : a = 8
  · rw [if_pos c8, if_pos c8]
    obtain ⟨r, e1, e2⟩ := os_count hN hE
    rw [e1, e2, Option.bind_some, Option.bind_some]
    exact ⟨_, que, X, aim, sn, rfl, rfl⟩
  rw [if_neg c8, if_neg c8]
  by_cases c9 : a = 9
  · rw [if_pos c9, if_pos c9, Option.bind_some]
    obtain ⟨r, que', sn', e1, e2⟩ := rf_reached hN hE que sn
    rw [e1, e2, Option.bind_some, Option.bind_some]
    exact ⟨_, que', X, aim, sn', rfl, rfl⟩
  rw [if_neg c9, if_neg c9]
  exact ⟨_, que, X, aim, sn, rfl, rfl⟩
