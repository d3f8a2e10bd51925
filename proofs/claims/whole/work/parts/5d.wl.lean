/-! PURE: the walk's loop, in step -/
theorem pz_at0 {α : Type} {k : Option α} : g_at 0 30 k = k := pb_at (i := 0) (by decide) (by decide)
def hr_A (l : List Nat) (hr : Nat → Int32) : Prop := ∀ i, i < l.length → hr i = nI (l.getD i 0)
theorem wl_251 {N : Nat} (hN : 31 ≤ N) (vec aim sn op : Nat → Int32) (L : Nat) (hL : L ≤ 30) : ∀ (l : List Nat) (j m : Nat) (hd hr : Nat → Int32), so_set (pn_lt (pn_key vec aim)) (pn_P hd) 30 = l → j + l.length = L →
    ∃ hd' hr', f_Mo_walk_251 N vec aim sn (m + l.length + 1) hd op hr (nI L) (nI j) = some (nI (pd_cnt sn 30), sn, hd', op, hr', nI L) ∧ (∀ i, i < j → hr' i = hr i) ∧ ∀ i, i < l.length → hr' (j + i) = nI (l.getD i 0) := by
  intro l
  induction l with
  | nil =>
    intro j m hd hr h1 h2
    refine ⟨hd, hr, ?_, fun i _ => rfl, fun i hi => absurd hi (Nat.not_lt_zero _)⟩
    rw [f_Mo_walk_251, if_pos (nI_le (by simp at h2; omega) (by omega)), pd_size hN, Option.bind_some]
  | cons y t ih =>
    intro j m hd hr h1 h2
    have T := pn_T (pn_key vec aim)
    have hy : y < 30 := by
      have : y ∈ so_set (pn_lt (pn_key vec aim)) (pn_P hd) 30 := by rw [h1]; exact List.mem_cons_self
      exact (so_set_mem.mp this).1
    have hs : so_ok (pn_lt (pn_key vec aim)) (y :: t) := by rw [← h1]; exact so_set_ok T _
    have hyt : y ∉ t := fun q => by
      have := (List.pairwise_cons.mp hs).1 y q
      rw [T.1] at this
      cases this
    have h3 : so_set (pn_lt (pn_key vec aim)) (pn_P (upd hd y 0)) 30 = t := by
      rw [pf_del T, h1, List.filter_cons]
      simp only [bne_self_eq_false, Bool.false_eq_true, if_false]
      exact List.filter_eq_self.mpr (fun a ha => by rw [bne_iff_ne]; exact fun e => hyt (by rw [← e]; exact ha))
    simp only [List.length_cons] at h2
    obtain ⟨hd', hr', g1, g2, g3⟩ := ih (j + 1) m (upd hd y 0) (upd hr j (nI y)) h3 (by omega)
    refine ⟨hd', hr', ?_, ?_, ?_⟩
    · rw [List.length_cons, show m + (t.length + 1) + 1 = (m + t.length + 1) + 1 from rfl, f_Mo_walk_251, if_neg (nI_ge (by omega) (by omega)), pn_nearest_held hN, h1, Option.bind_some]
      simp only [List.head?_cons, pn_o]
      rw [pb_at (by omega) (by decide), pb_at hy (by decide), pd_cl (show y < 2147483648 by omega), pd_cl (show j < 2147483648 by omega), pz_n0, nI_1]
      exact g1
    · intro i hi
      rw [g2 i (by omega), pk_un (by omega)]
    · intro i hi
      cases i with
      | zero =>
        rw [Nat.add_zero, g2 j (by omega), pk_us]
        rfl
      | succ i =>
        have := g3 i (by simpa using hi)
        rw [show j + (i + 1) = j + 1 + i by omega, this]
        rfl
theorem wl_loop {N : Nat} (hN : 31 ≤ N) {vec aim dist D R : Nat → Int32} {P : Nat → Prop} {w : Nat} (hw0 : 0 < w) (hw : w ≤ 30) (hdist : ∀ a, a < 30 → dist a = pn_key vec aim a) {layer : Nat} (hlay : layer < 4) (hP : ∀ n, P n → n < 30 ∧ ∃ d, d ≤ 7 ∧ D (4 * n + layer) = nI d ∧ ∀ i, i < d → ∃ a, R (7 * (4 * n + layer) + i) = nI a ∧ a < 30 ∧ P a) (hr : Nat → Int32) :
    ∀ (k s m1 m2 : Nat) (sn hd op : Nat → Int32) (l o : List Nat) (M : Nat) (hn hv on ov : Nat → Int32), s + k = 30 → wk_R (pn_key vec aim) w P sn hd op l o M hn hv on ov → s + o.length ≤ pd_cnt sn 30 →
    ∃ S l' sn' hd' op' hr' M' hn' hv' O', f_Wa_walk_8 N dist D R (nI layer) (m1 + k + 1) (hn, hv, nI l.length, nI w, 0) (on, ov, nI o.length, nI 30, 0) (nI M) (nI s) = some (nI S, (hn', hv', nI l'.length, nI w, 0), O', nI M') ∧ f_Mo_walk_131 N vec R D aim hr (nI layer) (nI w) (m2 + k + 1) sn hd op (pn_o o.head?) = some (nI S, sn', hd', op', hr', nI l'.length) ∧ S ≤ 30 ∧ so_ok (pn_lt (pn_key vec aim)) l' ∧ (∀ a ∈ l', P a) ∧ l'.length ≤ w ∧ pr_A (pn_key vec aim) l' hn' hv' ∧ hr_A l' hr' := by
  have N30 : 30 < 2147483648 := by decide
  have T := pn_T (pn_key vec aim)
  intro k
  induction k with
  | zero =>
    intro s m1 m2 sn hd op l o M hn hv on ov hs hW hc
    have := wk_cnt30 sn
    have ho : o = [] := List.eq_nil_of_length_eq_zero (by omega)
    subst ho
    obtain ⟨w1, w2, w3, w4, w5, w6, w7, w8, w9⟩ := hW
    obtain ⟨hd', hr', g1, g2, g3⟩ := wl_251 hN vec aim sn op l.length (by omega) l 0 (N - l.length - 1) hd hr w1 (by omega)
    rw [show N - l.length - 1 + l.length + 1 = N by omega] at g1
    refine ⟨pd_cnt sn 30, l, sn, hd', op, hr', M, hn, hv, (on, ov, nI 0, nI 30, 0), ?_, ?_, this, by rw [← w1]; exact so_set_ok T _, fun a ha => (w5 a ha).2, w7, w8, fun i hi => by rw [← g3 i hi, Nat.zero_add]⟩
    · rw [f_Wa_walk_8, if_pos (show (30 : Int32) ≤ nI s from nI_le (a := 30) (by omega) (by omega)), pc_ok w3 w4, Option.bind_some]
      rfl
    · rw [f_Mo_walk_131, if_pos (show pn_o ([] : List Nat).head? < 0 by decide), pf_size hN (pn_lt (pn_key vec aim)), w1, Option.bind_some]
      exact g1
  | succ k ih =>
    intro s m1 m2 sn hd op l o M hn hv on ov hs hW hc
    have hcnt := wk_cnt30 sn
    have hW0 := hW
    obtain ⟨w1, w2, w3, w4, w5, w6, w7, w8, w9⟩ := hW
    have sl : so_ok (pn_lt (pn_key vec aim)) l := by rw [← w1]; exact so_set_ok T _
    have ll : ∀ a ∈ l, a < 30 := fun a ha => by rw [← w1] at ha; exact (so_set_mem.mp ha).1
    obtain ⟨hd', hr', g1, g2, g3⟩ := wl_251 hN vec aim sn op l.length (by omega) l 0 (N - l.length - 1) hd hr w1 (by omega)
    rw [show N - l.length - 1 + l.length + 1 = N by omega] at g1
    cases o with
    | nil =>
      refine ⟨pd_cnt sn 30, l, sn, hd', op, hr', M, hn, hv, (on, ov, nI 0, nI 30, 0), ?_, ?_, hcnt, sl, fun a ha => (w5 a ha).2, w7, w8, fun i hi => by rw [← g3 i hi, Nat.zero_add]⟩
      · rw [show m1 + (k + 1) + 1 = (m1 + k + 1) + 1 from rfl, f_Wa_walk_8, if_neg (show ¬ (30 : Int32) ≤ nI s from nI_ge (b := 30) (by omega) (by omega))]
        unfold f_Rk_size
        rw [Option.bind_some, if_pos (show nI ([] : List Nat).length ≤ 0 by decide), pc_ok w3 w4, Option.bind_some]
        rfl
      · rw [show m2 + (k + 1) + 1 = (m2 + k + 1) + 1 from rfl, f_Mo_walk_131, if_pos (show pn_o ([] : List Nat).head? < 0 by decide), pf_size hN (pn_lt (pn_key vec aim)), w1, Option.bind_some]
        exact g1
    | cons y t =>
      have hym : y ∈ so_set (pn_lt (pn_key vec aim)) (pn_P op) 30 := by rw [w2]; exact List.mem_cons_self
      have hy : y < 30 := (so_set_mem.mp hym).1
      have so : so_ok (pn_lt (pn_key vec aim)) (y :: t) := by rw [← w2]; exact so_set_ok T _
      have hyt : y ∉ t := fun q => by
        have := (List.pairwise_cons.mp so).1 y q
        rw [T.1] at this
        cases this
      have w2' : so_set (pn_lt (pn_key vec aim)) (pn_P (upd op y 0)) 30 = t := by
        rw [pf_del T, w2, List.filter_cons]
        simp only [bne_self_eq_false, Bool.false_eq_true, if_false]
        exact List.filter_eq_self.mpr (fun a ha => by rw [bne_iff_ne]; exact fun e => hyt (by rw [← e]; exact ha))
      have tl : t.length < 30 := by
        have := so_set_len (lt := pn_lt (pn_key vec aim)) (P := pn_P op) 30
        rw [w2, List.length_cons] at this
        omega
      simp only [List.length_cons] at hc
      obtain ⟨on1, ov1, p1, p2⟩ := pq_drop hN tl on ov w9
      have on0 : on 0 = nI y := (w9 0 (by simp)).1
      obtain ⟨-, d, hd7, hDd, hRR⟩ := hP y (w6 y List.mem_cons_self).2
      have hRe : ∀ i, i < d → R (7 * (4 * y + layer) + i) = nI ((R (7 * (4 * y + layer) + i)).toNatClampNeg) ∧ (R (7 * (4 * y + layer) + i)).toNatClampNeg < 30 ∧ P (R (7 * (4 * y + layer) + i)).toNatClampNeg := by
        intro i hi
        obtain ⟨a, q1, q2, q3⟩ := hRR i hi
        rw [q1, pd_cl (show a < 2147483648 by omega)]
        exact ⟨rfl, q2, q3⟩
      obtain ⟨sn2, hd2, op2, l2, o2, M2, hn2, hv2, on2, ov2, c1, c2, c3, c4⟩ := wk_look (dist := dist) (D := D) (R := R) (P := P) hN hw0 hw hdist hy hlay hd7 hDd _ hRe d 0 (N - d - 1) sn hd (upd op y 0) l t M hn hv on1 ov1 (by omega) ⟨w1, w2', w3, w4, w5, fun a ha => w6 a (List.mem_cons_of_mem _ ha), w7, w8, p2⟩
      rw [show N - d - 1 + d + 1 = N by omega, nI_0] at c1
      have cont : ∃ S l' sn' hd' op' hr' M' hn' hv' O', ((f_Wa_lookAround N (hn, hv, nI l.length, nI w, 0) (on1, ov1, nI t.length, nI 30, 0) dist (nI M) D R (nI layer) (nI y)).bind fun p13 => f_Wa_walk_8 N dist D R (nI layer) (m1 + k + 1) p13.1 p13.2.1 p13.2.2 (nI (s + 1))) = some (nI S, (hn', hv', nI l'.length, nI w, 0), O', nI M') ∧ f_Mo_walk_186 N vec R D aim (nI layer) (nI w) (nI y) (fun a b c _ => ((f_Mo_nearest_open N vec aim c).bind fun p38 => f_Mo_walk_131 N vec R D aim hr (nI layer) (nI w) (m2 + k + 1) a b c p38)) N sn hd (upd op y 0) (nI (7 * (4 * y + layer))) = some (nI S, sn', hd', op', hr', nI l'.length) ∧ S ≤ 30 ∧ so_ok (pn_lt (pn_key vec aim)) l' ∧ (∀ a ∈ l', P a) ∧ l'.length ≤ w ∧ pr_A (pn_key vec aim) l' hn' hv' ∧ hr_A l' hr' := by
        obtain ⟨S, l', sn', hd3, op', hr3, M', hn', hv', O', e1, e2, e3⟩ := ih (s + 1) m1 m2 sn2 hd2 op2 l2 o2 M2 hn2 hv2 on2 ov2 (by omega) c3 (by omega)
        refine ⟨S, l', sn', hd3, op', hr3, M', hn', hv', O', ?_, ?_, e3⟩
        · unfold f_Wa_lookAround
          rw [c1, Option.bind_some]
          exact e1
        · have c2' := c2 (fun a b c _ => ((f_Mo_nearest_open N vec aim c).bind fun p38 => f_Mo_walk_131 N vec R D aim hr (nI layer) (nI w) (m2 + k + 1) a b c p38)) (N - d - 1)
          rw [show N - d - 1 + d + 1 = N by omega] at c2'
          refine Eq.trans c2' ?_
          rw [pn_nearest_open hN, c3.2.1, Option.bind_some]
          exact e2
      obtain ⟨S, l', sn', hd3, op', hr3, M', hn', hv', O', e1, e2, e3⟩ := cont
      have cls : f_Wa_walk_8 N dist D R (nI layer) (m1 + (k + 1) + 1) (hn, hv, nI l.length, nI w, 0) (on, ov, nI (y :: t).length, nI 30, 0) (nI M) (nI s) = (if w ≤ l.length then (if (match l.getLast? with | none => (0 : Int32) | some z => if pn_lt (pn_key vec aim) z y = true then 1 else 0) = 0 then ((f_Wa_lookAround N (hn, hv, nI l.length, nI w, 0) (on1, ov1, nI t.length, nI 30, 0) dist (nI M) D R (nI layer) (nI y)).bind fun p13 => f_Wa_walk_8 N dist D R (nI layer) (m1 + k + 1) p13.1 p13.2.1 p13.2.2 (nI (s + 1))) else some (nI (pd_cnt sn 30), (hn, hv, nI l.length, nI w, 0), (on1, ov1, nI t.length, nI 30, 0), nI M)) else ((f_Wa_lookAround N (hn, hv, nI l.length, nI w, 0) (on1, ov1, nI t.length, nI 30, 0) dist (nI M) D R (nI layer) (nI y)).bind fun p13 => f_Wa_walk_8 N dist D R (nI layer) (m1 + k + 1) p13.1 p13.2.1 p13.2.2 (nI (s + 1)))) := by
        rw [show m1 + (k + 1) + 1 = (m1 + k + 1) + 1 from rfl, f_Wa_walk_8, if_neg (show ¬ (30 : Int32) ≤ nI s from nI_ge (b := 30) (by omega) (by omega))]
        unfold f_Rk_size f_Rk_numberAt
        dsimp only
        rw [Option.bind_some, if_neg (show ¬ nI (y :: t).length ≤ 0 from nI_nle (by simp) (by simp; omega)), pz_at0, Option.bind_some, show (0 : Int32).toNatClampNeg = 0 from rfl, on0, p1, Option.bind_some, pl_isFull N (by omega) hw, Option.bind_some]
        simp only [nI_1]
        by_cases cf : w ≤ l.length
        · simp only [if_pos cf]
          rw [if_neg pz_10, pb_at hy N30, pd_cl (show y < 2147483648 by omega), hdist y hy, pl_lastPrecedes (wk_hp N (pn_key vec aim)) hy ll (by omega) hn hv w8, Option.bind_some, pc_ok w3 w4, Option.bind_some]
          rfl
        · simp only [if_neg cf]
          rw [if_pos trivial]
      rw [cls]
      have ref0 : f_Mo_walk_131 N vec R D aim hr (nI layer) (nI w) (m2 + (k + 1) + 1) sn hd op (pn_o (y :: t).head?) = (if l.length = w then (if (match l.getLast? with | none => (0 : Int32) | some z => if pn_lt (pn_key vec aim) z y = true then 1 else 0) = 0 then f_Mo_walk_186 N vec R D aim (nI layer) (nI w) (nI y) (fun a b c _ => ((f_Mo_nearest_open N vec aim c).bind fun p38 => f_Mo_walk_131 N vec R D aim hr (nI layer) (nI w) (m2 + k + 1) a b c p38)) N sn hd (upd op y 0) (nI (7 * (4 * y + layer))) else f_Mo_walk_251 N vec aim sn N hd (upd op y 0) hr (nI l.length) (nI 0)) else f_Mo_walk_186 N vec R D aim (nI layer) (nI w) (nI y) (fun a b c _ => ((f_Mo_nearest_open N vec aim c).bind fun p38 => f_Mo_walk_131 N vec R D aim hr (nI layer) (nI w) (m2 + k + 1) a b c p38)) N sn hd (upd op y 0) (nI (7 * (4 * y + layer)))) := by
        simp only [List.head?_cons, pn_o]
        rw [show m2 + (k + 1) + 1 = (m2 + k + 1) + 1 from rfl, f_Mo_walk_131, if_neg (pn_neg hy), pb_at hy N30, pf_size hN (pn_lt (pn_key vec aim)), w1, Option.bind_some, pd_cl (show y < 2147483648 by omega), pz_n0, pd_4, wk_7]
        by_cases cf : l.length = w
        · rw [if_pos (show nI l.length = nI w by rw [cf]), if_pos cf, pf_farthest_held hN, w1, Option.bind_some]
          cases hd0 : l.getLast? with
          | none =>
            have := List.getLast?_eq_none_iff.mp hd0
            rw [this] at cf
            exact absurd cf (by simp; omega)
          | some z =>
            have hz : z < 30 := ll z (List.mem_of_getLast? hd0)
            simp only [pn_o]
            rw [pn_isNearer (by omega) vec aim hz hy, Option.bind_some, Option.bind_some]
            rfl
        · rw [if_neg (show ¬ nI l.length = nI w from fun q => cf ((nI_eq (by omega) (by omega)).mp q)), if_neg cf]
      rw [ref0]
      by_cases cf : l.length = w
      · rw [if_pos (show w ≤ l.length by omega), if_pos cf]
        by_cases cz : (match l.getLast? with | none => (0 : Int32) | some z => if pn_lt (pn_key vec aim) z y = true then 1 else 0) = 0
        · rw [if_pos cz, if_pos cz]
          exact ⟨S, l', sn', hd3, op', hr3, M', hn', hv', O', e1, e2, e3⟩
        · rw [if_neg cz, if_neg cz]
          obtain ⟨hd4, hr4, g4, g5, g6⟩ := wl_251 hN vec aim sn (upd op y 0) l.length (by omega) l 0 (N - l.length - 1) hd hr w1 (by omega)
          rw [show N - l.length - 1 + l.length + 1 = N by omega] at g4
          exact ⟨pd_cnt sn 30, l, sn, hd4, upd op y 0, hr4, M, hn, hv, _, rfl, g4, hcnt, sl, fun a ha => (w5 a ha).2, w7, w8, fun i hi => by rw [← g6 i hi, Nat.zero_add]⟩
      · rw [if_neg (show ¬ w ≤ l.length by omega), if_neg cf]
        exact ⟨S, l', sn', hd3, op', hr3, M', hn', hv', O', e1, e2, e3⟩
