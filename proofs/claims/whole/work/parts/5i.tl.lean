/-! PURE: to link a node in a layer, in step -/
def tl_I (P : Nat → Prop) (n layer : Nat) (q : List Nat) (D R : Nat → Int32) (i : Nat) : Prop :=
  ti_row D R (4 * n + layer) q ∧ ∀ o, P o → o < 30 ∧ o ≠ n ∧ ∃ u, ti_row D R (4 * o + layer) u ∧ u.Nodup ∧ u.length ≤ ti_most layer ∧ (∀ a ∈ u, P a ∨ a = n) ∧ (n ∈ u → o ∈ q.take i)
def tl_F (D R D' R' : Nat → Int32) (layer : Nat) : Prop := ∀ x, x % 4 ≠ layer → D' x = D x ∧ ∀ i, i < 7 → R' (7 * x + i) = R (7 * x + i)
theorem tl_row {D R D' R' : Nat → Int32} {x : Nat} {u : List Nat} (h : ti_row D R x u) (hu : u.length ≤ 7) (h1 : D' x = D x) (h2 : ∀ i, i < 7 → R' (7 * x + i) = R (7 * x + i)) : ti_row D' R' x u :=
  ⟨h1.trans h.1, fun i hi => (h2 i (by omega)).trans (h.2 i hi)⟩
theorem tl_step {P : Nat → Prop} {n layer : Nat} {q : List Nat} {D R D' R' : Nat → Int32} {i o : Nat} (hl : layer < 4) (hq6 : q.length ≤ 6) (hI : tl_I P n layer q D R i) (hi : i < q.length) (ho : q.getD i 0 = o) (hP : P o) (hoff : ∀ x, x ≠ 4 * o + layer → D' x = D x ∧ ∀ i, i < 7 → R' (7 * x + i) = R (7 * x + i)) {w : List Nat} (hw : ti_row D' R' (4 * o + layer) w) (hnd : w.Nodup) (hlen : w.length ≤ ti_most layer) (hm : ∀ a ∈ w, P a ∨ a = n) : tl_I P n layer q D' R' (i + 1) := by
  obtain ⟨h1, h2⟩ := hI
  have hon := (h2 o hP).2.1
  have m6 := (ti_most6 layer).1
  refine ⟨tl_row h1 (by omega) (hoff _ (by omega)).1 (hoff _ (by omega)).2, fun b hb => ?_⟩
  obtain ⟨g1, g2, u, g3, g4, g5, g6, g7⟩ := h2 b hb
  refine ⟨g1, g2, ?_⟩
  by_cases e : b = o
  · subst e
    refine ⟨w, hw, hnd, hlen, hm, fun _ => ?_⟩
    have hg : q.getD i 0 = q[i]'hi := by rw [List.getD_eq_getElem?_getD, List.getElem?_eq_getElem hi]; rfl
    rw [← List.take_append_getElem hi, List.mem_append, List.mem_singleton, ← hg, ho]
    exact Or.inr rfl
  · have hx : 4 * b + layer ≠ 4 * o + layer := by omega
    refine ⟨u, tl_row g3 (by omega) (hoff _ hx).1 (hoff _ hx).2, g4, g5, g6, fun h => ?_⟩
    have := g7 h
    rw [← List.take_append_getElem hi, List.mem_append]
    exact Or.inl this
theorem tl_catrow {D R : Nat → Int32} {x n : Nat} {u : List Nat} (h : ti_row D R x u) : ti_row (upd D x (nI (u.length + 1))) (upd R (7 * x + u.length) (nI n)) x (u ++ [n]) := by
  refine ⟨by rw [pk_us, List.length_append, List.length_singleton], fun i hi => ?_⟩
  rw [List.length_append, List.length_singleton] at hi
  by_cases e : i = u.length
  · subst e
    rw [pk_us, List.getD_eq_getElem?_getD, List.getElem?_append_right (Nat.le_refl _), Nat.sub_self]
    rfl
  · rw [pk_un (by omega), h.2 i (by omega), List.getD_eq_getElem?_getD, List.getD_eq_getElem?_getD, List.getElem?_append_left (by omega)]
theorem tl_loop {N : Nat} (hN : 64 ≤ N) {V : Nat → Nat → Int32} {vec : Nat → Int32} (hV : ch_V V vec) {P : Nat → Prop} {n layer : Nat} (hn : n < 30) (hl : layer < 4) {q : List Nat} (hqP : ∀ a ∈ q, P a) (hqn : q.Nodup) (hq6 : q.length ≤ 6) (ord lev que : Nat → Int32) (sz : Int32) :
    ∀ (r : List Nat) (i m1 m2 : Nat) (D R : Nat → Int32) (C : T_Ch) (K : T_Rk) (op ch pk pool aim : Nat → Int32) (picks pools : Int32), i ≤ q.length → q.drop i = r → tl_I P n layer q D R i →
    ∃ D' R' C' K' op' ch' pk' pool' aim' picks' pools', f_Gr_link_32 N V (nI n) (nI layer) (m1 + r.length + 1) (ord, lev, D, R, que, sz) C K (nI i) = some ((ord, lev, D', R', que, sz), C', K') ∧ f_Mo_tie_64 N vec (nI n) (nI layer) (m2 + r.length + 1) op ch pk pool R D aim picks pools (nI (ti_most layer)) (nI i) = some (R', D', aim', op', ch', pk', pool', picks', pools') ∧ tl_I P n layer q D' R' q.length ∧ tl_F D R D' R' layer := by
  have m6 := ti_most6 layer
  have N120 : 120 < 2147483648 := by decide
  have N840 : 840 < 2147483648 := by decide
  intro r
  induction r with
  | nil =>
    intro i m1 m2 D R C K op ch pk pool aim picks pools hi h hI
    have hle := ch_nil h
    have hie : i = q.length := by omega
    refine ⟨D, R, C, K, op, ch, pk, pool, aim, picks, pools, ?_, ?_, hie ▸ hI, fun x _ => ⟨rfl, fun _ _ => rfl⟩⟩
    · rw [f_Gr_link_32]
      unfold f_Li_degree
      dsimp only
      rw [wk_x4, pb_at (show 4 * n + layer < 120 by omega) N120, pd_cl (show 4 * n + layer < 2147483648 by omega), hI.1.1, Option.bind_some, if_pos (nI_le hle (by omega))]
    · rw [f_Mo_tie_64, pd_4, pb_at (show 4 * n + layer < 120 by omega) N120, pd_cl (show 4 * n + layer < 2147483648 by omega), hI.1.1, if_pos (nI_le hle (by omega))]
  | cons o r ih =>
    intro i m1 m2 D R C K op ch pk pool aim picks pools hi h hI
    obtain ⟨d1, d2, d3, d4⟩ := ch_dr h
    have hPo := hqP o d4
    obtain ⟨ho, hon, u, u1, u2, u3, u4, u5⟩ := hI.2 o hPo
    have hRn : R (7 * (4 * n + layer) + i) = nI o := by rw [hI.1.2 i d1, d2]
    have hnu : n ∉ u := fun qq => by
      have q2 := u5 qq
      obtain ⟨j, hj, hj2⟩ := List.mem_iff_getElem.mp q2
      rw [List.length_take] at hj
      have hg : q.getD i 0 = q[i]'d1 := by rw [List.getD_eq_getElem?_getD, List.getElem?_eq_getElem d1]; rfl
      rw [List.getElem_take, ← d2, hg] at hj2
      exact (List.pairwise_iff_getElem.mp (List.nodup_iff_pairwise_ne.mp hqn) j i (by omega) d1 (by omega)) hj2
    have hrow' := tl_catrow (n := n) u1
    have hnd' : (u ++ [n]).Nodup := List.nodup_append.mpr ⟨u2, List.nodup_cons.mpr ⟨List.not_mem_nil, List.nodup_nil⟩, fun a ha b hb => by rw [List.mem_singleton.mp hb]; exact fun e => hnu (by rw [← e]; exact ha)⟩
    have hlen' : (u ++ [n]).length = u.length + 1 := by rw [List.length_append, List.length_singleton]
    have hmem' : ∀ a ∈ u ++ [n], P a ∨ a = n := fun a ha => (List.mem_append.mp ha).elim (u4 a) (fun q => Or.inr (List.mem_singleton.mp q))
    have hlt' : ∀ a ∈ u ++ [n], a < 30 := fun a ha => (hmem' a ha).elim (fun q => (hI.2 a q).1) (fun q => by rw [q]; exact hn)
    have hoff1 : ∀ x, x ≠ 4 * o + layer → upd D (4 * o + layer) (nI (u.length + 1)) x = D x ∧ ∀ i, i < 7 → upd R (7 * (4 * o + layer) + u.length) (nI n) (7 * x + i) = R (7 * x + i) := fun x hx => ⟨pk_un hx, fun i hi => pk_un (by omega)⟩
    have cls : f_Gr_link_32 N V (nI n) (nI layer) (m1 + (o :: r).length + 1) (ord, lev, D, R, que, sz) C K (nI i) = (if nI (u.length + 1) ≤ nI (ti_most layer) then (f_Gr_link_32 N V (nI n) (nI layer) (m1 + r.length + 1) (ord, lev, upd D (4 * o + layer) (nI (u.length + 1)), upd R (7 * (4 * o + layer) + u.length) (nI n), que, sz) C K (nI (i + 1))) else ((f_Gr_shorten N (ord, lev, upd D (4 * o + layer) (nI (u.length + 1)), upd R (7 * (4 * o + layer) + u.length) (nI n), que, sz) C K V (nI o) (nI layer)).bind fun p14 => (f_Gr_link_32 N V (nI n) (nI layer) (m1 + r.length + 1) p14.1 p14.2.1 p14.2.2 (nI (i + 1))))) := by
      rw [List.length_cons, show m1 + (r.length + 1) + 1 = (m1 + r.length + 1) + 1 from rfl, f_Gr_link_32]
      unfold f_Li_degree f_Li_linked
      dsimp only
      rw [wk_x4, pb_at (show 4 * n + layer < 120 by omega) N120, pd_cl (show 4 * n + layer < 2147483648 by omega), hI.1.1, Option.bind_some, if_neg (nI_ge d1 (by omega)), wk_x7, pb_at (show 7 * (4 * n + layer) + i < 840 by omega) N840, pd_cl (show 7 * (4 * n + layer) + i < 2147483648 by omega), hRn, Option.bind_some, ti_append ho hl (show u.length < 7 by omega) u1.1, Option.bind_some]
      dsimp only
      rw [wk_x4, pb_at (show 4 * o + layer < 120 by omega) N120, pd_cl (show 4 * o + layer < 2147483648 by omega), pk_us, Option.bind_some, ti_mostI N hl, Option.bind_some, nI_1]
    have ref : f_Mo_tie_64 N vec (nI n) (nI layer) (m2 + (o :: r).length + 1) op ch pk pool R D aim picks pools (nI (ti_most layer)) (nI i) = (if nI (ti_most layer) < nI (u.length + 1) then ((f_Mo_aimAt N vec aim (nI o)).bind fun p22 => (f_Mo_tie_169 N (nI n) (nI layer) R D (nI i) (fun vak0_17_26 v7_26 => ((f_Mo_choose N vec p22 op ch pk vak0_17_26 (nI (u.length + 1)) (nI (ti_most layer))).bind fun p28 => ((f_Mo_take N (upd R (7 * (4 * o + layer) + u.length) (nI n)) (upd D (4 * o + layer) (nI (u.length + 1))) p28.2.2.1 p28.2.2.2 (nI (4 * o + layer))).bind fun p30 => (f_Mo_tie_64 N vec (nI n) (nI layer) (m2 + r.length + 1) p28.1 p28.2.1 p28.2.2.1 vak0_17_26 p30.1 p30.2 p22 p28.2.2.2 (nI (u.length + 1)) (nI (ti_most layer)) (nI (i + 1)))))) N pool 0)) else (f_Mo_tie_64 N vec (nI n) (nI layer) (m2 + r.length + 1) op ch pk pool (upd R (7 * (4 * o + layer) + u.length) (nI n)) (upd D (4 * o + layer) (nI (u.length + 1))) aim picks pools (nI (ti_most layer)) (nI (i + 1)))) := by
      rw [List.length_cons, show m2 + (r.length + 1) + 1 = (m2 + r.length + 1) + 1 from rfl, f_Mo_tie_64]
      simp only [pd_4, pb_at (show 4 * n + layer < 120 by omega) N120, pd_cl (show 4 * n + layer < 2147483648 by omega), hI.1.1, if_neg (nI_ge d1 (by omega)), wk_7x, pb_at (show 7 * (4 * n + layer) + i < 840 by omega) N840, pd_cl (show 7 * (4 * n + layer) + i < 2147483648 by omega), hRn, pb_at (show 4 * o + layer < 120 by omega) N120, pd_cl (show 4 * o + layer < 2147483648 by omega), u1.1, pb_at (show 7 * (4 * o + layer) + u.length < 840 by omega) N840, pd_cl (show 7 * (4 * o + layer) + u.length < 2147483648 by omega), pk_us, nI_1]
    rw [cls, ref]
    by_cases c : u.length + 1 ≤ ti_most layer
    · rw [if_pos (nI_le c (by omega)), if_neg (nI_nlt c (by omega))]
      obtain ⟨D', R', C', K', op', ch', pk', pool', aim', picks', pools', e1, e2, e3, e4⟩ := ih (i + 1) m1 m2 _ _ C K op ch pk pool aim picks pools d1 d3 (tl_step hl hq6 hI d1 d2 hPo hoff1 hrow' hnd' (by omega) hmem')
      exact ⟨D', R', C', K', op', ch', pk', pool', aim', picks', pools', e1, e2, e3, fun x hx => ⟨(e4 x hx).1.trans (hoff1 x (by omega)).1, fun j hj => ((e4 x hx).2 j hj).trans ((hoff1 x (by omega)).2 j hj)⟩⟩
    · rw [if_neg (nI_ge (by omega) (by omega)), if_pos (nI_lt (by omega) (by omega))]
      obtain ⟨aim2, f1, f2⟩ := ti_aimAt hN vec aim ho
      have hkey : ∀ a, a < 30 → ch_bt vec o a = pn_key vec aim2 a := fun a _ => by rw [ti_key vec aim2 o f2 a, ti_sym]
      obtain ⟨c', kn', kv', g1, g2, g3, g4, g5⟩ := ti_13 hN hV ho hl hkey hrow' hnd' hlt' (by omega) ord lev que sz C (u ++ [n]).length 0 (N - (u ++ [n]).length - 1) [] K.1 K.2.1 (by omega) List.Pairwise.nil (fun a => by simp) rfl (fun j hj => absurd hj (Nat.not_lt_zero _))
      rw [show N - (u ++ [n]).length - 1 + (u ++ [n]).length + 1 = N by omega] at g1
      rw [f1, Option.bind_some]
      obtain ⟨pool2, p1, p2⟩ := ti_169 (N := N) (fun vak0_17_26 v7_26 => ((f_Mo_choose N vec aim2 op ch pk vak0_17_26 (nI (u.length + 1)) (nI (ti_most layer))).bind fun p28 => ((f_Mo_take N (upd R (7 * (4 * o + layer) + u.length) (nI n)) (upd D (4 * o + layer) (nI (u.length + 1))) p28.2.2.1 p28.2.2.2 (nI (4 * o + layer))).bind fun p30 => (f_Mo_tie_64 N vec (nI n) (nI layer) (m2 + r.length + 1) p28.1 p28.2.1 p28.2.2.1 vak0_17_26 p30.1 p30.2 aim2 p28.2.2.2 (nI (u.length + 1)) (nI (ti_most layer)) (nI (i + 1)))))) hn hl ho (by omega) hRn u1.1 (u := u ++ [n]) (by omega) hlen' (fun j hj => hrow'.2 j hj) (u ++ [n]).length 0 (N - (u ++ [n]).length - 1) pool (by omega) (fun a ha => absurd ha (Nat.not_lt_zero _))
      rw [show N - (u ++ [n]).length - 1 + (u ++ [n]).length + 1 = N by omega, nI_0] at p1
      rw [p1]
      obtain ⟨w, row2, M2, op2, ch2, pk2, w1, w2, w3, w4, w5, w6, w7⟩ := cr_ok hN hV g2 (fun a ha => hlt' a ((g3 a).mp ha)) (by omega) (fun a => (g3 a).symm) g4.symm g5 p2 m6.1 C.1 op ch pk
      have hw6 : w.length ≤ 6 := by omega
      have hD2 : upd (upd D (4 * o + layer) (nI (u.length + 1))) (4 * o + layer) (nI w.length) = upd D (4 * o + layer) (nI w.length) := ti_uu
      have hoff2 : ∀ x, x ≠ 4 * o + layer → upd (upd D (4 * o + layer) (nI (u.length + 1))) (4 * o + layer) (nI w.length) x = D x ∧ ∀ i, i < 7 → ti_w (upd R (7 * (4 * o + layer) + u.length) (nI n)) (4 * o + layer) w w.length (7 * x + i) = R (7 * x + i) := fun x hx => ⟨by rw [pk_un hx, pk_un hx], fun j hj => by rw [ti_wG, if_neg (by omega), pk_un (by omega)]⟩
      have hrow2 : ti_row (upd (upd D (4 * o + layer) (nI (u.length + 1))) (4 * o + layer) (nI w.length)) (ti_w (upd R (7 * (4 * o + layer) + u.length) (nI n)) (4 * o + layer) w w.length) (4 * o + layer) w := ⟨pk_us, fun j hj => by rw [ti_wG, if_pos (by omega), Nat.add_sub_cancel_left]⟩
      obtain ⟨D', R', C', K', op', ch', pk', pool', aim', picks', pools', e1, e2, e3, e4⟩ := ih (i + 1) m1 m2 _ _ (row2, nI w.length, M2) (kn', kv', nI c'.length, nI 30, 0) op2 ch2 pk2 pool2 aim2 (nI w.length) (nI (u.length + 1)) d1 d3 (tl_step hl hq6 hI d1 d2 hPo hoff2 hrow2 w5 w7 (fun a ha => hmem' a ((g3 a).mp (w6 a ha))))
      refine ⟨D', R', C', K', op', ch', pk', pool', aim', picks', pools', ?_, ?_, e3, fun x hx => ⟨(e4 x hx).1.trans (hoff2 x (by omega)).1, fun j hj => ((e4 x hx).2 j hj).trans ((hoff2 x (by omega)).2 j hj)⟩⟩
      · unfold f_Gr_shorten
        rw [show f_Rk_start N 30 0 = some (0, nI 30, 0) from (pl_start N (r := 30) (by decide)).1, Option.bind_some]
        rw [show f_Gr_shorten_13 N (ord, lev, upd D (4 * o + layer) (nI (u.length + 1)), upd R (7 * (4 * o + layer) + u.length) (nI n), que, sz) C V (nI o) (nI layer) N (K.1, K.2.1, (0, nI 30, (0 : Int32)).1, (0, nI 30, (0 : Int32)).2.1, (0, nI 30, (0 : Int32)).2.2) 0 = _ from g1, w1, Option.bind_some, ti_replace hN ho hl hw6 w3, Option.bind_some, Option.bind_some]
        exact e1
      · rw [hlen'] at w2
        rw [w2, Option.bind_some, ti_take hN (show 4 * o + layer < 120 by omega) hw6 w4, Option.bind_some]
        exact e2
