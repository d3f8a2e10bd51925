/-! PURE: looking around, in step -/
theorem wk_hp (N : Nat) (key : Nat → Int32) : ∀ a b, a < 30 → b < 30 → f_Rk_precedes N 0 (nI a) (key a) (nI b) (key b) = some (if pn_lt key a b = true then 1 else 0) := by
  intro a b ha hb
  rw [pr_prec0 N _ _ ha hb]
  unfold pn_lt
  simp only [decide_eq_true_iff]
theorem so_set_len {lt : Nat → Nat → Bool} {P : Nat → Bool} : ∀ n : Nat, (so_set lt P n).length ≤ n
  | 0 => Nat.le_refl 0
  | n + 1 => by
    have := so_set_len (lt := lt) (P := P) n
    unfold so_set
    by_cases h : P n = true
    · rw [if_pos h, so_len]; omega
    · rw [if_neg h]; omega
theorem wk_cnt {P : Nat → Int32} {x : Nat} (hx : x < 30) (h0 : P x = 0) : pd_cnt (upd P x 1) 30 = pd_cnt P 30 + 1 := by
  rw [pf_cnt (pn_lt (fun _ => 0)), pf_cnt (pn_lt (fun _ => 0)), pf_add (pn_T _) hx h0 pz_10, so_len]
theorem wk_cnt30 (P : Nat → Int32) : pd_cnt P 30 ≤ 30 := by
  rw [pf_cnt (pn_lt (fun _ => 0))]
  exact so_set_len _
theorem wk_x4 (n j : Nat) : nI n * 4 + nI j = nI (4 * n + j) := by
  rw [show (4 : Int32) = nI 4 from rfl, pk_mul, nI_add, Nat.mul_comm]
theorem wk_x7 (x i : Nat) : nI x * 7 + nI i = nI (7 * x + i) := by
  rw [show (7 : Int32) = nI 7 from rfl, pk_mul, nI_add, Nat.mul_comm]
theorem wk_7x (x i : Nat) : 7 * nI x + nI i = nI (7 * x + i) := by
  rw [show (7 : Int32) = nI 7 from rfl, pk_mul, nI_add]
theorem wk_7 (x : Nat) : 7 * nI x = nI (7 * x) := by
  rw [show (7 : Int32) = nI 7 from rfl, pk_mul]
def wk_R (key : Nat → Int32) (w : Nat) (P : Nat → Prop) (sn hd op : Nat → Int32) (l o : List Nat) (M : Nat) (hn hv on ov : Nat → Int32) : Prop :=
  so_set (pn_lt key) (pn_P hd) 30 = l ∧ so_set (pn_lt key) (pn_P op) 30 = o ∧ M < 2 ^ 30 ∧ (∀ a, a < 30 → (M.testBit a = true ↔ sn a ≠ 0)) ∧ (∀ a ∈ l, sn a ≠ 0 ∧ P a) ∧ (∀ a ∈ o, sn a ≠ 0 ∧ P a) ∧ l.length ≤ w ∧ pr_A key l hn hv ∧ pr_A key o on ov
theorem wk_look {N : Nat} (hN : 31 ≤ N) {vec aim dist D R : Nat → Int32} {P : Nat → Prop} {w : Nat} (hw0 : 0 < w) (hw : w ≤ 30) (hdist : ∀ a, a < 30 → dist a = pn_key vec aim a) {n layer d : Nat} (hn30 : n < 30) (hlay : layer < 4) (hd7 : d ≤ 7) (hD : D (4 * n + layer) = nI d) (e : Nat → Nat) (hR : ∀ i, i < d → R (7 * (4 * n + layer) + i) = nI (e i) ∧ e i < 30 ∧ P (e i)) :
    ∀ (k i m1 : Nat) (sn hd op : Nat → Int32) (l o : List Nat) (M : Nat) (hn hv on ov : Nat → Int32), i + k = d → wk_R (pn_key vec aim) w P sn hd op l o M hn hv on ov →
    ∃ sn' hd' op' l' o' M' hn' hv' on' ov', f_Wa_lookAround_3 N dist D R (nI layer) (nI n) (m1 + k + 1) (hn, hv, nI l.length, nI w, 0) (on, ov, nI o.length, nI 30, 0) (nI M) (nI i) = some ((hn', hv', nI l'.length, nI w, 0), (on', ov', nI o'.length, nI 30, 0), nI M') ∧ (∀ kk m2, f_Mo_walk_186 N vec R D aim (nI layer) (nI w) (nI n) kk (m2 + k + 1) sn hd op (nI (7 * (4 * n + layer) + i)) = kk sn' hd' op' (nI (7 * (4 * n + layer) + d))) ∧ wk_R (pn_key vec aim) w P sn' hd' op' l' o' M' hn' hv' on' ov' ∧ o'.length + pd_cnt sn 30 ≤ o.length + pd_cnt sn' 30 := by
  have N30 : 30 < 2147483648 := by decide
  have N120 : 120 < 2147483648 := by decide
  have N840 : 840 < 2147483648 := by decide
  intro k
  induction k with
  | zero =>
    intro i m1 sn hd op l o M hn hv on ov hi hW
    refine ⟨sn, hd, op, l, o, M, hn, hv, on, ov, ?_, ?_, hW, Nat.le_refl _⟩
    · rw [f_Wa_lookAround_3]
      unfold f_Li_degree
      rw [wk_x4, pb_at (by omega) N120, pd_cl (by omega), hD, Option.bind_some, if_pos (nI_le (by omega) (by omega))]
    · intro kk m2
      rw [f_Mo_walk_186, pd_4, pb_at (by omega) N120, pd_cl (show 4 * n + layer < 2147483648 by omega), hD, wk_7x, if_pos (nI_le (by omega) (by omega)), show i = d by omega]
  | succ k ih =>
    intro i m1 sn hd op l o M hn hv on ov hi hW
    obtain ⟨w1, w2, w3, w4, w5, w6, w7, w8, w9⟩ := hW
    obtain ⟨r1, r2, r3⟩ := hR i (by omega)
    have cls : f_Wa_lookAround_3 N dist D R (nI layer) (nI n) (m1 + (k + 1) + 1) (hn, hv, nI l.length, nI w, 0) (on, ov, nI o.length, nI 30, 0) (nI M) (nI i) = ((f_Nd_isIn N (nI M) (nI (e i))).bind fun p4 => (if p4 = 0 then ((f_Rk_add N hn hv (nI l.length) (nI w) 0 (nI (e i)) (dist (e i))).bind fun p8 => (if p8.1 = 0 then (f_Wa_lookAround_3 N dist D R (nI layer) (nI n) (m1 + k + 1) (p8.2.1, p8.2.2.1, p8.2.2.2, nI w, 0) (on, ov, nI o.length, nI 30, 0) (nI (M ||| 2 ^ (e i))) (nI (i + 1))) else ((f_Rk_add N on ov (nI o.length) (nI 30) 0 (nI (e i)) (dist (e i))).bind fun p12 => (f_Wa_lookAround_3 N dist D R (nI layer) (nI n) (m1 + k + 1) (p8.2.1, p8.2.2.1, p8.2.2.2, nI w, 0) (p12.2.1, p12.2.2.1, p12.2.2.2, nI 30, 0) (nI (M ||| 2 ^ (e i))) (nI (i + 1)))))) else (f_Wa_lookAround_3 N dist D R (nI layer) (nI n) (m1 + k + 1) (hn, hv, nI l.length, nI w, 0) (on, ov, nI o.length, nI 30, 0) (nI M) (nI (i + 1))))) := by
      rw [show m1 + (k + 1) + 1 = (m1 + k + 1) + 1 from rfl, f_Wa_lookAround_3]
      unfold f_Li_degree f_Li_linked
      rw [wk_x4, pb_at (show 4 * n + layer < 120 by omega) N120, pd_cl (show 4 * n + layer < 2147483648 by omega), hD, Option.bind_some, if_neg (nI_ge (show i < d by omega) (by omega)), wk_x7, pb_at (show 7 * (4 * n + layer) + i < 840 by omega) N840, pd_cl (show 7 * (4 * n + layer) + i < 2147483648 by omega), r1, Option.bind_some]
      simp only [pb_at r2 N30, pd_cl (show e i < 2147483648 by omega), pm_set r2, nI_1]
    have ref : ∀ kk m2, f_Mo_walk_186 N vec R D aim (nI layer) (nI w) (nI n) kk (m2 + (k + 1) + 1) sn hd op (nI (7 * (4 * n + layer) + i)) = ((f_Mo_look N vec aim sn hd op (nI (e i)) (nI w)).bind fun p52 => (f_Mo_walk_186 N vec R D aim (nI layer) (nI w) (nI n) kk (m2 + k + 1) p52.1 p52.2.1 p52.2.2 (nI (7 * (4 * n + layer) + (i + 1))))) := by
      intro kk m2
      rw [show m2 + (k + 1) + 1 = (m2 + k + 1) + 1 from rfl, f_Mo_walk_186, pd_4, pb_at (show 4 * n + layer < 120 by omega) N120, pd_cl (show 4 * n + layer < 2147483648 by omega), hD, wk_7x, if_neg (nI_ge (show 7 * (4 * n + layer) + i < 7 * (4 * n + layer) + d by omega) (by omega)), pb_at (show 7 * (4 * n + layer) + i < 840 by omega) N840, pd_cl (show 7 * (4 * n + layer) + i < 2147483648 by omega), r1, nI_1]
      rfl
    rw [cls]
    rw [pm_isIn N w3 r2, Option.bind_some]
    by_cases c : M.testBit (e i) = true
    · simp only [if_pos c]
      rw [if_neg pz_10]
      have hsx := (w4 _ r2).mp c
      obtain ⟨sn', hd', op', l', o', M', hn', hv', on', ov', h1, h2, h3, h4⟩ := ih (i + 1) m1 sn hd op l o M hn hv on ov (by omega) ⟨w1, w2, w3, w4, w5, w6, w7, w8, w9⟩
      refine ⟨sn', hd', op', l', o', M', hn', hv', on', ov', h1, ?_, h3, h4⟩
      intro kk m2
      rw [ref, pw_seen vec aim sn hd op (nI w) r2 hsx, Option.bind_some]
      exact h2 kk m2
    · simp only [if_neg c]
      rw [if_pos trivial]
      have hsx : sn (e i) = 0 := Decidable.byContradiction fun q => c ((w4 _ r2).mpr q)
      have hxl : e i ∉ l := fun q => (w5 _ q).1 hsx
      have hxo : e i ∉ o := fun q => (w6 _ q).1 hsx
      have hhx : hd (e i) = 0 := Decidable.byContradiction fun q => hxl (by rw [← w1]; exact (pw_set_mem r2).mpr q)
      have hox : op (e i) = 0 := Decidable.byContradiction fun q => hxo (by rw [← w2]; exact (pw_set_mem r2).mpr q)
      have T := pn_T (pn_key vec aim)
      have sl : so_ok (pn_lt (pn_key vec aim)) l := by rw [← w1]; exact so_set_ok T _
      have so : so_ok (pn_lt (pn_key vec aim)) o := by rw [← w2]; exact so_set_ok T _
      have ll : ∀ a ∈ l, a < 30 := fun a ha => by rw [← w1] at ha; exact (so_set_mem.mp ha).1
      have lo : ∀ a ∈ o, a < 30 := fun a ha => by rw [← w2] at ha; exact (so_set_mem.mp ha).1
      have ol : o.length < 30 := by
        have := so_set_len (lt := pn_lt (pn_key vec aim)) (P := pn_P (upd op (e i) 1)) 30
        rw [pf_add T r2 hox pz_10, w2, so_len] at this
        omega
      obtain ⟨hd', op', q1, q2, q3⟩ := pw_look hN vec aim sn hd op r2 hw0 hw w1 w2 w7 hsx hhx hox
      obtain ⟨hn', hv', a1, a2⟩ := pa_ok hN T (wk_hp N (pn_key vec aim)) r2 ll hw w7 sl hn hv w8
      obtain ⟨on', ov', b1, b2⟩ := pa_ok (room := 30) hN T (wk_hp N (pn_key vec aim)) r2 lo (Nat.le_refl _) (by omega) so on ov w9
      have opa : pa_add (pn_lt (pn_key vec aim)) 30 (e i) o = (true, so_ins (pn_lt (pn_key vec aim)) (e i) o) := by unfold pa_add; rw [if_pos ol]
      rw [opa] at b1 b2
      rw [hdist _ r2, a1, Option.bind_some]
      have hM' : M ||| 2 ^ (e i) < 2 ^ 30 := pm_set_lt w3 r2
      have hb' : ∀ a, a < 30 → ((M ||| 2 ^ (e i)).testBit a = true ↔ upd sn (e i) 1 a ≠ 0) := by
        intro a ha
        rw [pm_set_bit]
        by_cases ee : a = e i
        · subst ee
          rw [pk_us]
          simp [pz_10]
        · rw [pk_un ee]
          have : ¬ e i = a := fun q => ee q.symm
          simp [this, w4 a ha]
      have mem2 : ∀ a, a ∈ (pa_add (pn_lt (pn_key vec aim)) w (e i) l).2 → a = e i ∨ a ∈ l := by
        intro a ha
        unfold pa_add at ha
        by_cases c2 : l.length < w
        · rw [if_pos c2] at ha
          exact so_mem.mp ha
        · rw [if_neg c2] at ha
          cases hd0 : l.getLast? with
          | none => rw [hd0] at ha; exact Or.inr ha
          | some y =>
            rw [hd0] at ha
            simp only at ha
            by_cases d2 : pn_lt (pn_key vec aim) (e i) y = true
            · rw [if_pos d2] at ha
              rcases so_mem.mp ha with q | q
              · exact Or.inl q
              · exact Or.inr ((List.dropLast_sublist l).subset q)
            · rw [if_neg d2] at ha
              exact Or.inr ha
      have len2 : (pa_add (pn_lt (pn_key vec aim)) w (e i) l).2.length ≤ w := by
        unfold pa_add
        by_cases c2 : l.length < w
        · rw [if_pos c2, so_len]; omega
        · rw [if_neg c2]
          cases hd0 : l.getLast? with
          | none => exact w7
          | some y =>
            by_cases d2 : pn_lt (pn_key vec aim) (e i) y = true
            · simp only [if_pos d2]
              rw [so_len, List.length_dropLast]
              have := (pa_last hd0).2
              omega
            · simp only [if_neg d2]
              exact w7
      have upn : ∀ a, sn a ≠ 0 → upd sn (e i) 1 a ≠ 0 := by
        intro a ha
        by_cases ee : a = e i
        · subst ee; rw [pk_us]; exact pz_10
        · rw [pk_un ee]; exact ha
      have m5 : ∀ a ∈ (pa_add (pn_lt (pn_key vec aim)) w (e i) l).2, upd sn (e i) 1 a ≠ 0 ∧ P a := by
        intro a ha
        rcases mem2 a ha with q | q
        · subst q; rw [pk_us]; exact ⟨pz_10, r3⟩
        · exact ⟨upn a (w5 a q).1, (w5 a q).2⟩
      by_cases c3 : (pa_add (pn_lt (pn_key vec aim)) w (e i) l).1 = true
      · simp only [if_pos c3]
        rw [if_neg pz_10, b1, Option.bind_some]
        rw [if_pos c3] at q3
        obtain ⟨sn2, hd2, op2, l2, o2, M2, hn2, hv2, on2, ov2, h1, h2, h3, h4⟩ := ih (i + 1) m1 (upd sn (e i) 1) hd' op' _ _ (M ||| 2 ^ (e i)) hn' hv' on' ov' (by omega) ⟨q2, q3, hM', hb', m5, fun a ha => by
          rcases so_mem.mp ha with q | q
          · subst q; rw [pk_us]; exact ⟨pz_10, r3⟩
          · exact ⟨upn a (w6 a q).1, (w6 a q).2⟩, len2, a2, b2⟩
        refine ⟨sn2, hd2, op2, l2, o2, M2, hn2, hv2, on2, ov2, h1, ?_, h3, ?_⟩
        · intro kk m2
          rw [ref, q1, Option.bind_some]
          exact h2 kk m2
        · rw [wk_cnt r2 hsx, so_len] at h4
          omega
      · simp only [if_neg c3]
        rw [if_pos trivial]
        rw [if_neg c3] at q3
        obtain ⟨sn2, hd2, op2, l2, o2, M2, hn2, hv2, on2, ov2, h1, h2, h3, h4⟩ := ih (i + 1) m1 (upd sn (e i) 1) hd' op' _ _ (M ||| 2 ^ (e i)) hn' hv' on ov (by omega) ⟨q2, q3, hM', hb', m5, fun a ha => ⟨upn a (w6 a ha).1, (w6 a ha).2⟩, len2, a2, w9⟩
        refine ⟨sn2, hd2, op2, l2, o2, M2, hn2, hv2, on2, ov2, h1, ?_, h3, ?_⟩
        · intro kk m2
          rw [ref, q1, Option.bind_some]
          exact h2 kk m2
        · rw [wk_cnt r2 hsx] at h4
          omega
