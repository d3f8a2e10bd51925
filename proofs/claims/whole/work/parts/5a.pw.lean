/-! PURE: one look of the reference is one add to a ranking -/
theorem pz_30 : (30 : Int32) = nI 30 := rfl
theorem pz_4 : (4 : Int32) = nI 4 := rfl
theorem pz_0 : (0 : Int32) = nI 0 := rfl
theorem pz_n1 : vp_nar .boolean 1 = 1 := by decide
theorem pz_n0 : vp_nar .boolean 0 = 0 := by decide
theorem pz_10 : (1 : Int32) ≠ 0 := by decide
theorem pw_fil {lt : Nat → Nat → Bool} (T : so_T lt) {x y : Nat} {l : List Nat} (hs : so_ok lt l) (h : l.getLast? = some y) (hx : x ∉ l) : (so_ins lt x l).filter (fun a => a != y) = so_ins lt x l.dropLast := by
  obtain ⟨t, rfl⟩ := List.getLast?_eq_some_iff.mp h
  have hs2 := List.pairwise_append.mp hs
  have hyt : y ∉ t := fun q => by
    have := hs2.2.2 y q y List.mem_cons_self
    rw [T.1] at this
    cases this
  rw [List.dropLast_concat]
  have hxt : x ∉ t := fun q => hx (List.mem_append_left _ q)
  have hxy : x ≠ y := fun e => hx (by rw [e]; exact List.mem_append_right _ List.mem_cons_self)
  refine so_uniq T (List.Pairwise.filter _ (so_ins_ok T hs hx)) (so_ins_ok T hs2.1 hxt) (fun a => ?_)
  rw [List.mem_filter, so_mem, so_mem, List.mem_append, List.mem_singleton, bne_iff_ne]
  constructor
  · rintro ⟨h1 | h1 | h1, h2⟩
    · exact Or.inl h1
    · exact Or.inr h1
    · exact absurd h1 h2
  · rintro (h1 | h1)
    · exact ⟨Or.inl h1, by rw [h1]; exact hxy⟩
    · exact ⟨Or.inr (Or.inl h1), fun e => hyt (by rw [← e]; exact h1)⟩
theorem pa_full {lt : Nat → Nat → Bool} {room x y : Nat} {l : List Nat} (c : ¬ l.length < room) (h : l.getLast? = some y) : pa_add lt room x l = if lt x y = true then (true, so_ins lt x l.dropLast) else (false, l) := by
  unfold pa_add
  rw [if_neg c, h]
theorem pw_set_mem {lt : Nat → Nat → Bool} {P : Nat → Int32} {x : Nat} (hx : x < 30) : x ∈ so_set lt (pn_P P) 30 ↔ P x ≠ 0 := by
  rw [so_set_mem]
  unfold pn_P
  rw [decide_eq_true_iff]
  exact ⟨fun h => h.2, fun h => ⟨hx, h⟩⟩
theorem pw_nil {lt : Nat → Nat → Bool} {P : Nat → Int32} {x : Nat} (h : P x = 0) : x ∉ so_set lt (pn_P P) 30 := fun q => by
  have := (so_set_mem.mp q).2
  unfold pn_P at this
  rw [decide_eq_true_iff] at this
  exact this h
theorem pw_look {N : Nat} (hN : 31 ≤ N) (vec aim sn hd op : Nat → Int32) {x w : Nat} {l o : List Nat} (hx : x < 30) (hw0 : 0 < w) (hw : w ≤ 30) (hl : so_set (pn_lt (pn_key vec aim)) (pn_P hd) 30 = l) (ho : so_set (pn_lt (pn_key vec aim)) (pn_P op) 30 = o) (hlw : l.length ≤ w) (h0 : sn x = 0) (h1 : hd x = 0) (h2 : op x = 0) :
    ∃ hd' op', f_Mo_look N vec aim sn hd op (nI x) (nI w) = some (upd sn x 1, hd', op') ∧ so_set (pn_lt (pn_key vec aim)) (pn_P hd') 30 = (pa_add (pn_lt (pn_key vec aim)) w x l).2 ∧ so_set (pn_lt (pn_key vec aim)) (pn_P op') 30 = if (pa_add (pn_lt (pn_key vec aim)) w x l).1 = true then so_ins (pn_lt (pn_key vec aim)) x o else o := by
  have T := pn_T (pn_key vec aim)
  have N31 : 30 < 2147483648 := by decide
  have hxl : x ∉ l := by rw [← hl]; exact pw_nil h1
  have hs : so_ok (pn_lt (pn_key vec aim)) l := by rw [← hl]; exact so_set_ok T _
  have e1 : so_set (pn_lt (pn_key vec aim)) (pn_P (upd hd x 1)) 30 = so_ins (pn_lt (pn_key vec aim)) x l := by rw [pf_add T hx h1 pz_10, hl]
  have e2 : so_set (pn_lt (pn_key vec aim)) (pn_P (upd op x 1)) 30 = so_ins (pn_lt (pn_key vec aim)) x o := by rw [pf_add T hx h2 pz_10, ho]
  unfold f_Mo_look
  simp only [pb_at hx N31, pd_cl (show x < 2147483648 by omega), pz_n1, pz_n0]
  rw [if_pos h0, pf_size hN (pn_lt (pn_key vec aim)), hl, Option.bind_some]
  by_cases c : l.length < w
  · rw [if_neg (fun q => by rw [nI_eq (by omega) (by omega)] at q; omega), pf_size hN (pn_lt (pn_key vec aim)), e1, Option.bind_some, so_len, if_pos (nI_le (by omega) (by omega))]
    refine ⟨_, _, rfl, ?_, ?_⟩
    · rw [e1]; unfold pa_add; rw [if_pos c]
    · rw [e2]; unfold pa_add; rw [if_pos c, if_pos rfl]
  · have hlw2 : l.length = w := by omega
    rw [if_pos (by rw [hlw2]), pf_farthest_held hN, hl, Option.bind_some]
    cases hd0 : l.getLast? with
    | none =>
      have := List.getLast?_eq_none_iff.mp hd0
      rw [this] at hlw2
      exact absurd hlw2 (by simp; omega)
    | some y =>
      rw [pa_full c hd0]
      have hym : y ∈ l := List.mem_of_getLast? hd0
      have hy : y < 30 := by rw [← hl] at hym; exact (so_set_mem.mp hym).1
      simp only [pn_o]
      rw [pn_isNearer (by omega) vec aim hx hy, Option.bind_some]
      by_cases d : pn_lt (pn_key vec aim) x y = true
      · simp only [if_pos d]
        rw [if_neg pz_10, pf_size hN (pn_lt (pn_key vec aim)), e1, Option.bind_some, so_len, if_neg (nI_ge (by omega) (by omega)), pf_farthest_held hN, e1, Option.bind_some, pn_last T hs hxl, hd0]
        simp only [if_neg (so_asym T d), pn_o]
        rw [pb_at hy N31, pd_cl (show y < 2147483648 by omega)]
        refine ⟨_, _, rfl, ?_, ?_⟩
        · rw [pf_del T, e1, pw_fil T hs hd0 hxl]
        · rw [e2, if_pos trivial]
      · simp only [if_neg d]
        rw [if_pos trivial]
        exact ⟨_, _, rfl, hl, by rw [ho]; rfl⟩
theorem pw_seen {N : Nat} (vec aim sn hd op : Nat → Int32) {x : Nat} (w : Int32) (hx : x < 30) (h0 : sn x ≠ 0) : f_Mo_look N vec aim sn hd op (nI x) w = some (sn, hd, op) := by
  unfold f_Mo_look
  rw [pb_at hx (by decide), pd_cl (show x < 2147483648 by omega), if_neg h0]
