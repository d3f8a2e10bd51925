set_option maxHeartbeats 4000000 in
set_option maxRecDepth 100000 in
/-- THE LAW, from its entry; open: what the pure functions say is a hypothesis -/
theorem whole_start_open (hpure : ∀ (L : Nat) (xs : Nat → Int32), L ≤ 3072 → f_La_law 4096 L xs 4096 i0_Nd i0_Mo 0 = some 1) {p : Program} {e : Env} {s : State} {m : MethodId} {below : List Frame} {meth : Method} {c : Code} (l : Launch) {b L : Nat} {xs : Nat → Int32} (hL : L ≤ 3072) (C0 : lw_At p s m meth c b L xs) : W p l e room_1 s m #[Value.ref b] below meth c s.heap [] 0 0 (lw_Z below #[Value.ref b] s) (entryFrame m ([Value.ref b] : List Value).toArray 4) := by
  obtain ⟨hx, hb, hr, hml, hown, htsA, hX, hbl, hlocks, hgv⟩ := id C0
  have hts : ∀ w ∈ hw_G, w.before #[Value.ref b] s = true := fun w h => htsA w (List.mem_filter.mp h).1
  have hN : hw_N s := fun w h => va_Nw.of (hw_isN_on (hw_NW_is w h)) (htsA w (List.mem_filter.mp h).1)
  have hO : va_AOA .int s := va_AOA.of (htsA _ (List.mem_of_getElem? (i := 68) (by decide +kernel)))
  obtain ⟨c0, s0, hk0⟩ := u_known (C := R_Ch) (T := F_Ch) (N := 3) (n := 3) hts i_Ch (hts _ iw_114)
  obtain ⟨c1, s1, hk1⟩ := u_known (C := R_Do) (T := F_Do) (N := 4) (n := 4) hts i_Do (hts _ iw_20)
  obtain ⟨c2, s2, hk2⟩ := u_known (C := R_Gr) (T := F_Gr) (N := 7) (n := 7) hts i_Gr (hts _ iw_42)
  obtain ⟨c3, s3, hk3⟩ := u_known (C := R_Li) (T := F_Li) (N := 6) (n := 6) hts i_Li (hts _ iw_48)
  obtain ⟨c4, s4, hk4⟩ := u_known (C := R_Rk) (T := F_Rk) (N := 5) (n := 5) hts i_Rk (hts _ iw_79)
  obtain ⟨c5, s5, hk5⟩ := u_known (C := R_Wa) (T := F_Wa) (N := 4) (n := 4) hts i_Wa (hts _ iw_73)
  obtain ⟨c6, s6, hk6⟩ := u_known (C := R_Nd) (T := F_Nd) (N := 6) (n := 6) hts i_Nd (hts _ iw_12)
  obtain ⟨c7, s7, hk7⟩ := u_known (C := R_Mo) (T := F_Mo) (N := 28) (n := 28) hts i_Mo (hts _ iw_564)
  obtain ⟨D, hKc⟩ : ∃ D : va_G, ∀ (k : Nat) (q : vw_C), classes[k]? = some q → u_Kn s q.1 q.2.1 q.2.2 (D.1 k) (D.2 k) := by
    refine ⟨(fun k => if k = 0 then c0 else if k = 1 then c1 else if k = 2 then c2 else if k = 3 then c3 else if k = 4 then c4 else if k = 5 then c5 else if k = 6 then c6 else c7, fun k => if k = 0 then s0 else if k = 1 then s1 else if k = 2 then s2 else if k = 3 then s3 else if k = 4 then s4 else if k = 5 then s5 else if k = 6 then s6 else s7), ?_⟩
    intro k q hq
    match k, hq with
    | 0, hq => cases hq; exact hk0
    | 1, hq => cases hq; exact hk1
    | 2, hq => cases hq; exact hk2
    | 3, hq => cases hq; exact hk3
    | 4, hq => cases hq; exact hk4
    | 5, hq => cases hq; exact hk5
    | 6, hq => cases hq; exact hk6
    | 7, hq => cases hq; exact hk7
    | k + 8, hq => simp [classes] at hq
  obtain ⟨cI, kI, cpI, hI1, hI2, hI3⟩ := Cond.arrayClass_spec (hts _ iw_40)
  obtain ⟨cZ, kZ, cpZ, hZ1, hZ2, hZ3⟩ := Cond.arrayClass_spec (hts _ iw_654)
  obtain ⟨cG, kG, cpG, hG1, hG2, hG3⟩ := hw_ofO hO
  have hK : va_K D classes [(cI, .int), (cG, .array .int), (cZ, .boolean)] s := by
    refine ⟨hKc, fun k q hq => ?_⟩
    match k, hq with
    | 0, hq => cases hq; exact ⟨fun n z => ⟨fun k h => (by cases h), kI, hI2, cpI, hI3⟩, hI1⟩
    | 1, hq => cases hq; exact ⟨fun n z => ⟨fun k h => (by cases h), kG, hG2, cpG, hG3⟩, hG1⟩
    | 2, hq => cases hq; exact ⟨fun n z => ⟨fun k h => (by cases h), kZ, hZ2, cpZ, hZ3⟩, hZ1⟩
    | k + 3, hq => simp at hq
  obtain ⟨B, hB⟩ : ∃ B : Nat, B = s.heap.size := ⟨_, rfl⟩
  have hBs : B ≤ s.heap.size := Nat.le_of_eq hB
  have hA : ∀ q : Nat, s.heap.size ≤ q → (fun q : Nat => B ≤ q) q := fun q hq => Nat.le_trans hBs hq
  have hS : va_S (fun q : Nat => B ≤ q) s.heap s.heap [] := va_S.rf
  have hP : va_P D classes [] s.heap := fun k q h => by simp at h
  have hD : va_D (fun q : Nat => B ≤ q) [] := ⟨fun i j p q h => by simp at h, fun k q h => by simp at h⟩
  have len : ([] : va_W).length = 0 := rfl
  have hl := lv_entry ([.ref b]) (n := 4) (Nat.le_of_ble_eq_true rfl)
  rw [lg_entry_eq]
  generalize (lg_sl ([.ref b]) ++ List.replicate (4 - (lg_sl ([.ref b])).length) Slot.unset).toArray = ls at hl ⊢
  have hl : lv_has ls 4 [(0, .ref b)] := hl
  refine va_new (ci := 6) (fs := [.null, .null, .null, .null, .null, .null]) (C := R_Nd) (T := F_Nd) (N := 6) hx hb hts i_Nd t_Nd t_Nd_ok hown (hts _ iw_11) (hts _ iw_12) (hts _ iw_1) hK hP hD hS hA rfl (fun j hj => match j, hj with | 0, _ => rfl | 1, _ => rfl | 2, _ => rfl | 3, _ => rfl | 4, _ => rfl | 5, _ => rfl | k + 6, h => absurd h (by omega)) (Nat.le_of_ble_eq_true rfl) (Nat.le_of_ble_eq_true rfl) d_La_law_0 (fun q0 H hP hD hS => ?_)
  refine W.widen (k := 1) (n := 6) (Nat.le_refl _) (Nat.le_refl _) ?_
  obtain ⟨wa0, hP, hD, len, ke0, mq⟩ := hs_push hP hD len
  refine lv_dup hx hb d_La_law_3 rfl ?_
  refine hw_cm (va_runI (As := []) (rest := [.ref q0]) ⟨hx, hb, hml, hown, hts⟩ (c_Nd_init l D cI cG cZ B wa0 0 q0 mq len) (cwI 0 hts (hw_gc ic_Nd_init) rfl rfl rfl (hts _ iw_1) (hts _ iw_13) (hts _ iw_14) rfl (by decide +kernel) ⟨Nat.le_of_ble_eq_true rfl, Nat.le_of_ble_eq_true rfl⟩) ⟨hw_blindA, hw_goA hP hD hK hN hS hBs hO⟩ rfl rfl hl.1 rfl (lv_room (Nat.le_of_ble_eq_true rfl)) d_La_law_4 ⟨Nat.le_of_ble_eq_true rfl, Nat.le_of_ble_eq_true rfl⟩) hS (fun wb0 H locs hP hD hS hpp => ?_)
  refine W.widen (k := 63) (n := 1687) (Nat.le_refl _) (Nat.le_refl _) ?_
  obtain ⟨bq0, len, kp0, hq0⟩ := hpp
  have len : wb0.length = 63 := by omega
  refine lv_astore_n (lv' := [(1, .ref q0), (0, .ref b)]) hx hb d_La_law_7 rfl hl (by decide) rfl (fun ls hl => ?_)
  refine va_new (ci := 7) (fs := [.null, .null, .null, .null, .null, .null, .null, .null, .int 0, .int 0, .null, .null, .null, .null, .null, .null, .null, .null, .null, .int 0, .int 0, .int 0, .null, .null, .null, .int 0, .long 0, .long 0]) (C := R_Mo) (T := F_Mo) (N := 28) hx hb hts i_Mo t_Mo t_Mo_ok hown (hts _ iw_563) (hts _ iw_564) (hts _ iw_8) hK hP hD hS hA rfl (fun j hj => match j, hj with | 0, _ => rfl | 1, _ => rfl | 2, _ => rfl | 3, _ => rfl | 4, _ => rfl | 5, _ => rfl | 6, _ => rfl | 7, _ => rfl | 8, _ => rfl | 9, _ => rfl | 10, _ => rfl | 11, _ => rfl | 12, _ => rfl | 13, _ => rfl | 14, _ => rfl | 15, _ => rfl | 16, _ => rfl | 17, _ => rfl | 18, _ => rfl | 19, _ => rfl | 20, _ => rfl | 21, _ => rfl | 22, _ => rfl | 23, _ => rfl | 24, _ => rfl | 25, _ => rfl | 26, _ => rfl | 27, _ => rfl | k + 28, h => absurd h (by omega)) (Nat.le_of_ble_eq_true rfl) (Nat.le_of_ble_eq_true rfl) d_La_law_8 (fun q8 H hP hD hS => ?_)
  refine W.widen (k := 64) (n := 1715) (Nat.le_refl _) (Nat.le_refl _) ?_
  obtain ⟨wa8, hP, hD, len, ke8, mq⟩ := hs_push hP hD len
  refine lv_dup hx hb d_La_law_11 rfl ?_
  refine hw_cm (va_runI (As := []) (rest := [.ref q8]) ⟨hx, hb, hml, hown, hts⟩ (c_Mo_init l D cI cG cZ B wa8 63 q8 mq len) (cwI 0 hts (hw_gc ic_Mo_init) rfl rfl rfl (hts _ iw_8) (hts _ iw_565) (hts _ iw_566) rfl (by decide +kernel) ⟨Nat.le_of_ble_eq_true rfl, Nat.le_of_ble_eq_true rfl⟩) ⟨hw_blindA, hw_goA hP hD hK hN hS hBs hO⟩ rfl rfl hl.1 rfl (lv_room (Nat.le_of_ble_eq_true rfl)) d_La_law_12 ⟨Nat.le_of_ble_eq_true rfl, Nat.le_of_ble_eq_true rfl⟩) hS (fun wb8 H locs hP hD hS hpp => ?_)
  refine W.widen (k := 84) (n := 3231) (Nat.le_refl _) (Nat.le_refl _) ?_
  obtain ⟨bq8, len, kp8, hq8⟩ := hpp
  have len : wb8.length = 84 := by omega
  refine lv_astore_n (lv' := [(2, .ref q8), (1, .ref q0), (0, .ref b)]) hx hb d_La_law_15 rfl hl (by decide) rfl (fun ls hl => ?_)
  refine lv_iconst (v := 0) hx hb d_La_law_16 (by decide) ?_
  refine lv_istore_n (lv' := [(3, .int 0), (2, .ref q8), (1, .ref q0), (0, .ref b)]) hx hb d_La_law_17 rfl hl (by decide) rfl (fun ls hl => ?_)
  obtain ⟨ad, a⟩ : ∃ ad : Nat → Nat, hw_ad ad wb8 := ⟨fun j => ((wb8[j]?).map (fun q => q.1)).getD 0, fun j q hq => by simp [hq]⟩
  have k1 : ∀ j : Nat, j < 63 → wb8[j]? = wb0[j]? := fun j hj => (kp8 j hj).trans (ke8 j (by omega))
  have a0 : hw_ad ad wb0 := fun j q hq => a j q ((k1 j (by have := hs_lt hq; omega)).trans hq)
  have e0 : ad 0 = q0 := by obtain ⟨e1, h1⟩ := hq0; exact a0 _ _ h1
  have e1 : ad 63 = q8 := by obtain ⟨e1, h1⟩ := hq8; exact a _ _ h1
  rw [← e0, ← e1] at hl
  exact law_loop (N := 4096) (k0 := 0) (k1 := 63) C0 hK hB (Or.inl (by decide)) 4096 i0_Nd i0_Mo 0 _ _ _ _ hP hD hS (lv_sub hl [3, 2, 1, 0] rfl) ((bq0 ad a0).fr (fun j h1 h2 => k1 j (by omega))) (bq8 ad a) (hpure L xs hL)
