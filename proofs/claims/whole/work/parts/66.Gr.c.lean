set_option maxHeartbeats 4000000 in
set_option maxRecDepth 100000 in
theorem c_Gr_top (l : Launch) (D : va_G) (cI cG cZ : ClassId) (ad : Nat → Nat) (B : Nat) (w0 : va_W) (N : Nat) (k0 : Nat) (x0_0 : T_Li) (x0_1 : T_Wa) (x0_2 : T_Ch) (x0_3 : T_Rk) (x0_4 : Int32) (x0_5 : Int32) (x0_6 : Int32) (r : Int32) (hf : f_Gr_top N x0_0 x0_4 = some r) (bk0_0 : wc_Gr cI cG cZ ad k0 (x0_0, x0_1, x0_2, x0_3, x0_4, x0_5, x0_6) w0) : Met l y_Gr_top (.code y_Gr_top b_Gr_top 1 (some .int) :: hw_G) ({ frames := 1, cells := 0, slots := 0, locals := 21 } : Room) (va_Pc [.ref (ad k0)] (hw_U D cI cG cZ B w0)) (va_Qi (fun (r1 : Int32) (w1 : va_W) => r1 = r ∧ w1 = w0) (hw_B D B) (fun q : Nat => B ≤ q)) 0 0 (fun q : Nat => B ≤ q) := by
  refine Met.ofW (cc := b_Gr_top) (maxL := 1) (ret := (some .int)) (by decide) rfl ?_
  intro p e s m args below meth c s₁ Bd hml hv
  obtain ⟨rfl, hP, hD, hK, hN⟩ := hv
  have C0 : hw_C p s m meth c b_Gr_top 1 _ R_Gr (some .int) := ⟨Bd.exec, Bd.bytes, Bd.returns, hml, findClass_of_methodNamed Bd.named, fun w h => atoms_spec (ws := .code y_Gr_top b_Gr_top 1 (some .int) :: hw_G) Bd.pre w (List.mem_cons_of_mem _ h), Bd.notSynchronized⟩
  obtain ⟨hx, hb, hr, -, hown, hts, hlocks⟩ := id C0
  have hS : va_S (fun q : Nat => B ≤ q) s.heap s.heap [] := va_S.rf
  have fr : w0 = w0 := rfl
  have hl := lv_entry ([.ref (ad k0)]) (n := 1) (Nat.le_of_ble_eq_true rfl)
  rw [lg_entry_eq]
  generalize (lg_sl ([.ref (ad k0)]) ++ List.replicate (1 - (lg_sl ([.ref (ad k0)])).length) Slot.unset).toArray = ls at hl ⊢
  have hl : lv_has ls 1 [(0, .ref (ad k0))] := hl
  unfold f_Gr_top at hf
  obtain ⟨mk0_0, bk0_1, bk0_7, bk0_15, bk0_17⟩ := id bk0_0
  have mk0_0 : w0[k0]? = some (ad k0, .inr (2, [.ref (ad (k0 + 1)), .ref (ad (k0 + 7)), .ref (ad (k0 + 15)), .ref (ad (k0 + 17)), .int x0_4, .int x0_5, .int x0_6])) := mk0_0
  have bk0_1 : wc_Li cI cG cZ ad (k0 + 1) x0_0 w0 := bk0_1
  have bk0_7 : wc_Wa cI cG cZ ad (k0 + 7) x0_1 w0 := bk0_7
  have bk0_15 : wc_Ch cI cG cZ ad (k0 + 15) x0_2 w0 := bk0_15
  have bk0_17 : wc_Rk cI cG cZ ad (k0 + 17) x0_3 w0 := bk0_17
  refine lv_aload_n hx hb d_Gr_top_0 rfl (lv_at hl 0 rfl) ?_
  refine va_get (D := D) (ci := 2) (v := .int x0_4) (C := R_Gr) (T := F_Gr) (N := 7) hx hb hts i_Gr hown hK hP (k0) mk0_0 rfl 4 (by decide) (hts _ iw_136) (fun _ h9 => h9) rfl d_Gr_top_1 ?_
  refine lv_bipush (v := (-2)) hx hb d_Gr_top_4 (by decide) ?_
  refine lv_icmp_ne (tgt := 14) hx hb d_Gr_top_6 (by decide) (fun c1 => ?_) (fun c1 => ?_)
  · rw [if_neg c1] at hf
    refine lv_aload_n hx hb d_Gr_top_14 rfl (lv_at hl 0 rfl) ?_
    refine va_get (D := D) (ci := 2) (v := .ref (ad (k0 + 1))) (C := R_Gr) (T := F_Gr) (N := 7) hx hb hts i_Gr hown hK hP (k0) mk0_0 rfl 0 (by decide) (hts _ iw_131) (fun _ h9 => h9) rfl d_Gr_top_15 ?_
    refine lv_aload_n hx hb d_Gr_top_18 rfl (lv_at hl 0 rfl) ?_
    refine va_get (D := D) (ci := 2) (v := .int x0_4) (C := R_Gr) (T := F_Gr) (N := 7) hx hb hts i_Gr hown hK hP (k0) mk0_0 rfl 4 (by decide) (hts _ iw_136) (fun _ h9 => h9) rfl d_Gr_top_19 ?_
    obtain ⟨p2, hp2, hf⟩ := g_bd hf
    refine hw_ci0 (va_runV (As := [.int x0_4]) (rest := []) ⟨hx, hb, hml, hown, hts⟩ (c_Li_level l D cI cG cZ ad B w0 N (k0 + 1) x0_0.1 x0_0.2.1 x0_0.2.2.1 x0_0.2.2.2.1 x0_0.2.2.2.2.1 x0_0.2.2.2.2.2 x0_4 p2 hp2 bk0_1) (cwV 1 hts (hw_gV iw_211 gy_Li_level) rfl rfl rfl (by decide +kernel) ⟨Nat.le_of_ble_eq_true rfl, Nat.le_of_ble_eq_true rfl⟩) ⟨hw_blind, va_recv hK hP (ci := 3) (q0 := k0 + 1) rfl bk0_1.1, hw_go hP hD hK hN⟩ rfl rfl hl.1 rfl (lv_room (Nat.le_of_ble_eq_true rfl)) d_Gr_top_22 ⟨Nat.zero_le _, Nat.zero_le _⟩) hS (fun H locs hP hD hS => ?_)
    have bk0_0 : wc_Gr cI cG cZ ad (k0) (x0_0, x0_1, x0_2, x0_3, x0_4, x0_5, x0_6) w0 := ⟨mk0_0, bk0_1, bk0_7, bk0_15, bk0_17⟩
    have e0 := Option.some.inj hf
    exact W.iret (v := p2) hx hb hr (fun t ht hW => ⟨⟨p2, w0, rfl, ⟨e0, fr⟩, by rw [ht]; exact hP, hD⟩, hS.F ht⟩) hS.2.2 d_Gr_top_25
  · rw [if_pos c1] at hf
    refine lv_bipush (v := (-2)) hx hb d_Gr_top_9 (by decide) ?_
    refine lv_goto (tgt := 25) hx hb d_Gr_top_11 (by decide) ?_
    have bk0_0 : wc_Gr cI cG cZ ad (k0) (x0_0, x0_1, x0_2, x0_3, x0_4, x0_5, x0_6) w0 := ⟨mk0_0, bk0_1, bk0_7, bk0_15, bk0_17⟩
    have e0 := Option.some.inj hf
    exact W.iret (v := (-2)) hx hb hr (fun t ht hW => ⟨⟨(-2), w0, rfl, ⟨e0, fr⟩, by rw [ht]; exact hP, hD⟩, hS.F ht⟩) hS.2.2 d_Gr_top_25
set_option maxHeartbeats 4000000 in
set_option maxRecDepth 100000 in
theorem wl_Gr_shorten_13 {p : Program} {l : Launch} {e : Env} {s : State} {m : MethodId} {args : Array Value} {below : List Frame} {meth : Method} {c : Code} {D : va_G} {cI cG cZ : ClassId} {ad : Nat → Nat} {B : Nat} {w0 : va_W} {N : Nat} {k0 : Nat} {k1 : Nat} (C0 : hw_C p s m meth c b_Gr_shorten 6 args R_Gr none) (hK : va_K D classes [(cI, .int), (cG, .array .int), (cZ, .boolean)] s) (hN : hw_N s) (dj0 : k0 + 20 ≤ k1 ∨ k1 + 34 ≤ k0) (x0_0 : T_Li) (x0_1 : T_Wa) (x0_2 : T_Ch) (x0_4 : Int32) (x0_5 : Int32) (x0_6 : Int32) (x1_0 : (Nat → Nat → Int32)) (x1_1 : (Nat → Int32)) (x1_2 : (Nat → Int32)) (x1_3 : Int32) (a2 : Int32) (a3 : Int32) (x0_3 : T_Rk) (y0_0 : T_Li) (y0_2 : T_Ch) (y0_3 : T_Rk) : ∀ (n : Nat) (vbk0_17 : T_Rk) (v4 : Int32) (ws : va_W) (H : Heap) (locs : List Loc) (ls : Array Slot), va_P D classes ws H → va_D (fun q : Nat => B ≤ q) ws → va_S (fun q : Nat => B ≤ q) s.heap H locs → lv_has ls 6 [(4, .int v4), (0, .ref (ad k0)), (1, .ref (ad k1)), (2, .int a2), (3, .int a3)] → ws[k0]? = some (ad k0, .inr (2, [.ref (ad (k0 + 1)), .ref (ad (k0 + 7)), .ref (ad (k0 + 15)), .ref (ad (k0 + 17)), .int x0_4, .int x0_5, .int x0_6])) → wc_Li cI cG cZ ad (k0 + 1) x0_0 ws → wc_Wa cI cG cZ ad (k0 + 7) x0_1 ws → wc_Ch cI cG cZ ad (k0 + 15) x0_2 ws → wc_Rk cI cG cZ ad (k0 + 17) vbk0_17 ws → wc_Do cI cG cZ ad (k1) (x1_0, x1_1, x1_2, x1_3) ws → (∀ j : Nat, (j < k0 ∨ k0 + 20 ≤ j) → ws[j]? = w0[j]?) → f_Gr_shorten_13 N x0_0 x0_2 x1_0 a2 a3 n vbk0_17 v4 = some (y0_0, y0_2, y0_3) → W p l e ({ frames := 3, cells := 0, slots := 0, locals := 73 } : Room) s m args below meth c H locs 0 0 (MQ below (va_Qv (fun (w1 : va_W) => wc_Gr cI cG cZ ad k0 (y0_0, x0_1, y0_2, y0_3, x0_4, x0_5, x0_6) w1 ∧ (∀ j : Nat, (j < k0 ∨ k0 + 20 ≤ j) → w1[j]? = w0[j]?)) (hw_B D B) (fun q : Nat => B ≤ q)) args s 0 0 (fun q : Nat => B ≤ q)) (F0 m 13 ls []) := by
  obtain ⟨hx, hb, hr, hml, hown, hts, hlocks⟩ := id C0
  intro n
  induction n with
  | zero =>
    intro vbk0_17 v4 ws H locs ls hP hD hS hl mk0_0 bk0_1 bk0_7 bk0_15 bk0_17 bk1_0 fr hf
    exact nomatch (show none = some _ from hf)
  | succ n ih =>
    intro vbk0_17 v4 ws H locs ls hP hD hS hl mk0_0 bk0_1 bk0_7 bk0_15 bk0_17 bk1_0 fr hf
    rw [f_Gr_shorten_13] at hf
    refine lv_iload hx hb d_Gr_shorten_13 (lv_at hl 0 rfl) ?_
    refine lv_aload_n hx hb d_Gr_shorten_15 rfl (lv_at hl 1 rfl) ?_
    refine va_get (D := D) (ci := 2) (v := .ref (ad (k0 + 1))) (C := R_Gr) (T := F_Gr) (N := 7) hx hb hts i_Gr hown hK hP (k0) mk0_0 rfl 0 (by decide) (hts _ iw_131) (fun _ h9 => h9) rfl d_Gr_shorten_16 ?_
    refine lv_iload_n hx hb d_Gr_shorten_19 rfl (lv_at hl 3 rfl) ?_
    refine lv_iload_n hx hb d_Gr_shorten_20 rfl (lv_at hl 4 rfl) ?_
    obtain ⟨p3, hp3, hf⟩ := g_bd hf
    refine hw_ci0 (va_runV (As := [.int a2, .int a3]) (rest := [.int v4]) ⟨hx, hb, hml, hown, hts⟩ (c_Li_degree l D cI cG cZ ad B ws N (k0 + 1) x0_0.1 x0_0.2.1 x0_0.2.2.1 x0_0.2.2.2.1 x0_0.2.2.2.2.1 x0_0.2.2.2.2.2 a2 a3 p3 hp3 bk0_1) (cwV 2 hts (hw_gV iw_352 gy_Li_degree) rfl rfl rfl (by decide +kernel) ⟨Nat.le_of_ble_eq_true rfl, Nat.le_of_ble_eq_true rfl⟩) ⟨hw_blind, va_recv hK hP (ci := 3) (q0 := k0 + 1) rfl bk0_1.1, hw_go hP hD hK hN⟩ rfl rfl hl.1 rfl (lv_room (Nat.le_of_ble_eq_true rfl)) d_Gr_shorten_21 ⟨Nat.zero_le _, Nat.zero_le _⟩) hS (fun H locs hP hD hS => ?_)
    refine lv_icmp_ge (tgt := 70) hx hb d_Gr_shorten_24 (by decide) (fun c4 => ?_) (fun c4 => ?_)
    · rw [if_pos c4] at hf
      refine lv_aload_n hx hb d_Gr_shorten_70 rfl (lv_at hl 1 rfl) ?_
      refine va_get (D := D) (ci := 2) (v := .ref (ad (k0 + 15))) (C := R_Gr) (T := F_Gr) (N := 7) hx hb hts i_Gr hown hK hP (k0) mk0_0 rfl 2 (by decide) (hts _ iw_134) (fun _ h9 => h9) rfl d_Gr_shorten_71 ?_
      refine lv_aload_n hx hb d_Gr_shorten_74 rfl (lv_at hl 2 rfl) ?_
      refine lv_aload_n hx hb d_Gr_shorten_75 rfl (lv_at hl 1 rfl) ?_
      refine va_get (D := D) (ci := 2) (v := .ref (ad (k0 + 17))) (C := R_Gr) (T := F_Gr) (N := 7) hx hb hts i_Gr hown hK hP (k0) mk0_0 rfl 3 (by decide) (hts _ iw_135) (fun _ h9 => h9) rfl d_Gr_shorten_76 ?_
      refine lv_aload_n hx hb d_Gr_shorten_79 rfl (lv_at hl 1 rfl) ?_
      refine va_get (D := D) (ci := 2) (v := .ref (ad (k0 + 1))) (C := R_Gr) (T := F_Gr) (N := 7) hx hb hts i_Gr hown hK hP (k0) mk0_0 rfl 0 (by decide) (hts _ iw_131) (fun _ h9 => h9) rfl d_Gr_shorten_80 ?_
      refine lv_iload_n hx hb d_Gr_shorten_83 rfl (lv_at hl 4 rfl) ?_
      obtain ⟨p5, hp5, hf⟩ := g_bd hf
      refine hw_ci0 (va_runV (As := [.int a3]) (rest := [.ref (ad (k0 + 17)), .ref (ad k1), .ref (ad (k0 + 15))]) ⟨hx, hb, hml, hown, hts⟩ (c_Li_most l D cI cG cZ ad B ws N (k0 + 1) x0_0.1 x0_0.2.1 x0_0.2.2.1 x0_0.2.2.2.1 x0_0.2.2.2.2.1 x0_0.2.2.2.2.2 a3 p5 hp5 bk0_1) (cwV 1 hts (hw_gV iw_355 gy_Li_most) rfl rfl rfl (by decide +kernel) ⟨Nat.le_of_ble_eq_true rfl, Nat.le_of_ble_eq_true rfl⟩) ⟨hw_blind, va_recv hK hP (ci := 3) (q0 := k0 + 1) rfl bk0_1.1, hw_go hP hD hK hN⟩ rfl rfl hl.1 rfl (lv_room (Nat.le_of_ble_eq_true rfl)) d_Gr_shorten_84 ⟨Nat.zero_le _, Nat.zero_le _⟩) hS (fun H locs hP hD hS => ?_)
      obtain ⟨p6, hp6, hf⟩ := g_bd hf
      refine hw_cv (va_runV (As := [.ref (ad k1), .ref (ad (k0 + 17)), .int p5]) (rest := []) ⟨hx, hb, hml, hown, hts⟩ (c_Ch_choose l D cI cG cZ ad B ws N (k0 + 15) x0_2.1 x0_2.2.1 x0_2.2.2 k1 x1_0 x1_1 x1_2 x1_3 (k0 + 17) vbk0_17.1 vbk0_17.2.1 vbk0_17.2.2.1 vbk0_17.2.2.2.1 vbk0_17.2.2.2.2 p5 p6.1 p6.2.1 p6.2.2 hp6 bk0_15 bk1_0 bk0_17 (by omega) (by omega)) (cwV 3 hts (hw_gV iw_318 gy_Ch_choose) rfl rfl rfl (by decide +kernel) ⟨Nat.le_of_ble_eq_true rfl, Nat.le_of_ble_eq_true rfl⟩) ⟨hw_blind, va_recv hK hP (ci := 0) (q0 := k0 + 15) rfl bk0_15.1, hw_go hP hD hK hN⟩ rfl rfl hl.1 rfl (lv_room (Nat.le_of_ble_eq_true rfl)) d_Gr_shorten_87 ⟨Nat.zero_le _, Nat.zero_le _⟩) hS (fun w7 H locs hP hD hS hpp => ?_)
      obtain ⟨q0, frc⟩ := hpp
      have bk0_15 : wc_Ch cI cG cZ ad (k0 + 15) (p6.1, p6.2.1, p6.2.2) w7 := q0
      have bk1_0 : wc_Do cI cG cZ ad (k1) (x1_0, x1_1, x1_2, x1_3) w7 := bk1_0.fr (fun j h1 h2 => frc j (by omega))
      have mk0_0 : w7[k0]? = some (ad k0, .inr (2, [.ref (ad (k0 + 1)), .ref (ad (k0 + 7)), .ref (ad (k0 + 15)), .ref (ad (k0 + 17)), .int x0_4, .int x0_5, .int x0_6])) := (frc _ (by omega)).trans mk0_0
      have bk0_1 : wc_Li cI cG cZ ad (k0 + 1) x0_0 w7 := bk0_1.fr (fun j h1 h2 => frc j (by omega))
      have bk0_7 : wc_Wa cI cG cZ ad (k0 + 7) x0_1 w7 := bk0_7.fr (fun j h1 h2 => frc j (by omega))
      have bk0_17 : wc_Rk cI cG cZ ad (k0 + 17) vbk0_17 w7 := bk0_17.fr (fun j h1 h2 => frc j (by omega))
      have fr : ∀ j : Nat, (j < k0 ∨ k0 + 20 ≤ j) → w7[j]? = w0[j]? := fun j o0 => (frc j (by omega)).trans (fr j o0)
      refine lv_aload_n hx hb d_Gr_shorten_90 rfl (lv_at hl 1 rfl) ?_
      refine va_get (D := D) (ci := 2) (v := .ref (ad (k0 + 1))) (C := R_Gr) (T := F_Gr) (N := 7) hx hb hts i_Gr hown hK hP (k0) mk0_0 rfl 0 (by decide) (hts _ iw_131) (fun _ h9 => h9) rfl d_Gr_shorten_91 ?_
      refine lv_iload_n hx hb d_Gr_shorten_94 rfl (lv_at hl 3 rfl) ?_
      refine lv_iload_n hx hb d_Gr_shorten_95 rfl (lv_at hl 4 rfl) ?_
      refine lv_aload_n hx hb d_Gr_shorten_96 rfl (lv_at hl 1 rfl) ?_
      refine va_get (D := D) (ci := 2) (v := .ref (ad (k0 + 15))) (C := R_Gr) (T := F_Gr) (N := 7) hx hb hts i_Gr hown hK hP (k0) mk0_0 rfl 2 (by decide) (hts _ iw_134) (fun _ h9 => h9) rfl d_Gr_shorten_97 ?_
      obtain ⟨p8, hp8, hf⟩ := g_bd hf
      refine hw_cv (va_runV (As := [.int a2, .int a3, .ref (ad (k0 + 15))]) (rest := []) ⟨hx, hb, hml, hown, hts⟩ (c_Li_replace l D cI cG cZ ad B w7 N (k0 + 1) x0_0.1 x0_0.2.1 x0_0.2.2.1 x0_0.2.2.2.1 x0_0.2.2.2.2.1 x0_0.2.2.2.2.2 (k0 + 15) p6.1 p6.2.1 p6.2.2 a2 a3 p8.1 p8.2 hp8 bk0_1 bk0_15 (by omega)) (cwV 3 hts (hw_gV iw_336 gy_Li_replace) rfl rfl rfl (by decide +kernel) ⟨Nat.le_of_ble_eq_true rfl, Nat.le_of_ble_eq_true rfl⟩) ⟨hw_blind, va_recv hK hP (ci := 3) (q0 := k0 + 1) rfl bk0_1.1, hw_go hP hD hK hN⟩ rfl rfl hl.1 rfl (lv_room (Nat.le_of_ble_eq_true rfl)) d_Gr_shorten_100 ⟨Nat.zero_le _, Nat.zero_le _⟩) hS (fun w9 H locs hP hD hS hpp => ?_)
      obtain ⟨q0, frc⟩ := hpp
      have bk0_1 : wc_Li cI cG cZ ad (k0 + 1) (x0_0.1, x0_0.2.1, p8.1, p8.2, x0_0.2.2.2.2.1, x0_0.2.2.2.2.2) w9 := q0
      have bk1_0 : wc_Do cI cG cZ ad (k1) (x1_0, x1_1, x1_2, x1_3) w9 := bk1_0.fr (fun j h1 h2 => frc j (by omega))
      have mk0_0 : w9[k0]? = some (ad k0, .inr (2, [.ref (ad (k0 + 1)), .ref (ad (k0 + 7)), .ref (ad (k0 + 15)), .ref (ad (k0 + 17)), .int x0_4, .int x0_5, .int x0_6])) := (frc _ (by omega)).trans mk0_0
      have bk0_7 : wc_Wa cI cG cZ ad (k0 + 7) x0_1 w9 := bk0_7.fr (fun j h1 h2 => frc j (by omega))
      have bk0_15 : wc_Ch cI cG cZ ad (k0 + 15) (p6.1, p6.2.1, p6.2.2) w9 := bk0_15.fr (fun j h1 h2 => frc j (by omega))
      have bk0_17 : wc_Rk cI cG cZ ad (k0 + 17) vbk0_17 w9 := bk0_17.fr (fun j h1 h2 => frc j (by omega))
      have fr : ∀ j : Nat, (j < k0 ∨ k0 + 20 ≤ j) → w9[j]? = w0[j]? := fun j o0 => (frc j (by omega)).trans (fr j o0)
      have bk0_0 : wc_Gr cI cG cZ ad (k0) ((x0_0.1, x0_0.2.1, p8.1, p8.2, x0_0.2.2.2.2.1, x0_0.2.2.2.2.2), x0_1, (p6.1, p6.2.1, p6.2.2), vbk0_17, x0_4, x0_5, x0_6) w9 := ⟨mk0_0, bk0_1, bk0_7, bk0_15, bk0_17⟩
      have he := Option.some.inj hf
      obtain ⟨e0, he⟩ := Prod.mk.inj he
      obtain ⟨e1, e2⟩ := Prod.mk.inj he
      have f0 : wc_Gr cI cG cZ ad (k0) (y0_0, x0_1, y0_2, y0_3, x0_4, x0_5, x0_6) w9 := by rw [← e0, ← e1, ← e2]; exact bk0_0
      exact W.vret hx hb hr (fun t ht hW => ⟨⟨w9, rfl, ⟨f0, fr⟩, by rw [ht]; exact hP, hD⟩, hS.F ht⟩) hS.2.2 d_Gr_shorten_103
    · rw [if_neg c4] at hf
      refine lv_aload_n hx hb d_Gr_shorten_27 rfl (lv_at hl 1 rfl) ?_
      refine va_get (D := D) (ci := 2) (v := .ref (ad (k0 + 1))) (C := R_Gr) (T := F_Gr) (N := 7) hx hb hts i_Gr hown hK hP (k0) mk0_0 rfl 0 (by decide) (hts _ iw_131) (fun _ h9 => h9) rfl d_Gr_shorten_28 ?_
      refine lv_iload_n hx hb d_Gr_shorten_31 rfl (lv_at hl 3 rfl) ?_
      refine lv_iload_n hx hb d_Gr_shorten_32 rfl (lv_at hl 4 rfl) ?_
      refine lv_iload hx hb d_Gr_shorten_33 (lv_at hl 0 rfl) ?_
      obtain ⟨p10, hp10, hf⟩ := g_bd hf
      refine hw_ci0 (va_runV (As := [.int a2, .int a3, .int v4]) (rest := []) ⟨hx, hb, hml, hown, hts⟩ (c_Li_linked l D cI cG cZ ad B ws N (k0 + 1) x0_0.1 x0_0.2.1 x0_0.2.2.1 x0_0.2.2.2.1 x0_0.2.2.2.2.1 x0_0.2.2.2.2.2 a2 a3 v4 p10 hp10 bk0_1) (cwV 3 hts (hw_gV iw_353 gy_Li_linked) rfl rfl rfl (by decide +kernel) ⟨Nat.le_of_ble_eq_true rfl, Nat.le_of_ble_eq_true rfl⟩) ⟨hw_blind, va_recv hK hP (ci := 3) (q0 := k0 + 1) rfl bk0_1.1, hw_go hP hD hK hN⟩ rfl rfl hl.1 rfl (lv_room (Nat.le_of_ble_eq_true rfl)) d_Gr_shorten_35 ⟨Nat.zero_le _, Nat.zero_le _⟩) hS (fun H locs hP hD hS => ?_)
      refine lv_istore (lv' := [(5, .int p10), (4, .int v4), (0, .ref (ad k0)), (1, .ref (ad k1)), (2, .int a2), (3, .int a3)]) hx hb d_Gr_shorten_38 hl (by decide) rfl (fun ls hl => ?_)
      refine lv_aload_n hx hb d_Gr_shorten_40 rfl (lv_at hl 2 rfl) ?_
      refine va_get (D := D) (ci := 2) (v := .ref (ad (k0 + 17))) (C := R_Gr) (T := F_Gr) (N := 7) hx hb hts i_Gr hown hK hP (k0) mk0_0 rfl 3 (by decide) (hts _ iw_135) (fun _ h9 => h9) rfl d_Gr_shorten_41 ?_
      refine lv_iload hx hb d_Gr_shorten_44 (lv_at hl 0 rfl) ?_
      refine lv_aload_n hx hb d_Gr_shorten_46 rfl (lv_at hl 3 rfl) ?_
      refine lv_iload_n hx hb d_Gr_shorten_47 rfl (lv_at hl 4 rfl) ?_
      obtain ⟨p11, hp11, hf⟩ := g_bd hf
      obtain ⟨z12, -⟩ := g_atE (show g_at a2 30 (some ()) = some _ from hp11)
      have lz12 := g_inLt z12
      refine hw_cr0 (va_runV (As := [.int a2]) (rest := [.int p10, .ref (ad (k0 + 17))]) ⟨hx, hb, hml, hown, hts⟩ (c_Do_vector l D cI cG cZ ad B ws N k1 x1_0 x1_1 x1_2 x1_3 a2 hp11 bk1_0) (cwV 1 hts (hw_gV iw_215 gy_Do_vector) rfl rfl rfl (by decide +kernel) ⟨Nat.le_of_ble_eq_true rfl, Nat.le_of_ble_eq_true rfl⟩) ⟨hw_blind, va_recv hK hP (ci := 1) (q0 := k1) rfl bk1_0.1, hw_go hP hD hK hN⟩ rfl rfl hl.1 rfl (lv_room (Nat.le_of_ble_eq_true rfl)) d_Gr_shorten_48 ⟨Nat.zero_le _, Nat.zero_le _⟩) hS (fun H locs hP hD hS => ?_)
      refine lv_aload_n hx hb d_Gr_shorten_51 rfl (lv_at hl 3 rfl) ?_
      refine lv_iload hx hb d_Gr_shorten_52 (lv_at hl 0 rfl) ?_
      obtain ⟨p13, hp13, hf⟩ := g_bd hf
      obtain ⟨z14, -⟩ := g_atE (show g_at p10 30 (some ()) = some _ from hp13)
      have lz14 := g_inLt z14
      refine hw_cr0 (va_runV (As := [.int p10]) (rest := [.ref (ad (k1 + 1 + 1 + a2.toNatClampNeg)), .int p10, .ref (ad (k0 + 17))]) ⟨hx, hb, hml, hown, hts⟩ (c_Do_vector l D cI cG cZ ad B ws N k1 x1_0 x1_1 x1_2 x1_3 p10 hp13 bk1_0) (cwV 1 hts (hw_gV iw_215 gy_Do_vector) rfl rfl rfl (by decide +kernel) ⟨Nat.le_of_ble_eq_true rfl, Nat.le_of_ble_eq_true rfl⟩) ⟨hw_blind, va_recv hK hP (ci := 1) (q0 := k1) rfl bk1_0.1, hw_go hP hD hK hN⟩ rfl rfl hl.1 rfl (lv_room (Nat.le_of_ble_eq_true rfl)) d_Gr_shorten_54 ⟨Nat.zero_le _, Nat.zero_le _⟩) hS (fun H locs hP hD hS => ?_)
      obtain ⟨mk1_0, gk1_1, mk1_32, mk1_33⟩ := id bk1_0
      have mk1_0 : ws[k1]? = some (ad k1, .inr (1, [.ref (ad (k1 + 1)), .ref (ad (k1 + 32)), .ref (ad (k1 + 33)), .int x1_3])) := mk1_0
      have gk1_1 : wc_grid cI cG ad (k1 + 1) 30 4 x1_0 ws := gk1_1
      have mk1_32 : ws[k1 + 32]? = some (ad (k1 + 32), .inl (cI, 30, .inl x1_1)) := mk1_32
      have mk1_33 : ws[k1 + 33]? = some (ad (k1 + 33), .inl (cI, 8, .inl x1_2)) := mk1_33
      obtain ⟨p15, hp15, hf⟩ := g_bd hf
      refine hw_ci0 (va_runSN (As := [.ref (ad (k1 + 1 + 1 + a2.toNatClampNeg)), .ref (ad (k1 + 1 + 1 + p10.toNatClampNeg))]) (rest := [.int p10, .ref (ad (k0 + 17))]) ⟨hx, hb, hml, hown, hts⟩ (c_Nd_distance l D cI cG cZ ad B ws N (k1 + 1 + 1 + a2.toNatClampNeg) (x1_0 a2.toNatClampNeg) (k1 + 1 + 1 + p10.toNatClampNeg) (x1_0 p10.toNatClampNeg) p15 hp15 (gk1_1.2 _ (g_inLt z12)) (gk1_1.2 _ (g_inLt z14))) ⟨va_cnB 2 hts (hw_gc ic_Nd_distance) rfl rfl rfl (hN _ in_364) (hts _ iw_1) (by decide +kernel) ⟨Nat.le_of_ble_eq_true rfl, Nat.le_of_ble_eq_true rfl⟩, hts _ iw_228, trivial⟩ ⟨hw_blind, hw_go hP hD hK hN⟩ rfl rfl hl.1 rfl (lv_room (Nat.le_of_ble_eq_true rfl)) d_Gr_shorten_57 ⟨Nat.zero_le _, Nat.zero_le _⟩) hS (fun H locs hP hD hS => ?_)
      obtain ⟨p16, hp16, hf⟩ := g_bd hf
      refine hw_ci (va_runV (As := [.int p10, .int p15]) (rest := []) ⟨hx, hb, hml, hown, hts⟩ (c_Rk_add l D cI cG cZ ad B ws N (k0 + 17) vbk0_17.1 vbk0_17.2.1 vbk0_17.2.2.1 vbk0_17.2.2.2.1 vbk0_17.2.2.2.2 p10 p15 p16.1 p16.2.1 p16.2.2.1 p16.2.2.2 hp16 bk0_17) (cwV 2 hts (hw_gV iw_365 gy_Rk_add) rfl rfl rfl (by decide +kernel) ⟨Nat.le_of_ble_eq_true rfl, Nat.le_of_ble_eq_true rfl⟩) ⟨hw_blind, va_recv hK hP (ci := 4) (q0 := k0 + 17) rfl bk0_17.1, hw_go hP hD hK hN⟩ rfl rfl hl.1 rfl (lv_room (Nat.le_of_ble_eq_true rfl)) d_Gr_shorten_60 ⟨Nat.zero_le _, Nat.zero_le _⟩) hS (fun w17 H locs hP hD hS hpp => ?_)
      obtain ⟨q0, frc⟩ := hpp
      have bk0_17 : wc_Rk cI cG cZ ad (k0 + 17) (p16.2.1, p16.2.2.1, p16.2.2.2, vbk0_17.2.2.2.1, vbk0_17.2.2.2.2) w17 := q0
      have mk0_0 : w17[k0]? = some (ad k0, .inr (2, [.ref (ad (k0 + 1)), .ref (ad (k0 + 7)), .ref (ad (k0 + 15)), .ref (ad (k0 + 17)), .int x0_4, .int x0_5, .int x0_6])) := (frc _ (by omega)).trans mk0_0
      have bk0_1 : wc_Li cI cG cZ ad (k0 + 1) x0_0 w17 := bk0_1.fr (fun j h1 h2 => frc j (by omega))
      have bk0_7 : wc_Wa cI cG cZ ad (k0 + 7) x0_1 w17 := bk0_7.fr (fun j h1 h2 => frc j (by omega))
      have bk0_15 : wc_Ch cI cG cZ ad (k0 + 15) x0_2 w17 := bk0_15.fr (fun j h1 h2 => frc j (by omega))
      have mk1_0 : w17[k1]? = some (ad k1, .inr (1, [.ref (ad (k1 + 1)), .ref (ad (k1 + 32)), .ref (ad (k1 + 33)), .int x1_3])) := (frc _ (by omega)).trans mk1_0
      have gk1_1 : wc_grid cI cG ad (k1 + 1) 30 4 x1_0 w17 := gk1_1.fr (fun j h1 h2 => frc j (by omega))
      have mk1_32 : w17[k1 + 32]? = some (ad (k1 + 32), .inl (cI, 30, .inl x1_1)) := (frc _ (by omega)).trans mk1_32
      have mk1_33 : w17[k1 + 33]? = some (ad (k1 + 33), .inl (cI, 8, .inl x1_2)) := (frc _ (by omega)).trans mk1_33
      have fr : ∀ j : Nat, (j < k0 ∨ k0 + 20 ≤ j) → w17[j]? = w0[j]? := fun j o0 => (frc j (by omega)).trans (fr j o0)
      refine lv_pop hx hb d_Gr_shorten_63 rfl ?_
      refine lv_iinc (v := v4 + 1) (lv' := [(4, .int (v4 + 1)), (5, .int p10), (0, .ref (ad k0)), (1, .ref (ad k1)), (2, .int a2), (3, .int a3)]) hx hb d_Gr_shorten_64 hl (k := 1) rfl rfl (by decide) rfl (fun ls hl => ?_)
      refine lv_goto (tgt := 13) hx hb d_Gr_shorten_67 (by decide) ?_
      have bk1_0 : wc_Do cI cG cZ ad (k1) (x1_0, x1_1, x1_2, x1_3) w17 := ⟨mk1_0, gk1_1, mk1_32, mk1_33⟩
      exact ih (p16.2.1, p16.2.2.1, p16.2.2.2, vbk0_17.2.2.2.1, vbk0_17.2.2.2.2) (v4 + 1) _ _ _ _ hP hD hS (lv_sub hl [0, 2, 3, 4, 5] rfl) mk0_0 bk0_1 bk0_7 bk0_15 bk0_17 bk1_0 fr hf
set_option maxHeartbeats 4000000 in
set_option maxRecDepth 100000 in
theorem c_Gr_shorten (l : Launch) (D : va_G) (cI cG cZ : ClassId) (ad : Nat → Nat) (B : Nat) (w0 : va_W) (N : Nat) (k0 : Nat) (x0_0 : T_Li) (x0_1 : T_Wa) (x0_2 : T_Ch) (x0_3 : T_Rk) (x0_4 : Int32) (x0_5 : Int32) (x0_6 : Int32) (k1 : Nat) (x1_0 : (Nat → Nat → Int32)) (x1_1 : (Nat → Int32)) (x1_2 : (Nat → Int32)) (x1_3 : Int32) (a2 : Int32) (a3 : Int32) (y0_0 : T_Li) (y0_2 : T_Ch) (y0_3 : T_Rk) (hf : f_Gr_shorten N x0_0 x0_2 x0_3 x1_0 a2 a3 = some (y0_0, y0_2, y0_3)) (bk0_0 : wc_Gr cI cG cZ ad k0 (x0_0, x0_1, x0_2, x0_3, x0_4, x0_5, x0_6) w0) (bk1_0 : wc_Do cI cG cZ ad k1 (x1_0, x1_1, x1_2, x1_3) w0) (dj0 : k0 + 20 ≤ k1 ∨ k1 + 34 ≤ k0) : Met l y_Gr_shorten (.code y_Gr_shorten b_Gr_shorten 6 none :: hw_G) ({ frames := 3, cells := 0, slots := 0, locals := 73 } : Room) (va_Pc [.ref (ad k0), .ref (ad k1), .int a2, .int a3] (hw_U D cI cG cZ B w0)) (va_Qv (fun (w1 : va_W) => wc_Gr cI cG cZ ad k0 (y0_0, x0_1, y0_2, y0_3, x0_4, x0_5, x0_6) w1 ∧ (∀ j : Nat, (j < k0 ∨ k0 + 20 ≤ j) → w1[j]? = w0[j]?)) (hw_B D B) (fun q : Nat => B ≤ q)) 0 0 (fun q : Nat => B ≤ q) := by
  refine Met.ofW (cc := b_Gr_shorten) (maxL := 6) (ret := none) (by decide) rfl ?_
  intro p e s m args below meth c s₁ Bd hml hv
  obtain ⟨rfl, hP, hD, hK, hN⟩ := hv
  have C0 : hw_C p s m meth c b_Gr_shorten 6 _ R_Gr none := ⟨Bd.exec, Bd.bytes, Bd.returns, hml, findClass_of_methodNamed Bd.named, fun w h => atoms_spec (ws := .code y_Gr_shorten b_Gr_shorten 6 none :: hw_G) Bd.pre w (List.mem_cons_of_mem _ h), Bd.notSynchronized⟩
  obtain ⟨hx, hb, hr, -, hown, hts, hlocks⟩ := id C0
  have hS : va_S (fun q : Nat => B ≤ q) s.heap s.heap [] := va_S.rf
  have fr : ∀ j : Nat, (j < k0 ∨ k0 + 20 ≤ j) → w0[j]? = w0[j]? := fun j _ => rfl
  have hl := lv_entry ([.ref (ad k0), .ref (ad k1), .int a2, .int a3]) (n := 6) (Nat.le_of_ble_eq_true rfl)
  rw [lg_entry_eq]
  generalize (lg_sl ([.ref (ad k0), .ref (ad k1), .int a2, .int a3]) ++ List.replicate (6 - (lg_sl ([.ref (ad k0), .ref (ad k1), .int a2, .int a3])).length) Slot.unset).toArray = ls at hl ⊢
  have hl : lv_has ls 6 [(0, .ref (ad k0)), (1, .ref (ad k1)), (2, .int a2), (3, .int a3)] := hl
  unfold f_Gr_shorten at hf
  obtain ⟨mk0_0, bk0_1, bk0_7, bk0_15, bk0_17⟩ := id bk0_0
  have mk0_0 : w0[k0]? = some (ad k0, .inr (2, [.ref (ad (k0 + 1)), .ref (ad (k0 + 7)), .ref (ad (k0 + 15)), .ref (ad (k0 + 17)), .int x0_4, .int x0_5, .int x0_6])) := mk0_0
  have bk0_1 : wc_Li cI cG cZ ad (k0 + 1) x0_0 w0 := bk0_1
  have bk0_7 : wc_Wa cI cG cZ ad (k0 + 7) x0_1 w0 := bk0_7
  have bk0_15 : wc_Ch cI cG cZ ad (k0 + 15) x0_2 w0 := bk0_15
  have bk0_17 : wc_Rk cI cG cZ ad (k0 + 17) x0_3 w0 := bk0_17
  refine lv_aload_n hx hb d_Gr_shorten_0 rfl (lv_at hl 0 rfl) ?_
  refine va_get (D := D) (ci := 2) (v := .ref (ad (k0 + 17))) (C := R_Gr) (T := F_Gr) (N := 7) hx hb hts i_Gr hown hK hP (k0) mk0_0 rfl 3 (by decide) (hts _ iw_135) (fun _ h9 => h9) rfl d_Gr_shorten_1 ?_
  refine lv_bipush (v := 30) hx hb d_Gr_shorten_4 (by decide) ?_
  refine lv_iconst (v := 0) hx hb d_Gr_shorten_6 (by decide) ?_
  obtain ⟨p1, hp1, hf⟩ := g_bd hf
  refine hw_cv (va_runV (As := [.int 30, .int 0]) (rest := []) ⟨hx, hb, hml, hown, hts⟩ (c_Rk_start l D cI cG cZ ad B w0 N (k0 + 17) x0_3.1 x0_3.2.1 x0_3.2.2.1 x0_3.2.2.2.1 x0_3.2.2.2.2 30 0 p1.1 p1.2.1 p1.2.2 hp1 bk0_17) (cwV 2 hts (hw_gV iw_363 gy_Rk_start) rfl rfl rfl (by decide +kernel) ⟨Nat.le_of_ble_eq_true rfl, Nat.le_of_ble_eq_true rfl⟩) ⟨hw_blind, va_recv hK hP (ci := 4) (q0 := k0 + 17) rfl bk0_17.1, hw_go hP hD hK hN⟩ rfl rfl hl.1 rfl (lv_room (Nat.le_of_ble_eq_true rfl)) d_Gr_shorten_7 ⟨Nat.zero_le _, Nat.zero_le _⟩) hS (fun w2 H locs hP hD hS hpp => ?_)
  obtain ⟨q0, frc⟩ := hpp
  have bk0_17 : wc_Rk cI cG cZ ad (k0 + 17) (x0_3.1, x0_3.2.1, p1.1, p1.2.1, p1.2.2) w2 := q0
  have bk1_0 : wc_Do cI cG cZ ad (k1) (x1_0, x1_1, x1_2, x1_3) w2 := bk1_0.fr (fun j h1 h2 => frc j (by omega))
  have mk0_0 : w2[k0]? = some (ad k0, .inr (2, [.ref (ad (k0 + 1)), .ref (ad (k0 + 7)), .ref (ad (k0 + 15)), .ref (ad (k0 + 17)), .int x0_4, .int x0_5, .int x0_6])) := (frc _ (by omega)).trans mk0_0
  have bk0_1 : wc_Li cI cG cZ ad (k0 + 1) x0_0 w2 := bk0_1.fr (fun j h1 h2 => frc j (by omega))
  have bk0_7 : wc_Wa cI cG cZ ad (k0 + 7) x0_1 w2 := bk0_7.fr (fun j h1 h2 => frc j (by omega))
  have bk0_15 : wc_Ch cI cG cZ ad (k0 + 15) x0_2 w2 := bk0_15.fr (fun j h1 h2 => frc j (by omega))
  have fr : ∀ j : Nat, (j < k0 ∨ k0 + 20 ≤ j) → w2[j]? = w0[j]? := fun j o0 => (frc j (by omega)).trans (fr j o0)
  refine lv_iconst (v := 0) hx hb d_Gr_shorten_10 (by decide) ?_
  refine lv_istore (lv' := [(4, .int 0), (0, .ref (ad k0)), (1, .ref (ad k1)), (2, .int a2), (3, .int a3)]) hx hb d_Gr_shorten_11 hl (by decide) rfl (fun ls hl => ?_)
  exact wl_Gr_shorten_13 (ad := ad) C0 hK hN dj0 x0_0 x0_1 x0_2 x0_4 x0_5 x0_6 x1_0 x1_1 x1_2 x1_3 a2 a3 x0_3 y0_0 y0_2 y0_3 N (x0_3.1, x0_3.2.1, p1.1, p1.2.1, p1.2.2) 0 _ _ _ _ hP hD hS (lv_sub hl [0, 1, 2, 3, 4] rfl) mk0_0 bk0_1 bk0_7 bk0_15 bk0_17 bk1_0 fr hf
set_option maxHeartbeats 4000000 in
set_option maxRecDepth 100000 in
theorem wl_Gr_link_32 {p : Program} {l : Launch} {e : Env} {s : State} {m : MethodId} {args : Array Value} {below : List Frame} {meth : Method} {c : Code} {D : va_G} {cI cG cZ : ClassId} {ad : Nat → Nat} {B : Nat} {w0 : va_W} {N : Nat} {k0 : Nat} {k1 : Nat} (C0 : hw_C p s m meth c b_Gr_link 6 args R_Gr none) (hK : va_K D classes [(cI, .int), (cG, .array .int), (cZ, .boolean)] s) (hN : hw_N s) (dj0 : k0 + 20 ≤ k1 ∨ k1 + 34 ≤ k0) (x0_1 : T_Wa) (x0_4 : Int32) (x0_5 : Int32) (x0_6 : Int32) (x1_0 : (Nat → Nat → Int32)) (x1_1 : (Nat → Int32)) (x1_2 : (Nat → Int32)) (x1_3 : Int32) (a2 : Int32) (a3 : Int32) (x0_0 : T_Li) (x0_2 : T_Ch) (x0_3 : T_Rk) (y0_0 : T_Li) (y0_2 : T_Ch) (y0_3 : T_Rk) : ∀ (n : Nat) (vbk0_1 : T_Li) (vbk0_15 : T_Ch) (vbk0_17 : T_Rk) (v4 : Int32) (ws : va_W) (H : Heap) (locs : List Loc) (ls : Array Slot), va_P D classes ws H → va_D (fun q : Nat => B ≤ q) ws → va_S (fun q : Nat => B ≤ q) s.heap H locs → lv_has ls 6 [(4, .int v4), (0, .ref (ad k0)), (1, .ref (ad k1)), (2, .int a2), (3, .int a3)] → ws[k0]? = some (ad k0, .inr (2, [.ref (ad (k0 + 1)), .ref (ad (k0 + 7)), .ref (ad (k0 + 15)), .ref (ad (k0 + 17)), .int x0_4, .int x0_5, .int x0_6])) → wc_Li cI cG cZ ad (k0 + 1) vbk0_1 ws → wc_Wa cI cG cZ ad (k0 + 7) x0_1 ws → wc_Ch cI cG cZ ad (k0 + 15) vbk0_15 ws → wc_Rk cI cG cZ ad (k0 + 17) vbk0_17 ws → wc_Do cI cG cZ ad (k1) (x1_0, x1_1, x1_2, x1_3) ws → (∀ j : Nat, (j < k0 ∨ k0 + 20 ≤ j) → ws[j]? = w0[j]?) → f_Gr_link_32 N x1_0 a2 a3 n vbk0_1 vbk0_15 vbk0_17 v4 = some (y0_0, y0_2, y0_3) → W p l e ({ frames := 4, cells := 0, slots := 0, locals := 98 } : Room) s m args below meth c H locs 0 0 (MQ below (va_Qv (fun (w1 : va_W) => wc_Gr cI cG cZ ad k0 (y0_0, x0_1, y0_2, y0_3, x0_4, x0_5, x0_6) w1 ∧ (∀ j : Nat, (j < k0 ∨ k0 + 20 ≤ j) → w1[j]? = w0[j]?)) (hw_B D B) (fun q : Nat => B ≤ q)) args s 0 0 (fun q : Nat => B ≤ q)) (F0 m 32 ls []) := by
  obtain ⟨hx, hb, hr, hml, hown, hts, hlocks⟩ := id C0
  intro n
  induction n with
  | zero =>
    intro vbk0_1 vbk0_15 vbk0_17 v4 ws H locs ls hP hD hS hl mk0_0 bk0_1 bk0_7 bk0_15 bk0_17 bk1_0 fr hf
    exact nomatch (show none = some _ from hf)
  | succ n ih =>
    intro vbk0_1 vbk0_15 vbk0_17 v4 ws H locs ls hP hD hS hl mk0_0 bk0_1 bk0_7 bk0_15 bk0_17 bk1_0 fr hf
    rw [f_Gr_link_32] at hf
    refine lv_iload hx hb d_Gr_link_32 (lv_at hl 0 rfl) ?_
    refine lv_aload_n hx hb d_Gr_link_34 rfl (lv_at hl 1 rfl) ?_
    refine va_get (D := D) (ci := 2) (v := .ref (ad (k0 + 1))) (C := R_Gr) (T := F_Gr) (N := 7) hx hb hts i_Gr hown hK hP (k0) mk0_0 rfl 0 (by decide) (hts _ iw_131) (fun _ h9 => h9) rfl d_Gr_link_35 ?_
    refine lv_iload_n hx hb d_Gr_link_38 rfl (lv_at hl 3 rfl) ?_
    refine lv_iload_n hx hb d_Gr_link_39 rfl (lv_at hl 4 rfl) ?_
    obtain ⟨p6, hp6, hf⟩ := g_bd hf
    refine hw_ci0 (va_runV (As := [.int a2, .int a3]) (rest := [.int v4]) ⟨hx, hb, hml, hown, hts⟩ (c_Li_degree l D cI cG cZ ad B ws N (k0 + 1) vbk0_1.1 vbk0_1.2.1 vbk0_1.2.2.1 vbk0_1.2.2.2.1 vbk0_1.2.2.2.2.1 vbk0_1.2.2.2.2.2 a2 a3 p6 hp6 bk0_1) (cwV 2 hts (hw_gV iw_352 gy_Li_degree) rfl rfl rfl (by decide +kernel) ⟨Nat.le_of_ble_eq_true rfl, Nat.le_of_ble_eq_true rfl⟩) ⟨hw_blind, va_recv hK hP (ci := 3) (q0 := k0 + 1) rfl bk0_1.1, hw_go hP hD hK hN⟩ rfl rfl hl.1 rfl (lv_room (Nat.le_of_ble_eq_true rfl)) d_Gr_link_40 ⟨Nat.zero_le _, Nat.zero_le _⟩) hS (fun H locs hP hD hS => ?_)
    refine lv_icmp_ge (tgt := 105) hx hb d_Gr_link_43 (by decide) (fun c7 => ?_) (fun c7 => ?_)
    · rw [if_pos c7] at hf
      have bk0_0 : wc_Gr cI cG cZ ad (k0) (vbk0_1, x0_1, vbk0_15, vbk0_17, x0_4, x0_5, x0_6) ws := ⟨mk0_0, bk0_1, bk0_7, bk0_15, bk0_17⟩
      have he := Option.some.inj hf
      obtain ⟨e0, he⟩ := Prod.mk.inj he
      obtain ⟨e1, e2⟩ := Prod.mk.inj he
      have f0 : wc_Gr cI cG cZ ad (k0) (y0_0, x0_1, y0_2, y0_3, x0_4, x0_5, x0_6) ws := by rw [← e0, ← e1, ← e2]; exact bk0_0
      exact W.vret hx hb hr (fun t ht hW => ⟨⟨ws, rfl, ⟨f0, fr⟩, by rw [ht]; exact hP, hD⟩, hS.F ht⟩) hS.2.2 d_Gr_link_105
    · rw [if_neg c7] at hf
      refine lv_aload_n hx hb d_Gr_link_46 rfl (lv_at hl 1 rfl) ?_
      refine va_get (D := D) (ci := 2) (v := .ref (ad (k0 + 1))) (C := R_Gr) (T := F_Gr) (N := 7) hx hb hts i_Gr hown hK hP (k0) mk0_0 rfl 0 (by decide) (hts _ iw_131) (fun _ h9 => h9) rfl d_Gr_link_47 ?_
      refine lv_iload_n hx hb d_Gr_link_50 rfl (lv_at hl 3 rfl) ?_
      refine lv_iload_n hx hb d_Gr_link_51 rfl (lv_at hl 4 rfl) ?_
      refine lv_iload hx hb d_Gr_link_52 (lv_at hl 0 rfl) ?_
      obtain ⟨p8, hp8, hf⟩ := g_bd hf
      refine hw_ci0 (va_runV (As := [.int a2, .int a3, .int v4]) (rest := []) ⟨hx, hb, hml, hown, hts⟩ (c_Li_linked l D cI cG cZ ad B ws N (k0 + 1) vbk0_1.1 vbk0_1.2.1 vbk0_1.2.2.1 vbk0_1.2.2.2.1 vbk0_1.2.2.2.2.1 vbk0_1.2.2.2.2.2 a2 a3 v4 p8 hp8 bk0_1) (cwV 3 hts (hw_gV iw_353 gy_Li_linked) rfl rfl rfl (by decide +kernel) ⟨Nat.le_of_ble_eq_true rfl, Nat.le_of_ble_eq_true rfl⟩) ⟨hw_blind, va_recv hK hP (ci := 3) (q0 := k0 + 1) rfl bk0_1.1, hw_go hP hD hK hN⟩ rfl rfl hl.1 rfl (lv_room (Nat.le_of_ble_eq_true rfl)) d_Gr_link_54 ⟨Nat.zero_le _, Nat.zero_le _⟩) hS (fun H locs hP hD hS => ?_)
      refine lv_istore (lv' := [(5, .int p8), (4, .int v4), (0, .ref (ad k0)), (1, .ref (ad k1)), (2, .int a2), (3, .int a3)]) hx hb d_Gr_link_57 hl (by decide) rfl (fun ls hl => ?_)
      refine lv_aload_n hx hb d_Gr_link_59 rfl (lv_at hl 2 rfl) ?_
      refine va_get (D := D) (ci := 2) (v := .ref (ad (k0 + 1))) (C := R_Gr) (T := F_Gr) (N := 7) hx hb hts i_Gr hown hK hP (k0) mk0_0 rfl 0 (by decide) (hts _ iw_131) (fun _ h9 => h9) rfl d_Gr_link_60 ?_
      refine lv_iload hx hb d_Gr_link_63 (lv_at hl 0 rfl) ?_
      refine lv_iload_n hx hb d_Gr_link_65 rfl (lv_at hl 5 rfl) ?_
      refine lv_iload_n hx hb d_Gr_link_66 rfl (lv_at hl 4 rfl) ?_
      obtain ⟨p9, hp9, hf⟩ := g_bd hf
      refine hw_cv (va_runV (As := [.int p8, .int a3, .int a2]) (rest := []) ⟨hx, hb, hml, hown, hts⟩ (c_Li_append l D cI cG cZ ad B ws N (k0 + 1) vbk0_1.1 vbk0_1.2.1 vbk0_1.2.2.1 vbk0_1.2.2.2.1 vbk0_1.2.2.2.2.1 vbk0_1.2.2.2.2.2 p8 a3 a2 p9.1 p9.2 hp9 bk0_1) (cwV 3 hts (hw_gV iw_354 gy_Li_append) rfl rfl rfl (by decide +kernel) ⟨Nat.le_of_ble_eq_true rfl, Nat.le_of_ble_eq_true rfl⟩) ⟨hw_blind, va_recv hK hP (ci := 3) (q0 := k0 + 1) rfl bk0_1.1, hw_go hP hD hK hN⟩ rfl rfl hl.1 rfl (lv_room (Nat.le_of_ble_eq_true rfl)) d_Gr_link_67 ⟨Nat.zero_le _, Nat.zero_le _⟩) hS (fun w10 H locs hP hD hS hpp => ?_)
      obtain ⟨q0, frc⟩ := hpp
      have bk0_1 : wc_Li cI cG cZ ad (k0 + 1) (vbk0_1.1, vbk0_1.2.1, p9.1, p9.2, vbk0_1.2.2.2.2.1, vbk0_1.2.2.2.2.2) w10 := q0
      have bk1_0 : wc_Do cI cG cZ ad (k1) (x1_0, x1_1, x1_2, x1_3) w10 := bk1_0.fr (fun j h1 h2 => frc j (by omega))
      have mk0_0 : w10[k0]? = some (ad k0, .inr (2, [.ref (ad (k0 + 1)), .ref (ad (k0 + 7)), .ref (ad (k0 + 15)), .ref (ad (k0 + 17)), .int x0_4, .int x0_5, .int x0_6])) := (frc _ (by omega)).trans mk0_0
      have bk0_15 : wc_Ch cI cG cZ ad (k0 + 15) vbk0_15 w10 := bk0_15.fr (fun j h1 h2 => frc j (by omega))
      have bk0_17 : wc_Rk cI cG cZ ad (k0 + 17) vbk0_17 w10 := bk0_17.fr (fun j h1 h2 => frc j (by omega))
      have bk0_7 : wc_Wa cI cG cZ ad (k0 + 7) x0_1 w10 := bk0_7.fr (fun j h1 h2 => frc j (by omega))
      have fr : ∀ j : Nat, (j < k0 ∨ k0 + 20 ≤ j) → w10[j]? = w0[j]? := fun j o0 => (frc j (by omega)).trans (fr j o0)
      refine lv_aload_n hx hb d_Gr_link_70 rfl (lv_at hl 2 rfl) ?_
      refine va_get (D := D) (ci := 2) (v := .ref (ad (k0 + 1))) (C := R_Gr) (T := F_Gr) (N := 7) hx hb hts i_Gr hown hK hP (k0) mk0_0 rfl 0 (by decide) (hts _ iw_131) (fun _ h9 => h9) rfl d_Gr_link_71 ?_
      refine lv_iload hx hb d_Gr_link_74 (lv_at hl 0 rfl) ?_
      refine lv_iload_n hx hb d_Gr_link_76 rfl (lv_at hl 5 rfl) ?_
      obtain ⟨p11, hp11, hf⟩ := g_bd hf
      refine hw_ci0 (va_runV (As := [.int p8, .int a3]) (rest := []) ⟨hx, hb, hml, hown, hts⟩ (c_Li_degree l D cI cG cZ ad B w10 N (k0 + 1) vbk0_1.1 vbk0_1.2.1 p9.1 p9.2 vbk0_1.2.2.2.2.1 vbk0_1.2.2.2.2.2 p8 a3 p11 hp11 bk0_1) (cwV 2 hts (hw_gV iw_352 gy_Li_degree) rfl rfl rfl (by decide +kernel) ⟨Nat.le_of_ble_eq_true rfl, Nat.le_of_ble_eq_true rfl⟩) ⟨hw_blind, va_recv hK hP (ci := 3) (q0 := k0 + 1) rfl bk0_1.1, hw_go hP hD hK hN⟩ rfl rfl hl.1 rfl (lv_room (Nat.le_of_ble_eq_true rfl)) d_Gr_link_77 ⟨Nat.zero_le _, Nat.zero_le _⟩) hS (fun H locs hP hD hS => ?_)
      refine lv_aload_n hx hb d_Gr_link_80 rfl (lv_at hl 2 rfl) ?_
      refine va_get (D := D) (ci := 2) (v := .ref (ad (k0 + 1))) (C := R_Gr) (T := F_Gr) (N := 7) hx hb hts i_Gr hown hK hP (k0) mk0_0 rfl 0 (by decide) (hts _ iw_131) (fun _ h9 => h9) rfl d_Gr_link_81 ?_
      refine lv_iload_n hx hb d_Gr_link_84 rfl (lv_at hl 5 rfl) ?_
      obtain ⟨p12, hp12, hf⟩ := g_bd hf
      refine hw_ci0 (va_runV (As := [.int a3]) (rest := [.int p11]) ⟨hx, hb, hml, hown, hts⟩ (c_Li_most l D cI cG cZ ad B w10 N (k0 + 1) vbk0_1.1 vbk0_1.2.1 p9.1 p9.2 vbk0_1.2.2.2.2.1 vbk0_1.2.2.2.2.2 a3 p12 hp12 bk0_1) (cwV 1 hts (hw_gV iw_355 gy_Li_most) rfl rfl rfl (by decide +kernel) ⟨Nat.le_of_ble_eq_true rfl, Nat.le_of_ble_eq_true rfl⟩) ⟨hw_blind, va_recv hK hP (ci := 3) (q0 := k0 + 1) rfl bk0_1.1, hw_go hP hD hK hN⟩ rfl rfl hl.1 rfl (lv_room (Nat.le_of_ble_eq_true rfl)) d_Gr_link_85 ⟨Nat.zero_le _, Nat.zero_le _⟩) hS (fun H locs hP hD hS => ?_)
      refine lv_icmp_le (tgt := 99) hx hb d_Gr_link_88 (by decide) (fun c13 => ?_) (fun c13 => ?_)
      · rw [if_pos c13] at hf
        refine lv_iinc (v := v4 + 1) (lv' := [(4, .int (v4 + 1)), (5, .int p8), (0, .ref (ad k0)), (1, .ref (ad k1)), (2, .int a2), (3, .int a3)]) hx hb d_Gr_link_99 hl (k := 1) rfl rfl (by decide) rfl (fun ls hl => ?_)
        refine lv_goto (tgt := 32) hx hb d_Gr_link_102 (by decide) ?_
        exact ih (vbk0_1.1, vbk0_1.2.1, p9.1, p9.2, vbk0_1.2.2.2.2.1, vbk0_1.2.2.2.2.2) vbk0_15 vbk0_17 (v4 + 1) _ _ _ _ hP hD hS (lv_sub hl [0, 2, 3, 4, 5] rfl) mk0_0 bk0_1 bk0_7 bk0_15 bk0_17 bk1_0 fr hf
      · rw [if_neg c13] at hf
        refine lv_aload_n hx hb d_Gr_link_91 rfl (lv_at hl 2 rfl) ?_
        refine lv_aload_n hx hb d_Gr_link_92 rfl (lv_at hl 3 rfl) ?_
        refine lv_iload hx hb d_Gr_link_93 (lv_at hl 0 rfl) ?_
        refine lv_iload_n hx hb d_Gr_link_95 rfl (lv_at hl 5 rfl) ?_
        have bk0_0 : wc_Gr cI cG cZ ad (k0) ((vbk0_1.1, vbk0_1.2.1, p9.1, p9.2, vbk0_1.2.2.2.2.1, vbk0_1.2.2.2.2.2), x0_1, vbk0_15, vbk0_17, x0_4, x0_5, x0_6) w10 := ⟨mk0_0, bk0_1, bk0_7, bk0_15, bk0_17⟩
        obtain ⟨p14, hp14, hf⟩ := g_bd hf
        refine hw_cv (va_runV (As := [.ref (ad k1), .int p8, .int a3]) (rest := []) ⟨hx, hb, hml, hown, hts⟩ (c_Gr_shorten l D cI cG cZ ad B w10 N k0 (vbk0_1.1, vbk0_1.2.1, p9.1, p9.2, vbk0_1.2.2.2.2.1, vbk0_1.2.2.2.2.2) x0_1 vbk0_15 vbk0_17 x0_4 x0_5 x0_6 k1 x1_0 x1_1 x1_2 x1_3 p8 a3 p14.1 p14.2.1 p14.2.2 hp14 bk0_0 bk1_0 (by omega)) (cwV 3 hts (hw_gV iw_359 gy_Gr_shorten) rfl rfl rfl (by decide +kernel) ⟨Nat.le_of_ble_eq_true rfl, Nat.le_of_ble_eq_true rfl⟩) ⟨hw_blind, va_recv hK hP (ci := 2) (q0 := k0) rfl bk0_0.1, hw_go hP hD hK hN⟩ rfl rfl hl.1 rfl (lv_room (Nat.le_of_ble_eq_true rfl)) d_Gr_link_96 ⟨Nat.zero_le _, Nat.zero_le _⟩) hS (fun w15 H locs hP hD hS hpp => ?_)
        obtain ⟨q0, frc⟩ := hpp
        have bk0_0 : wc_Gr cI cG cZ ad (k0) (p14.1, x0_1, p14.2.1, p14.2.2, x0_4, x0_5, x0_6) w15 := q0
        have bk1_0 : wc_Do cI cG cZ ad (k1) (x1_0, x1_1, x1_2, x1_3) w15 := bk1_0.fr (fun j h1 h2 => frc j (by omega))
        have fr : ∀ j : Nat, (j < k0 ∨ k0 + 20 ≤ j) → w15[j]? = w0[j]? := fun j o0 => (frc j (by omega)).trans (fr j o0)
        refine lv_iinc (v := v4 + 1) (lv' := [(4, .int (v4 + 1)), (5, .int p8), (0, .ref (ad k0)), (1, .ref (ad k1)), (2, .int a2), (3, .int a3)]) hx hb d_Gr_link_99 hl (k := 1) rfl rfl (by decide) rfl (fun ls hl => ?_)
        refine lv_goto (tgt := 32) hx hb d_Gr_link_102 (by decide) ?_
        obtain ⟨mk0_0, bk0_1, bk0_7, bk0_15, bk0_17⟩ := id bk0_0
        have mk0_0 : w15[k0]? = some (ad k0, .inr (2, [.ref (ad (k0 + 1)), .ref (ad (k0 + 7)), .ref (ad (k0 + 15)), .ref (ad (k0 + 17)), .int x0_4, .int x0_5, .int x0_6])) := mk0_0
        have bk0_1 : wc_Li cI cG cZ ad (k0 + 1) p14.1 w15 := bk0_1
        have bk0_7 : wc_Wa cI cG cZ ad (k0 + 7) x0_1 w15 := bk0_7
        have bk0_15 : wc_Ch cI cG cZ ad (k0 + 15) p14.2.1 w15 := bk0_15
        have bk0_17 : wc_Rk cI cG cZ ad (k0 + 17) p14.2.2 w15 := bk0_17
        exact ih p14.1 p14.2.1 p14.2.2 (v4 + 1) _ _ _ _ hP hD hS (lv_sub hl [0, 2, 3, 4, 5] rfl) mk0_0 bk0_1 bk0_7 bk0_15 bk0_17 bk1_0 fr hf
set_option maxHeartbeats 4000000 in
set_option maxRecDepth 100000 in
theorem c_Gr_link (l : Launch) (D : va_G) (cI cG cZ : ClassId) (ad : Nat → Nat) (B : Nat) (w0 : va_W) (N : Nat) (k0 : Nat) (x0_0 : T_Li) (x0_1 : T_Wa) (x0_2 : T_Ch) (x0_3 : T_Rk) (x0_4 : Int32) (x0_5 : Int32) (x0_6 : Int32) (k1 : Nat) (x1_0 : (Nat → Nat → Int32)) (x1_1 : (Nat → Int32)) (x1_2 : (Nat → Int32)) (x1_3 : Int32) (a2 : Int32) (a3 : Int32) (y0_0 : T_Li) (y0_2 : T_Ch) (y0_3 : T_Rk) (hf : f_Gr_link N x0_0 x0_1 x0_2 x0_3 x1_0 a2 a3 = some (y0_0, y0_2, y0_3)) (bk0_0 : wc_Gr cI cG cZ ad k0 (x0_0, x0_1, x0_2, x0_3, x0_4, x0_5, x0_6) w0) (bk1_0 : wc_Do cI cG cZ ad k1 (x1_0, x1_1, x1_2, x1_3) w0) (dj0 : k0 + 20 ≤ k1 ∨ k1 + 34 ≤ k0) : Met l y_Gr_link (.code y_Gr_link b_Gr_link 6 none :: hw_G) ({ frames := 4, cells := 0, slots := 0, locals := 98 } : Room) (va_Pc [.ref (ad k0), .ref (ad k1), .int a2, .int a3] (hw_U D cI cG cZ B w0)) (va_Qv (fun (w1 : va_W) => wc_Gr cI cG cZ ad k0 (y0_0, x0_1, y0_2, y0_3, x0_4, x0_5, x0_6) w1 ∧ (∀ j : Nat, (j < k0 ∨ k0 + 20 ≤ j) → w1[j]? = w0[j]?)) (hw_B D B) (fun q : Nat => B ≤ q)) 0 0 (fun q : Nat => B ≤ q) := by
  refine Met.ofW (cc := b_Gr_link) (maxL := 6) (ret := none) (by decide) rfl ?_
  intro p e s m args below meth c s₁ Bd hml hv
  obtain ⟨rfl, hP, hD, hK, hN⟩ := hv
  have C0 : hw_C p s m meth c b_Gr_link 6 _ R_Gr none := ⟨Bd.exec, Bd.bytes, Bd.returns, hml, findClass_of_methodNamed Bd.named, fun w h => atoms_spec (ws := .code y_Gr_link b_Gr_link 6 none :: hw_G) Bd.pre w (List.mem_cons_of_mem _ h), Bd.notSynchronized⟩
  obtain ⟨hx, hb, hr, -, hown, hts, hlocks⟩ := id C0
  have hS : va_S (fun q : Nat => B ≤ q) s.heap s.heap [] := va_S.rf
  have fr : ∀ j : Nat, (j < k0 ∨ k0 + 20 ≤ j) → w0[j]? = w0[j]? := fun j _ => rfl
  have hl := lv_entry ([.ref (ad k0), .ref (ad k1), .int a2, .int a3]) (n := 6) (Nat.le_of_ble_eq_true rfl)
  rw [lg_entry_eq]
  generalize (lg_sl ([.ref (ad k0), .ref (ad k1), .int a2, .int a3]) ++ List.replicate (6 - (lg_sl ([.ref (ad k0), .ref (ad k1), .int a2, .int a3])).length) Slot.unset).toArray = ls at hl ⊢
  have hl : lv_has ls 6 [(0, .ref (ad k0)), (1, .ref (ad k1)), (2, .int a2), (3, .int a3)] := hl
  unfold f_Gr_link at hf
  obtain ⟨mk0_0, bk0_1, bk0_7, bk0_15, bk0_17⟩ := id bk0_0
  have mk0_0 : w0[k0]? = some (ad k0, .inr (2, [.ref (ad (k0 + 1)), .ref (ad (k0 + 7)), .ref (ad (k0 + 15)), .ref (ad (k0 + 17)), .int x0_4, .int x0_5, .int x0_6])) := mk0_0
  have bk0_1 : wc_Li cI cG cZ ad (k0 + 1) x0_0 w0 := bk0_1
  have bk0_7 : wc_Wa cI cG cZ ad (k0 + 7) x0_1 w0 := bk0_7
  have bk0_15 : wc_Ch cI cG cZ ad (k0 + 15) x0_2 w0 := bk0_15
  have bk0_17 : wc_Rk cI cG cZ ad (k0 + 17) x0_3 w0 := bk0_17
  refine lv_aload_n hx hb d_Gr_link_0 rfl (lv_at hl 0 rfl) ?_
  refine va_get (D := D) (ci := 2) (v := .ref (ad (k0 + 15))) (C := R_Gr) (T := F_Gr) (N := 7) hx hb hts i_Gr hown hK hP (k0) mk0_0 rfl 2 (by decide) (hts _ iw_134) (fun _ h9 => h9) rfl d_Gr_link_1 ?_
  refine lv_aload_n hx hb d_Gr_link_4 rfl (lv_at hl 1 rfl) ?_
  refine lv_aload_n hx hb d_Gr_link_5 rfl (lv_at hl 0 rfl) ?_
  refine va_get (D := D) (ci := 2) (v := .ref (ad (k0 + 7))) (C := R_Gr) (T := F_Gr) (N := 7) hx hb hts i_Gr hown hK hP (k0) mk0_0 rfl 1 (by decide) (hts _ iw_133) (fun _ h9 => h9) rfl d_Gr_link_6 ?_
  obtain ⟨p1, hp1, hf⟩ := g_bd hf
  refine hw_cr0 (va_runV (As := []) (rest := [.ref (ad k1), .ref (ad (k0 + 15))]) ⟨hx, hb, hml, hown, hts⟩ (c_Wa_held l D cI cG cZ ad B w0 N (k0 + 7) x0_1.1 x0_1.2.1 x0_1.2.2.1 x0_1.2.2.2 hp1 bk0_7) (cwV 0 hts (hw_gV iw_314 gy_Wa_held) rfl rfl rfl (by decide +kernel) ⟨Nat.le_of_ble_eq_true rfl, Nat.le_of_ble_eq_true rfl⟩) ⟨hw_blind, va_recv hK hP (ci := 5) (q0 := k0 + 7) rfl bk0_7.1, hw_go hP hD hK hN⟩ rfl rfl hl.1 rfl (lv_room (Nat.le_of_ble_eq_true rfl)) d_Gr_link_9 ⟨Nat.zero_le _, Nat.zero_le _⟩) hS (fun H locs hP hD hS => ?_)
  refine lv_iconst (v := 3) hx hb d_Gr_link_12 (by decide) ?_
  obtain ⟨mk0_7, bk0_8, bk0_11, mk0_14⟩ := id bk0_7
  have mk0_7 : w0[k0 + 7]? = some (ad (k0 + 7), .inr (5, [.ref (ad (k0 + 8)), .ref (ad (k0 + 11)), .ref (ad (k0 + 14)), .int x0_1.2.2.2])) := mk0_7
  have bk0_8 : wc_Rk cI cG cZ ad (k0 + 8) x0_1.1 w0 := bk0_8
  have bk0_11 : wc_Rk cI cG cZ ad (k0 + 11) x0_1.2.1 w0 := bk0_11
  have mk0_14 : w0[k0 + 14]? = some (ad (k0 + 14), .inl (cI, 30, .inl x0_1.2.2.1)) := mk0_14
  obtain ⟨p2, hp2, hf⟩ := g_bd hf
  refine hw_cv (va_runV (As := [.ref (ad k1), .ref (ad (k0 + 8)), .int 3]) (rest := []) ⟨hx, hb, hml, hown, hts⟩ (c_Ch_choose l D cI cG cZ ad B w0 N (k0 + 15) x0_2.1 x0_2.2.1 x0_2.2.2 k1 x1_0 x1_1 x1_2 x1_3 (k0 + 8) x0_1.1.1 x0_1.1.2.1 x0_1.1.2.2.1 x0_1.1.2.2.2.1 x0_1.1.2.2.2.2 3 p2.1 p2.2.1 p2.2.2 hp2 bk0_15 bk1_0 bk0_8 (by omega) (by omega)) (cwV 3 hts (hw_gV iw_318 gy_Ch_choose) rfl rfl rfl (by decide +kernel) ⟨Nat.le_of_ble_eq_true rfl, Nat.le_of_ble_eq_true rfl⟩) ⟨hw_blind, va_recv hK hP (ci := 0) (q0 := k0 + 15) rfl bk0_15.1, hw_go hP hD hK hN⟩ rfl rfl hl.1 rfl (lv_room (Nat.le_of_ble_eq_true rfl)) d_Gr_link_13 ⟨Nat.zero_le _, Nat.zero_le _⟩) hS (fun w3 H locs hP hD hS hpp => ?_)
  obtain ⟨q0, frc⟩ := hpp
  have bk0_15 : wc_Ch cI cG cZ ad (k0 + 15) (p2.1, p2.2.1, p2.2.2) w3 := q0
  have bk1_0 : wc_Do cI cG cZ ad (k1) (x1_0, x1_1, x1_2, x1_3) w3 := bk1_0.fr (fun j h1 h2 => frc j (by omega))
  have mk0_0 : w3[k0]? = some (ad k0, .inr (2, [.ref (ad (k0 + 1)), .ref (ad (k0 + 7)), .ref (ad (k0 + 15)), .ref (ad (k0 + 17)), .int x0_4, .int x0_5, .int x0_6])) := (frc _ (by omega)).trans mk0_0
  have bk0_1 : wc_Li cI cG cZ ad (k0 + 1) x0_0 w3 := bk0_1.fr (fun j h1 h2 => frc j (by omega))
  have bk0_17 : wc_Rk cI cG cZ ad (k0 + 17) x0_3 w3 := bk0_17.fr (fun j h1 h2 => frc j (by omega))
  have mk0_7 : w3[k0 + 7]? = some (ad (k0 + 7), .inr (5, [.ref (ad (k0 + 8)), .ref (ad (k0 + 11)), .ref (ad (k0 + 14)), .int x0_1.2.2.2])) := (frc _ (by omega)).trans mk0_7
  have bk0_8 : wc_Rk cI cG cZ ad (k0 + 8) x0_1.1 w3 := bk0_8.fr (fun j h1 h2 => frc j (by omega))
  have bk0_11 : wc_Rk cI cG cZ ad (k0 + 11) x0_1.2.1 w3 := bk0_11.fr (fun j h1 h2 => frc j (by omega))
  have mk0_14 : w3[k0 + 14]? = some (ad (k0 + 14), .inl (cI, 30, .inl x0_1.2.2.1)) := (frc _ (by omega)).trans mk0_14
  have fr : ∀ j : Nat, (j < k0 ∨ k0 + 20 ≤ j) → w3[j]? = w0[j]? := fun j o0 => (frc j (by omega)).trans (fr j o0)
  refine lv_aload_n hx hb d_Gr_link_16 rfl (lv_at hl 0 rfl) ?_
  refine va_get (D := D) (ci := 2) (v := .ref (ad (k0 + 1))) (C := R_Gr) (T := F_Gr) (N := 7) hx hb hts i_Gr hown hK hP (k0) mk0_0 rfl 0 (by decide) (hts _ iw_131) (fun _ h9 => h9) rfl d_Gr_link_17 ?_
  refine lv_iload_n hx hb d_Gr_link_20 rfl (lv_at hl 2 rfl) ?_
  refine lv_iload_n hx hb d_Gr_link_21 rfl (lv_at hl 3 rfl) ?_
  refine lv_aload_n hx hb d_Gr_link_22 rfl (lv_at hl 0 rfl) ?_
  refine va_get (D := D) (ci := 2) (v := .ref (ad (k0 + 15))) (C := R_Gr) (T := F_Gr) (N := 7) hx hb hts i_Gr hown hK hP (k0) mk0_0 rfl 2 (by decide) (hts _ iw_134) (fun _ h9 => h9) rfl d_Gr_link_23 ?_
  obtain ⟨p4, hp4, hf⟩ := g_bd hf
  refine hw_cv (va_runV (As := [.int a2, .int a3, .ref (ad (k0 + 15))]) (rest := []) ⟨hx, hb, hml, hown, hts⟩ (c_Li_replace l D cI cG cZ ad B w3 N (k0 + 1) x0_0.1 x0_0.2.1 x0_0.2.2.1 x0_0.2.2.2.1 x0_0.2.2.2.2.1 x0_0.2.2.2.2.2 (k0 + 15) p2.1 p2.2.1 p2.2.2 a2 a3 p4.1 p4.2 hp4 bk0_1 bk0_15 (by omega)) (cwV 3 hts (hw_gV iw_336 gy_Li_replace) rfl rfl rfl (by decide +kernel) ⟨Nat.le_of_ble_eq_true rfl, Nat.le_of_ble_eq_true rfl⟩) ⟨hw_blind, va_recv hK hP (ci := 3) (q0 := k0 + 1) rfl bk0_1.1, hw_go hP hD hK hN⟩ rfl rfl hl.1 rfl (lv_room (Nat.le_of_ble_eq_true rfl)) d_Gr_link_26 ⟨Nat.zero_le _, Nat.zero_le _⟩) hS (fun w5 H locs hP hD hS hpp => ?_)
  obtain ⟨q0, frc⟩ := hpp
  have bk0_1 : wc_Li cI cG cZ ad (k0 + 1) (x0_0.1, x0_0.2.1, p4.1, p4.2, x0_0.2.2.2.2.1, x0_0.2.2.2.2.2) w5 := q0
  have bk1_0 : wc_Do cI cG cZ ad (k1) (x1_0, x1_1, x1_2, x1_3) w5 := bk1_0.fr (fun j h1 h2 => frc j (by omega))
  have mk0_0 : w5[k0]? = some (ad k0, .inr (2, [.ref (ad (k0 + 1)), .ref (ad (k0 + 7)), .ref (ad (k0 + 15)), .ref (ad (k0 + 17)), .int x0_4, .int x0_5, .int x0_6])) := (frc _ (by omega)).trans mk0_0
  have bk0_15 : wc_Ch cI cG cZ ad (k0 + 15) (p2.1, p2.2.1, p2.2.2) w5 := bk0_15.fr (fun j h1 h2 => frc j (by omega))
  have bk0_17 : wc_Rk cI cG cZ ad (k0 + 17) x0_3 w5 := bk0_17.fr (fun j h1 h2 => frc j (by omega))
  have mk0_7 : w5[k0 + 7]? = some (ad (k0 + 7), .inr (5, [.ref (ad (k0 + 8)), .ref (ad (k0 + 11)), .ref (ad (k0 + 14)), .int x0_1.2.2.2])) := (frc _ (by omega)).trans mk0_7
  have bk0_8 : wc_Rk cI cG cZ ad (k0 + 8) x0_1.1 w5 := bk0_8.fr (fun j h1 h2 => frc j (by omega))
  have bk0_11 : wc_Rk cI cG cZ ad (k0 + 11) x0_1.2.1 w5 := bk0_11.fr (fun j h1 h2 => frc j (by omega))
  have mk0_14 : w5[k0 + 14]? = some (ad (k0 + 14), .inl (cI, 30, .inl x0_1.2.2.1)) := (frc _ (by omega)).trans mk0_14
  have fr : ∀ j : Nat, (j < k0 ∨ k0 + 20 ≤ j) → w5[j]? = w0[j]? := fun j o0 => (frc j (by omega)).trans (fr j o0)
  refine lv_iconst (v := 0) hx hb d_Gr_link_29 (by decide) ?_
  refine lv_istore (lv' := [(4, .int 0), (0, .ref (ad k0)), (1, .ref (ad k1)), (2, .int a2), (3, .int a3)]) hx hb d_Gr_link_30 hl (by decide) rfl (fun ls hl => ?_)
  have bk0_7 : wc_Wa cI cG cZ ad (k0 + 7) x0_1 w5 := ⟨mk0_7, bk0_8, bk0_11, mk0_14⟩
  exact wl_Gr_link_32 (ad := ad) C0 hK hN dj0 x0_1 x0_4 x0_5 x0_6 x1_0 x1_1 x1_2 x1_3 a2 a3 x0_0 x0_2 x0_3 y0_0 y0_2 y0_3 N (x0_0.1, x0_0.2.1, p4.1, p4.2, x0_0.2.2.2.2.1, x0_0.2.2.2.2.2) (p2.1, p2.2.1, p2.2.2) x0_3 0 _ _ _ _ hP hD hS (lv_sub hl [0, 1, 2, 3, 4] rfl) mk0_0 bk0_1 bk0_7 bk0_15 bk0_17 bk1_0 fr hf
set_option maxHeartbeats 4000000 in
set_option maxRecDepth 100000 in
theorem wl_Gr_enter_55 {p : Program} {l : Launch} {e : Env} {s : State} {m : MethodId} {args : Array Value} {below : List Frame} {meth : Method} {c : Code} {D : va_G} {cI cG cZ : ClassId} {ad : Nat → Nat} {B : Nat} {w0 : va_W} {N : Nat} {k0 : Nat} {k1 : Nat} (C0 : hw_C p s m meth c b_Gr_enter 6 args R_Gr none) (hK : va_K D classes [(cI, .int), (cG, .array .int), (cZ, .boolean)] s) (hN : hw_N s) (dj0 : k0 + 20 ≤ k1 ∨ k1 + 34 ≤ k0) (x0_4 : Int32) (x0_5 : Int32) (x1_0 : (Nat → Nat → Int32)) (x1_1 : (Nat → Int32)) (x1_2 : (Nat → Int32)) (x1_3 : Int32) (a2 : Int32) (p4 : Int32) (x0_0 : T_Li) (x0_1 : T_Wa) (x0_2 : T_Ch) (x0_3 : T_Rk) (x0_6 : Int32) (y0_0 : T_Li) (y0_1 : T_Wa) (y0_2 : T_Ch) (y0_3 : T_Rk) (y0_4 : Int32) (y0_6 : Int32) : ∀ (n : Nat) (vbk0_1 : T_Li) (vbk0_15 : T_Ch) (vbk0_17 : T_Rk) (vbk0_7 : T_Wa) (vfk0_0_6 : Int32) (v4 : Int32) (ws : va_W) (H : Heap) (locs : List Loc) (ls : Array Slot), va_P D classes ws H → va_D (fun q : Nat => B ≤ q) ws → va_S (fun q : Nat => B ≤ q) s.heap H locs → lv_has ls 6 [(4, .int v4), (3, .int p4), (0, .ref (ad k0)), (1, .ref (ad k1)), (2, .int a2)] → ws[k0]? = some (ad k0, .inr (2, [.ref (ad (k0 + 1)), .ref (ad (k0 + 7)), .ref (ad (k0 + 15)), .ref (ad (k0 + 17)), .int x0_4, .int x0_5, .int vfk0_0_6])) → wc_Li cI cG cZ ad (k0 + 1) vbk0_1 ws → wc_Wa cI cG cZ ad (k0 + 7) vbk0_7 ws → wc_Ch cI cG cZ ad (k0 + 15) vbk0_15 ws → wc_Rk cI cG cZ ad (k0 + 17) vbk0_17 ws → wc_Do cI cG cZ ad (k1) (x1_0, x1_1, x1_2, x1_3) ws → (∀ j : Nat, (j < k0 ∨ k0 + 20 ≤ j) → ws[j]? = w0[j]?) → f_Gr_enter_55 N x0_4 x1_0 a2 p4 n vbk0_1 vbk0_15 vbk0_17 vbk0_7 vfk0_0_6 v4 = some (y0_0, y0_1, y0_2, y0_3, y0_4, y0_6) → W p l e ({ frames := 5, cells := 0, slots := 0, locals := 123 } : Room) s m args below meth c H locs 0 0 (MQ below (va_Qv (fun (w1 : va_W) => wc_Gr cI cG cZ ad k0 (y0_0, y0_1, y0_2, y0_3, y0_4, x0_5, y0_6) w1 ∧ (∀ j : Nat, (j < k0 ∨ k0 + 20 ≤ j) → w1[j]? = w0[j]?)) (hw_B D B) (fun q : Nat => B ≤ q)) args s 0 0 (fun q : Nat => B ≤ q)) (F0 m 55 ls []) := by
  obtain ⟨hx, hb, hr, hml, hown, hts, hlocks⟩ := id C0
  intro n
  induction n with
  | zero =>
    intro vbk0_1 vbk0_15 vbk0_17 vbk0_7 vfk0_0_6 v4 ws H locs ls hP hD hS hl mk0_0 bk0_1 bk0_7 bk0_15 bk0_17 bk1_0 fr hf
    exact nomatch (show none = some _ from hf)
  | succ n ih =>
    intro vbk0_1 vbk0_15 vbk0_17 vbk0_7 vfk0_0_6 v4 ws H locs ls hP hD hS hl mk0_0 bk0_1 bk0_7 bk0_15 bk0_17 bk1_0 fr hf
    rw [f_Gr_enter_55] at hf
    refine lv_iload hx hb d_Gr_enter_55 (lv_at hl 0 rfl) ?_
    refine lv_if_lt (tgt := 124) hx hb d_Gr_enter_57 (by decide) (fun c11 => ?_) (fun c11 => ?_)
    · rw [if_pos c11] at hf
      refine lv_iload_n hx hb d_Gr_enter_124 rfl (lv_at hl 1 rfl) ?_
      refine lv_aload_n hx hb d_Gr_enter_125 rfl (lv_at hl 2 rfl) ?_
      have bk0_0 : wc_Gr cI cG cZ ad (k0) (vbk0_1, vbk0_7, vbk0_15, vbk0_17, x0_4, x0_5, vfk0_0_6) ws := ⟨mk0_0, bk0_1, bk0_7, bk0_15, bk0_17⟩
      obtain ⟨p12, hp12, hf⟩ := g_bd hf
      refine hw_ci0 (va_runV (As := []) (rest := [.int p4]) ⟨hx, hb, hml, hown, hts⟩ (c_Gr_top l D cI cG cZ ad B ws N k0 vbk0_1 vbk0_7 vbk0_15 vbk0_17 x0_4 x0_5 vfk0_0_6 p12 hp12 bk0_0) (cwV 0 hts (hw_gV iw_249 gy_Gr_top) rfl rfl rfl (by decide +kernel) ⟨Nat.le_of_ble_eq_true rfl, Nat.le_of_ble_eq_true rfl⟩) ⟨hw_blind, va_recv hK hP (ci := 2) (q0 := k0) rfl bk0_0.1, hw_go hP hD hK hN⟩ rfl rfl hl.1 rfl (lv_room (Nat.le_of_ble_eq_true rfl)) d_Gr_enter_126 ⟨Nat.zero_le _, Nat.zero_le _⟩) hS (fun H locs hP hD hS => ?_)
      refine lv_icmp_le (tgt := 137) hx hb d_Gr_enter_129 (by decide) (fun c13 => ?_) (fun c13 => ?_)
      · rw [if_pos c13] at hf
        have he := Option.some.inj hf
        obtain ⟨e0, he⟩ := Prod.mk.inj he
        obtain ⟨e1, he⟩ := Prod.mk.inj he
        obtain ⟨e2, he⟩ := Prod.mk.inj he
        obtain ⟨e3, he⟩ := Prod.mk.inj he
        obtain ⟨e4, e5⟩ := Prod.mk.inj he
        have f0 : wc_Gr cI cG cZ ad (k0) (y0_0, y0_1, y0_2, y0_3, y0_4, x0_5, y0_6) ws := by rw [← e0, ← e1, ← e2, ← e3, ← e4, ← e5]; exact bk0_0
        exact W.vret hx hb hr (fun t ht hW => ⟨⟨ws, rfl, ⟨f0, fr⟩, by rw [ht]; exact hP, hD⟩, hS.F ht⟩) hS.2.2 d_Gr_enter_137
      · rw [if_neg c13] at hf
        refine lv_aload_n hx hb d_Gr_enter_132 rfl (lv_at hl 2 rfl) ?_
        refine lv_iload_n hx hb d_Gr_enter_133 rfl (lv_at hl 4 rfl) ?_
        obtain ⟨mk0_0, bk0_1, bk0_7, bk0_15, bk0_17⟩ := id bk0_0
        have mk0_0 : ws[k0]? = some (ad k0, .inr (2, [.ref (ad (k0 + 1)), .ref (ad (k0 + 7)), .ref (ad (k0 + 15)), .ref (ad (k0 + 17)), .int x0_4, .int x0_5, .int vfk0_0_6])) := mk0_0
        have bk0_1 : wc_Li cI cG cZ ad (k0 + 1) vbk0_1 ws := bk0_1
        have bk0_7 : wc_Wa cI cG cZ ad (k0 + 7) vbk0_7 ws := bk0_7
        have bk0_15 : wc_Ch cI cG cZ ad (k0 + 15) vbk0_15 ws := bk0_15
        have bk0_17 : wc_Rk cI cG cZ ad (k0 + 17) vbk0_17 ws := bk0_17
        refine va_put (D := D) (ci := 2) (v := .int a2) (ty := .int) (C := R_Gr) (T := F_Gr) (N := 7) hx hb hts i_Gr t_Gr t_Gr_ok n_Gr hown hK hP hD hS (k0) mk0_0 rfl 4 (by decide) (hts _ iw_136) (fun _ h9 => h9) rfl (by decide +kernel) rfl rfl (Nat.le_of_ble_eq_true rfl) d_Gr_enter_134 (fun H locs hP hD hS => ?_)
        obtain ⟨w14, hP, hD, hne, heq⟩ := hs_up hP hD mk0_0
        have mk0_0 : w14[k0]? = some (ad k0, .inr (2, [.ref (ad (k0 + 1)), .ref (ad (k0 + 7)), .ref (ad (k0 + 15)), .ref (ad (k0 + 17)), .int a2, .int x0_5, .int vfk0_0_6])) := heq
        have bk1_0 : wc_Do cI cG cZ ad (k1) (x1_0, x1_1, x1_2, x1_3) w14 := bk1_0.fr (fun j h1 h2 => hne j (by omega))
        have bk0_1 : wc_Li cI cG cZ ad (k0 + 1) vbk0_1 w14 := bk0_1.fr (fun j h1 h2 => hne j (by omega))
        have bk0_7 : wc_Wa cI cG cZ ad (k0 + 7) vbk0_7 w14 := bk0_7.fr (fun j h1 h2 => hne j (by omega))
        have bk0_15 : wc_Ch cI cG cZ ad (k0 + 15) vbk0_15 w14 := bk0_15.fr (fun j h1 h2 => hne j (by omega))
        have bk0_17 : wc_Rk cI cG cZ ad (k0 + 17) vbk0_17 w14 := bk0_17.fr (fun j h1 h2 => hne j (by omega))
        have fr : ∀ j : Nat, (j < k0 ∨ k0 + 20 ≤ j) → w14[j]? = w0[j]? := fun j o0 => (hne j (by omega)).trans (fr j o0)
        have bk0_0 : wc_Gr cI cG cZ ad (k0) (vbk0_1, vbk0_7, vbk0_15, vbk0_17, a2, x0_5, vfk0_0_6) w14 := ⟨mk0_0, bk0_1, bk0_7, bk0_15, bk0_17⟩
        have he := Option.some.inj hf
        obtain ⟨e0, he⟩ := Prod.mk.inj he
        obtain ⟨e1, he⟩ := Prod.mk.inj he
        obtain ⟨e2, he⟩ := Prod.mk.inj he
        obtain ⟨e3, he⟩ := Prod.mk.inj he
        obtain ⟨e4, e5⟩ := Prod.mk.inj he
        have f0 : wc_Gr cI cG cZ ad (k0) (y0_0, y0_1, y0_2, y0_3, y0_4, x0_5, y0_6) w14 := by rw [← e0, ← e1, ← e2, ← e3, ← e4, ← e5]; exact bk0_0
        exact W.vret hx hb hr (fun t ht hW => ⟨⟨w14, rfl, ⟨f0, fr⟩, by rw [ht]; exact hP, hD⟩, hS.F ht⟩) hS.2.2 d_Gr_enter_137
    · rw [if_neg c11] at hf
      refine lv_iload hx hb d_Gr_enter_60 (lv_at hl 0 rfl) ?_
      refine lv_iload_n hx hb d_Gr_enter_62 rfl (lv_at hl 1 rfl) ?_
      refine lv_icmp_le (tgt := 70) hx hb d_Gr_enter_63 (by decide) (fun c15 => ?_) (fun c15 => ?_)
      · rw [if_pos c15] at hf
        refine lv_iconst (v := 0) hx hb d_Gr_enter_70 (by decide) ?_
        refine lv_istore (lv' := [(5, .int 0), (4, .int v4), (3, .int p4), (0, .ref (ad k0)), (1, .ref (ad k1)), (2, .int a2)]) hx hb d_Gr_enter_71 hl (by decide) rfl (fun ls hl => ?_)
        refine lv_aload_n hx hb d_Gr_enter_73 rfl (lv_at hl 3 rfl) ?_
        refine lv_dup hx hb d_Gr_enter_74 rfl ?_
        refine va_get (D := D) (ci := 2) (v := .int vfk0_0_6) (C := R_Gr) (T := F_Gr) (N := 7) hx hb hts i_Gr hown hK hP (k0) mk0_0 rfl 6 (by decide) (hts _ iw_138) (fun _ h9 => h9) rfl d_Gr_enter_75 ?_
        refine lv_aload_n hx hb d_Gr_enter_78 rfl (lv_at hl 3 rfl) ?_
        refine va_get (D := D) (ci := 2) (v := .ref (ad (k0 + 7))) (C := R_Gr) (T := F_Gr) (N := 7) hx hb hts i_Gr hown hK hP (k0) mk0_0 rfl 1 (by decide) (hts _ iw_133) (fun _ h9 => h9) rfl d_Gr_enter_79 ?_
        refine lv_aload_n hx hb d_Gr_enter_82 rfl (lv_at hl 3 rfl) ?_
        refine va_get (D := D) (ci := 2) (v := .ref (ad (k0 + 1))) (C := R_Gr) (T := F_Gr) (N := 7) hx hb hts i_Gr hown hK hP (k0) mk0_0 rfl 0 (by decide) (hts _ iw_131) (fun _ h9 => h9) rfl d_Gr_enter_83 ?_
        refine lv_iload hx hb d_Gr_enter_86 (lv_at hl 1 rfl) ?_
        refine lv_iload hx hb d_Gr_enter_88 (lv_at hl 0 rfl) ?_
        refine lv_if_eq (tgt := 97) hx hb d_Gr_enter_90 (by decide) (fun c16 => ?_) (fun c16 => ?_)
        · refine lv_iconst (v := 5) hx hb d_Gr_enter_97 (by decide) ?_
          obtain ⟨p17, hp17, hf⟩ := g_bd hf
          refine hw_ci (va_runV (As := [.ref (ad (k0 + 1)), .int v4, .int 5]) (rest := [.int vfk0_0_6, .ref (ad k0)]) ⟨hx, hb, hml, hown, hts⟩ (c_Wa_walk l D cI cG cZ ad B ws N (k0 + 7) vbk0_7.1 vbk0_7.2.1 vbk0_7.2.2.1 vbk0_7.2.2.2 (k0 + 1) vbk0_1.1 vbk0_1.2.1 vbk0_1.2.2.1 vbk0_1.2.2.2.1 vbk0_1.2.2.2.2.1 vbk0_1.2.2.2.2.2 v4 5 p17.1 p17.2.1 p17.2.2.1 p17.2.2.2 hp17 bk0_7 bk0_1 (by omega)) (cwV 3 hts (hw_gV iw_253 gy_Wa_walk) rfl rfl rfl (by decide +kernel) ⟨Nat.le_of_ble_eq_true rfl, Nat.le_of_ble_eq_true rfl⟩) ⟨hw_blind, va_recv hK hP (ci := 5) (q0 := k0 + 7) rfl bk0_7.1, hw_go hP hD hK hN⟩ rfl rfl hl.1 rfl (lv_room (Nat.le_of_ble_eq_true rfl)) d_Gr_enter_98 ⟨Nat.zero_le _, Nat.zero_le _⟩) hS (fun w18 H locs hP hD hS hpp => ?_)
          obtain ⟨q0, frc⟩ := hpp
          have bk0_7 : wc_Wa cI cG cZ ad (k0 + 7) (p17.2.1, p17.2.2.1, vbk0_7.2.2.1, p17.2.2.2) w18 := q0
          have bk1_0 : wc_Do cI cG cZ ad (k1) (x1_0, x1_1, x1_2, x1_3) w18 := bk1_0.fr (fun j h1 h2 => frc j (by omega))
          have mk0_0 : w18[k0]? = some (ad k0, .inr (2, [.ref (ad (k0 + 1)), .ref (ad (k0 + 7)), .ref (ad (k0 + 15)), .ref (ad (k0 + 17)), .int x0_4, .int x0_5, .int vfk0_0_6])) := (frc _ (by omega)).trans mk0_0
          have bk0_1 : wc_Li cI cG cZ ad (k0 + 1) vbk0_1 w18 := bk0_1.fr (fun j h1 h2 => frc j (by omega))
          have bk0_15 : wc_Ch cI cG cZ ad (k0 + 15) vbk0_15 w18 := bk0_15.fr (fun j h1 h2 => frc j (by omega))
          have bk0_17 : wc_Rk cI cG cZ ad (k0 + 17) vbk0_17 w18 := bk0_17.fr (fun j h1 h2 => frc j (by omega))
          have fr : ∀ j : Nat, (j < k0 ∨ k0 + 20 ≤ j) → w18[j]? = w0[j]? := fun j o0 => (frc j (by omega)).trans (fr j o0)
          refine lv_iadd hx hb d_Gr_enter_101 ?_
          refine va_put (D := D) (ci := 2) (v := .int (vfk0_0_6 + p17.1)) (ty := .int) (C := R_Gr) (T := F_Gr) (N := 7) hx hb hts i_Gr t_Gr t_Gr_ok n_Gr hown hK hP hD hS (k0) mk0_0 rfl 6 (by decide) (hts _ iw_138) (fun _ h9 => h9) rfl (by decide +kernel) rfl rfl (Nat.le_of_ble_eq_true rfl) d_Gr_enter_102 (fun H locs hP hD hS => ?_)
          obtain ⟨w19, hP, hD, hne, heq⟩ := hs_up hP hD mk0_0
          have mk0_0 : w19[k0]? = some (ad k0, .inr (2, [.ref (ad (k0 + 1)), .ref (ad (k0 + 7)), .ref (ad (k0 + 15)), .ref (ad (k0 + 17)), .int x0_4, .int x0_5, .int (vfk0_0_6 + p17.1)])) := heq
          have bk1_0 : wc_Do cI cG cZ ad (k1) (x1_0, x1_1, x1_2, x1_3) w19 := bk1_0.fr (fun j h1 h2 => hne j (by omega))
          have bk0_1 : wc_Li cI cG cZ ad (k0 + 1) vbk0_1 w19 := bk0_1.fr (fun j h1 h2 => hne j (by omega))
          have bk0_7 : wc_Wa cI cG cZ ad (k0 + 7) (p17.2.1, p17.2.2.1, vbk0_7.2.2.1, p17.2.2.2) w19 := bk0_7.fr (fun j h1 h2 => hne j (by omega))
          have bk0_15 : wc_Ch cI cG cZ ad (k0 + 15) vbk0_15 w19 := bk0_15.fr (fun j h1 h2 => hne j (by omega))
          have bk0_17 : wc_Rk cI cG cZ ad (k0 + 17) vbk0_17 w19 := bk0_17.fr (fun j h1 h2 => hne j (by omega))
          have fr : ∀ j : Nat, (j < k0 ∨ k0 + 20 ≤ j) → w19[j]? = w0[j]? := fun j o0 => (hne j (by omega)).trans (fr j o0)
          refine lv_iload hx hb d_Gr_enter_105 (lv_at hl 0 rfl) ?_
          refine lv_if_ne (tgt := 118) hx hb d_Gr_enter_107 (by decide) (fun c20 => ?_) (fun c20 => ?_)
          · exact absurd (by decide) c20
          · refine lv_aload_n hx hb d_Gr_enter_110 rfl (lv_at hl 3 rfl) ?_
            refine lv_aload_n hx hb d_Gr_enter_111 rfl (lv_at hl 4 rfl) ?_
            refine lv_iload_n hx hb d_Gr_enter_112 rfl (lv_at hl 5 rfl) ?_
            refine lv_iload hx hb d_Gr_enter_113 (lv_at hl 1 rfl) ?_
            have bk0_0 : wc_Gr cI cG cZ ad (k0) (vbk0_1, (p17.2.1, p17.2.2.1, vbk0_7.2.2.1, p17.2.2.2), vbk0_15, vbk0_17, x0_4, x0_5, vfk0_0_6 + p17.1) w19 := ⟨mk0_0, bk0_1, bk0_7, bk0_15, bk0_17⟩
            obtain ⟨p21, hp21, hf⟩ := g_bd hf
            refine hw_cv (va_runV (As := [.ref (ad k1), .int a2, .int v4]) (rest := []) ⟨hx, hb, hml, hown, hts⟩ (c_Gr_link l D cI cG cZ ad B w19 N k0 vbk0_1 (p17.2.1, p17.2.2.1, vbk0_7.2.2.1, p17.2.2.2) vbk0_15 vbk0_17 x0_4 x0_5 (vfk0_0_6 + p17.1) k1 x1_0 x1_1 x1_2 x1_3 a2 v4 p21.1 p21.2.1 p21.2.2 hp21 bk0_0 bk1_0 (by omega)) (cwV 3 hts (hw_gV iw_310 gy_Gr_link) rfl rfl rfl (by decide +kernel) ⟨Nat.le_of_ble_eq_true rfl, Nat.le_of_ble_eq_true rfl⟩) ⟨hw_blind, va_recv hK hP (ci := 2) (q0 := k0) rfl bk0_0.1, hw_go hP hD hK hN⟩ rfl rfl hl.1 rfl (lv_room (Nat.le_of_ble_eq_true rfl)) d_Gr_enter_115 ⟨Nat.zero_le _, Nat.zero_le _⟩) hS (fun w22 H locs hP hD hS hpp => ?_)
            obtain ⟨q0, frc⟩ := hpp
            have bk0_0 : wc_Gr cI cG cZ ad (k0) (p21.1, (p17.2.1, p17.2.2.1, vbk0_7.2.2.1, p17.2.2.2), p21.2.1, p21.2.2, x0_4, x0_5, vfk0_0_6 + p17.1) w22 := q0
            have bk1_0 : wc_Do cI cG cZ ad (k1) (x1_0, x1_1, x1_2, x1_3) w22 := bk1_0.fr (fun j h1 h2 => frc j (by omega))
            have fr : ∀ j : Nat, (j < k0 ∨ k0 + 20 ≤ j) → w22[j]? = w0[j]? := fun j o0 => (frc j (by omega)).trans (fr j o0)
            refine lv_iinc (v := v4 + (-1)) (lv' := [(4, .int (v4 + (-1))), (5, .int 0), (3, .int p4), (0, .ref (ad k0)), (1, .ref (ad k1)), (2, .int a2)]) hx hb d_Gr_enter_118 hl (k := 1) rfl rfl (by decide) rfl (fun ls hl => ?_)
            refine lv_goto (tgt := 55) hx hb d_Gr_enter_121 (by decide) ?_
            obtain ⟨mk0_0, bk0_1, bk0_7, bk0_15, bk0_17⟩ := id bk0_0
            have mk0_0 : w22[k0]? = some (ad k0, .inr (2, [.ref (ad (k0 + 1)), .ref (ad (k0 + 7)), .ref (ad (k0 + 15)), .ref (ad (k0 + 17)), .int x0_4, .int x0_5, .int (vfk0_0_6 + p17.1)])) := mk0_0
            have bk0_1 : wc_Li cI cG cZ ad (k0 + 1) p21.1 w22 := bk0_1
            have bk0_7 : wc_Wa cI cG cZ ad (k0 + 7) (p17.2.1, p17.2.2.1, vbk0_7.2.2.1, p17.2.2.2) w22 := bk0_7
            have bk0_15 : wc_Ch cI cG cZ ad (k0 + 15) p21.2.1 w22 := bk0_15
            have bk0_17 : wc_Rk cI cG cZ ad (k0 + 17) p21.2.2 w22 := bk0_17
            exact ih p21.1 p21.2.1 p21.2.2 (p17.2.1, p17.2.2.1, vbk0_7.2.2.1, p17.2.2.2) (vfk0_0_6 + p17.1) (v4 + (-1)) _ _ _ _ hP hD hS (lv_sub hl [0, 2, 3, 4, 5] rfl) mk0_0 bk0_1 bk0_7 bk0_15 bk0_17 bk1_0 fr hf
        · exact absurd (by decide) c16
      · rw [if_neg c15] at hf
        refine lv_iconst (v := 1) hx hb d_Gr_enter_66 (by decide) ?_
        refine lv_goto (tgt := 71) hx hb d_Gr_enter_67 (by decide) ?_
        refine lv_istore (lv' := [(5, .int 1), (4, .int v4), (3, .int p4), (0, .ref (ad k0)), (1, .ref (ad k1)), (2, .int a2)]) hx hb d_Gr_enter_71 hl (by decide) rfl (fun ls hl => ?_)
        refine lv_aload_n hx hb d_Gr_enter_73 rfl (lv_at hl 3 rfl) ?_
        refine lv_dup hx hb d_Gr_enter_74 rfl ?_
        refine va_get (D := D) (ci := 2) (v := .int vfk0_0_6) (C := R_Gr) (T := F_Gr) (N := 7) hx hb hts i_Gr hown hK hP (k0) mk0_0 rfl 6 (by decide) (hts _ iw_138) (fun _ h9 => h9) rfl d_Gr_enter_75 ?_
        refine lv_aload_n hx hb d_Gr_enter_78 rfl (lv_at hl 3 rfl) ?_
        refine va_get (D := D) (ci := 2) (v := .ref (ad (k0 + 7))) (C := R_Gr) (T := F_Gr) (N := 7) hx hb hts i_Gr hown hK hP (k0) mk0_0 rfl 1 (by decide) (hts _ iw_133) (fun _ h9 => h9) rfl d_Gr_enter_79 ?_
        refine lv_aload_n hx hb d_Gr_enter_82 rfl (lv_at hl 3 rfl) ?_
        refine va_get (D := D) (ci := 2) (v := .ref (ad (k0 + 1))) (C := R_Gr) (T := F_Gr) (N := 7) hx hb hts i_Gr hown hK hP (k0) mk0_0 rfl 0 (by decide) (hts _ iw_131) (fun _ h9 => h9) rfl d_Gr_enter_83 ?_
        refine lv_iload hx hb d_Gr_enter_86 (lv_at hl 1 rfl) ?_
        refine lv_iload hx hb d_Gr_enter_88 (lv_at hl 0 rfl) ?_
        refine lv_if_eq (tgt := 97) hx hb d_Gr_enter_90 (by decide) (fun c23 => ?_) (fun c23 => ?_)
        · exact absurd c23 (by decide)
        · refine lv_iconst (v := 1) hx hb d_Gr_enter_93 (by decide) ?_
          refine lv_goto (tgt := 98) hx hb d_Gr_enter_94 (by decide) ?_
          obtain ⟨p24, hp24, hf⟩ := g_bd hf
          refine hw_ci (va_runV (As := [.ref (ad (k0 + 1)), .int v4, .int 1]) (rest := [.int vfk0_0_6, .ref (ad k0)]) ⟨hx, hb, hml, hown, hts⟩ (c_Wa_walk l D cI cG cZ ad B ws N (k0 + 7) vbk0_7.1 vbk0_7.2.1 vbk0_7.2.2.1 vbk0_7.2.2.2 (k0 + 1) vbk0_1.1 vbk0_1.2.1 vbk0_1.2.2.1 vbk0_1.2.2.2.1 vbk0_1.2.2.2.2.1 vbk0_1.2.2.2.2.2 v4 1 p24.1 p24.2.1 p24.2.2.1 p24.2.2.2 hp24 bk0_7 bk0_1 (by omega)) (cwV 3 hts (hw_gV iw_253 gy_Wa_walk) rfl rfl rfl (by decide +kernel) ⟨Nat.le_of_ble_eq_true rfl, Nat.le_of_ble_eq_true rfl⟩) ⟨hw_blind, va_recv hK hP (ci := 5) (q0 := k0 + 7) rfl bk0_7.1, hw_go hP hD hK hN⟩ rfl rfl hl.1 rfl (lv_room (Nat.le_of_ble_eq_true rfl)) d_Gr_enter_98 ⟨Nat.zero_le _, Nat.zero_le _⟩) hS (fun w25 H locs hP hD hS hpp => ?_)
          obtain ⟨q0, frc⟩ := hpp
          have bk0_7 : wc_Wa cI cG cZ ad (k0 + 7) (p24.2.1, p24.2.2.1, vbk0_7.2.2.1, p24.2.2.2) w25 := q0
          have bk1_0 : wc_Do cI cG cZ ad (k1) (x1_0, x1_1, x1_2, x1_3) w25 := bk1_0.fr (fun j h1 h2 => frc j (by omega))
          have mk0_0 : w25[k0]? = some (ad k0, .inr (2, [.ref (ad (k0 + 1)), .ref (ad (k0 + 7)), .ref (ad (k0 + 15)), .ref (ad (k0 + 17)), .int x0_4, .int x0_5, .int vfk0_0_6])) := (frc _ (by omega)).trans mk0_0
          have bk0_1 : wc_Li cI cG cZ ad (k0 + 1) vbk0_1 w25 := bk0_1.fr (fun j h1 h2 => frc j (by omega))
          have bk0_15 : wc_Ch cI cG cZ ad (k0 + 15) vbk0_15 w25 := bk0_15.fr (fun j h1 h2 => frc j (by omega))
          have bk0_17 : wc_Rk cI cG cZ ad (k0 + 17) vbk0_17 w25 := bk0_17.fr (fun j h1 h2 => frc j (by omega))
          have fr : ∀ j : Nat, (j < k0 ∨ k0 + 20 ≤ j) → w25[j]? = w0[j]? := fun j o0 => (frc j (by omega)).trans (fr j o0)
          refine lv_iadd hx hb d_Gr_enter_101 ?_
          refine va_put (D := D) (ci := 2) (v := .int (vfk0_0_6 + p24.1)) (ty := .int) (C := R_Gr) (T := F_Gr) (N := 7) hx hb hts i_Gr t_Gr t_Gr_ok n_Gr hown hK hP hD hS (k0) mk0_0 rfl 6 (by decide) (hts _ iw_138) (fun _ h9 => h9) rfl (by decide +kernel) rfl rfl (Nat.le_of_ble_eq_true rfl) d_Gr_enter_102 (fun H locs hP hD hS => ?_)
          obtain ⟨w26, hP, hD, hne, heq⟩ := hs_up hP hD mk0_0
          have mk0_0 : w26[k0]? = some (ad k0, .inr (2, [.ref (ad (k0 + 1)), .ref (ad (k0 + 7)), .ref (ad (k0 + 15)), .ref (ad (k0 + 17)), .int x0_4, .int x0_5, .int (vfk0_0_6 + p24.1)])) := heq
          have bk1_0 : wc_Do cI cG cZ ad (k1) (x1_0, x1_1, x1_2, x1_3) w26 := bk1_0.fr (fun j h1 h2 => hne j (by omega))
          have bk0_1 : wc_Li cI cG cZ ad (k0 + 1) vbk0_1 w26 := bk0_1.fr (fun j h1 h2 => hne j (by omega))
          have bk0_7 : wc_Wa cI cG cZ ad (k0 + 7) (p24.2.1, p24.2.2.1, vbk0_7.2.2.1, p24.2.2.2) w26 := bk0_7.fr (fun j h1 h2 => hne j (by omega))
          have bk0_15 : wc_Ch cI cG cZ ad (k0 + 15) vbk0_15 w26 := bk0_15.fr (fun j h1 h2 => hne j (by omega))
          have bk0_17 : wc_Rk cI cG cZ ad (k0 + 17) vbk0_17 w26 := bk0_17.fr (fun j h1 h2 => hne j (by omega))
          have fr : ∀ j : Nat, (j < k0 ∨ k0 + 20 ≤ j) → w26[j]? = w0[j]? := fun j o0 => (hne j (by omega)).trans (fr j o0)
          refine lv_iload hx hb d_Gr_enter_105 (lv_at hl 0 rfl) ?_
          refine lv_if_ne (tgt := 118) hx hb d_Gr_enter_107 (by decide) (fun c27 => ?_) (fun c27 => ?_)
          · refine lv_iinc (v := v4 + (-1)) (lv' := [(4, .int (v4 + (-1))), (5, .int 1), (3, .int p4), (0, .ref (ad k0)), (1, .ref (ad k1)), (2, .int a2)]) hx hb d_Gr_enter_118 hl (k := 1) rfl rfl (by decide) rfl (fun ls hl => ?_)
            refine lv_goto (tgt := 55) hx hb d_Gr_enter_121 (by decide) ?_
            exact ih vbk0_1 vbk0_15 vbk0_17 (p24.2.1, p24.2.2.1, vbk0_7.2.2.1, p24.2.2.2) (vfk0_0_6 + p24.1) (v4 + (-1)) _ _ _ _ hP hD hS (lv_sub hl [0, 2, 3, 4, 5] rfl) mk0_0 bk0_1 bk0_7 bk0_15 bk0_17 bk1_0 fr hf
          · exact absurd c27 (by decide)
set_option maxHeartbeats 4000000 in
set_option maxRecDepth 100000 in
theorem c_Gr_enter (l : Launch) (D : va_G) (cI cG cZ : ClassId) (ad : Nat → Nat) (B : Nat) (w0 : va_W) (N : Nat) (k0 : Nat) (x0_0 : T_Li) (x0_1 : T_Wa) (x0_2 : T_Ch) (x0_3 : T_Rk) (x0_4 : Int32) (x0_5 : Int32) (x0_6 : Int32) (k1 : Nat) (x1_0 : (Nat → Nat → Int32)) (x1_1 : (Nat → Int32)) (x1_2 : (Nat → Int32)) (x1_3 : Int32) (a2 : Int32) (y0_0 : T_Li) (y0_1 : T_Wa) (y0_2 : T_Ch) (y0_3 : T_Rk) (y0_4 : Int32) (y0_6 : Int32) (hf : f_Gr_enter N x0_0 x0_1 x0_2 x0_3 x0_4 x0_6 x1_0 a2 = some (y0_0, y0_1, y0_2, y0_3, y0_4, y0_6)) (bk0_0 : wc_Gr cI cG cZ ad k0 (x0_0, x0_1, x0_2, x0_3, x0_4, x0_5, x0_6) w0) (bk1_0 : wc_Do cI cG cZ ad k1 (x1_0, x1_1, x1_2, x1_3) w0) (dj0 : k0 + 20 ≤ k1 ∨ k1 + 34 ≤ k0) : Met l y_Gr_enter (.code y_Gr_enter b_Gr_enter 6 none :: hw_G) ({ frames := 5, cells := 0, slots := 0, locals := 123 } : Room) (va_Pc [.ref (ad k0), .ref (ad k1), .int a2] (hw_U D cI cG cZ B w0)) (va_Qv (fun (w1 : va_W) => wc_Gr cI cG cZ ad k0 (y0_0, y0_1, y0_2, y0_3, y0_4, x0_5, y0_6) w1 ∧ (∀ j : Nat, (j < k0 ∨ k0 + 20 ≤ j) → w1[j]? = w0[j]?)) (hw_B D B) (fun q : Nat => B ≤ q)) 0 0 (fun q : Nat => B ≤ q) := by
  refine Met.ofW (cc := b_Gr_enter) (maxL := 6) (ret := none) (by decide) rfl ?_
  intro p e s m args below meth c s₁ Bd hml hv
  obtain ⟨rfl, hP, hD, hK, hN⟩ := hv
  have C0 : hw_C p s m meth c b_Gr_enter 6 _ R_Gr none := ⟨Bd.exec, Bd.bytes, Bd.returns, hml, findClass_of_methodNamed Bd.named, fun w h => atoms_spec (ws := .code y_Gr_enter b_Gr_enter 6 none :: hw_G) Bd.pre w (List.mem_cons_of_mem _ h), Bd.notSynchronized⟩
  obtain ⟨hx, hb, hr, -, hown, hts, hlocks⟩ := id C0
  have hS : va_S (fun q : Nat => B ≤ q) s.heap s.heap [] := va_S.rf
  have fr : ∀ j : Nat, (j < k0 ∨ k0 + 20 ≤ j) → w0[j]? = w0[j]? := fun j _ => rfl
  have hl := lv_entry ([.ref (ad k0), .ref (ad k1), .int a2]) (n := 6) (Nat.le_of_ble_eq_true rfl)
  rw [lg_entry_eq]
  generalize (lg_sl ([.ref (ad k0), .ref (ad k1), .int a2]) ++ List.replicate (6 - (lg_sl ([.ref (ad k0), .ref (ad k1), .int a2])).length) Slot.unset).toArray = ls at hl ⊢
  have hl : lv_has ls 6 [(0, .ref (ad k0)), (1, .ref (ad k1)), (2, .int a2)] := hl
  unfold f_Gr_enter at hf
  obtain ⟨mk0_0, bk0_1, bk0_7, bk0_15, bk0_17⟩ := id bk0_0
  have mk0_0 : w0[k0]? = some (ad k0, .inr (2, [.ref (ad (k0 + 1)), .ref (ad (k0 + 7)), .ref (ad (k0 + 15)), .ref (ad (k0 + 17)), .int x0_4, .int x0_5, .int x0_6])) := mk0_0
  have bk0_1 : wc_Li cI cG cZ ad (k0 + 1) x0_0 w0 := bk0_1
  have bk0_7 : wc_Wa cI cG cZ ad (k0 + 7) x0_1 w0 := bk0_7
  have bk0_15 : wc_Ch cI cG cZ ad (k0 + 15) x0_2 w0 := bk0_15
  have bk0_17 : wc_Rk cI cG cZ ad (k0 + 17) x0_3 w0 := bk0_17
  refine lv_aload_n hx hb d_Gr_enter_0 rfl (lv_at hl 0 rfl) ?_
  refine va_get (D := D) (ci := 2) (v := .ref (ad (k0 + 1))) (C := R_Gr) (T := F_Gr) (N := 7) hx hb hts i_Gr hown hK hP (k0) mk0_0 rfl 0 (by decide) (hts _ iw_131) (fun _ h9 => h9) rfl d_Gr_enter_1 ?_
  refine lv_iload_n hx hb d_Gr_enter_4 rfl (lv_at hl 2 rfl) ?_
  obtain ⟨p1, hp1, hf⟩ := g_bd hf
  refine hw_cv (va_runV (As := [.int a2]) (rest := []) ⟨hx, hb, hml, hown, hts⟩ (c_Li_addNode l D cI cG cZ ad B w0 N (k0 + 1) x0_0.1 x0_0.2.1 x0_0.2.2.1 x0_0.2.2.2.1 x0_0.2.2.2.2.1 x0_0.2.2.2.2.2 a2 p1.1 p1.2.1 p1.2.2.1 p1.2.2.2 hp1 bk0_1) (cwV 1 hts (hw_gV iw_204 gy_Li_addNode) rfl rfl rfl (by decide +kernel) ⟨Nat.le_of_ble_eq_true rfl, Nat.le_of_ble_eq_true rfl⟩) ⟨hw_blind, va_recv hK hP (ci := 3) (q0 := k0 + 1) rfl bk0_1.1, hw_go hP hD hK hN⟩ rfl rfl hl.1 rfl (lv_room (Nat.le_of_ble_eq_true rfl)) d_Gr_enter_5 ⟨Nat.zero_le _, Nat.zero_le _⟩) hS (fun w2 H locs hP hD hS hpp => ?_)
  obtain ⟨q0, frc⟩ := hpp
  have bk0_1 : wc_Li cI cG cZ ad (k0 + 1) (p1.1, p1.2.1, p1.2.2.1, x0_0.2.2.2.1, x0_0.2.2.2.2.1, p1.2.2.2) w2 := q0
  have bk1_0 : wc_Do cI cG cZ ad (k1) (x1_0, x1_1, x1_2, x1_3) w2 := bk1_0.fr (fun j h1 h2 => frc j (by omega))
  have mk0_0 : w2[k0]? = some (ad k0, .inr (2, [.ref (ad (k0 + 1)), .ref (ad (k0 + 7)), .ref (ad (k0 + 15)), .ref (ad (k0 + 17)), .int x0_4, .int x0_5, .int x0_6])) := (frc _ (by omega)).trans mk0_0
  have bk0_7 : wc_Wa cI cG cZ ad (k0 + 7) x0_1 w2 := bk0_7.fr (fun j h1 h2 => frc j (by omega))
  have bk0_15 : wc_Ch cI cG cZ ad (k0 + 15) x0_2 w2 := bk0_15.fr (fun j h1 h2 => frc j (by omega))
  have bk0_17 : wc_Rk cI cG cZ ad (k0 + 17) x0_3 w2 := bk0_17.fr (fun j h1 h2 => frc j (by omega))
  have fr : ∀ j : Nat, (j < k0 ∨ k0 + 20 ≤ j) → w2[j]? = w0[j]? := fun j o0 => (frc j (by omega)).trans (fr j o0)
  refine lv_aload_n hx hb d_Gr_enter_8 rfl (lv_at hl 0 rfl) ?_
  refine va_get (D := D) (ci := 2) (v := .int x0_4) (C := R_Gr) (T := F_Gr) (N := 7) hx hb hts i_Gr hown hK hP (k0) mk0_0 rfl 4 (by decide) (hts _ iw_136) (fun _ h9 => h9) rfl d_Gr_enter_9 ?_
  refine lv_bipush (v := (-2)) hx hb d_Gr_enter_12 (by decide) ?_
  refine lv_icmp_ne (tgt := 23) hx hb d_Gr_enter_14 (by decide) (fun c3 => ?_) (fun c3 => ?_)
  · rw [if_neg c3] at hf
    refine lv_aload_n hx hb d_Gr_enter_23 rfl (lv_at hl 0 rfl) ?_
    refine va_get (D := D) (ci := 2) (v := .ref (ad (k0 + 1))) (C := R_Gr) (T := F_Gr) (N := 7) hx hb hts i_Gr hown hK hP (k0) mk0_0 rfl 0 (by decide) (hts _ iw_131) (fun _ h9 => h9) rfl d_Gr_enter_24 ?_
    refine lv_iload_n hx hb d_Gr_enter_27 rfl (lv_at hl 2 rfl) ?_
    obtain ⟨p4, hp4, hf⟩ := g_bd hf
    refine hw_ci0 (va_runV (As := [.int a2]) (rest := []) ⟨hx, hb, hml, hown, hts⟩ (c_Li_level l D cI cG cZ ad B w2 N (k0 + 1) p1.1 p1.2.1 p1.2.2.1 x0_0.2.2.2.1 x0_0.2.2.2.2.1 p1.2.2.2 a2 p4 hp4 bk0_1) (cwV 1 hts (hw_gV iw_211 gy_Li_level) rfl rfl rfl (by decide +kernel) ⟨Nat.le_of_ble_eq_true rfl, Nat.le_of_ble_eq_true rfl⟩) ⟨hw_blind, va_recv hK hP (ci := 3) (q0 := k0 + 1) rfl bk0_1.1, hw_go hP hD hK hN⟩ rfl rfl hl.1 rfl (lv_room (Nat.le_of_ble_eq_true rfl)) d_Gr_enter_28 ⟨Nat.zero_le _, Nat.zero_le _⟩) hS (fun H locs hP hD hS => ?_)
    refine lv_istore_n (lv' := [(3, .int p4), (0, .ref (ad k0)), (1, .ref (ad k1)), (2, .int a2)]) hx hb d_Gr_enter_31 rfl hl (by decide) rfl (fun ls hl => ?_)
    refine lv_aload_n hx hb d_Gr_enter_32 rfl (lv_at hl 1 rfl) ?_
    refine va_get (D := D) (ci := 2) (v := .ref (ad (k0 + 7))) (C := R_Gr) (T := F_Gr) (N := 7) hx hb hts i_Gr hown hK hP (k0) mk0_0 rfl 1 (by decide) (hts _ iw_133) (fun _ h9 => h9) rfl d_Gr_enter_33 ?_
    refine lv_aload_n hx hb d_Gr_enter_36 rfl (lv_at hl 2 rfl) ?_
    refine lv_aload_n hx hb d_Gr_enter_37 rfl (lv_at hl 2 rfl) ?_
    refine lv_iload_n hx hb d_Gr_enter_38 rfl (lv_at hl 3 rfl) ?_
    obtain ⟨p5, hp5, hf⟩ := g_bd hf
    obtain ⟨z6, -⟩ := g_atE (show g_at a2 30 (some ()) = some _ from hp5)
    have lz6 := g_inLt z6
    refine hw_cr0 (va_runV (As := [.int a2]) (rest := [.ref (ad k1), .ref (ad (k0 + 7))]) ⟨hx, hb, hml, hown, hts⟩ (c_Do_vector l D cI cG cZ ad B w2 N k1 x1_0 x1_1 x1_2 x1_3 a2 hp5 bk1_0) (cwV 1 hts (hw_gV iw_215 gy_Do_vector) rfl rfl rfl (by decide +kernel) ⟨Nat.le_of_ble_eq_true rfl, Nat.le_of_ble_eq_true rfl⟩) ⟨hw_blind, va_recv hK hP (ci := 1) (q0 := k1) rfl bk1_0.1, hw_go hP hD hK hN⟩ rfl rfl hl.1 rfl (lv_room (Nat.le_of_ble_eq_true rfl)) d_Gr_enter_39 ⟨Nat.zero_le _, Nat.zero_le _⟩) hS (fun H locs hP hD hS => ?_)
    refine lv_aload_n hx hb d_Gr_enter_42 rfl (lv_at hl 1 rfl) ?_
    refine va_get (D := D) (ci := 2) (v := .int x0_4) (C := R_Gr) (T := F_Gr) (N := 7) hx hb hts i_Gr hown hK hP (k0) mk0_0 rfl 4 (by decide) (hts _ iw_136) (fun _ h9 => h9) rfl d_Gr_enter_43 ?_
    obtain ⟨mk1_0, gk1_1, mk1_32, mk1_33⟩ := id bk1_0
    have mk1_0 : w2[k1]? = some (ad k1, .inr (1, [.ref (ad (k1 + 1)), .ref (ad (k1 + 32)), .ref (ad (k1 + 33)), .int x1_3])) := mk1_0
    have gk1_1 : wc_grid cI cG ad (k1 + 1) 30 4 x1_0 w2 := gk1_1
    have mk1_32 : w2[k1 + 32]? = some (ad (k1 + 32), .inl (cI, 30, .inl x1_1)) := mk1_32
    have mk1_33 : w2[k1 + 33]? = some (ad (k1 + 33), .inl (cI, 8, .inl x1_2)) := mk1_33
    obtain ⟨p7, hp7, hf⟩ := g_bd hf
    refine hw_cv (va_runV (As := [.ref (ad k1), .ref (ad (k1 + 1 + 1 + a2.toNatClampNeg)), .int x0_4]) (rest := []) ⟨hx, hb, hml, hown, hts⟩ (c_Wa_standAt l D cI cG cZ ad B w2 N (k0 + 7) x0_1.1 x0_1.2.1 x0_1.2.2.1 x0_1.2.2.2 k1 x1_0 x1_1 x1_2 x1_3 (k1 + 1 + 1 + a2.toNatClampNeg) (x1_0 a2.toNatClampNeg) x0_4 p7.1 p7.2 hp7 bk0_7 bk1_0 (gk1_1.2 _ (g_inLt z6)) (by omega) (by omega)) (cwV 3 hts (hw_gV iw_219 gy_Wa_standAt) rfl rfl rfl (by decide +kernel) ⟨Nat.le_of_ble_eq_true rfl, Nat.le_of_ble_eq_true rfl⟩) ⟨hw_blind, va_recv hK hP (ci := 5) (q0 := k0 + 7) rfl bk0_7.1, hw_go hP hD hK hN⟩ rfl rfl hl.1 rfl (lv_room (Nat.le_of_ble_eq_true rfl)) d_Gr_enter_46 ⟨Nat.zero_le _, Nat.zero_le _⟩) hS (fun w8 H locs hP hD hS hpp => ?_)
    obtain ⟨q0, frc⟩ := hpp
    have bk0_7 : wc_Wa cI cG cZ ad (k0 + 7) (p7.1, x0_1.2.1, p7.2, x0_1.2.2.2) w8 := q0
    have mk0_0 : w8[k0]? = some (ad k0, .inr (2, [.ref (ad (k0 + 1)), .ref (ad (k0 + 7)), .ref (ad (k0 + 15)), .ref (ad (k0 + 17)), .int x0_4, .int x0_5, .int x0_6])) := (frc _ (by omega)).trans mk0_0
    have bk0_1 : wc_Li cI cG cZ ad (k0 + 1) (p1.1, p1.2.1, p1.2.2.1, x0_0.2.2.2.1, x0_0.2.2.2.2.1, p1.2.2.2) w8 := bk0_1.fr (fun j h1 h2 => frc j (by omega))
    have bk0_15 : wc_Ch cI cG cZ ad (k0 + 15) x0_2 w8 := bk0_15.fr (fun j h1 h2 => frc j (by omega))
    have bk0_17 : wc_Rk cI cG cZ ad (k0 + 17) x0_3 w8 := bk0_17.fr (fun j h1 h2 => frc j (by omega))
    have mk1_0 : w8[k1]? = some (ad k1, .inr (1, [.ref (ad (k1 + 1)), .ref (ad (k1 + 32)), .ref (ad (k1 + 33)), .int x1_3])) := (frc _ (by omega)).trans mk1_0
    have gk1_1 : wc_grid cI cG ad (k1 + 1) 30 4 x1_0 w8 := gk1_1.fr (fun j h1 h2 => frc j (by omega))
    have mk1_32 : w8[k1 + 32]? = some (ad (k1 + 32), .inl (cI, 30, .inl x1_1)) := (frc _ (by omega)).trans mk1_32
    have mk1_33 : w8[k1 + 33]? = some (ad (k1 + 33), .inl (cI, 8, .inl x1_2)) := (frc _ (by omega)).trans mk1_33
    have fr : ∀ j : Nat, (j < k0 ∨ k0 + 20 ≤ j) → w8[j]? = w0[j]? := fun j o0 => (frc j (by omega)).trans (fr j o0)
    refine lv_aload_n hx hb d_Gr_enter_49 rfl (lv_at hl 1 rfl) ?_
    have bk0_0 : wc_Gr cI cG cZ ad (k0) ((p1.1, p1.2.1, p1.2.2.1, x0_0.2.2.2.1, x0_0.2.2.2.2.1, p1.2.2.2), (p7.1, x0_1.2.1, p7.2, x0_1.2.2.2), x0_2, x0_3, x0_4, x0_5, x0_6) w8 := ⟨mk0_0, bk0_1, bk0_7, bk0_15, bk0_17⟩
    obtain ⟨p9, hp9, hf⟩ := g_bd hf
    refine hw_ci0 (va_runV (As := []) (rest := []) ⟨hx, hb, hml, hown, hts⟩ (c_Gr_top l D cI cG cZ ad B w8 N k0 (p1.1, p1.2.1, p1.2.2.1, x0_0.2.2.2.1, x0_0.2.2.2.2.1, p1.2.2.2) (p7.1, x0_1.2.1, p7.2, x0_1.2.2.2) x0_2 x0_3 x0_4 x0_5 x0_6 p9 hp9 bk0_0) (cwV 0 hts (hw_gV iw_249 gy_Gr_top) rfl rfl rfl (by decide +kernel) ⟨Nat.le_of_ble_eq_true rfl, Nat.le_of_ble_eq_true rfl⟩) ⟨hw_blind, va_recv hK hP (ci := 2) (q0 := k0) rfl bk0_0.1, hw_go hP hD hK hN⟩ rfl rfl hl.1 rfl (lv_room (Nat.le_of_ble_eq_true rfl)) d_Gr_enter_50 ⟨Nat.zero_le _, Nat.zero_le _⟩) hS (fun H locs hP hD hS => ?_)
    refine lv_istore (lv' := [(4, .int p9), (3, .int p4), (0, .ref (ad k0)), (1, .ref (ad k1)), (2, .int a2)]) hx hb d_Gr_enter_53 hl (by decide) rfl (fun ls hl => ?_)
    have bk1_0 : wc_Do cI cG cZ ad (k1) (x1_0, x1_1, x1_2, x1_3) w8 := ⟨mk1_0, gk1_1, mk1_32, mk1_33⟩
    obtain ⟨mk0_0, bk0_1, bk0_7, bk0_15, bk0_17⟩ := id bk0_0
    have mk0_0 : w8[k0]? = some (ad k0, .inr (2, [.ref (ad (k0 + 1)), .ref (ad (k0 + 7)), .ref (ad (k0 + 15)), .ref (ad (k0 + 17)), .int x0_4, .int x0_5, .int x0_6])) := mk0_0
    have bk0_1 : wc_Li cI cG cZ ad (k0 + 1) (p1.1, p1.2.1, p1.2.2.1, x0_0.2.2.2.1, x0_0.2.2.2.2.1, p1.2.2.2) w8 := bk0_1
    have bk0_7 : wc_Wa cI cG cZ ad (k0 + 7) (p7.1, x0_1.2.1, p7.2, x0_1.2.2.2) w8 := bk0_7
    have bk0_15 : wc_Ch cI cG cZ ad (k0 + 15) x0_2 w8 := bk0_15
    have bk0_17 : wc_Rk cI cG cZ ad (k0 + 17) x0_3 w8 := bk0_17
    exact wl_Gr_enter_55 (ad := ad) C0 hK hN dj0 x0_4 x0_5 x1_0 x1_1 x1_2 x1_3 a2 p4 x0_0 x0_1 x0_2 x0_3 x0_6 y0_0 y0_1 y0_2 y0_3 y0_4 y0_6 N (p1.1, p1.2.1, p1.2.2.1, x0_0.2.2.2.1, x0_0.2.2.2.2.1, p1.2.2.2) x0_2 x0_3 (p7.1, x0_1.2.1, p7.2, x0_1.2.2.2) x0_6 p9 _ _ _ _ hP hD hS (lv_sub hl [0, 1, 2, 3, 4] rfl) mk0_0 bk0_1 bk0_7 bk0_15 bk0_17 bk1_0 fr hf
  · rw [if_pos c3] at hf
    refine lv_aload_n hx hb d_Gr_enter_17 rfl (lv_at hl 0 rfl) ?_
    refine lv_iload_n hx hb d_Gr_enter_18 rfl (lv_at hl 2 rfl) ?_
    refine va_put (D := D) (ci := 2) (v := .int a2) (ty := .int) (C := R_Gr) (T := F_Gr) (N := 7) hx hb hts i_Gr t_Gr t_Gr_ok n_Gr hown hK hP hD hS (k0) mk0_0 rfl 4 (by decide) (hts _ iw_136) (fun _ h9 => h9) rfl (by decide +kernel) rfl rfl (Nat.le_of_ble_eq_true rfl) d_Gr_enter_19 (fun H locs hP hD hS => ?_)
    obtain ⟨w10, hP, hD, hne, heq⟩ := hs_up hP hD mk0_0
    have mk0_0 : w10[k0]? = some (ad k0, .inr (2, [.ref (ad (k0 + 1)), .ref (ad (k0 + 7)), .ref (ad (k0 + 15)), .ref (ad (k0 + 17)), .int a2, .int x0_5, .int x0_6])) := heq
    have bk1_0 : wc_Do cI cG cZ ad (k1) (x1_0, x1_1, x1_2, x1_3) w10 := bk1_0.fr (fun j h1 h2 => hne j (by omega))
    have bk0_1 : wc_Li cI cG cZ ad (k0 + 1) (p1.1, p1.2.1, p1.2.2.1, x0_0.2.2.2.1, x0_0.2.2.2.2.1, p1.2.2.2) w10 := bk0_1.fr (fun j h1 h2 => hne j (by omega))
    have bk0_7 : wc_Wa cI cG cZ ad (k0 + 7) x0_1 w10 := bk0_7.fr (fun j h1 h2 => hne j (by omega))
    have bk0_15 : wc_Ch cI cG cZ ad (k0 + 15) x0_2 w10 := bk0_15.fr (fun j h1 h2 => hne j (by omega))
    have bk0_17 : wc_Rk cI cG cZ ad (k0 + 17) x0_3 w10 := bk0_17.fr (fun j h1 h2 => hne j (by omega))
    have fr : ∀ j : Nat, (j < k0 ∨ k0 + 20 ≤ j) → w10[j]? = w0[j]? := fun j o0 => (hne j (by omega)).trans (fr j o0)
    have bk0_0 : wc_Gr cI cG cZ ad (k0) ((p1.1, p1.2.1, p1.2.2.1, x0_0.2.2.2.1, x0_0.2.2.2.2.1, p1.2.2.2), x0_1, x0_2, x0_3, a2, x0_5, x0_6) w10 := ⟨mk0_0, bk0_1, bk0_7, bk0_15, bk0_17⟩
    have he := Option.some.inj hf
    obtain ⟨e0, he⟩ := Prod.mk.inj he
    obtain ⟨e1, he⟩ := Prod.mk.inj he
    obtain ⟨e2, he⟩ := Prod.mk.inj he
    obtain ⟨e3, he⟩ := Prod.mk.inj he
    obtain ⟨e4, e5⟩ := Prod.mk.inj he
    have f0 : wc_Gr cI cG cZ ad (k0) (y0_0, y0_1, y0_2, y0_3, y0_4, x0_5, y0_6) w10 := by rw [← e0, ← e1, ← e2, ← e3, ← e4, ← e5]; exact bk0_0
    exact W.vret hx hb hr (fun t ht hW => ⟨⟨w10, rfl, ⟨f0, fr⟩, by rw [ht]; exact hP, hD⟩, hS.F ht⟩) hS.2.2 d_Gr_enter_22
set_option maxHeartbeats 4000000 in
set_option maxRecDepth 100000 in
theorem c_Gr_clear (l : Launch) (D : va_G) (cI cG cZ : ClassId) (ad : Nat → Nat) (B : Nat) (w0 : va_W) (N : Nat) (k0 : Nat) (x0_0 : T_Li) (x0_1 : T_Wa) (x0_2 : T_Ch) (x0_3 : T_Rk) (x0_4 : Int32) (x0_5 : Int32) (x0_6 : Int32) (y0_0 : T_Li) (y0_4 : Int32) (hf : f_Gr_clear N x0_0 = some (y0_0, y0_4)) (bk0_0 : wc_Gr cI cG cZ ad k0 (x0_0, x0_1, x0_2, x0_3, x0_4, x0_5, x0_6) w0) : Met l y_Gr_clear (.code y_Gr_clear b_Gr_clear 1 none :: hw_G) ({ frames := 1, cells := 0, slots := 0, locals := 21 } : Room) (va_Pc [.ref (ad k0)] (hw_U D cI cG cZ B w0)) (va_Qv (fun (w1 : va_W) => wc_Gr cI cG cZ ad k0 (y0_0, x0_1, x0_2, x0_3, y0_4, x0_5, x0_6) w1 ∧ (∀ j : Nat, (j < k0 ∨ k0 + 20 ≤ j) → w1[j]? = w0[j]?)) (hw_B D B) (fun q : Nat => B ≤ q)) 0 0 (fun q : Nat => B ≤ q) := by
  refine Met.ofW (cc := b_Gr_clear) (maxL := 1) (ret := none) (by decide) rfl ?_
  intro p e s m args below meth c s₁ Bd hml hv
  obtain ⟨rfl, hP, hD, hK, hN⟩ := hv
  have C0 : hw_C p s m meth c b_Gr_clear 1 _ R_Gr none := ⟨Bd.exec, Bd.bytes, Bd.returns, hml, findClass_of_methodNamed Bd.named, fun w h => atoms_spec (ws := .code y_Gr_clear b_Gr_clear 1 none :: hw_G) Bd.pre w (List.mem_cons_of_mem _ h), Bd.notSynchronized⟩
  obtain ⟨hx, hb, hr, -, hown, hts, hlocks⟩ := id C0
  have hS : va_S (fun q : Nat => B ≤ q) s.heap s.heap [] := va_S.rf
  have fr : ∀ j : Nat, (j < k0 ∨ k0 + 20 ≤ j) → w0[j]? = w0[j]? := fun j _ => rfl
  have hl := lv_entry ([.ref (ad k0)]) (n := 1) (Nat.le_of_ble_eq_true rfl)
  rw [lg_entry_eq]
  generalize (lg_sl ([.ref (ad k0)]) ++ List.replicate (1 - (lg_sl ([.ref (ad k0)])).length) Slot.unset).toArray = ls at hl ⊢
  have hl : lv_has ls 1 [(0, .ref (ad k0))] := hl
  unfold f_Gr_clear at hf
  obtain ⟨mk0_0, bk0_1, bk0_7, bk0_15, bk0_17⟩ := id bk0_0
  have mk0_0 : w0[k0]? = some (ad k0, .inr (2, [.ref (ad (k0 + 1)), .ref (ad (k0 + 7)), .ref (ad (k0 + 15)), .ref (ad (k0 + 17)), .int x0_4, .int x0_5, .int x0_6])) := mk0_0
  have bk0_1 : wc_Li cI cG cZ ad (k0 + 1) x0_0 w0 := bk0_1
  have bk0_7 : wc_Wa cI cG cZ ad (k0 + 7) x0_1 w0 := bk0_7
  have bk0_15 : wc_Ch cI cG cZ ad (k0 + 15) x0_2 w0 := bk0_15
  have bk0_17 : wc_Rk cI cG cZ ad (k0 + 17) x0_3 w0 := bk0_17
  refine lv_aload_n hx hb d_Gr_clear_0 rfl (lv_at hl 0 rfl) ?_
  refine va_get (D := D) (ci := 2) (v := .ref (ad (k0 + 1))) (C := R_Gr) (T := F_Gr) (N := 7) hx hb hts i_Gr hown hK hP (k0) mk0_0 rfl 0 (by decide) (hts _ iw_131) (fun _ h9 => h9) rfl d_Gr_clear_1 ?_
  obtain ⟨p1, hp1, hf⟩ := g_bd hf
  refine hw_cv (va_runV (As := []) (rest := []) ⟨hx, hb, hml, hown, hts⟩ (c_Li_clear l D cI cG cZ ad B w0 N (k0 + 1) x0_0.1 x0_0.2.1 x0_0.2.2.1 x0_0.2.2.2.1 x0_0.2.2.2.2.1 x0_0.2.2.2.2.2 p1.1 p1.2 hp1 bk0_1) (cwV 0 hts (hw_gV iw_399 gy_Li_clear) rfl rfl rfl (by decide +kernel) ⟨Nat.le_of_ble_eq_true rfl, Nat.le_of_ble_eq_true rfl⟩) ⟨hw_blind, va_recv hK hP (ci := 3) (q0 := k0 + 1) rfl bk0_1.1, hw_go hP hD hK hN⟩ rfl rfl hl.1 rfl (lv_room (Nat.le_of_ble_eq_true rfl)) d_Gr_clear_4 ⟨Nat.zero_le _, Nat.zero_le _⟩) hS (fun w2 H locs hP hD hS hpp => ?_)
  obtain ⟨q0, frc⟩ := hpp
  have bk0_1 : wc_Li cI cG cZ ad (k0 + 1) (p1.1, x0_0.2.1, x0_0.2.2.1, x0_0.2.2.2.1, x0_0.2.2.2.2.1, p1.2) w2 := q0
  have mk0_0 : w2[k0]? = some (ad k0, .inr (2, [.ref (ad (k0 + 1)), .ref (ad (k0 + 7)), .ref (ad (k0 + 15)), .ref (ad (k0 + 17)), .int x0_4, .int x0_5, .int x0_6])) := (frc _ (by omega)).trans mk0_0
  have bk0_7 : wc_Wa cI cG cZ ad (k0 + 7) x0_1 w2 := bk0_7.fr (fun j h1 h2 => frc j (by omega))
  have bk0_15 : wc_Ch cI cG cZ ad (k0 + 15) x0_2 w2 := bk0_15.fr (fun j h1 h2 => frc j (by omega))
  have bk0_17 : wc_Rk cI cG cZ ad (k0 + 17) x0_3 w2 := bk0_17.fr (fun j h1 h2 => frc j (by omega))
  have fr : ∀ j : Nat, (j < k0 ∨ k0 + 20 ≤ j) → w2[j]? = w0[j]? := fun j o0 => (frc j (by omega)).trans (fr j o0)
  refine lv_aload_n hx hb d_Gr_clear_7 rfl (lv_at hl 0 rfl) ?_
  refine lv_bipush (v := (-2)) hx hb d_Gr_clear_8 (by decide) ?_
  refine va_put (D := D) (ci := 2) (v := .int (-2)) (ty := .int) (C := R_Gr) (T := F_Gr) (N := 7) hx hb hts i_Gr t_Gr t_Gr_ok n_Gr hown hK hP hD hS (k0) mk0_0 rfl 4 (by decide) (hts _ iw_136) (fun _ h9 => h9) rfl (by decide +kernel) rfl rfl (Nat.le_of_ble_eq_true rfl) d_Gr_clear_10 (fun H locs hP hD hS => ?_)
  obtain ⟨w3, hP, hD, hne, heq⟩ := hs_up hP hD mk0_0
  have mk0_0 : w3[k0]? = some (ad k0, .inr (2, [.ref (ad (k0 + 1)), .ref (ad (k0 + 7)), .ref (ad (k0 + 15)), .ref (ad (k0 + 17)), .int (-2), .int x0_5, .int x0_6])) := heq
  have bk0_1 : wc_Li cI cG cZ ad (k0 + 1) (p1.1, x0_0.2.1, x0_0.2.2.1, x0_0.2.2.2.1, x0_0.2.2.2.2.1, p1.2) w3 := bk0_1.fr (fun j h1 h2 => hne j (by omega))
  have bk0_7 : wc_Wa cI cG cZ ad (k0 + 7) x0_1 w3 := bk0_7.fr (fun j h1 h2 => hne j (by omega))
  have bk0_15 : wc_Ch cI cG cZ ad (k0 + 15) x0_2 w3 := bk0_15.fr (fun j h1 h2 => hne j (by omega))
  have bk0_17 : wc_Rk cI cG cZ ad (k0 + 17) x0_3 w3 := bk0_17.fr (fun j h1 h2 => hne j (by omega))
  have fr : ∀ j : Nat, (j < k0 ∨ k0 + 20 ≤ j) → w3[j]? = w0[j]? := fun j o0 => (hne j (by omega)).trans (fr j o0)
  have bk0_0 : wc_Gr cI cG cZ ad (k0) ((p1.1, x0_0.2.1, x0_0.2.2.1, x0_0.2.2.2.1, x0_0.2.2.2.2.1, p1.2), x0_1, x0_2, x0_3, (-2), x0_5, x0_6) w3 := ⟨mk0_0, bk0_1, bk0_7, bk0_15, bk0_17⟩
  have he := Option.some.inj hf
  obtain ⟨e0, e1⟩ := Prod.mk.inj he
  have f0 : wc_Gr cI cG cZ ad (k0) (y0_0, x0_1, x0_2, x0_3, y0_4, x0_5, x0_6) w3 := by rw [← e0, ← e1]; exact bk0_0
  exact W.vret hx hb hr (fun t ht hW => ⟨⟨w3, rfl, ⟨f0, fr⟩, by rw [ht]; exact hP, hD⟩, hS.F ht⟩) hS.2.2 d_Gr_clear_13
set_option maxHeartbeats 4000000 in
set_option maxRecDepth 100000 in
theorem wl_Gr_search_38 {p : Program} {l : Launch} {e : Env} {s : State} {m : MethodId} {args : Array Value} {below : List Frame} {meth : Method} {c : Code} {D : va_G} {cI cG cZ : ClassId} {ad : Nat → Nat} {B : Nat} {w0 : va_W} {N : Nat} {k0 : Nat} {k1 : Nat} {k2 : Nat} (C0 : hw_C p s m meth c b_Gr_search 5 args R_Gr (some (.object "NearDesk$Ranking"))) (hK : va_K D classes [(cI, .int), (cG, .array .int), (cZ, .boolean)] s) (hN : hw_N s) (dj0 : k0 + 20 ≤ k1 ∨ k1 + 34 ≤ k0) (dj1 : k0 + 20 ≤ k2 ∨ k2 + 1 ≤ k0) (x0_0 : T_Li) (x0_2 : T_Ch) (x0_3 : T_Rk) (x0_4 : Int32) (x0_6 : Int32) (x1_0 : (Nat → Nat → Int32)) (x1_1 : (Nat → Int32)) (x1_2 : (Nat → Int32)) (x1_3 : Int32) (x2_0 : (Nat → Int32)) (a3 : Int32) (x0_1 : T_Wa) (x0_5 : Int32) (y0_1 : T_Wa) (y0_5 : Int32) : ∀ (n : Nat) (vbk0_7 : T_Wa) (vfk0_0_5 : Int32) (v4 : Int32) (ws : va_W) (H : Heap) (locs : List Loc) (ls : Array Slot), va_P D classes ws H → va_D (fun q : Nat => B ≤ q) ws → va_S (fun q : Nat => B ≤ q) s.heap H locs → lv_has ls 5 [(4, .int v4), (0, .ref (ad k0)), (1, .ref (ad k1)), (2, .ref (ad k2)), (3, .int a3)] → ws[k0]? = some (ad k0, .inr (2, [.ref (ad (k0 + 1)), .ref (ad (k0 + 7)), .ref (ad (k0 + 15)), .ref (ad (k0 + 17)), .int x0_4, .int vfk0_0_5, .int x0_6])) → wc_Li cI cG cZ ad (k0 + 1) x0_0 ws → wc_Wa cI cG cZ ad (k0 + 7) vbk0_7 ws → wc_Ch cI cG cZ ad (k0 + 15) x0_2 ws → wc_Rk cI cG cZ ad (k0 + 17) x0_3 ws → wc_Do cI cG cZ ad (k1) (x1_0, x1_1, x1_2, x1_3) ws → ws[k2]? = some (ad k2, .inl (cI, 4, .inl x2_0)) → (∀ j : Nat, (j < k0 ∨ k0 + 20 ≤ j) → ws[j]? = w0[j]?) → f_Gr_search_38 N x0_0 a3 n vbk0_7 vfk0_0_5 v4 = some (y0_1, y0_5) → W p l e ({ frames := 4, cells := 0, slots := 0, locals := 97 } : Room) s m args below meth c H locs 0 0 (MQ below (va_Qr (fun (w1 : va_W) => wc_Gr cI cG cZ ad k0 (x0_0, y0_1, x0_2, x0_3, x0_4, y0_5, x0_6) w1 ∧ (∀ j : Nat, (j < k0 ∨ k0 + 20 ≤ j) → w1[j]? = w0[j]?)) (hw_Br D B (ad (k0 + 8))) (fun q : Nat => B ≤ q)) args s 0 0 (fun q : Nat => B ≤ q)) (F0 m 38 ls []) := by
  obtain ⟨hx, hb, hr, hml, hown, hts, hlocks⟩ := id C0
  intro n
  induction n with
  | zero =>
    intro vbk0_7 vfk0_0_5 v4 ws H locs ls hP hD hS hl mk0_0 bk0_1 bk0_7 bk0_15 bk0_17 bk1_0 mk2_0 fr hf
    exact nomatch (show none = some _ from hf)
  | succ n ih =>
    intro vbk0_7 vfk0_0_5 v4 ws H locs ls hP hD hS hl mk0_0 bk0_1 bk0_7 bk0_15 bk0_17 bk1_0 mk2_0 fr hf
    rw [f_Gr_search_38] at hf
    refine lv_iload hx hb d_Gr_search_38 (lv_at hl 0 rfl) ?_
    refine lv_if_lt (tgt := 81) hx hb d_Gr_search_40 (by decide) (fun c8 => ?_) (fun c8 => ?_)
    · rw [if_pos c8] at hf
      refine lv_aload_n hx hb d_Gr_search_81 rfl (lv_at hl 1 rfl) ?_
      refine va_get (D := D) (ci := 2) (v := .ref (ad (k0 + 7))) (C := R_Gr) (T := F_Gr) (N := 7) hx hb hts i_Gr hown hK hP (k0) mk0_0 rfl 1 (by decide) (hts _ iw_133) (fun _ h9 => h9) rfl d_Gr_search_82 ?_
      obtain ⟨p9, hp9, hf⟩ := g_bd hf
      refine hw_cr0 (va_runV (As := []) (rest := []) ⟨hx, hb, hml, hown, hts⟩ (c_Wa_held l D cI cG cZ ad B ws N (k0 + 7) vbk0_7.1 vbk0_7.2.1 vbk0_7.2.2.1 vbk0_7.2.2.2 hp9 bk0_7) (cwV 0 hts (hw_gV iw_314 gy_Wa_held) rfl rfl rfl (by decide +kernel) ⟨Nat.le_of_ble_eq_true rfl, Nat.le_of_ble_eq_true rfl⟩) ⟨hw_blind, va_recv hK hP (ci := 5) (q0 := k0 + 7) rfl bk0_7.1, hw_go hP hD hK hN⟩ rfl rfl hl.1 rfl (lv_room (Nat.le_of_ble_eq_true rfl)) d_Gr_search_85 ⟨Nat.zero_le _, Nat.zero_le _⟩) hS (fun H locs hP hD hS => ?_)
      have bk0_0 : wc_Gr cI cG cZ ad (k0) (x0_0, vbk0_7, x0_2, x0_3, x0_4, vfk0_0_5, x0_6) ws := ⟨mk0_0, bk0_1, bk0_7, bk0_15, bk0_17⟩
      have he := Option.some.inj hf
      obtain ⟨e0, e1⟩ := Prod.mk.inj he
      have f0 : wc_Gr cI cG cZ ad (k0) (x0_0, y0_1, x0_2, x0_3, x0_4, y0_5, x0_6) ws := by rw [← e0, ← e1]; exact bk0_0
      exact W.aret hx hb hr (Or.inl ⟨_, rfl⟩) (Or.inr ⟨_, rfl⟩) (fun t ht hW => ⟨⟨ws, ad (k0 + 8), rfl, ⟨f0, fr⟩, rfl, by rw [ht]; exact hP, hD⟩, hS.F ht⟩) hS.2.2 d_Gr_search_88
    · rw [if_neg c8] at hf
      refine lv_aload_n hx hb d_Gr_search_43 rfl (lv_at hl 1 rfl) ?_
      refine lv_dup hx hb d_Gr_search_44 rfl ?_
      refine va_get (D := D) (ci := 2) (v := .int vfk0_0_5) (C := R_Gr) (T := F_Gr) (N := 7) hx hb hts i_Gr hown hK hP (k0) mk0_0 rfl 5 (by decide) (hts _ iw_137) (fun _ h9 => h9) rfl d_Gr_search_45 ?_
      refine lv_aload_n hx hb d_Gr_search_48 rfl (lv_at hl 1 rfl) ?_
      refine va_get (D := D) (ci := 2) (v := .ref (ad (k0 + 7))) (C := R_Gr) (T := F_Gr) (N := 7) hx hb hts i_Gr hown hK hP (k0) mk0_0 rfl 1 (by decide) (hts _ iw_133) (fun _ h9 => h9) rfl d_Gr_search_49 ?_
      refine lv_aload_n hx hb d_Gr_search_52 rfl (lv_at hl 1 rfl) ?_
      refine va_get (D := D) (ci := 2) (v := .ref (ad (k0 + 1))) (C := R_Gr) (T := F_Gr) (N := 7) hx hb hts i_Gr hown hK hP (k0) mk0_0 rfl 0 (by decide) (hts _ iw_131) (fun _ h9 => h9) rfl d_Gr_search_53 ?_
      refine lv_iload hx hb d_Gr_search_56 (lv_at hl 0 rfl) ?_
      refine lv_iload hx hb d_Gr_search_58 (lv_at hl 0 rfl) ?_
      refine lv_if_le (tgt := 67) hx hb d_Gr_search_60 (by decide) (fun c10 => ?_) (fun c10 => ?_)
      · rw [if_pos c10] at hf
        refine lv_iload_n hx hb d_Gr_search_67 rfl (lv_at hl 4 rfl) ?_
        obtain ⟨p11, hp11, hf⟩ := g_bd hf
        refine hw_ci (va_runV (As := [.ref (ad (k0 + 1)), .int v4, .int a3]) (rest := [.int vfk0_0_5, .ref (ad k0)]) ⟨hx, hb, hml, hown, hts⟩ (c_Wa_walk l D cI cG cZ ad B ws N (k0 + 7) vbk0_7.1 vbk0_7.2.1 vbk0_7.2.2.1 vbk0_7.2.2.2 (k0 + 1) x0_0.1 x0_0.2.1 x0_0.2.2.1 x0_0.2.2.2.1 x0_0.2.2.2.2.1 x0_0.2.2.2.2.2 v4 a3 p11.1 p11.2.1 p11.2.2.1 p11.2.2.2 hp11 bk0_7 bk0_1 (by omega)) (cwV 3 hts (hw_gV iw_253 gy_Wa_walk) rfl rfl rfl (by decide +kernel) ⟨Nat.le_of_ble_eq_true rfl, Nat.le_of_ble_eq_true rfl⟩) ⟨hw_blind, va_recv hK hP (ci := 5) (q0 := k0 + 7) rfl bk0_7.1, hw_go hP hD hK hN⟩ rfl rfl hl.1 rfl (lv_room (Nat.le_of_ble_eq_true rfl)) d_Gr_search_68 ⟨Nat.zero_le _, Nat.zero_le _⟩) hS (fun w12 H locs hP hD hS hpp => ?_)
        obtain ⟨q0, frc⟩ := hpp
        have bk0_7 : wc_Wa cI cG cZ ad (k0 + 7) (p11.2.1, p11.2.2.1, vbk0_7.2.2.1, p11.2.2.2) w12 := q0
        have bk1_0 : wc_Do cI cG cZ ad (k1) (x1_0, x1_1, x1_2, x1_3) w12 := bk1_0.fr (fun j h1 h2 => frc j (by omega))
        have mk2_0 : w12[k2]? = some (ad k2, .inl (cI, 4, .inl x2_0)) := (frc _ (by omega)).trans mk2_0
        have mk0_0 : w12[k0]? = some (ad k0, .inr (2, [.ref (ad (k0 + 1)), .ref (ad (k0 + 7)), .ref (ad (k0 + 15)), .ref (ad (k0 + 17)), .int x0_4, .int vfk0_0_5, .int x0_6])) := (frc _ (by omega)).trans mk0_0
        have bk0_1 : wc_Li cI cG cZ ad (k0 + 1) x0_0 w12 := bk0_1.fr (fun j h1 h2 => frc j (by omega))
        have bk0_15 : wc_Ch cI cG cZ ad (k0 + 15) x0_2 w12 := bk0_15.fr (fun j h1 h2 => frc j (by omega))
        have bk0_17 : wc_Rk cI cG cZ ad (k0 + 17) x0_3 w12 := bk0_17.fr (fun j h1 h2 => frc j (by omega))
        have fr : ∀ j : Nat, (j < k0 ∨ k0 + 20 ≤ j) → w12[j]? = w0[j]? := fun j o0 => (frc j (by omega)).trans (fr j o0)
        refine lv_iadd hx hb d_Gr_search_71 ?_
        refine va_put (D := D) (ci := 2) (v := .int (vfk0_0_5 + p11.1)) (ty := .int) (C := R_Gr) (T := F_Gr) (N := 7) hx hb hts i_Gr t_Gr t_Gr_ok n_Gr hown hK hP hD hS (k0) mk0_0 rfl 5 (by decide) (hts _ iw_137) (fun _ h9 => h9) rfl (by decide +kernel) rfl rfl (Nat.le_of_ble_eq_true rfl) d_Gr_search_72 (fun H locs hP hD hS => ?_)
        obtain ⟨w13, hP, hD, hne, heq⟩ := hs_up hP hD mk0_0
        have mk0_0 : w13[k0]? = some (ad k0, .inr (2, [.ref (ad (k0 + 1)), .ref (ad (k0 + 7)), .ref (ad (k0 + 15)), .ref (ad (k0 + 17)), .int x0_4, .int (vfk0_0_5 + p11.1), .int x0_6])) := heq
        have bk1_0 : wc_Do cI cG cZ ad (k1) (x1_0, x1_1, x1_2, x1_3) w13 := bk1_0.fr (fun j h1 h2 => hne j (by omega))
        have mk2_0 : w13[k2]? = some (ad k2, .inl (cI, 4, .inl x2_0)) := (hne _ (by omega)).trans mk2_0
        have bk0_1 : wc_Li cI cG cZ ad (k0 + 1) x0_0 w13 := bk0_1.fr (fun j h1 h2 => hne j (by omega))
        have bk0_7 : wc_Wa cI cG cZ ad (k0 + 7) (p11.2.1, p11.2.2.1, vbk0_7.2.2.1, p11.2.2.2) w13 := bk0_7.fr (fun j h1 h2 => hne j (by omega))
        have bk0_15 : wc_Ch cI cG cZ ad (k0 + 15) x0_2 w13 := bk0_15.fr (fun j h1 h2 => hne j (by omega))
        have bk0_17 : wc_Rk cI cG cZ ad (k0 + 17) x0_3 w13 := bk0_17.fr (fun j h1 h2 => hne j (by omega))
        have fr : ∀ j : Nat, (j < k0 ∨ k0 + 20 ≤ j) → w13[j]? = w0[j]? := fun j o0 => (hne j (by omega)).trans (fr j o0)
        refine lv_iinc (v := v4 + (-1)) (lv' := [(4, .int (v4 + (-1))), (0, .ref (ad k0)), (1, .ref (ad k1)), (2, .ref (ad k2)), (3, .int a3)]) hx hb d_Gr_search_75 hl (k := 0) rfl rfl (by decide) rfl (fun ls hl => ?_)
        refine lv_goto (tgt := 38) hx hb d_Gr_search_78 (by decide) ?_
        exact ih (p11.2.1, p11.2.2.1, vbk0_7.2.2.1, p11.2.2.2) (vfk0_0_5 + p11.1) (v4 + (-1)) _ _ _ _ hP hD hS (lv_sub hl [0, 1, 2, 3, 4] rfl) mk0_0 bk0_1 bk0_7 bk0_15 bk0_17 bk1_0 mk2_0 fr hf
      · rw [if_neg c10] at hf
        refine lv_iconst (v := 1) hx hb d_Gr_search_63 (by decide) ?_
        refine lv_goto (tgt := 68) hx hb d_Gr_search_64 (by decide) ?_
        obtain ⟨p14, hp14, hf⟩ := g_bd hf
        refine hw_ci (va_runV (As := [.ref (ad (k0 + 1)), .int v4, .int 1]) (rest := [.int vfk0_0_5, .ref (ad k0)]) ⟨hx, hb, hml, hown, hts⟩ (c_Wa_walk l D cI cG cZ ad B ws N (k0 + 7) vbk0_7.1 vbk0_7.2.1 vbk0_7.2.2.1 vbk0_7.2.2.2 (k0 + 1) x0_0.1 x0_0.2.1 x0_0.2.2.1 x0_0.2.2.2.1 x0_0.2.2.2.2.1 x0_0.2.2.2.2.2 v4 1 p14.1 p14.2.1 p14.2.2.1 p14.2.2.2 hp14 bk0_7 bk0_1 (by omega)) (cwV 3 hts (hw_gV iw_253 gy_Wa_walk) rfl rfl rfl (by decide +kernel) ⟨Nat.le_of_ble_eq_true rfl, Nat.le_of_ble_eq_true rfl⟩) ⟨hw_blind, va_recv hK hP (ci := 5) (q0 := k0 + 7) rfl bk0_7.1, hw_go hP hD hK hN⟩ rfl rfl hl.1 rfl (lv_room (Nat.le_of_ble_eq_true rfl)) d_Gr_search_68 ⟨Nat.zero_le _, Nat.zero_le _⟩) hS (fun w15 H locs hP hD hS hpp => ?_)
        obtain ⟨q0, frc⟩ := hpp
        have bk0_7 : wc_Wa cI cG cZ ad (k0 + 7) (p14.2.1, p14.2.2.1, vbk0_7.2.2.1, p14.2.2.2) w15 := q0
        have bk1_0 : wc_Do cI cG cZ ad (k1) (x1_0, x1_1, x1_2, x1_3) w15 := bk1_0.fr (fun j h1 h2 => frc j (by omega))
        have mk2_0 : w15[k2]? = some (ad k2, .inl (cI, 4, .inl x2_0)) := (frc _ (by omega)).trans mk2_0
        have mk0_0 : w15[k0]? = some (ad k0, .inr (2, [.ref (ad (k0 + 1)), .ref (ad (k0 + 7)), .ref (ad (k0 + 15)), .ref (ad (k0 + 17)), .int x0_4, .int vfk0_0_5, .int x0_6])) := (frc _ (by omega)).trans mk0_0
        have bk0_1 : wc_Li cI cG cZ ad (k0 + 1) x0_0 w15 := bk0_1.fr (fun j h1 h2 => frc j (by omega))
        have bk0_15 : wc_Ch cI cG cZ ad (k0 + 15) x0_2 w15 := bk0_15.fr (fun j h1 h2 => frc j (by omega))
        have bk0_17 : wc_Rk cI cG cZ ad (k0 + 17) x0_3 w15 := bk0_17.fr (fun j h1 h2 => frc j (by omega))
        have fr : ∀ j : Nat, (j < k0 ∨ k0 + 20 ≤ j) → w15[j]? = w0[j]? := fun j o0 => (frc j (by omega)).trans (fr j o0)
        refine lv_iadd hx hb d_Gr_search_71 ?_
        refine va_put (D := D) (ci := 2) (v := .int (vfk0_0_5 + p14.1)) (ty := .int) (C := R_Gr) (T := F_Gr) (N := 7) hx hb hts i_Gr t_Gr t_Gr_ok n_Gr hown hK hP hD hS (k0) mk0_0 rfl 5 (by decide) (hts _ iw_137) (fun _ h9 => h9) rfl (by decide +kernel) rfl rfl (Nat.le_of_ble_eq_true rfl) d_Gr_search_72 (fun H locs hP hD hS => ?_)
        obtain ⟨w16, hP, hD, hne, heq⟩ := hs_up hP hD mk0_0
        have mk0_0 : w16[k0]? = some (ad k0, .inr (2, [.ref (ad (k0 + 1)), .ref (ad (k0 + 7)), .ref (ad (k0 + 15)), .ref (ad (k0 + 17)), .int x0_4, .int (vfk0_0_5 + p14.1), .int x0_6])) := heq
        have bk1_0 : wc_Do cI cG cZ ad (k1) (x1_0, x1_1, x1_2, x1_3) w16 := bk1_0.fr (fun j h1 h2 => hne j (by omega))
        have mk2_0 : w16[k2]? = some (ad k2, .inl (cI, 4, .inl x2_0)) := (hne _ (by omega)).trans mk2_0
        have bk0_1 : wc_Li cI cG cZ ad (k0 + 1) x0_0 w16 := bk0_1.fr (fun j h1 h2 => hne j (by omega))
        have bk0_7 : wc_Wa cI cG cZ ad (k0 + 7) (p14.2.1, p14.2.2.1, vbk0_7.2.2.1, p14.2.2.2) w16 := bk0_7.fr (fun j h1 h2 => hne j (by omega))
        have bk0_15 : wc_Ch cI cG cZ ad (k0 + 15) x0_2 w16 := bk0_15.fr (fun j h1 h2 => hne j (by omega))
        have bk0_17 : wc_Rk cI cG cZ ad (k0 + 17) x0_3 w16 := bk0_17.fr (fun j h1 h2 => hne j (by omega))
        have fr : ∀ j : Nat, (j < k0 ∨ k0 + 20 ≤ j) → w16[j]? = w0[j]? := fun j o0 => (hne j (by omega)).trans (fr j o0)
        refine lv_iinc (v := v4 + (-1)) (lv' := [(4, .int (v4 + (-1))), (0, .ref (ad k0)), (1, .ref (ad k1)), (2, .ref (ad k2)), (3, .int a3)]) hx hb d_Gr_search_75 hl (k := 0) rfl rfl (by decide) rfl (fun ls hl => ?_)
        refine lv_goto (tgt := 38) hx hb d_Gr_search_78 (by decide) ?_
        exact ih (p14.2.1, p14.2.2.1, vbk0_7.2.2.1, p14.2.2.2) (vfk0_0_5 + p14.1) (v4 + (-1)) _ _ _ _ hP hD hS (lv_sub hl [0, 1, 2, 3, 4] rfl) mk0_0 bk0_1 bk0_7 bk0_15 bk0_17 bk1_0 mk2_0 fr hf
set_option maxHeartbeats 4000000 in
set_option maxRecDepth 100000 in
theorem c_Gr_search (l : Launch) (D : va_G) (cI cG cZ : ClassId) (ad : Nat → Nat) (B : Nat) (w0 : va_W) (N : Nat) (k0 : Nat) (x0_0 : T_Li) (x0_1 : T_Wa) (x0_2 : T_Ch) (x0_3 : T_Rk) (x0_4 : Int32) (x0_5 : Int32) (x0_6 : Int32) (k1 : Nat) (x1_0 : (Nat → Nat → Int32)) (x1_1 : (Nat → Int32)) (x1_2 : (Nat → Int32)) (x1_3 : Int32) (k2 : Nat) (x2_0 : (Nat → Int32)) (a3 : Int32) (y0_1 : T_Wa) (y0_5 : Int32) (hf : f_Gr_search N x0_0 x0_1 x0_4 x0_5 x1_0 x2_0 a3 = some (y0_1, y0_5)) (bk0_0 : wc_Gr cI cG cZ ad k0 (x0_0, x0_1, x0_2, x0_3, x0_4, x0_5, x0_6) w0) (bk1_0 : wc_Do cI cG cZ ad k1 (x1_0, x1_1, x1_2, x1_3) w0) (mk2_0 : w0[k2]? = some (ad k2, .inl (cI, 4, .inl x2_0))) (dj0 : k0 + 20 ≤ k1 ∨ k1 + 34 ≤ k0) (dj1 : k0 + 20 ≤ k2 ∨ k2 + 1 ≤ k0) : Met l y_Gr_search (.code y_Gr_search b_Gr_search 5 (some (.object "NearDesk$Ranking")) :: hw_G) ({ frames := 4, cells := 0, slots := 0, locals := 97 } : Room) (va_Pc [.ref (ad k0), .ref (ad k1), .ref (ad k2), .int a3] (hw_U D cI cG cZ B w0)) (va_Qr (fun (w1 : va_W) => wc_Gr cI cG cZ ad k0 (x0_0, y0_1, x0_2, x0_3, x0_4, y0_5, x0_6) w1 ∧ (∀ j : Nat, (j < k0 ∨ k0 + 20 ≤ j) → w1[j]? = w0[j]?)) (hw_Br D B (ad (k0 + 8))) (fun q : Nat => B ≤ q)) 0 0 (fun q : Nat => B ≤ q) := by
  refine Met.ofW (cc := b_Gr_search) (maxL := 5) (ret := (some (.object "NearDesk$Ranking"))) (by decide) rfl ?_
  intro p e s m args below meth c s₁ Bd hml hv
  obtain ⟨rfl, hP, hD, hK, hN⟩ := hv
  have C0 : hw_C p s m meth c b_Gr_search 5 _ R_Gr (some (.object "NearDesk$Ranking")) := ⟨Bd.exec, Bd.bytes, Bd.returns, hml, findClass_of_methodNamed Bd.named, fun w h => atoms_spec (ws := .code y_Gr_search b_Gr_search 5 (some (.object "NearDesk$Ranking")) :: hw_G) Bd.pre w (List.mem_cons_of_mem _ h), Bd.notSynchronized⟩
  obtain ⟨hx, hb, hr, -, hown, hts, hlocks⟩ := id C0
  have hS : va_S (fun q : Nat => B ≤ q) s.heap s.heap [] := va_S.rf
  have fr : ∀ j : Nat, (j < k0 ∨ k0 + 20 ≤ j) → w0[j]? = w0[j]? := fun j _ => rfl
  have hl := lv_entry ([.ref (ad k0), .ref (ad k1), .ref (ad k2), .int a3]) (n := 5) (Nat.le_of_ble_eq_true rfl)
  rw [lg_entry_eq]
  generalize (lg_sl ([.ref (ad k0), .ref (ad k1), .ref (ad k2), .int a3]) ++ List.replicate (5 - (lg_sl ([.ref (ad k0), .ref (ad k1), .ref (ad k2), .int a3])).length) Slot.unset).toArray = ls at hl ⊢
  have hl : lv_has ls 5 [(0, .ref (ad k0)), (1, .ref (ad k1)), (2, .ref (ad k2)), (3, .int a3)] := hl
  unfold f_Gr_search at hf
  obtain ⟨mk0_0, bk0_1, bk0_7, bk0_15, bk0_17⟩ := id bk0_0
  have mk0_0 : w0[k0]? = some (ad k0, .inr (2, [.ref (ad (k0 + 1)), .ref (ad (k0 + 7)), .ref (ad (k0 + 15)), .ref (ad (k0 + 17)), .int x0_4, .int x0_5, .int x0_6])) := mk0_0
  have bk0_1 : wc_Li cI cG cZ ad (k0 + 1) x0_0 w0 := bk0_1
  have bk0_7 : wc_Wa cI cG cZ ad (k0 + 7) x0_1 w0 := bk0_7
  have bk0_15 : wc_Ch cI cG cZ ad (k0 + 15) x0_2 w0 := bk0_15
  have bk0_17 : wc_Rk cI cG cZ ad (k0 + 17) x0_3 w0 := bk0_17
  refine lv_aload_n hx hb d_Gr_search_0 rfl (lv_at hl 0 rfl) ?_
  refine va_get (D := D) (ci := 2) (v := .int x0_4) (C := R_Gr) (T := F_Gr) (N := 7) hx hb hts i_Gr hown hK hP (k0) mk0_0 rfl 4 (by decide) (hts _ iw_136) (fun _ h9 => h9) rfl d_Gr_search_1 ?_
  refine lv_bipush (v := (-2)) hx hb d_Gr_search_4 (by decide) ?_
  refine lv_icmp_ne (tgt := 19) hx hb d_Gr_search_6 (by decide) (fun c1 => ?_) (fun c1 => ?_)
  · rw [if_neg c1] at hf
    refine lv_aload_n hx hb d_Gr_search_19 rfl (lv_at hl 0 rfl) ?_
    refine va_get (D := D) (ci := 2) (v := .ref (ad (k0 + 7))) (C := R_Gr) (T := F_Gr) (N := 7) hx hb hts i_Gr hown hK hP (k0) mk0_0 rfl 1 (by decide) (hts _ iw_133) (fun _ h9 => h9) rfl d_Gr_search_20 ?_
    refine lv_aload_n hx hb d_Gr_search_23 rfl (lv_at hl 1 rfl) ?_
    refine lv_aload_n hx hb d_Gr_search_24 rfl (lv_at hl 2 rfl) ?_
    refine lv_aload_n hx hb d_Gr_search_25 rfl (lv_at hl 0 rfl) ?_
    refine va_get (D := D) (ci := 2) (v := .int x0_4) (C := R_Gr) (T := F_Gr) (N := 7) hx hb hts i_Gr hown hK hP (k0) mk0_0 rfl 4 (by decide) (hts _ iw_136) (fun _ h9 => h9) rfl d_Gr_search_26 ?_
    obtain ⟨p2, hp2, hf⟩ := g_bd hf
    refine hw_cv (va_runV (As := [.ref (ad k1), .ref (ad k2), .int x0_4]) (rest := []) ⟨hx, hb, hml, hown, hts⟩ (c_Wa_standAt l D cI cG cZ ad B w0 N (k0 + 7) x0_1.1 x0_1.2.1 x0_1.2.2.1 x0_1.2.2.2 k1 x1_0 x1_1 x1_2 x1_3 k2 x2_0 x0_4 p2.1 p2.2 hp2 bk0_7 bk1_0 mk2_0 (by omega) (by omega)) (cwV 3 hts (hw_gV iw_219 gy_Wa_standAt) rfl rfl rfl (by decide +kernel) ⟨Nat.le_of_ble_eq_true rfl, Nat.le_of_ble_eq_true rfl⟩) ⟨hw_blind, va_recv hK hP (ci := 5) (q0 := k0 + 7) rfl bk0_7.1, hw_go hP hD hK hN⟩ rfl rfl hl.1 rfl (lv_room (Nat.le_of_ble_eq_true rfl)) d_Gr_search_29 ⟨Nat.zero_le _, Nat.zero_le _⟩) hS (fun w3 H locs hP hD hS hpp => ?_)
    obtain ⟨q0, frc⟩ := hpp
    have bk0_7 : wc_Wa cI cG cZ ad (k0 + 7) (p2.1, x0_1.2.1, p2.2, x0_1.2.2.2) w3 := q0
    have bk1_0 : wc_Do cI cG cZ ad (k1) (x1_0, x1_1, x1_2, x1_3) w3 := bk1_0.fr (fun j h1 h2 => frc j (by omega))
    have mk2_0 : w3[k2]? = some (ad k2, .inl (cI, 4, .inl x2_0)) := (frc _ (by omega)).trans mk2_0
    have mk0_0 : w3[k0]? = some (ad k0, .inr (2, [.ref (ad (k0 + 1)), .ref (ad (k0 + 7)), .ref (ad (k0 + 15)), .ref (ad (k0 + 17)), .int x0_4, .int x0_5, .int x0_6])) := (frc _ (by omega)).trans mk0_0
    have bk0_1 : wc_Li cI cG cZ ad (k0 + 1) x0_0 w3 := bk0_1.fr (fun j h1 h2 => frc j (by omega))
    have bk0_15 : wc_Ch cI cG cZ ad (k0 + 15) x0_2 w3 := bk0_15.fr (fun j h1 h2 => frc j (by omega))
    have bk0_17 : wc_Rk cI cG cZ ad (k0 + 17) x0_3 w3 := bk0_17.fr (fun j h1 h2 => frc j (by omega))
    have fr : ∀ j : Nat, (j < k0 ∨ k0 + 20 ≤ j) → w3[j]? = w0[j]? := fun j o0 => (frc j (by omega)).trans (fr j o0)
    refine lv_aload_n hx hb d_Gr_search_32 rfl (lv_at hl 0 rfl) ?_
    have bk0_0 : wc_Gr cI cG cZ ad (k0) (x0_0, (p2.1, x0_1.2.1, p2.2, x0_1.2.2.2), x0_2, x0_3, x0_4, x0_5, x0_6) w3 := ⟨mk0_0, bk0_1, bk0_7, bk0_15, bk0_17⟩
    obtain ⟨p4, hp4, hf⟩ := g_bd hf
    refine hw_ci0 (va_runV (As := []) (rest := []) ⟨hx, hb, hml, hown, hts⟩ (c_Gr_top l D cI cG cZ ad B w3 N k0 x0_0 (p2.1, x0_1.2.1, p2.2, x0_1.2.2.2) x0_2 x0_3 x0_4 x0_5 x0_6 p4 hp4 bk0_0) (cwV 0 hts (hw_gV iw_249 gy_Gr_top) rfl rfl rfl (by decide +kernel) ⟨Nat.le_of_ble_eq_true rfl, Nat.le_of_ble_eq_true rfl⟩) ⟨hw_blind, va_recv hK hP (ci := 2) (q0 := k0) rfl bk0_0.1, hw_go hP hD hK hN⟩ rfl rfl hl.1 rfl (lv_room (Nat.le_of_ble_eq_true rfl)) d_Gr_search_33 ⟨Nat.zero_le _, Nat.zero_le _⟩) hS (fun H locs hP hD hS => ?_)
    refine lv_istore (lv' := [(4, .int p4), (0, .ref (ad k0)), (1, .ref (ad k1)), (2, .ref (ad k2)), (3, .int a3)]) hx hb d_Gr_search_36 hl (by decide) rfl (fun ls hl => ?_)
    obtain ⟨mk0_0, bk0_1, bk0_7, bk0_15, bk0_17⟩ := id bk0_0
    have mk0_0 : w3[k0]? = some (ad k0, .inr (2, [.ref (ad (k0 + 1)), .ref (ad (k0 + 7)), .ref (ad (k0 + 15)), .ref (ad (k0 + 17)), .int x0_4, .int x0_5, .int x0_6])) := mk0_0
    have bk0_1 : wc_Li cI cG cZ ad (k0 + 1) x0_0 w3 := bk0_1
    have bk0_7 : wc_Wa cI cG cZ ad (k0 + 7) (p2.1, x0_1.2.1, p2.2, x0_1.2.2.2) w3 := bk0_7
    have bk0_15 : wc_Ch cI cG cZ ad (k0 + 15) x0_2 w3 := bk0_15
    have bk0_17 : wc_Rk cI cG cZ ad (k0 + 17) x0_3 w3 := bk0_17
    exact wl_Gr_search_38 (ad := ad) C0 hK hN dj0 dj1 x0_0 x0_2 x0_3 x0_4 x0_6 x1_0 x1_1 x1_2 x1_3 x2_0 a3 x0_1 x0_5 y0_1 y0_5 N (p2.1, x0_1.2.1, p2.2, x0_1.2.2.2) x0_5 p4 _ _ _ _ hP hD hS (lv_sub hl [0, 1, 2, 3, 4] rfl) mk0_0 bk0_1 bk0_7 bk0_15 bk0_17 bk1_0 mk2_0 fr hf
  · rw [if_pos c1] at hf
    refine lv_aload_n hx hb d_Gr_search_9 rfl (lv_at hl 0 rfl) ?_
    refine va_get (D := D) (ci := 2) (v := .ref (ad (k0 + 7))) (C := R_Gr) (T := F_Gr) (N := 7) hx hb hts i_Gr hown hK hP (k0) mk0_0 rfl 1 (by decide) (hts _ iw_133) (fun _ h9 => h9) rfl d_Gr_search_10 ?_
    obtain ⟨p5, hp5, hf⟩ := g_bd hf
    refine hw_cv (va_runV (As := []) (rest := []) ⟨hx, hb, hml, hown, hts⟩ (c_Wa_standNowhere l D cI cG cZ ad B w0 N (k0 + 7) x0_1.1 x0_1.2.1 x0_1.2.2.1 x0_1.2.2.2 p5 hp5 bk0_7) (cwV 0 hts (hw_gV iw_423 gy_Wa_standNowhere) rfl rfl rfl (by decide +kernel) ⟨Nat.le_of_ble_eq_true rfl, Nat.le_of_ble_eq_true rfl⟩) ⟨hw_blind, va_recv hK hP (ci := 5) (q0 := k0 + 7) rfl bk0_7.1, hw_go hP hD hK hN⟩ rfl rfl hl.1 rfl (lv_room (Nat.le_of_ble_eq_true rfl)) d_Gr_search_13 ⟨Nat.zero_le _, Nat.zero_le _⟩) hS (fun w6 H locs hP hD hS hpp => ?_)
    obtain ⟨q0, frc⟩ := hpp
    have bk0_7 : wc_Wa cI cG cZ ad (k0 + 7) (p5, x0_1.2.1, x0_1.2.2.1, x0_1.2.2.2) w6 := q0
    have bk1_0 : wc_Do cI cG cZ ad (k1) (x1_0, x1_1, x1_2, x1_3) w6 := bk1_0.fr (fun j h1 h2 => frc j (by omega))
    have mk2_0 : w6[k2]? = some (ad k2, .inl (cI, 4, .inl x2_0)) := (frc _ (by omega)).trans mk2_0
    have mk0_0 : w6[k0]? = some (ad k0, .inr (2, [.ref (ad (k0 + 1)), .ref (ad (k0 + 7)), .ref (ad (k0 + 15)), .ref (ad (k0 + 17)), .int x0_4, .int x0_5, .int x0_6])) := (frc _ (by omega)).trans mk0_0
    have bk0_1 : wc_Li cI cG cZ ad (k0 + 1) x0_0 w6 := bk0_1.fr (fun j h1 h2 => frc j (by omega))
    have bk0_15 : wc_Ch cI cG cZ ad (k0 + 15) x0_2 w6 := bk0_15.fr (fun j h1 h2 => frc j (by omega))
    have bk0_17 : wc_Rk cI cG cZ ad (k0 + 17) x0_3 w6 := bk0_17.fr (fun j h1 h2 => frc j (by omega))
    have fr : ∀ j : Nat, (j < k0 ∨ k0 + 20 ≤ j) → w6[j]? = w0[j]? := fun j o0 => (frc j (by omega)).trans (fr j o0)
    refine lv_goto (tgt := 81) hx hb d_Gr_search_16 (by decide) ?_
    refine lv_aload_n hx hb d_Gr_search_81 rfl (lv_at hl 0 rfl) ?_
    refine va_get (D := D) (ci := 2) (v := .ref (ad (k0 + 7))) (C := R_Gr) (T := F_Gr) (N := 7) hx hb hts i_Gr hown hK hP (k0) mk0_0 rfl 1 (by decide) (hts _ iw_133) (fun _ h9 => h9) rfl d_Gr_search_82 ?_
    obtain ⟨p7, hp7, hf⟩ := g_bd hf
    refine hw_cr0 (va_runV (As := []) (rest := []) ⟨hx, hb, hml, hown, hts⟩ (c_Wa_held l D cI cG cZ ad B w6 N (k0 + 7) p5 x0_1.2.1 x0_1.2.2.1 x0_1.2.2.2 hp7 bk0_7) (cwV 0 hts (hw_gV iw_314 gy_Wa_held) rfl rfl rfl (by decide +kernel) ⟨Nat.le_of_ble_eq_true rfl, Nat.le_of_ble_eq_true rfl⟩) ⟨hw_blind, va_recv hK hP (ci := 5) (q0 := k0 + 7) rfl bk0_7.1, hw_go hP hD hK hN⟩ rfl rfl hl.1 rfl (lv_room (Nat.le_of_ble_eq_true rfl)) d_Gr_search_85 ⟨Nat.zero_le _, Nat.zero_le _⟩) hS (fun H locs hP hD hS => ?_)
    have bk0_0 : wc_Gr cI cG cZ ad (k0) (x0_0, (p5, x0_1.2.1, x0_1.2.2.1, x0_1.2.2.2), x0_2, x0_3, x0_4, x0_5, x0_6) w6 := ⟨mk0_0, bk0_1, bk0_7, bk0_15, bk0_17⟩
    have he := Option.some.inj hf
    obtain ⟨e0, e1⟩ := Prod.mk.inj he
    have f0 : wc_Gr cI cG cZ ad (k0) (x0_0, y0_1, x0_2, x0_3, x0_4, y0_5, x0_6) w6 := by rw [← e0, ← e1]; exact bk0_0
    exact W.aret hx hb hr (Or.inl ⟨_, rfl⟩) (Or.inr ⟨_, rfl⟩) (fun t ht hW => ⟨⟨w6, ad (k0 + 8), rfl, ⟨f0, fr⟩, rfl, by rw [ht]; exact hP, hD⟩, hS.F ht⟩) hS.2.2 d_Gr_search_88
set_option maxHeartbeats 4000000 in
set_option maxRecDepth 100000 in
theorem c_Gr_entry (l : Launch) (D : va_G) (cI cG cZ : ClassId) (ad : Nat → Nat) (B : Nat) (w0 : va_W) (N : Nat) (k0 : Nat) (x0_0 : T_Li) (x0_1 : T_Wa) (x0_2 : T_Ch) (x0_3 : T_Rk) (x0_4 : Int32) (x0_5 : Int32) (x0_6 : Int32) (r : Int32) (hf : f_Gr_entry N x0_4 = some r) (bk0_0 : wc_Gr cI cG cZ ad k0 (x0_0, x0_1, x0_2, x0_3, x0_4, x0_5, x0_6) w0) : Met l y_Gr_entry (.code y_Gr_entry b_Gr_entry 1 (some .int) :: hw_G) ({ frames := 0, cells := 0, slots := 0, locals := 0 } : Room) (va_Pc [.ref (ad k0)] (hw_U D cI cG cZ B w0)) (va_Qi (fun (r1 : Int32) (w1 : va_W) => r1 = r ∧ w1 = w0) (hw_B D B) (fun q : Nat => B ≤ q)) 0 0 (fun q : Nat => B ≤ q) := by
  refine Met.ofW (cc := b_Gr_entry) (maxL := 1) (ret := (some .int)) (by decide) rfl ?_
  intro p e s m args below meth c s₁ Bd hml hv
  obtain ⟨rfl, hP, hD, hK, hN⟩ := hv
  have C0 : hw_C p s m meth c b_Gr_entry 1 _ R_Gr (some .int) := ⟨Bd.exec, Bd.bytes, Bd.returns, hml, findClass_of_methodNamed Bd.named, fun w h => atoms_spec (ws := .code y_Gr_entry b_Gr_entry 1 (some .int) :: hw_G) Bd.pre w (List.mem_cons_of_mem _ h), Bd.notSynchronized⟩
  obtain ⟨hx, hb, hr, -, hown, hts, hlocks⟩ := id C0
  have hS : va_S (fun q : Nat => B ≤ q) s.heap s.heap [] := va_S.rf
  have fr : w0 = w0 := rfl
  have hl := lv_entry ([.ref (ad k0)]) (n := 1) (Nat.le_of_ble_eq_true rfl)
  rw [lg_entry_eq]
  generalize (lg_sl ([.ref (ad k0)]) ++ List.replicate (1 - (lg_sl ([.ref (ad k0)])).length) Slot.unset).toArray = ls at hl ⊢
  have hl : lv_has ls 1 [(0, .ref (ad k0))] := hl
  unfold f_Gr_entry at hf
  obtain ⟨mk0_0, bk0_1, bk0_7, bk0_15, bk0_17⟩ := id bk0_0
  have mk0_0 : w0[k0]? = some (ad k0, .inr (2, [.ref (ad (k0 + 1)), .ref (ad (k0 + 7)), .ref (ad (k0 + 15)), .ref (ad (k0 + 17)), .int x0_4, .int x0_5, .int x0_6])) := mk0_0
  have bk0_1 : wc_Li cI cG cZ ad (k0 + 1) x0_0 w0 := bk0_1
  have bk0_7 : wc_Wa cI cG cZ ad (k0 + 7) x0_1 w0 := bk0_7
  have bk0_15 : wc_Ch cI cG cZ ad (k0 + 15) x0_2 w0 := bk0_15
  have bk0_17 : wc_Rk cI cG cZ ad (k0 + 17) x0_3 w0 := bk0_17
  refine lv_aload_n hx hb d_Gr_entry_0 rfl (lv_at hl 0 rfl) ?_
  refine va_get (D := D) (ci := 2) (v := .int x0_4) (C := R_Gr) (T := F_Gr) (N := 7) hx hb hts i_Gr hown hK hP (k0) mk0_0 rfl 4 (by decide) (hts _ iw_136) (fun _ h9 => h9) rfl d_Gr_entry_1 ?_
  have bk0_0 : wc_Gr cI cG cZ ad (k0) (x0_0, x0_1, x0_2, x0_3, x0_4, x0_5, x0_6) w0 := ⟨mk0_0, bk0_1, bk0_7, bk0_15, bk0_17⟩
  have e0 := Option.some.inj hf
  exact W.iret (v := x0_4) hx hb hr (fun t ht hW => ⟨⟨x0_4, w0, rfl, ⟨e0, fr⟩, by rw [ht]; exact hP, hD⟩, hS.F ht⟩) hS.2.2 d_Gr_entry_4
set_option maxHeartbeats 4000000 in
set_option maxRecDepth 100000 in
theorem c_Gr_seenInSearches (l : Launch) (D : va_G) (cI cG cZ : ClassId) (ad : Nat → Nat) (B : Nat) (w0 : va_W) (N : Nat) (k0 : Nat) (x0_0 : T_Li) (x0_1 : T_Wa) (x0_2 : T_Ch) (x0_3 : T_Rk) (x0_4 : Int32) (x0_5 : Int32) (x0_6 : Int32) (r : Int32) (hf : f_Gr_seenInSearches N x0_5 = some r) (bk0_0 : wc_Gr cI cG cZ ad k0 (x0_0, x0_1, x0_2, x0_3, x0_4, x0_5, x0_6) w0) : Met l y_Gr_seenInSearches (.code y_Gr_seenInSearches b_Gr_seenInSearches 1 (some .int) :: hw_G) ({ frames := 0, cells := 0, slots := 0, locals := 0 } : Room) (va_Pc [.ref (ad k0)] (hw_U D cI cG cZ B w0)) (va_Qi (fun (r1 : Int32) (w1 : va_W) => r1 = r ∧ w1 = w0) (hw_B D B) (fun q : Nat => B ≤ q)) 0 0 (fun q : Nat => B ≤ q) := by
  refine Met.ofW (cc := b_Gr_seenInSearches) (maxL := 1) (ret := (some .int)) (by decide) rfl ?_
  intro p e s m args below meth c s₁ Bd hml hv
  obtain ⟨rfl, hP, hD, hK, hN⟩ := hv
  have C0 : hw_C p s m meth c b_Gr_seenInSearches 1 _ R_Gr (some .int) := ⟨Bd.exec, Bd.bytes, Bd.returns, hml, findClass_of_methodNamed Bd.named, fun w h => atoms_spec (ws := .code y_Gr_seenInSearches b_Gr_seenInSearches 1 (some .int) :: hw_G) Bd.pre w (List.mem_cons_of_mem _ h), Bd.notSynchronized⟩
  obtain ⟨hx, hb, hr, -, hown, hts, hlocks⟩ := id C0
  have hS : va_S (fun q : Nat => B ≤ q) s.heap s.heap [] := va_S.rf
  have fr : w0 = w0 := rfl
  have hl := lv_entry ([.ref (ad k0)]) (n := 1) (Nat.le_of_ble_eq_true rfl)
  rw [lg_entry_eq]
  generalize (lg_sl ([.ref (ad k0)]) ++ List.replicate (1 - (lg_sl ([.ref (ad k0)])).length) Slot.unset).toArray = ls at hl ⊢
  have hl : lv_has ls 1 [(0, .ref (ad k0))] := hl
  unfold f_Gr_seenInSearches at hf
  obtain ⟨mk0_0, bk0_1, bk0_7, bk0_15, bk0_17⟩ := id bk0_0
  have mk0_0 : w0[k0]? = some (ad k0, .inr (2, [.ref (ad (k0 + 1)), .ref (ad (k0 + 7)), .ref (ad (k0 + 15)), .ref (ad (k0 + 17)), .int x0_4, .int x0_5, .int x0_6])) := mk0_0
  have bk0_1 : wc_Li cI cG cZ ad (k0 + 1) x0_0 w0 := bk0_1
  have bk0_7 : wc_Wa cI cG cZ ad (k0 + 7) x0_1 w0 := bk0_7
  have bk0_15 : wc_Ch cI cG cZ ad (k0 + 15) x0_2 w0 := bk0_15
  have bk0_17 : wc_Rk cI cG cZ ad (k0 + 17) x0_3 w0 := bk0_17
  refine lv_aload_n hx hb d_Gr_seenInSearches_0 rfl (lv_at hl 0 rfl) ?_
  refine va_get (D := D) (ci := 2) (v := .int x0_5) (C := R_Gr) (T := F_Gr) (N := 7) hx hb hts i_Gr hown hK hP (k0) mk0_0 rfl 5 (by decide) (hts _ iw_137) (fun _ h9 => h9) rfl d_Gr_seenInSearches_1 ?_
  have bk0_0 : wc_Gr cI cG cZ ad (k0) (x0_0, x0_1, x0_2, x0_3, x0_4, x0_5, x0_6) w0 := ⟨mk0_0, bk0_1, bk0_7, bk0_15, bk0_17⟩
  have e0 := Option.some.inj hf
  exact W.iret (v := x0_5) hx hb hr (fun t ht hW => ⟨⟨x0_5, w0, rfl, ⟨e0, fr⟩, by rw [ht]; exact hP, hD⟩, hS.F ht⟩) hS.2.2 d_Gr_seenInSearches_4
set_option maxHeartbeats 4000000 in
set_option maxRecDepth 100000 in
theorem c_Gr_seenInEntering (l : Launch) (D : va_G) (cI cG cZ : ClassId) (ad : Nat → Nat) (B : Nat) (w0 : va_W) (N : Nat) (k0 : Nat) (x0_0 : T_Li) (x0_1 : T_Wa) (x0_2 : T_Ch) (x0_3 : T_Rk) (x0_4 : Int32) (x0_5 : Int32) (x0_6 : Int32) (r : Int32) (hf : f_Gr_seenInEntering N x0_6 = some r) (bk0_0 : wc_Gr cI cG cZ ad k0 (x0_0, x0_1, x0_2, x0_3, x0_4, x0_5, x0_6) w0) : Met l y_Gr_seenInEntering (.code y_Gr_seenInEntering b_Gr_seenInEntering 1 (some .int) :: hw_G) ({ frames := 0, cells := 0, slots := 0, locals := 0 } : Room) (va_Pc [.ref (ad k0)] (hw_U D cI cG cZ B w0)) (va_Qi (fun (r1 : Int32) (w1 : va_W) => r1 = r ∧ w1 = w0) (hw_B D B) (fun q : Nat => B ≤ q)) 0 0 (fun q : Nat => B ≤ q) := by
  refine Met.ofW (cc := b_Gr_seenInEntering) (maxL := 1) (ret := (some .int)) (by decide) rfl ?_
  intro p e s m args below meth c s₁ Bd hml hv
  obtain ⟨rfl, hP, hD, hK, hN⟩ := hv
  have C0 : hw_C p s m meth c b_Gr_seenInEntering 1 _ R_Gr (some .int) := ⟨Bd.exec, Bd.bytes, Bd.returns, hml, findClass_of_methodNamed Bd.named, fun w h => atoms_spec (ws := .code y_Gr_seenInEntering b_Gr_seenInEntering 1 (some .int) :: hw_G) Bd.pre w (List.mem_cons_of_mem _ h), Bd.notSynchronized⟩
  obtain ⟨hx, hb, hr, -, hown, hts, hlocks⟩ := id C0
  have hS : va_S (fun q : Nat => B ≤ q) s.heap s.heap [] := va_S.rf
  have fr : w0 = w0 := rfl
  have hl := lv_entry ([.ref (ad k0)]) (n := 1) (Nat.le_of_ble_eq_true rfl)
  rw [lg_entry_eq]
  generalize (lg_sl ([.ref (ad k0)]) ++ List.replicate (1 - (lg_sl ([.ref (ad k0)])).length) Slot.unset).toArray = ls at hl ⊢
  have hl : lv_has ls 1 [(0, .ref (ad k0))] := hl
  unfold f_Gr_seenInEntering at hf
  obtain ⟨mk0_0, bk0_1, bk0_7, bk0_15, bk0_17⟩ := id bk0_0
  have mk0_0 : w0[k0]? = some (ad k0, .inr (2, [.ref (ad (k0 + 1)), .ref (ad (k0 + 7)), .ref (ad (k0 + 15)), .ref (ad (k0 + 17)), .int x0_4, .int x0_5, .int x0_6])) := mk0_0
  have bk0_1 : wc_Li cI cG cZ ad (k0 + 1) x0_0 w0 := bk0_1
  have bk0_7 : wc_Wa cI cG cZ ad (k0 + 7) x0_1 w0 := bk0_7
  have bk0_15 : wc_Ch cI cG cZ ad (k0 + 15) x0_2 w0 := bk0_15
  have bk0_17 : wc_Rk cI cG cZ ad (k0 + 17) x0_3 w0 := bk0_17
  refine lv_aload_n hx hb d_Gr_seenInEntering_0 rfl (lv_at hl 0 rfl) ?_
  refine va_get (D := D) (ci := 2) (v := .int x0_6) (C := R_Gr) (T := F_Gr) (N := 7) hx hb hts i_Gr hown hK hP (k0) mk0_0 rfl 6 (by decide) (hts _ iw_138) (fun _ h9 => h9) rfl d_Gr_seenInEntering_1 ?_
  have bk0_0 : wc_Gr cI cG cZ ad (k0) (x0_0, x0_1, x0_2, x0_3, x0_4, x0_5, x0_6) w0 := ⟨mk0_0, bk0_1, bk0_7, bk0_15, bk0_17⟩
  have e0 := Option.some.inj hf
  exact W.iret (v := x0_6) hx hb hr (fun t ht hW => ⟨⟨x0_6, w0, rfl, ⟨e0, fr⟩, by rw [ht]; exact hP, hD⟩, hS.F ht⟩) hS.2.2 d_Gr_seenInEntering_4
