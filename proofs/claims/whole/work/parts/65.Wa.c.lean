set_option maxHeartbeats 4000000 in
set_option maxRecDepth 100000 in
theorem c_Wa_standAt (l : Launch) (D : va_G) (cI cG cZ : ClassId) (ad : Nat → Nat) (B : Nat) (w0 : va_W) (N : Nat) (k0 : Nat) (x0_0 : T_Rk) (x0_1 : T_Rk) (x0_2 : (Nat → Int32)) (x0_3 : Int32) (k1 : Nat) (x1_0 : (Nat → Nat → Int32)) (x1_1 : (Nat → Int32)) (x1_2 : (Nat → Int32)) (x1_3 : Int32) (k2 : Nat) (x2_0 : (Nat → Int32)) (a3 : Int32) (y0_0 : T_Rk) (y0_2 : (Nat → Int32)) (hf : f_Wa_standAt N x0_0 x0_2 x1_0 x2_0 a3 = some (y0_0, y0_2)) (bk0_0 : wc_Wa cI cG cZ ad k0 (x0_0, x0_1, x0_2, x0_3) w0) (bk1_0 : wc_Do cI cG cZ ad k1 (x1_0, x1_1, x1_2, x1_3) w0) (mk2_0 : w0[k2]? = some (ad k2, .inl (cI, 4, .inl x2_0))) (dj0 : k0 + 8 ≤ k1 ∨ k1 + 34 ≤ k0) (dj1 : k0 + 8 ≤ k2 ∨ k2 + 1 ≤ k0) : Met l y_Wa_standAt (.code y_Wa_standAt b_Wa_standAt 4 none :: hw_G) ({ frames := 2, cells := 0, slots := 0, locals := 47 } : Room) (va_Pc [.ref (ad k0), .ref (ad k1), .ref (ad k2), .int a3] (hw_U D cI cG cZ B w0)) (va_Qv (fun (w1 : va_W) => wc_Wa cI cG cZ ad k0 (y0_0, x0_1, y0_2, x0_3) w1 ∧ (∀ j : Nat, (j < k0 ∨ k0 + 8 ≤ j) → w1[j]? = w0[j]?)) (hw_B D B) (fun q : Nat => B ≤ q)) 0 0 (fun q : Nat => B ≤ q) := by
  refine Met.ofW (cc := b_Wa_standAt) (maxL := 4) (ret := none) (by decide) rfl ?_
  intro p e s m args below meth c s₁ Bd hml hv
  obtain ⟨rfl, hP, hD, hK, hN⟩ := hv
  have C0 : hw_C p s m meth c b_Wa_standAt 4 _ R_Wa none := ⟨Bd.exec, Bd.bytes, Bd.returns, hml, findClass_of_methodNamed Bd.named, fun w h => atoms_spec (ws := .code y_Wa_standAt b_Wa_standAt 4 none :: hw_G) Bd.pre w (List.mem_cons_of_mem _ h), Bd.notSynchronized⟩
  obtain ⟨hx, hb, hr, -, hown, hts, hlocks⟩ := id C0
  have hS : va_S (fun q : Nat => B ≤ q) s.heap s.heap [] := va_S.rf
  have fr : ∀ j : Nat, (j < k0 ∨ k0 + 8 ≤ j) → w0[j]? = w0[j]? := fun j _ => rfl
  have hl := lv_entry ([.ref (ad k0), .ref (ad k1), .ref (ad k2), .int a3]) (n := 4) (Nat.le_of_ble_eq_true rfl)
  rw [lg_entry_eq]
  generalize (lg_sl ([.ref (ad k0), .ref (ad k1), .ref (ad k2), .int a3]) ++ List.replicate (4 - (lg_sl ([.ref (ad k0), .ref (ad k1), .ref (ad k2), .int a3])).length) Slot.unset).toArray = ls at hl ⊢
  have hl : lv_has ls 4 [(0, .ref (ad k0)), (1, .ref (ad k1)), (2, .ref (ad k2)), (3, .int a3)] := hl
  unfold f_Wa_standAt at hf
  obtain ⟨mk0_0, bk0_1, bk0_4, mk0_7⟩ := id bk0_0
  have mk0_0 : w0[k0]? = some (ad k0, .inr (5, [.ref (ad (k0 + 1)), .ref (ad (k0 + 4)), .ref (ad (k0 + 7)), .int x0_3])) := mk0_0
  have bk0_1 : wc_Rk cI cG cZ ad (k0 + 1) x0_0 w0 := bk0_1
  have bk0_4 : wc_Rk cI cG cZ ad (k0 + 4) x0_1 w0 := bk0_4
  have mk0_7 : w0[k0 + 7]? = some (ad (k0 + 7), .inl (cI, 30, .inl x0_2)) := mk0_7
  refine lv_aload_n hx hb d_Wa_standAt_0 rfl (lv_at hl 1 rfl) ?_
  refine lv_aload_n hx hb d_Wa_standAt_1 rfl (lv_at hl 2 rfl) ?_
  refine lv_aload_n hx hb d_Wa_standAt_2 rfl (lv_at hl 0 rfl) ?_
  refine va_get (D := D) (ci := 5) (v := .ref (ad (k0 + 7))) (C := R_Wa) (T := F_Wa) (N := 4) hx hb hts i_Wa hown hK hP (k0) mk0_0 rfl 2 (by decide) (hts _ iw_102) (fun _ h9 => h9) rfl d_Wa_standAt_3 ?_
  obtain ⟨p1, hp1, hf⟩ := g_bd hf
  refine hw_cv (va_runV (As := [.ref (ad k2), .ref (ad (k0 + 7))]) (rest := []) ⟨hx, hb, hml, hown, hts⟩ (c_Do_measure l D cI cG cZ ad B w0 N k1 x1_0 x1_1 x1_2 x1_3 k2 x2_0 (k0 + 7) x0_2 p1 hp1 bk1_0 mk2_0 mk0_7 (by omega) (by omega)) (cwV 2 hts (hw_gV iw_223 gy_Do_measure) rfl rfl rfl (by decide +kernel) ⟨Nat.le_of_ble_eq_true rfl, Nat.le_of_ble_eq_true rfl⟩) ⟨hw_blind, va_recv hK hP (ci := 1) (q0 := k1) rfl bk1_0.1, hw_go hP hD hK hN⟩ rfl rfl hl.1 rfl (lv_room (Nat.le_of_ble_eq_true rfl)) d_Wa_standAt_6 ⟨Nat.zero_le _, Nat.zero_le _⟩) hS (fun w2 H locs hP hD hS hpp => ?_)
  obtain ⟨q0, frc⟩ := hpp
  have mk0_7 : w2[k0 + 7]? = some (ad (k0 + 7), .inl (cI, 30, .inl p1)) := q0
  have bk1_0 : wc_Do cI cG cZ ad (k1) (x1_0, x1_1, x1_2, x1_3) w2 := bk1_0.fr (fun j h1 h2 => frc j (by omega))
  have mk2_0 : w2[k2]? = some (ad k2, .inl (cI, 4, .inl x2_0)) := (frc _ (by omega)).trans mk2_0
  have mk0_0 : w2[k0]? = some (ad k0, .inr (5, [.ref (ad (k0 + 1)), .ref (ad (k0 + 4)), .ref (ad (k0 + 7)), .int x0_3])) := (frc _ (by omega)).trans mk0_0
  have bk0_1 : wc_Rk cI cG cZ ad (k0 + 1) x0_0 w2 := bk0_1.fr (fun j h1 h2 => frc j (by omega))
  have bk0_4 : wc_Rk cI cG cZ ad (k0 + 4) x0_1 w2 := bk0_4.fr (fun j h1 h2 => frc j (by omega))
  have fr : ∀ j : Nat, (j < k0 ∨ k0 + 8 ≤ j) → w2[j]? = w0[j]? := fun j o0 => (frc j (by omega)).trans (fr j o0)
  refine lv_aload_n hx hb d_Wa_standAt_9 rfl (lv_at hl 0 rfl) ?_
  refine va_get (D := D) (ci := 5) (v := .ref (ad (k0 + 1))) (C := R_Wa) (T := F_Wa) (N := 4) hx hb hts i_Wa hown hK hP (k0) mk0_0 rfl 0 (by decide) (hts _ iw_100) (fun _ h9 => h9) rfl d_Wa_standAt_10 ?_
  refine lv_iconst (v := 1) hx hb d_Wa_standAt_13 (by decide) ?_
  refine lv_iconst (v := 0) hx hb d_Wa_standAt_14 (by decide) ?_
  obtain ⟨p3, hp3, hf⟩ := g_bd hf
  refine hw_cv (va_runV (As := [.int 1, .int 0]) (rest := []) ⟨hx, hb, hml, hown, hts⟩ (c_Rk_start l D cI cG cZ ad B w2 N (k0 + 1) x0_0.1 x0_0.2.1 x0_0.2.2.1 x0_0.2.2.2.1 x0_0.2.2.2.2 1 0 p3.1 p3.2.1 p3.2.2 hp3 bk0_1) (cwV 2 hts (hw_gV iw_230 gy_Rk_start) rfl rfl rfl (by decide +kernel) ⟨Nat.le_of_ble_eq_true rfl, Nat.le_of_ble_eq_true rfl⟩) ⟨hw_blind, va_recv hK hP (ci := 4) (q0 := k0 + 1) rfl bk0_1.1, hw_go hP hD hK hN⟩ rfl rfl hl.1 rfl (lv_room (Nat.le_of_ble_eq_true rfl)) d_Wa_standAt_15 ⟨Nat.zero_le _, Nat.zero_le _⟩) hS (fun w4 H locs hP hD hS hpp => ?_)
  obtain ⟨q0, frc⟩ := hpp
  have bk0_1 : wc_Rk cI cG cZ ad (k0 + 1) (x0_0.1, x0_0.2.1, p3.1, p3.2.1, p3.2.2) w4 := q0
  have bk1_0 : wc_Do cI cG cZ ad (k1) (x1_0, x1_1, x1_2, x1_3) w4 := bk1_0.fr (fun j h1 h2 => frc j (by omega))
  have mk2_0 : w4[k2]? = some (ad k2, .inl (cI, 4, .inl x2_0)) := (frc _ (by omega)).trans mk2_0
  have mk0_0 : w4[k0]? = some (ad k0, .inr (5, [.ref (ad (k0 + 1)), .ref (ad (k0 + 4)), .ref (ad (k0 + 7)), .int x0_3])) := (frc _ (by omega)).trans mk0_0
  have bk0_4 : wc_Rk cI cG cZ ad (k0 + 4) x0_1 w4 := bk0_4.fr (fun j h1 h2 => frc j (by omega))
  have mk0_7 : w4[k0 + 7]? = some (ad (k0 + 7), .inl (cI, 30, .inl p1)) := (frc _ (by omega)).trans mk0_7
  have fr : ∀ j : Nat, (j < k0 ∨ k0 + 8 ≤ j) → w4[j]? = w0[j]? := fun j o0 => (frc j (by omega)).trans (fr j o0)
  refine lv_aload_n hx hb d_Wa_standAt_18 rfl (lv_at hl 0 rfl) ?_
  refine va_get (D := D) (ci := 5) (v := .ref (ad (k0 + 1))) (C := R_Wa) (T := F_Wa) (N := 4) hx hb hts i_Wa hown hK hP (k0) mk0_0 rfl 0 (by decide) (hts _ iw_100) (fun _ h9 => h9) rfl d_Wa_standAt_19 ?_
  refine lv_iload_n hx hb d_Wa_standAt_22 rfl (lv_at hl 3 rfl) ?_
  refine lv_aload_n hx hb d_Wa_standAt_23 rfl (lv_at hl 0 rfl) ?_
  refine va_get (D := D) (ci := 5) (v := .ref (ad (k0 + 7))) (C := R_Wa) (T := F_Wa) (N := 4) hx hb hts i_Wa hown hK hP (k0) mk0_0 rfl 2 (by decide) (hts _ iw_102) (fun _ h9 => h9) rfl d_Wa_standAt_24 ?_
  refine lv_iload_n hx hb d_Wa_standAt_27 rfl (lv_at hl 3 rfl) ?_
  obtain ⟨z5, hf⟩ := g_atE hf
  refine va_iald hx hb hK hP (k0 + 7) 0 mk0_7 rfl z5 d_Wa_standAt_28 ?_
  obtain ⟨p6, hp6, hf⟩ := g_bd hf
  refine hw_ci (va_runV (As := [.int a3, .int (p1 a3.toNatClampNeg)]) (rest := []) ⟨hx, hb, hml, hown, hts⟩ (c_Rk_add l D cI cG cZ ad B w4 N (k0 + 1) x0_0.1 x0_0.2.1 p3.1 p3.2.1 p3.2.2 a3 (p1 a3.toNatClampNeg) p6.1 p6.2.1 p6.2.2.1 p6.2.2.2 hp6 bk0_1) (cwV 2 hts (hw_gV iw_237 gy_Rk_add) rfl rfl rfl (by decide +kernel) ⟨Nat.le_of_ble_eq_true rfl, Nat.le_of_ble_eq_true rfl⟩) ⟨hw_blind, va_recv hK hP (ci := 4) (q0 := k0 + 1) rfl bk0_1.1, hw_go hP hD hK hN⟩ rfl rfl hl.1 rfl (lv_room (Nat.le_of_ble_eq_true rfl)) d_Wa_standAt_29 ⟨Nat.zero_le _, Nat.zero_le _⟩) hS (fun w7 H locs hP hD hS hpp => ?_)
  obtain ⟨q0, frc⟩ := hpp
  have bk0_1 : wc_Rk cI cG cZ ad (k0 + 1) (p6.2.1, p6.2.2.1, p6.2.2.2, p3.2.1, p3.2.2) w7 := q0
  have bk1_0 : wc_Do cI cG cZ ad (k1) (x1_0, x1_1, x1_2, x1_3) w7 := bk1_0.fr (fun j h1 h2 => frc j (by omega))
  have mk2_0 : w7[k2]? = some (ad k2, .inl (cI, 4, .inl x2_0)) := (frc _ (by omega)).trans mk2_0
  have mk0_0 : w7[k0]? = some (ad k0, .inr (5, [.ref (ad (k0 + 1)), .ref (ad (k0 + 4)), .ref (ad (k0 + 7)), .int x0_3])) := (frc _ (by omega)).trans mk0_0
  have bk0_4 : wc_Rk cI cG cZ ad (k0 + 4) x0_1 w7 := bk0_4.fr (fun j h1 h2 => frc j (by omega))
  have mk0_7 : w7[k0 + 7]? = some (ad (k0 + 7), .inl (cI, 30, .inl p1)) := (frc _ (by omega)).trans mk0_7
  have fr : ∀ j : Nat, (j < k0 ∨ k0 + 8 ≤ j) → w7[j]? = w0[j]? := fun j o0 => (frc j (by omega)).trans (fr j o0)
  refine lv_pop hx hb d_Wa_standAt_32 rfl ?_
  have bk0_0 : wc_Wa cI cG cZ ad (k0) ((p6.2.1, p6.2.2.1, p6.2.2.2, p3.2.1, p3.2.2), x0_1, p1, x0_3) w7 := ⟨mk0_0, bk0_1, bk0_4, mk0_7⟩
  have he := Option.some.inj hf
  obtain ⟨e0, e1⟩ := Prod.mk.inj he
  have f0 : wc_Wa cI cG cZ ad (k0) (y0_0, x0_1, y0_2, x0_3) w7 := by rw [← e0, ← e1]; exact bk0_0
  exact W.vret hx hb hr (fun t ht hW => ⟨⟨w7, rfl, ⟨f0, fr⟩, by rw [ht]; exact hP, hD⟩, hS.F ht⟩) hS.2.2 d_Wa_standAt_33
set_option maxHeartbeats 4000000 in
set_option maxRecDepth 100000 in
theorem wl_Wa_begin_63 {p : Program} {l : Launch} {e : Env} {s : State} {m : MethodId} {args : Array Value} {below : List Frame} {meth : Method} {c : Code} {D : va_G} {cI cG cZ : ClassId} {ad : Nat → Nat} {B : Nat} {w0 : va_W} {N : Nat} {k0 : Nat} (C0 : hw_C p s m meth c b_Wa_begin 3 args R_Wa none) (hK : va_K D classes [(cI, .int), (cG, .array .int), (cZ, .boolean)] s) (hN : hw_N s) (x0_0 : T_Rk) (x0_2 : (Nat → Int32)) (a1 : Int32) (vfk0_0_3 : Int32) (p4 : Int32 × Int32) (x0_1 : T_Rk) (x0_3 : Int32) (y0_0 : T_Rk) (y0_1 : T_Rk) (y0_3 : Int32) : ∀ (n : Nat) (vbk0_4 : T_Rk) (v2 : Int32) (ws : va_W) (H : Heap) (locs : List Loc) (ls : Array Slot), va_P D classes ws H → va_D (fun q : Nat => B ≤ q) ws → va_S (fun q : Nat => B ≤ q) s.heap H locs → lv_has ls 3 [(2, .int v2), (0, .ref (ad k0)), (1, .int a1)] → ws[k0]? = some (ad k0, .inr (5, [.ref (ad (k0 + 1)), .ref (ad (k0 + 4)), .ref (ad (k0 + 7)), .int vfk0_0_3])) → wc_Rk cI cG cZ ad (k0 + 1) (x0_0.1, x0_0.2.1, p4.1, p4.2, x0_0.2.2.2.2) ws → wc_Rk cI cG cZ ad (k0 + 4) vbk0_4 ws → ws[k0 + 7]? = some (ad (k0 + 7), .inl (cI, 30, .inl x0_2)) → (∀ j : Nat, (j < k0 ∨ k0 + 8 ≤ j) → ws[j]? = w0[j]?) → f_Wa_begin_63 N x0_0 vfk0_0_3 p4 n vbk0_4 v2 = some (y0_0, y0_1, y0_3) → W p l e ({ frames := 2, cells := 0, slots := 0, locals := 47 } : Room) s m args below meth c H locs 0 0 (MQ below (va_Qv (fun (w1 : va_W) => wc_Wa cI cG cZ ad k0 (y0_0, y0_1, x0_2, y0_3) w1 ∧ (∀ j : Nat, (j < k0 ∨ k0 + 8 ≤ j) → w1[j]? = w0[j]?)) (hw_B D B) (fun q : Nat => B ≤ q)) args s 0 0 (fun q : Nat => B ≤ q)) (F0 m 63 ls []) := by
  obtain ⟨hx, hb, hr, hml, hown, hts, hlocks⟩ := id C0
  intro n
  induction n with
  | zero =>
    intro vbk0_4 v2 ws H locs ls hP hD hS hl mk0_0 bk0_1 bk0_4 mk0_7 fr hf
    exact nomatch (show none = some _ from hf)
  | succ n ih =>
    intro vbk0_4 v2 ws H locs ls hP hD hS hl mk0_0 bk0_1 bk0_4 mk0_7 fr hf
    rw [f_Wa_begin_63] at hf
    refine lv_iload_n hx hb d_Wa_begin_63 rfl (lv_at hl 0 rfl) ?_
    refine lv_aload_n hx hb d_Wa_begin_64 rfl (lv_at hl 1 rfl) ?_
    refine va_get (D := D) (ci := 5) (v := .ref (ad (k0 + 1))) (C := R_Wa) (T := F_Wa) (N := 4) hx hb hts i_Wa hown hK hP (k0) mk0_0 rfl 0 (by decide) (hts _ iw_100) (fun _ h9 => h9) rfl d_Wa_begin_65 ?_
    obtain ⟨p10, hp10, hf⟩ := g_bd hf
    refine hw_ci0 (va_runV (As := []) (rest := [.int v2]) ⟨hx, hb, hml, hown, hts⟩ (c_Rk_size l D cI cG cZ ad B ws N (k0 + 1) x0_0.1 x0_0.2.1 p4.1 p4.2 x0_0.2.2.2.2 p10 hp10 bk0_1) (cwV 0 hts (hw_gV iw_261 gy_Rk_size) rfl rfl rfl (by decide +kernel) ⟨Nat.le_of_ble_eq_true rfl, Nat.le_of_ble_eq_true rfl⟩) ⟨hw_blind, va_recv hK hP (ci := 4) (q0 := k0 + 1) rfl bk0_1.1, hw_go hP hD hK hN⟩ rfl rfl hl.1 rfl (lv_room (Nat.le_of_ble_eq_true rfl)) d_Wa_begin_68 ⟨Nat.zero_le _, Nat.zero_le _⟩) hS (fun H locs hP hD hS => ?_)
    refine lv_icmp_ge (tgt := 104) hx hb d_Wa_begin_71 (by decide) (fun c11 => ?_) (fun c11 => ?_)
    · rw [if_pos c11] at hf
      have bk0_0 : wc_Wa cI cG cZ ad (k0) ((x0_0.1, x0_0.2.1, p4.1, p4.2, x0_0.2.2.2.2), vbk0_4, x0_2, vfk0_0_3) ws := ⟨mk0_0, bk0_1, bk0_4, mk0_7⟩
      have he := Option.some.inj hf
      obtain ⟨e0, he⟩ := Prod.mk.inj he
      obtain ⟨e1, e2⟩ := Prod.mk.inj he
      have f0 : wc_Wa cI cG cZ ad (k0) (y0_0, y0_1, x0_2, y0_3) ws := by rw [← e0, ← e1, ← e2]; exact bk0_0
      exact W.vret hx hb hr (fun t ht hW => ⟨⟨ws, rfl, ⟨f0, fr⟩, by rw [ht]; exact hP, hD⟩, hS.F ht⟩) hS.2.2 d_Wa_begin_104
    · rw [if_neg c11] at hf
      refine lv_aload_n hx hb d_Wa_begin_74 rfl (lv_at hl 1 rfl) ?_
      refine va_get (D := D) (ci := 5) (v := .ref (ad (k0 + 4))) (C := R_Wa) (T := F_Wa) (N := 4) hx hb hts i_Wa hown hK hP (k0) mk0_0 rfl 1 (by decide) (hts _ iw_101) (fun _ h9 => h9) rfl d_Wa_begin_75 ?_
      refine lv_aload_n hx hb d_Wa_begin_78 rfl (lv_at hl 1 rfl) ?_
      refine va_get (D := D) (ci := 5) (v := .ref (ad (k0 + 1))) (C := R_Wa) (T := F_Wa) (N := 4) hx hb hts i_Wa hown hK hP (k0) mk0_0 rfl 0 (by decide) (hts _ iw_100) (fun _ h9 => h9) rfl d_Wa_begin_79 ?_
      refine lv_iload_n hx hb d_Wa_begin_82 rfl (lv_at hl 0 rfl) ?_
      obtain ⟨p12, hp12, hf⟩ := g_bd hf
      refine hw_ci0 (va_runV (As := [.int v2]) (rest := [.ref (ad (k0 + 4))]) ⟨hx, hb, hml, hown, hts⟩ (c_Rk_numberAt l D cI cG cZ ad B ws N (k0 + 1) x0_0.1 x0_0.2.1 p4.1 p4.2 x0_0.2.2.2.2 v2 p12 hp12 bk0_1) (cwV 1 hts (hw_gV iw_265 gy_Rk_numberAt) rfl rfl rfl (by decide +kernel) ⟨Nat.le_of_ble_eq_true rfl, Nat.le_of_ble_eq_true rfl⟩) ⟨hw_blind, va_recv hK hP (ci := 4) (q0 := k0 + 1) rfl bk0_1.1, hw_go hP hD hK hN⟩ rfl rfl hl.1 rfl (lv_room (Nat.le_of_ble_eq_true rfl)) d_Wa_begin_83 ⟨Nat.zero_le _, Nat.zero_le _⟩) hS (fun H locs hP hD hS => ?_)
      refine lv_aload_n hx hb d_Wa_begin_86 rfl (lv_at hl 1 rfl) ?_
      refine va_get (D := D) (ci := 5) (v := .ref (ad (k0 + 1))) (C := R_Wa) (T := F_Wa) (N := 4) hx hb hts i_Wa hown hK hP (k0) mk0_0 rfl 0 (by decide) (hts _ iw_100) (fun _ h9 => h9) rfl d_Wa_begin_87 ?_
      refine lv_iload_n hx hb d_Wa_begin_90 rfl (lv_at hl 0 rfl) ?_
      obtain ⟨p13, hp13, hf⟩ := g_bd hf
      refine hw_ci0 (va_runV (As := [.int v2]) (rest := [.int p12, .ref (ad (k0 + 4))]) ⟨hx, hb, hml, hown, hts⟩ (c_Rk_valueAt l D cI cG cZ ad B ws N (k0 + 1) x0_0.1 x0_0.2.1 p4.1 p4.2 x0_0.2.2.2.2 v2 p13 hp13 bk0_1) (cwV 1 hts (hw_gV iw_273 gy_Rk_valueAt) rfl rfl rfl (by decide +kernel) ⟨Nat.le_of_ble_eq_true rfl, Nat.le_of_ble_eq_true rfl⟩) ⟨hw_blind, va_recv hK hP (ci := 4) (q0 := k0 + 1) rfl bk0_1.1, hw_go hP hD hK hN⟩ rfl rfl hl.1 rfl (lv_room (Nat.le_of_ble_eq_true rfl)) d_Wa_begin_91 ⟨Nat.zero_le _, Nat.zero_le _⟩) hS (fun H locs hP hD hS => ?_)
      obtain ⟨p14, hp14, hf⟩ := g_bd hf
      refine hw_ci (va_runV (As := [.int p12, .int p13]) (rest := []) ⟨hx, hb, hml, hown, hts⟩ (c_Rk_add l D cI cG cZ ad B ws N (k0 + 4) vbk0_4.1 vbk0_4.2.1 vbk0_4.2.2.1 vbk0_4.2.2.2.1 vbk0_4.2.2.2.2 p12 p13 p14.1 p14.2.1 p14.2.2.1 p14.2.2.2 hp14 bk0_4) (cwV 2 hts (hw_gV iw_237 gy_Rk_add) rfl rfl rfl (by decide +kernel) ⟨Nat.le_of_ble_eq_true rfl, Nat.le_of_ble_eq_true rfl⟩) ⟨hw_blind, va_recv hK hP (ci := 4) (q0 := k0 + 4) rfl bk0_4.1, hw_go hP hD hK hN⟩ rfl rfl hl.1 rfl (lv_room (Nat.le_of_ble_eq_true rfl)) d_Wa_begin_94 ⟨Nat.zero_le _, Nat.zero_le _⟩) hS (fun w15 H locs hP hD hS hpp => ?_)
      obtain ⟨q0, frc⟩ := hpp
      have bk0_4 : wc_Rk cI cG cZ ad (k0 + 4) (p14.2.1, p14.2.2.1, p14.2.2.2, vbk0_4.2.2.2.1, vbk0_4.2.2.2.2) w15 := q0
      have mk0_0 : w15[k0]? = some (ad k0, .inr (5, [.ref (ad (k0 + 1)), .ref (ad (k0 + 4)), .ref (ad (k0 + 7)), .int vfk0_0_3])) := (frc _ (by omega)).trans mk0_0
      have bk0_1 : wc_Rk cI cG cZ ad (k0 + 1) (x0_0.1, x0_0.2.1, p4.1, p4.2, x0_0.2.2.2.2) w15 := bk0_1.fr (fun j h1 h2 => frc j (by omega))
      have mk0_7 : w15[k0 + 7]? = some (ad (k0 + 7), .inl (cI, 30, .inl x0_2)) := (frc _ (by omega)).trans mk0_7
      have fr : ∀ j : Nat, (j < k0 ∨ k0 + 8 ≤ j) → w15[j]? = w0[j]? := fun j o0 => (frc j (by omega)).trans (fr j o0)
      refine lv_pop hx hb d_Wa_begin_97 rfl ?_
      refine lv_iinc (v := v2 + 1) (lv' := [(2, .int (v2 + 1)), (0, .ref (ad k0)), (1, .int a1)]) hx hb d_Wa_begin_98 hl (k := 0) rfl rfl (by decide) rfl (fun ls hl => ?_)
      refine lv_goto (tgt := 63) hx hb d_Wa_begin_101 (by decide) ?_
      exact ih (p14.2.1, p14.2.2.1, p14.2.2.2, vbk0_4.2.2.2.1, vbk0_4.2.2.2.2) (v2 + 1) _ _ _ _ hP hD hS (lv_sub hl [0, 1, 2] rfl) mk0_0 bk0_1 bk0_4 mk0_7 fr hf
set_option maxHeartbeats 4000000 in
set_option maxRecDepth 100000 in
theorem wl_Wa_begin_7 {p : Program} {l : Launch} {e : Env} {s : State} {m : MethodId} {args : Array Value} {below : List Frame} {meth : Method} {c : Code} {D : va_G} {cI cG cZ : ClassId} {ad : Nat → Nat} {B : Nat} {w0 : va_W} {N : Nat} {k0 : Nat} (C0 : hw_C p s m meth c b_Wa_begin 3 args R_Wa none) (hK : va_K D classes [(cI, .int), (cG, .array .int), (cZ, .boolean)] s) (hN : hw_N s) (x0_0 : T_Rk) (x0_1 : T_Rk) (x0_2 : (Nat → Int32)) (a1 : Int32) (x0_3 : Int32) (y0_0 : T_Rk) (y0_1 : T_Rk) (y0_3 : Int32) : ∀ (n : Nat) (vfk0_0_3 : Int32) (v2 : Int32) (ws : va_W) (H : Heap) (locs : List Loc) (ls : Array Slot), va_P D classes ws H → va_D (fun q : Nat => B ≤ q) ws → va_S (fun q : Nat => B ≤ q) s.heap H locs → lv_has ls 3 [(2, .int v2), (0, .ref (ad k0)), (1, .int a1)] → ws[k0]? = some (ad k0, .inr (5, [.ref (ad (k0 + 1)), .ref (ad (k0 + 4)), .ref (ad (k0 + 7)), .int vfk0_0_3])) → wc_Rk cI cG cZ ad (k0 + 1) x0_0 ws → wc_Rk cI cG cZ ad (k0 + 4) x0_1 ws → ws[k0 + 7]? = some (ad (k0 + 7), .inl (cI, 30, .inl x0_2)) → (∀ j : Nat, (j < k0 ∨ k0 + 8 ≤ j) → ws[j]? = w0[j]?) → f_Wa_begin_7 N x0_0 x0_1 a1 n vfk0_0_3 v2 = some (y0_0, y0_1, y0_3) → W p l e ({ frames := 2, cells := 0, slots := 0, locals := 47 } : Room) s m args below meth c H locs 0 0 (MQ below (va_Qv (fun (w1 : va_W) => wc_Wa cI cG cZ ad k0 (y0_0, y0_1, x0_2, y0_3) w1 ∧ (∀ j : Nat, (j < k0 ∨ k0 + 8 ≤ j) → w1[j]? = w0[j]?)) (hw_B D B) (fun q : Nat => B ≤ q)) args s 0 0 (fun q : Nat => B ≤ q)) (F0 m 7 ls []) := by
  obtain ⟨hx, hb, hr, hml, hown, hts, hlocks⟩ := id C0
  intro n
  induction n with
  | zero =>
    intro vfk0_0_3 v2 ws H locs ls hP hD hS hl mk0_0 bk0_1 bk0_4 mk0_7 fr hf
    exact nomatch (show none = some _ from hf)
  | succ n ih =>
    intro vfk0_0_3 v2 ws H locs ls hP hD hS hl mk0_0 bk0_1 bk0_4 mk0_7 fr hf
    rw [f_Wa_begin_7] at hf
    refine lv_iload_n hx hb d_Wa_begin_7 rfl (lv_at hl 0 rfl) ?_
    refine lv_aload_n hx hb d_Wa_begin_8 rfl (lv_at hl 1 rfl) ?_
    refine va_get (D := D) (ci := 5) (v := .ref (ad (k0 + 1))) (C := R_Wa) (T := F_Wa) (N := 4) hx hb hts i_Wa hown hK hP (k0) mk0_0 rfl 0 (by decide) (hts _ iw_100) (fun _ h9 => h9) rfl d_Wa_begin_9 ?_
    obtain ⟨p2, hp2, hf⟩ := g_bd hf
    refine hw_ci0 (va_runV (As := []) (rest := [.int v2]) ⟨hx, hb, hml, hown, hts⟩ (c_Rk_size l D cI cG cZ ad B ws N (k0 + 1) x0_0.1 x0_0.2.1 x0_0.2.2.1 x0_0.2.2.2.1 x0_0.2.2.2.2 p2 hp2 bk0_1) (cwV 0 hts (hw_gV iw_261 gy_Rk_size) rfl rfl rfl (by decide +kernel) ⟨Nat.le_of_ble_eq_true rfl, Nat.le_of_ble_eq_true rfl⟩) ⟨hw_blind, va_recv hK hP (ci := 4) (q0 := k0 + 1) rfl bk0_1.1, hw_go hP hD hK hN⟩ rfl rfl hl.1 rfl (lv_room (Nat.le_of_ble_eq_true rfl)) d_Wa_begin_12 ⟨Nat.zero_le _, Nat.zero_le _⟩) hS (fun H locs hP hD hS => ?_)
    refine lv_icmp_ge (tgt := 43) hx hb d_Wa_begin_15 (by decide) (fun c3 => ?_) (fun c3 => ?_)
    · rw [if_pos c3] at hf
      refine lv_aload_n hx hb d_Wa_begin_43 rfl (lv_at hl 1 rfl) ?_
      refine va_get (D := D) (ci := 5) (v := .ref (ad (k0 + 1))) (C := R_Wa) (T := F_Wa) (N := 4) hx hb hts i_Wa hown hK hP (k0) mk0_0 rfl 0 (by decide) (hts _ iw_100) (fun _ h9 => h9) rfl d_Wa_begin_44 ?_
      refine lv_iload_n hx hb d_Wa_begin_47 rfl (lv_at hl 2 rfl) ?_
      obtain ⟨p4, hp4, hf⟩ := g_bd hf
      refine hw_cv (va_runV (As := [.int a1]) (rest := []) ⟨hx, hb, hml, hown, hts⟩ (c_Rk_changeRoom l D cI cG cZ ad B ws N (k0 + 1) x0_0.1 x0_0.2.1 x0_0.2.2.1 x0_0.2.2.2.1 x0_0.2.2.2.2 a1 p4.1 p4.2 hp4 bk0_1) (cwV 1 hts (hw_gV iw_269 gy_Rk_changeRoom) rfl rfl rfl (by decide +kernel) ⟨Nat.le_of_ble_eq_true rfl, Nat.le_of_ble_eq_true rfl⟩) ⟨hw_blind, va_recv hK hP (ci := 4) (q0 := k0 + 1) rfl bk0_1.1, hw_go hP hD hK hN⟩ rfl rfl hl.1 rfl (lv_room (Nat.le_of_ble_eq_true rfl)) d_Wa_begin_48 ⟨Nat.zero_le _, Nat.zero_le _⟩) hS (fun w5 H locs hP hD hS hpp => ?_)
      obtain ⟨q0, frc⟩ := hpp
      have bk0_1 : wc_Rk cI cG cZ ad (k0 + 1) (x0_0.1, x0_0.2.1, p4.1, p4.2, x0_0.2.2.2.2) w5 := q0
      have mk0_0 : w5[k0]? = some (ad k0, .inr (5, [.ref (ad (k0 + 1)), .ref (ad (k0 + 4)), .ref (ad (k0 + 7)), .int vfk0_0_3])) := (frc _ (by omega)).trans mk0_0
      have bk0_4 : wc_Rk cI cG cZ ad (k0 + 4) x0_1 w5 := bk0_4.fr (fun j h1 h2 => frc j (by omega))
      have mk0_7 : w5[k0 + 7]? = some (ad (k0 + 7), .inl (cI, 30, .inl x0_2)) := (frc _ (by omega)).trans mk0_7
      have fr : ∀ j : Nat, (j < k0 ∨ k0 + 8 ≤ j) → w5[j]? = w0[j]? := fun j o0 => (frc j (by omega)).trans (fr j o0)
      refine lv_aload_n hx hb d_Wa_begin_51 rfl (lv_at hl 1 rfl) ?_
      refine va_get (D := D) (ci := 5) (v := .ref (ad (k0 + 4))) (C := R_Wa) (T := F_Wa) (N := 4) hx hb hts i_Wa hown hK hP (k0) mk0_0 rfl 1 (by decide) (hts _ iw_101) (fun _ h9 => h9) rfl d_Wa_begin_52 ?_
      refine lv_bipush (v := 30) hx hb d_Wa_begin_55 (by decide) ?_
      refine lv_iconst (v := 0) hx hb d_Wa_begin_57 (by decide) ?_
      obtain ⟨p6, hp6, hf⟩ := g_bd hf
      refine hw_cv (va_runV (As := [.int 30, .int 0]) (rest := []) ⟨hx, hb, hml, hown, hts⟩ (c_Rk_start l D cI cG cZ ad B w5 N (k0 + 4) x0_1.1 x0_1.2.1 x0_1.2.2.1 x0_1.2.2.2.1 x0_1.2.2.2.2 30 0 p6.1 p6.2.1 p6.2.2 hp6 bk0_4) (cwV 2 hts (hw_gV iw_230 gy_Rk_start) rfl rfl rfl (by decide +kernel) ⟨Nat.le_of_ble_eq_true rfl, Nat.le_of_ble_eq_true rfl⟩) ⟨hw_blind, va_recv hK hP (ci := 4) (q0 := k0 + 4) rfl bk0_4.1, hw_go hP hD hK hN⟩ rfl rfl hl.1 rfl (lv_room (Nat.le_of_ble_eq_true rfl)) d_Wa_begin_58 ⟨Nat.zero_le _, Nat.zero_le _⟩) hS (fun w7 H locs hP hD hS hpp => ?_)
      obtain ⟨q0, frc⟩ := hpp
      have bk0_4 : wc_Rk cI cG cZ ad (k0 + 4) (x0_1.1, x0_1.2.1, p6.1, p6.2.1, p6.2.2) w7 := q0
      have mk0_0 : w7[k0]? = some (ad k0, .inr (5, [.ref (ad (k0 + 1)), .ref (ad (k0 + 4)), .ref (ad (k0 + 7)), .int vfk0_0_3])) := (frc _ (by omega)).trans mk0_0
      have bk0_1 : wc_Rk cI cG cZ ad (k0 + 1) (x0_0.1, x0_0.2.1, p4.1, p4.2, x0_0.2.2.2.2) w7 := bk0_1.fr (fun j h1 h2 => frc j (by omega))
      have mk0_7 : w7[k0 + 7]? = some (ad (k0 + 7), .inl (cI, 30, .inl x0_2)) := (frc _ (by omega)).trans mk0_7
      have fr : ∀ j : Nat, (j < k0 ∨ k0 + 8 ≤ j) → w7[j]? = w0[j]? := fun j o0 => (frc j (by omega)).trans (fr j o0)
      refine lv_iconst (v := 0) hx hb d_Wa_begin_61 (by decide) ?_
      refine lv_istore_n (lv' := [(2, .int 0), (0, .ref (ad k0)), (1, .int a1)]) hx hb d_Wa_begin_62 rfl hl (by decide) rfl (fun ls hl => ?_)
      exact wl_Wa_begin_63 (ad := ad) C0 hK hN x0_0 x0_2 a1 vfk0_0_3 p4 x0_1 x0_3 y0_0 y0_1 y0_3 N (x0_1.1, x0_1.2.1, p6.1, p6.2.1, p6.2.2) 0 _ _ _ _ hP hD hS (lv_sub hl [0, 1, 2] rfl) mk0_0 bk0_1 bk0_4 mk0_7 fr hf
    · rw [if_neg c3] at hf
      refine lv_aload_n hx hb d_Wa_begin_18 rfl (lv_at hl 1 rfl) ?_
      refine lv_dup hx hb d_Wa_begin_19 rfl ?_
      refine va_get (D := D) (ci := 5) (v := .int vfk0_0_3) (C := R_Wa) (T := F_Wa) (N := 4) hx hb hts i_Wa hown hK hP (k0) mk0_0 rfl 3 (by decide) (hts _ iw_103) (fun _ h9 => h9) rfl d_Wa_begin_20 ?_
      refine lv_iconst (v := 1) hx hb d_Wa_begin_23 (by decide) ?_
      refine lv_aload_n hx hb d_Wa_begin_24 rfl (lv_at hl 1 rfl) ?_
      refine va_get (D := D) (ci := 5) (v := .ref (ad (k0 + 1))) (C := R_Wa) (T := F_Wa) (N := 4) hx hb hts i_Wa hown hK hP (k0) mk0_0 rfl 0 (by decide) (hts _ iw_100) (fun _ h9 => h9) rfl d_Wa_begin_25 ?_
      refine lv_iload_n hx hb d_Wa_begin_28 rfl (lv_at hl 0 rfl) ?_
      obtain ⟨p8, hp8, hf⟩ := g_bd hf
      refine hw_ci0 (va_runV (As := [.int v2]) (rest := [.int 1, .int vfk0_0_3, .ref (ad k0)]) ⟨hx, hb, hml, hown, hts⟩ (c_Rk_numberAt l D cI cG cZ ad B ws N (k0 + 1) x0_0.1 x0_0.2.1 x0_0.2.2.1 x0_0.2.2.2.1 x0_0.2.2.2.2 v2 p8 hp8 bk0_1) (cwV 1 hts (hw_gV iw_265 gy_Rk_numberAt) rfl rfl rfl (by decide +kernel) ⟨Nat.le_of_ble_eq_true rfl, Nat.le_of_ble_eq_true rfl⟩) ⟨hw_blind, va_recv hK hP (ci := 4) (q0 := k0 + 1) rfl bk0_1.1, hw_go hP hD hK hN⟩ rfl rfl hl.1 rfl (lv_room (Nat.le_of_ble_eq_true rfl)) d_Wa_begin_29 ⟨Nat.zero_le _, Nat.zero_le _⟩) hS (fun H locs hP hD hS => ?_)
      refine lv_ishl hx hb d_Wa_begin_32 ?_
      refine lv_ior hx hb d_Wa_begin_33 ?_
      refine va_put (D := D) (ci := 5) (v := .int (vfk0_0_3 ||| (1 <<< (p8 &&& 31)))) (ty := .int) (C := R_Wa) (T := F_Wa) (N := 4) hx hb hts i_Wa t_Wa t_Wa_ok n_Wa hown hK hP hD hS (k0) mk0_0 rfl 3 (by decide) (hts _ iw_103) (fun _ h9 => h9) rfl (by decide +kernel) rfl rfl (Nat.le_of_ble_eq_true rfl) d_Wa_begin_34 (fun H locs hP hD hS => ?_)
      obtain ⟨w9, hP, hD, hne, heq⟩ := hs_up hP hD mk0_0
      have mk0_0 : w9[k0]? = some (ad k0, .inr (5, [.ref (ad (k0 + 1)), .ref (ad (k0 + 4)), .ref (ad (k0 + 7)), .int (vfk0_0_3 ||| (1 <<< (p8 &&& 31)))])) := heq
      have bk0_1 : wc_Rk cI cG cZ ad (k0 + 1) x0_0 w9 := bk0_1.fr (fun j h1 h2 => hne j (by omega))
      have bk0_4 : wc_Rk cI cG cZ ad (k0 + 4) x0_1 w9 := bk0_4.fr (fun j h1 h2 => hne j (by omega))
      have mk0_7 : w9[k0 + 7]? = some (ad (k0 + 7), .inl (cI, 30, .inl x0_2)) := (hne _ (by omega)).trans mk0_7
      have fr : ∀ j : Nat, (j < k0 ∨ k0 + 8 ≤ j) → w9[j]? = w0[j]? := fun j o0 => (hne j (by omega)).trans (fr j o0)
      refine lv_iinc (v := v2 + 1) (lv' := [(2, .int (v2 + 1)), (0, .ref (ad k0)), (1, .int a1)]) hx hb d_Wa_begin_37 hl (k := 0) rfl rfl (by decide) rfl (fun ls hl => ?_)
      refine lv_goto (tgt := 7) hx hb d_Wa_begin_40 (by decide) ?_
      exact ih (vfk0_0_3 ||| (1 <<< (p8 &&& 31))) (v2 + 1) _ _ _ _ hP hD hS (lv_sub hl [0, 1, 2] rfl) mk0_0 bk0_1 bk0_4 mk0_7 fr hf
set_option maxHeartbeats 4000000 in
set_option maxRecDepth 100000 in
theorem c_Wa_begin (l : Launch) (D : va_G) (cI cG cZ : ClassId) (ad : Nat → Nat) (B : Nat) (w0 : va_W) (N : Nat) (k0 : Nat) (x0_0 : T_Rk) (x0_1 : T_Rk) (x0_2 : (Nat → Int32)) (x0_3 : Int32) (a1 : Int32) (y0_0 : T_Rk) (y0_1 : T_Rk) (y0_3 : Int32) (hf : f_Wa_begin N x0_0 x0_1 a1 = some (y0_0, y0_1, y0_3)) (bk0_0 : wc_Wa cI cG cZ ad k0 (x0_0, x0_1, x0_2, x0_3) w0) : Met l y_Wa_begin (.code y_Wa_begin b_Wa_begin 3 none :: hw_G) ({ frames := 2, cells := 0, slots := 0, locals := 47 } : Room) (va_Pc [.ref (ad k0), .int a1] (hw_U D cI cG cZ B w0)) (va_Qv (fun (w1 : va_W) => wc_Wa cI cG cZ ad k0 (y0_0, y0_1, x0_2, y0_3) w1 ∧ (∀ j : Nat, (j < k0 ∨ k0 + 8 ≤ j) → w1[j]? = w0[j]?)) (hw_B D B) (fun q : Nat => B ≤ q)) 0 0 (fun q : Nat => B ≤ q) := by
  refine Met.ofW (cc := b_Wa_begin) (maxL := 3) (ret := none) (by decide) rfl ?_
  intro p e s m args below meth c s₁ Bd hml hv
  obtain ⟨rfl, hP, hD, hK, hN⟩ := hv
  have C0 : hw_C p s m meth c b_Wa_begin 3 _ R_Wa none := ⟨Bd.exec, Bd.bytes, Bd.returns, hml, findClass_of_methodNamed Bd.named, fun w h => atoms_spec (ws := .code y_Wa_begin b_Wa_begin 3 none :: hw_G) Bd.pre w (List.mem_cons_of_mem _ h), Bd.notSynchronized⟩
  obtain ⟨hx, hb, hr, -, hown, hts, hlocks⟩ := id C0
  have hS : va_S (fun q : Nat => B ≤ q) s.heap s.heap [] := va_S.rf
  have fr : ∀ j : Nat, (j < k0 ∨ k0 + 8 ≤ j) → w0[j]? = w0[j]? := fun j _ => rfl
  have hl := lv_entry ([.ref (ad k0), .int a1]) (n := 3) (Nat.le_of_ble_eq_true rfl)
  rw [lg_entry_eq]
  generalize (lg_sl ([.ref (ad k0), .int a1]) ++ List.replicate (3 - (lg_sl ([.ref (ad k0), .int a1])).length) Slot.unset).toArray = ls at hl ⊢
  have hl : lv_has ls 3 [(0, .ref (ad k0)), (1, .int a1)] := hl
  unfold f_Wa_begin at hf
  obtain ⟨mk0_0, bk0_1, bk0_4, mk0_7⟩ := id bk0_0
  have mk0_0 : w0[k0]? = some (ad k0, .inr (5, [.ref (ad (k0 + 1)), .ref (ad (k0 + 4)), .ref (ad (k0 + 7)), .int x0_3])) := mk0_0
  have bk0_1 : wc_Rk cI cG cZ ad (k0 + 1) x0_0 w0 := bk0_1
  have bk0_4 : wc_Rk cI cG cZ ad (k0 + 4) x0_1 w0 := bk0_4
  have mk0_7 : w0[k0 + 7]? = some (ad (k0 + 7), .inl (cI, 30, .inl x0_2)) := mk0_7
  refine lv_aload_n hx hb d_Wa_begin_0 rfl (lv_at hl 0 rfl) ?_
  refine lv_iconst (v := 0) hx hb d_Wa_begin_1 (by decide) ?_
  refine va_put (D := D) (ci := 5) (v := .int 0) (ty := .int) (C := R_Wa) (T := F_Wa) (N := 4) hx hb hts i_Wa t_Wa t_Wa_ok n_Wa hown hK hP hD hS (k0) mk0_0 rfl 3 (by decide) (hts _ iw_103) (fun _ h9 => h9) rfl (by decide +kernel) rfl rfl (Nat.le_of_ble_eq_true rfl) d_Wa_begin_2 (fun H locs hP hD hS => ?_)
  obtain ⟨w1, hP, hD, hne, heq⟩ := hs_up hP hD mk0_0
  have mk0_0 : w1[k0]? = some (ad k0, .inr (5, [.ref (ad (k0 + 1)), .ref (ad (k0 + 4)), .ref (ad (k0 + 7)), .int 0])) := heq
  have bk0_1 : wc_Rk cI cG cZ ad (k0 + 1) x0_0 w1 := bk0_1.fr (fun j h1 h2 => hne j (by omega))
  have bk0_4 : wc_Rk cI cG cZ ad (k0 + 4) x0_1 w1 := bk0_4.fr (fun j h1 h2 => hne j (by omega))
  have mk0_7 : w1[k0 + 7]? = some (ad (k0 + 7), .inl (cI, 30, .inl x0_2)) := (hne _ (by omega)).trans mk0_7
  have fr : ∀ j : Nat, (j < k0 ∨ k0 + 8 ≤ j) → w1[j]? = w0[j]? := fun j o0 => (hne j (by omega)).trans (fr j o0)
  refine lv_iconst (v := 0) hx hb d_Wa_begin_5 (by decide) ?_
  refine lv_istore_n (lv' := [(2, .int 0), (0, .ref (ad k0)), (1, .int a1)]) hx hb d_Wa_begin_6 rfl hl (by decide) rfl (fun ls hl => ?_)
  exact wl_Wa_begin_7 (ad := ad) C0 hK hN x0_0 x0_1 x0_2 a1 x0_3 y0_0 y0_1 y0_3 N 0 0 _ _ _ _ hP hD hS (lv_sub hl [0, 1, 2] rfl) mk0_0 bk0_1 bk0_4 mk0_7 fr hf
set_option maxHeartbeats 4000000 in
set_option maxRecDepth 100000 in
theorem wl_Wa_lookAround_3 {p : Program} {l : Launch} {e : Env} {s : State} {m : MethodId} {args : Array Value} {below : List Frame} {meth : Method} {c : Code} {D : va_G} {cI cG cZ : ClassId} {ad : Nat → Nat} {B : Nat} {w0 : va_W} {N : Nat} {k0 : Nat} {k1 : Nat} (C0 : hw_C p s m meth c b_Wa_lookAround 6 args R_Wa none) (hK : va_K D classes [(cI, .int), (cG, .array .int), (cZ, .boolean)] s) (hN : hw_N s) (dj0 : k0 + 8 ≤ k1 ∨ k1 + 6 ≤ k0) (x0_2 : (Nat → Int32)) (x1_0 : (Nat → Int32)) (x1_1 : (Nat → Int32)) (x1_2 : (Nat → Int32)) (x1_3 : (Nat → Int32)) (x1_4 : (Nat → Int32)) (x1_5 : Int32) (a2 : Int32) (a3 : Int32) (x0_0 : T_Rk) (x0_1 : T_Rk) (x0_3 : Int32) (y0_0 : T_Rk) (y0_1 : T_Rk) (y0_3 : Int32) : ∀ (n : Nat) (vbk0_1 : T_Rk) (vbk0_4 : T_Rk) (vfk0_0_3 : Int32) (v4 : Int32) (ws : va_W) (H : Heap) (locs : List Loc) (ls : Array Slot), va_P D classes ws H → va_D (fun q : Nat => B ≤ q) ws → va_S (fun q : Nat => B ≤ q) s.heap H locs → lv_has ls 6 [(4, .int v4), (0, .ref (ad k0)), (1, .ref (ad k1)), (2, .int a2), (3, .int a3)] → ws[k0]? = some (ad k0, .inr (5, [.ref (ad (k0 + 1)), .ref (ad (k0 + 4)), .ref (ad (k0 + 7)), .int vfk0_0_3])) → wc_Rk cI cG cZ ad (k0 + 1) vbk0_1 ws → wc_Rk cI cG cZ ad (k0 + 4) vbk0_4 ws → ws[k0 + 7]? = some (ad (k0 + 7), .inl (cI, 30, .inl x0_2)) → wc_Li cI cG cZ ad (k1) (x1_0, x1_1, x1_2, x1_3, x1_4, x1_5) ws → (∀ j : Nat, (j < k0 ∨ k0 + 8 ≤ j) → ws[j]? = w0[j]?) → f_Wa_lookAround_3 N x0_2 x1_2 x1_3 a2 a3 n vbk0_1 vbk0_4 vfk0_0_3 v4 = some (y0_0, y0_1, y0_3) → W p l e ({ frames := 2, cells := 0, slots := 0, locals := 47 } : Room) s m args below meth c H locs 0 0 (MQ below (va_Qv (fun (w1 : va_W) => wc_Wa cI cG cZ ad k0 (y0_0, y0_1, x0_2, y0_3) w1 ∧ (∀ j : Nat, (j < k0 ∨ k0 + 8 ≤ j) → w1[j]? = w0[j]?)) (hw_B D B) (fun q : Nat => B ≤ q)) args s 0 0 (fun q : Nat => B ≤ q)) (F0 m 3 ls []) := by
  obtain ⟨hx, hb, hr, hml, hown, hts, hlocks⟩ := id C0
  intro n
  induction n with
  | zero =>
    intro vbk0_1 vbk0_4 vfk0_0_3 v4 ws H locs ls hP hD hS hl mk0_0 bk0_1 bk0_4 mk0_7 bk1_0 fr hf
    exact nomatch (show none = some _ from hf)
  | succ n ih =>
    intro vbk0_1 vbk0_4 vfk0_0_3 v4 ws H locs ls hP hD hS hl mk0_0 bk0_1 bk0_4 mk0_7 bk1_0 fr hf
    rw [f_Wa_lookAround_3] at hf
    refine lv_iload hx hb d_Wa_lookAround_3 (lv_at hl 0 rfl) ?_
    refine lv_aload_n hx hb d_Wa_lookAround_5 rfl (lv_at hl 2 rfl) ?_
    refine lv_iload_n hx hb d_Wa_lookAround_6 rfl (lv_at hl 4 rfl) ?_
    refine lv_iload_n hx hb d_Wa_lookAround_7 rfl (lv_at hl 3 rfl) ?_
    obtain ⟨p1, hp1, hf⟩ := g_bd hf
    refine hw_ci0 (va_runV (As := [.int a3, .int a2]) (rest := [.int v4]) ⟨hx, hb, hml, hown, hts⟩ (c_Li_degree l D cI cG cZ ad B ws N k1 x1_0 x1_1 x1_2 x1_3 x1_4 x1_5 a3 a2 p1 hp1 bk1_0) (cwV 2 hts (hw_gV iw_293 gy_Li_degree) rfl rfl rfl (by decide +kernel) ⟨Nat.le_of_ble_eq_true rfl, Nat.le_of_ble_eq_true rfl⟩) ⟨hw_blind, va_recv hK hP (ci := 3) (q0 := k1) rfl bk1_0.1, hw_go hP hD hK hN⟩ rfl rfl hl.1 rfl (lv_room (Nat.le_of_ble_eq_true rfl)) d_Wa_lookAround_8 ⟨Nat.zero_le _, Nat.zero_le _⟩) hS (fun H locs hP hD hS => ?_)
    refine lv_icmp_ge (tgt := 91) hx hb d_Wa_lookAround_11 (by decide) (fun c2 => ?_) (fun c2 => ?_)
    · rw [if_pos c2] at hf
      have bk0_0 : wc_Wa cI cG cZ ad (k0) (vbk0_1, vbk0_4, x0_2, vfk0_0_3) ws := ⟨mk0_0, bk0_1, bk0_4, mk0_7⟩
      have he := Option.some.inj hf
      obtain ⟨e0, he⟩ := Prod.mk.inj he
      obtain ⟨e1, e2⟩ := Prod.mk.inj he
      have f0 : wc_Wa cI cG cZ ad (k0) (y0_0, y0_1, x0_2, y0_3) ws := by rw [← e0, ← e1, ← e2]; exact bk0_0
      exact W.vret hx hb hr (fun t ht hW => ⟨⟨ws, rfl, ⟨f0, fr⟩, by rw [ht]; exact hP, hD⟩, hS.F ht⟩) hS.2.2 d_Wa_lookAround_91
    · rw [if_neg c2] at hf
      refine lv_aload_n hx hb d_Wa_lookAround_14 rfl (lv_at hl 2 rfl) ?_
      refine lv_iload_n hx hb d_Wa_lookAround_15 rfl (lv_at hl 4 rfl) ?_
      refine lv_iload_n hx hb d_Wa_lookAround_16 rfl (lv_at hl 3 rfl) ?_
      refine lv_iload hx hb d_Wa_lookAround_17 (lv_at hl 0 rfl) ?_
      obtain ⟨p3, hp3, hf⟩ := g_bd hf
      refine hw_ci0 (va_runV (As := [.int a3, .int a2, .int v4]) (rest := []) ⟨hx, hb, hml, hown, hts⟩ (c_Li_linked l D cI cG cZ ad B ws N k1 x1_0 x1_1 x1_2 x1_3 x1_4 x1_5 a3 a2 v4 p3 hp3 bk1_0) (cwV 3 hts (hw_gV iw_297 gy_Li_linked) rfl rfl rfl (by decide +kernel) ⟨Nat.le_of_ble_eq_true rfl, Nat.le_of_ble_eq_true rfl⟩) ⟨hw_blind, va_recv hK hP (ci := 3) (q0 := k1) rfl bk1_0.1, hw_go hP hD hK hN⟩ rfl rfl hl.1 rfl (lv_room (Nat.le_of_ble_eq_true rfl)) d_Wa_lookAround_19 ⟨Nat.zero_le _, Nat.zero_le _⟩) hS (fun H locs hP hD hS => ?_)
      refine lv_istore (lv' := [(5, .int p3), (4, .int v4), (0, .ref (ad k0)), (1, .ref (ad k1)), (2, .int a2), (3, .int a3)]) hx hb d_Wa_lookAround_22 hl (by decide) rfl (fun ls hl => ?_)
      refine lv_aload_n hx hb d_Wa_lookAround_24 rfl (lv_at hl 2 rfl) ?_
      refine va_get (D := D) (ci := 5) (v := .int vfk0_0_3) (C := R_Wa) (T := F_Wa) (N := 4) hx hb hts i_Wa hown hK hP (k0) mk0_0 rfl 3 (by decide) (hts _ iw_103) (fun _ h9 => h9) rfl d_Wa_lookAround_25 ?_
      refine lv_iload hx hb d_Wa_lookAround_28 (lv_at hl 0 rfl) ?_
      obtain ⟨p4, hp4, hf⟩ := g_bd hf
      refine hw_ci0 (va_runSN (As := [.int vfk0_0_3, .int p3]) (rest := []) ⟨hx, hb, hml, hown, hts⟩ (c_Nd_isIn l D cI cG cZ ad B ws N vfk0_0_3 p3 p4 hp4) ⟨va_cnB 2 hts (hw_gc ic_Nd_isIn) rfl rfl rfl (hN _ in_301) (hts _ iw_1) (by decide +kernel) ⟨Nat.le_of_ble_eq_true rfl, Nat.le_of_ble_eq_true rfl⟩, hts _ iw_302, trivial⟩ ⟨hw_blind, hw_go hP hD hK hN⟩ rfl rfl hl.1 rfl (lv_room (Nat.le_of_ble_eq_true rfl)) d_Wa_lookAround_30 ⟨Nat.zero_le _, Nat.zero_le _⟩) hS (fun H locs hP hD hS => ?_)
      refine lv_if_ne (tgt := 85) hx hb d_Wa_lookAround_33 (by decide) (fun c5 => ?_) (fun c5 => ?_)
      · rw [if_neg c5] at hf
        refine lv_iinc (v := v4 + 1) (lv' := [(4, .int (v4 + 1)), (5, .int p3), (0, .ref (ad k0)), (1, .ref (ad k1)), (2, .int a2), (3, .int a3)]) hx hb d_Wa_lookAround_85 hl (k := 1) rfl rfl (by decide) rfl (fun ls hl => ?_)
        refine lv_goto (tgt := 3) hx hb d_Wa_lookAround_88 (by decide) ?_
        exact ih vbk0_1 vbk0_4 vfk0_0_3 (v4 + 1) _ _ _ _ hP hD hS (lv_sub hl [0, 2, 3, 4, 5] rfl) mk0_0 bk0_1 bk0_4 mk0_7 bk1_0 fr hf
      · rw [if_pos c5] at hf
        refine lv_aload_n hx hb d_Wa_lookAround_36 rfl (lv_at hl 2 rfl) ?_
        refine lv_dup hx hb d_Wa_lookAround_37 rfl ?_
        refine va_get (D := D) (ci := 5) (v := .int vfk0_0_3) (C := R_Wa) (T := F_Wa) (N := 4) hx hb hts i_Wa hown hK hP (k0) mk0_0 rfl 3 (by decide) (hts _ iw_103) (fun _ h9 => h9) rfl d_Wa_lookAround_38 ?_
        refine lv_iconst (v := 1) hx hb d_Wa_lookAround_41 (by decide) ?_
        refine lv_iload hx hb d_Wa_lookAround_42 (lv_at hl 0 rfl) ?_
        refine lv_ishl hx hb d_Wa_lookAround_44 ?_
        refine lv_ior hx hb d_Wa_lookAround_45 ?_
        refine va_put (D := D) (ci := 5) (v := .int (vfk0_0_3 ||| (1 <<< (p3 &&& 31)))) (ty := .int) (C := R_Wa) (T := F_Wa) (N := 4) hx hb hts i_Wa t_Wa t_Wa_ok n_Wa hown hK hP hD hS (k0) mk0_0 rfl 3 (by decide) (hts _ iw_103) (fun _ h9 => h9) rfl (by decide +kernel) rfl rfl (Nat.le_of_ble_eq_true rfl) d_Wa_lookAround_46 (fun H locs hP hD hS => ?_)
        obtain ⟨w6, hP, hD, hne, heq⟩ := hs_up hP hD mk0_0
        have mk0_0 : w6[k0]? = some (ad k0, .inr (5, [.ref (ad (k0 + 1)), .ref (ad (k0 + 4)), .ref (ad (k0 + 7)), .int (vfk0_0_3 ||| (1 <<< (p3 &&& 31)))])) := heq
        have bk1_0 : wc_Li cI cG cZ ad (k1) (x1_0, x1_1, x1_2, x1_3, x1_4, x1_5) w6 := bk1_0.fr (fun j h1 h2 => hne j (by omega))
        have bk0_1 : wc_Rk cI cG cZ ad (k0 + 1) vbk0_1 w6 := bk0_1.fr (fun j h1 h2 => hne j (by omega))
        have bk0_4 : wc_Rk cI cG cZ ad (k0 + 4) vbk0_4 w6 := bk0_4.fr (fun j h1 h2 => hne j (by omega))
        have mk0_7 : w6[k0 + 7]? = some (ad (k0 + 7), .inl (cI, 30, .inl x0_2)) := (hne _ (by omega)).trans mk0_7
        have fr : ∀ j : Nat, (j < k0 ∨ k0 + 8 ≤ j) → w6[j]? = w0[j]? := fun j o0 => (hne j (by omega)).trans (fr j o0)
        refine lv_aload_n hx hb d_Wa_lookAround_49 rfl (lv_at hl 2 rfl) ?_
        refine va_get (D := D) (ci := 5) (v := .ref (ad (k0 + 1))) (C := R_Wa) (T := F_Wa) (N := 4) hx hb hts i_Wa hown hK hP (k0) mk0_0 rfl 0 (by decide) (hts _ iw_100) (fun _ h9 => h9) rfl d_Wa_lookAround_50 ?_
        refine lv_iload hx hb d_Wa_lookAround_53 (lv_at hl 0 rfl) ?_
        refine lv_aload_n hx hb d_Wa_lookAround_55 rfl (lv_at hl 2 rfl) ?_
        refine va_get (D := D) (ci := 5) (v := .ref (ad (k0 + 7))) (C := R_Wa) (T := F_Wa) (N := 4) hx hb hts i_Wa hown hK hP (k0) mk0_0 rfl 2 (by decide) (hts _ iw_102) (fun _ h9 => h9) rfl d_Wa_lookAround_56 ?_
        refine lv_iload hx hb d_Wa_lookAround_59 (lv_at hl 0 rfl) ?_
        obtain ⟨z7, hf⟩ := g_atE hf
        refine va_iald hx hb hK hP (k0 + 7) 0 mk0_7 rfl z7 d_Wa_lookAround_61 ?_
        obtain ⟨p8, hp8, hf⟩ := g_bd hf
        refine hw_ci (va_runV (As := [.int p3, .int (x0_2 p3.toNatClampNeg)]) (rest := []) ⟨hx, hb, hml, hown, hts⟩ (c_Rk_add l D cI cG cZ ad B w6 N (k0 + 1) vbk0_1.1 vbk0_1.2.1 vbk0_1.2.2.1 vbk0_1.2.2.2.1 vbk0_1.2.2.2.2 p3 (x0_2 p3.toNatClampNeg) p8.1 p8.2.1 p8.2.2.1 p8.2.2.2 hp8 bk0_1) (cwV 2 hts (hw_gV iw_237 gy_Rk_add) rfl rfl rfl (by decide +kernel) ⟨Nat.le_of_ble_eq_true rfl, Nat.le_of_ble_eq_true rfl⟩) ⟨hw_blind, va_recv hK hP (ci := 4) (q0 := k0 + 1) rfl bk0_1.1, hw_go hP hD hK hN⟩ rfl rfl hl.1 rfl (lv_room (Nat.le_of_ble_eq_true rfl)) d_Wa_lookAround_62 ⟨Nat.zero_le _, Nat.zero_le _⟩) hS (fun w9 H locs hP hD hS hpp => ?_)
        obtain ⟨q0, frc⟩ := hpp
        have bk0_1 : wc_Rk cI cG cZ ad (k0 + 1) (p8.2.1, p8.2.2.1, p8.2.2.2, vbk0_1.2.2.2.1, vbk0_1.2.2.2.2) w9 := q0
        have bk1_0 : wc_Li cI cG cZ ad (k1) (x1_0, x1_1, x1_2, x1_3, x1_4, x1_5) w9 := bk1_0.fr (fun j h1 h2 => frc j (by omega))
        have mk0_0 : w9[k0]? = some (ad k0, .inr (5, [.ref (ad (k0 + 1)), .ref (ad (k0 + 4)), .ref (ad (k0 + 7)), .int (vfk0_0_3 ||| (1 <<< (p3 &&& 31)))])) := (frc _ (by omega)).trans mk0_0
        have bk0_4 : wc_Rk cI cG cZ ad (k0 + 4) vbk0_4 w9 := bk0_4.fr (fun j h1 h2 => frc j (by omega))
        have mk0_7 : w9[k0 + 7]? = some (ad (k0 + 7), .inl (cI, 30, .inl x0_2)) := (frc _ (by omega)).trans mk0_7
        have fr : ∀ j : Nat, (j < k0 ∨ k0 + 8 ≤ j) → w9[j]? = w0[j]? := fun j o0 => (frc j (by omega)).trans (fr j o0)
        refine lv_if_eq (tgt := 85) hx hb d_Wa_lookAround_65 (by decide) (fun c10 => ?_) (fun c10 => ?_)
        · rw [if_pos c10] at hf
          refine lv_iinc (v := v4 + 1) (lv' := [(4, .int (v4 + 1)), (5, .int p3), (0, .ref (ad k0)), (1, .ref (ad k1)), (2, .int a2), (3, .int a3)]) hx hb d_Wa_lookAround_85 hl (k := 1) rfl rfl (by decide) rfl (fun ls hl => ?_)
          refine lv_goto (tgt := 3) hx hb d_Wa_lookAround_88 (by decide) ?_
          exact ih (p8.2.1, p8.2.2.1, p8.2.2.2, vbk0_1.2.2.2.1, vbk0_1.2.2.2.2) vbk0_4 (vfk0_0_3 ||| (1 <<< (p3 &&& 31))) (v4 + 1) _ _ _ _ hP hD hS (lv_sub hl [0, 2, 3, 4, 5] rfl) mk0_0 bk0_1 bk0_4 mk0_7 bk1_0 fr hf
        · rw [if_neg c10] at hf
          refine lv_aload_n hx hb d_Wa_lookAround_68 rfl (lv_at hl 2 rfl) ?_
          refine va_get (D := D) (ci := 5) (v := .ref (ad (k0 + 4))) (C := R_Wa) (T := F_Wa) (N := 4) hx hb hts i_Wa hown hK hP (k0) mk0_0 rfl 1 (by decide) (hts _ iw_101) (fun _ h9 => h9) rfl d_Wa_lookAround_69 ?_
          refine lv_iload hx hb d_Wa_lookAround_72 (lv_at hl 0 rfl) ?_
          refine lv_aload_n hx hb d_Wa_lookAround_74 rfl (lv_at hl 2 rfl) ?_
          refine va_get (D := D) (ci := 5) (v := .ref (ad (k0 + 7))) (C := R_Wa) (T := F_Wa) (N := 4) hx hb hts i_Wa hown hK hP (k0) mk0_0 rfl 2 (by decide) (hts _ iw_102) (fun _ h9 => h9) rfl d_Wa_lookAround_75 ?_
          refine lv_iload hx hb d_Wa_lookAround_78 (lv_at hl 0 rfl) ?_
          obtain ⟨z11, hf⟩ := g_atE hf
          refine va_iald hx hb hK hP (k0 + 7) 0 mk0_7 rfl z11 d_Wa_lookAround_80 ?_
          obtain ⟨p12, hp12, hf⟩ := g_bd hf
          refine hw_ci (va_runV (As := [.int p3, .int (x0_2 p3.toNatClampNeg)]) (rest := []) ⟨hx, hb, hml, hown, hts⟩ (c_Rk_add l D cI cG cZ ad B w9 N (k0 + 4) vbk0_4.1 vbk0_4.2.1 vbk0_4.2.2.1 vbk0_4.2.2.2.1 vbk0_4.2.2.2.2 p3 (x0_2 p3.toNatClampNeg) p12.1 p12.2.1 p12.2.2.1 p12.2.2.2 hp12 bk0_4) (cwV 2 hts (hw_gV iw_237 gy_Rk_add) rfl rfl rfl (by decide +kernel) ⟨Nat.le_of_ble_eq_true rfl, Nat.le_of_ble_eq_true rfl⟩) ⟨hw_blind, va_recv hK hP (ci := 4) (q0 := k0 + 4) rfl bk0_4.1, hw_go hP hD hK hN⟩ rfl rfl hl.1 rfl (lv_room (Nat.le_of_ble_eq_true rfl)) d_Wa_lookAround_81 ⟨Nat.zero_le _, Nat.zero_le _⟩) hS (fun w13 H locs hP hD hS hpp => ?_)
          obtain ⟨q0, frc⟩ := hpp
          have bk0_4 : wc_Rk cI cG cZ ad (k0 + 4) (p12.2.1, p12.2.2.1, p12.2.2.2, vbk0_4.2.2.2.1, vbk0_4.2.2.2.2) w13 := q0
          have bk1_0 : wc_Li cI cG cZ ad (k1) (x1_0, x1_1, x1_2, x1_3, x1_4, x1_5) w13 := bk1_0.fr (fun j h1 h2 => frc j (by omega))
          have mk0_0 : w13[k0]? = some (ad k0, .inr (5, [.ref (ad (k0 + 1)), .ref (ad (k0 + 4)), .ref (ad (k0 + 7)), .int (vfk0_0_3 ||| (1 <<< (p3 &&& 31)))])) := (frc _ (by omega)).trans mk0_0
          have bk0_1 : wc_Rk cI cG cZ ad (k0 + 1) (p8.2.1, p8.2.2.1, p8.2.2.2, vbk0_1.2.2.2.1, vbk0_1.2.2.2.2) w13 := bk0_1.fr (fun j h1 h2 => frc j (by omega))
          have mk0_7 : w13[k0 + 7]? = some (ad (k0 + 7), .inl (cI, 30, .inl x0_2)) := (frc _ (by omega)).trans mk0_7
          have fr : ∀ j : Nat, (j < k0 ∨ k0 + 8 ≤ j) → w13[j]? = w0[j]? := fun j o0 => (frc j (by omega)).trans (fr j o0)
          refine lv_pop hx hb d_Wa_lookAround_84 rfl ?_
          refine lv_iinc (v := v4 + 1) (lv' := [(4, .int (v4 + 1)), (5, .int p3), (0, .ref (ad k0)), (1, .ref (ad k1)), (2, .int a2), (3, .int a3)]) hx hb d_Wa_lookAround_85 hl (k := 1) rfl rfl (by decide) rfl (fun ls hl => ?_)
          refine lv_goto (tgt := 3) hx hb d_Wa_lookAround_88 (by decide) ?_
          exact ih (p8.2.1, p8.2.2.1, p8.2.2.2, vbk0_1.2.2.2.1, vbk0_1.2.2.2.2) (p12.2.1, p12.2.2.1, p12.2.2.2, vbk0_4.2.2.2.1, vbk0_4.2.2.2.2) (vfk0_0_3 ||| (1 <<< (p3 &&& 31))) (v4 + 1) _ _ _ _ hP hD hS (lv_sub hl [0, 2, 3, 4, 5] rfl) mk0_0 bk0_1 bk0_4 mk0_7 bk1_0 fr hf
set_option maxHeartbeats 4000000 in
set_option maxRecDepth 100000 in
theorem c_Wa_lookAround (l : Launch) (D : va_G) (cI cG cZ : ClassId) (ad : Nat → Nat) (B : Nat) (w0 : va_W) (N : Nat) (k0 : Nat) (x0_0 : T_Rk) (x0_1 : T_Rk) (x0_2 : (Nat → Int32)) (x0_3 : Int32) (k1 : Nat) (x1_0 : (Nat → Int32)) (x1_1 : (Nat → Int32)) (x1_2 : (Nat → Int32)) (x1_3 : (Nat → Int32)) (x1_4 : (Nat → Int32)) (x1_5 : Int32) (a2 : Int32) (a3 : Int32) (y0_0 : T_Rk) (y0_1 : T_Rk) (y0_3 : Int32) (hf : f_Wa_lookAround N x0_0 x0_1 x0_2 x0_3 x1_2 x1_3 a2 a3 = some (y0_0, y0_1, y0_3)) (bk0_0 : wc_Wa cI cG cZ ad k0 (x0_0, x0_1, x0_2, x0_3) w0) (bk1_0 : wc_Li cI cG cZ ad k1 (x1_0, x1_1, x1_2, x1_3, x1_4, x1_5) w0) (dj0 : k0 + 8 ≤ k1 ∨ k1 + 6 ≤ k0) : Met l y_Wa_lookAround (.code y_Wa_lookAround b_Wa_lookAround 6 none :: hw_G) ({ frames := 2, cells := 0, slots := 0, locals := 47 } : Room) (va_Pc [.ref (ad k0), .ref (ad k1), .int a2, .int a3] (hw_U D cI cG cZ B w0)) (va_Qv (fun (w1 : va_W) => wc_Wa cI cG cZ ad k0 (y0_0, y0_1, x0_2, y0_3) w1 ∧ (∀ j : Nat, (j < k0 ∨ k0 + 8 ≤ j) → w1[j]? = w0[j]?)) (hw_B D B) (fun q : Nat => B ≤ q)) 0 0 (fun q : Nat => B ≤ q) := by
  refine Met.ofW (cc := b_Wa_lookAround) (maxL := 6) (ret := none) (by decide) rfl ?_
  intro p e s m args below meth c s₁ Bd hml hv
  obtain ⟨rfl, hP, hD, hK, hN⟩ := hv
  have C0 : hw_C p s m meth c b_Wa_lookAround 6 _ R_Wa none := ⟨Bd.exec, Bd.bytes, Bd.returns, hml, findClass_of_methodNamed Bd.named, fun w h => atoms_spec (ws := .code y_Wa_lookAround b_Wa_lookAround 6 none :: hw_G) Bd.pre w (List.mem_cons_of_mem _ h), Bd.notSynchronized⟩
  obtain ⟨hx, hb, hr, -, hown, hts, hlocks⟩ := id C0
  have hS : va_S (fun q : Nat => B ≤ q) s.heap s.heap [] := va_S.rf
  have fr : ∀ j : Nat, (j < k0 ∨ k0 + 8 ≤ j) → w0[j]? = w0[j]? := fun j _ => rfl
  have hl := lv_entry ([.ref (ad k0), .ref (ad k1), .int a2, .int a3]) (n := 6) (Nat.le_of_ble_eq_true rfl)
  rw [lg_entry_eq]
  generalize (lg_sl ([.ref (ad k0), .ref (ad k1), .int a2, .int a3]) ++ List.replicate (6 - (lg_sl ([.ref (ad k0), .ref (ad k1), .int a2, .int a3])).length) Slot.unset).toArray = ls at hl ⊢
  have hl : lv_has ls 6 [(0, .ref (ad k0)), (1, .ref (ad k1)), (2, .int a2), (3, .int a3)] := hl
  unfold f_Wa_lookAround at hf
  obtain ⟨mk0_0, bk0_1, bk0_4, mk0_7⟩ := id bk0_0
  have mk0_0 : w0[k0]? = some (ad k0, .inr (5, [.ref (ad (k0 + 1)), .ref (ad (k0 + 4)), .ref (ad (k0 + 7)), .int x0_3])) := mk0_0
  have bk0_1 : wc_Rk cI cG cZ ad (k0 + 1) x0_0 w0 := bk0_1
  have bk0_4 : wc_Rk cI cG cZ ad (k0 + 4) x0_1 w0 := bk0_4
  have mk0_7 : w0[k0 + 7]? = some (ad (k0 + 7), .inl (cI, 30, .inl x0_2)) := mk0_7
  refine lv_iconst (v := 0) hx hb d_Wa_lookAround_0 (by decide) ?_
  refine lv_istore (lv' := [(4, .int 0), (0, .ref (ad k0)), (1, .ref (ad k1)), (2, .int a2), (3, .int a3)]) hx hb d_Wa_lookAround_1 hl (by decide) rfl (fun ls hl => ?_)
  exact wl_Wa_lookAround_3 (ad := ad) C0 hK hN dj0 x0_2 x1_0 x1_1 x1_2 x1_3 x1_4 x1_5 a2 a3 x0_0 x0_1 x0_3 y0_0 y0_1 y0_3 N x0_0 x0_1 x0_3 0 _ _ _ _ hP hD hS (lv_sub hl [0, 1, 2, 3, 4] rfl) mk0_0 bk0_1 bk0_4 mk0_7 bk1_0 fr hf
set_option maxHeartbeats 4000000 in
set_option maxRecDepth 100000 in
theorem wl_Wa_walk_8 {p : Program} {l : Launch} {e : Env} {s : State} {m : MethodId} {args : Array Value} {below : List Frame} {meth : Method} {c : Code} {D : va_G} {cI cG cZ : ClassId} {ad : Nat → Nat} {B : Nat} {w0 : va_W} {N : Nat} {k0 : Nat} {k1 : Nat} (C0 : hw_C p s m meth c b_Wa_walk 6 args R_Wa (some .int)) (hK : va_K D classes [(cI, .int), (cG, .array .int), (cZ, .boolean)] s) (hN : hw_N s) (dj0 : k0 + 8 ≤ k1 ∨ k1 + 6 ≤ k0) (x0_2 : (Nat → Int32)) (x1_0 : (Nat → Int32)) (x1_1 : (Nat → Int32)) (x1_2 : (Nat → Int32)) (x1_3 : (Nat → Int32)) (x1_4 : (Nat → Int32)) (x1_5 : Int32) (a2 : Int32) (a3 : Int32) (x0_0 : T_Rk) (x0_1 : T_Rk) (x0_3 : Int32) (r : Int32) (y0_0 : T_Rk) (y0_1 : T_Rk) (y0_3 : Int32) : ∀ (n : Nat) (vbk0_1 : T_Rk) (vbk0_4 : T_Rk) (vfk0_0_3 : Int32) (v4 : Int32) (ws : va_W) (H : Heap) (locs : List Loc) (ls : Array Slot), va_P D classes ws H → va_D (fun q : Nat => B ≤ q) ws → va_S (fun q : Nat => B ≤ q) s.heap H locs → lv_has ls 6 [(4, .int v4), (0, .ref (ad k0)), (1, .ref (ad k1)), (2, .int a2), (3, .int a3)] → ws[k0]? = some (ad k0, .inr (5, [.ref (ad (k0 + 1)), .ref (ad (k0 + 4)), .ref (ad (k0 + 7)), .int vfk0_0_3])) → wc_Rk cI cG cZ ad (k0 + 1) vbk0_1 ws → wc_Rk cI cG cZ ad (k0 + 4) vbk0_4 ws → ws[k0 + 7]? = some (ad (k0 + 7), .inl (cI, 30, .inl x0_2)) → wc_Li cI cG cZ ad (k1) (x1_0, x1_1, x1_2, x1_3, x1_4, x1_5) ws → (∀ j : Nat, (j < k0 ∨ k0 + 8 ≤ j) → ws[j]? = w0[j]?) → f_Wa_walk_8 N x0_2 x1_2 x1_3 a2 n vbk0_1 vbk0_4 vfk0_0_3 v4 = some (r, y0_0, y0_1, y0_3) → W p l e ({ frames := 3, cells := 0, slots := 0, locals := 72 } : Room) s m args below meth c H locs 0 0 (MQ below (va_Qi (fun (r1 : Int32) (w1 : va_W) => r1 = r ∧ wc_Wa cI cG cZ ad k0 (y0_0, y0_1, x0_2, y0_3) w1 ∧ (∀ j : Nat, (j < k0 ∨ k0 + 8 ≤ j) → w1[j]? = w0[j]?)) (hw_B D B) (fun q : Nat => B ≤ q)) args s 0 0 (fun q : Nat => B ≤ q)) (F0 m 8 ls []) := by
  obtain ⟨hx, hb, hr, hml, hown, hts, hlocks⟩ := id C0
  intro n
  induction n with
  | zero =>
    intro vbk0_1 vbk0_4 vfk0_0_3 v4 ws H locs ls hP hD hS hl mk0_0 bk0_1 bk0_4 mk0_7 bk1_0 fr hf
    exact nomatch (show none = some _ from hf)
  | succ n ih =>
    intro vbk0_1 vbk0_4 vfk0_0_3 v4 ws H locs ls hP hD hS hl mk0_0 bk0_1 bk0_4 mk0_7 bk1_0 fr hf
    rw [f_Wa_walk_8] at hf
    refine lv_iload hx hb d_Wa_walk_8 (lv_at hl 0 rfl) ?_
    refine lv_bipush (v := 30) hx hb d_Wa_walk_10 (by decide) ?_
    refine lv_icmp_ge (tgt := 88) hx hb d_Wa_walk_12 (by decide) (fun c3 => ?_) (fun c3 => ?_)
    · rw [if_pos c3] at hf
      refine lv_aload_n hx hb d_Wa_walk_88 rfl (lv_at hl 1 rfl) ?_
      refine va_get (D := D) (ci := 5) (v := .int vfk0_0_3) (C := R_Wa) (T := F_Wa) (N := 4) hx hb hts i_Wa hown hK hP (k0) mk0_0 rfl 3 (by decide) (hts _ iw_103) (fun _ h9 => h9) rfl d_Wa_walk_89 ?_
      obtain ⟨p4, hp4, hf⟩ := g_bd hf
      refine hw_ci0 (va_runS (As := [.int vfk0_0_3]) (rest := []) ⟨hx, hb, hml, hown, hts⟩ (c_In_bitCount l D cI cG cZ ad B ws N vfk0_0_3 p4 hp4) (va_cwS 1 hts (hw_gS iw_304 gs_In_bitCount) rfl rfl rfl (by decide +kernel) ⟨Nat.le_of_ble_eq_true rfl, Nat.le_of_ble_eq_true rfl⟩) ⟨hw_blind, hw_go hP hD hK hN⟩ rfl rfl hl.1 rfl (lv_room (Nat.le_of_ble_eq_true rfl)) d_Wa_walk_92 ⟨Nat.zero_le _, Nat.zero_le _⟩) hS (fun H locs hP hD hS => ?_)
      have bk0_0 : wc_Wa cI cG cZ ad (k0) (vbk0_1, vbk0_4, x0_2, vfk0_0_3) ws := ⟨mk0_0, bk0_1, bk0_4, mk0_7⟩
      have he := Option.some.inj hf
      obtain ⟨e0, he⟩ := Prod.mk.inj he
      obtain ⟨e1, he⟩ := Prod.mk.inj he
      obtain ⟨e2, e3⟩ := Prod.mk.inj he
      have f0 : wc_Wa cI cG cZ ad (k0) (y0_0, y0_1, x0_2, y0_3) ws := by rw [← e1, ← e2, ← e3]; exact bk0_0
      exact W.iret (v := p4) hx hb hr (fun t ht hW => ⟨⟨p4, ws, rfl, ⟨e0, ⟨f0, fr⟩⟩, by rw [ht]; exact hP, hD⟩, hS.F ht⟩) hS.2.2 d_Wa_walk_95
    · rw [if_neg c3] at hf
      refine lv_aload_n hx hb d_Wa_walk_15 rfl (lv_at hl 1 rfl) ?_
      refine va_get (D := D) (ci := 5) (v := .ref (ad (k0 + 4))) (C := R_Wa) (T := F_Wa) (N := 4) hx hb hts i_Wa hown hK hP (k0) mk0_0 rfl 1 (by decide) (hts _ iw_101) (fun _ h9 => h9) rfl d_Wa_walk_16 ?_
      obtain ⟨p5, hp5, hf⟩ := g_bd hf
      refine hw_ci0 (va_runV (As := []) (rest := []) ⟨hx, hb, hml, hown, hts⟩ (c_Rk_size l D cI cG cZ ad B ws N (k0 + 4) vbk0_4.1 vbk0_4.2.1 vbk0_4.2.2.1 vbk0_4.2.2.2.1 vbk0_4.2.2.2.2 p5 hp5 bk0_4) (cwV 0 hts (hw_gV iw_261 gy_Rk_size) rfl rfl rfl (by decide +kernel) ⟨Nat.le_of_ble_eq_true rfl, Nat.le_of_ble_eq_true rfl⟩) ⟨hw_blind, va_recv hK hP (ci := 4) (q0 := k0 + 4) rfl bk0_4.1, hw_go hP hD hK hN⟩ rfl rfl hl.1 rfl (lv_room (Nat.le_of_ble_eq_true rfl)) d_Wa_walk_19 ⟨Nat.zero_le _, Nat.zero_le _⟩) hS (fun H locs hP hD hS => ?_)
      refine lv_if_le (tgt := 88) hx hb d_Wa_walk_22 (by decide) (fun c6 => ?_) (fun c6 => ?_)
      · rw [if_pos c6] at hf
        refine lv_aload_n hx hb d_Wa_walk_88 rfl (lv_at hl 1 rfl) ?_
        refine va_get (D := D) (ci := 5) (v := .int vfk0_0_3) (C := R_Wa) (T := F_Wa) (N := 4) hx hb hts i_Wa hown hK hP (k0) mk0_0 rfl 3 (by decide) (hts _ iw_103) (fun _ h9 => h9) rfl d_Wa_walk_89 ?_
        obtain ⟨p7, hp7, hf⟩ := g_bd hf
        refine hw_ci0 (va_runS (As := [.int vfk0_0_3]) (rest := []) ⟨hx, hb, hml, hown, hts⟩ (c_In_bitCount l D cI cG cZ ad B ws N vfk0_0_3 p7 hp7) (va_cwS 1 hts (hw_gS iw_304 gs_In_bitCount) rfl rfl rfl (by decide +kernel) ⟨Nat.le_of_ble_eq_true rfl, Nat.le_of_ble_eq_true rfl⟩) ⟨hw_blind, hw_go hP hD hK hN⟩ rfl rfl hl.1 rfl (lv_room (Nat.le_of_ble_eq_true rfl)) d_Wa_walk_92 ⟨Nat.zero_le _, Nat.zero_le _⟩) hS (fun H locs hP hD hS => ?_)
        have bk0_0 : wc_Wa cI cG cZ ad (k0) (vbk0_1, vbk0_4, x0_2, vfk0_0_3) ws := ⟨mk0_0, bk0_1, bk0_4, mk0_7⟩
        have he := Option.some.inj hf
        obtain ⟨e0, he⟩ := Prod.mk.inj he
        obtain ⟨e1, he⟩ := Prod.mk.inj he
        obtain ⟨e2, e3⟩ := Prod.mk.inj he
        have f0 : wc_Wa cI cG cZ ad (k0) (y0_0, y0_1, x0_2, y0_3) ws := by rw [← e1, ← e2, ← e3]; exact bk0_0
        exact W.iret (v := p7) hx hb hr (fun t ht hW => ⟨⟨p7, ws, rfl, ⟨e0, ⟨f0, fr⟩⟩, by rw [ht]; exact hP, hD⟩, hS.F ht⟩) hS.2.2 d_Wa_walk_95
      · rw [if_neg c6] at hf
        refine lv_aload_n hx hb d_Wa_walk_25 rfl (lv_at hl 1 rfl) ?_
        refine va_get (D := D) (ci := 5) (v := .ref (ad (k0 + 4))) (C := R_Wa) (T := F_Wa) (N := 4) hx hb hts i_Wa hown hK hP (k0) mk0_0 rfl 1 (by decide) (hts _ iw_101) (fun _ h9 => h9) rfl d_Wa_walk_26 ?_
        refine lv_iconst (v := 0) hx hb d_Wa_walk_29 (by decide) ?_
        obtain ⟨p8, hp8, hf⟩ := g_bd hf
        refine hw_ci0 (va_runV (As := [.int 0]) (rest := []) ⟨hx, hb, hml, hown, hts⟩ (c_Rk_numberAt l D cI cG cZ ad B ws N (k0 + 4) vbk0_4.1 vbk0_4.2.1 vbk0_4.2.2.1 vbk0_4.2.2.2.1 vbk0_4.2.2.2.2 0 p8 hp8 bk0_4) (cwV 1 hts (hw_gV iw_265 gy_Rk_numberAt) rfl rfl rfl (by decide +kernel) ⟨Nat.le_of_ble_eq_true rfl, Nat.le_of_ble_eq_true rfl⟩) ⟨hw_blind, va_recv hK hP (ci := 4) (q0 := k0 + 4) rfl bk0_4.1, hw_go hP hD hK hN⟩ rfl rfl hl.1 rfl (lv_room (Nat.le_of_ble_eq_true rfl)) d_Wa_walk_30 ⟨Nat.zero_le _, Nat.zero_le _⟩) hS (fun H locs hP hD hS => ?_)
        refine lv_istore (lv' := [(5, .int p8), (4, .int v4), (0, .ref (ad k0)), (1, .ref (ad k1)), (2, .int a2), (3, .int a3)]) hx hb d_Wa_walk_33 hl (by decide) rfl (fun ls hl => ?_)
        refine lv_aload_n hx hb d_Wa_walk_35 rfl (lv_at hl 2 rfl) ?_
        refine va_get (D := D) (ci := 5) (v := .ref (ad (k0 + 4))) (C := R_Wa) (T := F_Wa) (N := 4) hx hb hts i_Wa hown hK hP (k0) mk0_0 rfl 1 (by decide) (hts _ iw_101) (fun _ h9 => h9) rfl d_Wa_walk_36 ?_
        obtain ⟨p9, hp9, hf⟩ := g_bd hf
        refine hw_cv (va_runV (As := []) (rest := []) ⟨hx, hb, hml, hown, hts⟩ (c_Rk_dropFirst l D cI cG cZ ad B ws N (k0 + 4) vbk0_4.1 vbk0_4.2.1 vbk0_4.2.2.1 vbk0_4.2.2.2.1 vbk0_4.2.2.2.2 p9.1 p9.2.1 p9.2.2 hp9 bk0_4) (cwV 0 hts (hw_gV iw_277 gy_Rk_dropFirst) rfl rfl rfl (by decide +kernel) ⟨Nat.le_of_ble_eq_true rfl, Nat.le_of_ble_eq_true rfl⟩) ⟨hw_blind, va_recv hK hP (ci := 4) (q0 := k0 + 4) rfl bk0_4.1, hw_go hP hD hK hN⟩ rfl rfl hl.1 rfl (lv_room (Nat.le_of_ble_eq_true rfl)) d_Wa_walk_39 ⟨Nat.zero_le _, Nat.zero_le _⟩) hS (fun w10 H locs hP hD hS hpp => ?_)
        obtain ⟨q0, frc⟩ := hpp
        have bk0_4 : wc_Rk cI cG cZ ad (k0 + 4) (p9.1, p9.2.1, p9.2.2, vbk0_4.2.2.2.1, vbk0_4.2.2.2.2) w10 := q0
        have bk1_0 : wc_Li cI cG cZ ad (k1) (x1_0, x1_1, x1_2, x1_3, x1_4, x1_5) w10 := bk1_0.fr (fun j h1 h2 => frc j (by omega))
        have mk0_0 : w10[k0]? = some (ad k0, .inr (5, [.ref (ad (k0 + 1)), .ref (ad (k0 + 4)), .ref (ad (k0 + 7)), .int vfk0_0_3])) := (frc _ (by omega)).trans mk0_0
        have bk0_1 : wc_Rk cI cG cZ ad (k0 + 1) vbk0_1 w10 := bk0_1.fr (fun j h1 h2 => frc j (by omega))
        have mk0_7 : w10[k0 + 7]? = some (ad (k0 + 7), .inl (cI, 30, .inl x0_2)) := (frc _ (by omega)).trans mk0_7
        have fr : ∀ j : Nat, (j < k0 ∨ k0 + 8 ≤ j) → w10[j]? = w0[j]? := fun j o0 => (frc j (by omega)).trans (fr j o0)
        refine lv_aload_n hx hb d_Wa_walk_42 rfl (lv_at hl 2 rfl) ?_
        refine va_get (D := D) (ci := 5) (v := .ref (ad (k0 + 1))) (C := R_Wa) (T := F_Wa) (N := 4) hx hb hts i_Wa hown hK hP (k0) mk0_0 rfl 0 (by decide) (hts _ iw_100) (fun _ h9 => h9) rfl d_Wa_walk_43 ?_
        obtain ⟨p11, hp11, hf⟩ := g_bd hf
        refine hw_ci0 (va_runV (As := []) (rest := []) ⟨hx, hb, hml, hown, hts⟩ (c_Rk_isFull l D cI cG cZ ad B w10 N (k0 + 1) vbk0_1.1 vbk0_1.2.1 vbk0_1.2.2.1 vbk0_1.2.2.2.1 vbk0_1.2.2.2.2 p11 hp11 bk0_1) (cwV 0 hts (hw_gV iw_284 gy_Rk_isFull) rfl rfl rfl (by decide +kernel) ⟨Nat.le_of_ble_eq_true rfl, Nat.le_of_ble_eq_true rfl⟩) ⟨hw_blind, va_recv hK hP (ci := 4) (q0 := k0 + 1) rfl bk0_1.1, hw_go hP hD hK hN⟩ rfl rfl hl.1 rfl (lv_room (Nat.le_of_ble_eq_true rfl)) d_Wa_walk_46 ⟨Nat.zero_le _, Nat.zero_le _⟩) hS (fun H locs hP hD hS => ?_)
        refine lv_if_eq (tgt := 74) hx hb d_Wa_walk_49 (by decide) (fun c12 => ?_) (fun c12 => ?_)
        · rw [if_pos c12] at hf
          refine lv_aload_n hx hb d_Wa_walk_74 rfl (lv_at hl 2 rfl) ?_
          refine lv_aload_n hx hb d_Wa_walk_75 rfl (lv_at hl 3 rfl) ?_
          refine lv_iload_n hx hb d_Wa_walk_76 rfl (lv_at hl 4 rfl) ?_
          refine lv_iload hx hb d_Wa_walk_77 (lv_at hl 0 rfl) ?_
          have bk0_0 : wc_Wa cI cG cZ ad (k0) (vbk0_1, (p9.1, p9.2.1, p9.2.2, vbk0_4.2.2.2.1, vbk0_4.2.2.2.2), x0_2, vfk0_0_3) w10 := ⟨mk0_0, bk0_1, bk0_4, mk0_7⟩
          obtain ⟨p13, hp13, hf⟩ := g_bd hf
          refine hw_cv (va_runV (As := [.ref (ad k1), .int a2, .int p8]) (rest := []) ⟨hx, hb, hml, hown, hts⟩ (c_Wa_lookAround l D cI cG cZ ad B w10 N k0 vbk0_1 (p9.1, p9.2.1, p9.2.2, vbk0_4.2.2.2.1, vbk0_4.2.2.2.2) x0_2 vfk0_0_3 k1 x1_0 x1_1 x1_2 x1_3 x1_4 x1_5 a2 p8 p13.1 p13.2.1 p13.2.2 hp13 bk0_0 bk1_0 (by omega)) (cwV 3 hts (hw_gV iw_289 gy_Wa_lookAround) rfl rfl rfl (by decide +kernel) ⟨Nat.le_of_ble_eq_true rfl, Nat.le_of_ble_eq_true rfl⟩) ⟨hw_blind, va_recv hK hP (ci := 5) (q0 := k0) rfl bk0_0.1, hw_go hP hD hK hN⟩ rfl rfl hl.1 rfl (lv_room (Nat.le_of_ble_eq_true rfl)) d_Wa_walk_79 ⟨Nat.zero_le _, Nat.zero_le _⟩) hS (fun w14 H locs hP hD hS hpp => ?_)
          obtain ⟨q0, frc⟩ := hpp
          have bk0_0 : wc_Wa cI cG cZ ad (k0) (p13.1, p13.2.1, x0_2, p13.2.2) w14 := q0
          have bk1_0 : wc_Li cI cG cZ ad (k1) (x1_0, x1_1, x1_2, x1_3, x1_4, x1_5) w14 := bk1_0.fr (fun j h1 h2 => frc j (by omega))
          have fr : ∀ j : Nat, (j < k0 ∨ k0 + 8 ≤ j) → w14[j]? = w0[j]? := fun j o0 => (frc j (by omega)).trans (fr j o0)
          refine lv_iinc (v := v4 + 1) (lv' := [(4, .int (v4 + 1)), (5, .int p8), (0, .ref (ad k0)), (1, .ref (ad k1)), (2, .int a2), (3, .int a3)]) hx hb d_Wa_walk_82 hl (k := 1) rfl rfl (by decide) rfl (fun ls hl => ?_)
          refine lv_goto (tgt := 8) hx hb d_Wa_walk_85 (by decide) ?_
          obtain ⟨mk0_0, bk0_1, bk0_4, mk0_7⟩ := id bk0_0
          have mk0_0 : w14[k0]? = some (ad k0, .inr (5, [.ref (ad (k0 + 1)), .ref (ad (k0 + 4)), .ref (ad (k0 + 7)), .int p13.2.2])) := mk0_0
          have bk0_1 : wc_Rk cI cG cZ ad (k0 + 1) p13.1 w14 := bk0_1
          have bk0_4 : wc_Rk cI cG cZ ad (k0 + 4) p13.2.1 w14 := bk0_4
          have mk0_7 : w14[k0 + 7]? = some (ad (k0 + 7), .inl (cI, 30, .inl x0_2)) := mk0_7
          exact ih p13.1 p13.2.1 p13.2.2 (v4 + 1) _ _ _ _ hP hD hS (lv_sub hl [0, 2, 3, 4, 5] rfl) mk0_0 bk0_1 bk0_4 mk0_7 bk1_0 fr hf
        · rw [if_neg c12] at hf
          refine lv_aload_n hx hb d_Wa_walk_52 rfl (lv_at hl 2 rfl) ?_
          refine va_get (D := D) (ci := 5) (v := .ref (ad (k0 + 1))) (C := R_Wa) (T := F_Wa) (N := 4) hx hb hts i_Wa hown hK hP (k0) mk0_0 rfl 0 (by decide) (hts _ iw_100) (fun _ h9 => h9) rfl d_Wa_walk_53 ?_
          refine lv_iload hx hb d_Wa_walk_56 (lv_at hl 0 rfl) ?_
          refine lv_aload_n hx hb d_Wa_walk_58 rfl (lv_at hl 2 rfl) ?_
          refine va_get (D := D) (ci := 5) (v := .ref (ad (k0 + 7))) (C := R_Wa) (T := F_Wa) (N := 4) hx hb hts i_Wa hown hK hP (k0) mk0_0 rfl 2 (by decide) (hts _ iw_102) (fun _ h9 => h9) rfl d_Wa_walk_59 ?_
          refine lv_iload hx hb d_Wa_walk_62 (lv_at hl 0 rfl) ?_
          obtain ⟨z15, hf⟩ := g_atE hf
          refine va_iald hx hb hK hP (k0 + 7) 0 mk0_7 rfl z15 d_Wa_walk_64 ?_
          obtain ⟨p16, hp16, hf⟩ := g_bd hf
          refine hw_ci0 (va_runV (As := [.int p8, .int (x0_2 p8.toNatClampNeg)]) (rest := []) ⟨hx, hb, hml, hown, hts⟩ (c_Rk_lastPrecedes l D cI cG cZ ad B w10 N (k0 + 1) vbk0_1.1 vbk0_1.2.1 vbk0_1.2.2.1 vbk0_1.2.2.2.1 vbk0_1.2.2.2.2 p8 (x0_2 p8.toNatClampNeg) p16 hp16 bk0_1) (cwV 2 hts (hw_gV iw_285 gy_Rk_lastPrecedes) rfl rfl rfl (by decide +kernel) ⟨Nat.le_of_ble_eq_true rfl, Nat.le_of_ble_eq_true rfl⟩) ⟨hw_blind, va_recv hK hP (ci := 4) (q0 := k0 + 1) rfl bk0_1.1, hw_go hP hD hK hN⟩ rfl rfl hl.1 rfl (lv_room (Nat.le_of_ble_eq_true rfl)) d_Wa_walk_65 ⟨Nat.zero_le _, Nat.zero_le _⟩) hS (fun H locs hP hD hS => ?_)
          refine lv_if_eq (tgt := 74) hx hb d_Wa_walk_68 (by decide) (fun c17 => ?_) (fun c17 => ?_)
          · rw [if_pos c17] at hf
            refine lv_aload_n hx hb d_Wa_walk_74 rfl (lv_at hl 2 rfl) ?_
            refine lv_aload_n hx hb d_Wa_walk_75 rfl (lv_at hl 3 rfl) ?_
            refine lv_iload_n hx hb d_Wa_walk_76 rfl (lv_at hl 4 rfl) ?_
            refine lv_iload hx hb d_Wa_walk_77 (lv_at hl 0 rfl) ?_
            have bk0_0 : wc_Wa cI cG cZ ad (k0) (vbk0_1, (p9.1, p9.2.1, p9.2.2, vbk0_4.2.2.2.1, vbk0_4.2.2.2.2), x0_2, vfk0_0_3) w10 := ⟨mk0_0, bk0_1, bk0_4, mk0_7⟩
            obtain ⟨p18, hp18, hf⟩ := g_bd hf
            refine hw_cv (va_runV (As := [.ref (ad k1), .int a2, .int p8]) (rest := []) ⟨hx, hb, hml, hown, hts⟩ (c_Wa_lookAround l D cI cG cZ ad B w10 N k0 vbk0_1 (p9.1, p9.2.1, p9.2.2, vbk0_4.2.2.2.1, vbk0_4.2.2.2.2) x0_2 vfk0_0_3 k1 x1_0 x1_1 x1_2 x1_3 x1_4 x1_5 a2 p8 p18.1 p18.2.1 p18.2.2 hp18 bk0_0 bk1_0 (by omega)) (cwV 3 hts (hw_gV iw_289 gy_Wa_lookAround) rfl rfl rfl (by decide +kernel) ⟨Nat.le_of_ble_eq_true rfl, Nat.le_of_ble_eq_true rfl⟩) ⟨hw_blind, va_recv hK hP (ci := 5) (q0 := k0) rfl bk0_0.1, hw_go hP hD hK hN⟩ rfl rfl hl.1 rfl (lv_room (Nat.le_of_ble_eq_true rfl)) d_Wa_walk_79 ⟨Nat.zero_le _, Nat.zero_le _⟩) hS (fun w19 H locs hP hD hS hpp => ?_)
            obtain ⟨q0, frc⟩ := hpp
            have bk0_0 : wc_Wa cI cG cZ ad (k0) (p18.1, p18.2.1, x0_2, p18.2.2) w19 := q0
            have bk1_0 : wc_Li cI cG cZ ad (k1) (x1_0, x1_1, x1_2, x1_3, x1_4, x1_5) w19 := bk1_0.fr (fun j h1 h2 => frc j (by omega))
            have fr : ∀ j : Nat, (j < k0 ∨ k0 + 8 ≤ j) → w19[j]? = w0[j]? := fun j o0 => (frc j (by omega)).trans (fr j o0)
            refine lv_iinc (v := v4 + 1) (lv' := [(4, .int (v4 + 1)), (5, .int p8), (0, .ref (ad k0)), (1, .ref (ad k1)), (2, .int a2), (3, .int a3)]) hx hb d_Wa_walk_82 hl (k := 1) rfl rfl (by decide) rfl (fun ls hl => ?_)
            refine lv_goto (tgt := 8) hx hb d_Wa_walk_85 (by decide) ?_
            obtain ⟨mk0_0, bk0_1, bk0_4, mk0_7⟩ := id bk0_0
            have mk0_0 : w19[k0]? = some (ad k0, .inr (5, [.ref (ad (k0 + 1)), .ref (ad (k0 + 4)), .ref (ad (k0 + 7)), .int p18.2.2])) := mk0_0
            have bk0_1 : wc_Rk cI cG cZ ad (k0 + 1) p18.1 w19 := bk0_1
            have bk0_4 : wc_Rk cI cG cZ ad (k0 + 4) p18.2.1 w19 := bk0_4
            have mk0_7 : w19[k0 + 7]? = some (ad (k0 + 7), .inl (cI, 30, .inl x0_2)) := mk0_7
            exact ih p18.1 p18.2.1 p18.2.2 (v4 + 1) _ _ _ _ hP hD hS (lv_sub hl [0, 2, 3, 4, 5] rfl) mk0_0 bk0_1 bk0_4 mk0_7 bk1_0 fr hf
          · rw [if_neg c17] at hf
            refine lv_goto (tgt := 88) hx hb d_Wa_walk_71 (by decide) ?_
            refine lv_aload_n hx hb d_Wa_walk_88 rfl (lv_at hl 2 rfl) ?_
            refine va_get (D := D) (ci := 5) (v := .int vfk0_0_3) (C := R_Wa) (T := F_Wa) (N := 4) hx hb hts i_Wa hown hK hP (k0) mk0_0 rfl 3 (by decide) (hts _ iw_103) (fun _ h9 => h9) rfl d_Wa_walk_89 ?_
            obtain ⟨p20, hp20, hf⟩ := g_bd hf
            refine hw_ci0 (va_runS (As := [.int vfk0_0_3]) (rest := []) ⟨hx, hb, hml, hown, hts⟩ (c_In_bitCount l D cI cG cZ ad B w10 N vfk0_0_3 p20 hp20) (va_cwS 1 hts (hw_gS iw_304 gs_In_bitCount) rfl rfl rfl (by decide +kernel) ⟨Nat.le_of_ble_eq_true rfl, Nat.le_of_ble_eq_true rfl⟩) ⟨hw_blind, hw_go hP hD hK hN⟩ rfl rfl hl.1 rfl (lv_room (Nat.le_of_ble_eq_true rfl)) d_Wa_walk_92 ⟨Nat.zero_le _, Nat.zero_le _⟩) hS (fun H locs hP hD hS => ?_)
            have bk0_0 : wc_Wa cI cG cZ ad (k0) (vbk0_1, (p9.1, p9.2.1, p9.2.2, vbk0_4.2.2.2.1, vbk0_4.2.2.2.2), x0_2, vfk0_0_3) w10 := ⟨mk0_0, bk0_1, bk0_4, mk0_7⟩
            have he := Option.some.inj hf
            obtain ⟨e0, he⟩ := Prod.mk.inj he
            obtain ⟨e1, he⟩ := Prod.mk.inj he
            obtain ⟨e2, e3⟩ := Prod.mk.inj he
            have f0 : wc_Wa cI cG cZ ad (k0) (y0_0, y0_1, x0_2, y0_3) w10 := by rw [← e1, ← e2, ← e3]; exact bk0_0
            exact W.iret (v := p20) hx hb hr (fun t ht hW => ⟨⟨p20, w10, rfl, ⟨e0, ⟨f0, fr⟩⟩, by rw [ht]; exact hP, hD⟩, hS.F ht⟩) hS.2.2 d_Wa_walk_95
set_option maxHeartbeats 4000000 in
set_option maxRecDepth 100000 in
theorem c_Wa_walk (l : Launch) (D : va_G) (cI cG cZ : ClassId) (ad : Nat → Nat) (B : Nat) (w0 : va_W) (N : Nat) (k0 : Nat) (x0_0 : T_Rk) (x0_1 : T_Rk) (x0_2 : (Nat → Int32)) (x0_3 : Int32) (k1 : Nat) (x1_0 : (Nat → Int32)) (x1_1 : (Nat → Int32)) (x1_2 : (Nat → Int32)) (x1_3 : (Nat → Int32)) (x1_4 : (Nat → Int32)) (x1_5 : Int32) (a2 : Int32) (a3 : Int32) (r : Int32) (y0_0 : T_Rk) (y0_1 : T_Rk) (y0_3 : Int32) (hf : f_Wa_walk N x0_0 x0_1 x0_2 x1_2 x1_3 a2 a3 = some (r, y0_0, y0_1, y0_3)) (bk0_0 : wc_Wa cI cG cZ ad k0 (x0_0, x0_1, x0_2, x0_3) w0) (bk1_0 : wc_Li cI cG cZ ad k1 (x1_0, x1_1, x1_2, x1_3, x1_4, x1_5) w0) (dj0 : k0 + 8 ≤ k1 ∨ k1 + 6 ≤ k0) : Met l y_Wa_walk (.code y_Wa_walk b_Wa_walk 6 (some .int) :: hw_G) ({ frames := 3, cells := 0, slots := 0, locals := 72 } : Room) (va_Pc [.ref (ad k0), .ref (ad k1), .int a2, .int a3] (hw_U D cI cG cZ B w0)) (va_Qi (fun (r1 : Int32) (w1 : va_W) => r1 = r ∧ wc_Wa cI cG cZ ad k0 (y0_0, y0_1, x0_2, y0_3) w1 ∧ (∀ j : Nat, (j < k0 ∨ k0 + 8 ≤ j) → w1[j]? = w0[j]?)) (hw_B D B) (fun q : Nat => B ≤ q)) 0 0 (fun q : Nat => B ≤ q) := by
  refine Met.ofW (cc := b_Wa_walk) (maxL := 6) (ret := (some .int)) (by decide) rfl ?_
  intro p e s m args below meth c s₁ Bd hml hv
  obtain ⟨rfl, hP, hD, hK, hN⟩ := hv
  have C0 : hw_C p s m meth c b_Wa_walk 6 _ R_Wa (some .int) := ⟨Bd.exec, Bd.bytes, Bd.returns, hml, findClass_of_methodNamed Bd.named, fun w h => atoms_spec (ws := .code y_Wa_walk b_Wa_walk 6 (some .int) :: hw_G) Bd.pre w (List.mem_cons_of_mem _ h), Bd.notSynchronized⟩
  obtain ⟨hx, hb, hr, -, hown, hts, hlocks⟩ := id C0
  have hS : va_S (fun q : Nat => B ≤ q) s.heap s.heap [] := va_S.rf
  have fr : ∀ j : Nat, (j < k0 ∨ k0 + 8 ≤ j) → w0[j]? = w0[j]? := fun j _ => rfl
  have hl := lv_entry ([.ref (ad k0), .ref (ad k1), .int a2, .int a3]) (n := 6) (Nat.le_of_ble_eq_true rfl)
  rw [lg_entry_eq]
  generalize (lg_sl ([.ref (ad k0), .ref (ad k1), .int a2, .int a3]) ++ List.replicate (6 - (lg_sl ([.ref (ad k0), .ref (ad k1), .int a2, .int a3])).length) Slot.unset).toArray = ls at hl ⊢
  have hl : lv_has ls 6 [(0, .ref (ad k0)), (1, .ref (ad k1)), (2, .int a2), (3, .int a3)] := hl
  unfold f_Wa_walk at hf
  obtain ⟨mk0_0, bk0_1, bk0_4, mk0_7⟩ := id bk0_0
  have mk0_0 : w0[k0]? = some (ad k0, .inr (5, [.ref (ad (k0 + 1)), .ref (ad (k0 + 4)), .ref (ad (k0 + 7)), .int x0_3])) := mk0_0
  have bk0_1 : wc_Rk cI cG cZ ad (k0 + 1) x0_0 w0 := bk0_1
  have bk0_4 : wc_Rk cI cG cZ ad (k0 + 4) x0_1 w0 := bk0_4
  have mk0_7 : w0[k0 + 7]? = some (ad (k0 + 7), .inl (cI, 30, .inl x0_2)) := mk0_7
  refine lv_aload_n hx hb d_Wa_walk_0 rfl (lv_at hl 0 rfl) ?_
  refine lv_iload_n hx hb d_Wa_walk_1 rfl (lv_at hl 3 rfl) ?_
  have bk0_0 : wc_Wa cI cG cZ ad (k0) (x0_0, x0_1, x0_2, x0_3) w0 := ⟨mk0_0, bk0_1, bk0_4, mk0_7⟩
  obtain ⟨p1, hp1, hf⟩ := g_bd hf
  refine hw_cv (va_runV (As := [.int a3]) (rest := []) ⟨hx, hb, hml, hown, hts⟩ (c_Wa_begin l D cI cG cZ ad B w0 N k0 x0_0 x0_1 x0_2 x0_3 a3 p1.1 p1.2.1 p1.2.2 hp1 bk0_0) (cwV 1 hts (hw_gV iw_257 gy_Wa_begin) rfl rfl rfl (by decide +kernel) ⟨Nat.le_of_ble_eq_true rfl, Nat.le_of_ble_eq_true rfl⟩) ⟨hw_blind, va_recv hK hP (ci := 5) (q0 := k0) rfl bk0_0.1, hw_go hP hD hK hN⟩ rfl rfl hl.1 rfl (lv_room (Nat.le_of_ble_eq_true rfl)) d_Wa_walk_2 ⟨Nat.zero_le _, Nat.zero_le _⟩) hS (fun w2 H locs hP hD hS hpp => ?_)
  obtain ⟨q0, frc⟩ := hpp
  have bk0_0 : wc_Wa cI cG cZ ad (k0) (p1.1, p1.2.1, x0_2, p1.2.2) w2 := q0
  have bk1_0 : wc_Li cI cG cZ ad (k1) (x1_0, x1_1, x1_2, x1_3, x1_4, x1_5) w2 := bk1_0.fr (fun j h1 h2 => frc j (by omega))
  have fr : ∀ j : Nat, (j < k0 ∨ k0 + 8 ≤ j) → w2[j]? = w0[j]? := fun j o0 => (frc j (by omega)).trans (fr j o0)
  refine lv_iconst (v := 0) hx hb d_Wa_walk_5 (by decide) ?_
  refine lv_istore (lv' := [(4, .int 0), (0, .ref (ad k0)), (1, .ref (ad k1)), (2, .int a2), (3, .int a3)]) hx hb d_Wa_walk_6 hl (by decide) rfl (fun ls hl => ?_)
  obtain ⟨mk0_0, bk0_1, bk0_4, mk0_7⟩ := id bk0_0
  have mk0_0 : w2[k0]? = some (ad k0, .inr (5, [.ref (ad (k0 + 1)), .ref (ad (k0 + 4)), .ref (ad (k0 + 7)), .int p1.2.2])) := mk0_0
  have bk0_1 : wc_Rk cI cG cZ ad (k0 + 1) p1.1 w2 := bk0_1
  have bk0_4 : wc_Rk cI cG cZ ad (k0 + 4) p1.2.1 w2 := bk0_4
  have mk0_7 : w2[k0 + 7]? = some (ad (k0 + 7), .inl (cI, 30, .inl x0_2)) := mk0_7
  exact wl_Wa_walk_8 (ad := ad) C0 hK hN dj0 x0_2 x1_0 x1_1 x1_2 x1_3 x1_4 x1_5 a2 a3 x0_0 x0_1 x0_3 r y0_0 y0_1 y0_3 N p1.1 p1.2.1 p1.2.2 0 _ _ _ _ hP hD hS (lv_sub hl [0, 1, 2, 3, 4] rfl) mk0_0 bk0_1 bk0_4 mk0_7 bk1_0 fr hf
set_option maxHeartbeats 4000000 in
set_option maxRecDepth 100000 in
theorem c_Wa_held (l : Launch) (D : va_G) (cI cG cZ : ClassId) (ad : Nat → Nat) (B : Nat) (w0 : va_W) (N : Nat) (k0 : Nat) (x0_0 : T_Rk) (x0_1 : T_Rk) (x0_2 : (Nat → Int32)) (x0_3 : Int32) (hf : f_Wa_held N = some ()) (bk0_0 : wc_Wa cI cG cZ ad k0 (x0_0, x0_1, x0_2, x0_3) w0) : Met l y_Wa_held (.code y_Wa_held b_Wa_held 1 (some (.object "NearDesk$Ranking")) :: hw_G) ({ frames := 0, cells := 0, slots := 0, locals := 0 } : Room) (va_Pc [.ref (ad k0)] (hw_U D cI cG cZ B w0)) (va_Qr (fun (w1 : va_W) => w1 = w0) (hw_Br D B (ad (k0 + 1))) (fun q : Nat => B ≤ q)) 0 0 (fun q : Nat => B ≤ q) := by
  refine Met.ofW (cc := b_Wa_held) (maxL := 1) (ret := (some (.object "NearDesk$Ranking"))) (by decide) rfl ?_
  intro p e s m args below meth c s₁ Bd hml hv
  obtain ⟨rfl, hP, hD, hK, hN⟩ := hv
  have C0 : hw_C p s m meth c b_Wa_held 1 _ R_Wa (some (.object "NearDesk$Ranking")) := ⟨Bd.exec, Bd.bytes, Bd.returns, hml, findClass_of_methodNamed Bd.named, fun w h => atoms_spec (ws := .code y_Wa_held b_Wa_held 1 (some (.object "NearDesk$Ranking")) :: hw_G) Bd.pre w (List.mem_cons_of_mem _ h), Bd.notSynchronized⟩
  obtain ⟨hx, hb, hr, -, hown, hts, hlocks⟩ := id C0
  have hS : va_S (fun q : Nat => B ≤ q) s.heap s.heap [] := va_S.rf
  have fr : w0 = w0 := rfl
  have hl := lv_entry ([.ref (ad k0)]) (n := 1) (Nat.le_of_ble_eq_true rfl)
  rw [lg_entry_eq]
  generalize (lg_sl ([.ref (ad k0)]) ++ List.replicate (1 - (lg_sl ([.ref (ad k0)])).length) Slot.unset).toArray = ls at hl ⊢
  have hl : lv_has ls 1 [(0, .ref (ad k0))] := hl
  unfold f_Wa_held at hf
  obtain ⟨mk0_0, bk0_1, bk0_4, mk0_7⟩ := id bk0_0
  have mk0_0 : w0[k0]? = some (ad k0, .inr (5, [.ref (ad (k0 + 1)), .ref (ad (k0 + 4)), .ref (ad (k0 + 7)), .int x0_3])) := mk0_0
  have bk0_1 : wc_Rk cI cG cZ ad (k0 + 1) x0_0 w0 := bk0_1
  have bk0_4 : wc_Rk cI cG cZ ad (k0 + 4) x0_1 w0 := bk0_4
  have mk0_7 : w0[k0 + 7]? = some (ad (k0 + 7), .inl (cI, 30, .inl x0_2)) := mk0_7
  refine lv_aload_n hx hb d_Wa_held_0 rfl (lv_at hl 0 rfl) ?_
  refine va_get (D := D) (ci := 5) (v := .ref (ad (k0 + 1))) (C := R_Wa) (T := F_Wa) (N := 4) hx hb hts i_Wa hown hK hP (k0) mk0_0 rfl 0 (by decide) (hts _ iw_100) (fun _ h9 => h9) rfl d_Wa_held_1 ?_
  have bk0_0 : wc_Wa cI cG cZ ad (k0) (x0_0, x0_1, x0_2, x0_3) w0 := ⟨mk0_0, bk0_1, bk0_4, mk0_7⟩
  exact W.aret hx hb hr (Or.inl ⟨_, rfl⟩) (Or.inr ⟨_, rfl⟩) (fun t ht hW => ⟨⟨w0, ad (k0 + 1), rfl, fr, rfl, by rw [ht]; exact hP, hD⟩, hS.F ht⟩) hS.2.2 d_Wa_held_4
set_option maxHeartbeats 4000000 in
set_option maxRecDepth 100000 in
theorem c_Wa_standNowhere (l : Launch) (D : va_G) (cI cG cZ : ClassId) (ad : Nat → Nat) (B : Nat) (w0 : va_W) (N : Nat) (k0 : Nat) (x0_0 : T_Rk) (x0_1 : T_Rk) (x0_2 : (Nat → Int32)) (x0_3 : Int32) (y0_0 : T_Rk) (hf : f_Wa_standNowhere N x0_0 = some y0_0) (bk0_0 : wc_Wa cI cG cZ ad k0 (x0_0, x0_1, x0_2, x0_3) w0) : Met l y_Wa_standNowhere (.code y_Wa_standNowhere b_Wa_standNowhere 1 none :: hw_G) ({ frames := 2, cells := 0, slots := 0, locals := 43 } : Room) (va_Pc [.ref (ad k0)] (hw_U D cI cG cZ B w0)) (va_Qv (fun (w1 : va_W) => wc_Wa cI cG cZ ad k0 (y0_0, x0_1, x0_2, x0_3) w1 ∧ (∀ j : Nat, (j < k0 ∨ k0 + 8 ≤ j) → w1[j]? = w0[j]?)) (hw_B D B) (fun q : Nat => B ≤ q)) 0 0 (fun q : Nat => B ≤ q) := by
  refine Met.ofW (cc := b_Wa_standNowhere) (maxL := 1) (ret := none) (by decide) rfl ?_
  intro p e s m args below meth c s₁ Bd hml hv
  obtain ⟨rfl, hP, hD, hK, hN⟩ := hv
  have C0 : hw_C p s m meth c b_Wa_standNowhere 1 _ R_Wa none := ⟨Bd.exec, Bd.bytes, Bd.returns, hml, findClass_of_methodNamed Bd.named, fun w h => atoms_spec (ws := .code y_Wa_standNowhere b_Wa_standNowhere 1 none :: hw_G) Bd.pre w (List.mem_cons_of_mem _ h), Bd.notSynchronized⟩
  obtain ⟨hx, hb, hr, -, hown, hts, hlocks⟩ := id C0
  have hS : va_S (fun q : Nat => B ≤ q) s.heap s.heap [] := va_S.rf
  have fr : ∀ j : Nat, (j < k0 ∨ k0 + 8 ≤ j) → w0[j]? = w0[j]? := fun j _ => rfl
  have hl := lv_entry ([.ref (ad k0)]) (n := 1) (Nat.le_of_ble_eq_true rfl)
  rw [lg_entry_eq]
  generalize (lg_sl ([.ref (ad k0)]) ++ List.replicate (1 - (lg_sl ([.ref (ad k0)])).length) Slot.unset).toArray = ls at hl ⊢
  have hl : lv_has ls 1 [(0, .ref (ad k0))] := hl
  unfold f_Wa_standNowhere at hf
  obtain ⟨mk0_0, bk0_1, bk0_4, mk0_7⟩ := id bk0_0
  have mk0_0 : w0[k0]? = some (ad k0, .inr (5, [.ref (ad (k0 + 1)), .ref (ad (k0 + 4)), .ref (ad (k0 + 7)), .int x0_3])) := mk0_0
  have bk0_1 : wc_Rk cI cG cZ ad (k0 + 1) x0_0 w0 := bk0_1
  have bk0_4 : wc_Rk cI cG cZ ad (k0 + 4) x0_1 w0 := bk0_4
  have mk0_7 : w0[k0 + 7]? = some (ad (k0 + 7), .inl (cI, 30, .inl x0_2)) := mk0_7
  refine lv_aload_n hx hb d_Wa_standNowhere_0 rfl (lv_at hl 0 rfl) ?_
  refine va_get (D := D) (ci := 5) (v := .ref (ad (k0 + 1))) (C := R_Wa) (T := F_Wa) (N := 4) hx hb hts i_Wa hown hK hP (k0) mk0_0 rfl 0 (by decide) (hts _ iw_100) (fun _ h9 => h9) rfl d_Wa_standNowhere_1 ?_
  refine lv_iconst (v := 0) hx hb d_Wa_standNowhere_4 (by decide) ?_
  refine lv_iconst (v := 0) hx hb d_Wa_standNowhere_5 (by decide) ?_
  obtain ⟨p1, hp1, hf⟩ := g_bd hf
  refine hw_cv (va_runV (As := [.int 0, .int 0]) (rest := []) ⟨hx, hb, hml, hown, hts⟩ (c_Rk_start l D cI cG cZ ad B w0 N (k0 + 1) x0_0.1 x0_0.2.1 x0_0.2.2.1 x0_0.2.2.2.1 x0_0.2.2.2.2 0 0 p1.1 p1.2.1 p1.2.2 hp1 bk0_1) (cwV 2 hts (hw_gV iw_230 gy_Rk_start) rfl rfl rfl (by decide +kernel) ⟨Nat.le_of_ble_eq_true rfl, Nat.le_of_ble_eq_true rfl⟩) ⟨hw_blind, va_recv hK hP (ci := 4) (q0 := k0 + 1) rfl bk0_1.1, hw_go hP hD hK hN⟩ rfl rfl hl.1 rfl (lv_room (Nat.le_of_ble_eq_true rfl)) d_Wa_standNowhere_6 ⟨Nat.zero_le _, Nat.zero_le _⟩) hS (fun w2 H locs hP hD hS hpp => ?_)
  obtain ⟨q0, frc⟩ := hpp
  have bk0_1 : wc_Rk cI cG cZ ad (k0 + 1) (x0_0.1, x0_0.2.1, p1.1, p1.2.1, p1.2.2) w2 := q0
  have mk0_0 : w2[k0]? = some (ad k0, .inr (5, [.ref (ad (k0 + 1)), .ref (ad (k0 + 4)), .ref (ad (k0 + 7)), .int x0_3])) := (frc _ (by omega)).trans mk0_0
  have bk0_4 : wc_Rk cI cG cZ ad (k0 + 4) x0_1 w2 := bk0_4.fr (fun j h1 h2 => frc j (by omega))
  have mk0_7 : w2[k0 + 7]? = some (ad (k0 + 7), .inl (cI, 30, .inl x0_2)) := (frc _ (by omega)).trans mk0_7
  have fr : ∀ j : Nat, (j < k0 ∨ k0 + 8 ≤ j) → w2[j]? = w0[j]? := fun j o0 => (frc j (by omega)).trans (fr j o0)
  have bk0_0 : wc_Wa cI cG cZ ad (k0) ((x0_0.1, x0_0.2.1, p1.1, p1.2.1, p1.2.2), x0_1, x0_2, x0_3) w2 := ⟨mk0_0, bk0_1, bk0_4, mk0_7⟩
  have e0 := Option.some.inj hf
  have f0 : wc_Wa cI cG cZ ad (k0) (y0_0, x0_1, x0_2, x0_3) w2 := by rw [← e0]; exact bk0_0
  exact W.vret hx hb hr (fun t ht hW => ⟨⟨w2, rfl, ⟨f0, fr⟩, by rw [ht]; exact hP, hD⟩, hS.F ht⟩) hS.2.2 d_Wa_standNowhere_9
