set_option maxHeartbeats 4000000 in
set_option maxRecDepth 100000 in
theorem c_Nd_put (l : Launch) (D : va_G) (cI cG cZ : ClassId) (ad : Nat → Nat) (B : Nat) (w0 : va_W) (N : Nat) (k0 : Nat) (x0_0 : T_Do) (x0_1 : T_Gr) (x0_2 : T_Rk) (x0_3 : T_Rk) (x0_4 : (Nat → Int32)) (x0_5 : (Nat → Int32)) (a1 : Int32) (a2 : Int32) (a3 : Int32) (a4 : Int32) (a5 : Int32) (r : Int32) (y0_0 : T_Do) (y0_1 : T_Gr) (hf : f_Nd_put N x0_0 x0_1 a1 a2 a3 a4 a5 = some (r, y0_0, y0_1)) (bk0_0 : wc_Nd cI cG cZ ad k0 (x0_0, x0_1, x0_2, x0_3, x0_4, x0_5) w0) : Met l y_Nd_put (.code y_Nd_put b_Nd_put 7 (some .int) :: hw_G) ({ frames := 6, cells := 0, slots := 0, locals := 148 } : Room) (va_Pc [.ref (ad k0), .int a1, .int a2, .int a3, .int a4, .int a5] (hw_U D cI cG cZ B w0)) (va_Qi (fun (r1 : Int32) (w1 : va_W) => r1 = r ∧ wc_Nd cI cG cZ ad k0 (y0_0, y0_1, x0_2, x0_3, x0_4, x0_5) w1 ∧ (∀ j : Nat, (j < k0 ∨ k0 + 63 ≤ j) → w1[j]? = w0[j]?)) (hw_B D B) (fun q : Nat => B ≤ q)) 0 0 (fun q : Nat => B ≤ q) := by
  refine Met.ofW (cc := b_Nd_put) (maxL := 7) (ret := (some .int)) (by decide) rfl ?_
  intro p e s m args below meth c s₁ Bd hml hv
  obtain ⟨rfl, hP, hD, hK, hN⟩ := hv
  have C0 : hw_C p s m meth c b_Nd_put 7 _ R_Nd (some .int) := ⟨Bd.exec, Bd.bytes, Bd.returns, hml, findClass_of_methodNamed Bd.named, fun w h => atoms_spec (ws := .code y_Nd_put b_Nd_put 7 (some .int) :: hw_G) Bd.pre w (List.mem_cons_of_mem _ h), Bd.notSynchronized⟩
  obtain ⟨hx, hb, hr, -, hown, hts, hlocks⟩ := id C0
  have hS : va_S (fun q : Nat => B ≤ q) s.heap s.heap [] := va_S.rf
  have fr : ∀ j : Nat, (j < k0 ∨ k0 + 63 ≤ j) → w0[j]? = w0[j]? := fun j _ => rfl
  have hl := lv_entry ([.ref (ad k0), .int a1, .int a2, .int a3, .int a4, .int a5]) (n := 7) (Nat.le_of_ble_eq_true rfl)
  rw [lg_entry_eq]
  generalize (lg_sl ([.ref (ad k0), .int a1, .int a2, .int a3, .int a4, .int a5]) ++ List.replicate (7 - (lg_sl ([.ref (ad k0), .int a1, .int a2, .int a3, .int a4, .int a5])).length) Slot.unset).toArray = ls at hl ⊢
  have hl : lv_has ls 7 [(0, .ref (ad k0)), (1, .int a1), (2, .int a2), (3, .int a3), (4, .int a4), (5, .int a5)] := hl
  unfold f_Nd_put at hf
  obtain ⟨mk0_0, bk0_1, bk0_35, bk0_55, bk0_58, mk0_61, mk0_62⟩ := id bk0_0
  have mk0_0 : w0[k0]? = some (ad k0, .inr (6, [.ref (ad (k0 + 1)), .ref (ad (k0 + 35)), .ref (ad (k0 + 55)), .ref (ad (k0 + 58)), .ref (ad (k0 + 61)), .ref (ad (k0 + 62))])) := mk0_0
  have bk0_1 : wc_Do cI cG cZ ad (k0 + 1) x0_0 w0 := bk0_1
  have bk0_35 : wc_Gr cI cG cZ ad (k0 + 35) x0_1 w0 := bk0_35
  have bk0_55 : wc_Rk cI cG cZ ad (k0 + 55) x0_2 w0 := bk0_55
  have bk0_58 : wc_Rk cI cG cZ ad (k0 + 58) x0_3 w0 := bk0_58
  have mk0_61 : w0[k0 + 61]? = some (ad (k0 + 61), .inl (cI, 4, .inl x0_4)) := mk0_61
  have mk0_62 : w0[k0 + 62]? = some (ad (k0 + 62), .inl (cI, 30, .inl x0_5)) := mk0_62
  refine lv_iload_n hx hb d_Nd_put_0 rfl (lv_at hl 1 rfl) ?_
  refine lv_iload_n hx hb d_Nd_put_1 rfl (lv_at hl 2 rfl) ?_
  refine lv_iload_n hx hb d_Nd_put_2 rfl (lv_at hl 3 rfl) ?_
  refine lv_iload hx hb d_Nd_put_3 (lv_at hl 4 rfl) ?_
  obtain ⟨p1, hp1, hf⟩ := g_bd hf
  refine hw_ci0 (va_runS (As := [.int a1, .int a2, .int a3, .int a4]) (rest := []) ⟨hx, hb, hml, hown, hts⟩ (c_Nd_isVector l D cI cG cZ ad B w0 N a1 a2 a3 a4 p1 hp1) (va_cwS 4 hts (hw_gS iw_179 gs_Nd_isVector) rfl rfl rfl (by decide +kernel) ⟨Nat.le_of_ble_eq_true rfl, Nat.le_of_ble_eq_true rfl⟩) ⟨hw_blind, hw_go hP hD hK hN⟩ rfl rfl hl.1 rfl (lv_room (Nat.le_of_ble_eq_true rfl)) d_Nd_put_5 ⟨Nat.zero_le _, Nat.zero_le _⟩) hS (fun H locs hP hD hS => ?_)
  refine lv_if_eq (tgt := 22) hx hb d_Nd_put_8 (by decide) (fun c2 => ?_) (fun c2 => ?_)
  · rw [if_pos c2] at hf
    refine lv_iconst (v := (-1)) hx hb d_Nd_put_22 (by decide) ?_
    have bk0_0 : wc_Nd cI cG cZ ad (k0) (x0_0, x0_1, x0_2, x0_3, x0_4, x0_5) w0 := ⟨mk0_0, bk0_1, bk0_35, bk0_55, bk0_58, mk0_61, mk0_62⟩
    have he := Option.some.inj hf
    obtain ⟨e0, he⟩ := Prod.mk.inj he
    obtain ⟨e1, e2⟩ := Prod.mk.inj he
    have f0 : wc_Nd cI cG cZ ad (k0) (y0_0, y0_1, x0_2, x0_3, x0_4, x0_5) w0 := by rw [← e1, ← e2]; exact bk0_0
    exact W.iret (v := (-1)) hx hb hr (fun t ht hW => ⟨⟨(-1), w0, rfl, ⟨e0, ⟨f0, fr⟩⟩, by rw [ht]; exact hP, hD⟩, hS.F ht⟩) hS.2.2 d_Nd_put_23
  · rw [if_neg c2] at hf
    refine lv_iload hx hb d_Nd_put_11 (lv_at hl 5 rfl) ?_
    refine lv_iconst (v := 0) hx hb d_Nd_put_13 (by decide) ?_
    refine lv_ldc (v := 16777215) hx hb hown (hts _ iw_188) d_Nd_put_14 ?_
    obtain ⟨p3, hp3, hf⟩ := g_bd hf
    refine hw_ci0 (va_runS (As := [.int a5, .int 0, .int 16777215]) (rest := []) ⟨hx, hb, hml, hown, hts⟩ (c_Nd_isWithin l D cI cG cZ ad B w0 N a5 0 16777215 p3 hp3) (va_cwS 3 hts (hw_gS iw_185 gs_Nd_isWithin) rfl rfl rfl (by decide +kernel) ⟨Nat.le_of_ble_eq_true rfl, Nat.le_of_ble_eq_true rfl⟩) ⟨hw_blind, hw_go hP hD hK hN⟩ rfl rfl hl.1 rfl (lv_room (Nat.le_of_ble_eq_true rfl)) d_Nd_put_16 ⟨Nat.zero_le _, Nat.zero_le _⟩) hS (fun H locs hP hD hS => ?_)
    refine lv_if_ne (tgt := 24) hx hb d_Nd_put_19 (by decide) (fun c4 => ?_) (fun c4 => ?_)
    · rw [if_neg c4] at hf
      refine lv_aload_n hx hb d_Nd_put_24 rfl (lv_at hl 0 rfl) ?_
      refine va_get (D := D) (ci := 6) (v := .ref (ad (k0 + 35))) (C := R_Nd) (T := F_Nd) (N := 6) hx hb hts i_Nd hown hK hP (k0) mk0_0 rfl 1 (by decide) (hts _ iw_157) (fun _ h9 => h9) rfl d_Nd_put_25 ?_
      obtain ⟨mk0_35, bk0_36, bk0_42, bk0_50, bk0_52⟩ := id bk0_35
      have mk0_35 : w0[k0 + 35]? = some (ad (k0 + 35), .inr (2, [.ref (ad (k0 + 36)), .ref (ad (k0 + 42)), .ref (ad (k0 + 50)), .ref (ad (k0 + 52)), .int x0_1.2.2.2.2.1, .int x0_1.2.2.2.2.2.1, .int x0_1.2.2.2.2.2.2])) := mk0_35
      have bk0_36 : wc_Li cI cG cZ ad (k0 + 36) x0_1.1 w0 := bk0_36
      have bk0_42 : wc_Wa cI cG cZ ad (k0 + 42) x0_1.2.1 w0 := bk0_42
      have bk0_50 : wc_Ch cI cG cZ ad (k0 + 50) x0_1.2.2.1 w0 := bk0_50
      have bk0_52 : wc_Rk cI cG cZ ad (k0 + 52) x0_1.2.2.2.1 w0 := bk0_52
      refine va_getN (D := D) (ci := 2) (v := .ref (ad (k0 + 36))) (C := R_Gr) (T := F_Gr) (N := 7) hx hb hts i_Gr hown hK hP (k0 + 35) mk0_35 rfl 0 (by decide) (va_Nw.use rfl (hN _ in_132)) (fun _ h9 => h9) rfl d_Nd_put_28 ?_
      obtain ⟨p5, hp5, hf⟩ := g_bd hf
      refine hw_ci0 (va_runV (As := []) (rest := []) ⟨hx, hb, hml, hown, hts⟩ (c_Li_freeNumber l D cI cG cZ ad B w0 N (k0 + 36) x0_1.1.1 x0_1.1.2.1 x0_1.1.2.2.1 x0_1.1.2.2.2.1 x0_1.1.2.2.2.2.1 x0_1.1.2.2.2.2.2 p5 hp5 bk0_36) (cwV 0 hts (hw_gV iw_189 gy_Li_freeNumber) rfl rfl rfl (by decide +kernel) ⟨Nat.le_of_ble_eq_true rfl, Nat.le_of_ble_eq_true rfl⟩) ⟨hw_blind, va_recv hK hP (ci := 3) (q0 := k0 + 36) rfl bk0_36.1, hw_go hP hD hK hN⟩ rfl rfl hl.1 rfl (lv_room (Nat.le_of_ble_eq_true rfl)) d_Nd_put_31 ⟨Nat.zero_le _, Nat.zero_le _⟩) hS (fun H locs hP hD hS => ?_)
      refine lv_istore (lv' := [(6, .int p5), (0, .ref (ad k0)), (1, .int a1), (2, .int a2), (3, .int a3), (4, .int a4), (5, .int a5)]) hx hb d_Nd_put_34 hl (by decide) rfl (fun ls hl => ?_)
      refine lv_iload hx hb d_Nd_put_36 (lv_at hl 0 rfl) ?_
      refine lv_bipush (v := (-2)) hx hb d_Nd_put_38 (by decide) ?_
      refine lv_icmp_ne (tgt := 46) hx hb d_Nd_put_40 (by decide) (fun c6 => ?_) (fun c6 => ?_)
      · rw [if_neg c6] at hf
        refine lv_aload_n hx hb d_Nd_put_46 rfl (lv_at hl 1 rfl) ?_
        refine va_get (D := D) (ci := 6) (v := .ref (ad (k0 + 1))) (C := R_Nd) (T := F_Nd) (N := 6) hx hb hts i_Nd hown hK hP (k0) mk0_0 rfl 0 (by decide) (hts _ iw_156) (fun _ h9 => h9) rfl d_Nd_put_47 ?_
        refine lv_iload hx hb d_Nd_put_50 (lv_at hl 0 rfl) ?_
        refine lv_iload_n hx hb d_Nd_put_52 rfl (lv_at hl 2 rfl) ?_
        refine lv_iload_n hx hb d_Nd_put_53 rfl (lv_at hl 3 rfl) ?_
        refine lv_iload_n hx hb d_Nd_put_54 rfl (lv_at hl 4 rfl) ?_
        refine lv_iload hx hb d_Nd_put_55 (lv_at hl 5 rfl) ?_
        refine lv_iload hx hb d_Nd_put_57 (lv_at hl 6 rfl) ?_
        obtain ⟨p7, hp7, hf⟩ := g_bd hf
        refine hw_cv (va_runV (As := [.int p5, .int a1, .int a2, .int a3, .int a4, .int a5]) (rest := []) ⟨hx, hb, hml, hown, hts⟩ (c_Do_store l D cI cG cZ ad B w0 N (k0 + 1) x0_0.1 x0_0.2.1 x0_0.2.2.1 x0_0.2.2.2 p5 a1 a2 a3 a4 a5 p7.1 p7.2.1 p7.2.2 hp7 bk0_1) (cwV 6 hts (hw_gV iw_193 gy_Do_store) rfl rfl rfl (by decide +kernel) ⟨Nat.le_of_ble_eq_true rfl, Nat.le_of_ble_eq_true rfl⟩) ⟨hw_blind, va_recv hK hP (ci := 1) (q0 := k0 + 1) rfl bk0_1.1, hw_go hP hD hK hN⟩ rfl rfl hl.1 rfl (lv_room (Nat.le_of_ble_eq_true rfl)) d_Nd_put_59 ⟨Nat.zero_le _, Nat.zero_le _⟩) hS (fun w8 H locs hP hD hS hpp => ?_)
        obtain ⟨q0, frc⟩ := hpp
        have bk0_1 : wc_Do cI cG cZ ad (k0 + 1) (p7.1, p7.2.1, x0_0.2.2.1, p7.2.2) w8 := q0
        have mk0_0 : w8[k0]? = some (ad k0, .inr (6, [.ref (ad (k0 + 1)), .ref (ad (k0 + 35)), .ref (ad (k0 + 55)), .ref (ad (k0 + 58)), .ref (ad (k0 + 61)), .ref (ad (k0 + 62))])) := (frc _ (by omega)).trans mk0_0
        have bk0_55 : wc_Rk cI cG cZ ad (k0 + 55) x0_2 w8 := bk0_55.fr (fun j h1 h2 => frc j (by omega))
        have bk0_58 : wc_Rk cI cG cZ ad (k0 + 58) x0_3 w8 := bk0_58.fr (fun j h1 h2 => frc j (by omega))
        have mk0_61 : w8[k0 + 61]? = some (ad (k0 + 61), .inl (cI, 4, .inl x0_4)) := (frc _ (by omega)).trans mk0_61
        have mk0_62 : w8[k0 + 62]? = some (ad (k0 + 62), .inl (cI, 30, .inl x0_5)) := (frc _ (by omega)).trans mk0_62
        have mk0_35 : w8[k0 + 35]? = some (ad (k0 + 35), .inr (2, [.ref (ad (k0 + 36)), .ref (ad (k0 + 42)), .ref (ad (k0 + 50)), .ref (ad (k0 + 52)), .int x0_1.2.2.2.2.1, .int x0_1.2.2.2.2.2.1, .int x0_1.2.2.2.2.2.2])) := (frc _ (by omega)).trans mk0_35
        have bk0_36 : wc_Li cI cG cZ ad (k0 + 36) x0_1.1 w8 := bk0_36.fr (fun j h1 h2 => frc j (by omega))
        have bk0_42 : wc_Wa cI cG cZ ad (k0 + 42) x0_1.2.1 w8 := bk0_42.fr (fun j h1 h2 => frc j (by omega))
        have bk0_50 : wc_Ch cI cG cZ ad (k0 + 50) x0_1.2.2.1 w8 := bk0_50.fr (fun j h1 h2 => frc j (by omega))
        have bk0_52 : wc_Rk cI cG cZ ad (k0 + 52) x0_1.2.2.2.1 w8 := bk0_52.fr (fun j h1 h2 => frc j (by omega))
        have fr : ∀ j : Nat, (j < k0 ∨ k0 + 63 ≤ j) → w8[j]? = w0[j]? := fun j o0 => (frc j (by omega)).trans (fr j o0)
        refine lv_aload_n hx hb d_Nd_put_62 rfl (lv_at hl 1 rfl) ?_
        refine va_get (D := D) (ci := 6) (v := .ref (ad (k0 + 35))) (C := R_Nd) (T := F_Nd) (N := 6) hx hb hts i_Nd hown hK hP (k0) mk0_0 rfl 1 (by decide) (hts _ iw_157) (fun _ h9 => h9) rfl d_Nd_put_63 ?_
        refine lv_aload_n hx hb d_Nd_put_66 rfl (lv_at hl 1 rfl) ?_
        refine va_get (D := D) (ci := 6) (v := .ref (ad (k0 + 1))) (C := R_Nd) (T := F_Nd) (N := 6) hx hb hts i_Nd hown hK hP (k0) mk0_0 rfl 0 (by decide) (hts _ iw_156) (fun _ h9 => h9) rfl d_Nd_put_67 ?_
        refine lv_iload hx hb d_Nd_put_70 (lv_at hl 0 rfl) ?_
        have bk0_35 : wc_Gr cI cG cZ ad (k0 + 35) x0_1 w8 := ⟨mk0_35, bk0_36, bk0_42, bk0_50, bk0_52⟩
        obtain ⟨p9, hp9, hf⟩ := g_bd hf
        refine hw_cv (va_runV (As := [.ref (ad (k0 + 1)), .int p5]) (rest := []) ⟨hx, hb, hml, hown, hts⟩ (c_Gr_enter l D cI cG cZ ad B w8 N (k0 + 35) x0_1.1 x0_1.2.1 x0_1.2.2.1 x0_1.2.2.2.1 x0_1.2.2.2.2.1 x0_1.2.2.2.2.2.1 x0_1.2.2.2.2.2.2 (k0 + 1) p7.1 p7.2.1 x0_0.2.2.1 p7.2.2 p5 p9.1 p9.2.1 p9.2.2.1 p9.2.2.2.1 p9.2.2.2.2.1 p9.2.2.2.2.2 hp9 bk0_35 bk0_1 (by omega)) (cwV 2 hts (hw_gV iw_200 gy_Gr_enter) rfl rfl rfl (by decide +kernel) ⟨Nat.le_of_ble_eq_true rfl, Nat.le_of_ble_eq_true rfl⟩) ⟨hw_blind, va_recv hK hP (ci := 2) (q0 := k0 + 35) rfl bk0_35.1, hw_go hP hD hK hN⟩ rfl rfl hl.1 rfl (lv_room (Nat.le_of_ble_eq_true rfl)) d_Nd_put_72 ⟨Nat.zero_le _, Nat.zero_le _⟩) hS (fun w10 H locs hP hD hS hpp => ?_)
        obtain ⟨q0, frc⟩ := hpp
        have bk0_35 : wc_Gr cI cG cZ ad (k0 + 35) (p9.1, p9.2.1, p9.2.2.1, p9.2.2.2.1, p9.2.2.2.2.1, x0_1.2.2.2.2.2.1, p9.2.2.2.2.2) w10 := q0
        have mk0_0 : w10[k0]? = some (ad k0, .inr (6, [.ref (ad (k0 + 1)), .ref (ad (k0 + 35)), .ref (ad (k0 + 55)), .ref (ad (k0 + 58)), .ref (ad (k0 + 61)), .ref (ad (k0 + 62))])) := (frc _ (by omega)).trans mk0_0
        have bk0_1 : wc_Do cI cG cZ ad (k0 + 1) (p7.1, p7.2.1, x0_0.2.2.1, p7.2.2) w10 := bk0_1.fr (fun j h1 h2 => frc j (by omega))
        have bk0_55 : wc_Rk cI cG cZ ad (k0 + 55) x0_2 w10 := bk0_55.fr (fun j h1 h2 => frc j (by omega))
        have bk0_58 : wc_Rk cI cG cZ ad (k0 + 58) x0_3 w10 := bk0_58.fr (fun j h1 h2 => frc j (by omega))
        have mk0_61 : w10[k0 + 61]? = some (ad (k0 + 61), .inl (cI, 4, .inl x0_4)) := (frc _ (by omega)).trans mk0_61
        have mk0_62 : w10[k0 + 62]? = some (ad (k0 + 62), .inl (cI, 30, .inl x0_5)) := (frc _ (by omega)).trans mk0_62
        have fr : ∀ j : Nat, (j < k0 ∨ k0 + 63 ≤ j) → w10[j]? = w0[j]? := fun j o0 => (frc j (by omega)).trans (fr j o0)
        refine lv_iload hx hb d_Nd_put_75 (lv_at hl 0 rfl) ?_
        have bk0_0 : wc_Nd cI cG cZ ad (k0) ((p7.1, p7.2.1, x0_0.2.2.1, p7.2.2), (p9.1, p9.2.1, p9.2.2.1, p9.2.2.2.1, p9.2.2.2.2.1, x0_1.2.2.2.2.2.1, p9.2.2.2.2.2), x0_2, x0_3, x0_4, x0_5) w10 := ⟨mk0_0, bk0_1, bk0_35, bk0_55, bk0_58, mk0_61, mk0_62⟩
        have he := Option.some.inj hf
        obtain ⟨e0, he⟩ := Prod.mk.inj he
        obtain ⟨e1, e2⟩ := Prod.mk.inj he
        have f0 : wc_Nd cI cG cZ ad (k0) (y0_0, y0_1, x0_2, x0_3, x0_4, x0_5) w10 := by rw [← e1, ← e2]; exact bk0_0
        exact W.iret (v := p5) hx hb hr (fun t ht hW => ⟨⟨p5, w10, rfl, ⟨e0, ⟨f0, fr⟩⟩, by rw [ht]; exact hP, hD⟩, hS.F ht⟩) hS.2.2 d_Nd_put_77
      · rw [if_pos c6] at hf
        refine lv_bipush (v := (-3)) hx hb d_Nd_put_43 (by decide) ?_
        have bk0_35 : wc_Gr cI cG cZ ad (k0 + 35) x0_1 w0 := ⟨mk0_35, bk0_36, bk0_42, bk0_50, bk0_52⟩
        have bk0_0 : wc_Nd cI cG cZ ad (k0) (x0_0, x0_1, x0_2, x0_3, x0_4, x0_5) w0 := ⟨mk0_0, bk0_1, bk0_35, bk0_55, bk0_58, mk0_61, mk0_62⟩
        have he := Option.some.inj hf
        obtain ⟨e0, he⟩ := Prod.mk.inj he
        obtain ⟨e1, e2⟩ := Prod.mk.inj he
        have f0 : wc_Nd cI cG cZ ad (k0) (y0_0, y0_1, x0_2, x0_3, x0_4, x0_5) w0 := by rw [← e1, ← e2]; exact bk0_0
        exact W.iret (v := (-3)) hx hb hr (fun t ht hW => ⟨⟨(-3), w0, rfl, ⟨e0, ⟨f0, fr⟩⟩, by rw [ht]; exact hP, hD⟩, hS.F ht⟩) hS.2.2 d_Nd_put_45
    · rw [if_pos c4] at hf
      refine lv_iconst (v := (-1)) hx hb d_Nd_put_22 (by decide) ?_
      have bk0_0 : wc_Nd cI cG cZ ad (k0) (x0_0, x0_1, x0_2, x0_3, x0_4, x0_5) w0 := ⟨mk0_0, bk0_1, bk0_35, bk0_55, bk0_58, mk0_61, mk0_62⟩
      have he := Option.some.inj hf
      obtain ⟨e0, he⟩ := Prod.mk.inj he
      obtain ⟨e1, e2⟩ := Prod.mk.inj he
      have f0 : wc_Nd cI cG cZ ad (k0) (y0_0, y0_1, x0_2, x0_3, x0_4, x0_5) w0 := by rw [← e1, ← e2]; exact bk0_0
      exact W.iret (v := (-1)) hx hb hr (fun t ht hW => ⟨⟨(-1), w0, rfl, ⟨e0, ⟨f0, fr⟩⟩, by rw [ht]; exact hP, hD⟩, hS.F ht⟩) hS.2.2 d_Nd_put_23
set_option maxHeartbeats 4000000 in
set_option maxRecDepth 100000 in
theorem c_Nd_remove (l : Launch) (D : va_G) (cI cG cZ : ClassId) (ad : Nat → Nat) (B : Nat) (w0 : va_W) (N : Nat) (k0 : Nat) (x0_0 : T_Do) (x0_1 : T_Gr) (x0_2 : T_Rk) (x0_3 : T_Rk) (x0_4 : (Nat → Int32)) (x0_5 : (Nat → Int32)) (a1 : Int32) (r : Int32) (y0_0 : T_Do) (hf : f_Nd_remove N x0_0 a1 = some (r, y0_0)) (bk0_0 : wc_Nd cI cG cZ ad k0 (x0_0, x0_1, x0_2, x0_3, x0_4, x0_5) w0) : Met l y_Nd_remove (.code y_Nd_remove b_Nd_remove 2 (some .boolean) :: hw_G) ({ frames := 4, cells := 0, slots := 0, locals := 84 } : Room) (va_Pc [.ref (ad k0), .int a1] (hw_U D cI cG cZ B w0)) (va_Qi (fun (r1 : Int32) (w1 : va_W) => r1 = r ∧ wc_Nd cI cG cZ ad k0 (y0_0, x0_1, x0_2, x0_3, x0_4, x0_5) w1 ∧ (∀ j : Nat, (j < k0 ∨ k0 + 63 ≤ j) → w1[j]? = w0[j]?)) (hw_B D B) (fun q : Nat => B ≤ q)) 0 0 (fun q : Nat => B ≤ q) := by
  refine Met.ofW (cc := b_Nd_remove) (maxL := 2) (ret := (some .boolean)) (by decide) rfl ?_
  intro p e s m args below meth c s₁ Bd hml hv
  obtain ⟨rfl, hP, hD, hK, hN⟩ := hv
  have C0 : hw_C p s m meth c b_Nd_remove 2 _ R_Nd (some .boolean) := ⟨Bd.exec, Bd.bytes, Bd.returns, hml, findClass_of_methodNamed Bd.named, fun w h => atoms_spec (ws := .code y_Nd_remove b_Nd_remove 2 (some .boolean) :: hw_G) Bd.pre w (List.mem_cons_of_mem _ h), Bd.notSynchronized⟩
  obtain ⟨hx, hb, hr, -, hown, hts, hlocks⟩ := id C0
  have hS : va_S (fun q : Nat => B ≤ q) s.heap s.heap [] := va_S.rf
  have fr : ∀ j : Nat, (j < k0 ∨ k0 + 63 ≤ j) → w0[j]? = w0[j]? := fun j _ => rfl
  have hl := lv_entry ([.ref (ad k0), .int a1]) (n := 2) (Nat.le_of_ble_eq_true rfl)
  rw [lg_entry_eq]
  generalize (lg_sl ([.ref (ad k0), .int a1]) ++ List.replicate (2 - (lg_sl ([.ref (ad k0), .int a1])).length) Slot.unset).toArray = ls at hl ⊢
  have hl : lv_has ls 2 [(0, .ref (ad k0)), (1, .int a1)] := hl
  unfold f_Nd_remove at hf
  obtain ⟨mk0_0, bk0_1, bk0_35, bk0_55, bk0_58, mk0_61, mk0_62⟩ := id bk0_0
  have mk0_0 : w0[k0]? = some (ad k0, .inr (6, [.ref (ad (k0 + 1)), .ref (ad (k0 + 35)), .ref (ad (k0 + 55)), .ref (ad (k0 + 58)), .ref (ad (k0 + 61)), .ref (ad (k0 + 62))])) := mk0_0
  have bk0_1 : wc_Do cI cG cZ ad (k0 + 1) x0_0 w0 := bk0_1
  have bk0_35 : wc_Gr cI cG cZ ad (k0 + 35) x0_1 w0 := bk0_35
  have bk0_55 : wc_Rk cI cG cZ ad (k0 + 55) x0_2 w0 := bk0_55
  have bk0_58 : wc_Rk cI cG cZ ad (k0 + 58) x0_3 w0 := bk0_58
  have mk0_61 : w0[k0 + 61]? = some (ad (k0 + 61), .inl (cI, 4, .inl x0_4)) := mk0_61
  have mk0_62 : w0[k0 + 62]? = some (ad (k0 + 62), .inl (cI, 30, .inl x0_5)) := mk0_62
  refine lv_aload_n hx hb d_Nd_remove_0 rfl (lv_at hl 0 rfl) ?_
  refine va_get (D := D) (ci := 6) (v := .ref (ad (k0 + 1))) (C := R_Nd) (T := F_Nd) (N := 6) hx hb hts i_Nd hown hK hP (k0) mk0_0 rfl 0 (by decide) (hts _ iw_156) (fun _ h9 => h9) rfl d_Nd_remove_1 ?_
  refine lv_iload_n hx hb d_Nd_remove_4 rfl (lv_at hl 1 rfl) ?_
  obtain ⟨p1, hp1, hf⟩ := g_bd hf
  refine hw_ci (va_runV (As := [.int a1]) (rest := []) ⟨hx, hb, hml, hown, hts⟩ (c_Do_retire l D cI cG cZ ad B w0 N (k0 + 1) x0_0.1 x0_0.2.1 x0_0.2.2.1 x0_0.2.2.2 a1 p1.1 p1.2 hp1 bk0_1) (cwV 1 hts (hw_gV iw_370 gy_Do_retire) rfl rfl rfl (by decide +kernel) ⟨Nat.le_of_ble_eq_true rfl, Nat.le_of_ble_eq_true rfl⟩) ⟨hw_blind, va_recv hK hP (ci := 1) (q0 := k0 + 1) rfl bk0_1.1, hw_go hP hD hK hN⟩ rfl rfl hl.1 rfl (lv_room (Nat.le_of_ble_eq_true rfl)) d_Nd_remove_5 ⟨Nat.zero_le _, Nat.zero_le _⟩) hS (fun w2 H locs hP hD hS hpp => ?_)
  obtain ⟨q0, frc⟩ := hpp
  have bk0_1 : wc_Do cI cG cZ ad (k0 + 1) (x0_0.1, x0_0.2.1, x0_0.2.2.1, p1.2) w2 := q0
  have mk0_0 : w2[k0]? = some (ad k0, .inr (6, [.ref (ad (k0 + 1)), .ref (ad (k0 + 35)), .ref (ad (k0 + 55)), .ref (ad (k0 + 58)), .ref (ad (k0 + 61)), .ref (ad (k0 + 62))])) := (frc _ (by omega)).trans mk0_0
  have bk0_35 : wc_Gr cI cG cZ ad (k0 + 35) x0_1 w2 := bk0_35.fr (fun j h1 h2 => frc j (by omega))
  have bk0_55 : wc_Rk cI cG cZ ad (k0 + 55) x0_2 w2 := bk0_55.fr (fun j h1 h2 => frc j (by omega))
  have bk0_58 : wc_Rk cI cG cZ ad (k0 + 58) x0_3 w2 := bk0_58.fr (fun j h1 h2 => frc j (by omega))
  have mk0_61 : w2[k0 + 61]? = some (ad (k0 + 61), .inl (cI, 4, .inl x0_4)) := (frc _ (by omega)).trans mk0_61
  have mk0_62 : w2[k0 + 62]? = some (ad (k0 + 62), .inl (cI, 30, .inl x0_5)) := (frc _ (by omega)).trans mk0_62
  have fr : ∀ j : Nat, (j < k0 ∨ k0 + 63 ≤ j) → w2[j]? = w0[j]? := fun j o0 => (frc j (by omega)).trans (fr j o0)
  obtain ⟨z3, hf⟩ := g_blE hf
  have bk0_0 : wc_Nd cI cG cZ ad (k0) ((x0_0.1, x0_0.2.1, x0_0.2.2.1, p1.2), x0_1, x0_2, x0_3, x0_4, x0_5) w2 := ⟨mk0_0, bk0_1, bk0_35, bk0_55, bk0_58, mk0_61, mk0_62⟩
  have he := Option.some.inj hf
  obtain ⟨e0, e1⟩ := Prod.mk.inj he
  have f0 : wc_Nd cI cG cZ ad (k0) (y0_0, x0_1, x0_2, x0_3, x0_4, x0_5) w2 := by rw [← e1]; exact bk0_0
  exact W.zret (v := p1.1) hx hb hr (g_zn z3) (fun t ht hW => ⟨⟨p1.1, w2, rfl, ⟨e0, ⟨f0, fr⟩⟩, by rw [ht]; exact hP, hD⟩, hS.F ht⟩) hS.2.2 d_Nd_remove_8
set_option maxHeartbeats 4000000 in
set_option maxRecDepth 100000 in
theorem wl_Nd_renew_28 {p : Program} {l : Launch} {e : Env} {s : State} {m : MethodId} {args : Array Value} {below : List Frame} {meth : Method} {c : Code} {D : va_G} {cI cG cZ : ClassId} {ad : Nat → Nat} {B : Nat} {w0 : va_W} {N : Nat} {k0 : Nat} (C0 : hw_C p s m meth c b_Nd_renew 3 args R_Nd (some .int)) (hK : va_K D classes [(cI, .int), (cG, .array .int), (cZ, .boolean)] s) (hN : hw_N s) (x0_0 : T_Do) (x0_2 : T_Rk) (x0_3 : T_Rk) (x0_4 : (Nat → Int32)) (x0_5 : (Nat → Int32)) (p1 : Int32) (p2 : Int32) (x0_1 : T_Gr) (r : Int32) (y0_1 : T_Gr) : ∀ (n : Nat) (vbk0_35 : T_Gr) (v2 : Int32) (ws : va_W) (H : Heap) (locs : List Loc) (ls : Array Slot), va_P D classes ws H → va_D (fun q : Nat => B ≤ q) ws → va_S (fun q : Nat => B ≤ q) s.heap H locs → lv_has ls 3 [(2, .int v2), (1, .int (p1 - p2)), (0, .ref (ad k0))] → ws[k0]? = some (ad k0, .inr (6, [.ref (ad (k0 + 1)), .ref (ad (k0 + 35)), .ref (ad (k0 + 55)), .ref (ad (k0 + 58)), .ref (ad (k0 + 61)), .ref (ad (k0 + 62))])) → wc_Do cI cG cZ ad (k0 + 1) x0_0 ws → wc_Gr cI cG cZ ad (k0 + 35) vbk0_35 ws → wc_Rk cI cG cZ ad (k0 + 55) x0_2 ws → wc_Rk cI cG cZ ad (k0 + 58) x0_3 ws → ws[k0 + 61]? = some (ad (k0 + 61), .inl (cI, 4, .inl x0_4)) → ws[k0 + 62]? = some (ad (k0 + 62), .inl (cI, 30, .inl x0_5)) → (∀ j : Nat, (j < k0 ∨ k0 + 63 ≤ j) → ws[j]? = w0[j]?) → f_Nd_renew_28 N x0_0 p1 p2 n vbk0_35 v2 = some (r, y0_1) → W p l e ({ frames := 6, cells := 0, slots := 0, locals := 148 } : Room) s m args below meth c H locs 0 0 (MQ below (va_Qi (fun (r1 : Int32) (w1 : va_W) => r1 = r ∧ wc_Nd cI cG cZ ad k0 (x0_0, y0_1, x0_2, x0_3, x0_4, x0_5) w1 ∧ (∀ j : Nat, (j < k0 ∨ k0 + 63 ≤ j) → w1[j]? = w0[j]?)) (hw_B D B) (fun q : Nat => B ≤ q)) args s 0 0 (fun q : Nat => B ≤ q)) (F0 m 28 ls []) := by
  obtain ⟨hx, hb, hr, hml, hown, hts, hlocks⟩ := id C0
  intro n
  induction n with
  | zero =>
    intro vbk0_35 v2 ws H locs ls hP hD hS hl mk0_0 bk0_1 bk0_35 bk0_55 bk0_58 mk0_61 mk0_62 fr hf
    exact nomatch (show none = some _ from hf)
  | succ n ih =>
    intro vbk0_35 v2 ws H locs ls hP hD hS hl mk0_0 bk0_1 bk0_35 bk0_55 bk0_58 mk0_61 mk0_62 fr hf
    rw [f_Nd_renew_28] at hf
    refine lv_iload_n hx hb d_Nd_renew_28 rfl (lv_at hl 0 rfl) ?_
    refine lv_bipush (v := 30) hx hb d_Nd_renew_29 (by decide) ?_
    refine lv_icmp_ge (tgt := 63) hx hb d_Nd_renew_31 (by decide) (fun c5 => ?_) (fun c5 => ?_)
    · rw [if_pos c5] at hf
      refine lv_iload_n hx hb d_Nd_renew_63 rfl (lv_at hl 1 rfl) ?_
      have bk0_0 : wc_Nd cI cG cZ ad (k0) (x0_0, vbk0_35, x0_2, x0_3, x0_4, x0_5) ws := ⟨mk0_0, bk0_1, bk0_35, bk0_55, bk0_58, mk0_61, mk0_62⟩
      have he := Option.some.inj hf
      obtain ⟨e0, e1⟩ := Prod.mk.inj he
      have f0 : wc_Nd cI cG cZ ad (k0) (x0_0, y0_1, x0_2, x0_3, x0_4, x0_5) ws := by rw [← e1]; exact bk0_0
      exact W.iret (v := p1 - p2) hx hb hr (fun t ht hW => ⟨⟨p1 - p2, ws, rfl, ⟨e0, ⟨f0, fr⟩⟩, by rw [ht]; exact hP, hD⟩, hS.F ht⟩) hS.2.2 d_Nd_renew_64
    · rw [if_neg c5] at hf
      refine lv_aload_n hx hb d_Nd_renew_34 rfl (lv_at hl 2 rfl) ?_
      refine va_get (D := D) (ci := 6) (v := .ref (ad (k0 + 1))) (C := R_Nd) (T := F_Nd) (N := 6) hx hb hts i_Nd hown hK hP (k0) mk0_0 rfl 0 (by decide) (hts _ iw_156) (fun _ h9 => h9) rfl d_Nd_renew_35 ?_
      refine lv_iload_n hx hb d_Nd_renew_38 rfl (lv_at hl 0 rfl) ?_
      obtain ⟨p6, hp6, hf⟩ := g_bd hf
      refine hw_ci0 (va_runV (As := [.int v2]) (rest := []) ⟨hx, hb, hml, hown, hts⟩ (c_Do_isLive l D cI cG cZ ad B ws N (k0 + 1) x0_0.1 x0_0.2.1 x0_0.2.2.1 x0_0.2.2.2 v2 p6 hp6 bk0_1) (cwV 1 hts (hw_gV iw_403 gy_Do_isLive) rfl rfl rfl (by decide +kernel) ⟨Nat.le_of_ble_eq_true rfl, Nat.le_of_ble_eq_true rfl⟩) ⟨hw_blind, va_recv hK hP (ci := 1) (q0 := k0 + 1) rfl bk0_1.1, hw_go hP hD hK hN⟩ rfl rfl hl.1 rfl (lv_room (Nat.le_of_ble_eq_true rfl)) d_Nd_renew_39 ⟨Nat.zero_le _, Nat.zero_le _⟩) hS (fun H locs hP hD hS => ?_)
      refine lv_if_eq (tgt := 57) hx hb d_Nd_renew_42 (by decide) (fun c7 => ?_) (fun c7 => ?_)
      · rw [if_pos c7] at hf
        refine lv_iinc (v := v2 + 1) (lv' := [(2, .int (v2 + 1)), (1, .int (p1 - p2)), (0, .ref (ad k0))]) hx hb d_Nd_renew_57 hl (k := 0) rfl rfl (by decide) rfl (fun ls hl => ?_)
        refine lv_goto (tgt := 28) hx hb d_Nd_renew_60 (by decide) ?_
        exact ih vbk0_35 (v2 + 1) _ _ _ _ hP hD hS (lv_sub hl [0, 1, 2] rfl) mk0_0 bk0_1 bk0_35 bk0_55 bk0_58 mk0_61 mk0_62 fr hf
      · rw [if_neg c7] at hf
        refine lv_aload_n hx hb d_Nd_renew_45 rfl (lv_at hl 2 rfl) ?_
        refine va_get (D := D) (ci := 6) (v := .ref (ad (k0 + 35))) (C := R_Nd) (T := F_Nd) (N := 6) hx hb hts i_Nd hown hK hP (k0) mk0_0 rfl 1 (by decide) (hts _ iw_157) (fun _ h9 => h9) rfl d_Nd_renew_46 ?_
        refine lv_aload_n hx hb d_Nd_renew_49 rfl (lv_at hl 2 rfl) ?_
        refine va_get (D := D) (ci := 6) (v := .ref (ad (k0 + 1))) (C := R_Nd) (T := F_Nd) (N := 6) hx hb hts i_Nd hown hK hP (k0) mk0_0 rfl 0 (by decide) (hts _ iw_156) (fun _ h9 => h9) rfl d_Nd_renew_50 ?_
        refine lv_iload_n hx hb d_Nd_renew_53 rfl (lv_at hl 0 rfl) ?_
        obtain ⟨p8, hp8, hf⟩ := g_bd hf
        refine hw_cv (va_runV (As := [.ref (ad (k0 + 1)), .int v2]) (rest := []) ⟨hx, hb, hml, hown, hts⟩ (c_Gr_enter l D cI cG cZ ad B ws N (k0 + 35) vbk0_35.1 vbk0_35.2.1 vbk0_35.2.2.1 vbk0_35.2.2.2.1 vbk0_35.2.2.2.2.1 vbk0_35.2.2.2.2.2.1 vbk0_35.2.2.2.2.2.2 (k0 + 1) x0_0.1 x0_0.2.1 x0_0.2.2.1 x0_0.2.2.2 v2 p8.1 p8.2.1 p8.2.2.1 p8.2.2.2.1 p8.2.2.2.2.1 p8.2.2.2.2.2 hp8 bk0_35 bk0_1 (by omega)) (cwV 2 hts (hw_gV iw_200 gy_Gr_enter) rfl rfl rfl (by decide +kernel) ⟨Nat.le_of_ble_eq_true rfl, Nat.le_of_ble_eq_true rfl⟩) ⟨hw_blind, va_recv hK hP (ci := 2) (q0 := k0 + 35) rfl bk0_35.1, hw_go hP hD hK hN⟩ rfl rfl hl.1 rfl (lv_room (Nat.le_of_ble_eq_true rfl)) d_Nd_renew_54 ⟨Nat.zero_le _, Nat.zero_le _⟩) hS (fun w9 H locs hP hD hS hpp => ?_)
        obtain ⟨q0, frc⟩ := hpp
        have bk0_35 : wc_Gr cI cG cZ ad (k0 + 35) (p8.1, p8.2.1, p8.2.2.1, p8.2.2.2.1, p8.2.2.2.2.1, vbk0_35.2.2.2.2.2.1, p8.2.2.2.2.2) w9 := q0
        have mk0_0 : w9[k0]? = some (ad k0, .inr (6, [.ref (ad (k0 + 1)), .ref (ad (k0 + 35)), .ref (ad (k0 + 55)), .ref (ad (k0 + 58)), .ref (ad (k0 + 61)), .ref (ad (k0 + 62))])) := (frc _ (by omega)).trans mk0_0
        have bk0_1 : wc_Do cI cG cZ ad (k0 + 1) x0_0 w9 := bk0_1.fr (fun j h1 h2 => frc j (by omega))
        have bk0_55 : wc_Rk cI cG cZ ad (k0 + 55) x0_2 w9 := bk0_55.fr (fun j h1 h2 => frc j (by omega))
        have bk0_58 : wc_Rk cI cG cZ ad (k0 + 58) x0_3 w9 := bk0_58.fr (fun j h1 h2 => frc j (by omega))
        have mk0_61 : w9[k0 + 61]? = some (ad (k0 + 61), .inl (cI, 4, .inl x0_4)) := (frc _ (by omega)).trans mk0_61
        have mk0_62 : w9[k0 + 62]? = some (ad (k0 + 62), .inl (cI, 30, .inl x0_5)) := (frc _ (by omega)).trans mk0_62
        have fr : ∀ j : Nat, (j < k0 ∨ k0 + 63 ≤ j) → w9[j]? = w0[j]? := fun j o0 => (frc j (by omega)).trans (fr j o0)
        refine lv_iinc (v := v2 + 1) (lv' := [(2, .int (v2 + 1)), (1, .int (p1 - p2)), (0, .ref (ad k0))]) hx hb d_Nd_renew_57 hl (k := 0) rfl rfl (by decide) rfl (fun ls hl => ?_)
        refine lv_goto (tgt := 28) hx hb d_Nd_renew_60 (by decide) ?_
        exact ih (p8.1, p8.2.1, p8.2.2.1, p8.2.2.2.1, p8.2.2.2.2.1, vbk0_35.2.2.2.2.2.1, p8.2.2.2.2.2) (v2 + 1) _ _ _ _ hP hD hS (lv_sub hl [0, 1, 2] rfl) mk0_0 bk0_1 bk0_35 bk0_55 bk0_58 mk0_61 mk0_62 fr hf
set_option maxHeartbeats 4000000 in
set_option maxRecDepth 100000 in
theorem c_Nd_renew (l : Launch) (D : va_G) (cI cG cZ : ClassId) (ad : Nat → Nat) (B : Nat) (w0 : va_W) (N : Nat) (k0 : Nat) (x0_0 : T_Do) (x0_1 : T_Gr) (x0_2 : T_Rk) (x0_3 : T_Rk) (x0_4 : (Nat → Int32)) (x0_5 : (Nat → Int32)) (r : Int32) (y0_1 : T_Gr) (hf : f_Nd_renew N x0_0 x0_1 = some (r, y0_1)) (bk0_0 : wc_Nd cI cG cZ ad k0 (x0_0, x0_1, x0_2, x0_3, x0_4, x0_5) w0) : Met l y_Nd_renew (.code y_Nd_renew b_Nd_renew 3 (some .int) :: hw_G) ({ frames := 6, cells := 0, slots := 0, locals := 148 } : Room) (va_Pc [.ref (ad k0)] (hw_U D cI cG cZ B w0)) (va_Qi (fun (r1 : Int32) (w1 : va_W) => r1 = r ∧ wc_Nd cI cG cZ ad k0 (x0_0, y0_1, x0_2, x0_3, x0_4, x0_5) w1 ∧ (∀ j : Nat, (j < k0 ∨ k0 + 63 ≤ j) → w1[j]? = w0[j]?)) (hw_B D B) (fun q : Nat => B ≤ q)) 0 0 (fun q : Nat => B ≤ q) := by
  refine Met.ofW (cc := b_Nd_renew) (maxL := 3) (ret := (some .int)) (by decide) rfl ?_
  intro p e s m args below meth c s₁ Bd hml hv
  obtain ⟨rfl, hP, hD, hK, hN⟩ := hv
  have C0 : hw_C p s m meth c b_Nd_renew 3 _ R_Nd (some .int) := ⟨Bd.exec, Bd.bytes, Bd.returns, hml, findClass_of_methodNamed Bd.named, fun w h => atoms_spec (ws := .code y_Nd_renew b_Nd_renew 3 (some .int) :: hw_G) Bd.pre w (List.mem_cons_of_mem _ h), Bd.notSynchronized⟩
  obtain ⟨hx, hb, hr, -, hown, hts, hlocks⟩ := id C0
  have hS : va_S (fun q : Nat => B ≤ q) s.heap s.heap [] := va_S.rf
  have fr : ∀ j : Nat, (j < k0 ∨ k0 + 63 ≤ j) → w0[j]? = w0[j]? := fun j _ => rfl
  have hl := lv_entry ([.ref (ad k0)]) (n := 3) (Nat.le_of_ble_eq_true rfl)
  rw [lg_entry_eq]
  generalize (lg_sl ([.ref (ad k0)]) ++ List.replicate (3 - (lg_sl ([.ref (ad k0)])).length) Slot.unset).toArray = ls at hl ⊢
  have hl : lv_has ls 3 [(0, .ref (ad k0))] := hl
  unfold f_Nd_renew at hf
  obtain ⟨mk0_0, bk0_1, bk0_35, bk0_55, bk0_58, mk0_61, mk0_62⟩ := id bk0_0
  have mk0_0 : w0[k0]? = some (ad k0, .inr (6, [.ref (ad (k0 + 1)), .ref (ad (k0 + 35)), .ref (ad (k0 + 55)), .ref (ad (k0 + 58)), .ref (ad (k0 + 61)), .ref (ad (k0 + 62))])) := mk0_0
  have bk0_1 : wc_Do cI cG cZ ad (k0 + 1) x0_0 w0 := bk0_1
  have bk0_35 : wc_Gr cI cG cZ ad (k0 + 35) x0_1 w0 := bk0_35
  have bk0_55 : wc_Rk cI cG cZ ad (k0 + 55) x0_2 w0 := bk0_55
  have bk0_58 : wc_Rk cI cG cZ ad (k0 + 58) x0_3 w0 := bk0_58
  have mk0_61 : w0[k0 + 61]? = some (ad (k0 + 61), .inl (cI, 4, .inl x0_4)) := mk0_61
  have mk0_62 : w0[k0 + 62]? = some (ad (k0 + 62), .inl (cI, 30, .inl x0_5)) := mk0_62
  refine lv_aload_n hx hb d_Nd_renew_0 rfl (lv_at hl 0 rfl) ?_
  refine va_get (D := D) (ci := 6) (v := .ref (ad (k0 + 35))) (C := R_Nd) (T := F_Nd) (N := 6) hx hb hts i_Nd hown hK hP (k0) mk0_0 rfl 1 (by decide) (hts _ iw_157) (fun _ h9 => h9) rfl d_Nd_renew_1 ?_
  obtain ⟨mk0_35, bk0_36, bk0_42, bk0_50, bk0_52⟩ := id bk0_35
  have mk0_35 : w0[k0 + 35]? = some (ad (k0 + 35), .inr (2, [.ref (ad (k0 + 36)), .ref (ad (k0 + 42)), .ref (ad (k0 + 50)), .ref (ad (k0 + 52)), .int x0_1.2.2.2.2.1, .int x0_1.2.2.2.2.2.1, .int x0_1.2.2.2.2.2.2])) := mk0_35
  have bk0_36 : wc_Li cI cG cZ ad (k0 + 36) x0_1.1 w0 := bk0_36
  have bk0_42 : wc_Wa cI cG cZ ad (k0 + 42) x0_1.2.1 w0 := bk0_42
  have bk0_50 : wc_Ch cI cG cZ ad (k0 + 50) x0_1.2.2.1 w0 := bk0_50
  have bk0_52 : wc_Rk cI cG cZ ad (k0 + 52) x0_1.2.2.2.1 w0 := bk0_52
  refine va_getN (D := D) (ci := 2) (v := .ref (ad (k0 + 36))) (C := R_Gr) (T := F_Gr) (N := 7) hx hb hts i_Gr hown hK hP (k0 + 35) mk0_35 rfl 0 (by decide) (va_Nw.use rfl (hN _ in_132)) (fun _ h9 => h9) rfl d_Nd_renew_4 ?_
  obtain ⟨p1, hp1, hf⟩ := g_bd hf
  refine hw_ci0 (va_runV (As := []) (rest := []) ⟨hx, hb, hml, hown, hts⟩ (c_Li_size l D cI cG cZ ad B w0 N (k0 + 36) x0_1.1.1 x0_1.1.2.1 x0_1.1.2.2.1 x0_1.1.2.2.2.1 x0_1.1.2.2.2.2.1 x0_1.1.2.2.2.2.2 p1 hp1 bk0_36) (cwV 0 hts (hw_gV iw_386 gy_Li_size) rfl rfl rfl (by decide +kernel) ⟨Nat.le_of_ble_eq_true rfl, Nat.le_of_ble_eq_true rfl⟩) ⟨hw_blind, va_recv hK hP (ci := 3) (q0 := k0 + 36) rfl bk0_36.1, hw_go hP hD hK hN⟩ rfl rfl hl.1 rfl (lv_room (Nat.le_of_ble_eq_true rfl)) d_Nd_renew_7 ⟨Nat.zero_le _, Nat.zero_le _⟩) hS (fun H locs hP hD hS => ?_)
  refine lv_aload_n hx hb d_Nd_renew_10 rfl (lv_at hl 0 rfl) ?_
  refine va_get (D := D) (ci := 6) (v := .ref (ad (k0 + 1))) (C := R_Nd) (T := F_Nd) (N := 6) hx hb hts i_Nd hown hK hP (k0) mk0_0 rfl 0 (by decide) (hts _ iw_156) (fun _ h9 => h9) rfl d_Nd_renew_11 ?_
  obtain ⟨p2, hp2, hf⟩ := g_bd hf
  refine hw_ci0 (va_runV (As := []) (rest := [.int p1]) ⟨hx, hb, hml, hown, hts⟩ (c_Do_liveCount l D cI cG cZ ad B w0 N (k0 + 1) x0_0.1 x0_0.2.1 x0_0.2.2.1 x0_0.2.2.2 p2 hp2 bk0_1) (cwV 0 hts (hw_gV iw_390 gy_Do_liveCount) rfl rfl rfl (by decide +kernel) ⟨Nat.le_of_ble_eq_true rfl, Nat.le_of_ble_eq_true rfl⟩) ⟨hw_blind, va_recv hK hP (ci := 1) (q0 := k0 + 1) rfl bk0_1.1, hw_go hP hD hK hN⟩ rfl rfl hl.1 rfl (lv_room (Nat.le_of_ble_eq_true rfl)) d_Nd_renew_14 ⟨Nat.zero_le _, Nat.zero_le _⟩) hS (fun H locs hP hD hS => ?_)
  refine lv_isub hx hb d_Nd_renew_17 ?_
  refine lv_istore_n (lv' := [(1, .int (p1 - p2)), (0, .ref (ad k0))]) hx hb d_Nd_renew_18 rfl hl (by decide) rfl (fun ls hl => ?_)
  refine lv_aload_n hx hb d_Nd_renew_19 rfl (lv_at hl 1 rfl) ?_
  refine va_get (D := D) (ci := 6) (v := .ref (ad (k0 + 35))) (C := R_Nd) (T := F_Nd) (N := 6) hx hb hts i_Nd hown hK hP (k0) mk0_0 rfl 1 (by decide) (hts _ iw_157) (fun _ h9 => h9) rfl d_Nd_renew_20 ?_
  have bk0_35 : wc_Gr cI cG cZ ad (k0 + 35) x0_1 w0 := ⟨mk0_35, bk0_36, bk0_42, bk0_50, bk0_52⟩
  obtain ⟨p3, hp3, hf⟩ := g_bd hf
  refine hw_cv (va_runV (As := []) (rest := []) ⟨hx, hb, hml, hown, hts⟩ (c_Gr_clear l D cI cG cZ ad B w0 N (k0 + 35) x0_1.1 x0_1.2.1 x0_1.2.2.1 x0_1.2.2.2.1 x0_1.2.2.2.2.1 x0_1.2.2.2.2.2.1 x0_1.2.2.2.2.2.2 p3.1 p3.2 hp3 bk0_35) (cwV 0 hts (hw_gV iw_395 gy_Gr_clear) rfl rfl rfl (by decide +kernel) ⟨Nat.le_of_ble_eq_true rfl, Nat.le_of_ble_eq_true rfl⟩) ⟨hw_blind, va_recv hK hP (ci := 2) (q0 := k0 + 35) rfl bk0_35.1, hw_go hP hD hK hN⟩ rfl rfl hl.1 rfl (lv_room (Nat.le_of_ble_eq_true rfl)) d_Nd_renew_23 ⟨Nat.zero_le _, Nat.zero_le _⟩) hS (fun w4 H locs hP hD hS hpp => ?_)
  obtain ⟨q0, frc⟩ := hpp
  have bk0_35 : wc_Gr cI cG cZ ad (k0 + 35) (p3.1, x0_1.2.1, x0_1.2.2.1, x0_1.2.2.2.1, p3.2, x0_1.2.2.2.2.2.1, x0_1.2.2.2.2.2.2) w4 := q0
  have mk0_0 : w4[k0]? = some (ad k0, .inr (6, [.ref (ad (k0 + 1)), .ref (ad (k0 + 35)), .ref (ad (k0 + 55)), .ref (ad (k0 + 58)), .ref (ad (k0 + 61)), .ref (ad (k0 + 62))])) := (frc _ (by omega)).trans mk0_0
  have bk0_1 : wc_Do cI cG cZ ad (k0 + 1) x0_0 w4 := bk0_1.fr (fun j h1 h2 => frc j (by omega))
  have bk0_55 : wc_Rk cI cG cZ ad (k0 + 55) x0_2 w4 := bk0_55.fr (fun j h1 h2 => frc j (by omega))
  have bk0_58 : wc_Rk cI cG cZ ad (k0 + 58) x0_3 w4 := bk0_58.fr (fun j h1 h2 => frc j (by omega))
  have mk0_61 : w4[k0 + 61]? = some (ad (k0 + 61), .inl (cI, 4, .inl x0_4)) := (frc _ (by omega)).trans mk0_61
  have mk0_62 : w4[k0 + 62]? = some (ad (k0 + 62), .inl (cI, 30, .inl x0_5)) := (frc _ (by omega)).trans mk0_62
  have fr : ∀ j : Nat, (j < k0 ∨ k0 + 63 ≤ j) → w4[j]? = w0[j]? := fun j o0 => (frc j (by omega)).trans (fr j o0)
  refine lv_iconst (v := 0) hx hb d_Nd_renew_26 (by decide) ?_
  refine lv_istore_n (lv' := [(2, .int 0), (1, .int (p1 - p2)), (0, .ref (ad k0))]) hx hb d_Nd_renew_27 rfl hl (by decide) rfl (fun ls hl => ?_)
  exact wl_Nd_renew_28 (ad := ad) C0 hK hN x0_0 x0_2 x0_3 x0_4 x0_5 p1 p2 x0_1 r y0_1 N (p3.1, x0_1.2.1, x0_1.2.2.1, x0_1.2.2.2.1, p3.2, x0_1.2.2.2.2.2.1, x0_1.2.2.2.2.2.2) 0 _ _ _ _ hP hD hS (lv_sub hl [0, 1, 2] rfl) mk0_0 bk0_1 bk0_35 bk0_55 bk0_58 mk0_61 mk0_62 fr hf
set_option maxHeartbeats 4000000 in
set_option maxRecDepth 100000 in
theorem c_Nd_ask (l : Launch) (D : va_G) (cI cG cZ : ClassId) (ad : Nat → Nat) (B : Nat) (w0 : va_W) (N : Nat) (k0 : Nat) (x0_0 : T_Do) (x0_1 : T_Gr) (x0_2 : T_Rk) (x0_3 : T_Rk) (x0_4 : (Nat → Int32)) (x0_5 : (Nat → Int32)) (a1 : Int32) (a2 : Int32) (a3 : Int32) (a4 : Int32) (r : Int32) (y0_4 : (Nat → Int32)) (hf : f_Nd_ask N x0_4 a1 a2 a3 a4 = some (r, y0_4)) (bk0_0 : wc_Nd cI cG cZ ad k0 (x0_0, x0_1, x0_2, x0_3, x0_4, x0_5) w0) : Met l y_Nd_ask (.code y_Nd_ask b_Nd_ask 5 (some .boolean) :: hw_G) ({ frames := 3, cells := 0, slots := 0, locals := 65 } : Room) (va_Pc [.ref (ad k0), .int a1, .int a2, .int a3, .int a4] (hw_U D cI cG cZ B w0)) (va_Qi (fun (r1 : Int32) (w1 : va_W) => r1 = r ∧ wc_Nd cI cG cZ ad k0 (x0_0, x0_1, x0_2, x0_3, y0_4, x0_5) w1 ∧ (∀ j : Nat, (j < k0 ∨ k0 + 63 ≤ j) → w1[j]? = w0[j]?)) (hw_B D B) (fun q : Nat => B ≤ q)) 0 0 (fun q : Nat => B ≤ q) := by
  refine Met.ofW (cc := b_Nd_ask) (maxL := 5) (ret := (some .boolean)) (by decide) rfl ?_
  intro p e s m args below meth c s₁ Bd hml hv
  obtain ⟨rfl, hP, hD, hK, hN⟩ := hv
  have C0 : hw_C p s m meth c b_Nd_ask 5 _ R_Nd (some .boolean) := ⟨Bd.exec, Bd.bytes, Bd.returns, hml, findClass_of_methodNamed Bd.named, fun w h => atoms_spec (ws := .code y_Nd_ask b_Nd_ask 5 (some .boolean) :: hw_G) Bd.pre w (List.mem_cons_of_mem _ h), Bd.notSynchronized⟩
  obtain ⟨hx, hb, hr, -, hown, hts, hlocks⟩ := id C0
  have hS : va_S (fun q : Nat => B ≤ q) s.heap s.heap [] := va_S.rf
  have fr : ∀ j : Nat, (j < k0 ∨ k0 + 63 ≤ j) → w0[j]? = w0[j]? := fun j _ => rfl
  have hl := lv_entry ([.ref (ad k0), .int a1, .int a2, .int a3, .int a4]) (n := 5) (Nat.le_of_ble_eq_true rfl)
  rw [lg_entry_eq]
  generalize (lg_sl ([.ref (ad k0), .int a1, .int a2, .int a3, .int a4]) ++ List.replicate (5 - (lg_sl ([.ref (ad k0), .int a1, .int a2, .int a3, .int a4])).length) Slot.unset).toArray = ls at hl ⊢
  have hl : lv_has ls 5 [(0, .ref (ad k0)), (1, .int a1), (2, .int a2), (3, .int a3), (4, .int a4)] := hl
  unfold f_Nd_ask at hf
  obtain ⟨mk0_0, bk0_1, bk0_35, bk0_55, bk0_58, mk0_61, mk0_62⟩ := id bk0_0
  have mk0_0 : w0[k0]? = some (ad k0, .inr (6, [.ref (ad (k0 + 1)), .ref (ad (k0 + 35)), .ref (ad (k0 + 55)), .ref (ad (k0 + 58)), .ref (ad (k0 + 61)), .ref (ad (k0 + 62))])) := mk0_0
  have bk0_1 : wc_Do cI cG cZ ad (k0 + 1) x0_0 w0 := bk0_1
  have bk0_35 : wc_Gr cI cG cZ ad (k0 + 35) x0_1 w0 := bk0_35
  have bk0_55 : wc_Rk cI cG cZ ad (k0 + 55) x0_2 w0 := bk0_55
  have bk0_58 : wc_Rk cI cG cZ ad (k0 + 58) x0_3 w0 := bk0_58
  have mk0_61 : w0[k0 + 61]? = some (ad (k0 + 61), .inl (cI, 4, .inl x0_4)) := mk0_61
  have mk0_62 : w0[k0 + 62]? = some (ad (k0 + 62), .inl (cI, 30, .inl x0_5)) := mk0_62
  refine lv_iload_n hx hb d_Nd_ask_0 rfl (lv_at hl 1 rfl) ?_
  refine lv_iload_n hx hb d_Nd_ask_1 rfl (lv_at hl 2 rfl) ?_
  refine lv_iload_n hx hb d_Nd_ask_2 rfl (lv_at hl 3 rfl) ?_
  refine lv_iload hx hb d_Nd_ask_3 (lv_at hl 4 rfl) ?_
  obtain ⟨p1, hp1, hf⟩ := g_bd hf
  refine hw_ci0 (va_runS (As := [.int a1, .int a2, .int a3, .int a4]) (rest := []) ⟨hx, hb, hml, hown, hts⟩ (c_Nd_isVector l D cI cG cZ ad B w0 N a1 a2 a3 a4 p1 hp1) (va_cwS 4 hts (hw_gS iw_179 gs_Nd_isVector) rfl rfl rfl (by decide +kernel) ⟨Nat.le_of_ble_eq_true rfl, Nat.le_of_ble_eq_true rfl⟩) ⟨hw_blind, hw_go hP hD hK hN⟩ rfl rfl hl.1 rfl (lv_room (Nat.le_of_ble_eq_true rfl)) d_Nd_ask_5 ⟨Nat.zero_le _, Nat.zero_le _⟩) hS (fun H locs hP hD hS => ?_)
  refine lv_if_ne (tgt := 13) hx hb d_Nd_ask_8 (by decide) (fun c2 => ?_) (fun c2 => ?_)
  · rw [if_neg c2] at hf
    refine lv_aload_n hx hb d_Nd_ask_13 rfl (lv_at hl 0 rfl) ?_
    refine va_get (D := D) (ci := 6) (v := .ref (ad (k0 + 61))) (C := R_Nd) (T := F_Nd) (N := 6) hx hb hts i_Nd hown hK hP (k0) mk0_0 rfl 4 (by decide) (hts _ iw_160) (fun _ h9 => h9) rfl d_Nd_ask_14 ?_
    refine lv_iload_n hx hb d_Nd_ask_17 rfl (lv_at hl 1 rfl) ?_
    refine lv_iload_n hx hb d_Nd_ask_18 rfl (lv_at hl 2 rfl) ?_
    refine lv_iload_n hx hb d_Nd_ask_19 rfl (lv_at hl 3 rfl) ?_
    refine lv_iload hx hb d_Nd_ask_20 (lv_at hl 4 rfl) ?_
    obtain ⟨p3, hp3, hf⟩ := g_bd hf
    refine hw_cv (va_runS (As := [.ref (ad (k0 + 61)), .int a1, .int a2, .int a3, .int a4]) (rest := []) ⟨hx, hb, hml, hown, hts⟩ (c_Nd_writeVector l D cI cG cZ ad B w0 N (k0 + 61) x0_4 a1 a2 a3 a4 p3 hp3 mk0_61) (va_cwS 5 hts (hw_gS iw_408 gs_Nd_writeVector) rfl rfl rfl (by decide +kernel) ⟨Nat.le_of_ble_eq_true rfl, Nat.le_of_ble_eq_true rfl⟩) ⟨hw_blind, hw_go hP hD hK hN⟩ rfl rfl hl.1 rfl (lv_room (Nat.le_of_ble_eq_true rfl)) d_Nd_ask_22 ⟨Nat.zero_le _, Nat.zero_le _⟩) hS (fun w4 H locs hP hD hS hpp => ?_)
    obtain ⟨q0, frc⟩ := hpp
    have mk0_61 : w4[k0 + 61]? = some (ad (k0 + 61), .inl (cI, 4, .inl p3)) := q0
    have mk0_0 : w4[k0]? = some (ad k0, .inr (6, [.ref (ad (k0 + 1)), .ref (ad (k0 + 35)), .ref (ad (k0 + 55)), .ref (ad (k0 + 58)), .ref (ad (k0 + 61)), .ref (ad (k0 + 62))])) := (frc _ (by omega)).trans mk0_0
    have bk0_1 : wc_Do cI cG cZ ad (k0 + 1) x0_0 w4 := bk0_1.fr (fun j h1 h2 => frc j (by omega))
    have bk0_35 : wc_Gr cI cG cZ ad (k0 + 35) x0_1 w4 := bk0_35.fr (fun j h1 h2 => frc j (by omega))
    have bk0_55 : wc_Rk cI cG cZ ad (k0 + 55) x0_2 w4 := bk0_55.fr (fun j h1 h2 => frc j (by omega))
    have bk0_58 : wc_Rk cI cG cZ ad (k0 + 58) x0_3 w4 := bk0_58.fr (fun j h1 h2 => frc j (by omega))
    have mk0_62 : w4[k0 + 62]? = some (ad (k0 + 62), .inl (cI, 30, .inl x0_5)) := (frc _ (by omega)).trans mk0_62
    have fr : ∀ j : Nat, (j < k0 ∨ k0 + 63 ≤ j) → w4[j]? = w0[j]? := fun j o0 => (frc j (by omega)).trans (fr j o0)
    refine lv_iconst (v := 1) hx hb d_Nd_ask_25 (by decide) ?_
    have bk0_0 : wc_Nd cI cG cZ ad (k0) (x0_0, x0_1, x0_2, x0_3, p3, x0_5) w4 := ⟨mk0_0, bk0_1, bk0_35, bk0_55, bk0_58, mk0_61, mk0_62⟩
    have he := Option.some.inj hf
    obtain ⟨e0, e1⟩ := Prod.mk.inj he
    have f0 : wc_Nd cI cG cZ ad (k0) (x0_0, x0_1, x0_2, x0_3, y0_4, x0_5) w4 := by rw [← e1]; exact bk0_0
    exact W.zret (v := 1) hx hb hr (by decide) (fun t ht hW => ⟨⟨1, w4, rfl, ⟨e0, ⟨f0, fr⟩⟩, by rw [ht]; exact hP, hD⟩, hS.F ht⟩) hS.2.2 d_Nd_ask_26
  · rw [if_pos c2] at hf
    refine lv_iconst (v := 0) hx hb d_Nd_ask_11 (by decide) ?_
    have bk0_0 : wc_Nd cI cG cZ ad (k0) (x0_0, x0_1, x0_2, x0_3, x0_4, x0_5) w0 := ⟨mk0_0, bk0_1, bk0_35, bk0_55, bk0_58, mk0_61, mk0_62⟩
    have he := Option.some.inj hf
    obtain ⟨e0, e1⟩ := Prod.mk.inj he
    have f0 : wc_Nd cI cG cZ ad (k0) (x0_0, x0_1, x0_2, x0_3, y0_4, x0_5) w0 := by rw [← e1]; exact bk0_0
    exact W.zret (v := 0) hx hb hr (by decide) (fun t ht hW => ⟨⟨0, w0, rfl, ⟨e0, ⟨f0, fr⟩⟩, by rw [ht]; exact hP, hD⟩, hS.F ht⟩) hS.2.2 d_Nd_ask_12
set_option maxHeartbeats 4000000 in
set_option maxRecDepth 100000 in
theorem wl_Nd_searchInto_results_20 {p : Program} {l : Launch} {e : Env} {s : State} {m : MethodId} {args : Array Value} {below : List Frame} {meth : Method} {c : Code} {D : va_G} {cI cG cZ : ClassId} {ad : Nat → Nat} {B : Nat} {w0 : va_W} {N : Nat} {k0 : Nat} (C0 : hw_C p s m meth c b_Nd_searchInto 6 args R_Nd none) (hK : va_K D classes [(cI, .int), (cG, .array .int), (cZ, .boolean)] s) (hN : hw_N s) (x0_0 : T_Do) (x0_1 : T_Gr) (x0_3 : T_Rk) (x0_4 : (Nat → Int32)) (x0_5 : (Nat → Int32)) (a2 : Int32) (p1 : T_Wa × Int32) (x0_2 : T_Rk) (y0_1 : T_Gr) (y0_2 : T_Rk) : ∀ (n : Nat) (vbk0_55 : T_Rk) (v4 : Int32) (ws : va_W) (H : Heap) (locs : List Loc) (ls : Array Slot), va_P D classes ws H → va_D (fun q : Nat => B ≤ q) ws → va_S (fun q : Nat => B ≤ q) s.heap H locs → lv_has ls 6 [(4, .int v4), (3, .ref (ad (k0 + 43))), (0, .ref (ad k0)), (1, .ref (ad (k0 + 55))), (2, .int a2)] → ws[k0]? = some (ad k0, .inr (6, [.ref (ad (k0 + 1)), .ref (ad (k0 + 35)), .ref (ad (k0 + 55)), .ref (ad (k0 + 58)), .ref (ad (k0 + 61)), .ref (ad (k0 + 62))])) → wc_Do cI cG cZ ad (k0 + 1) x0_0 ws → wc_Gr cI cG cZ ad (k0 + 35) (x0_1.1, p1.1, x0_1.2.2.1, x0_1.2.2.2.1, x0_1.2.2.2.2.1, p1.2, x0_1.2.2.2.2.2.2) ws → wc_Rk cI cG cZ ad (k0 + 55) vbk0_55 ws → wc_Rk cI cG cZ ad (k0 + 58) x0_3 ws → ws[k0 + 61]? = some (ad (k0 + 61), .inl (cI, 4, .inl x0_4)) → ws[k0 + 62]? = some (ad (k0 + 62), .inl (cI, 30, .inl x0_5)) → (∀ j : Nat, (j < k0 ∨ k0 + 63 ≤ j) → ws[j]? = w0[j]?) → f_Nd_searchInto_results_20 N x0_0 x0_1 p1 n vbk0_55 v4 = some (y0_1, y0_2) → W p l e ({ frames := 5, cells := 0, slots := 0, locals := 121 } : Room) s m args below meth c H locs 0 0 (MQ below (va_Qv (fun (w1 : va_W) => wc_Nd cI cG cZ ad k0 (x0_0, y0_1, y0_2, x0_3, x0_4, x0_5) w1 ∧ (∀ j : Nat, (j < k0 ∨ k0 + 63 ≤ j) → w1[j]? = w0[j]?)) (hw_B D B) (fun q : Nat => B ≤ q)) args s 0 0 (fun q : Nat => B ≤ q)) (F0 m 20 ls []) := by
  obtain ⟨hx, hb, hr, hml, hown, hts, hlocks⟩ := id C0
  intro n
  induction n with
  | zero =>
    intro vbk0_55 v4 ws H locs ls hP hD hS hl mk0_0 bk0_1 bk0_35 bk0_55 bk0_58 mk0_61 mk0_62 fr hf
    exact nomatch (show none = some _ from hf)
  | succ n ih =>
    intro vbk0_55 v4 ws H locs ls hP hD hS hl mk0_0 bk0_1 bk0_35 bk0_55 bk0_58 mk0_61 mk0_62 fr hf
    rw [f_Nd_searchInto_results_20] at hf
    refine lv_iload hx hb d_Nd_searchInto_20 (lv_at hl 0 rfl) ?_
    refine lv_aload_n hx hb d_Nd_searchInto_22 rfl (lv_at hl 1 rfl) ?_
    obtain ⟨mk0_35, bk0_36, bk0_42, bk0_50, bk0_52⟩ := id bk0_35
    have mk0_35 : ws[k0 + 35]? = some (ad (k0 + 35), .inr (2, [.ref (ad (k0 + 36)), .ref (ad (k0 + 42)), .ref (ad (k0 + 50)), .ref (ad (k0 + 52)), .int x0_1.2.2.2.2.1, .int p1.2, .int x0_1.2.2.2.2.2.2])) := mk0_35
    have bk0_36 : wc_Li cI cG cZ ad (k0 + 36) x0_1.1 ws := bk0_36
    have bk0_42 : wc_Wa cI cG cZ ad (k0 + 42) p1.1 ws := bk0_42
    have bk0_50 : wc_Ch cI cG cZ ad (k0 + 50) x0_1.2.2.1 ws := bk0_50
    have bk0_52 : wc_Rk cI cG cZ ad (k0 + 52) x0_1.2.2.2.1 ws := bk0_52
    obtain ⟨mk0_42, bk0_43, bk0_46, mk0_49⟩ := id bk0_42
    have mk0_42 : ws[k0 + 42]? = some (ad (k0 + 42), .inr (5, [.ref (ad (k0 + 43)), .ref (ad (k0 + 46)), .ref (ad (k0 + 49)), .int p1.1.2.2.2])) := mk0_42
    have bk0_43 : wc_Rk cI cG cZ ad (k0 + 43) p1.1.1 ws := bk0_43
    have bk0_46 : wc_Rk cI cG cZ ad (k0 + 46) p1.1.2.1 ws := bk0_46
    have mk0_49 : ws[k0 + 49]? = some (ad (k0 + 49), .inl (cI, 30, .inl p1.1.2.2.1)) := mk0_49
    obtain ⟨p3, hp3, hf⟩ := g_bd hf
    refine hw_ci0 (va_runV (As := []) (rest := [.int v4]) ⟨hx, hb, hml, hown, hts⟩ (c_Rk_size l D cI cG cZ ad B ws N (k0 + 43) p1.1.1.1 p1.1.1.2.1 p1.1.1.2.2.1 p1.1.1.2.2.2.1 p1.1.1.2.2.2.2 p3 hp3 bk0_43) (cwV 0 hts (hw_gV iw_427 gy_Rk_size) rfl rfl rfl (by decide +kernel) ⟨Nat.le_of_ble_eq_true rfl, Nat.le_of_ble_eq_true rfl⟩) ⟨hw_blind, va_recv hK hP (ci := 4) (q0 := k0 + 43) rfl bk0_43.1, hw_go hP hD hK hN⟩ rfl rfl hl.1 rfl (lv_room (Nat.le_of_ble_eq_true rfl)) d_Nd_searchInto_23 ⟨Nat.zero_le _, Nat.zero_le _⟩) hS (fun H locs hP hD hS => ?_)
    refine lv_icmp_ge (tgt := 68) hx hb d_Nd_searchInto_26 (by decide) (fun c4 => ?_) (fun c4 => ?_)
    · rw [if_pos c4] at hf
      have bk0_42 : wc_Wa cI cG cZ ad (k0 + 42) p1.1 ws := ⟨mk0_42, bk0_43, bk0_46, mk0_49⟩
      have bk0_35 : wc_Gr cI cG cZ ad (k0 + 35) (x0_1.1, p1.1, x0_1.2.2.1, x0_1.2.2.2.1, x0_1.2.2.2.2.1, p1.2, x0_1.2.2.2.2.2.2) ws := ⟨mk0_35, bk0_36, bk0_42, bk0_50, bk0_52⟩
      have bk0_0 : wc_Nd cI cG cZ ad (k0) (x0_0, (x0_1.1, p1.1, x0_1.2.2.1, x0_1.2.2.2.1, x0_1.2.2.2.2.1, p1.2, x0_1.2.2.2.2.2.2), vbk0_55, x0_3, x0_4, x0_5) ws := ⟨mk0_0, bk0_1, bk0_35, bk0_55, bk0_58, mk0_61, mk0_62⟩
      have he := Option.some.inj hf
      obtain ⟨e0, e1⟩ := Prod.mk.inj he
      have f0 : wc_Nd cI cG cZ ad (k0) (x0_0, y0_1, y0_2, x0_3, x0_4, x0_5) ws := by rw [← e0, ← e1]; exact bk0_0
      exact W.vret hx hb hr (fun t ht hW => ⟨⟨ws, rfl, ⟨f0, fr⟩, by rw [ht]; exact hP, hD⟩, hS.F ht⟩) hS.2.2 d_Nd_searchInto_68
    · rw [if_neg c4] at hf
      refine lv_aload_n hx hb d_Nd_searchInto_29 rfl (lv_at hl 1 rfl) ?_
      refine lv_iload hx hb d_Nd_searchInto_30 (lv_at hl 0 rfl) ?_
      obtain ⟨p5, hp5, hf⟩ := g_bd hf
      refine hw_ci0 (va_runV (As := [.int v4]) (rest := []) ⟨hx, hb, hml, hown, hts⟩ (c_Rk_numberAt l D cI cG cZ ad B ws N (k0 + 43) p1.1.1.1 p1.1.1.2.1 p1.1.1.2.2.1 p1.1.1.2.2.2.1 p1.1.1.2.2.2.2 v4 p5 hp5 bk0_43) (cwV 1 hts (hw_gV iw_428 gy_Rk_numberAt) rfl rfl rfl (by decide +kernel) ⟨Nat.le_of_ble_eq_true rfl, Nat.le_of_ble_eq_true rfl⟩) ⟨hw_blind, va_recv hK hP (ci := 4) (q0 := k0 + 43) rfl bk0_43.1, hw_go hP hD hK hN⟩ rfl rfl hl.1 rfl (lv_room (Nat.le_of_ble_eq_true rfl)) d_Nd_searchInto_32 ⟨Nat.zero_le _, Nat.zero_le _⟩) hS (fun H locs hP hD hS => ?_)
      refine lv_istore (lv' := [(5, .int p5), (4, .int v4), (3, .ref (ad (k0 + 43))), (0, .ref (ad k0)), (1, .ref (ad (k0 + 55))), (2, .int a2)]) hx hb d_Nd_searchInto_35 hl (by decide) rfl (fun ls hl => ?_)
      refine lv_aload_n hx hb d_Nd_searchInto_37 rfl (lv_at hl 3 rfl) ?_
      refine va_get (D := D) (ci := 6) (v := .ref (ad (k0 + 1))) (C := R_Nd) (T := F_Nd) (N := 6) hx hb hts i_Nd hown hK hP (k0) mk0_0 rfl 0 (by decide) (hts _ iw_156) (fun _ h9 => h9) rfl d_Nd_searchInto_38 ?_
      refine lv_iload hx hb d_Nd_searchInto_41 (lv_at hl 0 rfl) ?_
      obtain ⟨p6, hp6, hf⟩ := g_bd hf
      refine hw_ci0 (va_runV (As := [.int p5]) (rest := []) ⟨hx, hb, hml, hown, hts⟩ (c_Do_isLive l D cI cG cZ ad B ws N (k0 + 1) x0_0.1 x0_0.2.1 x0_0.2.2.1 x0_0.2.2.2 p5 p6 hp6 bk0_1) (cwV 1 hts (hw_gV iw_403 gy_Do_isLive) rfl rfl rfl (by decide +kernel) ⟨Nat.le_of_ble_eq_true rfl, Nat.le_of_ble_eq_true rfl⟩) ⟨hw_blind, va_recv hK hP (ci := 1) (q0 := k0 + 1) rfl bk0_1.1, hw_go hP hD hK hN⟩ rfl rfl hl.1 rfl (lv_room (Nat.le_of_ble_eq_true rfl)) d_Nd_searchInto_43 ⟨Nat.zero_le _, Nat.zero_le _⟩) hS (fun H locs hP hD hS => ?_)
      refine lv_if_eq (tgt := 62) hx hb d_Nd_searchInto_46 (by decide) (fun c7 => ?_) (fun c7 => ?_)
      · rw [if_pos c7] at hf
        refine lv_iinc (v := v4 + 1) (lv' := [(4, .int (v4 + 1)), (5, .int p5), (3, .ref (ad (k0 + 43))), (0, .ref (ad k0)), (1, .ref (ad (k0 + 55))), (2, .int a2)]) hx hb d_Nd_searchInto_62 hl (k := 1) rfl rfl (by decide) rfl (fun ls hl => ?_)
        refine lv_goto (tgt := 20) hx hb d_Nd_searchInto_65 (by decide) ?_
        have bk0_42 : wc_Wa cI cG cZ ad (k0 + 42) p1.1 ws := ⟨mk0_42, bk0_43, bk0_46, mk0_49⟩
        have bk0_35 : wc_Gr cI cG cZ ad (k0 + 35) (x0_1.1, p1.1, x0_1.2.2.1, x0_1.2.2.2.1, x0_1.2.2.2.2.1, p1.2, x0_1.2.2.2.2.2.2) ws := ⟨mk0_35, bk0_36, bk0_42, bk0_50, bk0_52⟩
        exact ih vbk0_55 (v4 + 1) _ _ _ _ hP hD hS (lv_sub hl [0, 2, 3, 4, 5] rfl) mk0_0 bk0_1 bk0_35 bk0_55 bk0_58 mk0_61 mk0_62 fr hf
      · rw [if_neg c7] at hf
        refine lv_aload_n hx hb d_Nd_searchInto_49 rfl (lv_at hl 4 rfl) ?_
        refine lv_iload hx hb d_Nd_searchInto_50 (lv_at hl 0 rfl) ?_
        refine lv_aload_n hx hb d_Nd_searchInto_52 rfl (lv_at hl 2 rfl) ?_
        refine lv_iload hx hb d_Nd_searchInto_53 (lv_at hl 1 rfl) ?_
        obtain ⟨p8, hp8, hf⟩ := g_bd hf
        refine hw_ci0 (va_runV (As := [.int v4]) (rest := [.int p5, .ref (ad (k0 + 55))]) ⟨hx, hb, hml, hown, hts⟩ (c_Rk_valueAt l D cI cG cZ ad B ws N (k0 + 43) p1.1.1.1 p1.1.1.2.1 p1.1.1.2.2.1 p1.1.1.2.2.2.1 p1.1.1.2.2.2.2 v4 p8 hp8 bk0_43) (cwV 1 hts (hw_gV iw_429 gy_Rk_valueAt) rfl rfl rfl (by decide +kernel) ⟨Nat.le_of_ble_eq_true rfl, Nat.le_of_ble_eq_true rfl⟩) ⟨hw_blind, va_recv hK hP (ci := 4) (q0 := k0 + 43) rfl bk0_43.1, hw_go hP hD hK hN⟩ rfl rfl hl.1 rfl (lv_room (Nat.le_of_ble_eq_true rfl)) d_Nd_searchInto_55 ⟨Nat.zero_le _, Nat.zero_le _⟩) hS (fun H locs hP hD hS => ?_)
        obtain ⟨p9, hp9, hf⟩ := g_bd hf
        refine hw_ci (va_runV (As := [.int p5, .int p8]) (rest := []) ⟨hx, hb, hml, hown, hts⟩ (c_Rk_add l D cI cG cZ ad B ws N (k0 + 55) vbk0_55.1 vbk0_55.2.1 vbk0_55.2.2.1 vbk0_55.2.2.2.1 vbk0_55.2.2.2.2 p5 p8 p9.1 p9.2.1 p9.2.2.1 p9.2.2.2 hp9 bk0_55) (cwV 2 hts (hw_gV iw_430 gy_Rk_add) rfl rfl rfl (by decide +kernel) ⟨Nat.le_of_ble_eq_true rfl, Nat.le_of_ble_eq_true rfl⟩) ⟨hw_blind, va_recv hK hP (ci := 4) (q0 := k0 + 55) rfl bk0_55.1, hw_go hP hD hK hN⟩ rfl rfl hl.1 rfl (lv_room (Nat.le_of_ble_eq_true rfl)) d_Nd_searchInto_58 ⟨Nat.zero_le _, Nat.zero_le _⟩) hS (fun w10 H locs hP hD hS hpp => ?_)
        obtain ⟨q0, frc⟩ := hpp
        have bk0_55 : wc_Rk cI cG cZ ad (k0 + 55) (p9.2.1, p9.2.2.1, p9.2.2.2, vbk0_55.2.2.2.1, vbk0_55.2.2.2.2) w10 := q0
        have mk0_0 : w10[k0]? = some (ad k0, .inr (6, [.ref (ad (k0 + 1)), .ref (ad (k0 + 35)), .ref (ad (k0 + 55)), .ref (ad (k0 + 58)), .ref (ad (k0 + 61)), .ref (ad (k0 + 62))])) := (frc _ (by omega)).trans mk0_0
        have bk0_1 : wc_Do cI cG cZ ad (k0 + 1) x0_0 w10 := bk0_1.fr (fun j h1 h2 => frc j (by omega))
        have bk0_58 : wc_Rk cI cG cZ ad (k0 + 58) x0_3 w10 := bk0_58.fr (fun j h1 h2 => frc j (by omega))
        have mk0_61 : w10[k0 + 61]? = some (ad (k0 + 61), .inl (cI, 4, .inl x0_4)) := (frc _ (by omega)).trans mk0_61
        have mk0_62 : w10[k0 + 62]? = some (ad (k0 + 62), .inl (cI, 30, .inl x0_5)) := (frc _ (by omega)).trans mk0_62
        have mk0_35 : w10[k0 + 35]? = some (ad (k0 + 35), .inr (2, [.ref (ad (k0 + 36)), .ref (ad (k0 + 42)), .ref (ad (k0 + 50)), .ref (ad (k0 + 52)), .int x0_1.2.2.2.2.1, .int p1.2, .int x0_1.2.2.2.2.2.2])) := (frc _ (by omega)).trans mk0_35
        have bk0_36 : wc_Li cI cG cZ ad (k0 + 36) x0_1.1 w10 := bk0_36.fr (fun j h1 h2 => frc j (by omega))
        have bk0_50 : wc_Ch cI cG cZ ad (k0 + 50) x0_1.2.2.1 w10 := bk0_50.fr (fun j h1 h2 => frc j (by omega))
        have bk0_52 : wc_Rk cI cG cZ ad (k0 + 52) x0_1.2.2.2.1 w10 := bk0_52.fr (fun j h1 h2 => frc j (by omega))
        have mk0_42 : w10[k0 + 42]? = some (ad (k0 + 42), .inr (5, [.ref (ad (k0 + 43)), .ref (ad (k0 + 46)), .ref (ad (k0 + 49)), .int p1.1.2.2.2])) := (frc _ (by omega)).trans mk0_42
        have bk0_43 : wc_Rk cI cG cZ ad (k0 + 43) p1.1.1 w10 := bk0_43.fr (fun j h1 h2 => frc j (by omega))
        have bk0_46 : wc_Rk cI cG cZ ad (k0 + 46) p1.1.2.1 w10 := bk0_46.fr (fun j h1 h2 => frc j (by omega))
        have mk0_49 : w10[k0 + 49]? = some (ad (k0 + 49), .inl (cI, 30, .inl p1.1.2.2.1)) := (frc _ (by omega)).trans mk0_49
        have fr : ∀ j : Nat, (j < k0 ∨ k0 + 63 ≤ j) → w10[j]? = w0[j]? := fun j o0 => (frc j (by omega)).trans (fr j o0)
        refine lv_pop hx hb d_Nd_searchInto_61 rfl ?_
        refine lv_iinc (v := v4 + 1) (lv' := [(4, .int (v4 + 1)), (5, .int p5), (3, .ref (ad (k0 + 43))), (0, .ref (ad k0)), (1, .ref (ad (k0 + 55))), (2, .int a2)]) hx hb d_Nd_searchInto_62 hl (k := 1) rfl rfl (by decide) rfl (fun ls hl => ?_)
        refine lv_goto (tgt := 20) hx hb d_Nd_searchInto_65 (by decide) ?_
        have bk0_42 : wc_Wa cI cG cZ ad (k0 + 42) p1.1 w10 := ⟨mk0_42, bk0_43, bk0_46, mk0_49⟩
        have bk0_35 : wc_Gr cI cG cZ ad (k0 + 35) (x0_1.1, p1.1, x0_1.2.2.1, x0_1.2.2.2.1, x0_1.2.2.2.2.1, p1.2, x0_1.2.2.2.2.2.2) w10 := ⟨mk0_35, bk0_36, bk0_42, bk0_50, bk0_52⟩
        exact ih (p9.2.1, p9.2.2.1, p9.2.2.2, vbk0_55.2.2.2.1, vbk0_55.2.2.2.2) (v4 + 1) _ _ _ _ hP hD hS (lv_sub hl [0, 2, 3, 4, 5] rfl) mk0_0 bk0_1 bk0_35 bk0_55 bk0_58 mk0_61 mk0_62 fr hf
set_option maxHeartbeats 4000000 in
set_option maxRecDepth 100000 in
theorem c_Nd_searchInto_results (l : Launch) (D : va_G) (cI cG cZ : ClassId) (ad : Nat → Nat) (B : Nat) (w0 : va_W) (N : Nat) (k0 : Nat) (x0_0 : T_Do) (x0_1 : T_Gr) (x0_2 : T_Rk) (x0_3 : T_Rk) (x0_4 : (Nat → Int32)) (x0_5 : (Nat → Int32)) (a2 : Int32) (y0_1 : T_Gr) (y0_2 : T_Rk) (hf : f_Nd_searchInto_results N x0_0 x0_1 x0_2 x0_4 a2 = some (y0_1, y0_2)) (bk0_0 : wc_Nd cI cG cZ ad k0 (x0_0, x0_1, x0_2, x0_3, x0_4, x0_5) w0) : Met l y_Nd_searchInto (.code y_Nd_searchInto b_Nd_searchInto 6 none :: hw_G) ({ frames := 5, cells := 0, slots := 0, locals := 121 } : Room) (va_Pc [.ref (ad k0), .ref (ad (k0 + 55)), .int a2] (hw_U D cI cG cZ B w0)) (va_Qv (fun (w1 : va_W) => wc_Nd cI cG cZ ad k0 (x0_0, y0_1, y0_2, x0_3, x0_4, x0_5) w1 ∧ (∀ j : Nat, (j < k0 ∨ k0 + 63 ≤ j) → w1[j]? = w0[j]?)) (hw_B D B) (fun q : Nat => B ≤ q)) 0 0 (fun q : Nat => B ≤ q) := by
  refine Met.ofW (cc := b_Nd_searchInto) (maxL := 6) (ret := none) (by decide) rfl ?_
  intro p e s m args below meth c s₁ Bd hml hv
  obtain ⟨rfl, hP, hD, hK, hN⟩ := hv
  have C0 : hw_C p s m meth c b_Nd_searchInto 6 _ R_Nd none := ⟨Bd.exec, Bd.bytes, Bd.returns, hml, findClass_of_methodNamed Bd.named, fun w h => atoms_spec (ws := .code y_Nd_searchInto b_Nd_searchInto 6 none :: hw_G) Bd.pre w (List.mem_cons_of_mem _ h), Bd.notSynchronized⟩
  obtain ⟨hx, hb, hr, -, hown, hts, hlocks⟩ := id C0
  have hS : va_S (fun q : Nat => B ≤ q) s.heap s.heap [] := va_S.rf
  have fr : ∀ j : Nat, (j < k0 ∨ k0 + 63 ≤ j) → w0[j]? = w0[j]? := fun j _ => rfl
  have hl := lv_entry ([.ref (ad k0), .ref (ad (k0 + 55)), .int a2]) (n := 6) (Nat.le_of_ble_eq_true rfl)
  rw [lg_entry_eq]
  generalize (lg_sl ([.ref (ad k0), .ref (ad (k0 + 55)), .int a2]) ++ List.replicate (6 - (lg_sl ([.ref (ad k0), .ref (ad (k0 + 55)), .int a2])).length) Slot.unset).toArray = ls at hl ⊢
  have hl : lv_has ls 6 [(0, .ref (ad k0)), (1, .ref (ad (k0 + 55))), (2, .int a2)] := hl
  unfold f_Nd_searchInto_results at hf
  obtain ⟨mk0_0, bk0_1, bk0_35, bk0_55, bk0_58, mk0_61, mk0_62⟩ := id bk0_0
  have mk0_0 : w0[k0]? = some (ad k0, .inr (6, [.ref (ad (k0 + 1)), .ref (ad (k0 + 35)), .ref (ad (k0 + 55)), .ref (ad (k0 + 58)), .ref (ad (k0 + 61)), .ref (ad (k0 + 62))])) := mk0_0
  have bk0_1 : wc_Do cI cG cZ ad (k0 + 1) x0_0 w0 := bk0_1
  have bk0_35 : wc_Gr cI cG cZ ad (k0 + 35) x0_1 w0 := bk0_35
  have bk0_55 : wc_Rk cI cG cZ ad (k0 + 55) x0_2 w0 := bk0_55
  have bk0_58 : wc_Rk cI cG cZ ad (k0 + 58) x0_3 w0 := bk0_58
  have mk0_61 : w0[k0 + 61]? = some (ad (k0 + 61), .inl (cI, 4, .inl x0_4)) := mk0_61
  have mk0_62 : w0[k0 + 62]? = some (ad (k0 + 62), .inl (cI, 30, .inl x0_5)) := mk0_62
  refine lv_aload_n hx hb d_Nd_searchInto_0 rfl (lv_at hl 0 rfl) ?_
  refine va_get (D := D) (ci := 6) (v := .ref (ad (k0 + 35))) (C := R_Nd) (T := F_Nd) (N := 6) hx hb hts i_Nd hown hK hP (k0) mk0_0 rfl 1 (by decide) (hts _ iw_157) (fun _ h9 => h9) rfl d_Nd_searchInto_1 ?_
  refine lv_aload_n hx hb d_Nd_searchInto_4 rfl (lv_at hl 0 rfl) ?_
  refine va_get (D := D) (ci := 6) (v := .ref (ad (k0 + 1))) (C := R_Nd) (T := F_Nd) (N := 6) hx hb hts i_Nd hown hK hP (k0) mk0_0 rfl 0 (by decide) (hts _ iw_156) (fun _ h9 => h9) rfl d_Nd_searchInto_5 ?_
  refine lv_aload_n hx hb d_Nd_searchInto_8 rfl (lv_at hl 0 rfl) ?_
  refine va_get (D := D) (ci := 6) (v := .ref (ad (k0 + 61))) (C := R_Nd) (T := F_Nd) (N := 6) hx hb hts i_Nd hown hK hP (k0) mk0_0 rfl 4 (by decide) (hts _ iw_160) (fun _ h9 => h9) rfl d_Nd_searchInto_9 ?_
  refine lv_iload_n hx hb d_Nd_searchInto_12 rfl (lv_at hl 2 rfl) ?_
  obtain ⟨p1, hp1, hf⟩ := g_bd hf
  refine hw_cr (va_runV (As := [.ref (ad (k0 + 1)), .ref (ad (k0 + 61)), .int a2]) (rest := []) ⟨hx, hb, hml, hown, hts⟩ (c_Gr_search l D cI cG cZ ad B w0 N (k0 + 35) x0_1.1 x0_1.2.1 x0_1.2.2.1 x0_1.2.2.2.1 x0_1.2.2.2.2.1 x0_1.2.2.2.2.2.1 x0_1.2.2.2.2.2.2 (k0 + 1) x0_0.1 x0_0.2.1 x0_0.2.2.1 x0_0.2.2.2 (k0 + 61) x0_4 a2 p1.1 p1.2 hp1 bk0_35 bk0_1 mk0_61 (by omega) (by omega)) (cwV 3 hts (hw_gV iw_419 gy_Gr_search) rfl rfl rfl (by decide +kernel) ⟨Nat.le_of_ble_eq_true rfl, Nat.le_of_ble_eq_true rfl⟩) ⟨hw_blind, va_recv hK hP (ci := 2) (q0 := k0 + 35) rfl bk0_35.1, hw_go hP hD hK hN⟩ rfl rfl hl.1 rfl (lv_room (Nat.le_of_ble_eq_true rfl)) d_Nd_searchInto_13 ⟨Nat.zero_le _, Nat.zero_le _⟩) hS (fun w2 H locs hP hD hS hpp => ?_)
  obtain ⟨q0, frc⟩ := hpp
  have bk0_35 : wc_Gr cI cG cZ ad (k0 + 35) (x0_1.1, p1.1, x0_1.2.2.1, x0_1.2.2.2.1, x0_1.2.2.2.2.1, p1.2, x0_1.2.2.2.2.2.2) w2 := q0
  have mk0_0 : w2[k0]? = some (ad k0, .inr (6, [.ref (ad (k0 + 1)), .ref (ad (k0 + 35)), .ref (ad (k0 + 55)), .ref (ad (k0 + 58)), .ref (ad (k0 + 61)), .ref (ad (k0 + 62))])) := (frc _ (by omega)).trans mk0_0
  have bk0_1 : wc_Do cI cG cZ ad (k0 + 1) x0_0 w2 := bk0_1.fr (fun j h1 h2 => frc j (by omega))
  have bk0_55 : wc_Rk cI cG cZ ad (k0 + 55) x0_2 w2 := bk0_55.fr (fun j h1 h2 => frc j (by omega))
  have bk0_58 : wc_Rk cI cG cZ ad (k0 + 58) x0_3 w2 := bk0_58.fr (fun j h1 h2 => frc j (by omega))
  have mk0_61 : w2[k0 + 61]? = some (ad (k0 + 61), .inl (cI, 4, .inl x0_4)) := (frc _ (by omega)).trans mk0_61
  have mk0_62 : w2[k0 + 62]? = some (ad (k0 + 62), .inl (cI, 30, .inl x0_5)) := (frc _ (by omega)).trans mk0_62
  have fr : ∀ j : Nat, (j < k0 ∨ k0 + 63 ≤ j) → w2[j]? = w0[j]? := fun j o0 => (frc j (by omega)).trans (fr j o0)
  refine lv_astore_n (lv' := [(3, .ref (ad (k0 + 43))), (0, .ref (ad k0)), (1, .ref (ad (k0 + 55))), (2, .int a2)]) hx hb d_Nd_searchInto_16 rfl hl (by decide) rfl (fun ls hl => ?_)
  refine lv_iconst (v := 0) hx hb d_Nd_searchInto_17 (by decide) ?_
  refine lv_istore (lv' := [(4, .int 0), (3, .ref (ad (k0 + 43))), (0, .ref (ad k0)), (1, .ref (ad (k0 + 55))), (2, .int a2)]) hx hb d_Nd_searchInto_18 hl (by decide) rfl (fun ls hl => ?_)
  exact wl_Nd_searchInto_results_20 (ad := ad) C0 hK hN x0_0 x0_1 x0_3 x0_4 x0_5 a2 p1 x0_2 y0_1 y0_2 N x0_2 0 _ _ _ _ hP hD hS (lv_sub hl [0, 1, 2, 3, 4] rfl) mk0_0 bk0_1 bk0_35 bk0_55 bk0_58 mk0_61 mk0_62 fr hf
set_option maxHeartbeats 4000000 in
set_option maxRecDepth 100000 in
theorem wl_Nd_searchInto_scratch_20 {p : Program} {l : Launch} {e : Env} {s : State} {m : MethodId} {args : Array Value} {below : List Frame} {meth : Method} {c : Code} {D : va_G} {cI cG cZ : ClassId} {ad : Nat → Nat} {B : Nat} {w0 : va_W} {N : Nat} {k0 : Nat} (C0 : hw_C p s m meth c b_Nd_searchInto 6 args R_Nd none) (hK : va_K D classes [(cI, .int), (cG, .array .int), (cZ, .boolean)] s) (hN : hw_N s) (x0_0 : T_Do) (x0_1 : T_Gr) (x0_2 : T_Rk) (x0_4 : (Nat → Int32)) (x0_5 : (Nat → Int32)) (a2 : Int32) (p1 : T_Wa × Int32) (x0_3 : T_Rk) (y0_1 : T_Gr) (y0_3 : T_Rk) : ∀ (n : Nat) (vbk0_58 : T_Rk) (v4 : Int32) (ws : va_W) (H : Heap) (locs : List Loc) (ls : Array Slot), va_P D classes ws H → va_D (fun q : Nat => B ≤ q) ws → va_S (fun q : Nat => B ≤ q) s.heap H locs → lv_has ls 6 [(4, .int v4), (3, .ref (ad (k0 + 43))), (0, .ref (ad k0)), (1, .ref (ad (k0 + 58))), (2, .int a2)] → ws[k0]? = some (ad k0, .inr (6, [.ref (ad (k0 + 1)), .ref (ad (k0 + 35)), .ref (ad (k0 + 55)), .ref (ad (k0 + 58)), .ref (ad (k0 + 61)), .ref (ad (k0 + 62))])) → wc_Do cI cG cZ ad (k0 + 1) x0_0 ws → wc_Gr cI cG cZ ad (k0 + 35) (x0_1.1, p1.1, x0_1.2.2.1, x0_1.2.2.2.1, x0_1.2.2.2.2.1, p1.2, x0_1.2.2.2.2.2.2) ws → wc_Rk cI cG cZ ad (k0 + 55) x0_2 ws → wc_Rk cI cG cZ ad (k0 + 58) vbk0_58 ws → ws[k0 + 61]? = some (ad (k0 + 61), .inl (cI, 4, .inl x0_4)) → ws[k0 + 62]? = some (ad (k0 + 62), .inl (cI, 30, .inl x0_5)) → (∀ j : Nat, (j < k0 ∨ k0 + 63 ≤ j) → ws[j]? = w0[j]?) → f_Nd_searchInto_scratch_20 N x0_0 x0_1 p1 n vbk0_58 v4 = some (y0_1, y0_3) → W p l e ({ frames := 5, cells := 0, slots := 0, locals := 121 } : Room) s m args below meth c H locs 0 0 (MQ below (va_Qv (fun (w1 : va_W) => wc_Nd cI cG cZ ad k0 (x0_0, y0_1, x0_2, y0_3, x0_4, x0_5) w1 ∧ (∀ j : Nat, (j < k0 ∨ k0 + 63 ≤ j) → w1[j]? = w0[j]?)) (hw_B D B) (fun q : Nat => B ≤ q)) args s 0 0 (fun q : Nat => B ≤ q)) (F0 m 20 ls []) := by
  obtain ⟨hx, hb, hr, hml, hown, hts, hlocks⟩ := id C0
  intro n
  induction n with
  | zero =>
    intro vbk0_58 v4 ws H locs ls hP hD hS hl mk0_0 bk0_1 bk0_35 bk0_55 bk0_58 mk0_61 mk0_62 fr hf
    exact nomatch (show none = some _ from hf)
  | succ n ih =>
    intro vbk0_58 v4 ws H locs ls hP hD hS hl mk0_0 bk0_1 bk0_35 bk0_55 bk0_58 mk0_61 mk0_62 fr hf
    rw [f_Nd_searchInto_scratch_20] at hf
    refine lv_iload hx hb d_Nd_searchInto_20 (lv_at hl 0 rfl) ?_
    refine lv_aload_n hx hb d_Nd_searchInto_22 rfl (lv_at hl 1 rfl) ?_
    obtain ⟨mk0_35, bk0_36, bk0_42, bk0_50, bk0_52⟩ := id bk0_35
    have mk0_35 : ws[k0 + 35]? = some (ad (k0 + 35), .inr (2, [.ref (ad (k0 + 36)), .ref (ad (k0 + 42)), .ref (ad (k0 + 50)), .ref (ad (k0 + 52)), .int x0_1.2.2.2.2.1, .int p1.2, .int x0_1.2.2.2.2.2.2])) := mk0_35
    have bk0_36 : wc_Li cI cG cZ ad (k0 + 36) x0_1.1 ws := bk0_36
    have bk0_42 : wc_Wa cI cG cZ ad (k0 + 42) p1.1 ws := bk0_42
    have bk0_50 : wc_Ch cI cG cZ ad (k0 + 50) x0_1.2.2.1 ws := bk0_50
    have bk0_52 : wc_Rk cI cG cZ ad (k0 + 52) x0_1.2.2.2.1 ws := bk0_52
    obtain ⟨mk0_42, bk0_43, bk0_46, mk0_49⟩ := id bk0_42
    have mk0_42 : ws[k0 + 42]? = some (ad (k0 + 42), .inr (5, [.ref (ad (k0 + 43)), .ref (ad (k0 + 46)), .ref (ad (k0 + 49)), .int p1.1.2.2.2])) := mk0_42
    have bk0_43 : wc_Rk cI cG cZ ad (k0 + 43) p1.1.1 ws := bk0_43
    have bk0_46 : wc_Rk cI cG cZ ad (k0 + 46) p1.1.2.1 ws := bk0_46
    have mk0_49 : ws[k0 + 49]? = some (ad (k0 + 49), .inl (cI, 30, .inl p1.1.2.2.1)) := mk0_49
    obtain ⟨p3, hp3, hf⟩ := g_bd hf
    refine hw_ci0 (va_runV (As := []) (rest := [.int v4]) ⟨hx, hb, hml, hown, hts⟩ (c_Rk_size l D cI cG cZ ad B ws N (k0 + 43) p1.1.1.1 p1.1.1.2.1 p1.1.1.2.2.1 p1.1.1.2.2.2.1 p1.1.1.2.2.2.2 p3 hp3 bk0_43) (cwV 0 hts (hw_gV iw_427 gy_Rk_size) rfl rfl rfl (by decide +kernel) ⟨Nat.le_of_ble_eq_true rfl, Nat.le_of_ble_eq_true rfl⟩) ⟨hw_blind, va_recv hK hP (ci := 4) (q0 := k0 + 43) rfl bk0_43.1, hw_go hP hD hK hN⟩ rfl rfl hl.1 rfl (lv_room (Nat.le_of_ble_eq_true rfl)) d_Nd_searchInto_23 ⟨Nat.zero_le _, Nat.zero_le _⟩) hS (fun H locs hP hD hS => ?_)
    refine lv_icmp_ge (tgt := 68) hx hb d_Nd_searchInto_26 (by decide) (fun c4 => ?_) (fun c4 => ?_)
    · rw [if_pos c4] at hf
      have bk0_42 : wc_Wa cI cG cZ ad (k0 + 42) p1.1 ws := ⟨mk0_42, bk0_43, bk0_46, mk0_49⟩
      have bk0_35 : wc_Gr cI cG cZ ad (k0 + 35) (x0_1.1, p1.1, x0_1.2.2.1, x0_1.2.2.2.1, x0_1.2.2.2.2.1, p1.2, x0_1.2.2.2.2.2.2) ws := ⟨mk0_35, bk0_36, bk0_42, bk0_50, bk0_52⟩
      have bk0_0 : wc_Nd cI cG cZ ad (k0) (x0_0, (x0_1.1, p1.1, x0_1.2.2.1, x0_1.2.2.2.1, x0_1.2.2.2.2.1, p1.2, x0_1.2.2.2.2.2.2), x0_2, vbk0_58, x0_4, x0_5) ws := ⟨mk0_0, bk0_1, bk0_35, bk0_55, bk0_58, mk0_61, mk0_62⟩
      have he := Option.some.inj hf
      obtain ⟨e0, e1⟩ := Prod.mk.inj he
      have f0 : wc_Nd cI cG cZ ad (k0) (x0_0, y0_1, x0_2, y0_3, x0_4, x0_5) ws := by rw [← e0, ← e1]; exact bk0_0
      exact W.vret hx hb hr (fun t ht hW => ⟨⟨ws, rfl, ⟨f0, fr⟩, by rw [ht]; exact hP, hD⟩, hS.F ht⟩) hS.2.2 d_Nd_searchInto_68
    · rw [if_neg c4] at hf
      refine lv_aload_n hx hb d_Nd_searchInto_29 rfl (lv_at hl 1 rfl) ?_
      refine lv_iload hx hb d_Nd_searchInto_30 (lv_at hl 0 rfl) ?_
      obtain ⟨p5, hp5, hf⟩ := g_bd hf
      refine hw_ci0 (va_runV (As := [.int v4]) (rest := []) ⟨hx, hb, hml, hown, hts⟩ (c_Rk_numberAt l D cI cG cZ ad B ws N (k0 + 43) p1.1.1.1 p1.1.1.2.1 p1.1.1.2.2.1 p1.1.1.2.2.2.1 p1.1.1.2.2.2.2 v4 p5 hp5 bk0_43) (cwV 1 hts (hw_gV iw_428 gy_Rk_numberAt) rfl rfl rfl (by decide +kernel) ⟨Nat.le_of_ble_eq_true rfl, Nat.le_of_ble_eq_true rfl⟩) ⟨hw_blind, va_recv hK hP (ci := 4) (q0 := k0 + 43) rfl bk0_43.1, hw_go hP hD hK hN⟩ rfl rfl hl.1 rfl (lv_room (Nat.le_of_ble_eq_true rfl)) d_Nd_searchInto_32 ⟨Nat.zero_le _, Nat.zero_le _⟩) hS (fun H locs hP hD hS => ?_)
      refine lv_istore (lv' := [(5, .int p5), (4, .int v4), (3, .ref (ad (k0 + 43))), (0, .ref (ad k0)), (1, .ref (ad (k0 + 58))), (2, .int a2)]) hx hb d_Nd_searchInto_35 hl (by decide) rfl (fun ls hl => ?_)
      refine lv_aload_n hx hb d_Nd_searchInto_37 rfl (lv_at hl 3 rfl) ?_
      refine va_get (D := D) (ci := 6) (v := .ref (ad (k0 + 1))) (C := R_Nd) (T := F_Nd) (N := 6) hx hb hts i_Nd hown hK hP (k0) mk0_0 rfl 0 (by decide) (hts _ iw_156) (fun _ h9 => h9) rfl d_Nd_searchInto_38 ?_
      refine lv_iload hx hb d_Nd_searchInto_41 (lv_at hl 0 rfl) ?_
      obtain ⟨p6, hp6, hf⟩ := g_bd hf
      refine hw_ci0 (va_runV (As := [.int p5]) (rest := []) ⟨hx, hb, hml, hown, hts⟩ (c_Do_isLive l D cI cG cZ ad B ws N (k0 + 1) x0_0.1 x0_0.2.1 x0_0.2.2.1 x0_0.2.2.2 p5 p6 hp6 bk0_1) (cwV 1 hts (hw_gV iw_403 gy_Do_isLive) rfl rfl rfl (by decide +kernel) ⟨Nat.le_of_ble_eq_true rfl, Nat.le_of_ble_eq_true rfl⟩) ⟨hw_blind, va_recv hK hP (ci := 1) (q0 := k0 + 1) rfl bk0_1.1, hw_go hP hD hK hN⟩ rfl rfl hl.1 rfl (lv_room (Nat.le_of_ble_eq_true rfl)) d_Nd_searchInto_43 ⟨Nat.zero_le _, Nat.zero_le _⟩) hS (fun H locs hP hD hS => ?_)
      refine lv_if_eq (tgt := 62) hx hb d_Nd_searchInto_46 (by decide) (fun c7 => ?_) (fun c7 => ?_)
      · rw [if_pos c7] at hf
        refine lv_iinc (v := v4 + 1) (lv' := [(4, .int (v4 + 1)), (5, .int p5), (3, .ref (ad (k0 + 43))), (0, .ref (ad k0)), (1, .ref (ad (k0 + 58))), (2, .int a2)]) hx hb d_Nd_searchInto_62 hl (k := 1) rfl rfl (by decide) rfl (fun ls hl => ?_)
        refine lv_goto (tgt := 20) hx hb d_Nd_searchInto_65 (by decide) ?_
        have bk0_42 : wc_Wa cI cG cZ ad (k0 + 42) p1.1 ws := ⟨mk0_42, bk0_43, bk0_46, mk0_49⟩
        have bk0_35 : wc_Gr cI cG cZ ad (k0 + 35) (x0_1.1, p1.1, x0_1.2.2.1, x0_1.2.2.2.1, x0_1.2.2.2.2.1, p1.2, x0_1.2.2.2.2.2.2) ws := ⟨mk0_35, bk0_36, bk0_42, bk0_50, bk0_52⟩
        exact ih vbk0_58 (v4 + 1) _ _ _ _ hP hD hS (lv_sub hl [0, 2, 3, 4, 5] rfl) mk0_0 bk0_1 bk0_35 bk0_55 bk0_58 mk0_61 mk0_62 fr hf
      · rw [if_neg c7] at hf
        refine lv_aload_n hx hb d_Nd_searchInto_49 rfl (lv_at hl 4 rfl) ?_
        refine lv_iload hx hb d_Nd_searchInto_50 (lv_at hl 0 rfl) ?_
        refine lv_aload_n hx hb d_Nd_searchInto_52 rfl (lv_at hl 2 rfl) ?_
        refine lv_iload hx hb d_Nd_searchInto_53 (lv_at hl 1 rfl) ?_
        obtain ⟨p8, hp8, hf⟩ := g_bd hf
        refine hw_ci0 (va_runV (As := [.int v4]) (rest := [.int p5, .ref (ad (k0 + 58))]) ⟨hx, hb, hml, hown, hts⟩ (c_Rk_valueAt l D cI cG cZ ad B ws N (k0 + 43) p1.1.1.1 p1.1.1.2.1 p1.1.1.2.2.1 p1.1.1.2.2.2.1 p1.1.1.2.2.2.2 v4 p8 hp8 bk0_43) (cwV 1 hts (hw_gV iw_429 gy_Rk_valueAt) rfl rfl rfl (by decide +kernel) ⟨Nat.le_of_ble_eq_true rfl, Nat.le_of_ble_eq_true rfl⟩) ⟨hw_blind, va_recv hK hP (ci := 4) (q0 := k0 + 43) rfl bk0_43.1, hw_go hP hD hK hN⟩ rfl rfl hl.1 rfl (lv_room (Nat.le_of_ble_eq_true rfl)) d_Nd_searchInto_55 ⟨Nat.zero_le _, Nat.zero_le _⟩) hS (fun H locs hP hD hS => ?_)
        obtain ⟨p9, hp9, hf⟩ := g_bd hf
        refine hw_ci (va_runV (As := [.int p5, .int p8]) (rest := []) ⟨hx, hb, hml, hown, hts⟩ (c_Rk_add l D cI cG cZ ad B ws N (k0 + 58) vbk0_58.1 vbk0_58.2.1 vbk0_58.2.2.1 vbk0_58.2.2.2.1 vbk0_58.2.2.2.2 p5 p8 p9.1 p9.2.1 p9.2.2.1 p9.2.2.2 hp9 bk0_58) (cwV 2 hts (hw_gV iw_430 gy_Rk_add) rfl rfl rfl (by decide +kernel) ⟨Nat.le_of_ble_eq_true rfl, Nat.le_of_ble_eq_true rfl⟩) ⟨hw_blind, va_recv hK hP (ci := 4) (q0 := k0 + 58) rfl bk0_58.1, hw_go hP hD hK hN⟩ rfl rfl hl.1 rfl (lv_room (Nat.le_of_ble_eq_true rfl)) d_Nd_searchInto_58 ⟨Nat.zero_le _, Nat.zero_le _⟩) hS (fun w10 H locs hP hD hS hpp => ?_)
        obtain ⟨q0, frc⟩ := hpp
        have bk0_58 : wc_Rk cI cG cZ ad (k0 + 58) (p9.2.1, p9.2.2.1, p9.2.2.2, vbk0_58.2.2.2.1, vbk0_58.2.2.2.2) w10 := q0
        have mk0_0 : w10[k0]? = some (ad k0, .inr (6, [.ref (ad (k0 + 1)), .ref (ad (k0 + 35)), .ref (ad (k0 + 55)), .ref (ad (k0 + 58)), .ref (ad (k0 + 61)), .ref (ad (k0 + 62))])) := (frc _ (by omega)).trans mk0_0
        have bk0_1 : wc_Do cI cG cZ ad (k0 + 1) x0_0 w10 := bk0_1.fr (fun j h1 h2 => frc j (by omega))
        have bk0_55 : wc_Rk cI cG cZ ad (k0 + 55) x0_2 w10 := bk0_55.fr (fun j h1 h2 => frc j (by omega))
        have mk0_61 : w10[k0 + 61]? = some (ad (k0 + 61), .inl (cI, 4, .inl x0_4)) := (frc _ (by omega)).trans mk0_61
        have mk0_62 : w10[k0 + 62]? = some (ad (k0 + 62), .inl (cI, 30, .inl x0_5)) := (frc _ (by omega)).trans mk0_62
        have mk0_35 : w10[k0 + 35]? = some (ad (k0 + 35), .inr (2, [.ref (ad (k0 + 36)), .ref (ad (k0 + 42)), .ref (ad (k0 + 50)), .ref (ad (k0 + 52)), .int x0_1.2.2.2.2.1, .int p1.2, .int x0_1.2.2.2.2.2.2])) := (frc _ (by omega)).trans mk0_35
        have bk0_36 : wc_Li cI cG cZ ad (k0 + 36) x0_1.1 w10 := bk0_36.fr (fun j h1 h2 => frc j (by omega))
        have bk0_50 : wc_Ch cI cG cZ ad (k0 + 50) x0_1.2.2.1 w10 := bk0_50.fr (fun j h1 h2 => frc j (by omega))
        have bk0_52 : wc_Rk cI cG cZ ad (k0 + 52) x0_1.2.2.2.1 w10 := bk0_52.fr (fun j h1 h2 => frc j (by omega))
        have mk0_42 : w10[k0 + 42]? = some (ad (k0 + 42), .inr (5, [.ref (ad (k0 + 43)), .ref (ad (k0 + 46)), .ref (ad (k0 + 49)), .int p1.1.2.2.2])) := (frc _ (by omega)).trans mk0_42
        have bk0_43 : wc_Rk cI cG cZ ad (k0 + 43) p1.1.1 w10 := bk0_43.fr (fun j h1 h2 => frc j (by omega))
        have bk0_46 : wc_Rk cI cG cZ ad (k0 + 46) p1.1.2.1 w10 := bk0_46.fr (fun j h1 h2 => frc j (by omega))
        have mk0_49 : w10[k0 + 49]? = some (ad (k0 + 49), .inl (cI, 30, .inl p1.1.2.2.1)) := (frc _ (by omega)).trans mk0_49
        have fr : ∀ j : Nat, (j < k0 ∨ k0 + 63 ≤ j) → w10[j]? = w0[j]? := fun j o0 => (frc j (by omega)).trans (fr j o0)
        refine lv_pop hx hb d_Nd_searchInto_61 rfl ?_
        refine lv_iinc (v := v4 + 1) (lv' := [(4, .int (v4 + 1)), (5, .int p5), (3, .ref (ad (k0 + 43))), (0, .ref (ad k0)), (1, .ref (ad (k0 + 58))), (2, .int a2)]) hx hb d_Nd_searchInto_62 hl (k := 1) rfl rfl (by decide) rfl (fun ls hl => ?_)
        refine lv_goto (tgt := 20) hx hb d_Nd_searchInto_65 (by decide) ?_
        have bk0_42 : wc_Wa cI cG cZ ad (k0 + 42) p1.1 w10 := ⟨mk0_42, bk0_43, bk0_46, mk0_49⟩
        have bk0_35 : wc_Gr cI cG cZ ad (k0 + 35) (x0_1.1, p1.1, x0_1.2.2.1, x0_1.2.2.2.1, x0_1.2.2.2.2.1, p1.2, x0_1.2.2.2.2.2.2) w10 := ⟨mk0_35, bk0_36, bk0_42, bk0_50, bk0_52⟩
        exact ih (p9.2.1, p9.2.2.1, p9.2.2.2, vbk0_58.2.2.2.1, vbk0_58.2.2.2.2) (v4 + 1) _ _ _ _ hP hD hS (lv_sub hl [0, 2, 3, 4, 5] rfl) mk0_0 bk0_1 bk0_35 bk0_55 bk0_58 mk0_61 mk0_62 fr hf
set_option maxHeartbeats 4000000 in
set_option maxRecDepth 100000 in
theorem c_Nd_searchInto_scratch (l : Launch) (D : va_G) (cI cG cZ : ClassId) (ad : Nat → Nat) (B : Nat) (w0 : va_W) (N : Nat) (k0 : Nat) (x0_0 : T_Do) (x0_1 : T_Gr) (x0_2 : T_Rk) (x0_3 : T_Rk) (x0_4 : (Nat → Int32)) (x0_5 : (Nat → Int32)) (a2 : Int32) (y0_1 : T_Gr) (y0_3 : T_Rk) (hf : f_Nd_searchInto_scratch N x0_0 x0_1 x0_3 x0_4 a2 = some (y0_1, y0_3)) (bk0_0 : wc_Nd cI cG cZ ad k0 (x0_0, x0_1, x0_2, x0_3, x0_4, x0_5) w0) : Met l y_Nd_searchInto (.code y_Nd_searchInto b_Nd_searchInto 6 none :: hw_G) ({ frames := 5, cells := 0, slots := 0, locals := 121 } : Room) (va_Pc [.ref (ad k0), .ref (ad (k0 + 58)), .int a2] (hw_U D cI cG cZ B w0)) (va_Qv (fun (w1 : va_W) => wc_Nd cI cG cZ ad k0 (x0_0, y0_1, x0_2, y0_3, x0_4, x0_5) w1 ∧ (∀ j : Nat, (j < k0 ∨ k0 + 63 ≤ j) → w1[j]? = w0[j]?)) (hw_B D B) (fun q : Nat => B ≤ q)) 0 0 (fun q : Nat => B ≤ q) := by
  refine Met.ofW (cc := b_Nd_searchInto) (maxL := 6) (ret := none) (by decide) rfl ?_
  intro p e s m args below meth c s₁ Bd hml hv
  obtain ⟨rfl, hP, hD, hK, hN⟩ := hv
  have C0 : hw_C p s m meth c b_Nd_searchInto 6 _ R_Nd none := ⟨Bd.exec, Bd.bytes, Bd.returns, hml, findClass_of_methodNamed Bd.named, fun w h => atoms_spec (ws := .code y_Nd_searchInto b_Nd_searchInto 6 none :: hw_G) Bd.pre w (List.mem_cons_of_mem _ h), Bd.notSynchronized⟩
  obtain ⟨hx, hb, hr, -, hown, hts, hlocks⟩ := id C0
  have hS : va_S (fun q : Nat => B ≤ q) s.heap s.heap [] := va_S.rf
  have fr : ∀ j : Nat, (j < k0 ∨ k0 + 63 ≤ j) → w0[j]? = w0[j]? := fun j _ => rfl
  have hl := lv_entry ([.ref (ad k0), .ref (ad (k0 + 58)), .int a2]) (n := 6) (Nat.le_of_ble_eq_true rfl)
  rw [lg_entry_eq]
  generalize (lg_sl ([.ref (ad k0), .ref (ad (k0 + 58)), .int a2]) ++ List.replicate (6 - (lg_sl ([.ref (ad k0), .ref (ad (k0 + 58)), .int a2])).length) Slot.unset).toArray = ls at hl ⊢
  have hl : lv_has ls 6 [(0, .ref (ad k0)), (1, .ref (ad (k0 + 58))), (2, .int a2)] := hl
  unfold f_Nd_searchInto_scratch at hf
  obtain ⟨mk0_0, bk0_1, bk0_35, bk0_55, bk0_58, mk0_61, mk0_62⟩ := id bk0_0
  have mk0_0 : w0[k0]? = some (ad k0, .inr (6, [.ref (ad (k0 + 1)), .ref (ad (k0 + 35)), .ref (ad (k0 + 55)), .ref (ad (k0 + 58)), .ref (ad (k0 + 61)), .ref (ad (k0 + 62))])) := mk0_0
  have bk0_1 : wc_Do cI cG cZ ad (k0 + 1) x0_0 w0 := bk0_1
  have bk0_35 : wc_Gr cI cG cZ ad (k0 + 35) x0_1 w0 := bk0_35
  have bk0_55 : wc_Rk cI cG cZ ad (k0 + 55) x0_2 w0 := bk0_55
  have bk0_58 : wc_Rk cI cG cZ ad (k0 + 58) x0_3 w0 := bk0_58
  have mk0_61 : w0[k0 + 61]? = some (ad (k0 + 61), .inl (cI, 4, .inl x0_4)) := mk0_61
  have mk0_62 : w0[k0 + 62]? = some (ad (k0 + 62), .inl (cI, 30, .inl x0_5)) := mk0_62
  refine lv_aload_n hx hb d_Nd_searchInto_0 rfl (lv_at hl 0 rfl) ?_
  refine va_get (D := D) (ci := 6) (v := .ref (ad (k0 + 35))) (C := R_Nd) (T := F_Nd) (N := 6) hx hb hts i_Nd hown hK hP (k0) mk0_0 rfl 1 (by decide) (hts _ iw_157) (fun _ h9 => h9) rfl d_Nd_searchInto_1 ?_
  refine lv_aload_n hx hb d_Nd_searchInto_4 rfl (lv_at hl 0 rfl) ?_
  refine va_get (D := D) (ci := 6) (v := .ref (ad (k0 + 1))) (C := R_Nd) (T := F_Nd) (N := 6) hx hb hts i_Nd hown hK hP (k0) mk0_0 rfl 0 (by decide) (hts _ iw_156) (fun _ h9 => h9) rfl d_Nd_searchInto_5 ?_
  refine lv_aload_n hx hb d_Nd_searchInto_8 rfl (lv_at hl 0 rfl) ?_
  refine va_get (D := D) (ci := 6) (v := .ref (ad (k0 + 61))) (C := R_Nd) (T := F_Nd) (N := 6) hx hb hts i_Nd hown hK hP (k0) mk0_0 rfl 4 (by decide) (hts _ iw_160) (fun _ h9 => h9) rfl d_Nd_searchInto_9 ?_
  refine lv_iload_n hx hb d_Nd_searchInto_12 rfl (lv_at hl 2 rfl) ?_
  obtain ⟨p1, hp1, hf⟩ := g_bd hf
  refine hw_cr (va_runV (As := [.ref (ad (k0 + 1)), .ref (ad (k0 + 61)), .int a2]) (rest := []) ⟨hx, hb, hml, hown, hts⟩ (c_Gr_search l D cI cG cZ ad B w0 N (k0 + 35) x0_1.1 x0_1.2.1 x0_1.2.2.1 x0_1.2.2.2.1 x0_1.2.2.2.2.1 x0_1.2.2.2.2.2.1 x0_1.2.2.2.2.2.2 (k0 + 1) x0_0.1 x0_0.2.1 x0_0.2.2.1 x0_0.2.2.2 (k0 + 61) x0_4 a2 p1.1 p1.2 hp1 bk0_35 bk0_1 mk0_61 (by omega) (by omega)) (cwV 3 hts (hw_gV iw_419 gy_Gr_search) rfl rfl rfl (by decide +kernel) ⟨Nat.le_of_ble_eq_true rfl, Nat.le_of_ble_eq_true rfl⟩) ⟨hw_blind, va_recv hK hP (ci := 2) (q0 := k0 + 35) rfl bk0_35.1, hw_go hP hD hK hN⟩ rfl rfl hl.1 rfl (lv_room (Nat.le_of_ble_eq_true rfl)) d_Nd_searchInto_13 ⟨Nat.zero_le _, Nat.zero_le _⟩) hS (fun w2 H locs hP hD hS hpp => ?_)
  obtain ⟨q0, frc⟩ := hpp
  have bk0_35 : wc_Gr cI cG cZ ad (k0 + 35) (x0_1.1, p1.1, x0_1.2.2.1, x0_1.2.2.2.1, x0_1.2.2.2.2.1, p1.2, x0_1.2.2.2.2.2.2) w2 := q0
  have mk0_0 : w2[k0]? = some (ad k0, .inr (6, [.ref (ad (k0 + 1)), .ref (ad (k0 + 35)), .ref (ad (k0 + 55)), .ref (ad (k0 + 58)), .ref (ad (k0 + 61)), .ref (ad (k0 + 62))])) := (frc _ (by omega)).trans mk0_0
  have bk0_1 : wc_Do cI cG cZ ad (k0 + 1) x0_0 w2 := bk0_1.fr (fun j h1 h2 => frc j (by omega))
  have bk0_55 : wc_Rk cI cG cZ ad (k0 + 55) x0_2 w2 := bk0_55.fr (fun j h1 h2 => frc j (by omega))
  have bk0_58 : wc_Rk cI cG cZ ad (k0 + 58) x0_3 w2 := bk0_58.fr (fun j h1 h2 => frc j (by omega))
  have mk0_61 : w2[k0 + 61]? = some (ad (k0 + 61), .inl (cI, 4, .inl x0_4)) := (frc _ (by omega)).trans mk0_61
  have mk0_62 : w2[k0 + 62]? = some (ad (k0 + 62), .inl (cI, 30, .inl x0_5)) := (frc _ (by omega)).trans mk0_62
  have fr : ∀ j : Nat, (j < k0 ∨ k0 + 63 ≤ j) → w2[j]? = w0[j]? := fun j o0 => (frc j (by omega)).trans (fr j o0)
  refine lv_astore_n (lv' := [(3, .ref (ad (k0 + 43))), (0, .ref (ad k0)), (1, .ref (ad (k0 + 58))), (2, .int a2)]) hx hb d_Nd_searchInto_16 rfl hl (by decide) rfl (fun ls hl => ?_)
  refine lv_iconst (v := 0) hx hb d_Nd_searchInto_17 (by decide) ?_
  refine lv_istore (lv' := [(4, .int 0), (3, .ref (ad (k0 + 43))), (0, .ref (ad k0)), (1, .ref (ad (k0 + 58))), (2, .int a2)]) hx hb d_Nd_searchInto_18 hl (by decide) rfl (fun ls hl => ?_)
  exact wl_Nd_searchInto_scratch_20 (ad := ad) C0 hK hN x0_0 x0_1 x0_2 x0_4 x0_5 a2 p1 x0_3 y0_1 y0_3 N x0_3 0 _ _ _ _ hP hD hS (lv_sub hl [0, 1, 2, 3, 4] rfl) mk0_0 bk0_1 bk0_35 bk0_55 bk0_58 mk0_61 mk0_62 fr hf
set_option maxHeartbeats 4000000 in
set_option maxRecDepth 100000 in
theorem c_Nd_near (l : Launch) (D : va_G) (cI cG cZ : ClassId) (ad : Nat → Nat) (B : Nat) (w0 : va_W) (N : Nat) (k0 : Nat) (x0_0 : T_Do) (x0_1 : T_Gr) (x0_2 : T_Rk) (x0_3 : T_Rk) (x0_4 : (Nat → Int32)) (x0_5 : (Nat → Int32)) (a1 : Int32) (a2 : Int32) (r : Int32) (y0_1 : T_Gr) (y0_2 : T_Rk) (hf : f_Nd_near N x0_0 x0_1 x0_2 x0_4 a1 a2 = some (r, y0_1, y0_2)) (bk0_0 : wc_Nd cI cG cZ ad k0 (x0_0, x0_1, x0_2, x0_3, x0_4, x0_5) w0) : Met l y_Nd_near (.code y_Nd_near b_Nd_near 3 (some .int) :: hw_G) ({ frames := 6, cells := 0, slots := 0, locals := 146 } : Room) (va_Pc [.ref (ad k0), .int a1, .int a2] (hw_U D cI cG cZ B w0)) (va_Qi (fun (r1 : Int32) (w1 : va_W) => r1 = r ∧ wc_Nd cI cG cZ ad k0 (x0_0, y0_1, y0_2, x0_3, x0_4, x0_5) w1 ∧ (∀ j : Nat, (j < k0 ∨ k0 + 63 ≤ j) → w1[j]? = w0[j]?)) (hw_B D B) (fun q : Nat => B ≤ q)) 0 0 (fun q : Nat => B ≤ q) := by
  refine Met.ofW (cc := b_Nd_near) (maxL := 3) (ret := (some .int)) (by decide) rfl ?_
  intro p e s m args below meth c s₁ Bd hml hv
  obtain ⟨rfl, hP, hD, hK, hN⟩ := hv
  have C0 : hw_C p s m meth c b_Nd_near 3 _ R_Nd (some .int) := ⟨Bd.exec, Bd.bytes, Bd.returns, hml, findClass_of_methodNamed Bd.named, fun w h => atoms_spec (ws := .code y_Nd_near b_Nd_near 3 (some .int) :: hw_G) Bd.pre w (List.mem_cons_of_mem _ h), Bd.notSynchronized⟩
  obtain ⟨hx, hb, hr, -, hown, hts, hlocks⟩ := id C0
  have hS : va_S (fun q : Nat => B ≤ q) s.heap s.heap [] := va_S.rf
  have fr : ∀ j : Nat, (j < k0 ∨ k0 + 63 ≤ j) → w0[j]? = w0[j]? := fun j _ => rfl
  have hl := lv_entry ([.ref (ad k0), .int a1, .int a2]) (n := 3) (Nat.le_of_ble_eq_true rfl)
  rw [lg_entry_eq]
  generalize (lg_sl ([.ref (ad k0), .int a1, .int a2]) ++ List.replicate (3 - (lg_sl ([.ref (ad k0), .int a1, .int a2])).length) Slot.unset).toArray = ls at hl ⊢
  have hl : lv_has ls 3 [(0, .ref (ad k0)), (1, .int a1), (2, .int a2)] := hl
  unfold f_Nd_near at hf
  obtain ⟨mk0_0, bk0_1, bk0_35, bk0_55, bk0_58, mk0_61, mk0_62⟩ := id bk0_0
  have mk0_0 : w0[k0]? = some (ad k0, .inr (6, [.ref (ad (k0 + 1)), .ref (ad (k0 + 35)), .ref (ad (k0 + 55)), .ref (ad (k0 + 58)), .ref (ad (k0 + 61)), .ref (ad (k0 + 62))])) := mk0_0
  have bk0_1 : wc_Do cI cG cZ ad (k0 + 1) x0_0 w0 := bk0_1
  have bk0_35 : wc_Gr cI cG cZ ad (k0 + 35) x0_1 w0 := bk0_35
  have bk0_55 : wc_Rk cI cG cZ ad (k0 + 55) x0_2 w0 := bk0_55
  have bk0_58 : wc_Rk cI cG cZ ad (k0 + 58) x0_3 w0 := bk0_58
  have mk0_61 : w0[k0 + 61]? = some (ad (k0 + 61), .inl (cI, 4, .inl x0_4)) := mk0_61
  have mk0_62 : w0[k0 + 62]? = some (ad (k0 + 62), .inl (cI, 30, .inl x0_5)) := mk0_62
  refine lv_iload_n hx hb d_Nd_near_0 rfl (lv_at hl 1 rfl) ?_
  refine lv_iconst (v := 1) hx hb d_Nd_near_1 (by decide) ?_
  refine lv_bipush (v := 10) hx hb d_Nd_near_2 (by decide) ?_
  obtain ⟨p1, hp1, hf⟩ := g_bd hf
  refine hw_ci0 (va_runS (As := [.int a1, .int 1, .int 10]) (rest := []) ⟨hx, hb, hml, hown, hts⟩ (c_Nd_isWithin l D cI cG cZ ad B w0 N a1 1 10 p1 hp1) (va_cwS 3 hts (hw_gS iw_185 gs_Nd_isWithin) rfl rfl rfl (by decide +kernel) ⟨Nat.le_of_ble_eq_true rfl, Nat.le_of_ble_eq_true rfl⟩) ⟨hw_blind, hw_go hP hD hK hN⟩ rfl rfl hl.1 rfl (lv_room (Nat.le_of_ble_eq_true rfl)) d_Nd_near_4 ⟨Nat.zero_le _, Nat.zero_le _⟩) hS (fun H locs hP hD hS => ?_)
  refine lv_if_eq (tgt := 20) hx hb d_Nd_near_7 (by decide) (fun c2 => ?_) (fun c2 => ?_)
  · rw [if_pos c2] at hf
    refine lv_iconst (v := (-1)) hx hb d_Nd_near_20 (by decide) ?_
    have bk0_0 : wc_Nd cI cG cZ ad (k0) (x0_0, x0_1, x0_2, x0_3, x0_4, x0_5) w0 := ⟨mk0_0, bk0_1, bk0_35, bk0_55, bk0_58, mk0_61, mk0_62⟩
    have he := Option.some.inj hf
    obtain ⟨e0, he⟩ := Prod.mk.inj he
    obtain ⟨e1, e2⟩ := Prod.mk.inj he
    have f0 : wc_Nd cI cG cZ ad (k0) (x0_0, y0_1, y0_2, x0_3, x0_4, x0_5) w0 := by rw [← e1, ← e2]; exact bk0_0
    exact W.iret (v := (-1)) hx hb hr (fun t ht hW => ⟨⟨(-1), w0, rfl, ⟨e0, ⟨f0, fr⟩⟩, by rw [ht]; exact hP, hD⟩, hS.F ht⟩) hS.2.2 d_Nd_near_21
  · rw [if_neg c2] at hf
    refine lv_iload_n hx hb d_Nd_near_10 rfl (lv_at hl 2 rfl) ?_
    refine lv_iconst (v := 1) hx hb d_Nd_near_11 (by decide) ?_
    refine lv_bipush (v := 10) hx hb d_Nd_near_12 (by decide) ?_
    obtain ⟨p3, hp3, hf⟩ := g_bd hf
    refine hw_ci0 (va_runS (As := [.int a2, .int 1, .int 10]) (rest := []) ⟨hx, hb, hml, hown, hts⟩ (c_Nd_isWithin l D cI cG cZ ad B w0 N a2 1 10 p3 hp3) (va_cwS 3 hts (hw_gS iw_185 gs_Nd_isWithin) rfl rfl rfl (by decide +kernel) ⟨Nat.le_of_ble_eq_true rfl, Nat.le_of_ble_eq_true rfl⟩) ⟨hw_blind, hw_go hP hD hK hN⟩ rfl rfl hl.1 rfl (lv_room (Nat.le_of_ble_eq_true rfl)) d_Nd_near_14 ⟨Nat.zero_le _, Nat.zero_le _⟩) hS (fun H locs hP hD hS => ?_)
    refine lv_if_ne (tgt := 22) hx hb d_Nd_near_17 (by decide) (fun c4 => ?_) (fun c4 => ?_)
    · rw [if_neg c4] at hf
      refine lv_aload_n hx hb d_Nd_near_22 rfl (lv_at hl 0 rfl) ?_
      refine va_get (D := D) (ci := 6) (v := .ref (ad (k0 + 55))) (C := R_Nd) (T := F_Nd) (N := 6) hx hb hts i_Nd hown hK hP (k0) mk0_0 rfl 2 (by decide) (hts _ iw_158) (fun _ h9 => h9) rfl d_Nd_near_23 ?_
      refine lv_iload_n hx hb d_Nd_near_26 rfl (lv_at hl 1 rfl) ?_
      refine lv_iconst (v := 0) hx hb d_Nd_near_27 (by decide) ?_
      obtain ⟨p5, hp5, hf⟩ := g_bd hf
      refine hw_cv (va_runV (As := [.int a1, .int 0]) (rest := []) ⟨hx, hb, hml, hown, hts⟩ (c_Rk_start l D cI cG cZ ad B w0 N (k0 + 55) x0_2.1 x0_2.2.1 x0_2.2.2.1 x0_2.2.2.2.1 x0_2.2.2.2.2 a1 0 p5.1 p5.2.1 p5.2.2 hp5 bk0_55) (cwV 2 hts (hw_gV iw_413 gy_Rk_start) rfl rfl rfl (by decide +kernel) ⟨Nat.le_of_ble_eq_true rfl, Nat.le_of_ble_eq_true rfl⟩) ⟨hw_blind, va_recv hK hP (ci := 4) (q0 := k0 + 55) rfl bk0_55.1, hw_go hP hD hK hN⟩ rfl rfl hl.1 rfl (lv_room (Nat.le_of_ble_eq_true rfl)) d_Nd_near_28 ⟨Nat.zero_le _, Nat.zero_le _⟩) hS (fun w6 H locs hP hD hS hpp => ?_)
      obtain ⟨q0, frc⟩ := hpp
      have bk0_55 : wc_Rk cI cG cZ ad (k0 + 55) (x0_2.1, x0_2.2.1, p5.1, p5.2.1, p5.2.2) w6 := q0
      have mk0_0 : w6[k0]? = some (ad k0, .inr (6, [.ref (ad (k0 + 1)), .ref (ad (k0 + 35)), .ref (ad (k0 + 55)), .ref (ad (k0 + 58)), .ref (ad (k0 + 61)), .ref (ad (k0 + 62))])) := (frc _ (by omega)).trans mk0_0
      have bk0_1 : wc_Do cI cG cZ ad (k0 + 1) x0_0 w6 := bk0_1.fr (fun j h1 h2 => frc j (by omega))
      have bk0_35 : wc_Gr cI cG cZ ad (k0 + 35) x0_1 w6 := bk0_35.fr (fun j h1 h2 => frc j (by omega))
      have bk0_58 : wc_Rk cI cG cZ ad (k0 + 58) x0_3 w6 := bk0_58.fr (fun j h1 h2 => frc j (by omega))
      have mk0_61 : w6[k0 + 61]? = some (ad (k0 + 61), .inl (cI, 4, .inl x0_4)) := (frc _ (by omega)).trans mk0_61
      have mk0_62 : w6[k0 + 62]? = some (ad (k0 + 62), .inl (cI, 30, .inl x0_5)) := (frc _ (by omega)).trans mk0_62
      have fr : ∀ j : Nat, (j < k0 ∨ k0 + 63 ≤ j) → w6[j]? = w0[j]? := fun j o0 => (frc j (by omega)).trans (fr j o0)
      refine lv_aload_n hx hb d_Nd_near_31 rfl (lv_at hl 0 rfl) ?_
      refine lv_aload_n hx hb d_Nd_near_32 rfl (lv_at hl 0 rfl) ?_
      refine va_get (D := D) (ci := 6) (v := .ref (ad (k0 + 55))) (C := R_Nd) (T := F_Nd) (N := 6) hx hb hts i_Nd hown hK hP (k0) mk0_0 rfl 2 (by decide) (hts _ iw_158) (fun _ h9 => h9) rfl d_Nd_near_33 ?_
      refine lv_iload_n hx hb d_Nd_near_36 rfl (lv_at hl 1 rfl) ?_
      refine lv_iload_n hx hb d_Nd_near_37 rfl (lv_at hl 2 rfl) ?_
      refine va_mmax hx hb (hml.trans hl.1.symm) hown (hts _ iw_414) (hts _ iw_max_static) (hts _ iw_math_init) (hts _ iw_max_code) (Nat.le_of_ble_eq_true rfl) (Nat.le_of_ble_eq_true rfl) (Nat.zero_le _) (Nat.zero_le _) d_Nd_near_38 ?_
      have bk0_0 : wc_Nd cI cG cZ ad (k0) (x0_0, x0_1, (x0_2.1, x0_2.2.1, p5.1, p5.2.1, p5.2.2), x0_3, x0_4, x0_5) w6 := ⟨mk0_0, bk0_1, bk0_35, bk0_55, bk0_58, mk0_61, mk0_62⟩
      obtain ⟨p7, hp7, hf⟩ := g_bd hf
      refine hw_cv (va_runV (As := [.ref (ad (k0 + 55)), .int (if a1 < a2 then a2 else a1)]) (rest := []) ⟨hx, hb, hml, hown, hts⟩ (c_Nd_searchInto_results l D cI cG cZ ad B w6 N k0 x0_0 x0_1 (x0_2.1, x0_2.2.1, p5.1, p5.2.1, p5.2.2) x0_3 x0_4 x0_5 (if a1 < a2 then a2 else a1) p7.1 p7.2 hp7 bk0_0) (cwV 2 hts (hw_gV iw_415 gy_Nd_searchInto) rfl rfl rfl (by decide +kernel) ⟨Nat.le_of_ble_eq_true rfl, Nat.le_of_ble_eq_true rfl⟩) ⟨hw_blind, va_recv hK hP (ci := 6) (q0 := k0) rfl bk0_0.1, hw_go hP hD hK hN⟩ rfl rfl hl.1 rfl (lv_room (Nat.le_of_ble_eq_true rfl)) d_Nd_near_41 ⟨Nat.zero_le _, Nat.zero_le _⟩) hS (fun w8 H locs hP hD hS hpp => ?_)
      obtain ⟨q0, frc⟩ := hpp
      have bk0_0 : wc_Nd cI cG cZ ad (k0) (x0_0, p7.1, p7.2, x0_3, x0_4, x0_5) w8 := q0
      have fr : ∀ j : Nat, (j < k0 ∨ k0 + 63 ≤ j) → w8[j]? = w0[j]? := fun j o0 => (frc j (by omega)).trans (fr j o0)
      refine lv_aload_n hx hb d_Nd_near_44 rfl (lv_at hl 0 rfl) ?_
      obtain ⟨mk0_0, bk0_1, bk0_35, bk0_55, bk0_58, mk0_61, mk0_62⟩ := id bk0_0
      have mk0_0 : w8[k0]? = some (ad k0, .inr (6, [.ref (ad (k0 + 1)), .ref (ad (k0 + 35)), .ref (ad (k0 + 55)), .ref (ad (k0 + 58)), .ref (ad (k0 + 61)), .ref (ad (k0 + 62))])) := mk0_0
      have bk0_1 : wc_Do cI cG cZ ad (k0 + 1) x0_0 w8 := bk0_1
      have bk0_35 : wc_Gr cI cG cZ ad (k0 + 35) p7.1 w8 := bk0_35
      have bk0_55 : wc_Rk cI cG cZ ad (k0 + 55) p7.2 w8 := bk0_55
      have bk0_58 : wc_Rk cI cG cZ ad (k0 + 58) x0_3 w8 := bk0_58
      have mk0_61 : w8[k0 + 61]? = some (ad (k0 + 61), .inl (cI, 4, .inl x0_4)) := mk0_61
      have mk0_62 : w8[k0 + 62]? = some (ad (k0 + 62), .inl (cI, 30, .inl x0_5)) := mk0_62
      refine va_get (D := D) (ci := 6) (v := .ref (ad (k0 + 55))) (C := R_Nd) (T := F_Nd) (N := 6) hx hb hts i_Nd hown hK hP (k0) mk0_0 rfl 2 (by decide) (hts _ iw_158) (fun _ h9 => h9) rfl d_Nd_near_45 ?_
      obtain ⟨p9, hp9, hf⟩ := g_bd hf
      refine hw_ci0 (va_runV (As := []) (rest := []) ⟨hx, hb, hml, hown, hts⟩ (c_Rk_size l D cI cG cZ ad B w8 N (k0 + 55) p7.2.1 p7.2.2.1 p7.2.2.2.1 p7.2.2.2.2.1 p7.2.2.2.2.2 p9 hp9 bk0_55) (cwV 0 hts (hw_gV iw_427 gy_Rk_size) rfl rfl rfl (by decide +kernel) ⟨Nat.le_of_ble_eq_true rfl, Nat.le_of_ble_eq_true rfl⟩) ⟨hw_blind, va_recv hK hP (ci := 4) (q0 := k0 + 55) rfl bk0_55.1, hw_go hP hD hK hN⟩ rfl rfl hl.1 rfl (lv_room (Nat.le_of_ble_eq_true rfl)) d_Nd_near_48 ⟨Nat.zero_le _, Nat.zero_le _⟩) hS (fun H locs hP hD hS => ?_)
      have bk0_0 : wc_Nd cI cG cZ ad (k0) (x0_0, p7.1, p7.2, x0_3, x0_4, x0_5) w8 := ⟨mk0_0, bk0_1, bk0_35, bk0_55, bk0_58, mk0_61, mk0_62⟩
      have he := Option.some.inj hf
      obtain ⟨e0, he⟩ := Prod.mk.inj he
      obtain ⟨e1, e2⟩ := Prod.mk.inj he
      have f0 : wc_Nd cI cG cZ ad (k0) (x0_0, y0_1, y0_2, x0_3, x0_4, x0_5) w8 := by rw [← e1, ← e2]; exact bk0_0
      exact W.iret (v := p9) hx hb hr (fun t ht hW => ⟨⟨p9, w8, rfl, ⟨e0, ⟨f0, fr⟩⟩, by rw [ht]; exact hP, hD⟩, hS.F ht⟩) hS.2.2 d_Nd_near_51
    · rw [if_pos c4] at hf
      refine lv_iconst (v := (-1)) hx hb d_Nd_near_20 (by decide) ?_
      have bk0_0 : wc_Nd cI cG cZ ad (k0) (x0_0, x0_1, x0_2, x0_3, x0_4, x0_5) w0 := ⟨mk0_0, bk0_1, bk0_35, bk0_55, bk0_58, mk0_61, mk0_62⟩
      have he := Option.some.inj hf
      obtain ⟨e0, he⟩ := Prod.mk.inj he
      obtain ⟨e1, e2⟩ := Prod.mk.inj he
      have f0 : wc_Nd cI cG cZ ad (k0) (x0_0, y0_1, y0_2, x0_3, x0_4, x0_5) w0 := by rw [← e1, ← e2]; exact bk0_0
      exact W.iret (v := (-1)) hx hb hr (fun t ht hW => ⟨⟨(-1), w0, rfl, ⟨e0, ⟨f0, fr⟩⟩, by rw [ht]; exact hP, hD⟩, hS.F ht⟩) hS.2.2 d_Nd_near_21
set_option maxHeartbeats 4000000 in
set_option maxRecDepth 100000 in
theorem c_Nd_exact (l : Launch) (D : va_G) (cI cG cZ : ClassId) (ad : Nat → Nat) (B : Nat) (w0 : va_W) (N : Nat) (k0 : Nat) (x0_0 : T_Do) (x0_1 : T_Gr) (x0_2 : T_Rk) (x0_3 : T_Rk) (x0_4 : (Nat → Int32)) (x0_5 : (Nat → Int32)) (a1 : Int32) (r : Int32) (y0_2 : T_Rk) (hf : f_Nd_exact N x0_0 x0_2 x0_4 a1 = some (r, y0_2)) (bk0_0 : wc_Nd cI cG cZ ad k0 (x0_0, x0_1, x0_2, x0_3, x0_4, x0_5) w0) : Met l y_Nd_exact (.code y_Nd_exact b_Nd_exact 2 (some .int) :: hw_G) ({ frames := 4, cells := 0, slots := 0, locals := 86 } : Room) (va_Pc [.ref (ad k0), .int a1] (hw_U D cI cG cZ B w0)) (va_Qi (fun (r1 : Int32) (w1 : va_W) => r1 = r ∧ wc_Nd cI cG cZ ad k0 (x0_0, x0_1, y0_2, x0_3, x0_4, x0_5) w1 ∧ (∀ j : Nat, (j < k0 ∨ k0 + 63 ≤ j) → w1[j]? = w0[j]?)) (hw_B D B) (fun q : Nat => B ≤ q)) 0 0 (fun q : Nat => B ≤ q) := by
  refine Met.ofW (cc := b_Nd_exact) (maxL := 2) (ret := (some .int)) (by decide) rfl ?_
  intro p e s m args below meth c s₁ Bd hml hv
  obtain ⟨rfl, hP, hD, hK, hN⟩ := hv
  have C0 : hw_C p s m meth c b_Nd_exact 2 _ R_Nd (some .int) := ⟨Bd.exec, Bd.bytes, Bd.returns, hml, findClass_of_methodNamed Bd.named, fun w h => atoms_spec (ws := .code y_Nd_exact b_Nd_exact 2 (some .int) :: hw_G) Bd.pre w (List.mem_cons_of_mem _ h), Bd.notSynchronized⟩
  obtain ⟨hx, hb, hr, -, hown, hts, hlocks⟩ := id C0
  have hS : va_S (fun q : Nat => B ≤ q) s.heap s.heap [] := va_S.rf
  have fr : ∀ j : Nat, (j < k0 ∨ k0 + 63 ≤ j) → w0[j]? = w0[j]? := fun j _ => rfl
  have hl := lv_entry ([.ref (ad k0), .int a1]) (n := 2) (Nat.le_of_ble_eq_true rfl)
  rw [lg_entry_eq]
  generalize (lg_sl ([.ref (ad k0), .int a1]) ++ List.replicate (2 - (lg_sl ([.ref (ad k0), .int a1])).length) Slot.unset).toArray = ls at hl ⊢
  have hl : lv_has ls 2 [(0, .ref (ad k0)), (1, .int a1)] := hl
  unfold f_Nd_exact at hf
  obtain ⟨mk0_0, bk0_1, bk0_35, bk0_55, bk0_58, mk0_61, mk0_62⟩ := id bk0_0
  have mk0_0 : w0[k0]? = some (ad k0, .inr (6, [.ref (ad (k0 + 1)), .ref (ad (k0 + 35)), .ref (ad (k0 + 55)), .ref (ad (k0 + 58)), .ref (ad (k0 + 61)), .ref (ad (k0 + 62))])) := mk0_0
  have bk0_1 : wc_Do cI cG cZ ad (k0 + 1) x0_0 w0 := bk0_1
  have bk0_35 : wc_Gr cI cG cZ ad (k0 + 35) x0_1 w0 := bk0_35
  have bk0_55 : wc_Rk cI cG cZ ad (k0 + 55) x0_2 w0 := bk0_55
  have bk0_58 : wc_Rk cI cG cZ ad (k0 + 58) x0_3 w0 := bk0_58
  have mk0_61 : w0[k0 + 61]? = some (ad (k0 + 61), .inl (cI, 4, .inl x0_4)) := mk0_61
  have mk0_62 : w0[k0 + 62]? = some (ad (k0 + 62), .inl (cI, 30, .inl x0_5)) := mk0_62
  refine lv_iload_n hx hb d_Nd_exact_0 rfl (lv_at hl 1 rfl) ?_
  refine lv_iconst (v := 1) hx hb d_Nd_exact_1 (by decide) ?_
  refine lv_bipush (v := 10) hx hb d_Nd_exact_2 (by decide) ?_
  obtain ⟨p1, hp1, hf⟩ := g_bd hf
  refine hw_ci0 (va_runS (As := [.int a1, .int 1, .int 10]) (rest := []) ⟨hx, hb, hml, hown, hts⟩ (c_Nd_isWithin l D cI cG cZ ad B w0 N a1 1 10 p1 hp1) (va_cwS 3 hts (hw_gS iw_185 gs_Nd_isWithin) rfl rfl rfl (by decide +kernel) ⟨Nat.le_of_ble_eq_true rfl, Nat.le_of_ble_eq_true rfl⟩) ⟨hw_blind, hw_go hP hD hK hN⟩ rfl rfl hl.1 rfl (lv_room (Nat.le_of_ble_eq_true rfl)) d_Nd_exact_4 ⟨Nat.zero_le _, Nat.zero_le _⟩) hS (fun H locs hP hD hS => ?_)
  refine lv_if_ne (tgt := 12) hx hb d_Nd_exact_7 (by decide) (fun c2 => ?_) (fun c2 => ?_)
  · rw [if_neg c2] at hf
    refine lv_aload_n hx hb d_Nd_exact_12 rfl (lv_at hl 0 rfl) ?_
    refine va_get (D := D) (ci := 6) (v := .ref (ad (k0 + 55))) (C := R_Nd) (T := F_Nd) (N := 6) hx hb hts i_Nd hown hK hP (k0) mk0_0 rfl 2 (by decide) (hts _ iw_158) (fun _ h9 => h9) rfl d_Nd_exact_13 ?_
    refine lv_iload_n hx hb d_Nd_exact_16 rfl (lv_at hl 1 rfl) ?_
    refine lv_iconst (v := 0) hx hb d_Nd_exact_17 (by decide) ?_
    obtain ⟨p3, hp3, hf⟩ := g_bd hf
    refine hw_cv (va_runV (As := [.int a1, .int 0]) (rest := []) ⟨hx, hb, hml, hown, hts⟩ (c_Rk_start l D cI cG cZ ad B w0 N (k0 + 55) x0_2.1 x0_2.2.1 x0_2.2.2.1 x0_2.2.2.2.1 x0_2.2.2.2.2 a1 0 p3.1 p3.2.1 p3.2.2 hp3 bk0_55) (cwV 2 hts (hw_gV iw_413 gy_Rk_start) rfl rfl rfl (by decide +kernel) ⟨Nat.le_of_ble_eq_true rfl, Nat.le_of_ble_eq_true rfl⟩) ⟨hw_blind, va_recv hK hP (ci := 4) (q0 := k0 + 55) rfl bk0_55.1, hw_go hP hD hK hN⟩ rfl rfl hl.1 rfl (lv_room (Nat.le_of_ble_eq_true rfl)) d_Nd_exact_18 ⟨Nat.zero_le _, Nat.zero_le _⟩) hS (fun w4 H locs hP hD hS hpp => ?_)
    obtain ⟨q0, frc⟩ := hpp
    have bk0_55 : wc_Rk cI cG cZ ad (k0 + 55) (x0_2.1, x0_2.2.1, p3.1, p3.2.1, p3.2.2) w4 := q0
    have mk0_0 : w4[k0]? = some (ad k0, .inr (6, [.ref (ad (k0 + 1)), .ref (ad (k0 + 35)), .ref (ad (k0 + 55)), .ref (ad (k0 + 58)), .ref (ad (k0 + 61)), .ref (ad (k0 + 62))])) := (frc _ (by omega)).trans mk0_0
    have bk0_1 : wc_Do cI cG cZ ad (k0 + 1) x0_0 w4 := bk0_1.fr (fun j h1 h2 => frc j (by omega))
    have bk0_35 : wc_Gr cI cG cZ ad (k0 + 35) x0_1 w4 := bk0_35.fr (fun j h1 h2 => frc j (by omega))
    have bk0_58 : wc_Rk cI cG cZ ad (k0 + 58) x0_3 w4 := bk0_58.fr (fun j h1 h2 => frc j (by omega))
    have mk0_61 : w4[k0 + 61]? = some (ad (k0 + 61), .inl (cI, 4, .inl x0_4)) := (frc _ (by omega)).trans mk0_61
    have mk0_62 : w4[k0 + 62]? = some (ad (k0 + 62), .inl (cI, 30, .inl x0_5)) := (frc _ (by omega)).trans mk0_62
    have fr : ∀ j : Nat, (j < k0 ∨ k0 + 63 ≤ j) → w4[j]? = w0[j]? := fun j o0 => (frc j (by omega)).trans (fr j o0)
    refine lv_aload_n hx hb d_Nd_exact_21 rfl (lv_at hl 0 rfl) ?_
    refine va_get (D := D) (ci := 6) (v := .ref (ad (k0 + 1))) (C := R_Nd) (T := F_Nd) (N := 6) hx hb hts i_Nd hown hK hP (k0) mk0_0 rfl 0 (by decide) (hts _ iw_156) (fun _ h9 => h9) rfl d_Nd_exact_22 ?_
    refine lv_aload_n hx hb d_Nd_exact_25 rfl (lv_at hl 0 rfl) ?_
    refine va_get (D := D) (ci := 6) (v := .ref (ad (k0 + 61))) (C := R_Nd) (T := F_Nd) (N := 6) hx hb hts i_Nd hown hK hP (k0) mk0_0 rfl 4 (by decide) (hts _ iw_160) (fun _ h9 => h9) rfl d_Nd_exact_26 ?_
    refine lv_aload_n hx hb d_Nd_exact_29 rfl (lv_at hl 0 rfl) ?_
    refine va_get (D := D) (ci := 6) (v := .ref (ad (k0 + 55))) (C := R_Nd) (T := F_Nd) (N := 6) hx hb hts i_Nd hown hK hP (k0) mk0_0 rfl 2 (by decide) (hts _ iw_158) (fun _ h9 => h9) rfl d_Nd_exact_30 ?_
    obtain ⟨p5, hp5, hf⟩ := g_bd hf
    refine hw_cv (va_runV (As := [.ref (ad (k0 + 61)), .ref (ad (k0 + 55))]) (rest := []) ⟨hx, hb, hml, hown, hts⟩ (c_Do_rankByDistance l D cI cG cZ ad B w4 N (k0 + 1) x0_0.1 x0_0.2.1 x0_0.2.2.1 x0_0.2.2.2 (k0 + 61) x0_4 (k0 + 55) x0_2.1 x0_2.2.1 p3.1 p3.2.1 p3.2.2 p5.1 p5.2.1 p5.2.2.1 p5.2.2.2.1 p5.2.2.2.2 hp5 bk0_1 mk0_61 bk0_55 (by omega) (by omega)) (cwV 2 hts (hw_gV iw_435 gy_Do_rankByDistance) rfl rfl rfl (by decide +kernel) ⟨Nat.le_of_ble_eq_true rfl, Nat.le_of_ble_eq_true rfl⟩) ⟨hw_blind, va_recv hK hP (ci := 1) (q0 := k0 + 1) rfl bk0_1.1, hw_go hP hD hK hN⟩ rfl rfl hl.1 rfl (lv_room (Nat.le_of_ble_eq_true rfl)) d_Nd_exact_33 ⟨Nat.zero_le _, Nat.zero_le _⟩) hS (fun w6 H locs hP hD hS hpp => ?_)
    obtain ⟨q0, frc⟩ := hpp
    have bk0_55 : wc_Rk cI cG cZ ad (k0 + 55) (p5.1, p5.2.1, p5.2.2.1, p5.2.2.2.1, p5.2.2.2.2) w6 := q0
    have mk0_0 : w6[k0]? = some (ad k0, .inr (6, [.ref (ad (k0 + 1)), .ref (ad (k0 + 35)), .ref (ad (k0 + 55)), .ref (ad (k0 + 58)), .ref (ad (k0 + 61)), .ref (ad (k0 + 62))])) := (frc _ (by omega)).trans mk0_0
    have bk0_1 : wc_Do cI cG cZ ad (k0 + 1) x0_0 w6 := bk0_1.fr (fun j h1 h2 => frc j (by omega))
    have bk0_35 : wc_Gr cI cG cZ ad (k0 + 35) x0_1 w6 := bk0_35.fr (fun j h1 h2 => frc j (by omega))
    have bk0_58 : wc_Rk cI cG cZ ad (k0 + 58) x0_3 w6 := bk0_58.fr (fun j h1 h2 => frc j (by omega))
    have mk0_61 : w6[k0 + 61]? = some (ad (k0 + 61), .inl (cI, 4, .inl x0_4)) := (frc _ (by omega)).trans mk0_61
    have mk0_62 : w6[k0 + 62]? = some (ad (k0 + 62), .inl (cI, 30, .inl x0_5)) := (frc _ (by omega)).trans mk0_62
    have fr : ∀ j : Nat, (j < k0 ∨ k0 + 63 ≤ j) → w6[j]? = w0[j]? := fun j o0 => (frc j (by omega)).trans (fr j o0)
    refine lv_aload_n hx hb d_Nd_exact_36 rfl (lv_at hl 0 rfl) ?_
    refine va_get (D := D) (ci := 6) (v := .ref (ad (k0 + 55))) (C := R_Nd) (T := F_Nd) (N := 6) hx hb hts i_Nd hown hK hP (k0) mk0_0 rfl 2 (by decide) (hts _ iw_158) (fun _ h9 => h9) rfl d_Nd_exact_37 ?_
    obtain ⟨p7, hp7, hf⟩ := g_bd hf
    refine hw_ci0 (va_runV (As := []) (rest := []) ⟨hx, hb, hml, hown, hts⟩ (c_Rk_size l D cI cG cZ ad B w6 N (k0 + 55) p5.1 p5.2.1 p5.2.2.1 p5.2.2.2.1 p5.2.2.2.2 p7 hp7 bk0_55) (cwV 0 hts (hw_gV iw_427 gy_Rk_size) rfl rfl rfl (by decide +kernel) ⟨Nat.le_of_ble_eq_true rfl, Nat.le_of_ble_eq_true rfl⟩) ⟨hw_blind, va_recv hK hP (ci := 4) (q0 := k0 + 55) rfl bk0_55.1, hw_go hP hD hK hN⟩ rfl rfl hl.1 rfl (lv_room (Nat.le_of_ble_eq_true rfl)) d_Nd_exact_40 ⟨Nat.zero_le _, Nat.zero_le _⟩) hS (fun H locs hP hD hS => ?_)
    have bk0_0 : wc_Nd cI cG cZ ad (k0) (x0_0, x0_1, (p5.1, p5.2.1, p5.2.2.1, p5.2.2.2.1, p5.2.2.2.2), x0_3, x0_4, x0_5) w6 := ⟨mk0_0, bk0_1, bk0_35, bk0_55, bk0_58, mk0_61, mk0_62⟩
    have he := Option.some.inj hf
    obtain ⟨e0, e1⟩ := Prod.mk.inj he
    have f0 : wc_Nd cI cG cZ ad (k0) (x0_0, x0_1, y0_2, x0_3, x0_4, x0_5) w6 := by rw [← e1]; exact bk0_0
    exact W.iret (v := p7) hx hb hr (fun t ht hW => ⟨⟨p7, w6, rfl, ⟨e0, ⟨f0, fr⟩⟩, by rw [ht]; exact hP, hD⟩, hS.F ht⟩) hS.2.2 d_Nd_exact_43
  · rw [if_pos c2] at hf
    refine lv_iconst (v := (-1)) hx hb d_Nd_exact_10 (by decide) ?_
    have bk0_0 : wc_Nd cI cG cZ ad (k0) (x0_0, x0_1, x0_2, x0_3, x0_4, x0_5) w0 := ⟨mk0_0, bk0_1, bk0_35, bk0_55, bk0_58, mk0_61, mk0_62⟩
    have he := Option.some.inj hf
    obtain ⟨e0, e1⟩ := Prod.mk.inj he
    have f0 : wc_Nd cI cG cZ ad (k0) (x0_0, x0_1, y0_2, x0_3, x0_4, x0_5) w0 := by rw [← e1]; exact bk0_0
    exact W.iret (v := (-1)) hx hb hr (fun t ht hW => ⟨⟨(-1), w0, rfl, ⟨e0, ⟨f0, fr⟩⟩, by rw [ht]; exact hP, hD⟩, hS.F ht⟩) hS.2.2 d_Nd_exact_11
set_option maxHeartbeats 4000000 in
set_option maxRecDepth 100000 in
theorem c_Nd_match (l : Launch) (D : va_G) (cI cG cZ : ClassId) (ad : Nat → Nat) (B : Nat) (w0 : va_W) (N : Nat) (k0 : Nat) (x0_0 : T_Do) (x0_1 : T_Gr) (x0_2 : T_Rk) (x0_3 : T_Rk) (x0_4 : (Nat → Int32)) (x0_5 : (Nat → Int32)) (a1 : Int32) (a2 : Int32) (r : Int32) (y0_0 : T_Do) (y0_2 : T_Rk) (hf : f_Nd_match N x0_0 x0_2 a1 a2 = some (r, y0_0, y0_2)) (bk0_0 : wc_Nd cI cG cZ ad k0 (x0_0, x0_1, x0_2, x0_3, x0_4, x0_5) w0) : Met l y_Nd_match (.code y_Nd_match b_Nd_match 3 (some .int) :: hw_G) ({ frames := 6, cells := 0, slots := 0, locals := 132 } : Room) (va_Pc [.ref (ad k0), .int a1, .int a2] (hw_U D cI cG cZ B w0)) (va_Qi (fun (r1 : Int32) (w1 : va_W) => r1 = r ∧ wc_Nd cI cG cZ ad k0 (y0_0, x0_1, y0_2, x0_3, x0_4, x0_5) w1 ∧ (∀ j : Nat, (j < k0 ∨ k0 + 63 ≤ j) → w1[j]? = w0[j]?)) (hw_B D B) (fun q : Nat => B ≤ q)) 0 0 (fun q : Nat => B ≤ q) := by
  refine Met.ofW (cc := b_Nd_match) (maxL := 3) (ret := (some .int)) (by decide) rfl ?_
  intro p e s m args below meth c s₁ Bd hml hv
  obtain ⟨rfl, hP, hD, hK, hN⟩ := hv
  have C0 : hw_C p s m meth c b_Nd_match 3 _ R_Nd (some .int) := ⟨Bd.exec, Bd.bytes, Bd.returns, hml, findClass_of_methodNamed Bd.named, fun w h => atoms_spec (ws := .code y_Nd_match b_Nd_match 3 (some .int) :: hw_G) Bd.pre w (List.mem_cons_of_mem _ h), Bd.notSynchronized⟩
  obtain ⟨hx, hb, hr, -, hown, hts, hlocks⟩ := id C0
  have hS : va_S (fun q : Nat => B ≤ q) s.heap s.heap [] := va_S.rf
  have fr : ∀ j : Nat, (j < k0 ∨ k0 + 63 ≤ j) → w0[j]? = w0[j]? := fun j _ => rfl
  have hl := lv_entry ([.ref (ad k0), .int a1, .int a2]) (n := 3) (Nat.le_of_ble_eq_true rfl)
  rw [lg_entry_eq]
  generalize (lg_sl ([.ref (ad k0), .int a1, .int a2]) ++ List.replicate (3 - (lg_sl ([.ref (ad k0), .int a1, .int a2])).length) Slot.unset).toArray = ls at hl ⊢
  have hl : lv_has ls 3 [(0, .ref (ad k0)), (1, .int a1), (2, .int a2)] := hl
  unfold f_Nd_match at hf
  obtain ⟨mk0_0, bk0_1, bk0_35, bk0_55, bk0_58, mk0_61, mk0_62⟩ := id bk0_0
  have mk0_0 : w0[k0]? = some (ad k0, .inr (6, [.ref (ad (k0 + 1)), .ref (ad (k0 + 35)), .ref (ad (k0 + 55)), .ref (ad (k0 + 58)), .ref (ad (k0 + 61)), .ref (ad (k0 + 62))])) := mk0_0
  have bk0_1 : wc_Do cI cG cZ ad (k0 + 1) x0_0 w0 := bk0_1
  have bk0_35 : wc_Gr cI cG cZ ad (k0 + 35) x0_1 w0 := bk0_35
  have bk0_55 : wc_Rk cI cG cZ ad (k0 + 55) x0_2 w0 := bk0_55
  have bk0_58 : wc_Rk cI cG cZ ad (k0 + 58) x0_3 w0 := bk0_58
  have mk0_61 : w0[k0 + 61]? = some (ad (k0 + 61), .inl (cI, 4, .inl x0_4)) := mk0_61
  have mk0_62 : w0[k0 + 62]? = some (ad (k0 + 62), .inl (cI, 30, .inl x0_5)) := mk0_62
  refine lv_iload_n hx hb d_Nd_match_0 rfl (lv_at hl 1 rfl) ?_
  refine lv_iconst (v := 1) hx hb d_Nd_match_1 (by decide) ?_
  refine lv_bipush (v := 10) hx hb d_Nd_match_2 (by decide) ?_
  obtain ⟨p1, hp1, hf⟩ := g_bd hf
  refine hw_ci0 (va_runS (As := [.int a1, .int 1, .int 10]) (rest := []) ⟨hx, hb, hml, hown, hts⟩ (c_Nd_isWithin l D cI cG cZ ad B w0 N a1 1 10 p1 hp1) (va_cwS 3 hts (hw_gS iw_185 gs_Nd_isWithin) rfl rfl rfl (by decide +kernel) ⟨Nat.le_of_ble_eq_true rfl, Nat.le_of_ble_eq_true rfl⟩) ⟨hw_blind, hw_go hP hD hK hN⟩ rfl rfl hl.1 rfl (lv_room (Nat.le_of_ble_eq_true rfl)) d_Nd_match_4 ⟨Nat.zero_le _, Nat.zero_le _⟩) hS (fun H locs hP hD hS => ?_)
  refine lv_if_eq (tgt := 21) hx hb d_Nd_match_7 (by decide) (fun c2 => ?_) (fun c2 => ?_)
  · rw [if_pos c2] at hf
    refine lv_iconst (v := (-1)) hx hb d_Nd_match_21 (by decide) ?_
    have bk0_0 : wc_Nd cI cG cZ ad (k0) (x0_0, x0_1, x0_2, x0_3, x0_4, x0_5) w0 := ⟨mk0_0, bk0_1, bk0_35, bk0_55, bk0_58, mk0_61, mk0_62⟩
    have he := Option.some.inj hf
    obtain ⟨e0, he⟩ := Prod.mk.inj he
    obtain ⟨e1, e2⟩ := Prod.mk.inj he
    have f0 : wc_Nd cI cG cZ ad (k0) (y0_0, x0_1, y0_2, x0_3, x0_4, x0_5) w0 := by rw [← e1, ← e2]; exact bk0_0
    exact W.iret (v := (-1)) hx hb hr (fun t ht hW => ⟨⟨(-1), w0, rfl, ⟨e0, ⟨f0, fr⟩⟩, by rw [ht]; exact hP, hD⟩, hS.F ht⟩) hS.2.2 d_Nd_match_22
  · rw [if_neg c2] at hf
    refine lv_iload_n hx hb d_Nd_match_10 rfl (lv_at hl 2 rfl) ?_
    refine lv_iconst (v := 0) hx hb d_Nd_match_11 (by decide) ?_
    refine lv_sipush (v := 255) hx hb d_Nd_match_12 (by decide) ?_
    obtain ⟨p3, hp3, hf⟩ := g_bd hf
    refine hw_ci0 (va_runS (As := [.int a2, .int 0, .int 255]) (rest := []) ⟨hx, hb, hml, hown, hts⟩ (c_Nd_isWithin l D cI cG cZ ad B w0 N a2 0 255 p3 hp3) (va_cwS 3 hts (hw_gS iw_185 gs_Nd_isWithin) rfl rfl rfl (by decide +kernel) ⟨Nat.le_of_ble_eq_true rfl, Nat.le_of_ble_eq_true rfl⟩) ⟨hw_blind, hw_go hP hD hK hN⟩ rfl rfl hl.1 rfl (lv_room (Nat.le_of_ble_eq_true rfl)) d_Nd_match_15 ⟨Nat.zero_le _, Nat.zero_le _⟩) hS (fun H locs hP hD hS => ?_)
    refine lv_if_ne (tgt := 23) hx hb d_Nd_match_18 (by decide) (fun c4 => ?_) (fun c4 => ?_)
    · rw [if_neg c4] at hf
      refine lv_aload_n hx hb d_Nd_match_23 rfl (lv_at hl 0 rfl) ?_
      refine va_get (D := D) (ci := 6) (v := .ref (ad (k0 + 55))) (C := R_Nd) (T := F_Nd) (N := 6) hx hb hts i_Nd hown hK hP (k0) mk0_0 rfl 2 (by decide) (hts _ iw_158) (fun _ h9 => h9) rfl d_Nd_match_24 ?_
      refine lv_iload_n hx hb d_Nd_match_27 rfl (lv_at hl 1 rfl) ?_
      refine lv_iconst (v := 1) hx hb d_Nd_match_28 (by decide) ?_
      obtain ⟨p5, hp5, hf⟩ := g_bd hf
      refine hw_cv (va_runV (As := [.int a1, .int 1]) (rest := []) ⟨hx, hb, hml, hown, hts⟩ (c_Rk_start l D cI cG cZ ad B w0 N (k0 + 55) x0_2.1 x0_2.2.1 x0_2.2.2.1 x0_2.2.2.2.1 x0_2.2.2.2.2 a1 1 p5.1 p5.2.1 p5.2.2 hp5 bk0_55) (cwV 2 hts (hw_gV iw_413 gy_Rk_start) rfl rfl rfl (by decide +kernel) ⟨Nat.le_of_ble_eq_true rfl, Nat.le_of_ble_eq_true rfl⟩) ⟨hw_blind, va_recv hK hP (ci := 4) (q0 := k0 + 55) rfl bk0_55.1, hw_go hP hD hK hN⟩ rfl rfl hl.1 rfl (lv_room (Nat.le_of_ble_eq_true rfl)) d_Nd_match_29 ⟨Nat.zero_le _, Nat.zero_le _⟩) hS (fun w6 H locs hP hD hS hpp => ?_)
      obtain ⟨q0, frc⟩ := hpp
      have bk0_55 : wc_Rk cI cG cZ ad (k0 + 55) (x0_2.1, x0_2.2.1, p5.1, p5.2.1, p5.2.2) w6 := q0
      have mk0_0 : w6[k0]? = some (ad k0, .inr (6, [.ref (ad (k0 + 1)), .ref (ad (k0 + 35)), .ref (ad (k0 + 55)), .ref (ad (k0 + 58)), .ref (ad (k0 + 61)), .ref (ad (k0 + 62))])) := (frc _ (by omega)).trans mk0_0
      have bk0_1 : wc_Do cI cG cZ ad (k0 + 1) x0_0 w6 := bk0_1.fr (fun j h1 h2 => frc j (by omega))
      have bk0_35 : wc_Gr cI cG cZ ad (k0 + 35) x0_1 w6 := bk0_35.fr (fun j h1 h2 => frc j (by omega))
      have bk0_58 : wc_Rk cI cG cZ ad (k0 + 58) x0_3 w6 := bk0_58.fr (fun j h1 h2 => frc j (by omega))
      have mk0_61 : w6[k0 + 61]? = some (ad (k0 + 61), .inl (cI, 4, .inl x0_4)) := (frc _ (by omega)).trans mk0_61
      have mk0_62 : w6[k0 + 62]? = some (ad (k0 + 62), .inl (cI, 30, .inl x0_5)) := (frc _ (by omega)).trans mk0_62
      have fr : ∀ j : Nat, (j < k0 ∨ k0 + 63 ≤ j) → w6[j]? = w0[j]? := fun j o0 => (frc j (by omega)).trans (fr j o0)
      refine lv_aload_n hx hb d_Nd_match_32 rfl (lv_at hl 0 rfl) ?_
      refine va_get (D := D) (ci := 6) (v := .ref (ad (k0 + 1))) (C := R_Nd) (T := F_Nd) (N := 6) hx hb hts i_Nd hown hK hP (k0) mk0_0 rfl 0 (by decide) (hts _ iw_156) (fun _ h9 => h9) rfl d_Nd_match_33 ?_
      refine lv_iload_n hx hb d_Nd_match_36 rfl (lv_at hl 2 rfl) ?_
      refine lv_aload_n hx hb d_Nd_match_37 rfl (lv_at hl 0 rfl) ?_
      refine va_get (D := D) (ci := 6) (v := .ref (ad (k0 + 55))) (C := R_Nd) (T := F_Nd) (N := 6) hx hb hts i_Nd hown hK hP (k0) mk0_0 rfl 2 (by decide) (hts _ iw_158) (fun _ h9 => h9) rfl d_Nd_match_38 ?_
      obtain ⟨p7, hp7, hf⟩ := g_bd hf
      refine hw_cv (va_runV (As := [.int a2, .ref (ad (k0 + 55))]) (rest := []) ⟨hx, hb, hml, hown, hts⟩ (c_Do_rankByScore l D cI cG cZ ad B w6 N (k0 + 1) x0_0.1 x0_0.2.1 x0_0.2.2.1 x0_0.2.2.2 (k0 + 55) x0_2.1 x0_2.2.1 p5.1 p5.2.1 p5.2.2 a2 p7.1 p7.2.1 p7.2.2.1 p7.2.2.2.1 p7.2.2.2.2.1 p7.2.2.2.2.2 hp7 bk0_1 bk0_55 (by omega)) (cwV 2 hts (hw_gV iw_444 gy_Do_rankByScore) rfl rfl rfl (by decide +kernel) ⟨Nat.le_of_ble_eq_true rfl, Nat.le_of_ble_eq_true rfl⟩) ⟨hw_blind, va_recv hK hP (ci := 1) (q0 := k0 + 1) rfl bk0_1.1, hw_go hP hD hK hN⟩ rfl rfl hl.1 rfl (lv_room (Nat.le_of_ble_eq_true rfl)) d_Nd_match_41 ⟨Nat.zero_le _, Nat.zero_le _⟩) hS (fun w8 H locs hP hD hS hpp => ?_)
      obtain ⟨q0, q1, frc⟩ := hpp
      have bk0_1 : wc_Do cI cG cZ ad (k0 + 1) (x0_0.1, x0_0.2.1, p7.1, x0_0.2.2.2) w8 := q0
      have bk0_55 : wc_Rk cI cG cZ ad (k0 + 55) (p7.2.1, p7.2.2.1, p7.2.2.2.1, p7.2.2.2.2.1, p7.2.2.2.2.2) w8 := q1
      have mk0_0 : w8[k0]? = some (ad k0, .inr (6, [.ref (ad (k0 + 1)), .ref (ad (k0 + 35)), .ref (ad (k0 + 55)), .ref (ad (k0 + 58)), .ref (ad (k0 + 61)), .ref (ad (k0 + 62))])) := (frc _ (by omega) (by omega)).trans mk0_0
      have bk0_35 : wc_Gr cI cG cZ ad (k0 + 35) x0_1 w8 := bk0_35.fr (fun j h1 h2 => frc j (by omega) (by omega))
      have bk0_58 : wc_Rk cI cG cZ ad (k0 + 58) x0_3 w8 := bk0_58.fr (fun j h1 h2 => frc j (by omega) (by omega))
      have mk0_61 : w8[k0 + 61]? = some (ad (k0 + 61), .inl (cI, 4, .inl x0_4)) := (frc _ (by omega) (by omega)).trans mk0_61
      have mk0_62 : w8[k0 + 62]? = some (ad (k0 + 62), .inl (cI, 30, .inl x0_5)) := (frc _ (by omega) (by omega)).trans mk0_62
      have fr : ∀ j : Nat, (j < k0 ∨ k0 + 63 ≤ j) → w8[j]? = w0[j]? := fun j o0 => (frc j (by omega) (by omega)).trans (fr j o0)
      refine lv_aload_n hx hb d_Nd_match_44 rfl (lv_at hl 0 rfl) ?_
      refine va_get (D := D) (ci := 6) (v := .ref (ad (k0 + 55))) (C := R_Nd) (T := F_Nd) (N := 6) hx hb hts i_Nd hown hK hP (k0) mk0_0 rfl 2 (by decide) (hts _ iw_158) (fun _ h9 => h9) rfl d_Nd_match_45 ?_
      obtain ⟨p9, hp9, hf⟩ := g_bd hf
      refine hw_ci0 (va_runV (As := []) (rest := []) ⟨hx, hb, hml, hown, hts⟩ (c_Rk_size l D cI cG cZ ad B w8 N (k0 + 55) p7.2.1 p7.2.2.1 p7.2.2.2.1 p7.2.2.2.2.1 p7.2.2.2.2.2 p9 hp9 bk0_55) (cwV 0 hts (hw_gV iw_427 gy_Rk_size) rfl rfl rfl (by decide +kernel) ⟨Nat.le_of_ble_eq_true rfl, Nat.le_of_ble_eq_true rfl⟩) ⟨hw_blind, va_recv hK hP (ci := 4) (q0 := k0 + 55) rfl bk0_55.1, hw_go hP hD hK hN⟩ rfl rfl hl.1 rfl (lv_room (Nat.le_of_ble_eq_true rfl)) d_Nd_match_48 ⟨Nat.zero_le _, Nat.zero_le _⟩) hS (fun H locs hP hD hS => ?_)
      have bk0_0 : wc_Nd cI cG cZ ad (k0) ((x0_0.1, x0_0.2.1, p7.1, x0_0.2.2.2), x0_1, (p7.2.1, p7.2.2.1, p7.2.2.2.1, p7.2.2.2.2.1, p7.2.2.2.2.2), x0_3, x0_4, x0_5) w8 := ⟨mk0_0, bk0_1, bk0_35, bk0_55, bk0_58, mk0_61, mk0_62⟩
      have he := Option.some.inj hf
      obtain ⟨e0, he⟩ := Prod.mk.inj he
      obtain ⟨e1, e2⟩ := Prod.mk.inj he
      have f0 : wc_Nd cI cG cZ ad (k0) (y0_0, x0_1, y0_2, x0_3, x0_4, x0_5) w8 := by rw [← e1, ← e2]; exact bk0_0
      exact W.iret (v := p9) hx hb hr (fun t ht hW => ⟨⟨p9, w8, rfl, ⟨e0, ⟨f0, fr⟩⟩, by rw [ht]; exact hP, hD⟩, hS.F ht⟩) hS.2.2 d_Nd_match_51
    · rw [if_pos c4] at hf
      refine lv_iconst (v := (-1)) hx hb d_Nd_match_21 (by decide) ?_
      have bk0_0 : wc_Nd cI cG cZ ad (k0) (x0_0, x0_1, x0_2, x0_3, x0_4, x0_5) w0 := ⟨mk0_0, bk0_1, bk0_35, bk0_55, bk0_58, mk0_61, mk0_62⟩
      have he := Option.some.inj hf
      obtain ⟨e0, he⟩ := Prod.mk.inj he
      obtain ⟨e1, e2⟩ := Prod.mk.inj he
      have f0 : wc_Nd cI cG cZ ad (k0) (y0_0, x0_1, y0_2, x0_3, x0_4, x0_5) w0 := by rw [← e1, ← e2]; exact bk0_0
      exact W.iret (v := (-1)) hx hb hr (fun t ht hW => ⟨⟨(-1), w0, rfl, ⟨e0, ⟨f0, fr⟩⟩, by rw [ht]; exact hP, hD⟩, hS.F ht⟩) hS.2.2 d_Nd_match_22
set_option maxHeartbeats 4000000 in
set_option maxRecDepth 100000 in
theorem wl_Nd_clearPoints_2 {p : Program} {l : Launch} {e : Env} {s : State} {m : MethodId} {args : Array Value} {below : List Frame} {meth : Method} {c : Code} {D : va_G} {cI cG cZ : ClassId} {ad : Nat → Nat} {B : Nat} {w0 : va_W} {N : Nat} {k0 : Nat} (C0 : hw_C p s m meth c b_Nd_clearPoints 2 args R_Nd none) (hK : va_K D classes [(cI, .int), (cG, .array .int), (cZ, .boolean)] s) (hN : hw_N s) (x0_0 : T_Do) (x0_1 : T_Gr) (x0_2 : T_Rk) (x0_3 : T_Rk) (x0_4 : (Nat → Int32)) (x0_5 : (Nat → Int32)) (y0_5 : (Nat → Int32)) : ∀ (n : Nat) (vak0_62 : (Nat → Int32)) (v1 : Int32) (ws : va_W) (H : Heap) (locs : List Loc) (ls : Array Slot), va_P D classes ws H → va_D (fun q : Nat => B ≤ q) ws → va_S (fun q : Nat => B ≤ q) s.heap H locs → lv_has ls 2 [(1, .int v1), (0, .ref (ad k0))] → ws[k0]? = some (ad k0, .inr (6, [.ref (ad (k0 + 1)), .ref (ad (k0 + 35)), .ref (ad (k0 + 55)), .ref (ad (k0 + 58)), .ref (ad (k0 + 61)), .ref (ad (k0 + 62))])) → wc_Do cI cG cZ ad (k0 + 1) x0_0 ws → wc_Gr cI cG cZ ad (k0 + 35) x0_1 ws → wc_Rk cI cG cZ ad (k0 + 55) x0_2 ws → wc_Rk cI cG cZ ad (k0 + 58) x0_3 ws → ws[k0 + 61]? = some (ad (k0 + 61), .inl (cI, 4, .inl x0_4)) → ws[k0 + 62]? = some (ad (k0 + 62), .inl (cI, 30, .inl vak0_62)) → (∀ j : Nat, (j < k0 ∨ k0 + 63 ≤ j) → ws[j]? = w0[j]?) → f_Nd_clearPoints_2 N n vak0_62 v1 = some y0_5 → W p l e ({ frames := 0, cells := 0, slots := 0, locals := 0 } : Room) s m args below meth c H locs 0 0 (MQ below (va_Qv (fun (w1 : va_W) => wc_Nd cI cG cZ ad k0 (x0_0, x0_1, x0_2, x0_3, x0_4, y0_5) w1 ∧ (∀ j : Nat, (j < k0 ∨ k0 + 63 ≤ j) → w1[j]? = w0[j]?)) (hw_B D B) (fun q : Nat => B ≤ q)) args s 0 0 (fun q : Nat => B ≤ q)) (F0 m 2 ls []) := by
  obtain ⟨hx, hb, hr, hml, hown, hts, hlocks⟩ := id C0
  intro n
  induction n with
  | zero =>
    intro vak0_62 v1 ws H locs ls hP hD hS hl mk0_0 bk0_1 bk0_35 bk0_55 bk0_58 mk0_61 mk0_62 fr hf
    exact nomatch (show none = some _ from hf)
  | succ n ih =>
    intro vak0_62 v1 ws H locs ls hP hD hS hl mk0_0 bk0_1 bk0_35 bk0_55 bk0_58 mk0_61 mk0_62 fr hf
    rw [f_Nd_clearPoints_2] at hf
    refine lv_iload_n hx hb d_Nd_clearPoints_2 rfl (lv_at hl 0 rfl) ?_
    refine lv_bipush (v := 30) hx hb d_Nd_clearPoints_3 (by decide) ?_
    refine lv_icmp_ge (tgt := 21) hx hb d_Nd_clearPoints_5 (by decide) (fun c1 => ?_) (fun c1 => ?_)
    · rw [if_pos c1] at hf
      have bk0_0 : wc_Nd cI cG cZ ad (k0) (x0_0, x0_1, x0_2, x0_3, x0_4, vak0_62) ws := ⟨mk0_0, bk0_1, bk0_35, bk0_55, bk0_58, mk0_61, mk0_62⟩
      have e0 := Option.some.inj hf
      have f0 : wc_Nd cI cG cZ ad (k0) (x0_0, x0_1, x0_2, x0_3, x0_4, y0_5) ws := by rw [← e0]; exact bk0_0
      exact W.vret hx hb hr (fun t ht hW => ⟨⟨ws, rfl, ⟨f0, fr⟩, by rw [ht]; exact hP, hD⟩, hS.F ht⟩) hS.2.2 d_Nd_clearPoints_21
    · rw [if_neg c1] at hf
      refine lv_aload_n hx hb d_Nd_clearPoints_8 rfl (lv_at hl 1 rfl) ?_
      refine va_get (D := D) (ci := 6) (v := .ref (ad (k0 + 62))) (C := R_Nd) (T := F_Nd) (N := 6) hx hb hts i_Nd hown hK hP (k0) mk0_0 rfl 5 (by decide) (hts _ iw_161) (fun _ h9 => h9) rfl d_Nd_clearPoints_9 ?_
      refine lv_iload_n hx hb d_Nd_clearPoints_12 rfl (lv_at hl 0 rfl) ?_
      refine lv_iconst (v := 0) hx hb d_Nd_clearPoints_13 (by decide) ?_
      obtain ⟨z2, hf⟩ := g_atE hf
      refine va_iast hx hb hK hP hD hS (k0 + 62) 0 mk0_62 rfl z2 d_Nd_clearPoints_14 (fun H locs hP hD hS => ?_)
      obtain ⟨w3, hP, hD, hne, heq⟩ := hs_up hP hD mk0_62
      have mk0_62 : w3[k0 + 62]? = some (ad (k0 + 62), .inl (cI, 30, .inl (upd vak0_62 v1.toNatClampNeg 0))) := heq
      have mk0_0 : w3[k0]? = some (ad k0, .inr (6, [.ref (ad (k0 + 1)), .ref (ad (k0 + 35)), .ref (ad (k0 + 55)), .ref (ad (k0 + 58)), .ref (ad (k0 + 61)), .ref (ad (k0 + 62))])) := (hne _ (by omega)).trans mk0_0
      have bk0_1 : wc_Do cI cG cZ ad (k0 + 1) x0_0 w3 := bk0_1.fr (fun j h1 h2 => hne j (by omega))
      have bk0_35 : wc_Gr cI cG cZ ad (k0 + 35) x0_1 w3 := bk0_35.fr (fun j h1 h2 => hne j (by omega))
      have bk0_55 : wc_Rk cI cG cZ ad (k0 + 55) x0_2 w3 := bk0_55.fr (fun j h1 h2 => hne j (by omega))
      have bk0_58 : wc_Rk cI cG cZ ad (k0 + 58) x0_3 w3 := bk0_58.fr (fun j h1 h2 => hne j (by omega))
      have mk0_61 : w3[k0 + 61]? = some (ad (k0 + 61), .inl (cI, 4, .inl x0_4)) := (hne _ (by omega)).trans mk0_61
      have fr : ∀ j : Nat, (j < k0 ∨ k0 + 63 ≤ j) → w3[j]? = w0[j]? := fun j o0 => (hne j (by omega)).trans (fr j o0)
      refine lv_iinc (v := v1 + 1) (lv' := [(1, .int (v1 + 1)), (0, .ref (ad k0))]) hx hb d_Nd_clearPoints_15 hl (k := 0) rfl rfl (by decide) rfl (fun ls hl => ?_)
      refine lv_goto (tgt := 2) hx hb d_Nd_clearPoints_18 (by decide) ?_
      exact ih (upd vak0_62 v1.toNatClampNeg 0) (v1 + 1) _ _ _ _ hP hD hS (lv_sub hl [0, 1] rfl) mk0_0 bk0_1 bk0_35 bk0_55 bk0_58 mk0_61 mk0_62 fr hf
set_option maxHeartbeats 4000000 in
set_option maxRecDepth 100000 in
theorem c_Nd_clearPoints (l : Launch) (D : va_G) (cI cG cZ : ClassId) (ad : Nat → Nat) (B : Nat) (w0 : va_W) (N : Nat) (k0 : Nat) (x0_0 : T_Do) (x0_1 : T_Gr) (x0_2 : T_Rk) (x0_3 : T_Rk) (x0_4 : (Nat → Int32)) (x0_5 : (Nat → Int32)) (y0_5 : (Nat → Int32)) (hf : f_Nd_clearPoints N x0_5 = some y0_5) (bk0_0 : wc_Nd cI cG cZ ad k0 (x0_0, x0_1, x0_2, x0_3, x0_4, x0_5) w0) : Met l y_Nd_clearPoints (.code y_Nd_clearPoints b_Nd_clearPoints 2 none :: hw_G) ({ frames := 0, cells := 0, slots := 0, locals := 0 } : Room) (va_Pc [.ref (ad k0)] (hw_U D cI cG cZ B w0)) (va_Qv (fun (w1 : va_W) => wc_Nd cI cG cZ ad k0 (x0_0, x0_1, x0_2, x0_3, x0_4, y0_5) w1 ∧ (∀ j : Nat, (j < k0 ∨ k0 + 63 ≤ j) → w1[j]? = w0[j]?)) (hw_B D B) (fun q : Nat => B ≤ q)) 0 0 (fun q : Nat => B ≤ q) := by
  refine Met.ofW (cc := b_Nd_clearPoints) (maxL := 2) (ret := none) (by decide) rfl ?_
  intro p e s m args below meth c s₁ Bd hml hv
  obtain ⟨rfl, hP, hD, hK, hN⟩ := hv
  have C0 : hw_C p s m meth c b_Nd_clearPoints 2 _ R_Nd none := ⟨Bd.exec, Bd.bytes, Bd.returns, hml, findClass_of_methodNamed Bd.named, fun w h => atoms_spec (ws := .code y_Nd_clearPoints b_Nd_clearPoints 2 none :: hw_G) Bd.pre w (List.mem_cons_of_mem _ h), Bd.notSynchronized⟩
  obtain ⟨hx, hb, hr, -, hown, hts, hlocks⟩ := id C0
  have hS : va_S (fun q : Nat => B ≤ q) s.heap s.heap [] := va_S.rf
  have fr : ∀ j : Nat, (j < k0 ∨ k0 + 63 ≤ j) → w0[j]? = w0[j]? := fun j _ => rfl
  have hl := lv_entry ([.ref (ad k0)]) (n := 2) (Nat.le_of_ble_eq_true rfl)
  rw [lg_entry_eq]
  generalize (lg_sl ([.ref (ad k0)]) ++ List.replicate (2 - (lg_sl ([.ref (ad k0)])).length) Slot.unset).toArray = ls at hl ⊢
  have hl : lv_has ls 2 [(0, .ref (ad k0))] := hl
  unfold f_Nd_clearPoints at hf
  obtain ⟨mk0_0, bk0_1, bk0_35, bk0_55, bk0_58, mk0_61, mk0_62⟩ := id bk0_0
  have mk0_0 : w0[k0]? = some (ad k0, .inr (6, [.ref (ad (k0 + 1)), .ref (ad (k0 + 35)), .ref (ad (k0 + 55)), .ref (ad (k0 + 58)), .ref (ad (k0 + 61)), .ref (ad (k0 + 62))])) := mk0_0
  have bk0_1 : wc_Do cI cG cZ ad (k0 + 1) x0_0 w0 := bk0_1
  have bk0_35 : wc_Gr cI cG cZ ad (k0 + 35) x0_1 w0 := bk0_35
  have bk0_55 : wc_Rk cI cG cZ ad (k0 + 55) x0_2 w0 := bk0_55
  have bk0_58 : wc_Rk cI cG cZ ad (k0 + 58) x0_3 w0 := bk0_58
  have mk0_61 : w0[k0 + 61]? = some (ad (k0 + 61), .inl (cI, 4, .inl x0_4)) := mk0_61
  have mk0_62 : w0[k0 + 62]? = some (ad (k0 + 62), .inl (cI, 30, .inl x0_5)) := mk0_62
  refine lv_iconst (v := 0) hx hb d_Nd_clearPoints_0 (by decide) ?_
  refine lv_istore_n (lv' := [(1, .int 0), (0, .ref (ad k0))]) hx hb d_Nd_clearPoints_1 rfl hl (by decide) rfl (fun ls hl => ?_)
  exact wl_Nd_clearPoints_2 (ad := ad) C0 hK hN x0_0 x0_1 x0_2 x0_3 x0_4 x0_5 y0_5 N x0_5 0 _ _ _ _ hP hD hS (lv_sub hl [0, 1] rfl) mk0_0 bk0_1 bk0_35 bk0_55 bk0_58 mk0_61 mk0_62 fr hf
set_option maxHeartbeats 4000000 in
set_option maxRecDepth 100000 in
theorem wl_Nd_addPoints_scratch_2 {p : Program} {l : Launch} {e : Env} {s : State} {m : MethodId} {args : Array Value} {below : List Frame} {meth : Method} {c : Code} {D : va_G} {cI cG cZ : ClassId} {ad : Nat → Nat} {B : Nat} {w0 : va_W} {N : Nat} {k0 : Nat} (C0 : hw_C p s m meth c b_Nd_addPoints 3 args R_Nd none) (hK : va_K D classes [(cI, .int), (cG, .array .int), (cZ, .boolean)] s) (hN : hw_N s) (x0_0 : T_Do) (x0_1 : T_Gr) (x0_2 : T_Rk) (x0_3 : T_Rk) (x0_4 : (Nat → Int32)) (x0_5 : (Nat → Int32)) (y0_5 : (Nat → Int32)) : ∀ (n : Nat) (vak0_62 : (Nat → Int32)) (v2 : Int32) (ws : va_W) (H : Heap) (locs : List Loc) (ls : Array Slot), va_P D classes ws H → va_D (fun q : Nat => B ≤ q) ws → va_S (fun q : Nat => B ≤ q) s.heap H locs → lv_has ls 3 [(2, .int v2), (0, .ref (ad k0)), (1, .ref (ad (k0 + 58)))] → ws[k0]? = some (ad k0, .inr (6, [.ref (ad (k0 + 1)), .ref (ad (k0 + 35)), .ref (ad (k0 + 55)), .ref (ad (k0 + 58)), .ref (ad (k0 + 61)), .ref (ad (k0 + 62))])) → wc_Do cI cG cZ ad (k0 + 1) x0_0 ws → wc_Gr cI cG cZ ad (k0 + 35) x0_1 ws → wc_Rk cI cG cZ ad (k0 + 55) x0_2 ws → wc_Rk cI cG cZ ad (k0 + 58) x0_3 ws → ws[k0 + 61]? = some (ad (k0 + 61), .inl (cI, 4, .inl x0_4)) → ws[k0 + 62]? = some (ad (k0 + 62), .inl (cI, 30, .inl vak0_62)) → (∀ j : Nat, (j < k0 ∨ k0 + 63 ≤ j) → ws[j]? = w0[j]?) → f_Nd_addPoints_scratch_2 N x0_3 n vak0_62 v2 = some y0_5 → W p l e ({ frames := 1, cells := 0, slots := 0, locals := 21 } : Room) s m args below meth c H locs 0 0 (MQ below (va_Qv (fun (w1 : va_W) => wc_Nd cI cG cZ ad k0 (x0_0, x0_1, x0_2, x0_3, x0_4, y0_5) w1 ∧ (∀ j : Nat, (j < k0 ∨ k0 + 63 ≤ j) → w1[j]? = w0[j]?)) (hw_B D B) (fun q : Nat => B ≤ q)) args s 0 0 (fun q : Nat => B ≤ q)) (F0 m 2 ls []) := by
  obtain ⟨hx, hb, hr, hml, hown, hts, hlocks⟩ := id C0
  intro n
  induction n with
  | zero =>
    intro vak0_62 v2 ws H locs ls hP hD hS hl mk0_0 bk0_1 bk0_35 bk0_55 bk0_58 mk0_61 mk0_62 fr hf
    exact nomatch (show none = some _ from hf)
  | succ n ih =>
    intro vak0_62 v2 ws H locs ls hP hD hS hl mk0_0 bk0_1 bk0_35 bk0_55 bk0_58 mk0_61 mk0_62 fr hf
    rw [f_Nd_addPoints_scratch_2] at hf
    refine lv_iload_n hx hb d_Nd_addPoints_2 rfl (lv_at hl 0 rfl) ?_
    refine lv_aload_n hx hb d_Nd_addPoints_3 rfl (lv_at hl 2 rfl) ?_
    obtain ⟨p1, hp1, hf⟩ := g_bd hf
    refine hw_ci0 (va_runV (As := []) (rest := [.int v2]) ⟨hx, hb, hml, hown, hts⟩ (c_Rk_size l D cI cG cZ ad B ws N (k0 + 58) x0_3.1 x0_3.2.1 x0_3.2.2.1 x0_3.2.2.2.1 x0_3.2.2.2.2 p1 hp1 bk0_58) (cwV 0 hts (hw_gV iw_427 gy_Rk_size) rfl rfl rfl (by decide +kernel) ⟨Nat.le_of_ble_eq_true rfl, Nat.le_of_ble_eq_true rfl⟩) ⟨hw_blind, va_recv hK hP (ci := 4) (q0 := k0 + 58) rfl bk0_58.1, hw_go hP hD hK hN⟩ rfl rfl hl.1 rfl (lv_room (Nat.le_of_ble_eq_true rfl)) d_Nd_addPoints_4 ⟨Nat.zero_le _, Nat.zero_le _⟩) hS (fun H locs hP hD hS => ?_)
    refine lv_icmp_ge (tgt := 37) hx hb d_Nd_addPoints_7 (by decide) (fun c2 => ?_) (fun c2 => ?_)
    · rw [if_pos c2] at hf
      have bk0_0 : wc_Nd cI cG cZ ad (k0) (x0_0, x0_1, x0_2, x0_3, x0_4, vak0_62) ws := ⟨mk0_0, bk0_1, bk0_35, bk0_55, bk0_58, mk0_61, mk0_62⟩
      have e0 := Option.some.inj hf
      have f0 : wc_Nd cI cG cZ ad (k0) (x0_0, x0_1, x0_2, x0_3, x0_4, y0_5) ws := by rw [← e0]; exact bk0_0
      exact W.vret hx hb hr (fun t ht hW => ⟨⟨ws, rfl, ⟨f0, fr⟩, by rw [ht]; exact hP, hD⟩, hS.F ht⟩) hS.2.2 d_Nd_addPoints_37
    · rw [if_neg c2] at hf
      refine lv_aload_n hx hb d_Nd_addPoints_10 rfl (lv_at hl 1 rfl) ?_
      refine va_get (D := D) (ci := 6) (v := .ref (ad (k0 + 62))) (C := R_Nd) (T := F_Nd) (N := 6) hx hb hts i_Nd hown hK hP (k0) mk0_0 rfl 5 (by decide) (hts _ iw_161) (fun _ h9 => h9) rfl d_Nd_addPoints_11 ?_
      refine lv_aload_n hx hb d_Nd_addPoints_14 rfl (lv_at hl 2 rfl) ?_
      refine lv_iload_n hx hb d_Nd_addPoints_15 rfl (lv_at hl 0 rfl) ?_
      obtain ⟨p3, hp3, hf⟩ := g_bd hf
      refine hw_ci0 (va_runV (As := [.int v2]) (rest := [.ref (ad (k0 + 62))]) ⟨hx, hb, hml, hown, hts⟩ (c_Rk_numberAt l D cI cG cZ ad B ws N (k0 + 58) x0_3.1 x0_3.2.1 x0_3.2.2.1 x0_3.2.2.2.1 x0_3.2.2.2.2 v2 p3 hp3 bk0_58) (cwV 1 hts (hw_gV iw_428 gy_Rk_numberAt) rfl rfl rfl (by decide +kernel) ⟨Nat.le_of_ble_eq_true rfl, Nat.le_of_ble_eq_true rfl⟩) ⟨hw_blind, va_recv hK hP (ci := 4) (q0 := k0 + 58) rfl bk0_58.1, hw_go hP hD hK hN⟩ rfl rfl hl.1 rfl (lv_room (Nat.le_of_ble_eq_true rfl)) d_Nd_addPoints_16 ⟨Nat.zero_le _, Nat.zero_le _⟩) hS (fun H locs hP hD hS => ?_)
      refine lv_dup2_11 hx hb d_Nd_addPoints_19 rfl rfl ?_
      obtain ⟨z4, hf⟩ := g_atE hf
      refine va_iald hx hb hK hP (k0 + 62) 0 mk0_62 rfl z4 d_Nd_addPoints_20 ?_
      refine lv_sipush (v := 1000) hx hb d_Nd_addPoints_21 (by decide) ?_
      refine lv_bipush (v := 10) hx hb d_Nd_addPoints_24 (by decide) ?_
      refine lv_iload_n hx hb d_Nd_addPoints_26 rfl (lv_at hl 0 rfl) ?_
      refine lv_iadd hx hb d_Nd_addPoints_27 ?_
      obtain ⟨z5, hf⟩ := g_dvE hf
      refine lv_idiv hx hb d_Nd_addPoints_28 z5 ?_
      refine lv_iadd hx hb d_Nd_addPoints_29 ?_
      obtain ⟨z6, hf⟩ := g_atE hf
      refine va_iast hx hb hK hP hD hS (k0 + 62) 0 mk0_62 rfl z6 d_Nd_addPoints_30 (fun H locs hP hD hS => ?_)
      obtain ⟨w7, hP, hD, hne, heq⟩ := hs_up hP hD mk0_62
      have mk0_62 : w7[k0 + 62]? = some (ad (k0 + 62), .inl (cI, 30, .inl (upd vak0_62 p3.toNatClampNeg ((vak0_62 p3.toNatClampNeg) + (1000 / (10 + v2)))))) := heq
      have mk0_0 : w7[k0]? = some (ad k0, .inr (6, [.ref (ad (k0 + 1)), .ref (ad (k0 + 35)), .ref (ad (k0 + 55)), .ref (ad (k0 + 58)), .ref (ad (k0 + 61)), .ref (ad (k0 + 62))])) := (hne _ (by omega)).trans mk0_0
      have bk0_1 : wc_Do cI cG cZ ad (k0 + 1) x0_0 w7 := bk0_1.fr (fun j h1 h2 => hne j (by omega))
      have bk0_35 : wc_Gr cI cG cZ ad (k0 + 35) x0_1 w7 := bk0_35.fr (fun j h1 h2 => hne j (by omega))
      have bk0_55 : wc_Rk cI cG cZ ad (k0 + 55) x0_2 w7 := bk0_55.fr (fun j h1 h2 => hne j (by omega))
      have bk0_58 : wc_Rk cI cG cZ ad (k0 + 58) x0_3 w7 := bk0_58.fr (fun j h1 h2 => hne j (by omega))
      have mk0_61 : w7[k0 + 61]? = some (ad (k0 + 61), .inl (cI, 4, .inl x0_4)) := (hne _ (by omega)).trans mk0_61
      have fr : ∀ j : Nat, (j < k0 ∨ k0 + 63 ≤ j) → w7[j]? = w0[j]? := fun j o0 => (hne j (by omega)).trans (fr j o0)
      refine lv_iinc (v := v2 + 1) (lv' := [(2, .int (v2 + 1)), (0, .ref (ad k0)), (1, .ref (ad (k0 + 58)))]) hx hb d_Nd_addPoints_31 hl (k := 0) rfl rfl (by decide) rfl (fun ls hl => ?_)
      refine lv_goto (tgt := 2) hx hb d_Nd_addPoints_34 (by decide) ?_
      exact ih (upd vak0_62 p3.toNatClampNeg ((vak0_62 p3.toNatClampNeg) + (1000 / (10 + v2)))) (v2 + 1) _ _ _ _ hP hD hS (lv_sub hl [0, 1, 2] rfl) mk0_0 bk0_1 bk0_35 bk0_55 bk0_58 mk0_61 mk0_62 fr hf
set_option maxHeartbeats 4000000 in
set_option maxRecDepth 100000 in
theorem c_Nd_addPoints_scratch (l : Launch) (D : va_G) (cI cG cZ : ClassId) (ad : Nat → Nat) (B : Nat) (w0 : va_W) (N : Nat) (k0 : Nat) (x0_0 : T_Do) (x0_1 : T_Gr) (x0_2 : T_Rk) (x0_3 : T_Rk) (x0_4 : (Nat → Int32)) (x0_5 : (Nat → Int32)) (y0_5 : (Nat → Int32)) (hf : f_Nd_addPoints_scratch N x0_3 x0_5 = some y0_5) (bk0_0 : wc_Nd cI cG cZ ad k0 (x0_0, x0_1, x0_2, x0_3, x0_4, x0_5) w0) : Met l y_Nd_addPoints (.code y_Nd_addPoints b_Nd_addPoints 3 none :: hw_G) ({ frames := 1, cells := 0, slots := 0, locals := 21 } : Room) (va_Pc [.ref (ad k0), .ref (ad (k0 + 58))] (hw_U D cI cG cZ B w0)) (va_Qv (fun (w1 : va_W) => wc_Nd cI cG cZ ad k0 (x0_0, x0_1, x0_2, x0_3, x0_4, y0_5) w1 ∧ (∀ j : Nat, (j < k0 ∨ k0 + 63 ≤ j) → w1[j]? = w0[j]?)) (hw_B D B) (fun q : Nat => B ≤ q)) 0 0 (fun q : Nat => B ≤ q) := by
  refine Met.ofW (cc := b_Nd_addPoints) (maxL := 3) (ret := none) (by decide) rfl ?_
  intro p e s m args below meth c s₁ Bd hml hv
  obtain ⟨rfl, hP, hD, hK, hN⟩ := hv
  have C0 : hw_C p s m meth c b_Nd_addPoints 3 _ R_Nd none := ⟨Bd.exec, Bd.bytes, Bd.returns, hml, findClass_of_methodNamed Bd.named, fun w h => atoms_spec (ws := .code y_Nd_addPoints b_Nd_addPoints 3 none :: hw_G) Bd.pre w (List.mem_cons_of_mem _ h), Bd.notSynchronized⟩
  obtain ⟨hx, hb, hr, -, hown, hts, hlocks⟩ := id C0
  have hS : va_S (fun q : Nat => B ≤ q) s.heap s.heap [] := va_S.rf
  have fr : ∀ j : Nat, (j < k0 ∨ k0 + 63 ≤ j) → w0[j]? = w0[j]? := fun j _ => rfl
  have hl := lv_entry ([.ref (ad k0), .ref (ad (k0 + 58))]) (n := 3) (Nat.le_of_ble_eq_true rfl)
  rw [lg_entry_eq]
  generalize (lg_sl ([.ref (ad k0), .ref (ad (k0 + 58))]) ++ List.replicate (3 - (lg_sl ([.ref (ad k0), .ref (ad (k0 + 58))])).length) Slot.unset).toArray = ls at hl ⊢
  have hl : lv_has ls 3 [(0, .ref (ad k0)), (1, .ref (ad (k0 + 58)))] := hl
  unfold f_Nd_addPoints_scratch at hf
  obtain ⟨mk0_0, bk0_1, bk0_35, bk0_55, bk0_58, mk0_61, mk0_62⟩ := id bk0_0
  have mk0_0 : w0[k0]? = some (ad k0, .inr (6, [.ref (ad (k0 + 1)), .ref (ad (k0 + 35)), .ref (ad (k0 + 55)), .ref (ad (k0 + 58)), .ref (ad (k0 + 61)), .ref (ad (k0 + 62))])) := mk0_0
  have bk0_1 : wc_Do cI cG cZ ad (k0 + 1) x0_0 w0 := bk0_1
  have bk0_35 : wc_Gr cI cG cZ ad (k0 + 35) x0_1 w0 := bk0_35
  have bk0_55 : wc_Rk cI cG cZ ad (k0 + 55) x0_2 w0 := bk0_55
  have bk0_58 : wc_Rk cI cG cZ ad (k0 + 58) x0_3 w0 := bk0_58
  have mk0_61 : w0[k0 + 61]? = some (ad (k0 + 61), .inl (cI, 4, .inl x0_4)) := mk0_61
  have mk0_62 : w0[k0 + 62]? = some (ad (k0 + 62), .inl (cI, 30, .inl x0_5)) := mk0_62
  refine lv_iconst (v := 0) hx hb d_Nd_addPoints_0 (by decide) ?_
  refine lv_istore_n (lv' := [(2, .int 0), (0, .ref (ad k0)), (1, .ref (ad (k0 + 58)))]) hx hb d_Nd_addPoints_1 rfl hl (by decide) rfl (fun ls hl => ?_)
  exact wl_Nd_addPoints_scratch_2 (ad := ad) C0 hK hN x0_0 x0_1 x0_2 x0_3 x0_4 x0_5 y0_5 N x0_5 0 _ _ _ _ hP hD hS (lv_sub hl [0, 1, 2] rfl) mk0_0 bk0_1 bk0_35 bk0_55 bk0_58 mk0_61 mk0_62 fr hf
set_option maxHeartbeats 4000000 in
set_option maxRecDepth 100000 in
theorem wl_Nd_rankByPoints_results_2 {p : Program} {l : Launch} {e : Env} {s : State} {m : MethodId} {args : Array Value} {below : List Frame} {meth : Method} {c : Code} {D : va_G} {cI cG cZ : ClassId} {ad : Nat → Nat} {B : Nat} {w0 : va_W} {N : Nat} {k0 : Nat} (C0 : hw_C p s m meth c b_Nd_rankByPoints 3 args R_Nd none) (hK : va_K D classes [(cI, .int), (cG, .array .int), (cZ, .boolean)] s) (hN : hw_N s) (x0_0 : T_Do) (x0_1 : T_Gr) (x0_3 : T_Rk) (x0_4 : (Nat → Int32)) (x0_5 : (Nat → Int32)) (x0_2 : T_Rk) (y0_2 : T_Rk) : ∀ (n : Nat) (vbk0_55 : T_Rk) (v2 : Int32) (ws : va_W) (H : Heap) (locs : List Loc) (ls : Array Slot), va_P D classes ws H → va_D (fun q : Nat => B ≤ q) ws → va_S (fun q : Nat => B ≤ q) s.heap H locs → lv_has ls 3 [(2, .int v2), (0, .ref (ad k0)), (1, .ref (ad (k0 + 55)))] → ws[k0]? = some (ad k0, .inr (6, [.ref (ad (k0 + 1)), .ref (ad (k0 + 35)), .ref (ad (k0 + 55)), .ref (ad (k0 + 58)), .ref (ad (k0 + 61)), .ref (ad (k0 + 62))])) → wc_Do cI cG cZ ad (k0 + 1) x0_0 ws → wc_Gr cI cG cZ ad (k0 + 35) x0_1 ws → wc_Rk cI cG cZ ad (k0 + 55) vbk0_55 ws → wc_Rk cI cG cZ ad (k0 + 58) x0_3 ws → ws[k0 + 61]? = some (ad (k0 + 61), .inl (cI, 4, .inl x0_4)) → ws[k0 + 62]? = some (ad (k0 + 62), .inl (cI, 30, .inl x0_5)) → (∀ j : Nat, (j < k0 ∨ k0 + 63 ≤ j) → ws[j]? = w0[j]?) → f_Nd_rankByPoints_results_2 N x0_5 n vbk0_55 v2 = some y0_2 → W p l e ({ frames := 2, cells := 0, slots := 0, locals := 47 } : Room) s m args below meth c H locs 0 0 (MQ below (va_Qv (fun (w1 : va_W) => wc_Nd cI cG cZ ad k0 (x0_0, x0_1, y0_2, x0_3, x0_4, x0_5) w1 ∧ (∀ j : Nat, (j < k0 ∨ k0 + 63 ≤ j) → w1[j]? = w0[j]?)) (hw_B D B) (fun q : Nat => B ≤ q)) args s 0 0 (fun q : Nat => B ≤ q)) (F0 m 2 ls []) := by
  obtain ⟨hx, hb, hr, hml, hown, hts, hlocks⟩ := id C0
  intro n
  induction n with
  | zero =>
    intro vbk0_55 v2 ws H locs ls hP hD hS hl mk0_0 bk0_1 bk0_35 bk0_55 bk0_58 mk0_61 mk0_62 fr hf
    exact nomatch (show none = some _ from hf)
  | succ n ih =>
    intro vbk0_55 v2 ws H locs ls hP hD hS hl mk0_0 bk0_1 bk0_35 bk0_55 bk0_58 mk0_61 mk0_62 fr hf
    rw [f_Nd_rankByPoints_results_2] at hf
    refine lv_iload_n hx hb d_Nd_rankByPoints_2 rfl (lv_at hl 0 rfl) ?_
    refine lv_bipush (v := 30) hx hb d_Nd_rankByPoints_3 (by decide) ?_
    refine lv_icmp_ge (tgt := 35) hx hb d_Nd_rankByPoints_5 (by decide) (fun c1 => ?_) (fun c1 => ?_)
    · rw [if_pos c1] at hf
      have bk0_0 : wc_Nd cI cG cZ ad (k0) (x0_0, x0_1, vbk0_55, x0_3, x0_4, x0_5) ws := ⟨mk0_0, bk0_1, bk0_35, bk0_55, bk0_58, mk0_61, mk0_62⟩
      have e0 := Option.some.inj hf
      have f0 : wc_Nd cI cG cZ ad (k0) (x0_0, x0_1, y0_2, x0_3, x0_4, x0_5) ws := by rw [← e0]; exact bk0_0
      exact W.vret hx hb hr (fun t ht hW => ⟨⟨ws, rfl, ⟨f0, fr⟩, by rw [ht]; exact hP, hD⟩, hS.F ht⟩) hS.2.2 d_Nd_rankByPoints_35
    · rw [if_neg c1] at hf
      refine lv_aload_n hx hb d_Nd_rankByPoints_8 rfl (lv_at hl 1 rfl) ?_
      refine va_get (D := D) (ci := 6) (v := .ref (ad (k0 + 62))) (C := R_Nd) (T := F_Nd) (N := 6) hx hb hts i_Nd hown hK hP (k0) mk0_0 rfl 5 (by decide) (hts _ iw_161) (fun _ h9 => h9) rfl d_Nd_rankByPoints_9 ?_
      refine lv_iload_n hx hb d_Nd_rankByPoints_12 rfl (lv_at hl 0 rfl) ?_
      obtain ⟨z2, hf⟩ := g_atE hf
      refine va_iald hx hb hK hP (k0 + 62) 0 mk0_62 rfl z2 d_Nd_rankByPoints_13 ?_
      refine lv_if_le (tgt := 29) hx hb d_Nd_rankByPoints_14 (by decide) (fun c3 => ?_) (fun c3 => ?_)
      · rw [if_pos c3] at hf
        refine lv_iinc (v := v2 + 1) (lv' := [(2, .int (v2 + 1)), (0, .ref (ad k0)), (1, .ref (ad (k0 + 55)))]) hx hb d_Nd_rankByPoints_29 hl (k := 0) rfl rfl (by decide) rfl (fun ls hl => ?_)
        refine lv_goto (tgt := 2) hx hb d_Nd_rankByPoints_32 (by decide) ?_
        exact ih vbk0_55 (v2 + 1) _ _ _ _ hP hD hS (lv_sub hl [0, 1, 2] rfl) mk0_0 bk0_1 bk0_35 bk0_55 bk0_58 mk0_61 mk0_62 fr hf
      · rw [if_neg c3] at hf
        refine lv_aload_n hx hb d_Nd_rankByPoints_17 rfl (lv_at hl 2 rfl) ?_
        refine lv_iload_n hx hb d_Nd_rankByPoints_18 rfl (lv_at hl 0 rfl) ?_
        refine lv_aload_n hx hb d_Nd_rankByPoints_19 rfl (lv_at hl 1 rfl) ?_
        refine va_get (D := D) (ci := 6) (v := .ref (ad (k0 + 62))) (C := R_Nd) (T := F_Nd) (N := 6) hx hb hts i_Nd hown hK hP (k0) mk0_0 rfl 5 (by decide) (hts _ iw_161) (fun _ h9 => h9) rfl d_Nd_rankByPoints_20 ?_
        refine lv_iload_n hx hb d_Nd_rankByPoints_23 rfl (lv_at hl 0 rfl) ?_
        obtain ⟨z4, hf⟩ := g_atE hf
        refine va_iald hx hb hK hP (k0 + 62) 0 mk0_62 rfl z4 d_Nd_rankByPoints_24 ?_
        obtain ⟨p5, hp5, hf⟩ := g_bd hf
        refine hw_ci (va_runV (As := [.int v2, .int (x0_5 v2.toNatClampNeg)]) (rest := []) ⟨hx, hb, hml, hown, hts⟩ (c_Rk_add l D cI cG cZ ad B ws N (k0 + 55) vbk0_55.1 vbk0_55.2.1 vbk0_55.2.2.1 vbk0_55.2.2.2.1 vbk0_55.2.2.2.2 v2 (x0_5 v2.toNatClampNeg) p5.1 p5.2.1 p5.2.2.1 p5.2.2.2 hp5 bk0_55) (cwV 2 hts (hw_gV iw_430 gy_Rk_add) rfl rfl rfl (by decide +kernel) ⟨Nat.le_of_ble_eq_true rfl, Nat.le_of_ble_eq_true rfl⟩) ⟨hw_blind, va_recv hK hP (ci := 4) (q0 := k0 + 55) rfl bk0_55.1, hw_go hP hD hK hN⟩ rfl rfl hl.1 rfl (lv_room (Nat.le_of_ble_eq_true rfl)) d_Nd_rankByPoints_25 ⟨Nat.zero_le _, Nat.zero_le _⟩) hS (fun w6 H locs hP hD hS hpp => ?_)
        obtain ⟨q0, frc⟩ := hpp
        have bk0_55 : wc_Rk cI cG cZ ad (k0 + 55) (p5.2.1, p5.2.2.1, p5.2.2.2, vbk0_55.2.2.2.1, vbk0_55.2.2.2.2) w6 := q0
        have mk0_0 : w6[k0]? = some (ad k0, .inr (6, [.ref (ad (k0 + 1)), .ref (ad (k0 + 35)), .ref (ad (k0 + 55)), .ref (ad (k0 + 58)), .ref (ad (k0 + 61)), .ref (ad (k0 + 62))])) := (frc _ (by omega)).trans mk0_0
        have bk0_1 : wc_Do cI cG cZ ad (k0 + 1) x0_0 w6 := bk0_1.fr (fun j h1 h2 => frc j (by omega))
        have bk0_35 : wc_Gr cI cG cZ ad (k0 + 35) x0_1 w6 := bk0_35.fr (fun j h1 h2 => frc j (by omega))
        have bk0_58 : wc_Rk cI cG cZ ad (k0 + 58) x0_3 w6 := bk0_58.fr (fun j h1 h2 => frc j (by omega))
        have mk0_61 : w6[k0 + 61]? = some (ad (k0 + 61), .inl (cI, 4, .inl x0_4)) := (frc _ (by omega)).trans mk0_61
        have mk0_62 : w6[k0 + 62]? = some (ad (k0 + 62), .inl (cI, 30, .inl x0_5)) := (frc _ (by omega)).trans mk0_62
        have fr : ∀ j : Nat, (j < k0 ∨ k0 + 63 ≤ j) → w6[j]? = w0[j]? := fun j o0 => (frc j (by omega)).trans (fr j o0)
        refine lv_pop hx hb d_Nd_rankByPoints_28 rfl ?_
        refine lv_iinc (v := v2 + 1) (lv' := [(2, .int (v2 + 1)), (0, .ref (ad k0)), (1, .ref (ad (k0 + 55)))]) hx hb d_Nd_rankByPoints_29 hl (k := 0) rfl rfl (by decide) rfl (fun ls hl => ?_)
        refine lv_goto (tgt := 2) hx hb d_Nd_rankByPoints_32 (by decide) ?_
        exact ih (p5.2.1, p5.2.2.1, p5.2.2.2, vbk0_55.2.2.2.1, vbk0_55.2.2.2.2) (v2 + 1) _ _ _ _ hP hD hS (lv_sub hl [0, 1, 2] rfl) mk0_0 bk0_1 bk0_35 bk0_55 bk0_58 mk0_61 mk0_62 fr hf
set_option maxHeartbeats 4000000 in
set_option maxRecDepth 100000 in
theorem c_Nd_rankByPoints_results (l : Launch) (D : va_G) (cI cG cZ : ClassId) (ad : Nat → Nat) (B : Nat) (w0 : va_W) (N : Nat) (k0 : Nat) (x0_0 : T_Do) (x0_1 : T_Gr) (x0_2 : T_Rk) (x0_3 : T_Rk) (x0_4 : (Nat → Int32)) (x0_5 : (Nat → Int32)) (y0_2 : T_Rk) (hf : f_Nd_rankByPoints_results N x0_2 x0_5 = some y0_2) (bk0_0 : wc_Nd cI cG cZ ad k0 (x0_0, x0_1, x0_2, x0_3, x0_4, x0_5) w0) : Met l y_Nd_rankByPoints (.code y_Nd_rankByPoints b_Nd_rankByPoints 3 none :: hw_G) ({ frames := 2, cells := 0, slots := 0, locals := 47 } : Room) (va_Pc [.ref (ad k0), .ref (ad (k0 + 55))] (hw_U D cI cG cZ B w0)) (va_Qv (fun (w1 : va_W) => wc_Nd cI cG cZ ad k0 (x0_0, x0_1, y0_2, x0_3, x0_4, x0_5) w1 ∧ (∀ j : Nat, (j < k0 ∨ k0 + 63 ≤ j) → w1[j]? = w0[j]?)) (hw_B D B) (fun q : Nat => B ≤ q)) 0 0 (fun q : Nat => B ≤ q) := by
  refine Met.ofW (cc := b_Nd_rankByPoints) (maxL := 3) (ret := none) (by decide) rfl ?_
  intro p e s m args below meth c s₁ Bd hml hv
  obtain ⟨rfl, hP, hD, hK, hN⟩ := hv
  have C0 : hw_C p s m meth c b_Nd_rankByPoints 3 _ R_Nd none := ⟨Bd.exec, Bd.bytes, Bd.returns, hml, findClass_of_methodNamed Bd.named, fun w h => atoms_spec (ws := .code y_Nd_rankByPoints b_Nd_rankByPoints 3 none :: hw_G) Bd.pre w (List.mem_cons_of_mem _ h), Bd.notSynchronized⟩
  obtain ⟨hx, hb, hr, -, hown, hts, hlocks⟩ := id C0
  have hS : va_S (fun q : Nat => B ≤ q) s.heap s.heap [] := va_S.rf
  have fr : ∀ j : Nat, (j < k0 ∨ k0 + 63 ≤ j) → w0[j]? = w0[j]? := fun j _ => rfl
  have hl := lv_entry ([.ref (ad k0), .ref (ad (k0 + 55))]) (n := 3) (Nat.le_of_ble_eq_true rfl)
  rw [lg_entry_eq]
  generalize (lg_sl ([.ref (ad k0), .ref (ad (k0 + 55))]) ++ List.replicate (3 - (lg_sl ([.ref (ad k0), .ref (ad (k0 + 55))])).length) Slot.unset).toArray = ls at hl ⊢
  have hl : lv_has ls 3 [(0, .ref (ad k0)), (1, .ref (ad (k0 + 55)))] := hl
  unfold f_Nd_rankByPoints_results at hf
  obtain ⟨mk0_0, bk0_1, bk0_35, bk0_55, bk0_58, mk0_61, mk0_62⟩ := id bk0_0
  have mk0_0 : w0[k0]? = some (ad k0, .inr (6, [.ref (ad (k0 + 1)), .ref (ad (k0 + 35)), .ref (ad (k0 + 55)), .ref (ad (k0 + 58)), .ref (ad (k0 + 61)), .ref (ad (k0 + 62))])) := mk0_0
  have bk0_1 : wc_Do cI cG cZ ad (k0 + 1) x0_0 w0 := bk0_1
  have bk0_35 : wc_Gr cI cG cZ ad (k0 + 35) x0_1 w0 := bk0_35
  have bk0_55 : wc_Rk cI cG cZ ad (k0 + 55) x0_2 w0 := bk0_55
  have bk0_58 : wc_Rk cI cG cZ ad (k0 + 58) x0_3 w0 := bk0_58
  have mk0_61 : w0[k0 + 61]? = some (ad (k0 + 61), .inl (cI, 4, .inl x0_4)) := mk0_61
  have mk0_62 : w0[k0 + 62]? = some (ad (k0 + 62), .inl (cI, 30, .inl x0_5)) := mk0_62
  refine lv_iconst (v := 0) hx hb d_Nd_rankByPoints_0 (by decide) ?_
  refine lv_istore_n (lv' := [(2, .int 0), (0, .ref (ad k0)), (1, .ref (ad (k0 + 55)))]) hx hb d_Nd_rankByPoints_1 rfl hl (by decide) rfl (fun ls hl => ?_)
  exact wl_Nd_rankByPoints_results_2 (ad := ad) C0 hK hN x0_0 x0_1 x0_3 x0_4 x0_5 x0_2 y0_2 N x0_2 0 _ _ _ _ hP hD hS (lv_sub hl [0, 1, 2] rfl) mk0_0 bk0_1 bk0_35 bk0_55 bk0_58 mk0_61 mk0_62 fr hf
set_option maxHeartbeats 4000000 in
set_option maxRecDepth 100000 in
theorem c_Nd_fuse (l : Launch) (D : va_G) (cI cG cZ : ClassId) (ad : Nat → Nat) (B : Nat) (w0 : va_W) (N : Nat) (k0 : Nat) (x0_0 : T_Do) (x0_1 : T_Gr) (x0_2 : T_Rk) (x0_3 : T_Rk) (x0_4 : (Nat → Int32)) (x0_5 : (Nat → Int32)) (a1 : Int32) (a2 : Int32) (r : Int32) (y0_0 : T_Do) (y0_1 : T_Gr) (y0_2 : T_Rk) (y0_3 : T_Rk) (y0_5 : (Nat → Int32)) (hf : f_Nd_fuse N x0_0 x0_1 x0_2 x0_3 x0_4 x0_5 a1 a2 = some (r, y0_0, y0_1, y0_2, y0_3, y0_5)) (bk0_0 : wc_Nd cI cG cZ ad k0 (x0_0, x0_1, x0_2, x0_3, x0_4, x0_5) w0) : Met l y_Nd_fuse (.code y_Nd_fuse b_Nd_fuse 3 (some .int) :: hw_G) ({ frames := 6, cells := 0, slots := 0, locals := 146 } : Room) (va_Pc [.ref (ad k0), .int a1, .int a2] (hw_U D cI cG cZ B w0)) (va_Qi (fun (r1 : Int32) (w1 : va_W) => r1 = r ∧ wc_Nd cI cG cZ ad k0 (y0_0, y0_1, y0_2, y0_3, x0_4, y0_5) w1 ∧ (∀ j : Nat, (j < k0 ∨ k0 + 63 ≤ j) → w1[j]? = w0[j]?)) (hw_B D B) (fun q : Nat => B ≤ q)) 0 0 (fun q : Nat => B ≤ q) := by
  refine Met.ofW (cc := b_Nd_fuse) (maxL := 3) (ret := (some .int)) (by decide) rfl ?_
  intro p e s m args below meth c s₁ Bd hml hv
  obtain ⟨rfl, hP, hD, hK, hN⟩ := hv
  have C0 : hw_C p s m meth c b_Nd_fuse 3 _ R_Nd (some .int) := ⟨Bd.exec, Bd.bytes, Bd.returns, hml, findClass_of_methodNamed Bd.named, fun w h => atoms_spec (ws := .code y_Nd_fuse b_Nd_fuse 3 (some .int) :: hw_G) Bd.pre w (List.mem_cons_of_mem _ h), Bd.notSynchronized⟩
  obtain ⟨hx, hb, hr, -, hown, hts, hlocks⟩ := id C0
  have hS : va_S (fun q : Nat => B ≤ q) s.heap s.heap [] := va_S.rf
  have fr : ∀ j : Nat, (j < k0 ∨ k0 + 63 ≤ j) → w0[j]? = w0[j]? := fun j _ => rfl
  have hl := lv_entry ([.ref (ad k0), .int a1, .int a2]) (n := 3) (Nat.le_of_ble_eq_true rfl)
  rw [lg_entry_eq]
  generalize (lg_sl ([.ref (ad k0), .int a1, .int a2]) ++ List.replicate (3 - (lg_sl ([.ref (ad k0), .int a1, .int a2])).length) Slot.unset).toArray = ls at hl ⊢
  have hl : lv_has ls 3 [(0, .ref (ad k0)), (1, .int a1), (2, .int a2)] := hl
  unfold f_Nd_fuse at hf
  obtain ⟨mk0_0, bk0_1, bk0_35, bk0_55, bk0_58, mk0_61, mk0_62⟩ := id bk0_0
  have mk0_0 : w0[k0]? = some (ad k0, .inr (6, [.ref (ad (k0 + 1)), .ref (ad (k0 + 35)), .ref (ad (k0 + 55)), .ref (ad (k0 + 58)), .ref (ad (k0 + 61)), .ref (ad (k0 + 62))])) := mk0_0
  have bk0_1 : wc_Do cI cG cZ ad (k0 + 1) x0_0 w0 := bk0_1
  have bk0_35 : wc_Gr cI cG cZ ad (k0 + 35) x0_1 w0 := bk0_35
  have bk0_55 : wc_Rk cI cG cZ ad (k0 + 55) x0_2 w0 := bk0_55
  have bk0_58 : wc_Rk cI cG cZ ad (k0 + 58) x0_3 w0 := bk0_58
  have mk0_61 : w0[k0 + 61]? = some (ad (k0 + 61), .inl (cI, 4, .inl x0_4)) := mk0_61
  have mk0_62 : w0[k0 + 62]? = some (ad (k0 + 62), .inl (cI, 30, .inl x0_5)) := mk0_62
  refine lv_iload_n hx hb d_Nd_fuse_0 rfl (lv_at hl 1 rfl) ?_
  refine lv_iconst (v := 1) hx hb d_Nd_fuse_1 (by decide) ?_
  refine lv_bipush (v := 10) hx hb d_Nd_fuse_2 (by decide) ?_
  obtain ⟨p1, hp1, hf⟩ := g_bd hf
  refine hw_ci0 (va_runS (As := [.int a1, .int 1, .int 10]) (rest := []) ⟨hx, hb, hml, hown, hts⟩ (c_Nd_isWithin l D cI cG cZ ad B w0 N a1 1 10 p1 hp1) (va_cwS 3 hts (hw_gS iw_185 gs_Nd_isWithin) rfl rfl rfl (by decide +kernel) ⟨Nat.le_of_ble_eq_true rfl, Nat.le_of_ble_eq_true rfl⟩) ⟨hw_blind, hw_go hP hD hK hN⟩ rfl rfl hl.1 rfl (lv_room (Nat.le_of_ble_eq_true rfl)) d_Nd_fuse_4 ⟨Nat.zero_le _, Nat.zero_le _⟩) hS (fun H locs hP hD hS => ?_)
  refine lv_if_eq (tgt := 21) hx hb d_Nd_fuse_7 (by decide) (fun c2 => ?_) (fun c2 => ?_)
  · rw [if_pos c2] at hf
    refine lv_iconst (v := (-1)) hx hb d_Nd_fuse_21 (by decide) ?_
    have bk0_0 : wc_Nd cI cG cZ ad (k0) (x0_0, x0_1, x0_2, x0_3, x0_4, x0_5) w0 := ⟨mk0_0, bk0_1, bk0_35, bk0_55, bk0_58, mk0_61, mk0_62⟩
    have he := Option.some.inj hf
    obtain ⟨e0, he⟩ := Prod.mk.inj he
    obtain ⟨e1, he⟩ := Prod.mk.inj he
    obtain ⟨e2, he⟩ := Prod.mk.inj he
    obtain ⟨e3, he⟩ := Prod.mk.inj he
    obtain ⟨e4, e5⟩ := Prod.mk.inj he
    have f0 : wc_Nd cI cG cZ ad (k0) (y0_0, y0_1, y0_2, y0_3, x0_4, y0_5) w0 := by rw [← e1, ← e2, ← e3, ← e4, ← e5]; exact bk0_0
    exact W.iret (v := (-1)) hx hb hr (fun t ht hW => ⟨⟨(-1), w0, rfl, ⟨e0, ⟨f0, fr⟩⟩, by rw [ht]; exact hP, hD⟩, hS.F ht⟩) hS.2.2 d_Nd_fuse_22
  · rw [if_neg c2] at hf
    refine lv_iload_n hx hb d_Nd_fuse_10 rfl (lv_at hl 2 rfl) ?_
    refine lv_iconst (v := 0) hx hb d_Nd_fuse_11 (by decide) ?_
    refine lv_sipush (v := 255) hx hb d_Nd_fuse_12 (by decide) ?_
    obtain ⟨p3, hp3, hf⟩ := g_bd hf
    refine hw_ci0 (va_runS (As := [.int a2, .int 0, .int 255]) (rest := []) ⟨hx, hb, hml, hown, hts⟩ (c_Nd_isWithin l D cI cG cZ ad B w0 N a2 0 255 p3 hp3) (va_cwS 3 hts (hw_gS iw_185 gs_Nd_isWithin) rfl rfl rfl (by decide +kernel) ⟨Nat.le_of_ble_eq_true rfl, Nat.le_of_ble_eq_true rfl⟩) ⟨hw_blind, hw_go hP hD hK hN⟩ rfl rfl hl.1 rfl (lv_room (Nat.le_of_ble_eq_true rfl)) d_Nd_fuse_15 ⟨Nat.zero_le _, Nat.zero_le _⟩) hS (fun H locs hP hD hS => ?_)
    refine lv_if_ne (tgt := 23) hx hb d_Nd_fuse_18 (by decide) (fun c4 => ?_) (fun c4 => ?_)
    · rw [if_neg c4] at hf
      refine lv_aload_n hx hb d_Nd_fuse_23 rfl (lv_at hl 0 rfl) ?_
      have bk0_0 : wc_Nd cI cG cZ ad (k0) (x0_0, x0_1, x0_2, x0_3, x0_4, x0_5) w0 := ⟨mk0_0, bk0_1, bk0_35, bk0_55, bk0_58, mk0_61, mk0_62⟩
      obtain ⟨p5, hp5, hf⟩ := g_bd hf
      refine hw_cv (va_runV (As := []) (rest := []) ⟨hx, hb, hml, hown, hts⟩ (c_Nd_clearPoints l D cI cG cZ ad B w0 N k0 x0_0 x0_1 x0_2 x0_3 x0_4 x0_5 p5 hp5 bk0_0) (cwV 0 hts (hw_gV iw_469 gy_Nd_clearPoints) rfl rfl rfl (by decide +kernel) ⟨Nat.le_of_ble_eq_true rfl, Nat.le_of_ble_eq_true rfl⟩) ⟨hw_blind, va_recv hK hP (ci := 6) (q0 := k0) rfl bk0_0.1, hw_go hP hD hK hN⟩ rfl rfl hl.1 rfl (lv_room (Nat.le_of_ble_eq_true rfl)) d_Nd_fuse_24 ⟨Nat.zero_le _, Nat.zero_le _⟩) hS (fun w6 H locs hP hD hS hpp => ?_)
      obtain ⟨q0, frc⟩ := hpp
      have bk0_0 : wc_Nd cI cG cZ ad (k0) (x0_0, x0_1, x0_2, x0_3, x0_4, p5) w6 := q0
      have fr : ∀ j : Nat, (j < k0 ∨ k0 + 63 ≤ j) → w6[j]? = w0[j]? := fun j o0 => (frc j (by omega)).trans (fr j o0)
      refine lv_aload_n hx hb d_Nd_fuse_27 rfl (lv_at hl 0 rfl) ?_
      obtain ⟨mk0_0, bk0_1, bk0_35, bk0_55, bk0_58, mk0_61, mk0_62⟩ := id bk0_0
      have mk0_0 : w6[k0]? = some (ad k0, .inr (6, [.ref (ad (k0 + 1)), .ref (ad (k0 + 35)), .ref (ad (k0 + 55)), .ref (ad (k0 + 58)), .ref (ad (k0 + 61)), .ref (ad (k0 + 62))])) := mk0_0
      have bk0_1 : wc_Do cI cG cZ ad (k0 + 1) x0_0 w6 := bk0_1
      have bk0_35 : wc_Gr cI cG cZ ad (k0 + 35) x0_1 w6 := bk0_35
      have bk0_55 : wc_Rk cI cG cZ ad (k0 + 55) x0_2 w6 := bk0_55
      have bk0_58 : wc_Rk cI cG cZ ad (k0 + 58) x0_3 w6 := bk0_58
      have mk0_61 : w6[k0 + 61]? = some (ad (k0 + 61), .inl (cI, 4, .inl x0_4)) := mk0_61
      have mk0_62 : w6[k0 + 62]? = some (ad (k0 + 62), .inl (cI, 30, .inl p5)) := mk0_62
      refine va_get (D := D) (ci := 6) (v := .ref (ad (k0 + 58))) (C := R_Nd) (T := F_Nd) (N := 6) hx hb hts i_Nd hown hK hP (k0) mk0_0 rfl 3 (by decide) (hts _ iw_159) (fun _ h9 => h9) rfl d_Nd_fuse_28 ?_
      refine lv_bipush (v := 10) hx hb d_Nd_fuse_31 (by decide) ?_
      refine lv_iconst (v := 1) hx hb d_Nd_fuse_33 (by decide) ?_
      obtain ⟨p7, hp7, hf⟩ := g_bd hf
      refine hw_cv (va_runV (As := [.int 10, .int 1]) (rest := []) ⟨hx, hb, hml, hown, hts⟩ (c_Rk_start l D cI cG cZ ad B w6 N (k0 + 58) x0_3.1 x0_3.2.1 x0_3.2.2.1 x0_3.2.2.2.1 x0_3.2.2.2.2 10 1 p7.1 p7.2.1 p7.2.2 hp7 bk0_58) (cwV 2 hts (hw_gV iw_413 gy_Rk_start) rfl rfl rfl (by decide +kernel) ⟨Nat.le_of_ble_eq_true rfl, Nat.le_of_ble_eq_true rfl⟩) ⟨hw_blind, va_recv hK hP (ci := 4) (q0 := k0 + 58) rfl bk0_58.1, hw_go hP hD hK hN⟩ rfl rfl hl.1 rfl (lv_room (Nat.le_of_ble_eq_true rfl)) d_Nd_fuse_34 ⟨Nat.zero_le _, Nat.zero_le _⟩) hS (fun w8 H locs hP hD hS hpp => ?_)
      obtain ⟨q0, frc⟩ := hpp
      have bk0_58 : wc_Rk cI cG cZ ad (k0 + 58) (x0_3.1, x0_3.2.1, p7.1, p7.2.1, p7.2.2) w8 := q0
      have mk0_0 : w8[k0]? = some (ad k0, .inr (6, [.ref (ad (k0 + 1)), .ref (ad (k0 + 35)), .ref (ad (k0 + 55)), .ref (ad (k0 + 58)), .ref (ad (k0 + 61)), .ref (ad (k0 + 62))])) := (frc _ (by omega)).trans mk0_0
      have bk0_1 : wc_Do cI cG cZ ad (k0 + 1) x0_0 w8 := bk0_1.fr (fun j h1 h2 => frc j (by omega))
      have bk0_35 : wc_Gr cI cG cZ ad (k0 + 35) x0_1 w8 := bk0_35.fr (fun j h1 h2 => frc j (by omega))
      have bk0_55 : wc_Rk cI cG cZ ad (k0 + 55) x0_2 w8 := bk0_55.fr (fun j h1 h2 => frc j (by omega))
      have mk0_61 : w8[k0 + 61]? = some (ad (k0 + 61), .inl (cI, 4, .inl x0_4)) := (frc _ (by omega)).trans mk0_61
      have mk0_62 : w8[k0 + 62]? = some (ad (k0 + 62), .inl (cI, 30, .inl p5)) := (frc _ (by omega)).trans mk0_62
      have fr : ∀ j : Nat, (j < k0 ∨ k0 + 63 ≤ j) → w8[j]? = w0[j]? := fun j o0 => (frc j (by omega)).trans (fr j o0)
      refine lv_aload_n hx hb d_Nd_fuse_37 rfl (lv_at hl 0 rfl) ?_
      refine va_get (D := D) (ci := 6) (v := .ref (ad (k0 + 1))) (C := R_Nd) (T := F_Nd) (N := 6) hx hb hts i_Nd hown hK hP (k0) mk0_0 rfl 0 (by decide) (hts _ iw_156) (fun _ h9 => h9) rfl d_Nd_fuse_38 ?_
      refine lv_iload_n hx hb d_Nd_fuse_41 rfl (lv_at hl 2 rfl) ?_
      refine lv_aload_n hx hb d_Nd_fuse_42 rfl (lv_at hl 0 rfl) ?_
      refine va_get (D := D) (ci := 6) (v := .ref (ad (k0 + 58))) (C := R_Nd) (T := F_Nd) (N := 6) hx hb hts i_Nd hown hK hP (k0) mk0_0 rfl 3 (by decide) (hts _ iw_159) (fun _ h9 => h9) rfl d_Nd_fuse_43 ?_
      obtain ⟨p9, hp9, hf⟩ := g_bd hf
      refine hw_cv (va_runV (As := [.int a2, .ref (ad (k0 + 58))]) (rest := []) ⟨hx, hb, hml, hown, hts⟩ (c_Do_rankByScore l D cI cG cZ ad B w8 N (k0 + 1) x0_0.1 x0_0.2.1 x0_0.2.2.1 x0_0.2.2.2 (k0 + 58) x0_3.1 x0_3.2.1 p7.1 p7.2.1 p7.2.2 a2 p9.1 p9.2.1 p9.2.2.1 p9.2.2.2.1 p9.2.2.2.2.1 p9.2.2.2.2.2 hp9 bk0_1 bk0_58 (by omega)) (cwV 2 hts (hw_gV iw_444 gy_Do_rankByScore) rfl rfl rfl (by decide +kernel) ⟨Nat.le_of_ble_eq_true rfl, Nat.le_of_ble_eq_true rfl⟩) ⟨hw_blind, va_recv hK hP (ci := 1) (q0 := k0 + 1) rfl bk0_1.1, hw_go hP hD hK hN⟩ rfl rfl hl.1 rfl (lv_room (Nat.le_of_ble_eq_true rfl)) d_Nd_fuse_46 ⟨Nat.zero_le _, Nat.zero_le _⟩) hS (fun w10 H locs hP hD hS hpp => ?_)
      obtain ⟨q0, q1, frc⟩ := hpp
      have bk0_1 : wc_Do cI cG cZ ad (k0 + 1) (x0_0.1, x0_0.2.1, p9.1, x0_0.2.2.2) w10 := q0
      have bk0_58 : wc_Rk cI cG cZ ad (k0 + 58) (p9.2.1, p9.2.2.1, p9.2.2.2.1, p9.2.2.2.2.1, p9.2.2.2.2.2) w10 := q1
      have mk0_0 : w10[k0]? = some (ad k0, .inr (6, [.ref (ad (k0 + 1)), .ref (ad (k0 + 35)), .ref (ad (k0 + 55)), .ref (ad (k0 + 58)), .ref (ad (k0 + 61)), .ref (ad (k0 + 62))])) := (frc _ (by omega) (by omega)).trans mk0_0
      have bk0_35 : wc_Gr cI cG cZ ad (k0 + 35) x0_1 w10 := bk0_35.fr (fun j h1 h2 => frc j (by omega) (by omega))
      have bk0_55 : wc_Rk cI cG cZ ad (k0 + 55) x0_2 w10 := bk0_55.fr (fun j h1 h2 => frc j (by omega) (by omega))
      have mk0_61 : w10[k0 + 61]? = some (ad (k0 + 61), .inl (cI, 4, .inl x0_4)) := (frc _ (by omega) (by omega)).trans mk0_61
      have mk0_62 : w10[k0 + 62]? = some (ad (k0 + 62), .inl (cI, 30, .inl p5)) := (frc _ (by omega) (by omega)).trans mk0_62
      have fr : ∀ j : Nat, (j < k0 ∨ k0 + 63 ≤ j) → w10[j]? = w0[j]? := fun j o0 => (frc j (by omega) (by omega)).trans (fr j o0)
      refine lv_aload_n hx hb d_Nd_fuse_49 rfl (lv_at hl 0 rfl) ?_
      refine lv_aload_n hx hb d_Nd_fuse_50 rfl (lv_at hl 0 rfl) ?_
      refine va_get (D := D) (ci := 6) (v := .ref (ad (k0 + 58))) (C := R_Nd) (T := F_Nd) (N := 6) hx hb hts i_Nd hown hK hP (k0) mk0_0 rfl 3 (by decide) (hts _ iw_159) (fun _ h9 => h9) rfl d_Nd_fuse_51 ?_
      have bk0_0 : wc_Nd cI cG cZ ad (k0) ((x0_0.1, x0_0.2.1, p9.1, x0_0.2.2.2), x0_1, x0_2, (p9.2.1, p9.2.2.1, p9.2.2.2.1, p9.2.2.2.2.1, p9.2.2.2.2.2), x0_4, p5) w10 := ⟨mk0_0, bk0_1, bk0_35, bk0_55, bk0_58, mk0_61, mk0_62⟩
      obtain ⟨p11, hp11, hf⟩ := g_bd hf
      refine hw_cv (va_runV (As := [.ref (ad (k0 + 58))]) (rest := []) ⟨hx, hb, hml, hown, hts⟩ (c_Nd_addPoints_scratch l D cI cG cZ ad B w10 N k0 (x0_0.1, x0_0.2.1, p9.1, x0_0.2.2.2) x0_1 x0_2 (p9.2.1, p9.2.2.1, p9.2.2.2.1, p9.2.2.2.2.1, p9.2.2.2.2.2) x0_4 p5 p11 hp11 bk0_0) (cwV 1 hts (hw_gV iw_473 gy_Nd_addPoints) rfl rfl rfl (by decide +kernel) ⟨Nat.le_of_ble_eq_true rfl, Nat.le_of_ble_eq_true rfl⟩) ⟨hw_blind, va_recv hK hP (ci := 6) (q0 := k0) rfl bk0_0.1, hw_go hP hD hK hN⟩ rfl rfl hl.1 rfl (lv_room (Nat.le_of_ble_eq_true rfl)) d_Nd_fuse_54 ⟨Nat.zero_le _, Nat.zero_le _⟩) hS (fun w12 H locs hP hD hS hpp => ?_)
      obtain ⟨q0, frc⟩ := hpp
      have bk0_0 : wc_Nd cI cG cZ ad (k0) ((x0_0.1, x0_0.2.1, p9.1, x0_0.2.2.2), x0_1, x0_2, (p9.2.1, p9.2.2.1, p9.2.2.2.1, p9.2.2.2.2.1, p9.2.2.2.2.2), x0_4, p11) w12 := q0
      have fr : ∀ j : Nat, (j < k0 ∨ k0 + 63 ≤ j) → w12[j]? = w0[j]? := fun j o0 => (frc j (by omega)).trans (fr j o0)
      refine lv_aload_n hx hb d_Nd_fuse_57 rfl (lv_at hl 0 rfl) ?_
      obtain ⟨mk0_0, bk0_1, bk0_35, bk0_55, bk0_58, mk0_61, mk0_62⟩ := id bk0_0
      have mk0_0 : w12[k0]? = some (ad k0, .inr (6, [.ref (ad (k0 + 1)), .ref (ad (k0 + 35)), .ref (ad (k0 + 55)), .ref (ad (k0 + 58)), .ref (ad (k0 + 61)), .ref (ad (k0 + 62))])) := mk0_0
      have bk0_1 : wc_Do cI cG cZ ad (k0 + 1) (x0_0.1, x0_0.2.1, p9.1, x0_0.2.2.2) w12 := bk0_1
      have bk0_35 : wc_Gr cI cG cZ ad (k0 + 35) x0_1 w12 := bk0_35
      have bk0_55 : wc_Rk cI cG cZ ad (k0 + 55) x0_2 w12 := bk0_55
      have bk0_58 : wc_Rk cI cG cZ ad (k0 + 58) (p9.2.1, p9.2.2.1, p9.2.2.2.1, p9.2.2.2.2.1, p9.2.2.2.2.2) w12 := bk0_58
      have mk0_61 : w12[k0 + 61]? = some (ad (k0 + 61), .inl (cI, 4, .inl x0_4)) := mk0_61
      have mk0_62 : w12[k0 + 62]? = some (ad (k0 + 62), .inl (cI, 30, .inl p11)) := mk0_62
      refine va_get (D := D) (ci := 6) (v := .ref (ad (k0 + 58))) (C := R_Nd) (T := F_Nd) (N := 6) hx hb hts i_Nd hown hK hP (k0) mk0_0 rfl 3 (by decide) (hts _ iw_159) (fun _ h9 => h9) rfl d_Nd_fuse_58 ?_
      refine lv_bipush (v := 10) hx hb d_Nd_fuse_61 (by decide) ?_
      refine lv_iconst (v := 0) hx hb d_Nd_fuse_63 (by decide) ?_
      obtain ⟨p13, hp13, hf⟩ := g_bd hf
      refine hw_cv (va_runV (As := [.int 10, .int 0]) (rest := []) ⟨hx, hb, hml, hown, hts⟩ (c_Rk_start l D cI cG cZ ad B w12 N (k0 + 58) p9.2.1 p9.2.2.1 p9.2.2.2.1 p9.2.2.2.2.1 p9.2.2.2.2.2 10 0 p13.1 p13.2.1 p13.2.2 hp13 bk0_58) (cwV 2 hts (hw_gV iw_413 gy_Rk_start) rfl rfl rfl (by decide +kernel) ⟨Nat.le_of_ble_eq_true rfl, Nat.le_of_ble_eq_true rfl⟩) ⟨hw_blind, va_recv hK hP (ci := 4) (q0 := k0 + 58) rfl bk0_58.1, hw_go hP hD hK hN⟩ rfl rfl hl.1 rfl (lv_room (Nat.le_of_ble_eq_true rfl)) d_Nd_fuse_64 ⟨Nat.zero_le _, Nat.zero_le _⟩) hS (fun w14 H locs hP hD hS hpp => ?_)
      obtain ⟨q0, frc⟩ := hpp
      have bk0_58 : wc_Rk cI cG cZ ad (k0 + 58) (p9.2.1, p9.2.2.1, p13.1, p13.2.1, p13.2.2) w14 := q0
      have mk0_0 : w14[k0]? = some (ad k0, .inr (6, [.ref (ad (k0 + 1)), .ref (ad (k0 + 35)), .ref (ad (k0 + 55)), .ref (ad (k0 + 58)), .ref (ad (k0 + 61)), .ref (ad (k0 + 62))])) := (frc _ (by omega)).trans mk0_0
      have bk0_1 : wc_Do cI cG cZ ad (k0 + 1) (x0_0.1, x0_0.2.1, p9.1, x0_0.2.2.2) w14 := bk0_1.fr (fun j h1 h2 => frc j (by omega))
      have bk0_35 : wc_Gr cI cG cZ ad (k0 + 35) x0_1 w14 := bk0_35.fr (fun j h1 h2 => frc j (by omega))
      have bk0_55 : wc_Rk cI cG cZ ad (k0 + 55) x0_2 w14 := bk0_55.fr (fun j h1 h2 => frc j (by omega))
      have mk0_61 : w14[k0 + 61]? = some (ad (k0 + 61), .inl (cI, 4, .inl x0_4)) := (frc _ (by omega)).trans mk0_61
      have mk0_62 : w14[k0 + 62]? = some (ad (k0 + 62), .inl (cI, 30, .inl p11)) := (frc _ (by omega)).trans mk0_62
      have fr : ∀ j : Nat, (j < k0 ∨ k0 + 63 ≤ j) → w14[j]? = w0[j]? := fun j o0 => (frc j (by omega)).trans (fr j o0)
      refine lv_aload_n hx hb d_Nd_fuse_67 rfl (lv_at hl 0 rfl) ?_
      refine lv_aload_n hx hb d_Nd_fuse_68 rfl (lv_at hl 0 rfl) ?_
      refine va_get (D := D) (ci := 6) (v := .ref (ad (k0 + 58))) (C := R_Nd) (T := F_Nd) (N := 6) hx hb hts i_Nd hown hK hP (k0) mk0_0 rfl 3 (by decide) (hts _ iw_159) (fun _ h9 => h9) rfl d_Nd_fuse_69 ?_
      refine lv_bipush (v := 10) hx hb d_Nd_fuse_72 (by decide) ?_
      have bk0_0 : wc_Nd cI cG cZ ad (k0) ((x0_0.1, x0_0.2.1, p9.1, x0_0.2.2.2), x0_1, x0_2, (p9.2.1, p9.2.2.1, p13.1, p13.2.1, p13.2.2), x0_4, p11) w14 := ⟨mk0_0, bk0_1, bk0_35, bk0_55, bk0_58, mk0_61, mk0_62⟩
      obtain ⟨p15, hp15, hf⟩ := g_bd hf
      refine hw_cv (va_runV (As := [.ref (ad (k0 + 58)), .int 10]) (rest := []) ⟨hx, hb, hml, hown, hts⟩ (c_Nd_searchInto_scratch l D cI cG cZ ad B w14 N k0 (x0_0.1, x0_0.2.1, p9.1, x0_0.2.2.2) x0_1 x0_2 (p9.2.1, p9.2.2.1, p13.1, p13.2.1, p13.2.2) x0_4 p11 10 p15.1 p15.2 hp15 bk0_0) (cwV 2 hts (hw_gV iw_415 gy_Nd_searchInto) rfl rfl rfl (by decide +kernel) ⟨Nat.le_of_ble_eq_true rfl, Nat.le_of_ble_eq_true rfl⟩) ⟨hw_blind, va_recv hK hP (ci := 6) (q0 := k0) rfl bk0_0.1, hw_go hP hD hK hN⟩ rfl rfl hl.1 rfl (lv_room (Nat.le_of_ble_eq_true rfl)) d_Nd_fuse_74 ⟨Nat.zero_le _, Nat.zero_le _⟩) hS (fun w16 H locs hP hD hS hpp => ?_)
      obtain ⟨q0, frc⟩ := hpp
      have bk0_0 : wc_Nd cI cG cZ ad (k0) ((x0_0.1, x0_0.2.1, p9.1, x0_0.2.2.2), p15.1, x0_2, p15.2, x0_4, p11) w16 := q0
      have fr : ∀ j : Nat, (j < k0 ∨ k0 + 63 ≤ j) → w16[j]? = w0[j]? := fun j o0 => (frc j (by omega)).trans (fr j o0)
      refine lv_aload_n hx hb d_Nd_fuse_77 rfl (lv_at hl 0 rfl) ?_
      refine lv_aload_n hx hb d_Nd_fuse_78 rfl (lv_at hl 0 rfl) ?_
      obtain ⟨mk0_0, bk0_1, bk0_35, bk0_55, bk0_58, mk0_61, mk0_62⟩ := id bk0_0
      have mk0_0 : w16[k0]? = some (ad k0, .inr (6, [.ref (ad (k0 + 1)), .ref (ad (k0 + 35)), .ref (ad (k0 + 55)), .ref (ad (k0 + 58)), .ref (ad (k0 + 61)), .ref (ad (k0 + 62))])) := mk0_0
      have bk0_1 : wc_Do cI cG cZ ad (k0 + 1) (x0_0.1, x0_0.2.1, p9.1, x0_0.2.2.2) w16 := bk0_1
      have bk0_35 : wc_Gr cI cG cZ ad (k0 + 35) p15.1 w16 := bk0_35
      have bk0_55 : wc_Rk cI cG cZ ad (k0 + 55) x0_2 w16 := bk0_55
      have bk0_58 : wc_Rk cI cG cZ ad (k0 + 58) p15.2 w16 := bk0_58
      have mk0_61 : w16[k0 + 61]? = some (ad (k0 + 61), .inl (cI, 4, .inl x0_4)) := mk0_61
      have mk0_62 : w16[k0 + 62]? = some (ad (k0 + 62), .inl (cI, 30, .inl p11)) := mk0_62
      refine va_get (D := D) (ci := 6) (v := .ref (ad (k0 + 58))) (C := R_Nd) (T := F_Nd) (N := 6) hx hb hts i_Nd hown hK hP (k0) mk0_0 rfl 3 (by decide) (hts _ iw_159) (fun _ h9 => h9) rfl d_Nd_fuse_79 ?_
      have bk0_0 : wc_Nd cI cG cZ ad (k0) ((x0_0.1, x0_0.2.1, p9.1, x0_0.2.2.2), p15.1, x0_2, p15.2, x0_4, p11) w16 := ⟨mk0_0, bk0_1, bk0_35, bk0_55, bk0_58, mk0_61, mk0_62⟩
      obtain ⟨p17, hp17, hf⟩ := g_bd hf
      refine hw_cv (va_runV (As := [.ref (ad (k0 + 58))]) (rest := []) ⟨hx, hb, hml, hown, hts⟩ (c_Nd_addPoints_scratch l D cI cG cZ ad B w16 N k0 (x0_0.1, x0_0.2.1, p9.1, x0_0.2.2.2) p15.1 x0_2 p15.2 x0_4 p11 p17 hp17 bk0_0) (cwV 1 hts (hw_gV iw_473 gy_Nd_addPoints) rfl rfl rfl (by decide +kernel) ⟨Nat.le_of_ble_eq_true rfl, Nat.le_of_ble_eq_true rfl⟩) ⟨hw_blind, va_recv hK hP (ci := 6) (q0 := k0) rfl bk0_0.1, hw_go hP hD hK hN⟩ rfl rfl hl.1 rfl (lv_room (Nat.le_of_ble_eq_true rfl)) d_Nd_fuse_82 ⟨Nat.zero_le _, Nat.zero_le _⟩) hS (fun w18 H locs hP hD hS hpp => ?_)
      obtain ⟨q0, frc⟩ := hpp
      have bk0_0 : wc_Nd cI cG cZ ad (k0) ((x0_0.1, x0_0.2.1, p9.1, x0_0.2.2.2), p15.1, x0_2, p15.2, x0_4, p17) w18 := q0
      have fr : ∀ j : Nat, (j < k0 ∨ k0 + 63 ≤ j) → w18[j]? = w0[j]? := fun j o0 => (frc j (by omega)).trans (fr j o0)
      refine lv_aload_n hx hb d_Nd_fuse_85 rfl (lv_at hl 0 rfl) ?_
      obtain ⟨mk0_0, bk0_1, bk0_35, bk0_55, bk0_58, mk0_61, mk0_62⟩ := id bk0_0
      have mk0_0 : w18[k0]? = some (ad k0, .inr (6, [.ref (ad (k0 + 1)), .ref (ad (k0 + 35)), .ref (ad (k0 + 55)), .ref (ad (k0 + 58)), .ref (ad (k0 + 61)), .ref (ad (k0 + 62))])) := mk0_0
      have bk0_1 : wc_Do cI cG cZ ad (k0 + 1) (x0_0.1, x0_0.2.1, p9.1, x0_0.2.2.2) w18 := bk0_1
      have bk0_35 : wc_Gr cI cG cZ ad (k0 + 35) p15.1 w18 := bk0_35
      have bk0_55 : wc_Rk cI cG cZ ad (k0 + 55) x0_2 w18 := bk0_55
      have bk0_58 : wc_Rk cI cG cZ ad (k0 + 58) p15.2 w18 := bk0_58
      have mk0_61 : w18[k0 + 61]? = some (ad (k0 + 61), .inl (cI, 4, .inl x0_4)) := mk0_61
      have mk0_62 : w18[k0 + 62]? = some (ad (k0 + 62), .inl (cI, 30, .inl p17)) := mk0_62
      refine va_get (D := D) (ci := 6) (v := .ref (ad (k0 + 55))) (C := R_Nd) (T := F_Nd) (N := 6) hx hb hts i_Nd hown hK hP (k0) mk0_0 rfl 2 (by decide) (hts _ iw_158) (fun _ h9 => h9) rfl d_Nd_fuse_86 ?_
      refine lv_iload_n hx hb d_Nd_fuse_89 rfl (lv_at hl 1 rfl) ?_
      refine lv_iconst (v := 1) hx hb d_Nd_fuse_90 (by decide) ?_
      obtain ⟨p19, hp19, hf⟩ := g_bd hf
      refine hw_cv (va_runV (As := [.int a1, .int 1]) (rest := []) ⟨hx, hb, hml, hown, hts⟩ (c_Rk_start l D cI cG cZ ad B w18 N (k0 + 55) x0_2.1 x0_2.2.1 x0_2.2.2.1 x0_2.2.2.2.1 x0_2.2.2.2.2 a1 1 p19.1 p19.2.1 p19.2.2 hp19 bk0_55) (cwV 2 hts (hw_gV iw_413 gy_Rk_start) rfl rfl rfl (by decide +kernel) ⟨Nat.le_of_ble_eq_true rfl, Nat.le_of_ble_eq_true rfl⟩) ⟨hw_blind, va_recv hK hP (ci := 4) (q0 := k0 + 55) rfl bk0_55.1, hw_go hP hD hK hN⟩ rfl rfl hl.1 rfl (lv_room (Nat.le_of_ble_eq_true rfl)) d_Nd_fuse_91 ⟨Nat.zero_le _, Nat.zero_le _⟩) hS (fun w20 H locs hP hD hS hpp => ?_)
      obtain ⟨q0, frc⟩ := hpp
      have bk0_55 : wc_Rk cI cG cZ ad (k0 + 55) (x0_2.1, x0_2.2.1, p19.1, p19.2.1, p19.2.2) w20 := q0
      have mk0_0 : w20[k0]? = some (ad k0, .inr (6, [.ref (ad (k0 + 1)), .ref (ad (k0 + 35)), .ref (ad (k0 + 55)), .ref (ad (k0 + 58)), .ref (ad (k0 + 61)), .ref (ad (k0 + 62))])) := (frc _ (by omega)).trans mk0_0
      have bk0_1 : wc_Do cI cG cZ ad (k0 + 1) (x0_0.1, x0_0.2.1, p9.1, x0_0.2.2.2) w20 := bk0_1.fr (fun j h1 h2 => frc j (by omega))
      have bk0_35 : wc_Gr cI cG cZ ad (k0 + 35) p15.1 w20 := bk0_35.fr (fun j h1 h2 => frc j (by omega))
      have bk0_58 : wc_Rk cI cG cZ ad (k0 + 58) p15.2 w20 := bk0_58.fr (fun j h1 h2 => frc j (by omega))
      have mk0_61 : w20[k0 + 61]? = some (ad (k0 + 61), .inl (cI, 4, .inl x0_4)) := (frc _ (by omega)).trans mk0_61
      have mk0_62 : w20[k0 + 62]? = some (ad (k0 + 62), .inl (cI, 30, .inl p17)) := (frc _ (by omega)).trans mk0_62
      have fr : ∀ j : Nat, (j < k0 ∨ k0 + 63 ≤ j) → w20[j]? = w0[j]? := fun j o0 => (frc j (by omega)).trans (fr j o0)
      refine lv_aload_n hx hb d_Nd_fuse_94 rfl (lv_at hl 0 rfl) ?_
      refine lv_aload_n hx hb d_Nd_fuse_95 rfl (lv_at hl 0 rfl) ?_
      refine va_get (D := D) (ci := 6) (v := .ref (ad (k0 + 55))) (C := R_Nd) (T := F_Nd) (N := 6) hx hb hts i_Nd hown hK hP (k0) mk0_0 rfl 2 (by decide) (hts _ iw_158) (fun _ h9 => h9) rfl d_Nd_fuse_96 ?_
      have bk0_0 : wc_Nd cI cG cZ ad (k0) ((x0_0.1, x0_0.2.1, p9.1, x0_0.2.2.2), p15.1, (x0_2.1, x0_2.2.1, p19.1, p19.2.1, p19.2.2), p15.2, x0_4, p17) w20 := ⟨mk0_0, bk0_1, bk0_35, bk0_55, bk0_58, mk0_61, mk0_62⟩
      obtain ⟨p21, hp21, hf⟩ := g_bd hf
      refine hw_cv (va_runV (As := [.ref (ad (k0 + 55))]) (rest := []) ⟨hx, hb, hml, hown, hts⟩ (c_Nd_rankByPoints_results l D cI cG cZ ad B w20 N k0 (x0_0.1, x0_0.2.1, p9.1, x0_0.2.2.2) p15.1 (x0_2.1, x0_2.2.1, p19.1, p19.2.1, p19.2.2) p15.2 x0_4 p17 p21 hp21 bk0_0) (cwV 1 hts (hw_gV iw_477 gy_Nd_rankByPoints) rfl rfl rfl (by decide +kernel) ⟨Nat.le_of_ble_eq_true rfl, Nat.le_of_ble_eq_true rfl⟩) ⟨hw_blind, va_recv hK hP (ci := 6) (q0 := k0) rfl bk0_0.1, hw_go hP hD hK hN⟩ rfl rfl hl.1 rfl (lv_room (Nat.le_of_ble_eq_true rfl)) d_Nd_fuse_99 ⟨Nat.zero_le _, Nat.zero_le _⟩) hS (fun w22 H locs hP hD hS hpp => ?_)
      obtain ⟨q0, frc⟩ := hpp
      have bk0_0 : wc_Nd cI cG cZ ad (k0) ((x0_0.1, x0_0.2.1, p9.1, x0_0.2.2.2), p15.1, p21, p15.2, x0_4, p17) w22 := q0
      have fr : ∀ j : Nat, (j < k0 ∨ k0 + 63 ≤ j) → w22[j]? = w0[j]? := fun j o0 => (frc j (by omega)).trans (fr j o0)
      refine lv_aload_n hx hb d_Nd_fuse_102 rfl (lv_at hl 0 rfl) ?_
      obtain ⟨mk0_0, bk0_1, bk0_35, bk0_55, bk0_58, mk0_61, mk0_62⟩ := id bk0_0
      have mk0_0 : w22[k0]? = some (ad k0, .inr (6, [.ref (ad (k0 + 1)), .ref (ad (k0 + 35)), .ref (ad (k0 + 55)), .ref (ad (k0 + 58)), .ref (ad (k0 + 61)), .ref (ad (k0 + 62))])) := mk0_0
      have bk0_1 : wc_Do cI cG cZ ad (k0 + 1) (x0_0.1, x0_0.2.1, p9.1, x0_0.2.2.2) w22 := bk0_1
      have bk0_35 : wc_Gr cI cG cZ ad (k0 + 35) p15.1 w22 := bk0_35
      have bk0_55 : wc_Rk cI cG cZ ad (k0 + 55) p21 w22 := bk0_55
      have bk0_58 : wc_Rk cI cG cZ ad (k0 + 58) p15.2 w22 := bk0_58
      have mk0_61 : w22[k0 + 61]? = some (ad (k0 + 61), .inl (cI, 4, .inl x0_4)) := mk0_61
      have mk0_62 : w22[k0 + 62]? = some (ad (k0 + 62), .inl (cI, 30, .inl p17)) := mk0_62
      refine va_get (D := D) (ci := 6) (v := .ref (ad (k0 + 55))) (C := R_Nd) (T := F_Nd) (N := 6) hx hb hts i_Nd hown hK hP (k0) mk0_0 rfl 2 (by decide) (hts _ iw_158) (fun _ h9 => h9) rfl d_Nd_fuse_103 ?_
      obtain ⟨p23, hp23, hf⟩ := g_bd hf
      refine hw_ci0 (va_runV (As := []) (rest := []) ⟨hx, hb, hml, hown, hts⟩ (c_Rk_size l D cI cG cZ ad B w22 N (k0 + 55) p21.1 p21.2.1 p21.2.2.1 p21.2.2.2.1 p21.2.2.2.2 p23 hp23 bk0_55) (cwV 0 hts (hw_gV iw_427 gy_Rk_size) rfl rfl rfl (by decide +kernel) ⟨Nat.le_of_ble_eq_true rfl, Nat.le_of_ble_eq_true rfl⟩) ⟨hw_blind, va_recv hK hP (ci := 4) (q0 := k0 + 55) rfl bk0_55.1, hw_go hP hD hK hN⟩ rfl rfl hl.1 rfl (lv_room (Nat.le_of_ble_eq_true rfl)) d_Nd_fuse_106 ⟨Nat.zero_le _, Nat.zero_le _⟩) hS (fun H locs hP hD hS => ?_)
      have bk0_0 : wc_Nd cI cG cZ ad (k0) ((x0_0.1, x0_0.2.1, p9.1, x0_0.2.2.2), p15.1, p21, p15.2, x0_4, p17) w22 := ⟨mk0_0, bk0_1, bk0_35, bk0_55, bk0_58, mk0_61, mk0_62⟩
      have he := Option.some.inj hf
      obtain ⟨e0, he⟩ := Prod.mk.inj he
      obtain ⟨e1, he⟩ := Prod.mk.inj he
      obtain ⟨e2, he⟩ := Prod.mk.inj he
      obtain ⟨e3, he⟩ := Prod.mk.inj he
      obtain ⟨e4, e5⟩ := Prod.mk.inj he
      have f0 : wc_Nd cI cG cZ ad (k0) (y0_0, y0_1, y0_2, y0_3, x0_4, y0_5) w22 := by rw [← e1, ← e2, ← e3, ← e4, ← e5]; exact bk0_0
      exact W.iret (v := p23) hx hb hr (fun t ht hW => ⟨⟨p23, w22, rfl, ⟨e0, ⟨f0, fr⟩⟩, by rw [ht]; exact hP, hD⟩, hS.F ht⟩) hS.2.2 d_Nd_fuse_109
    · rw [if_pos c4] at hf
      refine lv_iconst (v := (-1)) hx hb d_Nd_fuse_21 (by decide) ?_
      have bk0_0 : wc_Nd cI cG cZ ad (k0) (x0_0, x0_1, x0_2, x0_3, x0_4, x0_5) w0 := ⟨mk0_0, bk0_1, bk0_35, bk0_55, bk0_58, mk0_61, mk0_62⟩
      have he := Option.some.inj hf
      obtain ⟨e0, he⟩ := Prod.mk.inj he
      obtain ⟨e1, he⟩ := Prod.mk.inj he
      obtain ⟨e2, he⟩ := Prod.mk.inj he
      obtain ⟨e3, he⟩ := Prod.mk.inj he
      obtain ⟨e4, e5⟩ := Prod.mk.inj he
      have f0 : wc_Nd cI cG cZ ad (k0) (y0_0, y0_1, y0_2, y0_3, x0_4, y0_5) w0 := by rw [← e1, ← e2, ← e3, ← e4, ← e5]; exact bk0_0
      exact W.iret (v := (-1)) hx hb hr (fun t ht hW => ⟨⟨(-1), w0, rfl, ⟨e0, ⟨f0, fr⟩⟩, by rw [ht]; exact hP, hD⟩, hS.F ht⟩) hS.2.2 d_Nd_fuse_22
set_option maxHeartbeats 4000000 in
set_option maxRecDepth 100000 in
theorem c_Nd_found (l : Launch) (D : va_G) (cI cG cZ : ClassId) (ad : Nat → Nat) (B : Nat) (w0 : va_W) (N : Nat) (k0 : Nat) (x0_0 : T_Do) (x0_1 : T_Gr) (x0_2 : T_Rk) (x0_3 : T_Rk) (x0_4 : (Nat → Int32)) (x0_5 : (Nat → Int32)) (a1 : Int32) (a2 : Int32) (r : Int32) (hf : f_Nd_found N x0_0 x0_2 a1 a2 = some r) (bk0_0 : wc_Nd cI cG cZ ad k0 (x0_0, x0_1, x0_2, x0_3, x0_4, x0_5) w0) : Met l y_Nd_found (.code y_Nd_found b_Nd_found 4 (some .int) :: hw_G) ({ frames := 3, cells := 0, slots := 0, locals := 63 } : Room) (va_Pc [.ref (ad k0), .int a1, .int a2] (hw_U D cI cG cZ B w0)) (va_Qi (fun (r1 : Int32) (w1 : va_W) => r1 = r ∧ w1 = w0) (hw_B D B) (fun q : Nat => B ≤ q)) 0 0 (fun q : Nat => B ≤ q) := by
  refine Met.ofW (cc := b_Nd_found) (maxL := 4) (ret := (some .int)) (by decide) rfl ?_
  intro p e s m args below meth c s₁ Bd hml hv
  obtain ⟨rfl, hP, hD, hK, hN⟩ := hv
  have C0 : hw_C p s m meth c b_Nd_found 4 _ R_Nd (some .int) := ⟨Bd.exec, Bd.bytes, Bd.returns, hml, findClass_of_methodNamed Bd.named, fun w h => atoms_spec (ws := .code y_Nd_found b_Nd_found 4 (some .int) :: hw_G) Bd.pre w (List.mem_cons_of_mem _ h), Bd.notSynchronized⟩
  obtain ⟨hx, hb, hr, -, hown, hts, hlocks⟩ := id C0
  have hS : va_S (fun q : Nat => B ≤ q) s.heap s.heap [] := va_S.rf
  have fr : w0 = w0 := rfl
  have hl := lv_entry ([.ref (ad k0), .int a1, .int a2]) (n := 4) (Nat.le_of_ble_eq_true rfl)
  rw [lg_entry_eq]
  generalize (lg_sl ([.ref (ad k0), .int a1, .int a2]) ++ List.replicate (4 - (lg_sl ([.ref (ad k0), .int a1, .int a2])).length) Slot.unset).toArray = ls at hl ⊢
  have hl : lv_has ls 4 [(0, .ref (ad k0)), (1, .int a1), (2, .int a2)] := hl
  unfold f_Nd_found at hf
  obtain ⟨mk0_0, bk0_1, bk0_35, bk0_55, bk0_58, mk0_61, mk0_62⟩ := id bk0_0
  have mk0_0 : w0[k0]? = some (ad k0, .inr (6, [.ref (ad (k0 + 1)), .ref (ad (k0 + 35)), .ref (ad (k0 + 55)), .ref (ad (k0 + 58)), .ref (ad (k0 + 61)), .ref (ad (k0 + 62))])) := mk0_0
  have bk0_1 : wc_Do cI cG cZ ad (k0 + 1) x0_0 w0 := bk0_1
  have bk0_35 : wc_Gr cI cG cZ ad (k0 + 35) x0_1 w0 := bk0_35
  have bk0_55 : wc_Rk cI cG cZ ad (k0 + 55) x0_2 w0 := bk0_55
  have bk0_58 : wc_Rk cI cG cZ ad (k0 + 58) x0_3 w0 := bk0_58
  have mk0_61 : w0[k0 + 61]? = some (ad (k0 + 61), .inl (cI, 4, .inl x0_4)) := mk0_61
  have mk0_62 : w0[k0 + 62]? = some (ad (k0 + 62), .inl (cI, 30, .inl x0_5)) := mk0_62
  refine lv_iload_n hx hb d_Nd_found_0 rfl (lv_at hl 2 rfl) ?_
  refine lv_iconst (v := 0) hx hb d_Nd_found_1 (by decide) ?_
  refine lv_iconst (v := 2) hx hb d_Nd_found_2 (by decide) ?_
  obtain ⟨p1, hp1, hf⟩ := g_bd hf
  refine hw_ci0 (va_runS (As := [.int a2, .int 0, .int 2]) (rest := []) ⟨hx, hb, hml, hown, hts⟩ (c_Nd_isWithin l D cI cG cZ ad B w0 N a2 0 2 p1 hp1) (va_cwS 3 hts (hw_gS iw_185 gs_Nd_isWithin) rfl rfl rfl (by decide +kernel) ⟨Nat.le_of_ble_eq_true rfl, Nat.le_of_ble_eq_true rfl⟩) ⟨hw_blind, hw_go hP hD hK hN⟩ rfl rfl hl.1 rfl (lv_room (Nat.le_of_ble_eq_true rfl)) d_Nd_found_3 ⟨Nat.zero_le _, Nat.zero_le _⟩) hS (fun H locs hP hD hS => ?_)
  refine lv_if_ne (tgt := 11) hx hb d_Nd_found_6 (by decide) (fun c2 => ?_) (fun c2 => ?_)
  · rw [if_neg c2] at hf
    refine lv_iload_n hx hb d_Nd_found_11 rfl (lv_at hl 1 rfl) ?_
    refine lv_iconst (v := 0) hx hb d_Nd_found_12 (by decide) ?_
    refine lv_aload_n hx hb d_Nd_found_13 rfl (lv_at hl 0 rfl) ?_
    refine va_get (D := D) (ci := 6) (v := .ref (ad (k0 + 55))) (C := R_Nd) (T := F_Nd) (N := 6) hx hb hts i_Nd hown hK hP (k0) mk0_0 rfl 2 (by decide) (hts _ iw_158) (fun _ h9 => h9) rfl d_Nd_found_14 ?_
    obtain ⟨p3, hp3, hf⟩ := g_bd hf
    refine hw_ci0 (va_runV (As := []) (rest := [.int 0, .int a1]) ⟨hx, hb, hml, hown, hts⟩ (c_Rk_size l D cI cG cZ ad B w0 N (k0 + 55) x0_2.1 x0_2.2.1 x0_2.2.2.1 x0_2.2.2.2.1 x0_2.2.2.2.2 p3 hp3 bk0_55) (cwV 0 hts (hw_gV iw_427 gy_Rk_size) rfl rfl rfl (by decide +kernel) ⟨Nat.le_of_ble_eq_true rfl, Nat.le_of_ble_eq_true rfl⟩) ⟨hw_blind, va_recv hK hP (ci := 4) (q0 := k0 + 55) rfl bk0_55.1, hw_go hP hD hK hN⟩ rfl rfl hl.1 rfl (lv_room (Nat.le_of_ble_eq_true rfl)) d_Nd_found_17 ⟨Nat.zero_le _, Nat.zero_le _⟩) hS (fun H locs hP hD hS => ?_)
    refine lv_iconst (v := 1) hx hb d_Nd_found_20 (by decide) ?_
    refine lv_isub hx hb d_Nd_found_21 ?_
    obtain ⟨p4, hp4, hf⟩ := g_bd hf
    refine hw_ci0 (va_runS (As := [.int a1, .int 0, .int (p3 - 1)]) (rest := []) ⟨hx, hb, hml, hown, hts⟩ (c_Nd_isWithin l D cI cG cZ ad B w0 N a1 0 (p3 - 1) p4 hp4) (va_cwS 3 hts (hw_gS iw_185 gs_Nd_isWithin) rfl rfl rfl (by decide +kernel) ⟨Nat.le_of_ble_eq_true rfl, Nat.le_of_ble_eq_true rfl⟩) ⟨hw_blind, hw_go hP hD hK hN⟩ rfl rfl hl.1 rfl (lv_room (Nat.le_of_ble_eq_true rfl)) d_Nd_found_22 ⟨Nat.zero_le _, Nat.zero_le _⟩) hS (fun H locs hP hD hS => ?_)
    refine lv_if_ne (tgt := 31) hx hb d_Nd_found_25 (by decide) (fun c5 => ?_) (fun c5 => ?_)
    · rw [if_neg c5] at hf
      refine lv_aload_n hx hb d_Nd_found_31 rfl (lv_at hl 0 rfl) ?_
      refine va_get (D := D) (ci := 6) (v := .ref (ad (k0 + 55))) (C := R_Nd) (T := F_Nd) (N := 6) hx hb hts i_Nd hown hK hP (k0) mk0_0 rfl 2 (by decide) (hts _ iw_158) (fun _ h9 => h9) rfl d_Nd_found_32 ?_
      refine lv_iload_n hx hb d_Nd_found_35 rfl (lv_at hl 1 rfl) ?_
      obtain ⟨p6, hp6, hf⟩ := g_bd hf
      refine hw_ci0 (va_runV (As := [.int a1]) (rest := []) ⟨hx, hb, hml, hown, hts⟩ (c_Rk_numberAt l D cI cG cZ ad B w0 N (k0 + 55) x0_2.1 x0_2.2.1 x0_2.2.2.1 x0_2.2.2.2.1 x0_2.2.2.2.2 a1 p6 hp6 bk0_55) (cwV 1 hts (hw_gV iw_428 gy_Rk_numberAt) rfl rfl rfl (by decide +kernel) ⟨Nat.le_of_ble_eq_true rfl, Nat.le_of_ble_eq_true rfl⟩) ⟨hw_blind, va_recv hK hP (ci := 4) (q0 := k0 + 55) rfl bk0_55.1, hw_go hP hD hK hN⟩ rfl rfl hl.1 rfl (lv_room (Nat.le_of_ble_eq_true rfl)) d_Nd_found_36 ⟨Nat.zero_le _, Nat.zero_le _⟩) hS (fun H locs hP hD hS => ?_)
      refine lv_istore_n (lv' := [(3, .int p6), (0, .ref (ad k0)), (1, .int a1), (2, .int a2)]) hx hb d_Nd_found_39 rfl hl (by decide) rfl (fun ls hl => ?_)
      refine lv_iload_n hx hb d_Nd_found_40 rfl (lv_at hl 3 rfl) ?_
      by_cases c7 : a2 = 0
      · rw [if_pos c7] at hf
        refine lv_lookup (tgt := 68) (off := 27) hx hb d_Nd_found_41 (by decide) (by rw [c7]; rfl) (by decide) ?_
        refine lv_iload_n hx hb d_Nd_found_68 rfl (lv_at hl 0 rfl) ?_
        have bk0_0 : wc_Nd cI cG cZ ad (k0) (x0_0, x0_1, x0_2, x0_3, x0_4, x0_5) w0 := ⟨mk0_0, bk0_1, bk0_35, bk0_55, bk0_58, mk0_61, mk0_62⟩
        have e0 := Option.some.inj hf
        exact W.iret (v := p6) hx hb hr (fun t ht hW => ⟨⟨p6, w0, rfl, ⟨e0, fr⟩, by rw [ht]; exact hP, hD⟩, hS.F ht⟩) hS.2.2 d_Nd_found_69
      · rw [if_neg c7] at hf
        by_cases c8 : a2 = 1
        · rw [if_pos c8] at hf
          refine lv_lookup (tgt := 70) (off := 29) hx hb d_Nd_found_41 (by decide) (by rw [c8]; rfl) (by decide) ?_
          refine lv_aload_n hx hb d_Nd_found_70 rfl (lv_at hl 1 rfl) ?_
          refine va_get (D := D) (ci := 6) (v := .ref (ad (k0 + 55))) (C := R_Nd) (T := F_Nd) (N := 6) hx hb hts i_Nd hown hK hP (k0) mk0_0 rfl 2 (by decide) (hts _ iw_158) (fun _ h9 => h9) rfl d_Nd_found_71 ?_
          refine lv_iload_n hx hb d_Nd_found_74 rfl (lv_at hl 2 rfl) ?_
          obtain ⟨p9, hp9, hf⟩ := g_bd hf
          refine hw_ci0 (va_runV (As := [.int a1]) (rest := []) ⟨hx, hb, hml, hown, hts⟩ (c_Rk_valueAt l D cI cG cZ ad B w0 N (k0 + 55) x0_2.1 x0_2.2.1 x0_2.2.2.1 x0_2.2.2.2.1 x0_2.2.2.2.2 a1 p9 hp9 bk0_55) (cwV 1 hts (hw_gV iw_429 gy_Rk_valueAt) rfl rfl rfl (by decide +kernel) ⟨Nat.le_of_ble_eq_true rfl, Nat.le_of_ble_eq_true rfl⟩) ⟨hw_blind, va_recv hK hP (ci := 4) (q0 := k0 + 55) rfl bk0_55.1, hw_go hP hD hK hN⟩ rfl rfl hl.1 rfl (lv_room (Nat.le_of_ble_eq_true rfl)) d_Nd_found_75 ⟨Nat.zero_le _, Nat.zero_le _⟩) hS (fun H locs hP hD hS => ?_)
          have bk0_0 : wc_Nd cI cG cZ ad (k0) (x0_0, x0_1, x0_2, x0_3, x0_4, x0_5) w0 := ⟨mk0_0, bk0_1, bk0_35, bk0_55, bk0_58, mk0_61, mk0_62⟩
          have e0 := Option.some.inj hf
          exact W.iret (v := p9) hx hb hr (fun t ht hW => ⟨⟨p9, w0, rfl, ⟨e0, fr⟩, by rw [ht]; exact hP, hD⟩, hS.F ht⟩) hS.2.2 d_Nd_found_78
        · rw [if_neg c8] at hf
          refine lv_lookup (tgt := 79) (off := 38) hx hb d_Nd_found_41 (by decide) (by show Op.lookupswitch.offset [(0, 27), (1, 29)] 38 _ = 38; rw [lv_osw (a := 0) c7 rfl, lv_osw (a := 1) c8 rfl]; rfl) (by decide) ?_
          refine lv_aload_n hx hb d_Nd_found_79 rfl (lv_at hl 1 rfl) ?_
          refine va_get (D := D) (ci := 6) (v := .ref (ad (k0 + 1))) (C := R_Nd) (T := F_Nd) (N := 6) hx hb hts i_Nd hown hK hP (k0) mk0_0 rfl 0 (by decide) (hts _ iw_156) (fun _ h9 => h9) rfl d_Nd_found_80 ?_
          refine lv_iload_n hx hb d_Nd_found_83 rfl (lv_at hl 0 rfl) ?_
          obtain ⟨p10, hp10, hf⟩ := g_bd hf
          refine hw_ci0 (va_runV (As := [.int p6]) (rest := []) ⟨hx, hb, hml, hown, hts⟩ (c_Do_isLive l D cI cG cZ ad B w0 N (k0 + 1) x0_0.1 x0_0.2.1 x0_0.2.2.1 x0_0.2.2.2 p6 p10 hp10 bk0_1) (cwV 1 hts (hw_gV iw_403 gy_Do_isLive) rfl rfl rfl (by decide +kernel) ⟨Nat.le_of_ble_eq_true rfl, Nat.le_of_ble_eq_true rfl⟩) ⟨hw_blind, va_recv hK hP (ci := 1) (q0 := k0 + 1) rfl bk0_1.1, hw_go hP hD hK hN⟩ rfl rfl hl.1 rfl (lv_room (Nat.le_of_ble_eq_true rfl)) d_Nd_found_84 ⟨Nat.zero_le _, Nat.zero_le _⟩) hS (fun H locs hP hD hS => ?_)
          refine lv_if_eq (tgt := 94) hx hb d_Nd_found_87 (by decide) (fun c11 => ?_) (fun c11 => ?_)
          · rw [if_pos c11] at hf
            refine lv_iconst (v := 0) hx hb d_Nd_found_94 (by decide) ?_
            have bk0_0 : wc_Nd cI cG cZ ad (k0) (x0_0, x0_1, x0_2, x0_3, x0_4, x0_5) w0 := ⟨mk0_0, bk0_1, bk0_35, bk0_55, bk0_58, mk0_61, mk0_62⟩
            have e0 := Option.some.inj hf
            exact W.iret (v := 0) hx hb hr (fun t ht hW => ⟨⟨0, w0, rfl, ⟨e0, fr⟩, by rw [ht]; exact hP, hD⟩, hS.F ht⟩) hS.2.2 d_Nd_found_95
          · rw [if_neg c11] at hf
            refine lv_iconst (v := 1) hx hb d_Nd_found_90 (by decide) ?_
            refine lv_goto (tgt := 95) hx hb d_Nd_found_91 (by decide) ?_
            have bk0_0 : wc_Nd cI cG cZ ad (k0) (x0_0, x0_1, x0_2, x0_3, x0_4, x0_5) w0 := ⟨mk0_0, bk0_1, bk0_35, bk0_55, bk0_58, mk0_61, mk0_62⟩
            have e0 := Option.some.inj hf
            exact W.iret (v := 1) hx hb hr (fun t ht hW => ⟨⟨1, w0, rfl, ⟨e0, fr⟩, by rw [ht]; exact hP, hD⟩, hS.F ht⟩) hS.2.2 d_Nd_found_95
    · rw [if_pos c5] at hf
      refine lv_bipush (v := (-2)) hx hb d_Nd_found_28 (by decide) ?_
      have bk0_0 : wc_Nd cI cG cZ ad (k0) (x0_0, x0_1, x0_2, x0_3, x0_4, x0_5) w0 := ⟨mk0_0, bk0_1, bk0_35, bk0_55, bk0_58, mk0_61, mk0_62⟩
      have e0 := Option.some.inj hf
      exact W.iret (v := (-2)) hx hb hr (fun t ht hW => ⟨⟨(-2), w0, rfl, ⟨e0, fr⟩, by rw [ht]; exact hP, hD⟩, hS.F ht⟩) hS.2.2 d_Nd_found_30
  · rw [if_pos c2] at hf
    refine lv_iconst (v := (-1)) hx hb d_Nd_found_9 (by decide) ?_
    have bk0_0 : wc_Nd cI cG cZ ad (k0) (x0_0, x0_1, x0_2, x0_3, x0_4, x0_5) w0 := ⟨mk0_0, bk0_1, bk0_35, bk0_55, bk0_58, mk0_61, mk0_62⟩
    have e0 := Option.some.inj hf
    exact W.iret (v := (-1)) hx hb hr (fun t ht hW => ⟨⟨(-1), w0, rfl, ⟨e0, fr⟩, by rw [ht]; exact hP, hD⟩, hS.F ht⟩) hS.2.2 d_Nd_found_10
set_option maxHeartbeats 4000000 in
set_option maxRecDepth 100000 in
theorem c_Nd_node (l : Launch) (D : va_G) (cI cG cZ : ClassId) (ad : Nat → Nat) (B : Nat) (w0 : va_W) (N : Nat) (k0 : Nat) (x0_0 : T_Do) (x0_1 : T_Gr) (x0_2 : T_Rk) (x0_3 : T_Rk) (x0_4 : (Nat → Int32)) (x0_5 : (Nat → Int32)) (a1 : Int32) (a2 : Int32) (r : Int32) (hf : f_Nd_node N x0_0 x0_1 a1 a2 = some r) (bk0_0 : wc_Nd cI cG cZ ad k0 (x0_0, x0_1, x0_2, x0_3, x0_4, x0_5) w0) : Met l y_Nd_node (.code y_Nd_node b_Nd_node 4 (some .int) :: hw_G) ({ frames := 4, cells := 0, slots := 0, locals := 85 } : Room) (va_Pc [.ref (ad k0), .int a1, .int a2] (hw_U D cI cG cZ B w0)) (va_Qi (fun (r1 : Int32) (w1 : va_W) => r1 = r ∧ w1 = w0) (hw_B D B) (fun q : Nat => B ≤ q)) 0 0 (fun q : Nat => B ≤ q) := by
  refine Met.ofW (cc := b_Nd_node) (maxL := 4) (ret := (some .int)) (by decide) rfl ?_
  intro p e s m args below meth c s₁ Bd hml hv
  obtain ⟨rfl, hP, hD, hK, hN⟩ := hv
  have C0 : hw_C p s m meth c b_Nd_node 4 _ R_Nd (some .int) := ⟨Bd.exec, Bd.bytes, Bd.returns, hml, findClass_of_methodNamed Bd.named, fun w h => atoms_spec (ws := .code y_Nd_node b_Nd_node 4 (some .int) :: hw_G) Bd.pre w (List.mem_cons_of_mem _ h), Bd.notSynchronized⟩
  obtain ⟨hx, hb, hr, -, hown, hts, hlocks⟩ := id C0
  have hS : va_S (fun q : Nat => B ≤ q) s.heap s.heap [] := va_S.rf
  have fr : w0 = w0 := rfl
  have hl := lv_entry ([.ref (ad k0), .int a1, .int a2]) (n := 4) (Nat.le_of_ble_eq_true rfl)
  rw [lg_entry_eq]
  generalize (lg_sl ([.ref (ad k0), .int a1, .int a2]) ++ List.replicate (4 - (lg_sl ([.ref (ad k0), .int a1, .int a2])).length) Slot.unset).toArray = ls at hl ⊢
  have hl : lv_has ls 4 [(0, .ref (ad k0)), (1, .int a1), (2, .int a2)] := hl
  unfold f_Nd_node at hf
  obtain ⟨mk0_0, bk0_1, bk0_35, bk0_55, bk0_58, mk0_61, mk0_62⟩ := id bk0_0
  have mk0_0 : w0[k0]? = some (ad k0, .inr (6, [.ref (ad (k0 + 1)), .ref (ad (k0 + 35)), .ref (ad (k0 + 55)), .ref (ad (k0 + 58)), .ref (ad (k0 + 61)), .ref (ad (k0 + 62))])) := mk0_0
  have bk0_1 : wc_Do cI cG cZ ad (k0 + 1) x0_0 w0 := bk0_1
  have bk0_35 : wc_Gr cI cG cZ ad (k0 + 35) x0_1 w0 := bk0_35
  have bk0_55 : wc_Rk cI cG cZ ad (k0 + 55) x0_2 w0 := bk0_55
  have bk0_58 : wc_Rk cI cG cZ ad (k0 + 58) x0_3 w0 := bk0_58
  have mk0_61 : w0[k0 + 61]? = some (ad (k0 + 61), .inl (cI, 4, .inl x0_4)) := mk0_61
  have mk0_62 : w0[k0 + 62]? = some (ad (k0 + 62), .inl (cI, 30, .inl x0_5)) := mk0_62
  refine lv_iload_n hx hb d_Nd_node_0 rfl (lv_at hl 2 rfl) ?_
  refine lv_iconst (v := 0) hx hb d_Nd_node_1 (by decide) ?_
  refine lv_bipush (v := 7) hx hb d_Nd_node_2 (by decide) ?_
  obtain ⟨p1, hp1, hf⟩ := g_bd hf
  refine hw_ci0 (va_runS (As := [.int a2, .int 0, .int 7]) (rest := []) ⟨hx, hb, hml, hown, hts⟩ (c_Nd_isWithin l D cI cG cZ ad B w0 N a2 0 7 p1 hp1) (va_cwS 3 hts (hw_gS iw_185 gs_Nd_isWithin) rfl rfl rfl (by decide +kernel) ⟨Nat.le_of_ble_eq_true rfl, Nat.le_of_ble_eq_true rfl⟩) ⟨hw_blind, hw_go hP hD hK hN⟩ rfl rfl hl.1 rfl (lv_room (Nat.le_of_ble_eq_true rfl)) d_Nd_node_4 ⟨Nat.zero_le _, Nat.zero_le _⟩) hS (fun H locs hP hD hS => ?_)
  refine lv_if_ne (tgt := 23) hx hb d_Nd_node_7 (by decide) (fun c2 => ?_) (fun c2 => ?_)
  · rw [if_neg c2] at hf
    refine lv_aload_n hx hb d_Nd_node_23 rfl (lv_at hl 0 rfl) ?_
    refine va_get (D := D) (ci := 6) (v := .ref (ad (k0 + 35))) (C := R_Nd) (T := F_Nd) (N := 6) hx hb hts i_Nd hown hK hP (k0) mk0_0 rfl 1 (by decide) (hts _ iw_157) (fun _ h9 => h9) rfl d_Nd_node_24 ?_
    obtain ⟨mk0_35, bk0_36, bk0_42, bk0_50, bk0_52⟩ := id bk0_35
    have mk0_35 : w0[k0 + 35]? = some (ad (k0 + 35), .inr (2, [.ref (ad (k0 + 36)), .ref (ad (k0 + 42)), .ref (ad (k0 + 50)), .ref (ad (k0 + 52)), .int x0_1.2.2.2.2.1, .int x0_1.2.2.2.2.2.1, .int x0_1.2.2.2.2.2.2])) := mk0_35
    have bk0_36 : wc_Li cI cG cZ ad (k0 + 36) x0_1.1 w0 := bk0_36
    have bk0_42 : wc_Wa cI cG cZ ad (k0 + 42) x0_1.2.1 w0 := bk0_42
    have bk0_50 : wc_Ch cI cG cZ ad (k0 + 50) x0_1.2.2.1 w0 := bk0_50
    have bk0_52 : wc_Rk cI cG cZ ad (k0 + 52) x0_1.2.2.2.1 w0 := bk0_52
    refine va_getN (D := D) (ci := 2) (v := .ref (ad (k0 + 36))) (C := R_Gr) (T := F_Gr) (N := 7) hx hb hts i_Gr hown hK hP (k0 + 35) mk0_35 rfl 0 (by decide) (va_Nw.use rfl (hN _ in_132)) (fun _ h9 => h9) rfl d_Nd_node_27 ?_
    refine lv_iload_n hx hb d_Nd_node_30 rfl (lv_at hl 1 rfl) ?_
    obtain ⟨p3, hp3, hf⟩ := g_bd hf
    refine hw_ci0 (va_runV (As := [.int a1]) (rest := []) ⟨hx, hb, hml, hown, hts⟩ (c_Li_isNode l D cI cG cZ ad B w0 N (k0 + 36) x0_1.1.1 x0_1.1.2.1 x0_1.1.2.2.1 x0_1.1.2.2.2.1 x0_1.1.2.2.2.2.1 x0_1.1.2.2.2.2.2 a1 p3 hp3 bk0_36) (cwV 1 hts (hw_gV iw_489 gy_Li_isNode) rfl rfl rfl (by decide +kernel) ⟨Nat.le_of_ble_eq_true rfl, Nat.le_of_ble_eq_true rfl⟩) ⟨hw_blind, va_recv hK hP (ci := 3) (q0 := k0 + 36) rfl bk0_36.1, hw_go hP hD hK hN⟩ rfl rfl hl.1 rfl (lv_room (Nat.le_of_ble_eq_true rfl)) d_Nd_node_31 ⟨Nat.zero_le _, Nat.zero_le _⟩) hS (fun H locs hP hD hS => ?_)
    refine lv_if_ne (tgt := 40) hx hb d_Nd_node_34 (by decide) (fun c4 => ?_) (fun c4 => ?_)
    · rw [if_neg c4] at hf
      refine lv_iload_n hx hb d_Nd_node_40 rfl (lv_at hl 2 rfl) ?_
      refine lv_bipush (v := 10) hx hb d_Nd_node_41 (by decide) ?_
      refine lv_icmp_lt (tgt := 84) hx hb d_Nd_node_43 (by decide) (fun c5 => ?_) (fun c5 => ?_)
      · rw [if_pos c5] at hf
        refine lv_iload_n hx hb d_Nd_node_84 rfl (lv_at hl 2 rfl) ?_
        by_cases c6 : a2 = 0
        · rw [if_pos c6] at hf
          refine lv_tableIn (tgt := 132) (off := 47) hx hb d_Nd_node_85 (by rw [c6]; decide) (by rw [c6]; decide) (by rw [c6]; rfl) (by decide) ?_
          refine lv_aload_n hx hb d_Nd_node_132 rfl (lv_at hl 0 rfl) ?_
          refine va_get (D := D) (ci := 6) (v := .ref (ad (k0 + 35))) (C := R_Nd) (T := F_Nd) (N := 6) hx hb hts i_Nd hown hK hP (k0) mk0_0 rfl 1 (by decide) (hts _ iw_157) (fun _ h9 => h9) rfl d_Nd_node_133 ?_
          refine va_getN (D := D) (ci := 2) (v := .ref (ad (k0 + 36))) (C := R_Gr) (T := F_Gr) (N := 7) hx hb hts i_Gr hown hK hP (k0 + 35) mk0_35 rfl 0 (by decide) (va_Nw.use rfl (hN _ in_132)) (fun _ h9 => h9) rfl d_Nd_node_136 ?_
          refine lv_iload_n hx hb d_Nd_node_139 rfl (lv_at hl 1 rfl) ?_
          obtain ⟨p7, hp7, hf⟩ := g_bd hf
          refine hw_ci0 (va_runV (As := [.int a1]) (rest := []) ⟨hx, hb, hml, hown, hts⟩ (c_Li_level l D cI cG cZ ad B w0 N (k0 + 36) x0_1.1.1 x0_1.1.2.1 x0_1.1.2.2.1 x0_1.1.2.2.2.1 x0_1.1.2.2.2.2.1 x0_1.1.2.2.2.2.2 a1 p7 hp7 bk0_36) (cwV 1 hts (hw_gV iw_501 gy_Li_level) rfl rfl rfl (by decide +kernel) ⟨Nat.le_of_ble_eq_true rfl, Nat.le_of_ble_eq_true rfl⟩) ⟨hw_blind, va_recv hK hP (ci := 3) (q0 := k0 + 36) rfl bk0_36.1, hw_go hP hD hK hN⟩ rfl rfl hl.1 rfl (lv_room (Nat.le_of_ble_eq_true rfl)) d_Nd_node_140 ⟨Nat.zero_le _, Nat.zero_le _⟩) hS (fun H locs hP hD hS => ?_)
          have bk0_35 : wc_Gr cI cG cZ ad (k0 + 35) x0_1 w0 := ⟨mk0_35, bk0_36, bk0_42, bk0_50, bk0_52⟩
          have bk0_0 : wc_Nd cI cG cZ ad (k0) (x0_0, x0_1, x0_2, x0_3, x0_4, x0_5) w0 := ⟨mk0_0, bk0_1, bk0_35, bk0_55, bk0_58, mk0_61, mk0_62⟩
          have e0 := Option.some.inj hf
          exact W.iret (v := p7) hx hb hr (fun t ht hW => ⟨⟨p7, w0, rfl, ⟨e0, fr⟩, by rw [ht]; exact hP, hD⟩, hS.F ht⟩) hS.2.2 d_Nd_node_143
        · rw [if_neg c6] at hf
          by_cases c8 : a2 = 1
          · rw [if_pos c8] at hf
            refine lv_tableIn (tgt := 144) (off := 59) hx hb d_Nd_node_85 (by rw [c8]; decide) (by rw [c8]; decide) (by rw [c8]; rfl) (by decide) ?_
            refine lv_aload_n hx hb d_Nd_node_144 rfl (lv_at hl 0 rfl) ?_
            refine va_get (D := D) (ci := 6) (v := .ref (ad (k0 + 35))) (C := R_Nd) (T := F_Nd) (N := 6) hx hb hts i_Nd hown hK hP (k0) mk0_0 rfl 1 (by decide) (hts _ iw_157) (fun _ h9 => h9) rfl d_Nd_node_145 ?_
            refine va_getN (D := D) (ci := 2) (v := .ref (ad (k0 + 36))) (C := R_Gr) (T := F_Gr) (N := 7) hx hb hts i_Gr hown hK hP (k0 + 35) mk0_35 rfl 0 (by decide) (va_Nw.use rfl (hN _ in_132)) (fun _ h9 => h9) rfl d_Nd_node_148 ?_
            refine lv_iload_n hx hb d_Nd_node_151 rfl (lv_at hl 1 rfl) ?_
            obtain ⟨p9, hp9, hf⟩ := g_bd hf
            refine hw_ci0 (va_runV (As := [.int a1]) (rest := []) ⟨hx, hb, hml, hown, hts⟩ (c_Li_order l D cI cG cZ ad B w0 N (k0 + 36) x0_1.1.1 x0_1.1.2.1 x0_1.1.2.2.1 x0_1.1.2.2.2.1 x0_1.1.2.2.2.2.1 x0_1.1.2.2.2.2.2 a1 p9 hp9 bk0_36) (cwV 1 hts (hw_gV iw_502 gy_Li_order) rfl rfl rfl (by decide +kernel) ⟨Nat.le_of_ble_eq_true rfl, Nat.le_of_ble_eq_true rfl⟩) ⟨hw_blind, va_recv hK hP (ci := 3) (q0 := k0 + 36) rfl bk0_36.1, hw_go hP hD hK hN⟩ rfl rfl hl.1 rfl (lv_room (Nat.le_of_ble_eq_true rfl)) d_Nd_node_152 ⟨Nat.zero_le _, Nat.zero_le _⟩) hS (fun H locs hP hD hS => ?_)
            have bk0_35 : wc_Gr cI cG cZ ad (k0 + 35) x0_1 w0 := ⟨mk0_35, bk0_36, bk0_42, bk0_50, bk0_52⟩
            have bk0_0 : wc_Nd cI cG cZ ad (k0) (x0_0, x0_1, x0_2, x0_3, x0_4, x0_5) w0 := ⟨mk0_0, bk0_1, bk0_35, bk0_55, bk0_58, mk0_61, mk0_62⟩
            have e0 := Option.some.inj hf
            exact W.iret (v := p9) hx hb hr (fun t ht hW => ⟨⟨p9, w0, rfl, ⟨e0, fr⟩, by rw [ht]; exact hP, hD⟩, hS.F ht⟩) hS.2.2 d_Nd_node_155
          · rw [if_neg c8] at hf
            by_cases c10 : a2 = 2
            · rw [if_pos c10] at hf
              refine lv_tableIn (tgt := 156) (off := 71) hx hb d_Nd_node_85 (by rw [c10]; decide) (by rw [c10]; decide) (by rw [c10]; rfl) (by decide) ?_
              refine lv_aload_n hx hb d_Nd_node_156 rfl (lv_at hl 0 rfl) ?_
              refine va_get (D := D) (ci := 6) (v := .ref (ad (k0 + 1))) (C := R_Nd) (T := F_Nd) (N := 6) hx hb hts i_Nd hown hK hP (k0) mk0_0 rfl 0 (by decide) (hts _ iw_156) (fun _ h9 => h9) rfl d_Nd_node_157 ?_
              refine lv_iload_n hx hb d_Nd_node_160 rfl (lv_at hl 1 rfl) ?_
              obtain ⟨p11, hp11, hf⟩ := g_bd hf
              refine hw_ci0 (va_runV (As := [.int a1]) (rest := []) ⟨hx, hb, hml, hown, hts⟩ (c_Do_isLive l D cI cG cZ ad B w0 N (k0 + 1) x0_0.1 x0_0.2.1 x0_0.2.2.1 x0_0.2.2.2 a1 p11 hp11 bk0_1) (cwV 1 hts (hw_gV iw_403 gy_Do_isLive) rfl rfl rfl (by decide +kernel) ⟨Nat.le_of_ble_eq_true rfl, Nat.le_of_ble_eq_true rfl⟩) ⟨hw_blind, va_recv hK hP (ci := 1) (q0 := k0 + 1) rfl bk0_1.1, hw_go hP hD hK hN⟩ rfl rfl hl.1 rfl (lv_room (Nat.le_of_ble_eq_true rfl)) d_Nd_node_161 ⟨Nat.zero_le _, Nat.zero_le _⟩) hS (fun H locs hP hD hS => ?_)
              refine lv_if_eq (tgt := 171) hx hb d_Nd_node_164 (by decide) (fun c12 => ?_) (fun c12 => ?_)
              · rw [if_pos c12] at hf
                refine lv_iconst (v := 0) hx hb d_Nd_node_171 (by decide) ?_
                have bk0_35 : wc_Gr cI cG cZ ad (k0 + 35) x0_1 w0 := ⟨mk0_35, bk0_36, bk0_42, bk0_50, bk0_52⟩
                have bk0_0 : wc_Nd cI cG cZ ad (k0) (x0_0, x0_1, x0_2, x0_3, x0_4, x0_5) w0 := ⟨mk0_0, bk0_1, bk0_35, bk0_55, bk0_58, mk0_61, mk0_62⟩
                have e0 := Option.some.inj hf
                exact W.iret (v := 0) hx hb hr (fun t ht hW => ⟨⟨0, w0, rfl, ⟨e0, fr⟩, by rw [ht]; exact hP, hD⟩, hS.F ht⟩) hS.2.2 d_Nd_node_172
              · rw [if_neg c12] at hf
                refine lv_iconst (v := 1) hx hb d_Nd_node_167 (by decide) ?_
                refine lv_goto (tgt := 172) hx hb d_Nd_node_168 (by decide) ?_
                have bk0_35 : wc_Gr cI cG cZ ad (k0 + 35) x0_1 w0 := ⟨mk0_35, bk0_36, bk0_42, bk0_50, bk0_52⟩
                have bk0_0 : wc_Nd cI cG cZ ad (k0) (x0_0, x0_1, x0_2, x0_3, x0_4, x0_5) w0 := ⟨mk0_0, bk0_1, bk0_35, bk0_55, bk0_58, mk0_61, mk0_62⟩
                have e0 := Option.some.inj hf
                exact W.iret (v := 1) hx hb hr (fun t ht hW => ⟨⟨1, w0, rfl, ⟨e0, fr⟩, by rw [ht]; exact hP, hD⟩, hS.F ht⟩) hS.2.2 d_Nd_node_172
            · rw [if_neg c10] at hf
              by_cases c13 : a2 = 3
              · rw [if_pos c13] at hf
                refine lv_tableIn (tgt := 182) (off := 97) hx hb d_Nd_node_85 (by rw [c13]; decide) (by rw [c13]; decide) (by rw [c13]; rfl) (by decide) ?_
                refine lv_aload_n hx hb d_Nd_node_182 rfl (lv_at hl 0 rfl) ?_
                refine va_get (D := D) (ci := 6) (v := .ref (ad (k0 + 1))) (C := R_Nd) (T := F_Nd) (N := 6) hx hb hts i_Nd hown hK hP (k0) mk0_0 rfl 0 (by decide) (hts _ iw_156) (fun _ h9 => h9) rfl d_Nd_node_183 ?_
                refine lv_iload_n hx hb d_Nd_node_186 rfl (lv_at hl 1 rfl) ?_
                refine lv_iload_n hx hb d_Nd_node_187 rfl (lv_at hl 2 rfl) ?_
                refine lv_iconst (v := 3) hx hb d_Nd_node_188 (by decide) ?_
                refine lv_isub hx hb d_Nd_node_189 ?_
                obtain ⟨p14, hp14, hf⟩ := g_bd hf
                refine hw_ci0 (va_runV (As := [.int a1, .int (a2 - 3)]) (rest := []) ⟨hx, hb, hml, hown, hts⟩ (c_Do_coordinate l D cI cG cZ ad B w0 N (k0 + 1) x0_0.1 x0_0.2.1 x0_0.2.2.1 x0_0.2.2.2 a1 (a2 - 3) p14 hp14 bk0_1) (cwV 2 hts (hw_gV iw_510 gy_Do_coordinate) rfl rfl rfl (by decide +kernel) ⟨Nat.le_of_ble_eq_true rfl, Nat.le_of_ble_eq_true rfl⟩) ⟨hw_blind, va_recv hK hP (ci := 1) (q0 := k0 + 1) rfl bk0_1.1, hw_go hP hD hK hN⟩ rfl rfl hl.1 rfl (lv_room (Nat.le_of_ble_eq_true rfl)) d_Nd_node_190 ⟨Nat.zero_le _, Nat.zero_le _⟩) hS (fun H locs hP hD hS => ?_)
                have bk0_35 : wc_Gr cI cG cZ ad (k0 + 35) x0_1 w0 := ⟨mk0_35, bk0_36, bk0_42, bk0_50, bk0_52⟩
                have bk0_0 : wc_Nd cI cG cZ ad (k0) (x0_0, x0_1, x0_2, x0_3, x0_4, x0_5) w0 := ⟨mk0_0, bk0_1, bk0_35, bk0_55, bk0_58, mk0_61, mk0_62⟩
                have e0 := Option.some.inj hf
                exact W.iret (v := p14) hx hb hr (fun t ht hW => ⟨⟨p14, w0, rfl, ⟨e0, fr⟩, by rw [ht]; exact hP, hD⟩, hS.F ht⟩) hS.2.2 d_Nd_node_193
              · rw [if_neg c13] at hf
                by_cases c15 : a2 = 4
                · rw [if_pos c15] at hf
                  refine lv_tableIn (tgt := 182) (off := 97) hx hb d_Nd_node_85 (by rw [c15]; decide) (by rw [c15]; decide) (by rw [c15]; rfl) (by decide) ?_
                  refine lv_aload_n hx hb d_Nd_node_182 rfl (lv_at hl 0 rfl) ?_
                  refine va_get (D := D) (ci := 6) (v := .ref (ad (k0 + 1))) (C := R_Nd) (T := F_Nd) (N := 6) hx hb hts i_Nd hown hK hP (k0) mk0_0 rfl 0 (by decide) (hts _ iw_156) (fun _ h9 => h9) rfl d_Nd_node_183 ?_
                  refine lv_iload_n hx hb d_Nd_node_186 rfl (lv_at hl 1 rfl) ?_
                  refine lv_iload_n hx hb d_Nd_node_187 rfl (lv_at hl 2 rfl) ?_
                  refine lv_iconst (v := 3) hx hb d_Nd_node_188 (by decide) ?_
                  refine lv_isub hx hb d_Nd_node_189 ?_
                  obtain ⟨p16, hp16, hf⟩ := g_bd hf
                  refine hw_ci0 (va_runV (As := [.int a1, .int (a2 - 3)]) (rest := []) ⟨hx, hb, hml, hown, hts⟩ (c_Do_coordinate l D cI cG cZ ad B w0 N (k0 + 1) x0_0.1 x0_0.2.1 x0_0.2.2.1 x0_0.2.2.2 a1 (a2 - 3) p16 hp16 bk0_1) (cwV 2 hts (hw_gV iw_510 gy_Do_coordinate) rfl rfl rfl (by decide +kernel) ⟨Nat.le_of_ble_eq_true rfl, Nat.le_of_ble_eq_true rfl⟩) ⟨hw_blind, va_recv hK hP (ci := 1) (q0 := k0 + 1) rfl bk0_1.1, hw_go hP hD hK hN⟩ rfl rfl hl.1 rfl (lv_room (Nat.le_of_ble_eq_true rfl)) d_Nd_node_190 ⟨Nat.zero_le _, Nat.zero_le _⟩) hS (fun H locs hP hD hS => ?_)
                  have bk0_35 : wc_Gr cI cG cZ ad (k0 + 35) x0_1 w0 := ⟨mk0_35, bk0_36, bk0_42, bk0_50, bk0_52⟩
                  have bk0_0 : wc_Nd cI cG cZ ad (k0) (x0_0, x0_1, x0_2, x0_3, x0_4, x0_5) w0 := ⟨mk0_0, bk0_1, bk0_35, bk0_55, bk0_58, mk0_61, mk0_62⟩
                  have e0 := Option.some.inj hf
                  exact W.iret (v := p16) hx hb hr (fun t ht hW => ⟨⟨p16, w0, rfl, ⟨e0, fr⟩, by rw [ht]; exact hP, hD⟩, hS.F ht⟩) hS.2.2 d_Nd_node_193
                · rw [if_neg c15] at hf
                  by_cases c17 : a2 = 5
                  · rw [if_pos c17] at hf
                    refine lv_tableIn (tgt := 182) (off := 97) hx hb d_Nd_node_85 (by rw [c17]; decide) (by rw [c17]; decide) (by rw [c17]; rfl) (by decide) ?_
                    refine lv_aload_n hx hb d_Nd_node_182 rfl (lv_at hl 0 rfl) ?_
                    refine va_get (D := D) (ci := 6) (v := .ref (ad (k0 + 1))) (C := R_Nd) (T := F_Nd) (N := 6) hx hb hts i_Nd hown hK hP (k0) mk0_0 rfl 0 (by decide) (hts _ iw_156) (fun _ h9 => h9) rfl d_Nd_node_183 ?_
                    refine lv_iload_n hx hb d_Nd_node_186 rfl (lv_at hl 1 rfl) ?_
                    refine lv_iload_n hx hb d_Nd_node_187 rfl (lv_at hl 2 rfl) ?_
                    refine lv_iconst (v := 3) hx hb d_Nd_node_188 (by decide) ?_
                    refine lv_isub hx hb d_Nd_node_189 ?_
                    obtain ⟨p18, hp18, hf⟩ := g_bd hf
                    refine hw_ci0 (va_runV (As := [.int a1, .int (a2 - 3)]) (rest := []) ⟨hx, hb, hml, hown, hts⟩ (c_Do_coordinate l D cI cG cZ ad B w0 N (k0 + 1) x0_0.1 x0_0.2.1 x0_0.2.2.1 x0_0.2.2.2 a1 (a2 - 3) p18 hp18 bk0_1) (cwV 2 hts (hw_gV iw_510 gy_Do_coordinate) rfl rfl rfl (by decide +kernel) ⟨Nat.le_of_ble_eq_true rfl, Nat.le_of_ble_eq_true rfl⟩) ⟨hw_blind, va_recv hK hP (ci := 1) (q0 := k0 + 1) rfl bk0_1.1, hw_go hP hD hK hN⟩ rfl rfl hl.1 rfl (lv_room (Nat.le_of_ble_eq_true rfl)) d_Nd_node_190 ⟨Nat.zero_le _, Nat.zero_le _⟩) hS (fun H locs hP hD hS => ?_)
                    have bk0_35 : wc_Gr cI cG cZ ad (k0 + 35) x0_1 w0 := ⟨mk0_35, bk0_36, bk0_42, bk0_50, bk0_52⟩
                    have bk0_0 : wc_Nd cI cG cZ ad (k0) (x0_0, x0_1, x0_2, x0_3, x0_4, x0_5) w0 := ⟨mk0_0, bk0_1, bk0_35, bk0_55, bk0_58, mk0_61, mk0_62⟩
                    have e0 := Option.some.inj hf
                    exact W.iret (v := p18) hx hb hr (fun t ht hW => ⟨⟨p18, w0, rfl, ⟨e0, fr⟩, by rw [ht]; exact hP, hD⟩, hS.F ht⟩) hS.2.2 d_Nd_node_193
                  · rw [if_neg c17] at hf
                    by_cases c19 : a2 = 6
                    · rw [if_pos c19] at hf
                      refine lv_tableIn (tgt := 182) (off := 97) hx hb d_Nd_node_85 (by rw [c19]; decide) (by rw [c19]; decide) (by rw [c19]; rfl) (by decide) ?_
                      refine lv_aload_n hx hb d_Nd_node_182 rfl (lv_at hl 0 rfl) ?_
                      refine va_get (D := D) (ci := 6) (v := .ref (ad (k0 + 1))) (C := R_Nd) (T := F_Nd) (N := 6) hx hb hts i_Nd hown hK hP (k0) mk0_0 rfl 0 (by decide) (hts _ iw_156) (fun _ h9 => h9) rfl d_Nd_node_183 ?_
                      refine lv_iload_n hx hb d_Nd_node_186 rfl (lv_at hl 1 rfl) ?_
                      refine lv_iload_n hx hb d_Nd_node_187 rfl (lv_at hl 2 rfl) ?_
                      refine lv_iconst (v := 3) hx hb d_Nd_node_188 (by decide) ?_
                      refine lv_isub hx hb d_Nd_node_189 ?_
                      obtain ⟨p20, hp20, hf⟩ := g_bd hf
                      refine hw_ci0 (va_runV (As := [.int a1, .int (a2 - 3)]) (rest := []) ⟨hx, hb, hml, hown, hts⟩ (c_Do_coordinate l D cI cG cZ ad B w0 N (k0 + 1) x0_0.1 x0_0.2.1 x0_0.2.2.1 x0_0.2.2.2 a1 (a2 - 3) p20 hp20 bk0_1) (cwV 2 hts (hw_gV iw_510 gy_Do_coordinate) rfl rfl rfl (by decide +kernel) ⟨Nat.le_of_ble_eq_true rfl, Nat.le_of_ble_eq_true rfl⟩) ⟨hw_blind, va_recv hK hP (ci := 1) (q0 := k0 + 1) rfl bk0_1.1, hw_go hP hD hK hN⟩ rfl rfl hl.1 rfl (lv_room (Nat.le_of_ble_eq_true rfl)) d_Nd_node_190 ⟨Nat.zero_le _, Nat.zero_le _⟩) hS (fun H locs hP hD hS => ?_)
                      have bk0_35 : wc_Gr cI cG cZ ad (k0 + 35) x0_1 w0 := ⟨mk0_35, bk0_36, bk0_42, bk0_50, bk0_52⟩
                      have bk0_0 : wc_Nd cI cG cZ ad (k0) (x0_0, x0_1, x0_2, x0_3, x0_4, x0_5) w0 := ⟨mk0_0, bk0_1, bk0_35, bk0_55, bk0_58, mk0_61, mk0_62⟩
                      have e0 := Option.some.inj hf
                      exact W.iret (v := p20) hx hb hr (fun t ht hW => ⟨⟨p20, w0, rfl, ⟨e0, fr⟩, by rw [ht]; exact hP, hD⟩, hS.F ht⟩) hS.2.2 d_Nd_node_193
                    · rw [if_neg c19] at hf
                      by_cases c21 : a2 = 7
                      · rw [if_pos c21] at hf
                        refine lv_tableIn (tgt := 173) (off := 88) hx hb d_Nd_node_85 (by rw [c21]; decide) (by rw [c21]; decide) (by rw [c21]; rfl) (by decide) ?_
                        refine lv_aload_n hx hb d_Nd_node_173 rfl (lv_at hl 0 rfl) ?_
                        refine va_get (D := D) (ci := 6) (v := .ref (ad (k0 + 1))) (C := R_Nd) (T := F_Nd) (N := 6) hx hb hts i_Nd hown hK hP (k0) mk0_0 rfl 0 (by decide) (hts _ iw_156) (fun _ h9 => h9) rfl d_Nd_node_174 ?_
                        refine lv_iload_n hx hb d_Nd_node_177 rfl (lv_at hl 1 rfl) ?_
                        obtain ⟨p22, hp22, hf⟩ := g_bd hf
                        refine hw_ci0 (va_runV (As := [.int a1]) (rest := []) ⟨hx, hb, hml, hown, hts⟩ (c_Do_counts l D cI cG cZ ad B w0 N (k0 + 1) x0_0.1 x0_0.2.1 x0_0.2.2.1 x0_0.2.2.2 a1 p22 hp22 bk0_1) (cwV 1 hts (hw_gV iw_506 gy_Do_counts) rfl rfl rfl (by decide +kernel) ⟨Nat.le_of_ble_eq_true rfl, Nat.le_of_ble_eq_true rfl⟩) ⟨hw_blind, va_recv hK hP (ci := 1) (q0 := k0 + 1) rfl bk0_1.1, hw_go hP hD hK hN⟩ rfl rfl hl.1 rfl (lv_room (Nat.le_of_ble_eq_true rfl)) d_Nd_node_178 ⟨Nat.zero_le _, Nat.zero_le _⟩) hS (fun H locs hP hD hS => ?_)
                        have bk0_35 : wc_Gr cI cG cZ ad (k0 + 35) x0_1 w0 := ⟨mk0_35, bk0_36, bk0_42, bk0_50, bk0_52⟩
                        have bk0_0 : wc_Nd cI cG cZ ad (k0) (x0_0, x0_1, x0_2, x0_3, x0_4, x0_5) w0 := ⟨mk0_0, bk0_1, bk0_35, bk0_55, bk0_58, mk0_61, mk0_62⟩
                        have e0 := Option.some.inj hf
                        exact W.iret (v := p22) hx hb hr (fun t ht hW => ⟨⟨p22, w0, rfl, ⟨e0, fr⟩, by rw [ht]; exact hP, hD⟩, hS.F ht⟩) hS.2.2 d_Nd_node_181
                      · rw [if_neg c21] at hf
                        refine lv_tableOut (tgt := 182) hx hb d_Nd_node_85 (by have a0 := lv_neT c6 (a := 0) rfl; have a1 := lv_neT c8 (a := 1) rfl; have a2 := lv_neT c10 (a := 2) rfl; have a3 := lv_neT c13 (a := 3) rfl; have a4 := lv_neT c15 (a := 4) rfl; have a5 := lv_neT c17 (a := 5) rfl; have a6 := lv_neT c19 (a := 6) rfl; have a7 := lv_neT c21 (a := 7) rfl; omega) (by decide) ?_
                        refine lv_aload_n hx hb d_Nd_node_182 rfl (lv_at hl 0 rfl) ?_
                        refine va_get (D := D) (ci := 6) (v := .ref (ad (k0 + 1))) (C := R_Nd) (T := F_Nd) (N := 6) hx hb hts i_Nd hown hK hP (k0) mk0_0 rfl 0 (by decide) (hts _ iw_156) (fun _ h9 => h9) rfl d_Nd_node_183 ?_
                        refine lv_iload_n hx hb d_Nd_node_186 rfl (lv_at hl 1 rfl) ?_
                        refine lv_iload_n hx hb d_Nd_node_187 rfl (lv_at hl 2 rfl) ?_
                        refine lv_iconst (v := 3) hx hb d_Nd_node_188 (by decide) ?_
                        refine lv_isub hx hb d_Nd_node_189 ?_
                        obtain ⟨p23, hp23, hf⟩ := g_bd hf
                        refine hw_ci0 (va_runV (As := [.int a1, .int (a2 - 3)]) (rest := []) ⟨hx, hb, hml, hown, hts⟩ (c_Do_coordinate l D cI cG cZ ad B w0 N (k0 + 1) x0_0.1 x0_0.2.1 x0_0.2.2.1 x0_0.2.2.2 a1 (a2 - 3) p23 hp23 bk0_1) (cwV 2 hts (hw_gV iw_510 gy_Do_coordinate) rfl rfl rfl (by decide +kernel) ⟨Nat.le_of_ble_eq_true rfl, Nat.le_of_ble_eq_true rfl⟩) ⟨hw_blind, va_recv hK hP (ci := 1) (q0 := k0 + 1) rfl bk0_1.1, hw_go hP hD hK hN⟩ rfl rfl hl.1 rfl (lv_room (Nat.le_of_ble_eq_true rfl)) d_Nd_node_190 ⟨Nat.zero_le _, Nat.zero_le _⟩) hS (fun H locs hP hD hS => ?_)
                        have bk0_35 : wc_Gr cI cG cZ ad (k0 + 35) x0_1 w0 := ⟨mk0_35, bk0_36, bk0_42, bk0_50, bk0_52⟩
                        have bk0_0 : wc_Nd cI cG cZ ad (k0) (x0_0, x0_1, x0_2, x0_3, x0_4, x0_5) w0 := ⟨mk0_0, bk0_1, bk0_35, bk0_55, bk0_58, mk0_61, mk0_62⟩
                        have e0 := Option.some.inj hf
                        exact W.iret (v := p23) hx hb hr (fun t ht hW => ⟨⟨p23, w0, rfl, ⟨e0, fr⟩, by rw [ht]; exact hP, hD⟩, hS.F ht⟩) hS.2.2 d_Nd_node_193
      · rw [if_neg c5] at hf
        refine lv_iload_n hx hb d_Nd_node_46 rfl (lv_at hl 2 rfl) ?_
        refine lv_bipush (v := 10) hx hb d_Nd_node_47 (by decide) ?_
        refine lv_isub hx hb d_Nd_node_49 ?_
        refine lv_istore_n (lv' := [(3, .int (a2 - 10)), (0, .ref (ad k0)), (1, .int a1), (2, .int a2)]) hx hb d_Nd_node_50 rfl hl (by decide) rfl (fun ls hl => ?_)
        refine lv_aload_n hx hb d_Nd_node_51 rfl (lv_at hl 1 rfl) ?_
        refine va_get (D := D) (ci := 6) (v := .ref (ad (k0 + 35))) (C := R_Nd) (T := F_Nd) (N := 6) hx hb hts i_Nd hown hK hP (k0) mk0_0 rfl 1 (by decide) (hts _ iw_157) (fun _ h9 => h9) rfl d_Nd_node_52 ?_
        refine va_getN (D := D) (ci := 2) (v := .ref (ad (k0 + 36))) (C := R_Gr) (T := F_Gr) (N := 7) hx hb hts i_Gr hown hK hP (k0 + 35) mk0_35 rfl 0 (by decide) (va_Nw.use rfl (hN _ in_132)) (fun _ h9 => h9) rfl d_Nd_node_55 ?_
        refine lv_iload_n hx hb d_Nd_node_58 rfl (lv_at hl 2 rfl) ?_
        refine lv_iload_n hx hb d_Nd_node_59 rfl (lv_at hl 0 rfl) ?_
        obtain ⟨p24, hp24, hf⟩ := g_bd hf
        refine hw_ci0 (va_runV (As := [.int a1, .int (a2 - 10)]) (rest := []) ⟨hx, hb, hml, hown, hts⟩ (c_Li_isInLayer l D cI cG cZ ad B w0 N (k0 + 36) x0_1.1.1 x0_1.1.2.1 x0_1.1.2.2.1 x0_1.1.2.2.2.1 x0_1.1.2.2.2.2.1 x0_1.1.2.2.2.2.2 a1 (a2 - 10) p24 hp24 bk0_36) (cwV 2 hts (hw_gV iw_494 gy_Li_isInLayer) rfl rfl rfl (by decide +kernel) ⟨Nat.le_of_ble_eq_true rfl, Nat.le_of_ble_eq_true rfl⟩) ⟨hw_blind, va_recv hK hP (ci := 3) (q0 := k0 + 36) rfl bk0_36.1, hw_go hP hD hK hN⟩ rfl rfl hl.1 rfl (lv_room (Nat.le_of_ble_eq_true rfl)) d_Nd_node_60 ⟨Nat.zero_le _, Nat.zero_le _⟩) hS (fun H locs hP hD hS => ?_)
        refine lv_if_eq (tgt := 81) hx hb d_Nd_node_63 (by decide) (fun c25 => ?_) (fun c25 => ?_)
        · rw [if_pos c25] at hf
          refine lv_bipush (v := (-2)) hx hb d_Nd_node_81 (by decide) ?_
          have bk0_35 : wc_Gr cI cG cZ ad (k0 + 35) x0_1 w0 := ⟨mk0_35, bk0_36, bk0_42, bk0_50, bk0_52⟩
          have bk0_0 : wc_Nd cI cG cZ ad (k0) (x0_0, x0_1, x0_2, x0_3, x0_4, x0_5) w0 := ⟨mk0_0, bk0_1, bk0_35, bk0_55, bk0_58, mk0_61, mk0_62⟩
          have e0 := Option.some.inj hf
          exact W.iret (v := (-2)) hx hb hr (fun t ht hW => ⟨⟨(-2), w0, rfl, ⟨e0, fr⟩, by rw [ht]; exact hP, hD⟩, hS.F ht⟩) hS.2.2 d_Nd_node_83
        · rw [if_neg c25] at hf
          refine lv_aload_n hx hb d_Nd_node_66 rfl (lv_at hl 1 rfl) ?_
          refine va_get (D := D) (ci := 6) (v := .ref (ad (k0 + 35))) (C := R_Nd) (T := F_Nd) (N := 6) hx hb hts i_Nd hown hK hP (k0) mk0_0 rfl 1 (by decide) (hts _ iw_157) (fun _ h9 => h9) rfl d_Nd_node_67 ?_
          refine va_getN (D := D) (ci := 2) (v := .ref (ad (k0 + 36))) (C := R_Gr) (T := F_Gr) (N := 7) hx hb hts i_Gr hown hK hP (k0 + 35) mk0_35 rfl 0 (by decide) (va_Nw.use rfl (hN _ in_132)) (fun _ h9 => h9) rfl d_Nd_node_70 ?_
          refine lv_iload_n hx hb d_Nd_node_73 rfl (lv_at hl 2 rfl) ?_
          refine lv_iload_n hx hb d_Nd_node_74 rfl (lv_at hl 0 rfl) ?_
          obtain ⟨p26, hp26, hf⟩ := g_bd hf
          refine hw_ci0 (va_runV (As := [.int a1, .int (a2 - 10)]) (rest := []) ⟨hx, hb, hml, hown, hts⟩ (c_Li_degree l D cI cG cZ ad B w0 N (k0 + 36) x0_1.1.1 x0_1.1.2.1 x0_1.1.2.2.1 x0_1.1.2.2.2.1 x0_1.1.2.2.2.2.1 x0_1.1.2.2.2.2.2 a1 (a2 - 10) p26 hp26 bk0_36) (cwV 2 hts (hw_gV iw_500 gy_Li_degree) rfl rfl rfl (by decide +kernel) ⟨Nat.le_of_ble_eq_true rfl, Nat.le_of_ble_eq_true rfl⟩) ⟨hw_blind, va_recv hK hP (ci := 3) (q0 := k0 + 36) rfl bk0_36.1, hw_go hP hD hK hN⟩ rfl rfl hl.1 rfl (lv_room (Nat.le_of_ble_eq_true rfl)) d_Nd_node_75 ⟨Nat.zero_le _, Nat.zero_le _⟩) hS (fun H locs hP hD hS => ?_)
          refine lv_goto (tgt := 83) hx hb d_Nd_node_78 (by decide) ?_
          have bk0_35 : wc_Gr cI cG cZ ad (k0 + 35) x0_1 w0 := ⟨mk0_35, bk0_36, bk0_42, bk0_50, bk0_52⟩
          have bk0_0 : wc_Nd cI cG cZ ad (k0) (x0_0, x0_1, x0_2, x0_3, x0_4, x0_5) w0 := ⟨mk0_0, bk0_1, bk0_35, bk0_55, bk0_58, mk0_61, mk0_62⟩
          have e0 := Option.some.inj hf
          exact W.iret (v := p26) hx hb hr (fun t ht hW => ⟨⟨p26, w0, rfl, ⟨e0, fr⟩, by rw [ht]; exact hP, hD⟩, hS.F ht⟩) hS.2.2 d_Nd_node_83
    · rw [if_pos c4] at hf
      refine lv_bipush (v := (-2)) hx hb d_Nd_node_37 (by decide) ?_
      have bk0_35 : wc_Gr cI cG cZ ad (k0 + 35) x0_1 w0 := ⟨mk0_35, bk0_36, bk0_42, bk0_50, bk0_52⟩
      have bk0_0 : wc_Nd cI cG cZ ad (k0) (x0_0, x0_1, x0_2, x0_3, x0_4, x0_5) w0 := ⟨mk0_0, bk0_1, bk0_35, bk0_55, bk0_58, mk0_61, mk0_62⟩
      have e0 := Option.some.inj hf
      exact W.iret (v := (-2)) hx hb hr (fun t ht hW => ⟨⟨(-2), w0, rfl, ⟨e0, fr⟩, by rw [ht]; exact hP, hD⟩, hS.F ht⟩) hS.2.2 d_Nd_node_39
  · rw [if_pos c2] at hf
    refine lv_iload_n hx hb d_Nd_node_10 rfl (lv_at hl 2 rfl) ?_
    refine lv_bipush (v := 10) hx hb d_Nd_node_11 (by decide) ?_
    refine lv_bipush (v := 13) hx hb d_Nd_node_13 (by decide) ?_
    obtain ⟨p27, hp27, hf⟩ := g_bd hf
    refine hw_ci0 (va_runS (As := [.int a2, .int 10, .int 13]) (rest := []) ⟨hx, hb, hml, hown, hts⟩ (c_Nd_isWithin l D cI cG cZ ad B w0 N a2 10 13 p27 hp27) (va_cwS 3 hts (hw_gS iw_185 gs_Nd_isWithin) rfl rfl rfl (by decide +kernel) ⟨Nat.le_of_ble_eq_true rfl, Nat.le_of_ble_eq_true rfl⟩) ⟨hw_blind, hw_go hP hD hK hN⟩ rfl rfl hl.1 rfl (lv_room (Nat.le_of_ble_eq_true rfl)) d_Nd_node_15 ⟨Nat.zero_le _, Nat.zero_le _⟩) hS (fun H locs hP hD hS => ?_)
    refine lv_if_ne (tgt := 23) hx hb d_Nd_node_18 (by decide) (fun c28 => ?_) (fun c28 => ?_)
    · rw [if_neg c28] at hf
      refine lv_aload_n hx hb d_Nd_node_23 rfl (lv_at hl 0 rfl) ?_
      refine va_get (D := D) (ci := 6) (v := .ref (ad (k0 + 35))) (C := R_Nd) (T := F_Nd) (N := 6) hx hb hts i_Nd hown hK hP (k0) mk0_0 rfl 1 (by decide) (hts _ iw_157) (fun _ h9 => h9) rfl d_Nd_node_24 ?_
      obtain ⟨mk0_35, bk0_36, bk0_42, bk0_50, bk0_52⟩ := id bk0_35
      have mk0_35 : w0[k0 + 35]? = some (ad (k0 + 35), .inr (2, [.ref (ad (k0 + 36)), .ref (ad (k0 + 42)), .ref (ad (k0 + 50)), .ref (ad (k0 + 52)), .int x0_1.2.2.2.2.1, .int x0_1.2.2.2.2.2.1, .int x0_1.2.2.2.2.2.2])) := mk0_35
      have bk0_36 : wc_Li cI cG cZ ad (k0 + 36) x0_1.1 w0 := bk0_36
      have bk0_42 : wc_Wa cI cG cZ ad (k0 + 42) x0_1.2.1 w0 := bk0_42
      have bk0_50 : wc_Ch cI cG cZ ad (k0 + 50) x0_1.2.2.1 w0 := bk0_50
      have bk0_52 : wc_Rk cI cG cZ ad (k0 + 52) x0_1.2.2.2.1 w0 := bk0_52
      refine va_getN (D := D) (ci := 2) (v := .ref (ad (k0 + 36))) (C := R_Gr) (T := F_Gr) (N := 7) hx hb hts i_Gr hown hK hP (k0 + 35) mk0_35 rfl 0 (by decide) (va_Nw.use rfl (hN _ in_132)) (fun _ h9 => h9) rfl d_Nd_node_27 ?_
      refine lv_iload_n hx hb d_Nd_node_30 rfl (lv_at hl 1 rfl) ?_
      obtain ⟨p29, hp29, hf⟩ := g_bd hf
      refine hw_ci0 (va_runV (As := [.int a1]) (rest := []) ⟨hx, hb, hml, hown, hts⟩ (c_Li_isNode l D cI cG cZ ad B w0 N (k0 + 36) x0_1.1.1 x0_1.1.2.1 x0_1.1.2.2.1 x0_1.1.2.2.2.1 x0_1.1.2.2.2.2.1 x0_1.1.2.2.2.2.2 a1 p29 hp29 bk0_36) (cwV 1 hts (hw_gV iw_489 gy_Li_isNode) rfl rfl rfl (by decide +kernel) ⟨Nat.le_of_ble_eq_true rfl, Nat.le_of_ble_eq_true rfl⟩) ⟨hw_blind, va_recv hK hP (ci := 3) (q0 := k0 + 36) rfl bk0_36.1, hw_go hP hD hK hN⟩ rfl rfl hl.1 rfl (lv_room (Nat.le_of_ble_eq_true rfl)) d_Nd_node_31 ⟨Nat.zero_le _, Nat.zero_le _⟩) hS (fun H locs hP hD hS => ?_)
      refine lv_if_ne (tgt := 40) hx hb d_Nd_node_34 (by decide) (fun c30 => ?_) (fun c30 => ?_)
      · rw [if_neg c30] at hf
        refine lv_iload_n hx hb d_Nd_node_40 rfl (lv_at hl 2 rfl) ?_
        refine lv_bipush (v := 10) hx hb d_Nd_node_41 (by decide) ?_
        refine lv_icmp_lt (tgt := 84) hx hb d_Nd_node_43 (by decide) (fun c31 => ?_) (fun c31 => ?_)
        · rw [if_pos c31] at hf
          refine lv_iload_n hx hb d_Nd_node_84 rfl (lv_at hl 2 rfl) ?_
          by_cases c32 : a2 = 0
          · rw [if_pos c32] at hf
            refine lv_tableIn (tgt := 132) (off := 47) hx hb d_Nd_node_85 (by rw [c32]; decide) (by rw [c32]; decide) (by rw [c32]; rfl) (by decide) ?_
            refine lv_aload_n hx hb d_Nd_node_132 rfl (lv_at hl 0 rfl) ?_
            refine va_get (D := D) (ci := 6) (v := .ref (ad (k0 + 35))) (C := R_Nd) (T := F_Nd) (N := 6) hx hb hts i_Nd hown hK hP (k0) mk0_0 rfl 1 (by decide) (hts _ iw_157) (fun _ h9 => h9) rfl d_Nd_node_133 ?_
            refine va_getN (D := D) (ci := 2) (v := .ref (ad (k0 + 36))) (C := R_Gr) (T := F_Gr) (N := 7) hx hb hts i_Gr hown hK hP (k0 + 35) mk0_35 rfl 0 (by decide) (va_Nw.use rfl (hN _ in_132)) (fun _ h9 => h9) rfl d_Nd_node_136 ?_
            refine lv_iload_n hx hb d_Nd_node_139 rfl (lv_at hl 1 rfl) ?_
            obtain ⟨p33, hp33, hf⟩ := g_bd hf
            refine hw_ci0 (va_runV (As := [.int a1]) (rest := []) ⟨hx, hb, hml, hown, hts⟩ (c_Li_level l D cI cG cZ ad B w0 N (k0 + 36) x0_1.1.1 x0_1.1.2.1 x0_1.1.2.2.1 x0_1.1.2.2.2.1 x0_1.1.2.2.2.2.1 x0_1.1.2.2.2.2.2 a1 p33 hp33 bk0_36) (cwV 1 hts (hw_gV iw_501 gy_Li_level) rfl rfl rfl (by decide +kernel) ⟨Nat.le_of_ble_eq_true rfl, Nat.le_of_ble_eq_true rfl⟩) ⟨hw_blind, va_recv hK hP (ci := 3) (q0 := k0 + 36) rfl bk0_36.1, hw_go hP hD hK hN⟩ rfl rfl hl.1 rfl (lv_room (Nat.le_of_ble_eq_true rfl)) d_Nd_node_140 ⟨Nat.zero_le _, Nat.zero_le _⟩) hS (fun H locs hP hD hS => ?_)
            have bk0_35 : wc_Gr cI cG cZ ad (k0 + 35) x0_1 w0 := ⟨mk0_35, bk0_36, bk0_42, bk0_50, bk0_52⟩
            have bk0_0 : wc_Nd cI cG cZ ad (k0) (x0_0, x0_1, x0_2, x0_3, x0_4, x0_5) w0 := ⟨mk0_0, bk0_1, bk0_35, bk0_55, bk0_58, mk0_61, mk0_62⟩
            have e0 := Option.some.inj hf
            exact W.iret (v := p33) hx hb hr (fun t ht hW => ⟨⟨p33, w0, rfl, ⟨e0, fr⟩, by rw [ht]; exact hP, hD⟩, hS.F ht⟩) hS.2.2 d_Nd_node_143
          · rw [if_neg c32] at hf
            by_cases c34 : a2 = 1
            · rw [if_pos c34] at hf
              refine lv_tableIn (tgt := 144) (off := 59) hx hb d_Nd_node_85 (by rw [c34]; decide) (by rw [c34]; decide) (by rw [c34]; rfl) (by decide) ?_
              refine lv_aload_n hx hb d_Nd_node_144 rfl (lv_at hl 0 rfl) ?_
              refine va_get (D := D) (ci := 6) (v := .ref (ad (k0 + 35))) (C := R_Nd) (T := F_Nd) (N := 6) hx hb hts i_Nd hown hK hP (k0) mk0_0 rfl 1 (by decide) (hts _ iw_157) (fun _ h9 => h9) rfl d_Nd_node_145 ?_
              refine va_getN (D := D) (ci := 2) (v := .ref (ad (k0 + 36))) (C := R_Gr) (T := F_Gr) (N := 7) hx hb hts i_Gr hown hK hP (k0 + 35) mk0_35 rfl 0 (by decide) (va_Nw.use rfl (hN _ in_132)) (fun _ h9 => h9) rfl d_Nd_node_148 ?_
              refine lv_iload_n hx hb d_Nd_node_151 rfl (lv_at hl 1 rfl) ?_
              obtain ⟨p35, hp35, hf⟩ := g_bd hf
              refine hw_ci0 (va_runV (As := [.int a1]) (rest := []) ⟨hx, hb, hml, hown, hts⟩ (c_Li_order l D cI cG cZ ad B w0 N (k0 + 36) x0_1.1.1 x0_1.1.2.1 x0_1.1.2.2.1 x0_1.1.2.2.2.1 x0_1.1.2.2.2.2.1 x0_1.1.2.2.2.2.2 a1 p35 hp35 bk0_36) (cwV 1 hts (hw_gV iw_502 gy_Li_order) rfl rfl rfl (by decide +kernel) ⟨Nat.le_of_ble_eq_true rfl, Nat.le_of_ble_eq_true rfl⟩) ⟨hw_blind, va_recv hK hP (ci := 3) (q0 := k0 + 36) rfl bk0_36.1, hw_go hP hD hK hN⟩ rfl rfl hl.1 rfl (lv_room (Nat.le_of_ble_eq_true rfl)) d_Nd_node_152 ⟨Nat.zero_le _, Nat.zero_le _⟩) hS (fun H locs hP hD hS => ?_)
              have bk0_35 : wc_Gr cI cG cZ ad (k0 + 35) x0_1 w0 := ⟨mk0_35, bk0_36, bk0_42, bk0_50, bk0_52⟩
              have bk0_0 : wc_Nd cI cG cZ ad (k0) (x0_0, x0_1, x0_2, x0_3, x0_4, x0_5) w0 := ⟨mk0_0, bk0_1, bk0_35, bk0_55, bk0_58, mk0_61, mk0_62⟩
              have e0 := Option.some.inj hf
              exact W.iret (v := p35) hx hb hr (fun t ht hW => ⟨⟨p35, w0, rfl, ⟨e0, fr⟩, by rw [ht]; exact hP, hD⟩, hS.F ht⟩) hS.2.2 d_Nd_node_155
            · rw [if_neg c34] at hf
              by_cases c36 : a2 = 2
              · rw [if_pos c36] at hf
                refine lv_tableIn (tgt := 156) (off := 71) hx hb d_Nd_node_85 (by rw [c36]; decide) (by rw [c36]; decide) (by rw [c36]; rfl) (by decide) ?_
                refine lv_aload_n hx hb d_Nd_node_156 rfl (lv_at hl 0 rfl) ?_
                refine va_get (D := D) (ci := 6) (v := .ref (ad (k0 + 1))) (C := R_Nd) (T := F_Nd) (N := 6) hx hb hts i_Nd hown hK hP (k0) mk0_0 rfl 0 (by decide) (hts _ iw_156) (fun _ h9 => h9) rfl d_Nd_node_157 ?_
                refine lv_iload_n hx hb d_Nd_node_160 rfl (lv_at hl 1 rfl) ?_
                obtain ⟨p37, hp37, hf⟩ := g_bd hf
                refine hw_ci0 (va_runV (As := [.int a1]) (rest := []) ⟨hx, hb, hml, hown, hts⟩ (c_Do_isLive l D cI cG cZ ad B w0 N (k0 + 1) x0_0.1 x0_0.2.1 x0_0.2.2.1 x0_0.2.2.2 a1 p37 hp37 bk0_1) (cwV 1 hts (hw_gV iw_403 gy_Do_isLive) rfl rfl rfl (by decide +kernel) ⟨Nat.le_of_ble_eq_true rfl, Nat.le_of_ble_eq_true rfl⟩) ⟨hw_blind, va_recv hK hP (ci := 1) (q0 := k0 + 1) rfl bk0_1.1, hw_go hP hD hK hN⟩ rfl rfl hl.1 rfl (lv_room (Nat.le_of_ble_eq_true rfl)) d_Nd_node_161 ⟨Nat.zero_le _, Nat.zero_le _⟩) hS (fun H locs hP hD hS => ?_)
                refine lv_if_eq (tgt := 171) hx hb d_Nd_node_164 (by decide) (fun c38 => ?_) (fun c38 => ?_)
                · rw [if_pos c38] at hf
                  refine lv_iconst (v := 0) hx hb d_Nd_node_171 (by decide) ?_
                  have bk0_35 : wc_Gr cI cG cZ ad (k0 + 35) x0_1 w0 := ⟨mk0_35, bk0_36, bk0_42, bk0_50, bk0_52⟩
                  have bk0_0 : wc_Nd cI cG cZ ad (k0) (x0_0, x0_1, x0_2, x0_3, x0_4, x0_5) w0 := ⟨mk0_0, bk0_1, bk0_35, bk0_55, bk0_58, mk0_61, mk0_62⟩
                  have e0 := Option.some.inj hf
                  exact W.iret (v := 0) hx hb hr (fun t ht hW => ⟨⟨0, w0, rfl, ⟨e0, fr⟩, by rw [ht]; exact hP, hD⟩, hS.F ht⟩) hS.2.2 d_Nd_node_172
                · rw [if_neg c38] at hf
                  refine lv_iconst (v := 1) hx hb d_Nd_node_167 (by decide) ?_
                  refine lv_goto (tgt := 172) hx hb d_Nd_node_168 (by decide) ?_
                  have bk0_35 : wc_Gr cI cG cZ ad (k0 + 35) x0_1 w0 := ⟨mk0_35, bk0_36, bk0_42, bk0_50, bk0_52⟩
                  have bk0_0 : wc_Nd cI cG cZ ad (k0) (x0_0, x0_1, x0_2, x0_3, x0_4, x0_5) w0 := ⟨mk0_0, bk0_1, bk0_35, bk0_55, bk0_58, mk0_61, mk0_62⟩
                  have e0 := Option.some.inj hf
                  exact W.iret (v := 1) hx hb hr (fun t ht hW => ⟨⟨1, w0, rfl, ⟨e0, fr⟩, by rw [ht]; exact hP, hD⟩, hS.F ht⟩) hS.2.2 d_Nd_node_172
              · rw [if_neg c36] at hf
                by_cases c39 : a2 = 3
                · rw [if_pos c39] at hf
                  refine lv_tableIn (tgt := 182) (off := 97) hx hb d_Nd_node_85 (by rw [c39]; decide) (by rw [c39]; decide) (by rw [c39]; rfl) (by decide) ?_
                  refine lv_aload_n hx hb d_Nd_node_182 rfl (lv_at hl 0 rfl) ?_
                  refine va_get (D := D) (ci := 6) (v := .ref (ad (k0 + 1))) (C := R_Nd) (T := F_Nd) (N := 6) hx hb hts i_Nd hown hK hP (k0) mk0_0 rfl 0 (by decide) (hts _ iw_156) (fun _ h9 => h9) rfl d_Nd_node_183 ?_
                  refine lv_iload_n hx hb d_Nd_node_186 rfl (lv_at hl 1 rfl) ?_
                  refine lv_iload_n hx hb d_Nd_node_187 rfl (lv_at hl 2 rfl) ?_
                  refine lv_iconst (v := 3) hx hb d_Nd_node_188 (by decide) ?_
                  refine lv_isub hx hb d_Nd_node_189 ?_
                  obtain ⟨p40, hp40, hf⟩ := g_bd hf
                  refine hw_ci0 (va_runV (As := [.int a1, .int (a2 - 3)]) (rest := []) ⟨hx, hb, hml, hown, hts⟩ (c_Do_coordinate l D cI cG cZ ad B w0 N (k0 + 1) x0_0.1 x0_0.2.1 x0_0.2.2.1 x0_0.2.2.2 a1 (a2 - 3) p40 hp40 bk0_1) (cwV 2 hts (hw_gV iw_510 gy_Do_coordinate) rfl rfl rfl (by decide +kernel) ⟨Nat.le_of_ble_eq_true rfl, Nat.le_of_ble_eq_true rfl⟩) ⟨hw_blind, va_recv hK hP (ci := 1) (q0 := k0 + 1) rfl bk0_1.1, hw_go hP hD hK hN⟩ rfl rfl hl.1 rfl (lv_room (Nat.le_of_ble_eq_true rfl)) d_Nd_node_190 ⟨Nat.zero_le _, Nat.zero_le _⟩) hS (fun H locs hP hD hS => ?_)
                  have bk0_35 : wc_Gr cI cG cZ ad (k0 + 35) x0_1 w0 := ⟨mk0_35, bk0_36, bk0_42, bk0_50, bk0_52⟩
                  have bk0_0 : wc_Nd cI cG cZ ad (k0) (x0_0, x0_1, x0_2, x0_3, x0_4, x0_5) w0 := ⟨mk0_0, bk0_1, bk0_35, bk0_55, bk0_58, mk0_61, mk0_62⟩
                  have e0 := Option.some.inj hf
                  exact W.iret (v := p40) hx hb hr (fun t ht hW => ⟨⟨p40, w0, rfl, ⟨e0, fr⟩, by rw [ht]; exact hP, hD⟩, hS.F ht⟩) hS.2.2 d_Nd_node_193
                · rw [if_neg c39] at hf
                  by_cases c41 : a2 = 4
                  · rw [if_pos c41] at hf
                    refine lv_tableIn (tgt := 182) (off := 97) hx hb d_Nd_node_85 (by rw [c41]; decide) (by rw [c41]; decide) (by rw [c41]; rfl) (by decide) ?_
                    refine lv_aload_n hx hb d_Nd_node_182 rfl (lv_at hl 0 rfl) ?_
                    refine va_get (D := D) (ci := 6) (v := .ref (ad (k0 + 1))) (C := R_Nd) (T := F_Nd) (N := 6) hx hb hts i_Nd hown hK hP (k0) mk0_0 rfl 0 (by decide) (hts _ iw_156) (fun _ h9 => h9) rfl d_Nd_node_183 ?_
                    refine lv_iload_n hx hb d_Nd_node_186 rfl (lv_at hl 1 rfl) ?_
                    refine lv_iload_n hx hb d_Nd_node_187 rfl (lv_at hl 2 rfl) ?_
                    refine lv_iconst (v := 3) hx hb d_Nd_node_188 (by decide) ?_
                    refine lv_isub hx hb d_Nd_node_189 ?_
                    obtain ⟨p42, hp42, hf⟩ := g_bd hf
                    refine hw_ci0 (va_runV (As := [.int a1, .int (a2 - 3)]) (rest := []) ⟨hx, hb, hml, hown, hts⟩ (c_Do_coordinate l D cI cG cZ ad B w0 N (k0 + 1) x0_0.1 x0_0.2.1 x0_0.2.2.1 x0_0.2.2.2 a1 (a2 - 3) p42 hp42 bk0_1) (cwV 2 hts (hw_gV iw_510 gy_Do_coordinate) rfl rfl rfl (by decide +kernel) ⟨Nat.le_of_ble_eq_true rfl, Nat.le_of_ble_eq_true rfl⟩) ⟨hw_blind, va_recv hK hP (ci := 1) (q0 := k0 + 1) rfl bk0_1.1, hw_go hP hD hK hN⟩ rfl rfl hl.1 rfl (lv_room (Nat.le_of_ble_eq_true rfl)) d_Nd_node_190 ⟨Nat.zero_le _, Nat.zero_le _⟩) hS (fun H locs hP hD hS => ?_)
                    have bk0_35 : wc_Gr cI cG cZ ad (k0 + 35) x0_1 w0 := ⟨mk0_35, bk0_36, bk0_42, bk0_50, bk0_52⟩
                    have bk0_0 : wc_Nd cI cG cZ ad (k0) (x0_0, x0_1, x0_2, x0_3, x0_4, x0_5) w0 := ⟨mk0_0, bk0_1, bk0_35, bk0_55, bk0_58, mk0_61, mk0_62⟩
                    have e0 := Option.some.inj hf
                    exact W.iret (v := p42) hx hb hr (fun t ht hW => ⟨⟨p42, w0, rfl, ⟨e0, fr⟩, by rw [ht]; exact hP, hD⟩, hS.F ht⟩) hS.2.2 d_Nd_node_193
                  · rw [if_neg c41] at hf
                    by_cases c43 : a2 = 5
                    · rw [if_pos c43] at hf
                      refine lv_tableIn (tgt := 182) (off := 97) hx hb d_Nd_node_85 (by rw [c43]; decide) (by rw [c43]; decide) (by rw [c43]; rfl) (by decide) ?_
                      refine lv_aload_n hx hb d_Nd_node_182 rfl (lv_at hl 0 rfl) ?_
                      refine va_get (D := D) (ci := 6) (v := .ref (ad (k0 + 1))) (C := R_Nd) (T := F_Nd) (N := 6) hx hb hts i_Nd hown hK hP (k0) mk0_0 rfl 0 (by decide) (hts _ iw_156) (fun _ h9 => h9) rfl d_Nd_node_183 ?_
                      refine lv_iload_n hx hb d_Nd_node_186 rfl (lv_at hl 1 rfl) ?_
                      refine lv_iload_n hx hb d_Nd_node_187 rfl (lv_at hl 2 rfl) ?_
                      refine lv_iconst (v := 3) hx hb d_Nd_node_188 (by decide) ?_
                      refine lv_isub hx hb d_Nd_node_189 ?_
                      obtain ⟨p44, hp44, hf⟩ := g_bd hf
                      refine hw_ci0 (va_runV (As := [.int a1, .int (a2 - 3)]) (rest := []) ⟨hx, hb, hml, hown, hts⟩ (c_Do_coordinate l D cI cG cZ ad B w0 N (k0 + 1) x0_0.1 x0_0.2.1 x0_0.2.2.1 x0_0.2.2.2 a1 (a2 - 3) p44 hp44 bk0_1) (cwV 2 hts (hw_gV iw_510 gy_Do_coordinate) rfl rfl rfl (by decide +kernel) ⟨Nat.le_of_ble_eq_true rfl, Nat.le_of_ble_eq_true rfl⟩) ⟨hw_blind, va_recv hK hP (ci := 1) (q0 := k0 + 1) rfl bk0_1.1, hw_go hP hD hK hN⟩ rfl rfl hl.1 rfl (lv_room (Nat.le_of_ble_eq_true rfl)) d_Nd_node_190 ⟨Nat.zero_le _, Nat.zero_le _⟩) hS (fun H locs hP hD hS => ?_)
                      have bk0_35 : wc_Gr cI cG cZ ad (k0 + 35) x0_1 w0 := ⟨mk0_35, bk0_36, bk0_42, bk0_50, bk0_52⟩
                      have bk0_0 : wc_Nd cI cG cZ ad (k0) (x0_0, x0_1, x0_2, x0_3, x0_4, x0_5) w0 := ⟨mk0_0, bk0_1, bk0_35, bk0_55, bk0_58, mk0_61, mk0_62⟩
                      have e0 := Option.some.inj hf
                      exact W.iret (v := p44) hx hb hr (fun t ht hW => ⟨⟨p44, w0, rfl, ⟨e0, fr⟩, by rw [ht]; exact hP, hD⟩, hS.F ht⟩) hS.2.2 d_Nd_node_193
                    · rw [if_neg c43] at hf
                      by_cases c45 : a2 = 6
                      · rw [if_pos c45] at hf
                        refine lv_tableIn (tgt := 182) (off := 97) hx hb d_Nd_node_85 (by rw [c45]; decide) (by rw [c45]; decide) (by rw [c45]; rfl) (by decide) ?_
                        refine lv_aload_n hx hb d_Nd_node_182 rfl (lv_at hl 0 rfl) ?_
                        refine va_get (D := D) (ci := 6) (v := .ref (ad (k0 + 1))) (C := R_Nd) (T := F_Nd) (N := 6) hx hb hts i_Nd hown hK hP (k0) mk0_0 rfl 0 (by decide) (hts _ iw_156) (fun _ h9 => h9) rfl d_Nd_node_183 ?_
                        refine lv_iload_n hx hb d_Nd_node_186 rfl (lv_at hl 1 rfl) ?_
                        refine lv_iload_n hx hb d_Nd_node_187 rfl (lv_at hl 2 rfl) ?_
                        refine lv_iconst (v := 3) hx hb d_Nd_node_188 (by decide) ?_
                        refine lv_isub hx hb d_Nd_node_189 ?_
                        obtain ⟨p46, hp46, hf⟩ := g_bd hf
                        refine hw_ci0 (va_runV (As := [.int a1, .int (a2 - 3)]) (rest := []) ⟨hx, hb, hml, hown, hts⟩ (c_Do_coordinate l D cI cG cZ ad B w0 N (k0 + 1) x0_0.1 x0_0.2.1 x0_0.2.2.1 x0_0.2.2.2 a1 (a2 - 3) p46 hp46 bk0_1) (cwV 2 hts (hw_gV iw_510 gy_Do_coordinate) rfl rfl rfl (by decide +kernel) ⟨Nat.le_of_ble_eq_true rfl, Nat.le_of_ble_eq_true rfl⟩) ⟨hw_blind, va_recv hK hP (ci := 1) (q0 := k0 + 1) rfl bk0_1.1, hw_go hP hD hK hN⟩ rfl rfl hl.1 rfl (lv_room (Nat.le_of_ble_eq_true rfl)) d_Nd_node_190 ⟨Nat.zero_le _, Nat.zero_le _⟩) hS (fun H locs hP hD hS => ?_)
                        have bk0_35 : wc_Gr cI cG cZ ad (k0 + 35) x0_1 w0 := ⟨mk0_35, bk0_36, bk0_42, bk0_50, bk0_52⟩
                        have bk0_0 : wc_Nd cI cG cZ ad (k0) (x0_0, x0_1, x0_2, x0_3, x0_4, x0_5) w0 := ⟨mk0_0, bk0_1, bk0_35, bk0_55, bk0_58, mk0_61, mk0_62⟩
                        have e0 := Option.some.inj hf
                        exact W.iret (v := p46) hx hb hr (fun t ht hW => ⟨⟨p46, w0, rfl, ⟨e0, fr⟩, by rw [ht]; exact hP, hD⟩, hS.F ht⟩) hS.2.2 d_Nd_node_193
                      · rw [if_neg c45] at hf
                        by_cases c47 : a2 = 7
                        · rw [if_pos c47] at hf
                          refine lv_tableIn (tgt := 173) (off := 88) hx hb d_Nd_node_85 (by rw [c47]; decide) (by rw [c47]; decide) (by rw [c47]; rfl) (by decide) ?_
                          refine lv_aload_n hx hb d_Nd_node_173 rfl (lv_at hl 0 rfl) ?_
                          refine va_get (D := D) (ci := 6) (v := .ref (ad (k0 + 1))) (C := R_Nd) (T := F_Nd) (N := 6) hx hb hts i_Nd hown hK hP (k0) mk0_0 rfl 0 (by decide) (hts _ iw_156) (fun _ h9 => h9) rfl d_Nd_node_174 ?_
                          refine lv_iload_n hx hb d_Nd_node_177 rfl (lv_at hl 1 rfl) ?_
                          obtain ⟨p48, hp48, hf⟩ := g_bd hf
                          refine hw_ci0 (va_runV (As := [.int a1]) (rest := []) ⟨hx, hb, hml, hown, hts⟩ (c_Do_counts l D cI cG cZ ad B w0 N (k0 + 1) x0_0.1 x0_0.2.1 x0_0.2.2.1 x0_0.2.2.2 a1 p48 hp48 bk0_1) (cwV 1 hts (hw_gV iw_506 gy_Do_counts) rfl rfl rfl (by decide +kernel) ⟨Nat.le_of_ble_eq_true rfl, Nat.le_of_ble_eq_true rfl⟩) ⟨hw_blind, va_recv hK hP (ci := 1) (q0 := k0 + 1) rfl bk0_1.1, hw_go hP hD hK hN⟩ rfl rfl hl.1 rfl (lv_room (Nat.le_of_ble_eq_true rfl)) d_Nd_node_178 ⟨Nat.zero_le _, Nat.zero_le _⟩) hS (fun H locs hP hD hS => ?_)
                          have bk0_35 : wc_Gr cI cG cZ ad (k0 + 35) x0_1 w0 := ⟨mk0_35, bk0_36, bk0_42, bk0_50, bk0_52⟩
                          have bk0_0 : wc_Nd cI cG cZ ad (k0) (x0_0, x0_1, x0_2, x0_3, x0_4, x0_5) w0 := ⟨mk0_0, bk0_1, bk0_35, bk0_55, bk0_58, mk0_61, mk0_62⟩
                          have e0 := Option.some.inj hf
                          exact W.iret (v := p48) hx hb hr (fun t ht hW => ⟨⟨p48, w0, rfl, ⟨e0, fr⟩, by rw [ht]; exact hP, hD⟩, hS.F ht⟩) hS.2.2 d_Nd_node_181
                        · rw [if_neg c47] at hf
                          refine lv_tableOut (tgt := 182) hx hb d_Nd_node_85 (by have a0 := lv_neT c32 (a := 0) rfl; have a1 := lv_neT c34 (a := 1) rfl; have a2 := lv_neT c36 (a := 2) rfl; have a3 := lv_neT c39 (a := 3) rfl; have a4 := lv_neT c41 (a := 4) rfl; have a5 := lv_neT c43 (a := 5) rfl; have a6 := lv_neT c45 (a := 6) rfl; have a7 := lv_neT c47 (a := 7) rfl; omega) (by decide) ?_
                          refine lv_aload_n hx hb d_Nd_node_182 rfl (lv_at hl 0 rfl) ?_
                          refine va_get (D := D) (ci := 6) (v := .ref (ad (k0 + 1))) (C := R_Nd) (T := F_Nd) (N := 6) hx hb hts i_Nd hown hK hP (k0) mk0_0 rfl 0 (by decide) (hts _ iw_156) (fun _ h9 => h9) rfl d_Nd_node_183 ?_
                          refine lv_iload_n hx hb d_Nd_node_186 rfl (lv_at hl 1 rfl) ?_
                          refine lv_iload_n hx hb d_Nd_node_187 rfl (lv_at hl 2 rfl) ?_
                          refine lv_iconst (v := 3) hx hb d_Nd_node_188 (by decide) ?_
                          refine lv_isub hx hb d_Nd_node_189 ?_
                          obtain ⟨p49, hp49, hf⟩ := g_bd hf
                          refine hw_ci0 (va_runV (As := [.int a1, .int (a2 - 3)]) (rest := []) ⟨hx, hb, hml, hown, hts⟩ (c_Do_coordinate l D cI cG cZ ad B w0 N (k0 + 1) x0_0.1 x0_0.2.1 x0_0.2.2.1 x0_0.2.2.2 a1 (a2 - 3) p49 hp49 bk0_1) (cwV 2 hts (hw_gV iw_510 gy_Do_coordinate) rfl rfl rfl (by decide +kernel) ⟨Nat.le_of_ble_eq_true rfl, Nat.le_of_ble_eq_true rfl⟩) ⟨hw_blind, va_recv hK hP (ci := 1) (q0 := k0 + 1) rfl bk0_1.1, hw_go hP hD hK hN⟩ rfl rfl hl.1 rfl (lv_room (Nat.le_of_ble_eq_true rfl)) d_Nd_node_190 ⟨Nat.zero_le _, Nat.zero_le _⟩) hS (fun H locs hP hD hS => ?_)
                          have bk0_35 : wc_Gr cI cG cZ ad (k0 + 35) x0_1 w0 := ⟨mk0_35, bk0_36, bk0_42, bk0_50, bk0_52⟩
                          have bk0_0 : wc_Nd cI cG cZ ad (k0) (x0_0, x0_1, x0_2, x0_3, x0_4, x0_5) w0 := ⟨mk0_0, bk0_1, bk0_35, bk0_55, bk0_58, mk0_61, mk0_62⟩
                          have e0 := Option.some.inj hf
                          exact W.iret (v := p49) hx hb hr (fun t ht hW => ⟨⟨p49, w0, rfl, ⟨e0, fr⟩, by rw [ht]; exact hP, hD⟩, hS.F ht⟩) hS.2.2 d_Nd_node_193
        · rw [if_neg c31] at hf
          refine lv_iload_n hx hb d_Nd_node_46 rfl (lv_at hl 2 rfl) ?_
          refine lv_bipush (v := 10) hx hb d_Nd_node_47 (by decide) ?_
          refine lv_isub hx hb d_Nd_node_49 ?_
          refine lv_istore_n (lv' := [(3, .int (a2 - 10)), (0, .ref (ad k0)), (1, .int a1), (2, .int a2)]) hx hb d_Nd_node_50 rfl hl (by decide) rfl (fun ls hl => ?_)
          refine lv_aload_n hx hb d_Nd_node_51 rfl (lv_at hl 1 rfl) ?_
          refine va_get (D := D) (ci := 6) (v := .ref (ad (k0 + 35))) (C := R_Nd) (T := F_Nd) (N := 6) hx hb hts i_Nd hown hK hP (k0) mk0_0 rfl 1 (by decide) (hts _ iw_157) (fun _ h9 => h9) rfl d_Nd_node_52 ?_
          refine va_getN (D := D) (ci := 2) (v := .ref (ad (k0 + 36))) (C := R_Gr) (T := F_Gr) (N := 7) hx hb hts i_Gr hown hK hP (k0 + 35) mk0_35 rfl 0 (by decide) (va_Nw.use rfl (hN _ in_132)) (fun _ h9 => h9) rfl d_Nd_node_55 ?_
          refine lv_iload_n hx hb d_Nd_node_58 rfl (lv_at hl 2 rfl) ?_
          refine lv_iload_n hx hb d_Nd_node_59 rfl (lv_at hl 0 rfl) ?_
          obtain ⟨p50, hp50, hf⟩ := g_bd hf
          refine hw_ci0 (va_runV (As := [.int a1, .int (a2 - 10)]) (rest := []) ⟨hx, hb, hml, hown, hts⟩ (c_Li_isInLayer l D cI cG cZ ad B w0 N (k0 + 36) x0_1.1.1 x0_1.1.2.1 x0_1.1.2.2.1 x0_1.1.2.2.2.1 x0_1.1.2.2.2.2.1 x0_1.1.2.2.2.2.2 a1 (a2 - 10) p50 hp50 bk0_36) (cwV 2 hts (hw_gV iw_494 gy_Li_isInLayer) rfl rfl rfl (by decide +kernel) ⟨Nat.le_of_ble_eq_true rfl, Nat.le_of_ble_eq_true rfl⟩) ⟨hw_blind, va_recv hK hP (ci := 3) (q0 := k0 + 36) rfl bk0_36.1, hw_go hP hD hK hN⟩ rfl rfl hl.1 rfl (lv_room (Nat.le_of_ble_eq_true rfl)) d_Nd_node_60 ⟨Nat.zero_le _, Nat.zero_le _⟩) hS (fun H locs hP hD hS => ?_)
          refine lv_if_eq (tgt := 81) hx hb d_Nd_node_63 (by decide) (fun c51 => ?_) (fun c51 => ?_)
          · rw [if_pos c51] at hf
            refine lv_bipush (v := (-2)) hx hb d_Nd_node_81 (by decide) ?_
            have bk0_35 : wc_Gr cI cG cZ ad (k0 + 35) x0_1 w0 := ⟨mk0_35, bk0_36, bk0_42, bk0_50, bk0_52⟩
            have bk0_0 : wc_Nd cI cG cZ ad (k0) (x0_0, x0_1, x0_2, x0_3, x0_4, x0_5) w0 := ⟨mk0_0, bk0_1, bk0_35, bk0_55, bk0_58, mk0_61, mk0_62⟩
            have e0 := Option.some.inj hf
            exact W.iret (v := (-2)) hx hb hr (fun t ht hW => ⟨⟨(-2), w0, rfl, ⟨e0, fr⟩, by rw [ht]; exact hP, hD⟩, hS.F ht⟩) hS.2.2 d_Nd_node_83
          · rw [if_neg c51] at hf
            refine lv_aload_n hx hb d_Nd_node_66 rfl (lv_at hl 1 rfl) ?_
            refine va_get (D := D) (ci := 6) (v := .ref (ad (k0 + 35))) (C := R_Nd) (T := F_Nd) (N := 6) hx hb hts i_Nd hown hK hP (k0) mk0_0 rfl 1 (by decide) (hts _ iw_157) (fun _ h9 => h9) rfl d_Nd_node_67 ?_
            refine va_getN (D := D) (ci := 2) (v := .ref (ad (k0 + 36))) (C := R_Gr) (T := F_Gr) (N := 7) hx hb hts i_Gr hown hK hP (k0 + 35) mk0_35 rfl 0 (by decide) (va_Nw.use rfl (hN _ in_132)) (fun _ h9 => h9) rfl d_Nd_node_70 ?_
            refine lv_iload_n hx hb d_Nd_node_73 rfl (lv_at hl 2 rfl) ?_
            refine lv_iload_n hx hb d_Nd_node_74 rfl (lv_at hl 0 rfl) ?_
            obtain ⟨p52, hp52, hf⟩ := g_bd hf
            refine hw_ci0 (va_runV (As := [.int a1, .int (a2 - 10)]) (rest := []) ⟨hx, hb, hml, hown, hts⟩ (c_Li_degree l D cI cG cZ ad B w0 N (k0 + 36) x0_1.1.1 x0_1.1.2.1 x0_1.1.2.2.1 x0_1.1.2.2.2.1 x0_1.1.2.2.2.2.1 x0_1.1.2.2.2.2.2 a1 (a2 - 10) p52 hp52 bk0_36) (cwV 2 hts (hw_gV iw_500 gy_Li_degree) rfl rfl rfl (by decide +kernel) ⟨Nat.le_of_ble_eq_true rfl, Nat.le_of_ble_eq_true rfl⟩) ⟨hw_blind, va_recv hK hP (ci := 3) (q0 := k0 + 36) rfl bk0_36.1, hw_go hP hD hK hN⟩ rfl rfl hl.1 rfl (lv_room (Nat.le_of_ble_eq_true rfl)) d_Nd_node_75 ⟨Nat.zero_le _, Nat.zero_le _⟩) hS (fun H locs hP hD hS => ?_)
            refine lv_goto (tgt := 83) hx hb d_Nd_node_78 (by decide) ?_
            have bk0_35 : wc_Gr cI cG cZ ad (k0 + 35) x0_1 w0 := ⟨mk0_35, bk0_36, bk0_42, bk0_50, bk0_52⟩
            have bk0_0 : wc_Nd cI cG cZ ad (k0) (x0_0, x0_1, x0_2, x0_3, x0_4, x0_5) w0 := ⟨mk0_0, bk0_1, bk0_35, bk0_55, bk0_58, mk0_61, mk0_62⟩
            have e0 := Option.some.inj hf
            exact W.iret (v := p52) hx hb hr (fun t ht hW => ⟨⟨p52, w0, rfl, ⟨e0, fr⟩, by rw [ht]; exact hP, hD⟩, hS.F ht⟩) hS.2.2 d_Nd_node_83
      · rw [if_pos c30] at hf
        refine lv_bipush (v := (-2)) hx hb d_Nd_node_37 (by decide) ?_
        have bk0_35 : wc_Gr cI cG cZ ad (k0 + 35) x0_1 w0 := ⟨mk0_35, bk0_36, bk0_42, bk0_50, bk0_52⟩
        have bk0_0 : wc_Nd cI cG cZ ad (k0) (x0_0, x0_1, x0_2, x0_3, x0_4, x0_5) w0 := ⟨mk0_0, bk0_1, bk0_35, bk0_55, bk0_58, mk0_61, mk0_62⟩
        have e0 := Option.some.inj hf
        exact W.iret (v := (-2)) hx hb hr (fun t ht hW => ⟨⟨(-2), w0, rfl, ⟨e0, fr⟩, by rw [ht]; exact hP, hD⟩, hS.F ht⟩) hS.2.2 d_Nd_node_39
    · rw [if_pos c28] at hf
      refine lv_iconst (v := (-1)) hx hb d_Nd_node_21 (by decide) ?_
      have bk0_0 : wc_Nd cI cG cZ ad (k0) (x0_0, x0_1, x0_2, x0_3, x0_4, x0_5) w0 := ⟨mk0_0, bk0_1, bk0_35, bk0_55, bk0_58, mk0_61, mk0_62⟩
      have e0 := Option.some.inj hf
      exact W.iret (v := (-1)) hx hb hr (fun t ht hW => ⟨⟨(-1), w0, rfl, ⟨e0, fr⟩, by rw [ht]; exact hP, hD⟩, hS.F ht⟩) hS.2.2 d_Nd_node_22
set_option maxHeartbeats 4000000 in
set_option maxRecDepth 100000 in
theorem c_Nd_neighbour (l : Launch) (D : va_G) (cI cG cZ : ClassId) (ad : Nat → Nat) (B : Nat) (w0 : va_W) (N : Nat) (k0 : Nat) (x0_0 : T_Do) (x0_1 : T_Gr) (x0_2 : T_Rk) (x0_3 : T_Rk) (x0_4 : (Nat → Int32)) (x0_5 : (Nat → Int32)) (a1 : Int32) (a2 : Int32) (a3 : Int32) (r : Int32) (hf : f_Nd_neighbour N x0_1 a1 a2 a3 = some r) (bk0_0 : wc_Nd cI cG cZ ad k0 (x0_0, x0_1, x0_2, x0_3, x0_4, x0_5) w0) : Met l y_Nd_neighbour (.code y_Nd_neighbour b_Nd_neighbour 4 (some .int) :: hw_G) ({ frames := 4, cells := 0, slots := 0, locals := 85 } : Room) (va_Pc [.ref (ad k0), .int a1, .int a2, .int a3] (hw_U D cI cG cZ B w0)) (va_Qi (fun (r1 : Int32) (w1 : va_W) => r1 = r ∧ w1 = w0) (hw_B D B) (fun q : Nat => B ≤ q)) 0 0 (fun q : Nat => B ≤ q) := by
  refine Met.ofW (cc := b_Nd_neighbour) (maxL := 4) (ret := (some .int)) (by decide) rfl ?_
  intro p e s m args below meth c s₁ Bd hml hv
  obtain ⟨rfl, hP, hD, hK, hN⟩ := hv
  have C0 : hw_C p s m meth c b_Nd_neighbour 4 _ R_Nd (some .int) := ⟨Bd.exec, Bd.bytes, Bd.returns, hml, findClass_of_methodNamed Bd.named, fun w h => atoms_spec (ws := .code y_Nd_neighbour b_Nd_neighbour 4 (some .int) :: hw_G) Bd.pre w (List.mem_cons_of_mem _ h), Bd.notSynchronized⟩
  obtain ⟨hx, hb, hr, -, hown, hts, hlocks⟩ := id C0
  have hS : va_S (fun q : Nat => B ≤ q) s.heap s.heap [] := va_S.rf
  have fr : w0 = w0 := rfl
  have hl := lv_entry ([.ref (ad k0), .int a1, .int a2, .int a3]) (n := 4) (Nat.le_of_ble_eq_true rfl)
  rw [lg_entry_eq]
  generalize (lg_sl ([.ref (ad k0), .int a1, .int a2, .int a3]) ++ List.replicate (4 - (lg_sl ([.ref (ad k0), .int a1, .int a2, .int a3])).length) Slot.unset).toArray = ls at hl ⊢
  have hl : lv_has ls 4 [(0, .ref (ad k0)), (1, .int a1), (2, .int a2), (3, .int a3)] := hl
  unfold f_Nd_neighbour at hf
  obtain ⟨mk0_0, bk0_1, bk0_35, bk0_55, bk0_58, mk0_61, mk0_62⟩ := id bk0_0
  have mk0_0 : w0[k0]? = some (ad k0, .inr (6, [.ref (ad (k0 + 1)), .ref (ad (k0 + 35)), .ref (ad (k0 + 55)), .ref (ad (k0 + 58)), .ref (ad (k0 + 61)), .ref (ad (k0 + 62))])) := mk0_0
  have bk0_1 : wc_Do cI cG cZ ad (k0 + 1) x0_0 w0 := bk0_1
  have bk0_35 : wc_Gr cI cG cZ ad (k0 + 35) x0_1 w0 := bk0_35
  have bk0_55 : wc_Rk cI cG cZ ad (k0 + 55) x0_2 w0 := bk0_55
  have bk0_58 : wc_Rk cI cG cZ ad (k0 + 58) x0_3 w0 := bk0_58
  have mk0_61 : w0[k0 + 61]? = some (ad (k0 + 61), .inl (cI, 4, .inl x0_4)) := mk0_61
  have mk0_62 : w0[k0 + 62]? = some (ad (k0 + 62), .inl (cI, 30, .inl x0_5)) := mk0_62
  refine lv_aload_n hx hb d_Nd_neighbour_0 rfl (lv_at hl 0 rfl) ?_
  refine va_get (D := D) (ci := 6) (v := .ref (ad (k0 + 35))) (C := R_Nd) (T := F_Nd) (N := 6) hx hb hts i_Nd hown hK hP (k0) mk0_0 rfl 1 (by decide) (hts _ iw_157) (fun _ h9 => h9) rfl d_Nd_neighbour_1 ?_
  obtain ⟨mk0_35, bk0_36, bk0_42, bk0_50, bk0_52⟩ := id bk0_35
  have mk0_35 : w0[k0 + 35]? = some (ad (k0 + 35), .inr (2, [.ref (ad (k0 + 36)), .ref (ad (k0 + 42)), .ref (ad (k0 + 50)), .ref (ad (k0 + 52)), .int x0_1.2.2.2.2.1, .int x0_1.2.2.2.2.2.1, .int x0_1.2.2.2.2.2.2])) := mk0_35
  have bk0_36 : wc_Li cI cG cZ ad (k0 + 36) x0_1.1 w0 := bk0_36
  have bk0_42 : wc_Wa cI cG cZ ad (k0 + 42) x0_1.2.1 w0 := bk0_42
  have bk0_50 : wc_Ch cI cG cZ ad (k0 + 50) x0_1.2.2.1 w0 := bk0_50
  have bk0_52 : wc_Rk cI cG cZ ad (k0 + 52) x0_1.2.2.2.1 w0 := bk0_52
  refine va_getN (D := D) (ci := 2) (v := .ref (ad (k0 + 36))) (C := R_Gr) (T := F_Gr) (N := 7) hx hb hts i_Gr hown hK hP (k0 + 35) mk0_35 rfl 0 (by decide) (va_Nw.use rfl (hN _ in_132)) (fun _ h9 => h9) rfl d_Nd_neighbour_4 ?_
  refine lv_iload_n hx hb d_Nd_neighbour_7 rfl (lv_at hl 1 rfl) ?_
  refine lv_iload_n hx hb d_Nd_neighbour_8 rfl (lv_at hl 2 rfl) ?_
  obtain ⟨p1, hp1, hf⟩ := g_bd hf
  refine hw_ci0 (va_runV (As := [.int a1, .int a2]) (rest := []) ⟨hx, hb, hml, hown, hts⟩ (c_Li_isInLayer l D cI cG cZ ad B w0 N (k0 + 36) x0_1.1.1 x0_1.1.2.1 x0_1.1.2.2.1 x0_1.1.2.2.2.1 x0_1.1.2.2.2.2.1 x0_1.1.2.2.2.2.2 a1 a2 p1 hp1 bk0_36) (cwV 2 hts (hw_gV iw_494 gy_Li_isInLayer) rfl rfl rfl (by decide +kernel) ⟨Nat.le_of_ble_eq_true rfl, Nat.le_of_ble_eq_true rfl⟩) ⟨hw_blind, va_recv hK hP (ci := 3) (q0 := k0 + 36) rfl bk0_36.1, hw_go hP hD hK hN⟩ rfl rfl hl.1 rfl (lv_room (Nat.le_of_ble_eq_true rfl)) d_Nd_neighbour_9 ⟨Nat.zero_le _, Nat.zero_le _⟩) hS (fun H locs hP hD hS => ?_)
  refine lv_if_eq (tgt := 37) hx hb d_Nd_neighbour_12 (by decide) (fun c2 => ?_) (fun c2 => ?_)
  · rw [if_pos c2] at hf
    refine lv_bipush (v := (-2)) hx hb d_Nd_neighbour_37 (by decide) ?_
    have bk0_35 : wc_Gr cI cG cZ ad (k0 + 35) x0_1 w0 := ⟨mk0_35, bk0_36, bk0_42, bk0_50, bk0_52⟩
    have bk0_0 : wc_Nd cI cG cZ ad (k0) (x0_0, x0_1, x0_2, x0_3, x0_4, x0_5) w0 := ⟨mk0_0, bk0_1, bk0_35, bk0_55, bk0_58, mk0_61, mk0_62⟩
    have e0 := Option.some.inj hf
    exact W.iret (v := (-2)) hx hb hr (fun t ht hW => ⟨⟨(-2), w0, rfl, ⟨e0, fr⟩, by rw [ht]; exact hP, hD⟩, hS.F ht⟩) hS.2.2 d_Nd_neighbour_39
  · rw [if_neg c2] at hf
    refine lv_iload_n hx hb d_Nd_neighbour_15 rfl (lv_at hl 3 rfl) ?_
    refine lv_iconst (v := 0) hx hb d_Nd_neighbour_16 (by decide) ?_
    refine lv_aload_n hx hb d_Nd_neighbour_17 rfl (lv_at hl 0 rfl) ?_
    refine va_get (D := D) (ci := 6) (v := .ref (ad (k0 + 35))) (C := R_Nd) (T := F_Nd) (N := 6) hx hb hts i_Nd hown hK hP (k0) mk0_0 rfl 1 (by decide) (hts _ iw_157) (fun _ h9 => h9) rfl d_Nd_neighbour_18 ?_
    refine va_getN (D := D) (ci := 2) (v := .ref (ad (k0 + 36))) (C := R_Gr) (T := F_Gr) (N := 7) hx hb hts i_Gr hown hK hP (k0 + 35) mk0_35 rfl 0 (by decide) (va_Nw.use rfl (hN _ in_132)) (fun _ h9 => h9) rfl d_Nd_neighbour_21 ?_
    refine lv_iload_n hx hb d_Nd_neighbour_24 rfl (lv_at hl 1 rfl) ?_
    refine lv_iload_n hx hb d_Nd_neighbour_25 rfl (lv_at hl 2 rfl) ?_
    obtain ⟨p3, hp3, hf⟩ := g_bd hf
    refine hw_ci0 (va_runV (As := [.int a1, .int a2]) (rest := [.int 0, .int a3]) ⟨hx, hb, hml, hown, hts⟩ (c_Li_degree l D cI cG cZ ad B w0 N (k0 + 36) x0_1.1.1 x0_1.1.2.1 x0_1.1.2.2.1 x0_1.1.2.2.2.1 x0_1.1.2.2.2.2.1 x0_1.1.2.2.2.2.2 a1 a2 p3 hp3 bk0_36) (cwV 2 hts (hw_gV iw_500 gy_Li_degree) rfl rfl rfl (by decide +kernel) ⟨Nat.le_of_ble_eq_true rfl, Nat.le_of_ble_eq_true rfl⟩) ⟨hw_blind, va_recv hK hP (ci := 3) (q0 := k0 + 36) rfl bk0_36.1, hw_go hP hD hK hN⟩ rfl rfl hl.1 rfl (lv_room (Nat.le_of_ble_eq_true rfl)) d_Nd_neighbour_26 ⟨Nat.zero_le _, Nat.zero_le _⟩) hS (fun H locs hP hD hS => ?_)
    refine lv_iconst (v := 1) hx hb d_Nd_neighbour_29 (by decide) ?_
    refine lv_isub hx hb d_Nd_neighbour_30 ?_
    obtain ⟨p4, hp4, hf⟩ := g_bd hf
    refine hw_ci0 (va_runS (As := [.int a3, .int 0, .int (p3 - 1)]) (rest := []) ⟨hx, hb, hml, hown, hts⟩ (c_Nd_isWithin l D cI cG cZ ad B w0 N a3 0 (p3 - 1) p4 hp4) (va_cwS 3 hts (hw_gS iw_185 gs_Nd_isWithin) rfl rfl rfl (by decide +kernel) ⟨Nat.le_of_ble_eq_true rfl, Nat.le_of_ble_eq_true rfl⟩) ⟨hw_blind, hw_go hP hD hK hN⟩ rfl rfl hl.1 rfl (lv_room (Nat.le_of_ble_eq_true rfl)) d_Nd_neighbour_31 ⟨Nat.zero_le _, Nat.zero_le _⟩) hS (fun H locs hP hD hS => ?_)
    refine lv_if_ne (tgt := 40) hx hb d_Nd_neighbour_34 (by decide) (fun c5 => ?_) (fun c5 => ?_)
    · rw [if_neg c5] at hf
      refine lv_aload_n hx hb d_Nd_neighbour_40 rfl (lv_at hl 0 rfl) ?_
      refine va_get (D := D) (ci := 6) (v := .ref (ad (k0 + 35))) (C := R_Nd) (T := F_Nd) (N := 6) hx hb hts i_Nd hown hK hP (k0) mk0_0 rfl 1 (by decide) (hts _ iw_157) (fun _ h9 => h9) rfl d_Nd_neighbour_41 ?_
      refine va_getN (D := D) (ci := 2) (v := .ref (ad (k0 + 36))) (C := R_Gr) (T := F_Gr) (N := 7) hx hb hts i_Gr hown hK hP (k0 + 35) mk0_35 rfl 0 (by decide) (va_Nw.use rfl (hN _ in_132)) (fun _ h9 => h9) rfl d_Nd_neighbour_44 ?_
      refine lv_iload_n hx hb d_Nd_neighbour_47 rfl (lv_at hl 1 rfl) ?_
      refine lv_iload_n hx hb d_Nd_neighbour_48 rfl (lv_at hl 2 rfl) ?_
      refine lv_iload_n hx hb d_Nd_neighbour_49 rfl (lv_at hl 3 rfl) ?_
      obtain ⟨p6, hp6, hf⟩ := g_bd hf
      refine hw_ci0 (va_runV (As := [.int a1, .int a2, .int a3]) (rest := []) ⟨hx, hb, hml, hown, hts⟩ (c_Li_linked l D cI cG cZ ad B w0 N (k0 + 36) x0_1.1.1 x0_1.1.2.1 x0_1.1.2.2.1 x0_1.1.2.2.2.1 x0_1.1.2.2.2.2.1 x0_1.1.2.2.2.2.2 a1 a2 a3 p6 hp6 bk0_36) (cwV 3 hts (hw_gV iw_518 gy_Li_linked) rfl rfl rfl (by decide +kernel) ⟨Nat.le_of_ble_eq_true rfl, Nat.le_of_ble_eq_true rfl⟩) ⟨hw_blind, va_recv hK hP (ci := 3) (q0 := k0 + 36) rfl bk0_36.1, hw_go hP hD hK hN⟩ rfl rfl hl.1 rfl (lv_room (Nat.le_of_ble_eq_true rfl)) d_Nd_neighbour_50 ⟨Nat.zero_le _, Nat.zero_le _⟩) hS (fun H locs hP hD hS => ?_)
      have bk0_35 : wc_Gr cI cG cZ ad (k0 + 35) x0_1 w0 := ⟨mk0_35, bk0_36, bk0_42, bk0_50, bk0_52⟩
      have bk0_0 : wc_Nd cI cG cZ ad (k0) (x0_0, x0_1, x0_2, x0_3, x0_4, x0_5) w0 := ⟨mk0_0, bk0_1, bk0_35, bk0_55, bk0_58, mk0_61, mk0_62⟩
      have e0 := Option.some.inj hf
      exact W.iret (v := p6) hx hb hr (fun t ht hW => ⟨⟨p6, w0, rfl, ⟨e0, fr⟩, by rw [ht]; exact hP, hD⟩, hS.F ht⟩) hS.2.2 d_Nd_neighbour_53
    · rw [if_pos c5] at hf
      refine lv_bipush (v := (-2)) hx hb d_Nd_neighbour_37 (by decide) ?_
      have bk0_35 : wc_Gr cI cG cZ ad (k0 + 35) x0_1 w0 := ⟨mk0_35, bk0_36, bk0_42, bk0_50, bk0_52⟩
      have bk0_0 : wc_Nd cI cG cZ ad (k0) (x0_0, x0_1, x0_2, x0_3, x0_4, x0_5) w0 := ⟨mk0_0, bk0_1, bk0_35, bk0_55, bk0_58, mk0_61, mk0_62⟩
      have e0 := Option.some.inj hf
      exact W.iret (v := (-2)) hx hb hr (fun t ht hW => ⟨⟨(-2), w0, rfl, ⟨e0, fr⟩, by rw [ht]; exact hP, hD⟩, hS.F ht⟩) hS.2.2 d_Nd_neighbour_39
set_option maxHeartbeats 4000000 in
set_option maxRecDepth 100000 in
theorem wl_Nd_foundAmongNearest_34 {p : Program} {l : Launch} {e : Env} {s : State} {m : MethodId} {args : Array Value} {below : List Frame} {meth : Method} {c : Code} {D : va_G} {cI cG cZ : ClassId} {ad : Nat → Nat} {B : Nat} {w0 : va_W} {N : Nat} {k0 : Nat} (C0 : hw_C p s m meth c b_Nd_foundAmongNearest 3 args R_Nd (some .int)) (hK : va_K D classes [(cI, .int), (cG, .array .int), (cZ, .boolean)] s) (hN : hw_N s) (x0_0 : T_Do) (x0_1 : T_Gr) (x0_2 : T_Rk) (x0_4 : (Nat → Int32)) (x0_5 : (Nat → Int32)) (p4 : (Nat → Int32) × (Nat → Int32) × Int32 × Int32 × Int32) (x0_3 : T_Rk) (r : Int32) (y0_3 : T_Rk) : ∀ (n : Nat) (v1 : Int32) (v2 : Int32) (ws : va_W) (H : Heap) (locs : List Loc) (ls : Array Slot), va_P D classes ws H → va_D (fun q : Nat => B ≤ q) ws → va_S (fun q : Nat => B ≤ q) s.heap H locs → lv_has ls 3 [(2, .int v2), (1, .int v1), (0, .ref (ad k0))] → ws[k0]? = some (ad k0, .inr (6, [.ref (ad (k0 + 1)), .ref (ad (k0 + 35)), .ref (ad (k0 + 55)), .ref (ad (k0 + 58)), .ref (ad (k0 + 61)), .ref (ad (k0 + 62))])) → wc_Do cI cG cZ ad (k0 + 1) x0_0 ws → wc_Gr cI cG cZ ad (k0 + 35) x0_1 ws → wc_Rk cI cG cZ ad (k0 + 55) x0_2 ws → wc_Rk cI cG cZ ad (k0 + 58) (p4.1, p4.2.1, p4.2.2.1, p4.2.2.2.1, p4.2.2.2.2) ws → ws[k0 + 61]? = some (ad (k0 + 61), .inl (cI, 4, .inl x0_4)) → ws[k0 + 62]? = some (ad (k0 + 62), .inl (cI, 30, .inl x0_5)) → (∀ j : Nat, (j < k0 ∨ k0 + 63 ≤ j) → ws[j]? = w0[j]?) → f_Nd_foundAmongNearest_34 N x0_2 p4 n v1 v2 = some (r, y0_3) → W p l e ({ frames := 4, cells := 0, slots := 0, locals := 86 } : Room) s m args below meth c H locs 0 0 (MQ below (va_Qi (fun (r1 : Int32) (w1 : va_W) => r1 = r ∧ wc_Nd cI cG cZ ad k0 (x0_0, x0_1, x0_2, y0_3, x0_4, x0_5) w1 ∧ (∀ j : Nat, (j < k0 ∨ k0 + 63 ≤ j) → w1[j]? = w0[j]?)) (hw_B D B) (fun q : Nat => B ≤ q)) args s 0 0 (fun q : Nat => B ≤ q)) (F0 m 34 ls []) := by
  obtain ⟨hx, hb, hr, hml, hown, hts, hlocks⟩ := id C0
  intro n
  induction n with
  | zero =>
    intro v1 v2 ws H locs ls hP hD hS hl mk0_0 bk0_1 bk0_35 bk0_55 bk0_58 mk0_61 mk0_62 fr hf
    exact nomatch (show none = some _ from hf)
  | succ n ih =>
    intro v1 v2 ws H locs ls hP hD hS hl mk0_0 bk0_1 bk0_35 bk0_55 bk0_58 mk0_61 mk0_62 fr hf
    rw [f_Nd_foundAmongNearest_34] at hf
    refine lv_iload_n hx hb d_Nd_foundAmongNearest_34 rfl (lv_at hl 0 rfl) ?_
    refine lv_aload_n hx hb d_Nd_foundAmongNearest_35 rfl (lv_at hl 2 rfl) ?_
    refine va_get (D := D) (ci := 6) (v := .ref (ad (k0 + 55))) (C := R_Nd) (T := F_Nd) (N := 6) hx hb hts i_Nd hown hK hP (k0) mk0_0 rfl 2 (by decide) (hts _ iw_158) (fun _ h9 => h9) rfl d_Nd_foundAmongNearest_36 ?_
    obtain ⟨p6, hp6, hf⟩ := g_bd hf
    refine hw_ci0 (va_runV (As := []) (rest := [.int v2]) ⟨hx, hb, hml, hown, hts⟩ (c_Rk_size l D cI cG cZ ad B ws N (k0 + 55) x0_2.1 x0_2.2.1 x0_2.2.2.1 x0_2.2.2.2.1 x0_2.2.2.2.2 p6 hp6 bk0_55) (cwV 0 hts (hw_gV iw_427 gy_Rk_size) rfl rfl rfl (by decide +kernel) ⟨Nat.le_of_ble_eq_true rfl, Nat.le_of_ble_eq_true rfl⟩) ⟨hw_blind, va_recv hK hP (ci := 4) (q0 := k0 + 55) rfl bk0_55.1, hw_go hP hD hK hN⟩ rfl rfl hl.1 rfl (lv_room (Nat.le_of_ble_eq_true rfl)) d_Nd_foundAmongNearest_39 ⟨Nat.zero_le _, Nat.zero_le _⟩) hS (fun H locs hP hD hS => ?_)
    refine lv_icmp_ge (tgt := 72) hx hb d_Nd_foundAmongNearest_42 (by decide) (fun c7 => ?_) (fun c7 => ?_)
    · rw [if_pos c7] at hf
      refine lv_iload_n hx hb d_Nd_foundAmongNearest_72 rfl (lv_at hl 1 rfl) ?_
      have bk0_0 : wc_Nd cI cG cZ ad (k0) (x0_0, x0_1, x0_2, (p4.1, p4.2.1, p4.2.2.1, p4.2.2.2.1, p4.2.2.2.2), x0_4, x0_5) ws := ⟨mk0_0, bk0_1, bk0_35, bk0_55, bk0_58, mk0_61, mk0_62⟩
      have he := Option.some.inj hf
      obtain ⟨e0, e1⟩ := Prod.mk.inj he
      have f0 : wc_Nd cI cG cZ ad (k0) (x0_0, x0_1, x0_2, y0_3, x0_4, x0_5) ws := by rw [← e1]; exact bk0_0
      exact W.iret (v := v1) hx hb hr (fun t ht hW => ⟨⟨v1, ws, rfl, ⟨e0, ⟨f0, fr⟩⟩, by rw [ht]; exact hP, hD⟩, hS.F ht⟩) hS.2.2 d_Nd_foundAmongNearest_73
    · rw [if_neg c7] at hf
      refine lv_aload_n hx hb d_Nd_foundAmongNearest_45 rfl (lv_at hl 2 rfl) ?_
      refine va_get (D := D) (ci := 6) (v := .ref (ad (k0 + 58))) (C := R_Nd) (T := F_Nd) (N := 6) hx hb hts i_Nd hown hK hP (k0) mk0_0 rfl 3 (by decide) (hts _ iw_159) (fun _ h9 => h9) rfl d_Nd_foundAmongNearest_46 ?_
      refine lv_aload_n hx hb d_Nd_foundAmongNearest_49 rfl (lv_at hl 2 rfl) ?_
      refine va_get (D := D) (ci := 6) (v := .ref (ad (k0 + 55))) (C := R_Nd) (T := F_Nd) (N := 6) hx hb hts i_Nd hown hK hP (k0) mk0_0 rfl 2 (by decide) (hts _ iw_158) (fun _ h9 => h9) rfl d_Nd_foundAmongNearest_50 ?_
      refine lv_iload_n hx hb d_Nd_foundAmongNearest_53 rfl (lv_at hl 0 rfl) ?_
      obtain ⟨p8, hp8, hf⟩ := g_bd hf
      refine hw_ci0 (va_runV (As := [.int v2]) (rest := [.ref (ad (k0 + 58))]) ⟨hx, hb, hml, hown, hts⟩ (c_Rk_numberAt l D cI cG cZ ad B ws N (k0 + 55) x0_2.1 x0_2.2.1 x0_2.2.2.1 x0_2.2.2.2.1 x0_2.2.2.2.2 v2 p8 hp8 bk0_55) (cwV 1 hts (hw_gV iw_428 gy_Rk_numberAt) rfl rfl rfl (by decide +kernel) ⟨Nat.le_of_ble_eq_true rfl, Nat.le_of_ble_eq_true rfl⟩) ⟨hw_blind, va_recv hK hP (ci := 4) (q0 := k0 + 55) rfl bk0_55.1, hw_go hP hD hK hN⟩ rfl rfl hl.1 rfl (lv_room (Nat.le_of_ble_eq_true rfl)) d_Nd_foundAmongNearest_54 ⟨Nat.zero_le _, Nat.zero_le _⟩) hS (fun H locs hP hD hS => ?_)
      obtain ⟨p9, hp9, hf⟩ := g_bd hf
      refine hw_ci0 (va_runV (As := [.int p8]) (rest := []) ⟨hx, hb, hml, hown, hts⟩ (c_Rk_holds l D cI cG cZ ad B ws N (k0 + 58) p4.1 p4.2.1 p4.2.2.1 p4.2.2.2.1 p4.2.2.2.2 p8 p9 hp9 bk0_58) (cwV 1 hts (hw_gV iw_540 gy_Rk_holds) rfl rfl rfl (by decide +kernel) ⟨Nat.le_of_ble_eq_true rfl, Nat.le_of_ble_eq_true rfl⟩) ⟨hw_blind, va_recv hK hP (ci := 4) (q0 := k0 + 58) rfl bk0_58.1, hw_go hP hD hK hN⟩ rfl rfl hl.1 rfl (lv_room (Nat.le_of_ble_eq_true rfl)) d_Nd_foundAmongNearest_57 ⟨Nat.zero_le _, Nat.zero_le _⟩) hS (fun H locs hP hD hS => ?_)
      refine lv_if_eq (tgt := 66) hx hb d_Nd_foundAmongNearest_60 (by decide) (fun c10 => ?_) (fun c10 => ?_)
      · rw [if_pos c10] at hf
        refine lv_iinc (v := v2 + 1) (lv' := [(2, .int (v2 + 1)), (1, .int v1), (0, .ref (ad k0))]) hx hb d_Nd_foundAmongNearest_66 hl (k := 0) rfl rfl (by decide) rfl (fun ls hl => ?_)
        refine lv_goto (tgt := 34) hx hb d_Nd_foundAmongNearest_69 (by decide) ?_
        exact ih v1 (v2 + 1) _ _ _ _ hP hD hS (lv_sub hl [0, 1, 2] rfl) mk0_0 bk0_1 bk0_35 bk0_55 bk0_58 mk0_61 mk0_62 fr hf
      · rw [if_neg c10] at hf
        refine lv_iinc (v := v1 + 1) (lv' := [(1, .int (v1 + 1)), (2, .int v2), (0, .ref (ad k0))]) hx hb d_Nd_foundAmongNearest_63 hl (k := 1) rfl rfl (by decide) rfl (fun ls hl => ?_)
        refine lv_iinc (v := v2 + 1) (lv' := [(2, .int (v2 + 1)), (1, .int (v1 + 1)), (0, .ref (ad k0))]) hx hb d_Nd_foundAmongNearest_66 hl (k := 1) rfl rfl (by decide) rfl (fun ls hl => ?_)
        refine lv_goto (tgt := 34) hx hb d_Nd_foundAmongNearest_69 (by decide) ?_
        exact ih (v1 + 1) (v2 + 1) _ _ _ _ hP hD hS (lv_sub hl [0, 1, 2] rfl) mk0_0 bk0_1 bk0_35 bk0_55 bk0_58 mk0_61 mk0_62 fr hf
set_option maxHeartbeats 4000000 in
set_option maxRecDepth 100000 in
theorem c_Nd_foundAmongNearest (l : Launch) (D : va_G) (cI cG cZ : ClassId) (ad : Nat → Nat) (B : Nat) (w0 : va_W) (N : Nat) (k0 : Nat) (x0_0 : T_Do) (x0_1 : T_Gr) (x0_2 : T_Rk) (x0_3 : T_Rk) (x0_4 : (Nat → Int32)) (x0_5 : (Nat → Int32)) (r : Int32) (y0_3 : T_Rk) (hf : f_Nd_foundAmongNearest N x0_0 x0_2 x0_3 x0_4 = some (r, y0_3)) (bk0_0 : wc_Nd cI cG cZ ad k0 (x0_0, x0_1, x0_2, x0_3, x0_4, x0_5) w0) : Met l y_Nd_foundAmongNearest (.code y_Nd_foundAmongNearest b_Nd_foundAmongNearest 3 (some .int) :: hw_G) ({ frames := 4, cells := 0, slots := 0, locals := 86 } : Room) (va_Pc [.ref (ad k0)] (hw_U D cI cG cZ B w0)) (va_Qi (fun (r1 : Int32) (w1 : va_W) => r1 = r ∧ wc_Nd cI cG cZ ad k0 (x0_0, x0_1, x0_2, y0_3, x0_4, x0_5) w1 ∧ (∀ j : Nat, (j < k0 ∨ k0 + 63 ≤ j) → w1[j]? = w0[j]?)) (hw_B D B) (fun q : Nat => B ≤ q)) 0 0 (fun q : Nat => B ≤ q) := by
  refine Met.ofW (cc := b_Nd_foundAmongNearest) (maxL := 3) (ret := (some .int)) (by decide) rfl ?_
  intro p e s m args below meth c s₁ Bd hml hv
  obtain ⟨rfl, hP, hD, hK, hN⟩ := hv
  have C0 : hw_C p s m meth c b_Nd_foundAmongNearest 3 _ R_Nd (some .int) := ⟨Bd.exec, Bd.bytes, Bd.returns, hml, findClass_of_methodNamed Bd.named, fun w h => atoms_spec (ws := .code y_Nd_foundAmongNearest b_Nd_foundAmongNearest 3 (some .int) :: hw_G) Bd.pre w (List.mem_cons_of_mem _ h), Bd.notSynchronized⟩
  obtain ⟨hx, hb, hr, -, hown, hts, hlocks⟩ := id C0
  have hS : va_S (fun q : Nat => B ≤ q) s.heap s.heap [] := va_S.rf
  have fr : ∀ j : Nat, (j < k0 ∨ k0 + 63 ≤ j) → w0[j]? = w0[j]? := fun j _ => rfl
  have hl := lv_entry ([.ref (ad k0)]) (n := 3) (Nat.le_of_ble_eq_true rfl)
  rw [lg_entry_eq]
  generalize (lg_sl ([.ref (ad k0)]) ++ List.replicate (3 - (lg_sl ([.ref (ad k0)])).length) Slot.unset).toArray = ls at hl ⊢
  have hl : lv_has ls 3 [(0, .ref (ad k0))] := hl
  unfold f_Nd_foundAmongNearest at hf
  obtain ⟨mk0_0, bk0_1, bk0_35, bk0_55, bk0_58, mk0_61, mk0_62⟩ := id bk0_0
  have mk0_0 : w0[k0]? = some (ad k0, .inr (6, [.ref (ad (k0 + 1)), .ref (ad (k0 + 35)), .ref (ad (k0 + 55)), .ref (ad (k0 + 58)), .ref (ad (k0 + 61)), .ref (ad (k0 + 62))])) := mk0_0
  have bk0_1 : wc_Do cI cG cZ ad (k0 + 1) x0_0 w0 := bk0_1
  have bk0_35 : wc_Gr cI cG cZ ad (k0 + 35) x0_1 w0 := bk0_35
  have bk0_55 : wc_Rk cI cG cZ ad (k0 + 55) x0_2 w0 := bk0_55
  have bk0_58 : wc_Rk cI cG cZ ad (k0 + 58) x0_3 w0 := bk0_58
  have mk0_61 : w0[k0 + 61]? = some (ad (k0 + 61), .inl (cI, 4, .inl x0_4)) := mk0_61
  have mk0_62 : w0[k0 + 62]? = some (ad (k0 + 62), .inl (cI, 30, .inl x0_5)) := mk0_62
  refine lv_aload_n hx hb d_Nd_foundAmongNearest_0 rfl (lv_at hl 0 rfl) ?_
  refine va_get (D := D) (ci := 6) (v := .ref (ad (k0 + 58))) (C := R_Nd) (T := F_Nd) (N := 6) hx hb hts i_Nd hown hK hP (k0) mk0_0 rfl 3 (by decide) (hts _ iw_159) (fun _ h9 => h9) rfl d_Nd_foundAmongNearest_1 ?_
  refine lv_aload_n hx hb d_Nd_foundAmongNearest_4 rfl (lv_at hl 0 rfl) ?_
  refine va_get (D := D) (ci := 6) (v := .ref (ad (k0 + 55))) (C := R_Nd) (T := F_Nd) (N := 6) hx hb hts i_Nd hown hK hP (k0) mk0_0 rfl 2 (by decide) (hts _ iw_158) (fun _ h9 => h9) rfl d_Nd_foundAmongNearest_5 ?_
  obtain ⟨p1, hp1, hf⟩ := g_bd hf
  refine hw_ci0 (va_runV (As := []) (rest := [.ref (ad (k0 + 58))]) ⟨hx, hb, hml, hown, hts⟩ (c_Rk_size l D cI cG cZ ad B w0 N (k0 + 55) x0_2.1 x0_2.2.1 x0_2.2.2.1 x0_2.2.2.2.1 x0_2.2.2.2.2 p1 hp1 bk0_55) (cwV 0 hts (hw_gV iw_427 gy_Rk_size) rfl rfl rfl (by decide +kernel) ⟨Nat.le_of_ble_eq_true rfl, Nat.le_of_ble_eq_true rfl⟩) ⟨hw_blind, va_recv hK hP (ci := 4) (q0 := k0 + 55) rfl bk0_55.1, hw_go hP hD hK hN⟩ rfl rfl hl.1 rfl (lv_room (Nat.le_of_ble_eq_true rfl)) d_Nd_foundAmongNearest_8 ⟨Nat.zero_le _, Nat.zero_le _⟩) hS (fun H locs hP hD hS => ?_)
  refine lv_iconst (v := 0) hx hb d_Nd_foundAmongNearest_11 (by decide) ?_
  obtain ⟨p2, hp2, hf⟩ := g_bd hf
  refine hw_cv (va_runV (As := [.int p1, .int 0]) (rest := []) ⟨hx, hb, hml, hown, hts⟩ (c_Rk_start l D cI cG cZ ad B w0 N (k0 + 58) x0_3.1 x0_3.2.1 x0_3.2.2.1 x0_3.2.2.2.1 x0_3.2.2.2.2 p1 0 p2.1 p2.2.1 p2.2.2 hp2 bk0_58) (cwV 2 hts (hw_gV iw_413 gy_Rk_start) rfl rfl rfl (by decide +kernel) ⟨Nat.le_of_ble_eq_true rfl, Nat.le_of_ble_eq_true rfl⟩) ⟨hw_blind, va_recv hK hP (ci := 4) (q0 := k0 + 58) rfl bk0_58.1, hw_go hP hD hK hN⟩ rfl rfl hl.1 rfl (lv_room (Nat.le_of_ble_eq_true rfl)) d_Nd_foundAmongNearest_12 ⟨Nat.zero_le _, Nat.zero_le _⟩) hS (fun w3 H locs hP hD hS hpp => ?_)
  obtain ⟨q0, frc⟩ := hpp
  have bk0_58 : wc_Rk cI cG cZ ad (k0 + 58) (x0_3.1, x0_3.2.1, p2.1, p2.2.1, p2.2.2) w3 := q0
  have mk0_0 : w3[k0]? = some (ad k0, .inr (6, [.ref (ad (k0 + 1)), .ref (ad (k0 + 35)), .ref (ad (k0 + 55)), .ref (ad (k0 + 58)), .ref (ad (k0 + 61)), .ref (ad (k0 + 62))])) := (frc _ (by omega)).trans mk0_0
  have bk0_1 : wc_Do cI cG cZ ad (k0 + 1) x0_0 w3 := bk0_1.fr (fun j h1 h2 => frc j (by omega))
  have bk0_35 : wc_Gr cI cG cZ ad (k0 + 35) x0_1 w3 := bk0_35.fr (fun j h1 h2 => frc j (by omega))
  have bk0_55 : wc_Rk cI cG cZ ad (k0 + 55) x0_2 w3 := bk0_55.fr (fun j h1 h2 => frc j (by omega))
  have mk0_61 : w3[k0 + 61]? = some (ad (k0 + 61), .inl (cI, 4, .inl x0_4)) := (frc _ (by omega)).trans mk0_61
  have mk0_62 : w3[k0 + 62]? = some (ad (k0 + 62), .inl (cI, 30, .inl x0_5)) := (frc _ (by omega)).trans mk0_62
  have fr : ∀ j : Nat, (j < k0 ∨ k0 + 63 ≤ j) → w3[j]? = w0[j]? := fun j o0 => (frc j (by omega)).trans (fr j o0)
  refine lv_aload_n hx hb d_Nd_foundAmongNearest_15 rfl (lv_at hl 0 rfl) ?_
  refine va_get (D := D) (ci := 6) (v := .ref (ad (k0 + 1))) (C := R_Nd) (T := F_Nd) (N := 6) hx hb hts i_Nd hown hK hP (k0) mk0_0 rfl 0 (by decide) (hts _ iw_156) (fun _ h9 => h9) rfl d_Nd_foundAmongNearest_16 ?_
  refine lv_aload_n hx hb d_Nd_foundAmongNearest_19 rfl (lv_at hl 0 rfl) ?_
  refine va_get (D := D) (ci := 6) (v := .ref (ad (k0 + 61))) (C := R_Nd) (T := F_Nd) (N := 6) hx hb hts i_Nd hown hK hP (k0) mk0_0 rfl 4 (by decide) (hts _ iw_160) (fun _ h9 => h9) rfl d_Nd_foundAmongNearest_20 ?_
  refine lv_aload_n hx hb d_Nd_foundAmongNearest_23 rfl (lv_at hl 0 rfl) ?_
  refine va_get (D := D) (ci := 6) (v := .ref (ad (k0 + 58))) (C := R_Nd) (T := F_Nd) (N := 6) hx hb hts i_Nd hown hK hP (k0) mk0_0 rfl 3 (by decide) (hts _ iw_159) (fun _ h9 => h9) rfl d_Nd_foundAmongNearest_24 ?_
  obtain ⟨p4, hp4, hf⟩ := g_bd hf
  refine hw_cv (va_runV (As := [.ref (ad (k0 + 61)), .ref (ad (k0 + 58))]) (rest := []) ⟨hx, hb, hml, hown, hts⟩ (c_Do_rankByDistance l D cI cG cZ ad B w3 N (k0 + 1) x0_0.1 x0_0.2.1 x0_0.2.2.1 x0_0.2.2.2 (k0 + 61) x0_4 (k0 + 58) x0_3.1 x0_3.2.1 p2.1 p2.2.1 p2.2.2 p4.1 p4.2.1 p4.2.2.1 p4.2.2.2.1 p4.2.2.2.2 hp4 bk0_1 mk0_61 bk0_58 (by omega) (by omega)) (cwV 2 hts (hw_gV iw_435 gy_Do_rankByDistance) rfl rfl rfl (by decide +kernel) ⟨Nat.le_of_ble_eq_true rfl, Nat.le_of_ble_eq_true rfl⟩) ⟨hw_blind, va_recv hK hP (ci := 1) (q0 := k0 + 1) rfl bk0_1.1, hw_go hP hD hK hN⟩ rfl rfl hl.1 rfl (lv_room (Nat.le_of_ble_eq_true rfl)) d_Nd_foundAmongNearest_27 ⟨Nat.zero_le _, Nat.zero_le _⟩) hS (fun w5 H locs hP hD hS hpp => ?_)
  obtain ⟨q0, frc⟩ := hpp
  have bk0_58 : wc_Rk cI cG cZ ad (k0 + 58) (p4.1, p4.2.1, p4.2.2.1, p4.2.2.2.1, p4.2.2.2.2) w5 := q0
  have mk0_0 : w5[k0]? = some (ad k0, .inr (6, [.ref (ad (k0 + 1)), .ref (ad (k0 + 35)), .ref (ad (k0 + 55)), .ref (ad (k0 + 58)), .ref (ad (k0 + 61)), .ref (ad (k0 + 62))])) := (frc _ (by omega)).trans mk0_0
  have bk0_1 : wc_Do cI cG cZ ad (k0 + 1) x0_0 w5 := bk0_1.fr (fun j h1 h2 => frc j (by omega))
  have bk0_35 : wc_Gr cI cG cZ ad (k0 + 35) x0_1 w5 := bk0_35.fr (fun j h1 h2 => frc j (by omega))
  have bk0_55 : wc_Rk cI cG cZ ad (k0 + 55) x0_2 w5 := bk0_55.fr (fun j h1 h2 => frc j (by omega))
  have mk0_61 : w5[k0 + 61]? = some (ad (k0 + 61), .inl (cI, 4, .inl x0_4)) := (frc _ (by omega)).trans mk0_61
  have mk0_62 : w5[k0 + 62]? = some (ad (k0 + 62), .inl (cI, 30, .inl x0_5)) := (frc _ (by omega)).trans mk0_62
  have fr : ∀ j : Nat, (j < k0 ∨ k0 + 63 ≤ j) → w5[j]? = w0[j]? := fun j o0 => (frc j (by omega)).trans (fr j o0)
  refine lv_iconst (v := 0) hx hb d_Nd_foundAmongNearest_30 (by decide) ?_
  refine lv_istore_n (lv' := [(1, .int 0), (0, .ref (ad k0))]) hx hb d_Nd_foundAmongNearest_31 rfl hl (by decide) rfl (fun ls hl => ?_)
  refine lv_iconst (v := 0) hx hb d_Nd_foundAmongNearest_32 (by decide) ?_
  refine lv_istore_n (lv' := [(2, .int 0), (1, .int 0), (0, .ref (ad k0))]) hx hb d_Nd_foundAmongNearest_33 rfl hl (by decide) rfl (fun ls hl => ?_)
  exact wl_Nd_foundAmongNearest_34 (ad := ad) C0 hK hN x0_0 x0_1 x0_2 x0_4 x0_5 p4 x0_3 r y0_3 N 0 0 _ _ _ _ hP hD hS (lv_sub hl [0, 1, 2] rfl) mk0_0 bk0_1 bk0_35 bk0_55 bk0_58 mk0_61 mk0_62 fr hf
set_option maxHeartbeats 4000000 in
set_option maxRecDepth 100000 in
theorem c_Nd_count (l : Launch) (D : va_G) (cI cG cZ : ClassId) (ad : Nat → Nat) (B : Nat) (w0 : va_W) (N : Nat) (k0 : Nat) (x0_0 : T_Do) (x0_1 : T_Gr) (x0_2 : T_Rk) (x0_3 : T_Rk) (x0_4 : (Nat → Int32)) (x0_5 : (Nat → Int32)) (a1 : Int32) (r : Int32) (y0_1 : T_Gr) (y0_3 : T_Rk) (hf : f_Nd_count N x0_0 x0_1 x0_2 x0_3 x0_4 a1 = some (r, y0_1, y0_3)) (bk0_0 : wc_Nd cI cG cZ ad k0 (x0_0, x0_1, x0_2, x0_3, x0_4, x0_5) w0) : Met l y_Nd_count (.code y_Nd_count b_Nd_count 2 (some .int) :: hw_G) ({ frames := 5, cells := 0, slots := 0, locals := 108 } : Room) (va_Pc [.ref (ad k0), .int a1] (hw_U D cI cG cZ B w0)) (va_Qi (fun (r1 : Int32) (w1 : va_W) => r1 = r ∧ wc_Nd cI cG cZ ad k0 (x0_0, y0_1, x0_2, y0_3, x0_4, x0_5) w1 ∧ (∀ j : Nat, (j < k0 ∨ k0 + 63 ≤ j) → w1[j]? = w0[j]?)) (hw_B D B) (fun q : Nat => B ≤ q)) 0 0 (fun q : Nat => B ≤ q) := by
  refine Met.ofW (cc := b_Nd_count) (maxL := 2) (ret := (some .int)) (by decide) rfl ?_
  intro p e s m args below meth c s₁ Bd hml hv
  obtain ⟨rfl, hP, hD, hK, hN⟩ := hv
  have C0 : hw_C p s m meth c b_Nd_count 2 _ R_Nd (some .int) := ⟨Bd.exec, Bd.bytes, Bd.returns, hml, findClass_of_methodNamed Bd.named, fun w h => atoms_spec (ws := .code y_Nd_count b_Nd_count 2 (some .int) :: hw_G) Bd.pre w (List.mem_cons_of_mem _ h), Bd.notSynchronized⟩
  obtain ⟨hx, hb, hr, -, hown, hts, hlocks⟩ := id C0
  have hS : va_S (fun q : Nat => B ≤ q) s.heap s.heap [] := va_S.rf
  have fr : ∀ j : Nat, (j < k0 ∨ k0 + 63 ≤ j) → w0[j]? = w0[j]? := fun j _ => rfl
  have hl := lv_entry ([.ref (ad k0), .int a1]) (n := 2) (Nat.le_of_ble_eq_true rfl)
  rw [lg_entry_eq]
  generalize (lg_sl ([.ref (ad k0), .int a1]) ++ List.replicate (2 - (lg_sl ([.ref (ad k0), .int a1])).length) Slot.unset).toArray = ls at hl ⊢
  have hl : lv_has ls 2 [(0, .ref (ad k0)), (1, .int a1)] := hl
  unfold f_Nd_count at hf
  obtain ⟨mk0_0, bk0_1, bk0_35, bk0_55, bk0_58, mk0_61, mk0_62⟩ := id bk0_0
  have mk0_0 : w0[k0]? = some (ad k0, .inr (6, [.ref (ad (k0 + 1)), .ref (ad (k0 + 35)), .ref (ad (k0 + 55)), .ref (ad (k0 + 58)), .ref (ad (k0 + 61)), .ref (ad (k0 + 62))])) := mk0_0
  have bk0_1 : wc_Do cI cG cZ ad (k0 + 1) x0_0 w0 := bk0_1
  have bk0_35 : wc_Gr cI cG cZ ad (k0 + 35) x0_1 w0 := bk0_35
  have bk0_55 : wc_Rk cI cG cZ ad (k0 + 55) x0_2 w0 := bk0_55
  have bk0_58 : wc_Rk cI cG cZ ad (k0 + 58) x0_3 w0 := bk0_58
  have mk0_61 : w0[k0 + 61]? = some (ad (k0 + 61), .inl (cI, 4, .inl x0_4)) := mk0_61
  have mk0_62 : w0[k0 + 62]? = some (ad (k0 + 62), .inl (cI, 30, .inl x0_5)) := mk0_62
  refine lv_iload_n hx hb d_Nd_count_0 rfl (lv_at hl 1 rfl) ?_
  by_cases c1 : a1 = 0
  · rw [if_pos c1] at hf
    refine lv_tableIn (tgt := 56) (off := 55) hx hb d_Nd_count_1 (by rw [c1]; decide) (by rw [c1]; decide) (by rw [c1]; rfl) (by decide) ?_
    refine lv_aload_n hx hb d_Nd_count_56 rfl (lv_at hl 0 rfl) ?_
    refine va_get (D := D) (ci := 6) (v := .ref (ad (k0 + 35))) (C := R_Nd) (T := F_Nd) (N := 6) hx hb hts i_Nd hown hK hP (k0) mk0_0 rfl 1 (by decide) (hts _ iw_157) (fun _ h9 => h9) rfl d_Nd_count_57 ?_
    obtain ⟨mk0_35, bk0_36, bk0_42, bk0_50, bk0_52⟩ := id bk0_35
    have mk0_35 : w0[k0 + 35]? = some (ad (k0 + 35), .inr (2, [.ref (ad (k0 + 36)), .ref (ad (k0 + 42)), .ref (ad (k0 + 50)), .ref (ad (k0 + 52)), .int x0_1.2.2.2.2.1, .int x0_1.2.2.2.2.2.1, .int x0_1.2.2.2.2.2.2])) := mk0_35
    have bk0_36 : wc_Li cI cG cZ ad (k0 + 36) x0_1.1 w0 := bk0_36
    have bk0_42 : wc_Wa cI cG cZ ad (k0 + 42) x0_1.2.1 w0 := bk0_42
    have bk0_50 : wc_Ch cI cG cZ ad (k0 + 50) x0_1.2.2.1 w0 := bk0_50
    have bk0_52 : wc_Rk cI cG cZ ad (k0 + 52) x0_1.2.2.2.1 w0 := bk0_52
    refine va_getN (D := D) (ci := 2) (v := .ref (ad (k0 + 36))) (C := R_Gr) (T := F_Gr) (N := 7) hx hb hts i_Gr hown hK hP (k0 + 35) mk0_35 rfl 0 (by decide) (va_Nw.use rfl (hN _ in_132)) (fun _ h9 => h9) rfl d_Nd_count_60 ?_
    obtain ⟨p2, hp2, hf⟩ := g_bd hf
    refine hw_ci0 (va_runV (As := []) (rest := []) ⟨hx, hb, hml, hown, hts⟩ (c_Li_size l D cI cG cZ ad B w0 N (k0 + 36) x0_1.1.1 x0_1.1.2.1 x0_1.1.2.2.1 x0_1.1.2.2.2.1 x0_1.1.2.2.2.2.1 x0_1.1.2.2.2.2.2 p2 hp2 bk0_36) (cwV 0 hts (hw_gV iw_386 gy_Li_size) rfl rfl rfl (by decide +kernel) ⟨Nat.le_of_ble_eq_true rfl, Nat.le_of_ble_eq_true rfl⟩) ⟨hw_blind, va_recv hK hP (ci := 3) (q0 := k0 + 36) rfl bk0_36.1, hw_go hP hD hK hN⟩ rfl rfl hl.1 rfl (lv_room (Nat.le_of_ble_eq_true rfl)) d_Nd_count_63 ⟨Nat.zero_le _, Nat.zero_le _⟩) hS (fun H locs hP hD hS => ?_)
    have bk0_35 : wc_Gr cI cG cZ ad (k0 + 35) x0_1 w0 := ⟨mk0_35, bk0_36, bk0_42, bk0_50, bk0_52⟩
    have bk0_0 : wc_Nd cI cG cZ ad (k0) (x0_0, x0_1, x0_2, x0_3, x0_4, x0_5) w0 := ⟨mk0_0, bk0_1, bk0_35, bk0_55, bk0_58, mk0_61, mk0_62⟩
    have he := Option.some.inj hf
    obtain ⟨e0, he⟩ := Prod.mk.inj he
    obtain ⟨e1, e2⟩ := Prod.mk.inj he
    have f0 : wc_Nd cI cG cZ ad (k0) (x0_0, y0_1, x0_2, y0_3, x0_4, x0_5) w0 := by rw [← e1, ← e2]; exact bk0_0
    exact W.iret (v := p2) hx hb hr (fun t ht hW => ⟨⟨p2, w0, rfl, ⟨e0, ⟨f0, fr⟩⟩, by rw [ht]; exact hP, hD⟩, hS.F ht⟩) hS.2.2 d_Nd_count_66
  · rw [if_neg c1] at hf
    by_cases c3 : a1 = 1
    · rw [if_pos c3] at hf
      refine lv_tableIn (tgt := 67) (off := 66) hx hb d_Nd_count_1 (by rw [c3]; decide) (by rw [c3]; decide) (by rw [c3]; rfl) (by decide) ?_
      refine lv_aload_n hx hb d_Nd_count_67 rfl (lv_at hl 0 rfl) ?_
      refine va_get (D := D) (ci := 6) (v := .ref (ad (k0 + 1))) (C := R_Nd) (T := F_Nd) (N := 6) hx hb hts i_Nd hown hK hP (k0) mk0_0 rfl 0 (by decide) (hts _ iw_156) (fun _ h9 => h9) rfl d_Nd_count_68 ?_
      obtain ⟨p4, hp4, hf⟩ := g_bd hf
      refine hw_ci0 (va_runV (As := []) (rest := []) ⟨hx, hb, hml, hown, hts⟩ (c_Do_liveCount l D cI cG cZ ad B w0 N (k0 + 1) x0_0.1 x0_0.2.1 x0_0.2.2.1 x0_0.2.2.2 p4 hp4 bk0_1) (cwV 0 hts (hw_gV iw_390 gy_Do_liveCount) rfl rfl rfl (by decide +kernel) ⟨Nat.le_of_ble_eq_true rfl, Nat.le_of_ble_eq_true rfl⟩) ⟨hw_blind, va_recv hK hP (ci := 1) (q0 := k0 + 1) rfl bk0_1.1, hw_go hP hD hK hN⟩ rfl rfl hl.1 rfl (lv_room (Nat.le_of_ble_eq_true rfl)) d_Nd_count_71 ⟨Nat.zero_le _, Nat.zero_le _⟩) hS (fun H locs hP hD hS => ?_)
      have bk0_0 : wc_Nd cI cG cZ ad (k0) (x0_0, x0_1, x0_2, x0_3, x0_4, x0_5) w0 := ⟨mk0_0, bk0_1, bk0_35, bk0_55, bk0_58, mk0_61, mk0_62⟩
      have he := Option.some.inj hf
      obtain ⟨e0, he⟩ := Prod.mk.inj he
      obtain ⟨e1, e2⟩ := Prod.mk.inj he
      have f0 : wc_Nd cI cG cZ ad (k0) (x0_0, y0_1, x0_2, y0_3, x0_4, x0_5) w0 := by rw [← e1, ← e2]; exact bk0_0
      exact W.iret (v := p4) hx hb hr (fun t ht hW => ⟨⟨p4, w0, rfl, ⟨e0, ⟨f0, fr⟩⟩, by rw [ht]; exact hP, hD⟩, hS.F ht⟩) hS.2.2 d_Nd_count_74
    · rw [if_neg c3] at hf
      by_cases c5 : a1 = 2
      · rw [if_pos c5] at hf
        refine lv_tableIn (tgt := 75) (off := 74) hx hb d_Nd_count_1 (by rw [c5]; decide) (by rw [c5]; decide) (by rw [c5]; rfl) (by decide) ?_
        refine lv_aload_n hx hb d_Nd_count_75 rfl (lv_at hl 0 rfl) ?_
        refine va_get (D := D) (ci := 6) (v := .ref (ad (k0 + 35))) (C := R_Nd) (T := F_Nd) (N := 6) hx hb hts i_Nd hown hK hP (k0) mk0_0 rfl 1 (by decide) (hts _ iw_157) (fun _ h9 => h9) rfl d_Nd_count_76 ?_
        obtain ⟨p6, hp6, hf⟩ := g_bd hf
        refine hw_ci0 (va_runV (As := []) (rest := []) ⟨hx, hb, hml, hown, hts⟩ (c_Gr_entry l D cI cG cZ ad B w0 N (k0 + 35) x0_1.1 x0_1.2.1 x0_1.2.2.1 x0_1.2.2.2.1 x0_1.2.2.2.2.1 x0_1.2.2.2.2.2.1 x0_1.2.2.2.2.2.2 p6 hp6 bk0_35) (cwV 0 hts (hw_gV iw_523 gy_Gr_entry) rfl rfl rfl (by decide +kernel) ⟨Nat.le_of_ble_eq_true rfl, Nat.le_of_ble_eq_true rfl⟩) ⟨hw_blind, va_recv hK hP (ci := 2) (q0 := k0 + 35) rfl bk0_35.1, hw_go hP hD hK hN⟩ rfl rfl hl.1 rfl (lv_room (Nat.le_of_ble_eq_true rfl)) d_Nd_count_79 ⟨Nat.zero_le _, Nat.zero_le _⟩) hS (fun H locs hP hD hS => ?_)
        have bk0_0 : wc_Nd cI cG cZ ad (k0) (x0_0, x0_1, x0_2, x0_3, x0_4, x0_5) w0 := ⟨mk0_0, bk0_1, bk0_35, bk0_55, bk0_58, mk0_61, mk0_62⟩
        have he := Option.some.inj hf
        obtain ⟨e0, he⟩ := Prod.mk.inj he
        obtain ⟨e1, e2⟩ := Prod.mk.inj he
        have f0 : wc_Nd cI cG cZ ad (k0) (x0_0, y0_1, x0_2, y0_3, x0_4, x0_5) w0 := by rw [← e1, ← e2]; exact bk0_0
        exact W.iret (v := p6) hx hb hr (fun t ht hW => ⟨⟨p6, w0, rfl, ⟨e0, ⟨f0, fr⟩⟩, by rw [ht]; exact hP, hD⟩, hS.F ht⟩) hS.2.2 d_Nd_count_82
      · rw [if_neg c5] at hf
        by_cases c7 : a1 = 3
        · rw [if_pos c7] at hf
          refine lv_tableIn (tgt := 83) (off := 82) hx hb d_Nd_count_1 (by rw [c7]; decide) (by rw [c7]; decide) (by rw [c7]; rfl) (by decide) ?_
          refine lv_aload_n hx hb d_Nd_count_83 rfl (lv_at hl 0 rfl) ?_
          refine va_get (D := D) (ci := 6) (v := .ref (ad (k0 + 35))) (C := R_Nd) (T := F_Nd) (N := 6) hx hb hts i_Nd hown hK hP (k0) mk0_0 rfl 1 (by decide) (hts _ iw_157) (fun _ h9 => h9) rfl d_Nd_count_84 ?_
          obtain ⟨p8, hp8, hf⟩ := g_bd hf
          refine hw_ci0 (va_runV (As := []) (rest := []) ⟨hx, hb, hml, hown, hts⟩ (c_Gr_top l D cI cG cZ ad B w0 N (k0 + 35) x0_1.1 x0_1.2.1 x0_1.2.2.1 x0_1.2.2.2.1 x0_1.2.2.2.2.1 x0_1.2.2.2.2.2.1 x0_1.2.2.2.2.2.2 p8 hp8 bk0_35) (cwV 0 hts (hw_gV iw_527 gy_Gr_top) rfl rfl rfl (by decide +kernel) ⟨Nat.le_of_ble_eq_true rfl, Nat.le_of_ble_eq_true rfl⟩) ⟨hw_blind, va_recv hK hP (ci := 2) (q0 := k0 + 35) rfl bk0_35.1, hw_go hP hD hK hN⟩ rfl rfl hl.1 rfl (lv_room (Nat.le_of_ble_eq_true rfl)) d_Nd_count_87 ⟨Nat.zero_le _, Nat.zero_le _⟩) hS (fun H locs hP hD hS => ?_)
          have bk0_0 : wc_Nd cI cG cZ ad (k0) (x0_0, x0_1, x0_2, x0_3, x0_4, x0_5) w0 := ⟨mk0_0, bk0_1, bk0_35, bk0_55, bk0_58, mk0_61, mk0_62⟩
          have he := Option.some.inj hf
          obtain ⟨e0, he⟩ := Prod.mk.inj he
          obtain ⟨e1, e2⟩ := Prod.mk.inj he
          have f0 : wc_Nd cI cG cZ ad (k0) (x0_0, y0_1, x0_2, y0_3, x0_4, x0_5) w0 := by rw [← e1, ← e2]; exact bk0_0
          exact W.iret (v := p8) hx hb hr (fun t ht hW => ⟨⟨p8, w0, rfl, ⟨e0, ⟨f0, fr⟩⟩, by rw [ht]; exact hP, hD⟩, hS.F ht⟩) hS.2.2 d_Nd_count_90
        · rw [if_neg c7] at hf
          by_cases c9 : a1 = 4
          · rw [if_pos c9] at hf
            refine lv_tableIn (tgt := 91) (off := 90) hx hb d_Nd_count_1 (by rw [c9]; decide) (by rw [c9]; decide) (by rw [c9]; rfl) (by decide) ?_
            refine lv_aload_n hx hb d_Nd_count_91 rfl (lv_at hl 0 rfl) ?_
            refine va_get (D := D) (ci := 6) (v := .ref (ad (k0 + 35))) (C := R_Nd) (T := F_Nd) (N := 6) hx hb hts i_Nd hown hK hP (k0) mk0_0 rfl 1 (by decide) (hts _ iw_157) (fun _ h9 => h9) rfl d_Nd_count_92 ?_
            obtain ⟨p10, hp10, hf⟩ := g_bd hf
            refine hw_ci0 (va_runV (As := []) (rest := []) ⟨hx, hb, hml, hown, hts⟩ (c_Gr_seenInSearches l D cI cG cZ ad B w0 N (k0 + 35) x0_1.1 x0_1.2.1 x0_1.2.2.1 x0_1.2.2.2.1 x0_1.2.2.2.2.1 x0_1.2.2.2.2.2.1 x0_1.2.2.2.2.2.2 p10 hp10 bk0_35) (cwV 0 hts (hw_gV iw_528 gy_Gr_seenInSearches) rfl rfl rfl (by decide +kernel) ⟨Nat.le_of_ble_eq_true rfl, Nat.le_of_ble_eq_true rfl⟩) ⟨hw_blind, va_recv hK hP (ci := 2) (q0 := k0 + 35) rfl bk0_35.1, hw_go hP hD hK hN⟩ rfl rfl hl.1 rfl (lv_room (Nat.le_of_ble_eq_true rfl)) d_Nd_count_95 ⟨Nat.zero_le _, Nat.zero_le _⟩) hS (fun H locs hP hD hS => ?_)
            have bk0_0 : wc_Nd cI cG cZ ad (k0) (x0_0, x0_1, x0_2, x0_3, x0_4, x0_5) w0 := ⟨mk0_0, bk0_1, bk0_35, bk0_55, bk0_58, mk0_61, mk0_62⟩
            have he := Option.some.inj hf
            obtain ⟨e0, he⟩ := Prod.mk.inj he
            obtain ⟨e1, e2⟩ := Prod.mk.inj he
            have f0 : wc_Nd cI cG cZ ad (k0) (x0_0, y0_1, x0_2, y0_3, x0_4, x0_5) w0 := by rw [← e1, ← e2]; exact bk0_0
            exact W.iret (v := p10) hx hb hr (fun t ht hW => ⟨⟨p10, w0, rfl, ⟨e0, ⟨f0, fr⟩⟩, by rw [ht]; exact hP, hD⟩, hS.F ht⟩) hS.2.2 d_Nd_count_98
          · rw [if_neg c9] at hf
            by_cases c11 : a1 = 5
            · rw [if_pos c11] at hf
              refine lv_tableIn (tgt := 99) (off := 98) hx hb d_Nd_count_1 (by rw [c11]; decide) (by rw [c11]; decide) (by rw [c11]; rfl) (by decide) ?_
              refine lv_aload_n hx hb d_Nd_count_99 rfl (lv_at hl 0 rfl) ?_
              refine va_get (D := D) (ci := 6) (v := .ref (ad (k0 + 35))) (C := R_Nd) (T := F_Nd) (N := 6) hx hb hts i_Nd hown hK hP (k0) mk0_0 rfl 1 (by decide) (hts _ iw_157) (fun _ h9 => h9) rfl d_Nd_count_100 ?_
              obtain ⟨p12, hp12, hf⟩ := g_bd hf
              refine hw_ci0 (va_runV (As := []) (rest := []) ⟨hx, hb, hml, hown, hts⟩ (c_Gr_seenInEntering l D cI cG cZ ad B w0 N (k0 + 35) x0_1.1 x0_1.2.1 x0_1.2.2.1 x0_1.2.2.2.1 x0_1.2.2.2.2.1 x0_1.2.2.2.2.2.1 x0_1.2.2.2.2.2.2 p12 hp12 bk0_35) (cwV 0 hts (hw_gV iw_532 gy_Gr_seenInEntering) rfl rfl rfl (by decide +kernel) ⟨Nat.le_of_ble_eq_true rfl, Nat.le_of_ble_eq_true rfl⟩) ⟨hw_blind, va_recv hK hP (ci := 2) (q0 := k0 + 35) rfl bk0_35.1, hw_go hP hD hK hN⟩ rfl rfl hl.1 rfl (lv_room (Nat.le_of_ble_eq_true rfl)) d_Nd_count_103 ⟨Nat.zero_le _, Nat.zero_le _⟩) hS (fun H locs hP hD hS => ?_)
              have bk0_0 : wc_Nd cI cG cZ ad (k0) (x0_0, x0_1, x0_2, x0_3, x0_4, x0_5) w0 := ⟨mk0_0, bk0_1, bk0_35, bk0_55, bk0_58, mk0_61, mk0_62⟩
              have he := Option.some.inj hf
              obtain ⟨e0, he⟩ := Prod.mk.inj he
              obtain ⟨e1, e2⟩ := Prod.mk.inj he
              have f0 : wc_Nd cI cG cZ ad (k0) (x0_0, y0_1, x0_2, y0_3, x0_4, x0_5) w0 := by rw [← e1, ← e2]; exact bk0_0
              exact W.iret (v := p12) hx hb hr (fun t ht hW => ⟨⟨p12, w0, rfl, ⟨e0, ⟨f0, fr⟩⟩, by rw [ht]; exact hP, hD⟩, hS.F ht⟩) hS.2.2 d_Nd_count_106
            · rw [if_neg c11] at hf
              by_cases c13 : a1 = 6
              · rw [if_pos c13] at hf
                refine lv_tableIn (tgt := 107) (off := 106) hx hb d_Nd_count_1 (by rw [c13]; decide) (by rw [c13]; decide) (by rw [c13]; rfl) (by decide) ?_
                refine lv_aload_n hx hb d_Nd_count_107 rfl (lv_at hl 0 rfl) ?_
                refine va_get (D := D) (ci := 6) (v := .ref (ad (k0 + 55))) (C := R_Nd) (T := F_Nd) (N := 6) hx hb hts i_Nd hown hK hP (k0) mk0_0 rfl 2 (by decide) (hts _ iw_158) (fun _ h9 => h9) rfl d_Nd_count_108 ?_
                obtain ⟨p14, hp14, hf⟩ := g_bd hf
                refine hw_ci0 (va_runV (As := []) (rest := []) ⟨hx, hb, hml, hown, hts⟩ (c_Rk_size l D cI cG cZ ad B w0 N (k0 + 55) x0_2.1 x0_2.2.1 x0_2.2.2.1 x0_2.2.2.2.1 x0_2.2.2.2.2 p14 hp14 bk0_55) (cwV 0 hts (hw_gV iw_427 gy_Rk_size) rfl rfl rfl (by decide +kernel) ⟨Nat.le_of_ble_eq_true rfl, Nat.le_of_ble_eq_true rfl⟩) ⟨hw_blind, va_recv hK hP (ci := 4) (q0 := k0 + 55) rfl bk0_55.1, hw_go hP hD hK hN⟩ rfl rfl hl.1 rfl (lv_room (Nat.le_of_ble_eq_true rfl)) d_Nd_count_111 ⟨Nat.zero_le _, Nat.zero_le _⟩) hS (fun H locs hP hD hS => ?_)
                have bk0_0 : wc_Nd cI cG cZ ad (k0) (x0_0, x0_1, x0_2, x0_3, x0_4, x0_5) w0 := ⟨mk0_0, bk0_1, bk0_35, bk0_55, bk0_58, mk0_61, mk0_62⟩
                have he := Option.some.inj hf
                obtain ⟨e0, he⟩ := Prod.mk.inj he
                obtain ⟨e1, e2⟩ := Prod.mk.inj he
                have f0 : wc_Nd cI cG cZ ad (k0) (x0_0, y0_1, x0_2, y0_3, x0_4, x0_5) w0 := by rw [← e1, ← e2]; exact bk0_0
                exact W.iret (v := p14) hx hb hr (fun t ht hW => ⟨⟨p14, w0, rfl, ⟨e0, ⟨f0, fr⟩⟩, by rw [ht]; exact hP, hD⟩, hS.F ht⟩) hS.2.2 d_Nd_count_114
              · rw [if_neg c13] at hf
                by_cases c15 : a1 = 7
                · rw [if_pos c15] at hf
                  refine lv_tableIn (tgt := 115) (off := 114) hx hb d_Nd_count_1 (by rw [c15]; decide) (by rw [c15]; decide) (by rw [c15]; rfl) (by decide) ?_
                  refine lv_aload_n hx hb d_Nd_count_115 rfl (lv_at hl 0 rfl) ?_
                  have bk0_0 : wc_Nd cI cG cZ ad (k0) (x0_0, x0_1, x0_2, x0_3, x0_4, x0_5) w0 := ⟨mk0_0, bk0_1, bk0_35, bk0_55, bk0_58, mk0_61, mk0_62⟩
                  obtain ⟨p16, hp16, hf⟩ := g_bd hf
                  refine hw_ci (va_runV (As := []) (rest := []) ⟨hx, hb, hml, hown, hts⟩ (c_Nd_foundAmongNearest l D cI cG cZ ad B w0 N k0 x0_0 x0_1 x0_2 x0_3 x0_4 x0_5 p16.1 p16.2 hp16 bk0_0) (cwV 0 hts (hw_gV iw_536 gy_Nd_foundAmongNearest) rfl rfl rfl (by decide +kernel) ⟨Nat.le_of_ble_eq_true rfl, Nat.le_of_ble_eq_true rfl⟩) ⟨hw_blind, va_recv hK hP (ci := 6) (q0 := k0) rfl bk0_0.1, hw_go hP hD hK hN⟩ rfl rfl hl.1 rfl (lv_room (Nat.le_of_ble_eq_true rfl)) d_Nd_count_116 ⟨Nat.zero_le _, Nat.zero_le _⟩) hS (fun w17 H locs hP hD hS hpp => ?_)
                  obtain ⟨q0, frc⟩ := hpp
                  have bk0_0 : wc_Nd cI cG cZ ad (k0) (x0_0, x0_1, x0_2, p16.2, x0_4, x0_5) w17 := q0
                  have fr : ∀ j : Nat, (j < k0 ∨ k0 + 63 ≤ j) → w17[j]? = w0[j]? := fun j o0 => (frc j (by omega)).trans (fr j o0)
                  have he := Option.some.inj hf
                  obtain ⟨e0, he⟩ := Prod.mk.inj he
                  obtain ⟨e1, e2⟩ := Prod.mk.inj he
                  have f0 : wc_Nd cI cG cZ ad (k0) (x0_0, y0_1, x0_2, y0_3, x0_4, x0_5) w17 := by rw [← e1, ← e2]; exact bk0_0
                  exact W.iret (v := p16.1) hx hb hr (fun t ht hW => ⟨⟨p16.1, w17, rfl, ⟨e0, ⟨f0, fr⟩⟩, by rw [ht]; exact hP, hD⟩, hS.F ht⟩) hS.2.2 d_Nd_count_119
                · rw [if_neg c15] at hf
                  by_cases c18 : a1 = 8
                  · rw [if_pos c18] at hf
                    refine lv_tableIn (tgt := 120) (off := 119) hx hb d_Nd_count_1 (by rw [c18]; decide) (by rw [c18]; decide) (by rw [c18]; rfl) (by decide) ?_
                    refine lv_aload_n hx hb d_Nd_count_120 rfl (lv_at hl 0 rfl) ?_
                    refine va_get (D := D) (ci := 6) (v := .ref (ad (k0 + 35))) (C := R_Nd) (T := F_Nd) (N := 6) hx hb hts i_Nd hown hK hP (k0) mk0_0 rfl 1 (by decide) (hts _ iw_157) (fun _ h9 => h9) rfl d_Nd_count_121 ?_
                    obtain ⟨mk0_35, bk0_36, bk0_42, bk0_50, bk0_52⟩ := id bk0_35
                    have mk0_35 : w0[k0 + 35]? = some (ad (k0 + 35), .inr (2, [.ref (ad (k0 + 36)), .ref (ad (k0 + 42)), .ref (ad (k0 + 50)), .ref (ad (k0 + 52)), .int x0_1.2.2.2.2.1, .int x0_1.2.2.2.2.2.1, .int x0_1.2.2.2.2.2.2])) := mk0_35
                    have bk0_36 : wc_Li cI cG cZ ad (k0 + 36) x0_1.1 w0 := bk0_36
                    have bk0_42 : wc_Wa cI cG cZ ad (k0 + 42) x0_1.2.1 w0 := bk0_42
                    have bk0_50 : wc_Ch cI cG cZ ad (k0 + 50) x0_1.2.2.1 w0 := bk0_50
                    have bk0_52 : wc_Rk cI cG cZ ad (k0 + 52) x0_1.2.2.2.1 w0 := bk0_52
                    refine va_getN (D := D) (ci := 2) (v := .ref (ad (k0 + 36))) (C := R_Gr) (T := F_Gr) (N := 7) hx hb hts i_Gr hown hK hP (k0 + 35) mk0_35 rfl 0 (by decide) (va_Nw.use rfl (hN _ in_132)) (fun _ h9 => h9) rfl d_Nd_count_124 ?_
                    obtain ⟨p19, hp19, hf⟩ := g_bd hf
                    refine hw_ci0 (va_runV (As := []) (rest := []) ⟨hx, hb, hml, hown, hts⟩ (c_Li_oneSidedPairs l D cI cG cZ ad B w0 N (k0 + 36) x0_1.1.1 x0_1.1.2.1 x0_1.1.2.2.1 x0_1.1.2.2.2.1 x0_1.1.2.2.2.2.1 x0_1.1.2.2.2.2.2 p19 hp19 bk0_36) (cwV 0 hts (hw_gV iw_544 gy_Li_oneSidedPairs) rfl rfl rfl (by decide +kernel) ⟨Nat.le_of_ble_eq_true rfl, Nat.le_of_ble_eq_true rfl⟩) ⟨hw_blind, va_recv hK hP (ci := 3) (q0 := k0 + 36) rfl bk0_36.1, hw_go hP hD hK hN⟩ rfl rfl hl.1 rfl (lv_room (Nat.le_of_ble_eq_true rfl)) d_Nd_count_127 ⟨Nat.zero_le _, Nat.zero_le _⟩) hS (fun H locs hP hD hS => ?_)
                    have bk0_35 : wc_Gr cI cG cZ ad (k0 + 35) x0_1 w0 := ⟨mk0_35, bk0_36, bk0_42, bk0_50, bk0_52⟩
                    have bk0_0 : wc_Nd cI cG cZ ad (k0) (x0_0, x0_1, x0_2, x0_3, x0_4, x0_5) w0 := ⟨mk0_0, bk0_1, bk0_35, bk0_55, bk0_58, mk0_61, mk0_62⟩
                    have he := Option.some.inj hf
                    obtain ⟨e0, he⟩ := Prod.mk.inj he
                    obtain ⟨e1, e2⟩ := Prod.mk.inj he
                    have f0 : wc_Nd cI cG cZ ad (k0) (x0_0, y0_1, x0_2, y0_3, x0_4, x0_5) w0 := by rw [← e1, ← e2]; exact bk0_0
                    exact W.iret (v := p19) hx hb hr (fun t ht hW => ⟨⟨p19, w0, rfl, ⟨e0, ⟨f0, fr⟩⟩, by rw [ht]; exact hP, hD⟩, hS.F ht⟩) hS.2.2 d_Nd_count_130
                  · rw [if_neg c18] at hf
                    by_cases c20 : a1 = 9
                    · rw [if_pos c20] at hf
                      refine lv_tableIn (tgt := 131) (off := 130) hx hb d_Nd_count_1 (by rw [c20]; decide) (by rw [c20]; decide) (by rw [c20]; rfl) (by decide) ?_
                      refine lv_aload_n hx hb d_Nd_count_131 rfl (lv_at hl 0 rfl) ?_
                      refine va_get (D := D) (ci := 6) (v := .ref (ad (k0 + 35))) (C := R_Nd) (T := F_Nd) (N := 6) hx hb hts i_Nd hown hK hP (k0) mk0_0 rfl 1 (by decide) (hts _ iw_157) (fun _ h9 => h9) rfl d_Nd_count_132 ?_
                      obtain ⟨mk0_35, bk0_36, bk0_42, bk0_50, bk0_52⟩ := id bk0_35
                      have mk0_35 : w0[k0 + 35]? = some (ad (k0 + 35), .inr (2, [.ref (ad (k0 + 36)), .ref (ad (k0 + 42)), .ref (ad (k0 + 50)), .ref (ad (k0 + 52)), .int x0_1.2.2.2.2.1, .int x0_1.2.2.2.2.2.1, .int x0_1.2.2.2.2.2.2])) := mk0_35
                      have bk0_36 : wc_Li cI cG cZ ad (k0 + 36) x0_1.1 w0 := bk0_36
                      have bk0_42 : wc_Wa cI cG cZ ad (k0 + 42) x0_1.2.1 w0 := bk0_42
                      have bk0_50 : wc_Ch cI cG cZ ad (k0 + 50) x0_1.2.2.1 w0 := bk0_50
                      have bk0_52 : wc_Rk cI cG cZ ad (k0 + 52) x0_1.2.2.2.1 w0 := bk0_52
                      refine va_getN (D := D) (ci := 2) (v := .ref (ad (k0 + 36))) (C := R_Gr) (T := F_Gr) (N := 7) hx hb hts i_Gr hown hK hP (k0 + 35) mk0_35 rfl 0 (by decide) (va_Nw.use rfl (hN _ in_132)) (fun _ h9 => h9) rfl d_Nd_count_135 ?_
                      refine lv_aload_n hx hb d_Nd_count_138 rfl (lv_at hl 0 rfl) ?_
                      refine va_get (D := D) (ci := 6) (v := .ref (ad (k0 + 35))) (C := R_Nd) (T := F_Nd) (N := 6) hx hb hts i_Nd hown hK hP (k0) mk0_0 rfl 1 (by decide) (hts _ iw_157) (fun _ h9 => h9) rfl d_Nd_count_139 ?_
                      have bk0_35 : wc_Gr cI cG cZ ad (k0 + 35) x0_1 w0 := ⟨mk0_35, bk0_36, bk0_42, bk0_50, bk0_52⟩
                      obtain ⟨p21, hp21, hf⟩ := g_bd hf
                      refine hw_ci0 (va_runV (As := []) (rest := [.ref (ad (k0 + 36))]) ⟨hx, hb, hml, hown, hts⟩ (c_Gr_entry l D cI cG cZ ad B w0 N (k0 + 35) x0_1.1 x0_1.2.1 x0_1.2.2.1 x0_1.2.2.2.1 x0_1.2.2.2.2.1 x0_1.2.2.2.2.2.1 x0_1.2.2.2.2.2.2 p21 hp21 bk0_35) (cwV 0 hts (hw_gV iw_523 gy_Gr_entry) rfl rfl rfl (by decide +kernel) ⟨Nat.le_of_ble_eq_true rfl, Nat.le_of_ble_eq_true rfl⟩) ⟨hw_blind, va_recv hK hP (ci := 2) (q0 := k0 + 35) rfl bk0_35.1, hw_go hP hD hK hN⟩ rfl rfl hl.1 rfl (lv_room (Nat.le_of_ble_eq_true rfl)) d_Nd_count_142 ⟨Nat.zero_le _, Nat.zero_le _⟩) hS (fun H locs hP hD hS => ?_)
                      obtain ⟨mk0_35, bk0_36, bk0_42, bk0_50, bk0_52⟩ := id bk0_35
                      have mk0_35 : w0[k0 + 35]? = some (ad (k0 + 35), .inr (2, [.ref (ad (k0 + 36)), .ref (ad (k0 + 42)), .ref (ad (k0 + 50)), .ref (ad (k0 + 52)), .int x0_1.2.2.2.2.1, .int x0_1.2.2.2.2.2.1, .int x0_1.2.2.2.2.2.2])) := mk0_35
                      have bk0_36 : wc_Li cI cG cZ ad (k0 + 36) x0_1.1 w0 := bk0_36
                      have bk0_42 : wc_Wa cI cG cZ ad (k0 + 42) x0_1.2.1 w0 := bk0_42
                      have bk0_50 : wc_Ch cI cG cZ ad (k0 + 50) x0_1.2.2.1 w0 := bk0_50
                      have bk0_52 : wc_Rk cI cG cZ ad (k0 + 52) x0_1.2.2.2.1 w0 := bk0_52
                      obtain ⟨p22, hp22, hf⟩ := g_bd hf
                      refine hw_ci (va_runV (As := [.int p21]) (rest := []) ⟨hx, hb, hml, hown, hts⟩ (c_Li_reachedFrom l D cI cG cZ ad B w0 N (k0 + 36) x0_1.1.1 x0_1.1.2.1 x0_1.1.2.2.1 x0_1.1.2.2.2.1 x0_1.1.2.2.2.2.1 x0_1.1.2.2.2.2.2 p21 p22.1 p22.2 hp22 bk0_36) (cwV 1 hts (hw_gV iw_558 gy_Li_reachedFrom) rfl rfl rfl (by decide +kernel) ⟨Nat.le_of_ble_eq_true rfl, Nat.le_of_ble_eq_true rfl⟩) ⟨hw_blind, va_recv hK hP (ci := 3) (q0 := k0 + 36) rfl bk0_36.1, hw_go hP hD hK hN⟩ rfl rfl hl.1 rfl (lv_room (Nat.le_of_ble_eq_true rfl)) d_Nd_count_145 ⟨Nat.zero_le _, Nat.zero_le _⟩) hS (fun w23 H locs hP hD hS hpp => ?_)
                      obtain ⟨q0, frc⟩ := hpp
                      have bk0_36 : wc_Li cI cG cZ ad (k0 + 36) (x0_1.1.1, x0_1.1.2.1, x0_1.1.2.2.1, x0_1.1.2.2.2.1, p22.2, x0_1.1.2.2.2.2.2) w23 := q0
                      have mk0_0 : w23[k0]? = some (ad k0, .inr (6, [.ref (ad (k0 + 1)), .ref (ad (k0 + 35)), .ref (ad (k0 + 55)), .ref (ad (k0 + 58)), .ref (ad (k0 + 61)), .ref (ad (k0 + 62))])) := (frc _ (by omega)).trans mk0_0
                      have bk0_1 : wc_Do cI cG cZ ad (k0 + 1) x0_0 w23 := bk0_1.fr (fun j h1 h2 => frc j (by omega))
                      have bk0_55 : wc_Rk cI cG cZ ad (k0 + 55) x0_2 w23 := bk0_55.fr (fun j h1 h2 => frc j (by omega))
                      have bk0_58 : wc_Rk cI cG cZ ad (k0 + 58) x0_3 w23 := bk0_58.fr (fun j h1 h2 => frc j (by omega))
                      have mk0_61 : w23[k0 + 61]? = some (ad (k0 + 61), .inl (cI, 4, .inl x0_4)) := (frc _ (by omega)).trans mk0_61
                      have mk0_62 : w23[k0 + 62]? = some (ad (k0 + 62), .inl (cI, 30, .inl x0_5)) := (frc _ (by omega)).trans mk0_62
                      have mk0_35 : w23[k0 + 35]? = some (ad (k0 + 35), .inr (2, [.ref (ad (k0 + 36)), .ref (ad (k0 + 42)), .ref (ad (k0 + 50)), .ref (ad (k0 + 52)), .int x0_1.2.2.2.2.1, .int x0_1.2.2.2.2.2.1, .int x0_1.2.2.2.2.2.2])) := (frc _ (by omega)).trans mk0_35
                      have bk0_42 : wc_Wa cI cG cZ ad (k0 + 42) x0_1.2.1 w23 := bk0_42.fr (fun j h1 h2 => frc j (by omega))
                      have bk0_50 : wc_Ch cI cG cZ ad (k0 + 50) x0_1.2.2.1 w23 := bk0_50.fr (fun j h1 h2 => frc j (by omega))
                      have bk0_52 : wc_Rk cI cG cZ ad (k0 + 52) x0_1.2.2.2.1 w23 := bk0_52.fr (fun j h1 h2 => frc j (by omega))
                      have fr : ∀ j : Nat, (j < k0 ∨ k0 + 63 ≤ j) → w23[j]? = w0[j]? := fun j o0 => (frc j (by omega)).trans (fr j o0)
                      have bk0_35 : wc_Gr cI cG cZ ad (k0 + 35) ((x0_1.1.1, x0_1.1.2.1, x0_1.1.2.2.1, x0_1.1.2.2.2.1, p22.2, x0_1.1.2.2.2.2.2), x0_1.2.1, x0_1.2.2.1, x0_1.2.2.2.1, x0_1.2.2.2.2.1, x0_1.2.2.2.2.2.1, x0_1.2.2.2.2.2.2) w23 := ⟨mk0_35, bk0_36, bk0_42, bk0_50, bk0_52⟩
                      have bk0_0 : wc_Nd cI cG cZ ad (k0) (x0_0, ((x0_1.1.1, x0_1.1.2.1, x0_1.1.2.2.1, x0_1.1.2.2.2.1, p22.2, x0_1.1.2.2.2.2.2), x0_1.2.1, x0_1.2.2.1, x0_1.2.2.2.1, x0_1.2.2.2.2.1, x0_1.2.2.2.2.2.1, x0_1.2.2.2.2.2.2), x0_2, x0_3, x0_4, x0_5) w23 := ⟨mk0_0, bk0_1, bk0_35, bk0_55, bk0_58, mk0_61, mk0_62⟩
                      have he := Option.some.inj hf
                      obtain ⟨e0, he⟩ := Prod.mk.inj he
                      obtain ⟨e1, e2⟩ := Prod.mk.inj he
                      have f0 : wc_Nd cI cG cZ ad (k0) (x0_0, y0_1, x0_2, y0_3, x0_4, x0_5) w23 := by rw [← e1, ← e2]; exact bk0_0
                      exact W.iret (v := p22.1) hx hb hr (fun t ht hW => ⟨⟨p22.1, w23, rfl, ⟨e0, ⟨f0, fr⟩⟩, by rw [ht]; exact hP, hD⟩, hS.F ht⟩) hS.2.2 d_Nd_count_148
                    · rw [if_neg c20] at hf
                      refine lv_tableOut (tgt := 149) hx hb d_Nd_count_1 (by have a0 := lv_neT c1 (a := 0) rfl; have a1 := lv_neT c3 (a := 1) rfl; have a2 := lv_neT c5 (a := 2) rfl; have a3 := lv_neT c7 (a := 3) rfl; have a4 := lv_neT c9 (a := 4) rfl; have a5 := lv_neT c11 (a := 5) rfl; have a6 := lv_neT c13 (a := 6) rfl; have a7 := lv_neT c15 (a := 7) rfl; have a8 := lv_neT c18 (a := 8) rfl; have a9 := lv_neT c20 (a := 9) rfl; omega) (by decide) ?_
                      refine lv_iconst (v := (-1)) hx hb d_Nd_count_149 (by decide) ?_
                      have bk0_0 : wc_Nd cI cG cZ ad (k0) (x0_0, x0_1, x0_2, x0_3, x0_4, x0_5) w0 := ⟨mk0_0, bk0_1, bk0_35, bk0_55, bk0_58, mk0_61, mk0_62⟩
                      have he := Option.some.inj hf
                      obtain ⟨e0, he⟩ := Prod.mk.inj he
                      obtain ⟨e1, e2⟩ := Prod.mk.inj he
                      have f0 : wc_Nd cI cG cZ ad (k0) (x0_0, y0_1, x0_2, y0_3, x0_4, x0_5) w0 := by rw [← e1, ← e2]; exact bk0_0
                      exact W.iret (v := (-1)) hx hb hr (fun t ht hW => ⟨⟨(-1), w0, rfl, ⟨e0, ⟨f0, fr⟩⟩, by rw [ht]; exact hP, hD⟩, hS.F ht⟩) hS.2.2 d_Nd_count_150
