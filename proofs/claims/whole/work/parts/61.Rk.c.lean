set_option maxHeartbeats 4000000 in
set_option maxRecDepth 100000 in
theorem c_Rk_start (l : Launch) (D : va_G) (cI cG cZ : ClassId) (ad : Nat → Nat) (B : Nat) (w0 : va_W) (N : Nat) (k0 : Nat) (x0_0 : (Nat → Int32)) (x0_1 : (Nat → Int32)) (x0_2 : Int32) (x0_3 : Int32) (x0_4 : Int32) (a1 : Int32) (a2 : Int32) (y0_2 : Int32) (y0_3 : Int32) (y0_4 : Int32) (hf : f_Rk_start N a1 a2 = some (y0_2, y0_3, y0_4)) (bk0_0 : wc_Rk cI cG cZ ad k0 (x0_0, x0_1, x0_2, x0_3, x0_4) w0) : Met l y_Rk_start (.code y_Rk_start b_Rk_start 3 none :: hw_G) ({ frames := 1, cells := 0, slots := 0, locals := 21 } : Room) (va_Pc [.ref (ad k0), .int a1, .int a2] (hw_U D cI cG cZ B w0)) (va_Qv (fun (w1 : va_W) => wc_Rk cI cG cZ ad k0 (x0_0, x0_1, y0_2, y0_3, y0_4) w1 ∧ (∀ j : Nat, (j < k0 ∨ k0 + 3 ≤ j) → w1[j]? = w0[j]?)) (hw_B D B) (fun q : Nat => B ≤ q)) 0 0 (fun q : Nat => B ≤ q) := by
  refine Met.ofW (cc := b_Rk_start) (maxL := 3) (ret := none) (by decide) rfl ?_
  intro p e s m args below meth c s₁ Bd hml hv
  obtain ⟨rfl, hP, hD, hK, hN⟩ := hv
  have C0 : hw_C p s m meth c b_Rk_start 3 _ R_Rk none := ⟨Bd.exec, Bd.bytes, Bd.returns, hml, findClass_of_methodNamed Bd.named, fun w h => atoms_spec (ws := .code y_Rk_start b_Rk_start 3 none :: hw_G) Bd.pre w (List.mem_cons_of_mem _ h), Bd.notSynchronized⟩
  obtain ⟨hx, hb, hr, -, hown, hts, hlocks⟩ := id C0
  have hS : va_S (fun q : Nat => B ≤ q) s.heap s.heap [] := va_S.rf
  have fr : ∀ j : Nat, (j < k0 ∨ k0 + 3 ≤ j) → w0[j]? = w0[j]? := fun j _ => rfl
  have hl := lv_entry ([.ref (ad k0), .int a1, .int a2]) (n := 3) (Nat.le_of_ble_eq_true rfl)
  rw [lg_entry_eq]
  generalize (lg_sl ([.ref (ad k0), .int a1, .int a2]) ++ List.replicate (3 - (lg_sl ([.ref (ad k0), .int a1, .int a2])).length) Slot.unset).toArray = ls at hl ⊢
  have hl : lv_has ls 3 [(0, .ref (ad k0)), (1, .int a1), (2, .int a2)] := hl
  unfold f_Rk_start at hf
  obtain ⟨mk0_0, mk0_1, mk0_2⟩ := id bk0_0
  have mk0_0 : w0[k0]? = some (ad k0, .inr (4, [.ref (ad (k0 + 1)), .ref (ad (k0 + 2)), .int x0_2, .int x0_3, .int x0_4])) := mk0_0
  have mk0_1 : w0[k0 + 1]? = some (ad (k0 + 1), .inl (cI, 30, .inl x0_0)) := mk0_1
  have mk0_2 : w0[k0 + 2]? = some (ad (k0 + 2), .inl (cI, 30, .inl x0_1)) := mk0_2
  refine lv_aload_n hx hb d_Rk_start_0 rfl (lv_at hl 0 rfl) ?_
  refine lv_iconst (v := 0) hx hb d_Rk_start_1 (by decide) ?_
  refine va_put (D := D) (ci := 4) (v := .int 0) (ty := .int) (C := R_Rk) (T := F_Rk) (N := 5) hx hb hts i_Rk t_Rk t_Rk_ok n_Rk hown hK hP hD hS (k0) mk0_0 rfl 2 (by decide) (hts _ iw_86) (fun _ h9 => h9) rfl (by decide +kernel) rfl rfl (Nat.le_of_ble_eq_true rfl) d_Rk_start_2 (fun H locs hP hD hS => ?_)
  obtain ⟨w1, hP, hD, hne, heq⟩ := hs_up hP hD mk0_0
  have mk0_0 : w1[k0]? = some (ad k0, .inr (4, [.ref (ad (k0 + 1)), .ref (ad (k0 + 2)), .int 0, .int x0_3, .int x0_4])) := heq
  have mk0_1 : w1[k0 + 1]? = some (ad (k0 + 1), .inl (cI, 30, .inl x0_0)) := (hne _ (by omega)).trans mk0_1
  have mk0_2 : w1[k0 + 2]? = some (ad (k0 + 2), .inl (cI, 30, .inl x0_1)) := (hne _ (by omega)).trans mk0_2
  have fr : ∀ j : Nat, (j < k0 ∨ k0 + 3 ≤ j) → w1[j]? = w0[j]? := fun j o0 => (hne j (by omega)).trans (fr j o0)
  refine lv_aload_n hx hb d_Rk_start_5 rfl (lv_at hl 0 rfl) ?_
  refine lv_iload_n hx hb d_Rk_start_6 rfl (lv_at hl 1 rfl) ?_
  refine lv_bipush (v := 30) hx hb d_Rk_start_7 (by decide) ?_
  refine va_mmin hx hb (hml.trans hl.1.symm) hown (hts _ iw_234) (hts _ iw_min_static) (hts _ iw_math_init) (hts _ iw_min_code) (Nat.le_of_ble_eq_true rfl) (Nat.le_of_ble_eq_true rfl) (Nat.zero_le _) (Nat.zero_le _) d_Rk_start_9 ?_
  refine va_put (D := D) (ci := 4) (v := .int (if 30 < a1 then 30 else a1)) (ty := .int) (C := R_Rk) (T := F_Rk) (N := 5) hx hb hts i_Rk t_Rk t_Rk_ok n_Rk hown hK hP hD hS (k0) mk0_0 rfl 3 (by decide) (hts _ iw_87) (fun _ h9 => h9) rfl (by decide +kernel) rfl rfl (Nat.le_of_ble_eq_true rfl) d_Rk_start_12 (fun H locs hP hD hS => ?_)
  obtain ⟨w2, hP, hD, hne, heq⟩ := hs_up hP hD mk0_0
  have mk0_0 : w2[k0]? = some (ad k0, .inr (4, [.ref (ad (k0 + 1)), .ref (ad (k0 + 2)), .int 0, .int (if 30 < a1 then 30 else a1), .int x0_4])) := heq
  have mk0_1 : w2[k0 + 1]? = some (ad (k0 + 1), .inl (cI, 30, .inl x0_0)) := (hne _ (by omega)).trans mk0_1
  have mk0_2 : w2[k0 + 2]? = some (ad (k0 + 2), .inl (cI, 30, .inl x0_1)) := (hne _ (by omega)).trans mk0_2
  have fr : ∀ j : Nat, (j < k0 ∨ k0 + 3 ≤ j) → w2[j]? = w0[j]? := fun j o0 => (hne j (by omega)).trans (fr j o0)
  refine lv_aload_n hx hb d_Rk_start_15 rfl (lv_at hl 0 rfl) ?_
  refine lv_iload_n hx hb d_Rk_start_16 rfl (lv_at hl 2 rfl) ?_
  refine lv_iconst (v := 1) hx hb d_Rk_start_17 (by decide) ?_
  refine lv_icmp_ne (tgt := 25) hx hb d_Rk_start_18 (by decide) (fun c3 => ?_) (fun c3 => ?_)
  · rw [if_neg c3] at hf
    refine lv_iconst (v := 0) hx hb d_Rk_start_25 (by decide) ?_
    refine va_put (D := D) (ci := 4) (v := .int 0) (ty := .boolean) (C := R_Rk) (T := F_Rk) (N := 5) hx hb hts i_Rk t_Rk t_Rk_ok n_Rk hown hK hP hD hS (k0) mk0_0 rfl 4 (by decide) (hts _ iw_88) (fun _ h9 => h9) rfl (by decide +kernel) (by decide) rfl (Nat.le_of_ble_eq_true rfl) d_Rk_start_26 (fun H locs hP hD hS => ?_)
    obtain ⟨w4, hP, hD, hne, heq⟩ := hs_up hP hD mk0_0
    have mk0_0 : w4[k0]? = some (ad k0, .inr (4, [.ref (ad (k0 + 1)), .ref (ad (k0 + 2)), .int 0, .int (if 30 < a1 then 30 else a1), .int 0])) := heq
    have mk0_1 : w4[k0 + 1]? = some (ad (k0 + 1), .inl (cI, 30, .inl x0_0)) := (hne _ (by omega)).trans mk0_1
    have mk0_2 : w4[k0 + 2]? = some (ad (k0 + 2), .inl (cI, 30, .inl x0_1)) := (hne _ (by omega)).trans mk0_2
    have fr : ∀ j : Nat, (j < k0 ∨ k0 + 3 ≤ j) → w4[j]? = w0[j]? := fun j o0 => (hne j (by omega)).trans (fr j o0)
    have bk0_0 : wc_Rk cI cG cZ ad (k0) (x0_0, x0_1, 0, if 30 < a1 then 30 else a1, 0) w4 := ⟨mk0_0, mk0_1, mk0_2⟩
    have he := Option.some.inj hf
    obtain ⟨e0, he⟩ := Prod.mk.inj he
    obtain ⟨e1, e2⟩ := Prod.mk.inj he
    have f0 : wc_Rk cI cG cZ ad (k0) (x0_0, x0_1, y0_2, y0_3, y0_4) w4 := by rw [← e0, ← e1, ← e2]; exact bk0_0
    exact W.vret hx hb hr (fun t ht hW => ⟨⟨w4, rfl, ⟨f0, fr⟩, by rw [ht]; exact hP, hD⟩, hS.F ht⟩) hS.2.2 d_Rk_start_29
  · rw [if_pos c3] at hf
    refine lv_iconst (v := 1) hx hb d_Rk_start_21 (by decide) ?_
    refine lv_goto (tgt := 26) hx hb d_Rk_start_22 (by decide) ?_
    refine va_put (D := D) (ci := 4) (v := .int 1) (ty := .boolean) (C := R_Rk) (T := F_Rk) (N := 5) hx hb hts i_Rk t_Rk t_Rk_ok n_Rk hown hK hP hD hS (k0) mk0_0 rfl 4 (by decide) (hts _ iw_88) (fun _ h9 => h9) rfl (by decide +kernel) (by decide) rfl (Nat.le_of_ble_eq_true rfl) d_Rk_start_26 (fun H locs hP hD hS => ?_)
    obtain ⟨w5, hP, hD, hne, heq⟩ := hs_up hP hD mk0_0
    have mk0_0 : w5[k0]? = some (ad k0, .inr (4, [.ref (ad (k0 + 1)), .ref (ad (k0 + 2)), .int 0, .int (if 30 < a1 then 30 else a1), .int 1])) := heq
    have mk0_1 : w5[k0 + 1]? = some (ad (k0 + 1), .inl (cI, 30, .inl x0_0)) := (hne _ (by omega)).trans mk0_1
    have mk0_2 : w5[k0 + 2]? = some (ad (k0 + 2), .inl (cI, 30, .inl x0_1)) := (hne _ (by omega)).trans mk0_2
    have fr : ∀ j : Nat, (j < k0 ∨ k0 + 3 ≤ j) → w5[j]? = w0[j]? := fun j o0 => (hne j (by omega)).trans (fr j o0)
    have bk0_0 : wc_Rk cI cG cZ ad (k0) (x0_0, x0_1, 0, if 30 < a1 then 30 else a1, 1) w5 := ⟨mk0_0, mk0_1, mk0_2⟩
    have he := Option.some.inj hf
    obtain ⟨e0, he⟩ := Prod.mk.inj he
    obtain ⟨e1, e2⟩ := Prod.mk.inj he
    have f0 : wc_Rk cI cG cZ ad (k0) (x0_0, x0_1, y0_2, y0_3, y0_4) w5 := by rw [← e0, ← e1, ← e2]; exact bk0_0
    exact W.vret hx hb hr (fun t ht hW => ⟨⟨w5, rfl, ⟨f0, fr⟩, by rw [ht]; exact hP, hD⟩, hS.F ht⟩) hS.2.2 d_Rk_start_29
set_option maxHeartbeats 4000000 in
set_option maxRecDepth 100000 in
theorem c_Rk_isFull (l : Launch) (D : va_G) (cI cG cZ : ClassId) (ad : Nat → Nat) (B : Nat) (w0 : va_W) (N : Nat) (k0 : Nat) (x0_0 : (Nat → Int32)) (x0_1 : (Nat → Int32)) (x0_2 : Int32) (x0_3 : Int32) (x0_4 : Int32) (r : Int32) (hf : f_Rk_isFull N x0_2 x0_3 = some r) (bk0_0 : wc_Rk cI cG cZ ad k0 (x0_0, x0_1, x0_2, x0_3, x0_4) w0) : Met l y_Rk_isFull (.code y_Rk_isFull b_Rk_isFull 1 (some .boolean) :: hw_G) ({ frames := 0, cells := 0, slots := 0, locals := 0 } : Room) (va_Pc [.ref (ad k0)] (hw_U D cI cG cZ B w0)) (va_Qi (fun (r1 : Int32) (w1 : va_W) => r1 = r ∧ w1 = w0) (hw_B D B) (fun q : Nat => B ≤ q)) 0 0 (fun q : Nat => B ≤ q) := by
  refine Met.ofW (cc := b_Rk_isFull) (maxL := 1) (ret := (some .boolean)) (by decide) rfl ?_
  intro p e s m args below meth c s₁ Bd hml hv
  obtain ⟨rfl, hP, hD, hK, hN⟩ := hv
  have C0 : hw_C p s m meth c b_Rk_isFull 1 _ R_Rk (some .boolean) := ⟨Bd.exec, Bd.bytes, Bd.returns, hml, findClass_of_methodNamed Bd.named, fun w h => atoms_spec (ws := .code y_Rk_isFull b_Rk_isFull 1 (some .boolean) :: hw_G) Bd.pre w (List.mem_cons_of_mem _ h), Bd.notSynchronized⟩
  obtain ⟨hx, hb, hr, -, hown, hts, hlocks⟩ := id C0
  have hS : va_S (fun q : Nat => B ≤ q) s.heap s.heap [] := va_S.rf
  have fr : w0 = w0 := rfl
  have hl := lv_entry ([.ref (ad k0)]) (n := 1) (Nat.le_of_ble_eq_true rfl)
  rw [lg_entry_eq]
  generalize (lg_sl ([.ref (ad k0)]) ++ List.replicate (1 - (lg_sl ([.ref (ad k0)])).length) Slot.unset).toArray = ls at hl ⊢
  have hl : lv_has ls 1 [(0, .ref (ad k0))] := hl
  unfold f_Rk_isFull at hf
  obtain ⟨mk0_0, mk0_1, mk0_2⟩ := id bk0_0
  have mk0_0 : w0[k0]? = some (ad k0, .inr (4, [.ref (ad (k0 + 1)), .ref (ad (k0 + 2)), .int x0_2, .int x0_3, .int x0_4])) := mk0_0
  have mk0_1 : w0[k0 + 1]? = some (ad (k0 + 1), .inl (cI, 30, .inl x0_0)) := mk0_1
  have mk0_2 : w0[k0 + 2]? = some (ad (k0 + 2), .inl (cI, 30, .inl x0_1)) := mk0_2
  refine lv_aload_n hx hb d_Rk_isFull_0 rfl (lv_at hl 0 rfl) ?_
  refine va_get (D := D) (ci := 4) (v := .int x0_2) (C := R_Rk) (T := F_Rk) (N := 5) hx hb hts i_Rk hown hK hP (k0) mk0_0 rfl 2 (by decide) (hts _ iw_86) (fun _ h9 => h9) rfl d_Rk_isFull_1 ?_
  refine lv_aload_n hx hb d_Rk_isFull_4 rfl (lv_at hl 0 rfl) ?_
  refine va_get (D := D) (ci := 4) (v := .int x0_3) (C := R_Rk) (T := F_Rk) (N := 5) hx hb hts i_Rk hown hK hP (k0) mk0_0 rfl 3 (by decide) (hts _ iw_87) (fun _ h9 => h9) rfl d_Rk_isFull_5 ?_
  refine lv_icmp_lt (tgt := 15) hx hb d_Rk_isFull_8 (by decide) (fun c1 => ?_) (fun c1 => ?_)
  · rw [if_pos c1] at hf
    refine lv_iconst (v := 0) hx hb d_Rk_isFull_15 (by decide) ?_
    have bk0_0 : wc_Rk cI cG cZ ad (k0) (x0_0, x0_1, x0_2, x0_3, x0_4) w0 := ⟨mk0_0, mk0_1, mk0_2⟩
    have e0 := Option.some.inj hf
    exact W.zret (v := 0) hx hb hr (by decide) (fun t ht hW => ⟨⟨0, w0, rfl, ⟨e0, fr⟩, by rw [ht]; exact hP, hD⟩, hS.F ht⟩) hS.2.2 d_Rk_isFull_16
  · rw [if_neg c1] at hf
    refine lv_iconst (v := 1) hx hb d_Rk_isFull_11 (by decide) ?_
    refine lv_goto (tgt := 16) hx hb d_Rk_isFull_12 (by decide) ?_
    have bk0_0 : wc_Rk cI cG cZ ad (k0) (x0_0, x0_1, x0_2, x0_3, x0_4) w0 := ⟨mk0_0, mk0_1, mk0_2⟩
    have e0 := Option.some.inj hf
    exact W.zret (v := 1) hx hb hr (by decide) (fun t ht hW => ⟨⟨1, w0, rfl, ⟨e0, fr⟩, by rw [ht]; exact hP, hD⟩, hS.F ht⟩) hS.2.2 d_Rk_isFull_16
set_option maxHeartbeats 4000000 in
set_option maxRecDepth 100000 in
theorem c_Rk_precedes (l : Launch) (D : va_G) (cI cG cZ : ClassId) (ad : Nat → Nat) (B : Nat) (w0 : va_W) (N : Nat) (k0 : Nat) (x0_0 : (Nat → Int32)) (x0_1 : (Nat → Int32)) (x0_2 : Int32) (x0_3 : Int32) (x0_4 : Int32) (a1 : Int32) (a2 : Int32) (a3 : Int32) (a4 : Int32) (r : Int32) (hf : f_Rk_precedes N x0_4 a1 a2 a3 a4 = some r) (bk0_0 : wc_Rk cI cG cZ ad k0 (x0_0, x0_1, x0_2, x0_3, x0_4) w0) : Met l y_Rk_precedes (.code y_Rk_precedes b_Rk_precedes 5 (some .boolean) :: hw_G) ({ frames := 0, cells := 0, slots := 0, locals := 0 } : Room) (va_Pc [.ref (ad k0), .int a1, .int a2, .int a3, .int a4] (hw_U D cI cG cZ B w0)) (va_Qi (fun (r1 : Int32) (w1 : va_W) => r1 = r ∧ w1 = w0) (hw_B D B) (fun q : Nat => B ≤ q)) 0 0 (fun q : Nat => B ≤ q) := by
  refine Met.ofW (cc := b_Rk_precedes) (maxL := 5) (ret := (some .boolean)) (by decide) rfl ?_
  intro p e s m args below meth c s₁ Bd hml hv
  obtain ⟨rfl, hP, hD, hK, hN⟩ := hv
  have C0 : hw_C p s m meth c b_Rk_precedes 5 _ R_Rk (some .boolean) := ⟨Bd.exec, Bd.bytes, Bd.returns, hml, findClass_of_methodNamed Bd.named, fun w h => atoms_spec (ws := .code y_Rk_precedes b_Rk_precedes 5 (some .boolean) :: hw_G) Bd.pre w (List.mem_cons_of_mem _ h), Bd.notSynchronized⟩
  obtain ⟨hx, hb, hr, -, hown, hts, hlocks⟩ := id C0
  have hS : va_S (fun q : Nat => B ≤ q) s.heap s.heap [] := va_S.rf
  have fr : w0 = w0 := rfl
  have hl := lv_entry ([.ref (ad k0), .int a1, .int a2, .int a3, .int a4]) (n := 5) (Nat.le_of_ble_eq_true rfl)
  rw [lg_entry_eq]
  generalize (lg_sl ([.ref (ad k0), .int a1, .int a2, .int a3, .int a4]) ++ List.replicate (5 - (lg_sl ([.ref (ad k0), .int a1, .int a2, .int a3, .int a4])).length) Slot.unset).toArray = ls at hl ⊢
  have hl : lv_has ls 5 [(0, .ref (ad k0)), (1, .int a1), (2, .int a2), (3, .int a3), (4, .int a4)] := hl
  unfold f_Rk_precedes at hf
  obtain ⟨mk0_0, mk0_1, mk0_2⟩ := id bk0_0
  have mk0_0 : w0[k0]? = some (ad k0, .inr (4, [.ref (ad (k0 + 1)), .ref (ad (k0 + 2)), .int x0_2, .int x0_3, .int x0_4])) := mk0_0
  have mk0_1 : w0[k0 + 1]? = some (ad (k0 + 1), .inl (cI, 30, .inl x0_0)) := mk0_1
  have mk0_2 : w0[k0 + 2]? = some (ad (k0 + 2), .inl (cI, 30, .inl x0_1)) := mk0_2
  refine lv_iload_n hx hb d_Rk_precedes_0 rfl (lv_at hl 2 rfl) ?_
  refine lv_iload hx hb d_Rk_precedes_1 (lv_at hl 4 rfl) ?_
  refine lv_icmp_eq (tgt := 30) hx hb d_Rk_precedes_3 (by decide) (fun c1 => ?_) (fun c1 => ?_)
  · rw [if_pos c1] at hf
    refine lv_iload_n hx hb d_Rk_precedes_30 rfl (lv_at hl 1 rfl) ?_
    refine lv_iload_n hx hb d_Rk_precedes_31 rfl (lv_at hl 3 rfl) ?_
    refine lv_icmp_ge (tgt := 39) hx hb d_Rk_precedes_32 (by decide) (fun c2 => ?_) (fun c2 => ?_)
    · rw [if_pos c2] at hf
      refine lv_iconst (v := 0) hx hb d_Rk_precedes_39 (by decide) ?_
      have bk0_0 : wc_Rk cI cG cZ ad (k0) (x0_0, x0_1, x0_2, x0_3, x0_4) w0 := ⟨mk0_0, mk0_1, mk0_2⟩
      have e0 := Option.some.inj hf
      exact W.zret (v := 0) hx hb hr (by decide) (fun t ht hW => ⟨⟨0, w0, rfl, ⟨e0, fr⟩, by rw [ht]; exact hP, hD⟩, hS.F ht⟩) hS.2.2 d_Rk_precedes_40
    · rw [if_neg c2] at hf
      refine lv_iconst (v := 1) hx hb d_Rk_precedes_35 (by decide) ?_
      refine lv_goto (tgt := 40) hx hb d_Rk_precedes_36 (by decide) ?_
      have bk0_0 : wc_Rk cI cG cZ ad (k0) (x0_0, x0_1, x0_2, x0_3, x0_4) w0 := ⟨mk0_0, mk0_1, mk0_2⟩
      have e0 := Option.some.inj hf
      exact W.zret (v := 1) hx hb hr (by decide) (fun t ht hW => ⟨⟨1, w0, rfl, ⟨e0, fr⟩, by rw [ht]; exact hP, hD⟩, hS.F ht⟩) hS.2.2 d_Rk_precedes_40
  · rw [if_neg c1] at hf
    refine lv_aload_n hx hb d_Rk_precedes_6 rfl (lv_at hl 0 rfl) ?_
    refine va_get (D := D) (ci := 4) (v := .int x0_4) (C := R_Rk) (T := F_Rk) (N := 5) hx hb hts i_Rk hown hK hP (k0) mk0_0 rfl 4 (by decide) (hts _ iw_88) (fun _ h9 => h9) rfl d_Rk_precedes_7 ?_
    refine lv_iload_n hx hb d_Rk_precedes_10 rfl (lv_at hl 2 rfl) ?_
    refine lv_iload hx hb d_Rk_precedes_11 (lv_at hl 4 rfl) ?_
    refine lv_icmp_le (tgt := 20) hx hb d_Rk_precedes_13 (by decide) (fun c3 => ?_) (fun c3 => ?_)
    · rw [if_pos c3] at hf
      refine lv_iconst (v := 0) hx hb d_Rk_precedes_20 (by decide) ?_
      refine lv_icmp_ne (tgt := 28) hx hb d_Rk_precedes_21 (by decide) (fun c4 => ?_) (fun c4 => ?_)
      · rw [if_neg c4] at hf
        refine lv_iconst (v := 0) hx hb d_Rk_precedes_28 (by decide) ?_
        have bk0_0 : wc_Rk cI cG cZ ad (k0) (x0_0, x0_1, x0_2, x0_3, x0_4) w0 := ⟨mk0_0, mk0_1, mk0_2⟩
        have e0 := Option.some.inj hf
        exact W.zret (v := 0) hx hb hr (by decide) (fun t ht hW => ⟨⟨0, w0, rfl, ⟨e0, fr⟩, by rw [ht]; exact hP, hD⟩, hS.F ht⟩) hS.2.2 d_Rk_precedes_29
      · rw [if_pos c4] at hf
        refine lv_iconst (v := 1) hx hb d_Rk_precedes_24 (by decide) ?_
        refine lv_goto (tgt := 29) hx hb d_Rk_precedes_25 (by decide) ?_
        have bk0_0 : wc_Rk cI cG cZ ad (k0) (x0_0, x0_1, x0_2, x0_3, x0_4) w0 := ⟨mk0_0, mk0_1, mk0_2⟩
        have e0 := Option.some.inj hf
        exact W.zret (v := 1) hx hb hr (by decide) (fun t ht hW => ⟨⟨1, w0, rfl, ⟨e0, fr⟩, by rw [ht]; exact hP, hD⟩, hS.F ht⟩) hS.2.2 d_Rk_precedes_29
    · rw [if_neg c3] at hf
      refine lv_iconst (v := 1) hx hb d_Rk_precedes_16 (by decide) ?_
      refine lv_goto (tgt := 21) hx hb d_Rk_precedes_17 (by decide) ?_
      refine lv_icmp_ne (tgt := 28) hx hb d_Rk_precedes_21 (by decide) (fun c5 => ?_) (fun c5 => ?_)
      · rw [if_neg c5] at hf
        refine lv_iconst (v := 0) hx hb d_Rk_precedes_28 (by decide) ?_
        have bk0_0 : wc_Rk cI cG cZ ad (k0) (x0_0, x0_1, x0_2, x0_3, x0_4) w0 := ⟨mk0_0, mk0_1, mk0_2⟩
        have e0 := Option.some.inj hf
        exact W.zret (v := 0) hx hb hr (by decide) (fun t ht hW => ⟨⟨0, w0, rfl, ⟨e0, fr⟩, by rw [ht]; exact hP, hD⟩, hS.F ht⟩) hS.2.2 d_Rk_precedes_29
      · rw [if_pos c5] at hf
        refine lv_iconst (v := 1) hx hb d_Rk_precedes_24 (by decide) ?_
        refine lv_goto (tgt := 29) hx hb d_Rk_precedes_25 (by decide) ?_
        have bk0_0 : wc_Rk cI cG cZ ad (k0) (x0_0, x0_1, x0_2, x0_3, x0_4) w0 := ⟨mk0_0, mk0_1, mk0_2⟩
        have e0 := Option.some.inj hf
        exact W.zret (v := 1) hx hb hr (by decide) (fun t ht hW => ⟨⟨1, w0, rfl, ⟨e0, fr⟩, by rw [ht]; exact hP, hD⟩, hS.F ht⟩) hS.2.2 d_Rk_precedes_29
set_option maxHeartbeats 4000000 in
set_option maxRecDepth 100000 in
theorem wl_Rk_add_62 {p : Program} {l : Launch} {e : Env} {s : State} {m : MethodId} {args : Array Value} {below : List Frame} {meth : Method} {c : Code} {D : va_G} {cI cG cZ : ClassId} {ad : Nat → Nat} {B : Nat} {w0 : va_W} {N : Nat} {k0 : Nat} (C0 : hw_C p s m meth c b_Rk_add 4 args R_Rk (some .boolean)) (hK : va_K D classes [(cI, .int), (cG, .array .int), (cZ, .boolean)] s) (hN : hw_N s) (x0_3 : Int32) (x0_4 : Int32) (a1 : Int32) (a2 : Int32) (x0_0 : (Nat → Int32)) (x0_1 : (Nat → Int32)) (x0_2 : Int32) (r : Int32) (y0_0 : (Nat → Int32)) (y0_1 : (Nat → Int32)) (y0_2 : Int32) : ∀ (n : Nat) (vak0_1 : (Nat → Int32)) (vak0_2 : (Nat → Int32)) (vfk0_0_2 : Int32) (v3 : Int32) (ws : va_W) (H : Heap) (locs : List Loc) (ls : Array Slot), va_P D classes ws H → va_D (fun q : Nat => B ≤ q) ws → va_S (fun q : Nat => B ≤ q) s.heap H locs → lv_has ls 4 [(3, .int v3), (0, .ref (ad k0)), (1, .int a1), (2, .int a2)] → ws[k0]? = some (ad k0, .inr (4, [.ref (ad (k0 + 1)), .ref (ad (k0 + 2)), .int vfk0_0_2, .int x0_3, .int x0_4])) → ws[k0 + 1]? = some (ad (k0 + 1), .inl (cI, 30, .inl vak0_1)) → ws[k0 + 2]? = some (ad (k0 + 2), .inl (cI, 30, .inl vak0_2)) → (∀ j : Nat, (j < k0 ∨ k0 + 3 ≤ j) → ws[j]? = w0[j]?) → f_Rk_add_62 N x0_4 a1 a2 n vak0_1 vak0_2 vfk0_0_2 v3 = some (r, y0_0, y0_1, y0_2) → W p l e ({ frames := 1, cells := 0, slots := 0, locals := 24 } : Room) s m args below meth c H locs 0 0 (MQ below (va_Qi (fun (r1 : Int32) (w1 : va_W) => r1 = r ∧ wc_Rk cI cG cZ ad k0 (y0_0, y0_1, y0_2, x0_3, x0_4) w1 ∧ (∀ j : Nat, (j < k0 ∨ k0 + 3 ≤ j) → w1[j]? = w0[j]?)) (hw_B D B) (fun q : Nat => B ≤ q)) args s 0 0 (fun q : Nat => B ≤ q)) (F0 m 62 ls []) := by
  obtain ⟨hx, hb, hr, hml, hown, hts, hlocks⟩ := id C0
  intro n
  induction n with
  | zero =>
    intro vak0_1 vak0_2 vfk0_0_2 v3 ws H locs ls hP hD hS hl mk0_0 mk0_1 mk0_2 fr hf
    exact nomatch (show none = some _ from hf)
  | succ n ih =>
    intro vak0_1 vak0_2 vfk0_0_2 v3 ws H locs ls hP hD hS hl mk0_0 mk0_1 mk0_2 fr hf
    rw [f_Rk_add_62] at hf
    refine lv_iload_n hx hb d_Rk_add_62 rfl (lv_at hl 0 rfl) ?_
    refine lv_if_le (tgt := 125) hx hb d_Rk_add_63 (by decide) (fun c9 => ?_) (fun c9 => ?_)
    · rw [if_pos c9] at hf
      refine lv_aload_n hx hb d_Rk_add_125 rfl (lv_at hl 1 rfl) ?_
      refine va_get (D := D) (ci := 4) (v := .ref (ad (k0 + 1))) (C := R_Rk) (T := F_Rk) (N := 5) hx hb hts i_Rk hown hK hP (k0) mk0_0 rfl 0 (by decide) (hts _ iw_84) (fun _ h9 => h9) rfl d_Rk_add_126 ?_
      refine lv_iload_n hx hb d_Rk_add_129 rfl (lv_at hl 0 rfl) ?_
      refine lv_iload_n hx hb d_Rk_add_130 rfl (lv_at hl 2 rfl) ?_
      obtain ⟨z10, hf⟩ := g_atE hf
      refine va_iast hx hb hK hP hD hS (k0 + 1) 0 mk0_1 rfl z10 d_Rk_add_131 (fun H locs hP hD hS => ?_)
      obtain ⟨w11, hP, hD, hne, heq⟩ := hs_up hP hD mk0_1
      have mk0_1 : w11[k0 + 1]? = some (ad (k0 + 1), .inl (cI, 30, .inl (upd vak0_1 v3.toNatClampNeg a1))) := heq
      have mk0_0 : w11[k0]? = some (ad k0, .inr (4, [.ref (ad (k0 + 1)), .ref (ad (k0 + 2)), .int vfk0_0_2, .int x0_3, .int x0_4])) := (hne _ (by omega)).trans mk0_0
      have mk0_2 : w11[k0 + 2]? = some (ad (k0 + 2), .inl (cI, 30, .inl vak0_2)) := (hne _ (by omega)).trans mk0_2
      have fr : ∀ j : Nat, (j < k0 ∨ k0 + 3 ≤ j) → w11[j]? = w0[j]? := fun j o0 => (hne j (by omega)).trans (fr j o0)
      refine lv_aload_n hx hb d_Rk_add_132 rfl (lv_at hl 1 rfl) ?_
      refine va_get (D := D) (ci := 4) (v := .ref (ad (k0 + 2))) (C := R_Rk) (T := F_Rk) (N := 5) hx hb hts i_Rk hown hK hP (k0) mk0_0 rfl 1 (by decide) (hts _ iw_85) (fun _ h9 => h9) rfl d_Rk_add_133 ?_
      refine lv_iload_n hx hb d_Rk_add_136 rfl (lv_at hl 0 rfl) ?_
      refine lv_iload_n hx hb d_Rk_add_137 rfl (lv_at hl 3 rfl) ?_
      obtain ⟨z12, hf⟩ := g_atE hf
      refine va_iast hx hb hK hP hD hS (k0 + 2) 0 mk0_2 rfl z12 d_Rk_add_138 (fun H locs hP hD hS => ?_)
      obtain ⟨w13, hP, hD, hne, heq⟩ := hs_up hP hD mk0_2
      have mk0_2 : w13[k0 + 2]? = some (ad (k0 + 2), .inl (cI, 30, .inl (upd vak0_2 v3.toNatClampNeg a2))) := heq
      have mk0_0 : w13[k0]? = some (ad k0, .inr (4, [.ref (ad (k0 + 1)), .ref (ad (k0 + 2)), .int vfk0_0_2, .int x0_3, .int x0_4])) := (hne _ (by omega)).trans mk0_0
      have mk0_1 : w13[k0 + 1]? = some (ad (k0 + 1), .inl (cI, 30, .inl (upd vak0_1 v3.toNatClampNeg a1))) := (hne _ (by omega)).trans mk0_1
      have fr : ∀ j : Nat, (j < k0 ∨ k0 + 3 ≤ j) → w13[j]? = w0[j]? := fun j o0 => (hne j (by omega)).trans (fr j o0)
      refine lv_aload_n hx hb d_Rk_add_139 rfl (lv_at hl 1 rfl) ?_
      refine lv_dup hx hb d_Rk_add_140 rfl ?_
      refine va_get (D := D) (ci := 4) (v := .int vfk0_0_2) (C := R_Rk) (T := F_Rk) (N := 5) hx hb hts i_Rk hown hK hP (k0) mk0_0 rfl 2 (by decide) (hts _ iw_86) (fun _ h9 => h9) rfl d_Rk_add_141 ?_
      refine lv_iconst (v := 1) hx hb d_Rk_add_144 (by decide) ?_
      refine lv_iadd hx hb d_Rk_add_145 ?_
      refine va_put (D := D) (ci := 4) (v := .int (vfk0_0_2 + 1)) (ty := .int) (C := R_Rk) (T := F_Rk) (N := 5) hx hb hts i_Rk t_Rk t_Rk_ok n_Rk hown hK hP hD hS (k0) mk0_0 rfl 2 (by decide) (hts _ iw_86) (fun _ h9 => h9) rfl (by decide +kernel) rfl rfl (Nat.le_of_ble_eq_true rfl) d_Rk_add_146 (fun H locs hP hD hS => ?_)
      obtain ⟨w14, hP, hD, hne, heq⟩ := hs_up hP hD mk0_0
      have mk0_0 : w14[k0]? = some (ad k0, .inr (4, [.ref (ad (k0 + 1)), .ref (ad (k0 + 2)), .int (vfk0_0_2 + 1), .int x0_3, .int x0_4])) := heq
      have mk0_1 : w14[k0 + 1]? = some (ad (k0 + 1), .inl (cI, 30, .inl (upd vak0_1 v3.toNatClampNeg a1))) := (hne _ (by omega)).trans mk0_1
      have mk0_2 : w14[k0 + 2]? = some (ad (k0 + 2), .inl (cI, 30, .inl (upd vak0_2 v3.toNatClampNeg a2))) := (hne _ (by omega)).trans mk0_2
      have fr : ∀ j : Nat, (j < k0 ∨ k0 + 3 ≤ j) → w14[j]? = w0[j]? := fun j o0 => (hne j (by omega)).trans (fr j o0)
      refine lv_iconst (v := 1) hx hb d_Rk_add_149 (by decide) ?_
      have bk0_0 : wc_Rk cI cG cZ ad (k0) (upd vak0_1 v3.toNatClampNeg a1, upd vak0_2 v3.toNatClampNeg a2, vfk0_0_2 + 1, x0_3, x0_4) w14 := ⟨mk0_0, mk0_1, mk0_2⟩
      have he := Option.some.inj hf
      obtain ⟨e0, he⟩ := Prod.mk.inj he
      obtain ⟨e1, he⟩ := Prod.mk.inj he
      obtain ⟨e2, e3⟩ := Prod.mk.inj he
      have f0 : wc_Rk cI cG cZ ad (k0) (y0_0, y0_1, y0_2, x0_3, x0_4) w14 := by rw [← e1, ← e2, ← e3]; exact bk0_0
      exact W.zret (v := 1) hx hb hr (by decide) (fun t ht hW => ⟨⟨1, w14, rfl, ⟨e0, ⟨f0, fr⟩⟩, by rw [ht]; exact hP, hD⟩, hS.F ht⟩) hS.2.2 d_Rk_add_150
    · rw [if_neg c9] at hf
      refine lv_aload_n hx hb d_Rk_add_66 rfl (lv_at hl 1 rfl) ?_
      refine lv_iload_n hx hb d_Rk_add_67 rfl (lv_at hl 2 rfl) ?_
      refine lv_iload_n hx hb d_Rk_add_68 rfl (lv_at hl 3 rfl) ?_
      refine lv_aload_n hx hb d_Rk_add_69 rfl (lv_at hl 1 rfl) ?_
      refine va_get (D := D) (ci := 4) (v := .ref (ad (k0 + 1))) (C := R_Rk) (T := F_Rk) (N := 5) hx hb hts i_Rk hown hK hP (k0) mk0_0 rfl 0 (by decide) (hts _ iw_84) (fun _ h9 => h9) rfl d_Rk_add_70 ?_
      refine lv_iload_n hx hb d_Rk_add_73 rfl (lv_at hl 0 rfl) ?_
      refine lv_iconst (v := 1) hx hb d_Rk_add_74 (by decide) ?_
      refine lv_isub hx hb d_Rk_add_75 ?_
      obtain ⟨z15, hf⟩ := g_atE hf
      refine va_iald hx hb hK hP (k0 + 1) 0 mk0_1 rfl z15 d_Rk_add_76 ?_
      refine lv_aload_n hx hb d_Rk_add_77 rfl (lv_at hl 1 rfl) ?_
      refine va_get (D := D) (ci := 4) (v := .ref (ad (k0 + 2))) (C := R_Rk) (T := F_Rk) (N := 5) hx hb hts i_Rk hown hK hP (k0) mk0_0 rfl 1 (by decide) (hts _ iw_85) (fun _ h9 => h9) rfl d_Rk_add_78 ?_
      refine lv_iload_n hx hb d_Rk_add_81 rfl (lv_at hl 0 rfl) ?_
      refine lv_iconst (v := 1) hx hb d_Rk_add_82 (by decide) ?_
      refine lv_isub hx hb d_Rk_add_83 ?_
      obtain ⟨z16, hf⟩ := g_atE hf
      refine va_iald hx hb hK hP (k0 + 2) 0 mk0_2 rfl z16 d_Rk_add_84 ?_
      have bk0_0 : wc_Rk cI cG cZ ad (k0) (vak0_1, vak0_2, vfk0_0_2, x0_3, x0_4) ws := ⟨mk0_0, mk0_1, mk0_2⟩
      obtain ⟨p17, hp17, hf⟩ := g_bd hf
      refine hw_ci0 (va_runV (As := [.int a1, .int a2, .int (vak0_1 (v3 - 1).toNatClampNeg), .int (vak0_2 (v3 - 1).toNatClampNeg)]) (rest := []) ⟨hx, hb, hml, hown, hts⟩ (c_Rk_precedes l D cI cG cZ ad B ws N k0 vak0_1 vak0_2 vfk0_0_2 x0_3 x0_4 a1 a2 (vak0_1 (v3 - 1).toNatClampNeg) (vak0_2 (v3 - 1).toNatClampNeg) p17 hp17 bk0_0) (cwV 4 hts (hw_gV iw_245 gy_Rk_precedes) rfl rfl rfl (by decide +kernel) ⟨Nat.le_of_ble_eq_true rfl, Nat.le_of_ble_eq_true rfl⟩) ⟨hw_blind, va_recv hK hP (ci := 4) (q0 := k0) rfl bk0_0.1, hw_go hP hD hK hN⟩ rfl rfl hl.1 rfl (lv_room (Nat.le_of_ble_eq_true rfl)) d_Rk_add_85 ⟨Nat.zero_le _, Nat.zero_le _⟩) hS (fun H locs hP hD hS => ?_)
      refine lv_if_eq (tgt := 125) hx hb d_Rk_add_88 (by decide) (fun c18 => ?_) (fun c18 => ?_)
      · rw [if_pos c18] at hf
        refine lv_aload_n hx hb d_Rk_add_125 rfl (lv_at hl 1 rfl) ?_
        obtain ⟨mk0_0, mk0_1, mk0_2⟩ := id bk0_0
        have mk0_0 : ws[k0]? = some (ad k0, .inr (4, [.ref (ad (k0 + 1)), .ref (ad (k0 + 2)), .int vfk0_0_2, .int x0_3, .int x0_4])) := mk0_0
        have mk0_1 : ws[k0 + 1]? = some (ad (k0 + 1), .inl (cI, 30, .inl vak0_1)) := mk0_1
        have mk0_2 : ws[k0 + 2]? = some (ad (k0 + 2), .inl (cI, 30, .inl vak0_2)) := mk0_2
        refine va_get (D := D) (ci := 4) (v := .ref (ad (k0 + 1))) (C := R_Rk) (T := F_Rk) (N := 5) hx hb hts i_Rk hown hK hP (k0) mk0_0 rfl 0 (by decide) (hts _ iw_84) (fun _ h9 => h9) rfl d_Rk_add_126 ?_
        refine lv_iload_n hx hb d_Rk_add_129 rfl (lv_at hl 0 rfl) ?_
        refine lv_iload_n hx hb d_Rk_add_130 rfl (lv_at hl 2 rfl) ?_
        obtain ⟨z19, hf⟩ := g_atE hf
        refine va_iast hx hb hK hP hD hS (k0 + 1) 0 mk0_1 rfl z19 d_Rk_add_131 (fun H locs hP hD hS => ?_)
        obtain ⟨w20, hP, hD, hne, heq⟩ := hs_up hP hD mk0_1
        have mk0_1 : w20[k0 + 1]? = some (ad (k0 + 1), .inl (cI, 30, .inl (upd vak0_1 v3.toNatClampNeg a1))) := heq
        have mk0_0 : w20[k0]? = some (ad k0, .inr (4, [.ref (ad (k0 + 1)), .ref (ad (k0 + 2)), .int vfk0_0_2, .int x0_3, .int x0_4])) := (hne _ (by omega)).trans mk0_0
        have mk0_2 : w20[k0 + 2]? = some (ad (k0 + 2), .inl (cI, 30, .inl vak0_2)) := (hne _ (by omega)).trans mk0_2
        have fr : ∀ j : Nat, (j < k0 ∨ k0 + 3 ≤ j) → w20[j]? = w0[j]? := fun j o0 => (hne j (by omega)).trans (fr j o0)
        refine lv_aload_n hx hb d_Rk_add_132 rfl (lv_at hl 1 rfl) ?_
        refine va_get (D := D) (ci := 4) (v := .ref (ad (k0 + 2))) (C := R_Rk) (T := F_Rk) (N := 5) hx hb hts i_Rk hown hK hP (k0) mk0_0 rfl 1 (by decide) (hts _ iw_85) (fun _ h9 => h9) rfl d_Rk_add_133 ?_
        refine lv_iload_n hx hb d_Rk_add_136 rfl (lv_at hl 0 rfl) ?_
        refine lv_iload_n hx hb d_Rk_add_137 rfl (lv_at hl 3 rfl) ?_
        obtain ⟨z21, hf⟩ := g_atE hf
        refine va_iast hx hb hK hP hD hS (k0 + 2) 0 mk0_2 rfl z21 d_Rk_add_138 (fun H locs hP hD hS => ?_)
        obtain ⟨w22, hP, hD, hne, heq⟩ := hs_up hP hD mk0_2
        have mk0_2 : w22[k0 + 2]? = some (ad (k0 + 2), .inl (cI, 30, .inl (upd vak0_2 v3.toNatClampNeg a2))) := heq
        have mk0_0 : w22[k0]? = some (ad k0, .inr (4, [.ref (ad (k0 + 1)), .ref (ad (k0 + 2)), .int vfk0_0_2, .int x0_3, .int x0_4])) := (hne _ (by omega)).trans mk0_0
        have mk0_1 : w22[k0 + 1]? = some (ad (k0 + 1), .inl (cI, 30, .inl (upd vak0_1 v3.toNatClampNeg a1))) := (hne _ (by omega)).trans mk0_1
        have fr : ∀ j : Nat, (j < k0 ∨ k0 + 3 ≤ j) → w22[j]? = w0[j]? := fun j o0 => (hne j (by omega)).trans (fr j o0)
        refine lv_aload_n hx hb d_Rk_add_139 rfl (lv_at hl 1 rfl) ?_
        refine lv_dup hx hb d_Rk_add_140 rfl ?_
        refine va_get (D := D) (ci := 4) (v := .int vfk0_0_2) (C := R_Rk) (T := F_Rk) (N := 5) hx hb hts i_Rk hown hK hP (k0) mk0_0 rfl 2 (by decide) (hts _ iw_86) (fun _ h9 => h9) rfl d_Rk_add_141 ?_
        refine lv_iconst (v := 1) hx hb d_Rk_add_144 (by decide) ?_
        refine lv_iadd hx hb d_Rk_add_145 ?_
        refine va_put (D := D) (ci := 4) (v := .int (vfk0_0_2 + 1)) (ty := .int) (C := R_Rk) (T := F_Rk) (N := 5) hx hb hts i_Rk t_Rk t_Rk_ok n_Rk hown hK hP hD hS (k0) mk0_0 rfl 2 (by decide) (hts _ iw_86) (fun _ h9 => h9) rfl (by decide +kernel) rfl rfl (Nat.le_of_ble_eq_true rfl) d_Rk_add_146 (fun H locs hP hD hS => ?_)
        obtain ⟨w23, hP, hD, hne, heq⟩ := hs_up hP hD mk0_0
        have mk0_0 : w23[k0]? = some (ad k0, .inr (4, [.ref (ad (k0 + 1)), .ref (ad (k0 + 2)), .int (vfk0_0_2 + 1), .int x0_3, .int x0_4])) := heq
        have mk0_1 : w23[k0 + 1]? = some (ad (k0 + 1), .inl (cI, 30, .inl (upd vak0_1 v3.toNatClampNeg a1))) := (hne _ (by omega)).trans mk0_1
        have mk0_2 : w23[k0 + 2]? = some (ad (k0 + 2), .inl (cI, 30, .inl (upd vak0_2 v3.toNatClampNeg a2))) := (hne _ (by omega)).trans mk0_2
        have fr : ∀ j : Nat, (j < k0 ∨ k0 + 3 ≤ j) → w23[j]? = w0[j]? := fun j o0 => (hne j (by omega)).trans (fr j o0)
        refine lv_iconst (v := 1) hx hb d_Rk_add_149 (by decide) ?_
        have bk0_0 : wc_Rk cI cG cZ ad (k0) (upd vak0_1 v3.toNatClampNeg a1, upd vak0_2 v3.toNatClampNeg a2, vfk0_0_2 + 1, x0_3, x0_4) w23 := ⟨mk0_0, mk0_1, mk0_2⟩
        have he := Option.some.inj hf
        obtain ⟨e0, he⟩ := Prod.mk.inj he
        obtain ⟨e1, he⟩ := Prod.mk.inj he
        obtain ⟨e2, e3⟩ := Prod.mk.inj he
        have f0 : wc_Rk cI cG cZ ad (k0) (y0_0, y0_1, y0_2, x0_3, x0_4) w23 := by rw [← e1, ← e2, ← e3]; exact bk0_0
        exact W.zret (v := 1) hx hb hr (by decide) (fun t ht hW => ⟨⟨1, w23, rfl, ⟨e0, ⟨f0, fr⟩⟩, by rw [ht]; exact hP, hD⟩, hS.F ht⟩) hS.2.2 d_Rk_add_150
      · rw [if_neg c18] at hf
        refine lv_aload_n hx hb d_Rk_add_91 rfl (lv_at hl 1 rfl) ?_
        obtain ⟨mk0_0, mk0_1, mk0_2⟩ := id bk0_0
        have mk0_0 : ws[k0]? = some (ad k0, .inr (4, [.ref (ad (k0 + 1)), .ref (ad (k0 + 2)), .int vfk0_0_2, .int x0_3, .int x0_4])) := mk0_0
        have mk0_1 : ws[k0 + 1]? = some (ad (k0 + 1), .inl (cI, 30, .inl vak0_1)) := mk0_1
        have mk0_2 : ws[k0 + 2]? = some (ad (k0 + 2), .inl (cI, 30, .inl vak0_2)) := mk0_2
        refine va_get (D := D) (ci := 4) (v := .ref (ad (k0 + 1))) (C := R_Rk) (T := F_Rk) (N := 5) hx hb hts i_Rk hown hK hP (k0) mk0_0 rfl 0 (by decide) (hts _ iw_84) (fun _ h9 => h9) rfl d_Rk_add_92 ?_
        refine lv_iload_n hx hb d_Rk_add_95 rfl (lv_at hl 0 rfl) ?_
        refine lv_aload_n hx hb d_Rk_add_96 rfl (lv_at hl 1 rfl) ?_
        refine va_get (D := D) (ci := 4) (v := .ref (ad (k0 + 1))) (C := R_Rk) (T := F_Rk) (N := 5) hx hb hts i_Rk hown hK hP (k0) mk0_0 rfl 0 (by decide) (hts _ iw_84) (fun _ h9 => h9) rfl d_Rk_add_97 ?_
        refine lv_iload_n hx hb d_Rk_add_100 rfl (lv_at hl 0 rfl) ?_
        refine lv_iconst (v := 1) hx hb d_Rk_add_101 (by decide) ?_
        refine lv_isub hx hb d_Rk_add_102 ?_
        obtain ⟨z24, hf⟩ := g_atE hf
        refine va_iald hx hb hK hP (k0 + 1) 0 mk0_1 rfl z24 d_Rk_add_103 ?_
        obtain ⟨z25, hf⟩ := g_atE hf
        refine va_iast hx hb hK hP hD hS (k0 + 1) 0 mk0_1 rfl z25 d_Rk_add_104 (fun H locs hP hD hS => ?_)
        obtain ⟨w26, hP, hD, hne, heq⟩ := hs_up hP hD mk0_1
        have mk0_1 : w26[k0 + 1]? = some (ad (k0 + 1), .inl (cI, 30, .inl (upd vak0_1 v3.toNatClampNeg (vak0_1 (v3 - 1).toNatClampNeg)))) := heq
        have mk0_0 : w26[k0]? = some (ad k0, .inr (4, [.ref (ad (k0 + 1)), .ref (ad (k0 + 2)), .int vfk0_0_2, .int x0_3, .int x0_4])) := (hne _ (by omega)).trans mk0_0
        have mk0_2 : w26[k0 + 2]? = some (ad (k0 + 2), .inl (cI, 30, .inl vak0_2)) := (hne _ (by omega)).trans mk0_2
        have fr : ∀ j : Nat, (j < k0 ∨ k0 + 3 ≤ j) → w26[j]? = w0[j]? := fun j o0 => (hne j (by omega)).trans (fr j o0)
        refine lv_aload_n hx hb d_Rk_add_105 rfl (lv_at hl 1 rfl) ?_
        refine va_get (D := D) (ci := 4) (v := .ref (ad (k0 + 2))) (C := R_Rk) (T := F_Rk) (N := 5) hx hb hts i_Rk hown hK hP (k0) mk0_0 rfl 1 (by decide) (hts _ iw_85) (fun _ h9 => h9) rfl d_Rk_add_106 ?_
        refine lv_iload_n hx hb d_Rk_add_109 rfl (lv_at hl 0 rfl) ?_
        refine lv_aload_n hx hb d_Rk_add_110 rfl (lv_at hl 1 rfl) ?_
        refine va_get (D := D) (ci := 4) (v := .ref (ad (k0 + 2))) (C := R_Rk) (T := F_Rk) (N := 5) hx hb hts i_Rk hown hK hP (k0) mk0_0 rfl 1 (by decide) (hts _ iw_85) (fun _ h9 => h9) rfl d_Rk_add_111 ?_
        refine lv_iload_n hx hb d_Rk_add_114 rfl (lv_at hl 0 rfl) ?_
        refine lv_iconst (v := 1) hx hb d_Rk_add_115 (by decide) ?_
        refine lv_isub hx hb d_Rk_add_116 ?_
        obtain ⟨z27, hf⟩ := g_atE hf
        refine va_iald hx hb hK hP (k0 + 2) 0 mk0_2 rfl z27 d_Rk_add_117 ?_
        obtain ⟨z28, hf⟩ := g_atE hf
        refine va_iast hx hb hK hP hD hS (k0 + 2) 0 mk0_2 rfl z28 d_Rk_add_118 (fun H locs hP hD hS => ?_)
        obtain ⟨w29, hP, hD, hne, heq⟩ := hs_up hP hD mk0_2
        have mk0_2 : w29[k0 + 2]? = some (ad (k0 + 2), .inl (cI, 30, .inl (upd vak0_2 v3.toNatClampNeg (vak0_2 (v3 - 1).toNatClampNeg)))) := heq
        have mk0_0 : w29[k0]? = some (ad k0, .inr (4, [.ref (ad (k0 + 1)), .ref (ad (k0 + 2)), .int vfk0_0_2, .int x0_3, .int x0_4])) := (hne _ (by omega)).trans mk0_0
        have mk0_1 : w29[k0 + 1]? = some (ad (k0 + 1), .inl (cI, 30, .inl (upd vak0_1 v3.toNatClampNeg (vak0_1 (v3 - 1).toNatClampNeg)))) := (hne _ (by omega)).trans mk0_1
        have fr : ∀ j : Nat, (j < k0 ∨ k0 + 3 ≤ j) → w29[j]? = w0[j]? := fun j o0 => (hne j (by omega)).trans (fr j o0)
        refine lv_iinc (v := v3 + (-1)) (lv' := [(3, .int (v3 + (-1))), (0, .ref (ad k0)), (1, .int a1), (2, .int a2)]) hx hb d_Rk_add_119 hl (k := 0) rfl rfl (by decide) rfl (fun ls hl => ?_)
        refine lv_goto (tgt := 62) hx hb d_Rk_add_122 (by decide) ?_
        exact ih (upd vak0_1 v3.toNatClampNeg (vak0_1 (v3 - 1).toNatClampNeg)) (upd vak0_2 v3.toNatClampNeg (vak0_2 (v3 - 1).toNatClampNeg)) vfk0_0_2 (v3 + (-1)) _ _ _ _ hP hD hS (lv_sub hl [0, 1, 2, 3] rfl) mk0_0 mk0_1 mk0_2 fr hf
set_option maxHeartbeats 4000000 in
set_option maxRecDepth 100000 in
theorem c_Rk_add (l : Launch) (D : va_G) (cI cG cZ : ClassId) (ad : Nat → Nat) (B : Nat) (w0 : va_W) (N : Nat) (k0 : Nat) (x0_0 : (Nat → Int32)) (x0_1 : (Nat → Int32)) (x0_2 : Int32) (x0_3 : Int32) (x0_4 : Int32) (a1 : Int32) (a2 : Int32) (r : Int32) (y0_0 : (Nat → Int32)) (y0_1 : (Nat → Int32)) (y0_2 : Int32) (hf : f_Rk_add N x0_0 x0_1 x0_2 x0_3 x0_4 a1 a2 = some (r, y0_0, y0_1, y0_2)) (bk0_0 : wc_Rk cI cG cZ ad k0 (x0_0, x0_1, x0_2, x0_3, x0_4) w0) : Met l y_Rk_add (.code y_Rk_add b_Rk_add 4 (some .boolean) :: hw_G) ({ frames := 1, cells := 0, slots := 0, locals := 24 } : Room) (va_Pc [.ref (ad k0), .int a1, .int a2] (hw_U D cI cG cZ B w0)) (va_Qi (fun (r1 : Int32) (w1 : va_W) => r1 = r ∧ wc_Rk cI cG cZ ad k0 (y0_0, y0_1, y0_2, x0_3, x0_4) w1 ∧ (∀ j : Nat, (j < k0 ∨ k0 + 3 ≤ j) → w1[j]? = w0[j]?)) (hw_B D B) (fun q : Nat => B ≤ q)) 0 0 (fun q : Nat => B ≤ q) := by
  refine Met.ofW (cc := b_Rk_add) (maxL := 4) (ret := (some .boolean)) (by decide) rfl ?_
  intro p e s m args below meth c s₁ Bd hml hv
  obtain ⟨rfl, hP, hD, hK, hN⟩ := hv
  have C0 : hw_C p s m meth c b_Rk_add 4 _ R_Rk (some .boolean) := ⟨Bd.exec, Bd.bytes, Bd.returns, hml, findClass_of_methodNamed Bd.named, fun w h => atoms_spec (ws := .code y_Rk_add b_Rk_add 4 (some .boolean) :: hw_G) Bd.pre w (List.mem_cons_of_mem _ h), Bd.notSynchronized⟩
  obtain ⟨hx, hb, hr, -, hown, hts, hlocks⟩ := id C0
  have hS : va_S (fun q : Nat => B ≤ q) s.heap s.heap [] := va_S.rf
  have fr : ∀ j : Nat, (j < k0 ∨ k0 + 3 ≤ j) → w0[j]? = w0[j]? := fun j _ => rfl
  have hl := lv_entry ([.ref (ad k0), .int a1, .int a2]) (n := 4) (Nat.le_of_ble_eq_true rfl)
  rw [lg_entry_eq]
  generalize (lg_sl ([.ref (ad k0), .int a1, .int a2]) ++ List.replicate (4 - (lg_sl ([.ref (ad k0), .int a1, .int a2])).length) Slot.unset).toArray = ls at hl ⊢
  have hl : lv_has ls 4 [(0, .ref (ad k0)), (1, .int a1), (2, .int a2)] := hl
  unfold f_Rk_add at hf
  obtain ⟨mk0_0, mk0_1, mk0_2⟩ := id bk0_0
  have mk0_0 : w0[k0]? = some (ad k0, .inr (4, [.ref (ad (k0 + 1)), .ref (ad (k0 + 2)), .int x0_2, .int x0_3, .int x0_4])) := mk0_0
  have mk0_1 : w0[k0 + 1]? = some (ad (k0 + 1), .inl (cI, 30, .inl x0_0)) := mk0_1
  have mk0_2 : w0[k0 + 2]? = some (ad (k0 + 2), .inl (cI, 30, .inl x0_1)) := mk0_2
  refine lv_aload_n hx hb d_Rk_add_0 rfl (lv_at hl 0 rfl) ?_
  have bk0_0 : wc_Rk cI cG cZ ad (k0) (x0_0, x0_1, x0_2, x0_3, x0_4) w0 := ⟨mk0_0, mk0_1, mk0_2⟩
  obtain ⟨p1, hp1, hf⟩ := g_bd hf
  refine hw_ci0 (va_runV (As := []) (rest := []) ⟨hx, hb, hml, hown, hts⟩ (c_Rk_isFull l D cI cG cZ ad B w0 N k0 x0_0 x0_1 x0_2 x0_3 x0_4 p1 hp1 bk0_0) (cwV 0 hts (hw_gV iw_241 gy_Rk_isFull) rfl rfl rfl (by decide +kernel) ⟨Nat.le_of_ble_eq_true rfl, Nat.le_of_ble_eq_true rfl⟩) ⟨hw_blind, va_recv hK hP (ci := 4) (q0 := k0) rfl bk0_0.1, hw_go hP hD hK hN⟩ rfl rfl hl.1 rfl (lv_room (Nat.le_of_ble_eq_true rfl)) d_Rk_add_1 ⟨Nat.zero_le _, Nat.zero_le _⟩) hS (fun H locs hP hD hS => ?_)
  refine lv_if_eq (tgt := 57) hx hb d_Rk_add_4 (by decide) (fun c2 => ?_) (fun c2 => ?_)
  · rw [if_pos c2] at hf
    refine lv_aload_n hx hb d_Rk_add_57 rfl (lv_at hl 0 rfl) ?_
    obtain ⟨mk0_0, mk0_1, mk0_2⟩ := id bk0_0
    have mk0_0 : w0[k0]? = some (ad k0, .inr (4, [.ref (ad (k0 + 1)), .ref (ad (k0 + 2)), .int x0_2, .int x0_3, .int x0_4])) := mk0_0
    have mk0_1 : w0[k0 + 1]? = some (ad (k0 + 1), .inl (cI, 30, .inl x0_0)) := mk0_1
    have mk0_2 : w0[k0 + 2]? = some (ad (k0 + 2), .inl (cI, 30, .inl x0_1)) := mk0_2
    refine va_get (D := D) (ci := 4) (v := .int x0_2) (C := R_Rk) (T := F_Rk) (N := 5) hx hb hts i_Rk hown hK hP (k0) mk0_0 rfl 2 (by decide) (hts _ iw_86) (fun _ h9 => h9) rfl d_Rk_add_58 ?_
    refine lv_istore_n (lv' := [(3, .int x0_2), (0, .ref (ad k0)), (1, .int a1), (2, .int a2)]) hx hb d_Rk_add_61 rfl hl (by decide) rfl (fun ls hl => ?_)
    exact wl_Rk_add_62 (ad := ad) C0 hK hN x0_3 x0_4 a1 a2 x0_0 x0_1 x0_2 r y0_0 y0_1 y0_2 N x0_0 x0_1 x0_2 x0_2 _ _ _ _ hP hD hS (lv_sub hl [0, 1, 2, 3] rfl) mk0_0 mk0_1 mk0_2 fr hf
  · rw [if_neg c2] at hf
    refine lv_aload_n hx hb d_Rk_add_7 rfl (lv_at hl 0 rfl) ?_
    obtain ⟨mk0_0, mk0_1, mk0_2⟩ := id bk0_0
    have mk0_0 : w0[k0]? = some (ad k0, .inr (4, [.ref (ad (k0 + 1)), .ref (ad (k0 + 2)), .int x0_2, .int x0_3, .int x0_4])) := mk0_0
    have mk0_1 : w0[k0 + 1]? = some (ad (k0 + 1), .inl (cI, 30, .inl x0_0)) := mk0_1
    have mk0_2 : w0[k0 + 2]? = some (ad (k0 + 2), .inl (cI, 30, .inl x0_1)) := mk0_2
    refine va_get (D := D) (ci := 4) (v := .int x0_2) (C := R_Rk) (T := F_Rk) (N := 5) hx hb hts i_Rk hown hK hP (k0) mk0_0 rfl 2 (by decide) (hts _ iw_86) (fun _ h9 => h9) rfl d_Rk_add_8 ?_
    refine lv_if_eq (tgt := 45) hx hb d_Rk_add_11 (by decide) (fun c3 => ?_) (fun c3 => ?_)
    · rw [if_pos c3] at hf
      refine lv_iconst (v := 0) hx hb d_Rk_add_45 (by decide) ?_
      have bk0_0 : wc_Rk cI cG cZ ad (k0) (x0_0, x0_1, x0_2, x0_3, x0_4) w0 := ⟨mk0_0, mk0_1, mk0_2⟩
      have he := Option.some.inj hf
      obtain ⟨e0, he⟩ := Prod.mk.inj he
      obtain ⟨e1, he⟩ := Prod.mk.inj he
      obtain ⟨e2, e3⟩ := Prod.mk.inj he
      have f0 : wc_Rk cI cG cZ ad (k0) (y0_0, y0_1, y0_2, x0_3, x0_4) w0 := by rw [← e1, ← e2, ← e3]; exact bk0_0
      exact W.zret (v := 0) hx hb hr (by decide) (fun t ht hW => ⟨⟨0, w0, rfl, ⟨e0, ⟨f0, fr⟩⟩, by rw [ht]; exact hP, hD⟩, hS.F ht⟩) hS.2.2 d_Rk_add_46
    · rw [if_neg c3] at hf
      refine lv_aload_n hx hb d_Rk_add_14 rfl (lv_at hl 0 rfl) ?_
      refine lv_iload_n hx hb d_Rk_add_15 rfl (lv_at hl 1 rfl) ?_
      refine lv_iload_n hx hb d_Rk_add_16 rfl (lv_at hl 2 rfl) ?_
      refine lv_aload_n hx hb d_Rk_add_17 rfl (lv_at hl 0 rfl) ?_
      refine va_get (D := D) (ci := 4) (v := .ref (ad (k0 + 1))) (C := R_Rk) (T := F_Rk) (N := 5) hx hb hts i_Rk hown hK hP (k0) mk0_0 rfl 0 (by decide) (hts _ iw_84) (fun _ h9 => h9) rfl d_Rk_add_18 ?_
      refine lv_aload_n hx hb d_Rk_add_21 rfl (lv_at hl 0 rfl) ?_
      refine va_get (D := D) (ci := 4) (v := .int x0_2) (C := R_Rk) (T := F_Rk) (N := 5) hx hb hts i_Rk hown hK hP (k0) mk0_0 rfl 2 (by decide) (hts _ iw_86) (fun _ h9 => h9) rfl d_Rk_add_22 ?_
      refine lv_iconst (v := 1) hx hb d_Rk_add_25 (by decide) ?_
      refine lv_isub hx hb d_Rk_add_26 ?_
      obtain ⟨z4, hf⟩ := g_atE hf
      refine va_iald hx hb hK hP (k0 + 1) 0 mk0_1 rfl z4 d_Rk_add_27 ?_
      refine lv_aload_n hx hb d_Rk_add_28 rfl (lv_at hl 0 rfl) ?_
      refine va_get (D := D) (ci := 4) (v := .ref (ad (k0 + 2))) (C := R_Rk) (T := F_Rk) (N := 5) hx hb hts i_Rk hown hK hP (k0) mk0_0 rfl 1 (by decide) (hts _ iw_85) (fun _ h9 => h9) rfl d_Rk_add_29 ?_
      refine lv_aload_n hx hb d_Rk_add_32 rfl (lv_at hl 0 rfl) ?_
      refine va_get (D := D) (ci := 4) (v := .int x0_2) (C := R_Rk) (T := F_Rk) (N := 5) hx hb hts i_Rk hown hK hP (k0) mk0_0 rfl 2 (by decide) (hts _ iw_86) (fun _ h9 => h9) rfl d_Rk_add_33 ?_
      refine lv_iconst (v := 1) hx hb d_Rk_add_36 (by decide) ?_
      refine lv_isub hx hb d_Rk_add_37 ?_
      obtain ⟨z5, hf⟩ := g_atE hf
      refine va_iald hx hb hK hP (k0 + 2) 0 mk0_2 rfl z5 d_Rk_add_38 ?_
      have bk0_0 : wc_Rk cI cG cZ ad (k0) (x0_0, x0_1, x0_2, x0_3, x0_4) w0 := ⟨mk0_0, mk0_1, mk0_2⟩
      obtain ⟨p6, hp6, hf⟩ := g_bd hf
      refine hw_ci0 (va_runV (As := [.int a1, .int a2, .int (x0_0 (x0_2 - 1).toNatClampNeg), .int (x0_1 (x0_2 - 1).toNatClampNeg)]) (rest := []) ⟨hx, hb, hml, hown, hts⟩ (c_Rk_precedes l D cI cG cZ ad B w0 N k0 x0_0 x0_1 x0_2 x0_3 x0_4 a1 a2 (x0_0 (x0_2 - 1).toNatClampNeg) (x0_1 (x0_2 - 1).toNatClampNeg) p6 hp6 bk0_0) (cwV 4 hts (hw_gV iw_245 gy_Rk_precedes) rfl rfl rfl (by decide +kernel) ⟨Nat.le_of_ble_eq_true rfl, Nat.le_of_ble_eq_true rfl⟩) ⟨hw_blind, va_recv hK hP (ci := 4) (q0 := k0) rfl bk0_0.1, hw_go hP hD hK hN⟩ rfl rfl hl.1 rfl (lv_room (Nat.le_of_ble_eq_true rfl)) d_Rk_add_39 ⟨Nat.zero_le _, Nat.zero_le _⟩) hS (fun H locs hP hD hS => ?_)
      refine lv_if_ne (tgt := 47) hx hb d_Rk_add_42 (by decide) (fun c7 => ?_) (fun c7 => ?_)
      · rw [if_neg c7] at hf
        refine lv_aload_n hx hb d_Rk_add_47 rfl (lv_at hl 0 rfl) ?_
        refine lv_dup hx hb d_Rk_add_48 rfl ?_
        obtain ⟨mk0_0, mk0_1, mk0_2⟩ := id bk0_0
        have mk0_0 : w0[k0]? = some (ad k0, .inr (4, [.ref (ad (k0 + 1)), .ref (ad (k0 + 2)), .int x0_2, .int x0_3, .int x0_4])) := mk0_0
        have mk0_1 : w0[k0 + 1]? = some (ad (k0 + 1), .inl (cI, 30, .inl x0_0)) := mk0_1
        have mk0_2 : w0[k0 + 2]? = some (ad (k0 + 2), .inl (cI, 30, .inl x0_1)) := mk0_2
        refine va_get (D := D) (ci := 4) (v := .int x0_2) (C := R_Rk) (T := F_Rk) (N := 5) hx hb hts i_Rk hown hK hP (k0) mk0_0 rfl 2 (by decide) (hts _ iw_86) (fun _ h9 => h9) rfl d_Rk_add_49 ?_
        refine lv_iconst (v := 1) hx hb d_Rk_add_52 (by decide) ?_
        refine lv_isub hx hb d_Rk_add_53 ?_
        refine va_put (D := D) (ci := 4) (v := .int (x0_2 - 1)) (ty := .int) (C := R_Rk) (T := F_Rk) (N := 5) hx hb hts i_Rk t_Rk t_Rk_ok n_Rk hown hK hP hD hS (k0) mk0_0 rfl 2 (by decide) (hts _ iw_86) (fun _ h9 => h9) rfl (by decide +kernel) rfl rfl (Nat.le_of_ble_eq_true rfl) d_Rk_add_54 (fun H locs hP hD hS => ?_)
        obtain ⟨w8, hP, hD, hne, heq⟩ := hs_up hP hD mk0_0
        have mk0_0 : w8[k0]? = some (ad k0, .inr (4, [.ref (ad (k0 + 1)), .ref (ad (k0 + 2)), .int (x0_2 - 1), .int x0_3, .int x0_4])) := heq
        have mk0_1 : w8[k0 + 1]? = some (ad (k0 + 1), .inl (cI, 30, .inl x0_0)) := (hne _ (by omega)).trans mk0_1
        have mk0_2 : w8[k0 + 2]? = some (ad (k0 + 2), .inl (cI, 30, .inl x0_1)) := (hne _ (by omega)).trans mk0_2
        have fr : ∀ j : Nat, (j < k0 ∨ k0 + 3 ≤ j) → w8[j]? = w0[j]? := fun j o0 => (hne j (by omega)).trans (fr j o0)
        refine lv_aload_n hx hb d_Rk_add_57 rfl (lv_at hl 0 rfl) ?_
        refine va_get (D := D) (ci := 4) (v := .int (x0_2 - 1)) (C := R_Rk) (T := F_Rk) (N := 5) hx hb hts i_Rk hown hK hP (k0) mk0_0 rfl 2 (by decide) (hts _ iw_86) (fun _ h9 => h9) rfl d_Rk_add_58 ?_
        refine lv_istore_n (lv' := [(3, .int (x0_2 - 1)), (0, .ref (ad k0)), (1, .int a1), (2, .int a2)]) hx hb d_Rk_add_61 rfl hl (by decide) rfl (fun ls hl => ?_)
        exact wl_Rk_add_62 (ad := ad) C0 hK hN x0_3 x0_4 a1 a2 x0_0 x0_1 x0_2 r y0_0 y0_1 y0_2 N x0_0 x0_1 (x0_2 - 1) (x0_2 - 1) _ _ _ _ hP hD hS (lv_sub hl [0, 1, 2, 3] rfl) mk0_0 mk0_1 mk0_2 fr hf
      · rw [if_pos c7] at hf
        refine lv_iconst (v := 0) hx hb d_Rk_add_45 (by decide) ?_
        have he := Option.some.inj hf
        obtain ⟨e0, he⟩ := Prod.mk.inj he
        obtain ⟨e1, he⟩ := Prod.mk.inj he
        obtain ⟨e2, e3⟩ := Prod.mk.inj he
        have f0 : wc_Rk cI cG cZ ad (k0) (y0_0, y0_1, y0_2, x0_3, x0_4) w0 := by rw [← e1, ← e2, ← e3]; exact bk0_0
        exact W.zret (v := 0) hx hb hr (by decide) (fun t ht hW => ⟨⟨0, w0, rfl, ⟨e0, ⟨f0, fr⟩⟩, by rw [ht]; exact hP, hD⟩, hS.F ht⟩) hS.2.2 d_Rk_add_46
set_option maxHeartbeats 4000000 in
set_option maxRecDepth 100000 in
theorem c_Rk_size (l : Launch) (D : va_G) (cI cG cZ : ClassId) (ad : Nat → Nat) (B : Nat) (w0 : va_W) (N : Nat) (k0 : Nat) (x0_0 : (Nat → Int32)) (x0_1 : (Nat → Int32)) (x0_2 : Int32) (x0_3 : Int32) (x0_4 : Int32) (r : Int32) (hf : f_Rk_size N x0_2 = some r) (bk0_0 : wc_Rk cI cG cZ ad k0 (x0_0, x0_1, x0_2, x0_3, x0_4) w0) : Met l y_Rk_size (.code y_Rk_size b_Rk_size 1 (some .int) :: hw_G) ({ frames := 0, cells := 0, slots := 0, locals := 0 } : Room) (va_Pc [.ref (ad k0)] (hw_U D cI cG cZ B w0)) (va_Qi (fun (r1 : Int32) (w1 : va_W) => r1 = r ∧ w1 = w0) (hw_B D B) (fun q : Nat => B ≤ q)) 0 0 (fun q : Nat => B ≤ q) := by
  refine Met.ofW (cc := b_Rk_size) (maxL := 1) (ret := (some .int)) (by decide) rfl ?_
  intro p e s m args below meth c s₁ Bd hml hv
  obtain ⟨rfl, hP, hD, hK, hN⟩ := hv
  have C0 : hw_C p s m meth c b_Rk_size 1 _ R_Rk (some .int) := ⟨Bd.exec, Bd.bytes, Bd.returns, hml, findClass_of_methodNamed Bd.named, fun w h => atoms_spec (ws := .code y_Rk_size b_Rk_size 1 (some .int) :: hw_G) Bd.pre w (List.mem_cons_of_mem _ h), Bd.notSynchronized⟩
  obtain ⟨hx, hb, hr, -, hown, hts, hlocks⟩ := id C0
  have hS : va_S (fun q : Nat => B ≤ q) s.heap s.heap [] := va_S.rf
  have fr : w0 = w0 := rfl
  have hl := lv_entry ([.ref (ad k0)]) (n := 1) (Nat.le_of_ble_eq_true rfl)
  rw [lg_entry_eq]
  generalize (lg_sl ([.ref (ad k0)]) ++ List.replicate (1 - (lg_sl ([.ref (ad k0)])).length) Slot.unset).toArray = ls at hl ⊢
  have hl : lv_has ls 1 [(0, .ref (ad k0))] := hl
  unfold f_Rk_size at hf
  obtain ⟨mk0_0, mk0_1, mk0_2⟩ := id bk0_0
  have mk0_0 : w0[k0]? = some (ad k0, .inr (4, [.ref (ad (k0 + 1)), .ref (ad (k0 + 2)), .int x0_2, .int x0_3, .int x0_4])) := mk0_0
  have mk0_1 : w0[k0 + 1]? = some (ad (k0 + 1), .inl (cI, 30, .inl x0_0)) := mk0_1
  have mk0_2 : w0[k0 + 2]? = some (ad (k0 + 2), .inl (cI, 30, .inl x0_1)) := mk0_2
  refine lv_aload_n hx hb d_Rk_size_0 rfl (lv_at hl 0 rfl) ?_
  refine va_get (D := D) (ci := 4) (v := .int x0_2) (C := R_Rk) (T := F_Rk) (N := 5) hx hb hts i_Rk hown hK hP (k0) mk0_0 rfl 2 (by decide) (hts _ iw_86) (fun _ h9 => h9) rfl d_Rk_size_1 ?_
  have bk0_0 : wc_Rk cI cG cZ ad (k0) (x0_0, x0_1, x0_2, x0_3, x0_4) w0 := ⟨mk0_0, mk0_1, mk0_2⟩
  have e0 := Option.some.inj hf
  exact W.iret (v := x0_2) hx hb hr (fun t ht hW => ⟨⟨x0_2, w0, rfl, ⟨e0, fr⟩, by rw [ht]; exact hP, hD⟩, hS.F ht⟩) hS.2.2 d_Rk_size_4
set_option maxHeartbeats 4000000 in
set_option maxRecDepth 100000 in
theorem c_Rk_numberAt (l : Launch) (D : va_G) (cI cG cZ : ClassId) (ad : Nat → Nat) (B : Nat) (w0 : va_W) (N : Nat) (k0 : Nat) (x0_0 : (Nat → Int32)) (x0_1 : (Nat → Int32)) (x0_2 : Int32) (x0_3 : Int32) (x0_4 : Int32) (a1 : Int32) (r : Int32) (hf : f_Rk_numberAt N x0_0 a1 = some r) (bk0_0 : wc_Rk cI cG cZ ad k0 (x0_0, x0_1, x0_2, x0_3, x0_4) w0) : Met l y_Rk_numberAt (.code y_Rk_numberAt b_Rk_numberAt 2 (some .int) :: hw_G) ({ frames := 0, cells := 0, slots := 0, locals := 0 } : Room) (va_Pc [.ref (ad k0), .int a1] (hw_U D cI cG cZ B w0)) (va_Qi (fun (r1 : Int32) (w1 : va_W) => r1 = r ∧ w1 = w0) (hw_B D B) (fun q : Nat => B ≤ q)) 0 0 (fun q : Nat => B ≤ q) := by
  refine Met.ofW (cc := b_Rk_numberAt) (maxL := 2) (ret := (some .int)) (by decide) rfl ?_
  intro p e s m args below meth c s₁ Bd hml hv
  obtain ⟨rfl, hP, hD, hK, hN⟩ := hv
  have C0 : hw_C p s m meth c b_Rk_numberAt 2 _ R_Rk (some .int) := ⟨Bd.exec, Bd.bytes, Bd.returns, hml, findClass_of_methodNamed Bd.named, fun w h => atoms_spec (ws := .code y_Rk_numberAt b_Rk_numberAt 2 (some .int) :: hw_G) Bd.pre w (List.mem_cons_of_mem _ h), Bd.notSynchronized⟩
  obtain ⟨hx, hb, hr, -, hown, hts, hlocks⟩ := id C0
  have hS : va_S (fun q : Nat => B ≤ q) s.heap s.heap [] := va_S.rf
  have fr : w0 = w0 := rfl
  have hl := lv_entry ([.ref (ad k0), .int a1]) (n := 2) (Nat.le_of_ble_eq_true rfl)
  rw [lg_entry_eq]
  generalize (lg_sl ([.ref (ad k0), .int a1]) ++ List.replicate (2 - (lg_sl ([.ref (ad k0), .int a1])).length) Slot.unset).toArray = ls at hl ⊢
  have hl : lv_has ls 2 [(0, .ref (ad k0)), (1, .int a1)] := hl
  unfold f_Rk_numberAt at hf
  obtain ⟨mk0_0, mk0_1, mk0_2⟩ := id bk0_0
  have mk0_0 : w0[k0]? = some (ad k0, .inr (4, [.ref (ad (k0 + 1)), .ref (ad (k0 + 2)), .int x0_2, .int x0_3, .int x0_4])) := mk0_0
  have mk0_1 : w0[k0 + 1]? = some (ad (k0 + 1), .inl (cI, 30, .inl x0_0)) := mk0_1
  have mk0_2 : w0[k0 + 2]? = some (ad (k0 + 2), .inl (cI, 30, .inl x0_1)) := mk0_2
  refine lv_aload_n hx hb d_Rk_numberAt_0 rfl (lv_at hl 0 rfl) ?_
  refine va_get (D := D) (ci := 4) (v := .ref (ad (k0 + 1))) (C := R_Rk) (T := F_Rk) (N := 5) hx hb hts i_Rk hown hK hP (k0) mk0_0 rfl 0 (by decide) (hts _ iw_84) (fun _ h9 => h9) rfl d_Rk_numberAt_1 ?_
  refine lv_iload_n hx hb d_Rk_numberAt_4 rfl (lv_at hl 1 rfl) ?_
  obtain ⟨z1, hf⟩ := g_atE hf
  refine va_iald hx hb hK hP (k0 + 1) 0 mk0_1 rfl z1 d_Rk_numberAt_5 ?_
  have bk0_0 : wc_Rk cI cG cZ ad (k0) (x0_0, x0_1, x0_2, x0_3, x0_4) w0 := ⟨mk0_0, mk0_1, mk0_2⟩
  have e0 := Option.some.inj hf
  exact W.iret (v := x0_0 a1.toNatClampNeg) hx hb hr (fun t ht hW => ⟨⟨x0_0 a1.toNatClampNeg, w0, rfl, ⟨e0, fr⟩, by rw [ht]; exact hP, hD⟩, hS.F ht⟩) hS.2.2 d_Rk_numberAt_6
set_option maxHeartbeats 4000000 in
set_option maxRecDepth 100000 in
theorem c_Rk_changeRoom (l : Launch) (D : va_G) (cI cG cZ : ClassId) (ad : Nat → Nat) (B : Nat) (w0 : va_W) (N : Nat) (k0 : Nat) (x0_0 : (Nat → Int32)) (x0_1 : (Nat → Int32)) (x0_2 : Int32) (x0_3 : Int32) (x0_4 : Int32) (a1 : Int32) (y0_2 : Int32) (y0_3 : Int32) (hf : f_Rk_changeRoom N x0_2 a1 = some (y0_2, y0_3)) (bk0_0 : wc_Rk cI cG cZ ad k0 (x0_0, x0_1, x0_2, x0_3, x0_4) w0) : Met l y_Rk_changeRoom (.code y_Rk_changeRoom b_Rk_changeRoom 2 none :: hw_G) ({ frames := 1, cells := 0, slots := 0, locals := 21 } : Room) (va_Pc [.ref (ad k0), .int a1] (hw_U D cI cG cZ B w0)) (va_Qv (fun (w1 : va_W) => wc_Rk cI cG cZ ad k0 (x0_0, x0_1, y0_2, y0_3, x0_4) w1 ∧ (∀ j : Nat, (j < k0 ∨ k0 + 3 ≤ j) → w1[j]? = w0[j]?)) (hw_B D B) (fun q : Nat => B ≤ q)) 0 0 (fun q : Nat => B ≤ q) := by
  refine Met.ofW (cc := b_Rk_changeRoom) (maxL := 2) (ret := none) (by decide) rfl ?_
  intro p e s m args below meth c s₁ Bd hml hv
  obtain ⟨rfl, hP, hD, hK, hN⟩ := hv
  have C0 : hw_C p s m meth c b_Rk_changeRoom 2 _ R_Rk none := ⟨Bd.exec, Bd.bytes, Bd.returns, hml, findClass_of_methodNamed Bd.named, fun w h => atoms_spec (ws := .code y_Rk_changeRoom b_Rk_changeRoom 2 none :: hw_G) Bd.pre w (List.mem_cons_of_mem _ h), Bd.notSynchronized⟩
  obtain ⟨hx, hb, hr, -, hown, hts, hlocks⟩ := id C0
  have hS : va_S (fun q : Nat => B ≤ q) s.heap s.heap [] := va_S.rf
  have fr : ∀ j : Nat, (j < k0 ∨ k0 + 3 ≤ j) → w0[j]? = w0[j]? := fun j _ => rfl
  have hl := lv_entry ([.ref (ad k0), .int a1]) (n := 2) (Nat.le_of_ble_eq_true rfl)
  rw [lg_entry_eq]
  generalize (lg_sl ([.ref (ad k0), .int a1]) ++ List.replicate (2 - (lg_sl ([.ref (ad k0), .int a1])).length) Slot.unset).toArray = ls at hl ⊢
  have hl : lv_has ls 2 [(0, .ref (ad k0)), (1, .int a1)] := hl
  unfold f_Rk_changeRoom at hf
  obtain ⟨mk0_0, mk0_1, mk0_2⟩ := id bk0_0
  have mk0_0 : w0[k0]? = some (ad k0, .inr (4, [.ref (ad (k0 + 1)), .ref (ad (k0 + 2)), .int x0_2, .int x0_3, .int x0_4])) := mk0_0
  have mk0_1 : w0[k0 + 1]? = some (ad (k0 + 1), .inl (cI, 30, .inl x0_0)) := mk0_1
  have mk0_2 : w0[k0 + 2]? = some (ad (k0 + 2), .inl (cI, 30, .inl x0_1)) := mk0_2
  refine lv_aload_n hx hb d_Rk_changeRoom_0 rfl (lv_at hl 0 rfl) ?_
  refine lv_iload_n hx hb d_Rk_changeRoom_1 rfl (lv_at hl 1 rfl) ?_
  refine lv_bipush (v := 30) hx hb d_Rk_changeRoom_2 (by decide) ?_
  refine va_mmin hx hb (hml.trans hl.1.symm) hown (hts _ iw_234) (hts _ iw_min_static) (hts _ iw_math_init) (hts _ iw_min_code) (Nat.le_of_ble_eq_true rfl) (Nat.le_of_ble_eq_true rfl) (Nat.zero_le _) (Nat.zero_le _) d_Rk_changeRoom_4 ?_
  refine va_put (D := D) (ci := 4) (v := .int (if 30 < a1 then 30 else a1)) (ty := .int) (C := R_Rk) (T := F_Rk) (N := 5) hx hb hts i_Rk t_Rk t_Rk_ok n_Rk hown hK hP hD hS (k0) mk0_0 rfl 3 (by decide) (hts _ iw_87) (fun _ h9 => h9) rfl (by decide +kernel) rfl rfl (Nat.le_of_ble_eq_true rfl) d_Rk_changeRoom_7 (fun H locs hP hD hS => ?_)
  obtain ⟨w1, hP, hD, hne, heq⟩ := hs_up hP hD mk0_0
  have mk0_0 : w1[k0]? = some (ad k0, .inr (4, [.ref (ad (k0 + 1)), .ref (ad (k0 + 2)), .int x0_2, .int (if 30 < a1 then 30 else a1), .int x0_4])) := heq
  have mk0_1 : w1[k0 + 1]? = some (ad (k0 + 1), .inl (cI, 30, .inl x0_0)) := (hne _ (by omega)).trans mk0_1
  have mk0_2 : w1[k0 + 2]? = some (ad (k0 + 2), .inl (cI, 30, .inl x0_1)) := (hne _ (by omega)).trans mk0_2
  have fr : ∀ j : Nat, (j < k0 ∨ k0 + 3 ≤ j) → w1[j]? = w0[j]? := fun j o0 => (hne j (by omega)).trans (fr j o0)
  refine lv_aload_n hx hb d_Rk_changeRoom_10 rfl (lv_at hl 0 rfl) ?_
  refine lv_aload_n hx hb d_Rk_changeRoom_11 rfl (lv_at hl 0 rfl) ?_
  refine va_get (D := D) (ci := 4) (v := .int x0_2) (C := R_Rk) (T := F_Rk) (N := 5) hx hb hts i_Rk hown hK hP (k0) mk0_0 rfl 2 (by decide) (hts _ iw_86) (fun _ h9 => h9) rfl d_Rk_changeRoom_12 ?_
  refine lv_aload_n hx hb d_Rk_changeRoom_15 rfl (lv_at hl 0 rfl) ?_
  refine va_get (D := D) (ci := 4) (v := .int (if 30 < a1 then 30 else a1)) (C := R_Rk) (T := F_Rk) (N := 5) hx hb hts i_Rk hown hK hP (k0) mk0_0 rfl 3 (by decide) (hts _ iw_87) (fun _ h9 => h9) rfl d_Rk_changeRoom_16 ?_
  refine va_mmin hx hb (hml.trans hl.1.symm) hown (hts _ iw_234) (hts _ iw_min_static) (hts _ iw_math_init) (hts _ iw_min_code) (Nat.le_of_ble_eq_true rfl) (Nat.le_of_ble_eq_true rfl) (Nat.zero_le _) (Nat.zero_le _) d_Rk_changeRoom_19 ?_
  refine va_put (D := D) (ci := 4) (v := .int (if (if 30 < a1 then 30 else a1) < x0_2 then if 30 < a1 then 30 else a1 else x0_2)) (ty := .int) (C := R_Rk) (T := F_Rk) (N := 5) hx hb hts i_Rk t_Rk t_Rk_ok n_Rk hown hK hP hD hS (k0) mk0_0 rfl 2 (by decide) (hts _ iw_86) (fun _ h9 => h9) rfl (by decide +kernel) rfl rfl (Nat.le_of_ble_eq_true rfl) d_Rk_changeRoom_22 (fun H locs hP hD hS => ?_)
  obtain ⟨w2, hP, hD, hne, heq⟩ := hs_up hP hD mk0_0
  have mk0_0 : w2[k0]? = some (ad k0, .inr (4, [.ref (ad (k0 + 1)), .ref (ad (k0 + 2)), .int (if (if 30 < a1 then 30 else a1) < x0_2 then if 30 < a1 then 30 else a1 else x0_2), .int (if 30 < a1 then 30 else a1), .int x0_4])) := heq
  have mk0_1 : w2[k0 + 1]? = some (ad (k0 + 1), .inl (cI, 30, .inl x0_0)) := (hne _ (by omega)).trans mk0_1
  have mk0_2 : w2[k0 + 2]? = some (ad (k0 + 2), .inl (cI, 30, .inl x0_1)) := (hne _ (by omega)).trans mk0_2
  have fr : ∀ j : Nat, (j < k0 ∨ k0 + 3 ≤ j) → w2[j]? = w0[j]? := fun j o0 => (hne j (by omega)).trans (fr j o0)
  have bk0_0 : wc_Rk cI cG cZ ad (k0) (x0_0, x0_1, if (if 30 < a1 then 30 else a1) < x0_2 then if 30 < a1 then 30 else a1 else x0_2, if 30 < a1 then 30 else a1, x0_4) w2 := ⟨mk0_0, mk0_1, mk0_2⟩
  have he := Option.some.inj hf
  obtain ⟨e0, e1⟩ := Prod.mk.inj he
  have f0 : wc_Rk cI cG cZ ad (k0) (x0_0, x0_1, y0_2, y0_3, x0_4) w2 := by rw [← e0, ← e1]; exact bk0_0
  exact W.vret hx hb hr (fun t ht hW => ⟨⟨w2, rfl, ⟨f0, fr⟩, by rw [ht]; exact hP, hD⟩, hS.F ht⟩) hS.2.2 d_Rk_changeRoom_25
set_option maxHeartbeats 4000000 in
set_option maxRecDepth 100000 in
theorem c_Rk_valueAt (l : Launch) (D : va_G) (cI cG cZ : ClassId) (ad : Nat → Nat) (B : Nat) (w0 : va_W) (N : Nat) (k0 : Nat) (x0_0 : (Nat → Int32)) (x0_1 : (Nat → Int32)) (x0_2 : Int32) (x0_3 : Int32) (x0_4 : Int32) (a1 : Int32) (r : Int32) (hf : f_Rk_valueAt N x0_1 a1 = some r) (bk0_0 : wc_Rk cI cG cZ ad k0 (x0_0, x0_1, x0_2, x0_3, x0_4) w0) : Met l y_Rk_valueAt (.code y_Rk_valueAt b_Rk_valueAt 2 (some .int) :: hw_G) ({ frames := 0, cells := 0, slots := 0, locals := 0 } : Room) (va_Pc [.ref (ad k0), .int a1] (hw_U D cI cG cZ B w0)) (va_Qi (fun (r1 : Int32) (w1 : va_W) => r1 = r ∧ w1 = w0) (hw_B D B) (fun q : Nat => B ≤ q)) 0 0 (fun q : Nat => B ≤ q) := by
  refine Met.ofW (cc := b_Rk_valueAt) (maxL := 2) (ret := (some .int)) (by decide) rfl ?_
  intro p e s m args below meth c s₁ Bd hml hv
  obtain ⟨rfl, hP, hD, hK, hN⟩ := hv
  have C0 : hw_C p s m meth c b_Rk_valueAt 2 _ R_Rk (some .int) := ⟨Bd.exec, Bd.bytes, Bd.returns, hml, findClass_of_methodNamed Bd.named, fun w h => atoms_spec (ws := .code y_Rk_valueAt b_Rk_valueAt 2 (some .int) :: hw_G) Bd.pre w (List.mem_cons_of_mem _ h), Bd.notSynchronized⟩
  obtain ⟨hx, hb, hr, -, hown, hts, hlocks⟩ := id C0
  have hS : va_S (fun q : Nat => B ≤ q) s.heap s.heap [] := va_S.rf
  have fr : w0 = w0 := rfl
  have hl := lv_entry ([.ref (ad k0), .int a1]) (n := 2) (Nat.le_of_ble_eq_true rfl)
  rw [lg_entry_eq]
  generalize (lg_sl ([.ref (ad k0), .int a1]) ++ List.replicate (2 - (lg_sl ([.ref (ad k0), .int a1])).length) Slot.unset).toArray = ls at hl ⊢
  have hl : lv_has ls 2 [(0, .ref (ad k0)), (1, .int a1)] := hl
  unfold f_Rk_valueAt at hf
  obtain ⟨mk0_0, mk0_1, mk0_2⟩ := id bk0_0
  have mk0_0 : w0[k0]? = some (ad k0, .inr (4, [.ref (ad (k0 + 1)), .ref (ad (k0 + 2)), .int x0_2, .int x0_3, .int x0_4])) := mk0_0
  have mk0_1 : w0[k0 + 1]? = some (ad (k0 + 1), .inl (cI, 30, .inl x0_0)) := mk0_1
  have mk0_2 : w0[k0 + 2]? = some (ad (k0 + 2), .inl (cI, 30, .inl x0_1)) := mk0_2
  refine lv_aload_n hx hb d_Rk_valueAt_0 rfl (lv_at hl 0 rfl) ?_
  refine va_get (D := D) (ci := 4) (v := .ref (ad (k0 + 2))) (C := R_Rk) (T := F_Rk) (N := 5) hx hb hts i_Rk hown hK hP (k0) mk0_0 rfl 1 (by decide) (hts _ iw_85) (fun _ h9 => h9) rfl d_Rk_valueAt_1 ?_
  refine lv_iload_n hx hb d_Rk_valueAt_4 rfl (lv_at hl 1 rfl) ?_
  obtain ⟨z1, hf⟩ := g_atE hf
  refine va_iald hx hb hK hP (k0 + 2) 0 mk0_2 rfl z1 d_Rk_valueAt_5 ?_
  have bk0_0 : wc_Rk cI cG cZ ad (k0) (x0_0, x0_1, x0_2, x0_3, x0_4) w0 := ⟨mk0_0, mk0_1, mk0_2⟩
  have e0 := Option.some.inj hf
  exact W.iret (v := x0_1 a1.toNatClampNeg) hx hb hr (fun t ht hW => ⟨⟨x0_1 a1.toNatClampNeg, w0, rfl, ⟨e0, fr⟩, by rw [ht]; exact hP, hD⟩, hS.F ht⟩) hS.2.2 d_Rk_valueAt_6
set_option maxHeartbeats 4000000 in
set_option maxRecDepth 100000 in
theorem wl_Rk_dropFirst_2 {p : Program} {l : Launch} {e : Env} {s : State} {m : MethodId} {args : Array Value} {below : List Frame} {meth : Method} {c : Code} {D : va_G} {cI cG cZ : ClassId} {ad : Nat → Nat} {B : Nat} {w0 : va_W} {N : Nat} {k0 : Nat} (C0 : hw_C p s m meth c b_Rk_dropFirst 2 args R_Rk none) (hK : va_K D classes [(cI, .int), (cG, .array .int), (cZ, .boolean)] s) (hN : hw_N s) (x0_2 : Int32) (x0_3 : Int32) (x0_4 : Int32) (x0_0 : (Nat → Int32)) (x0_1 : (Nat → Int32)) (y0_0 : (Nat → Int32)) (y0_1 : (Nat → Int32)) (y0_2 : Int32) : ∀ (n : Nat) (vak0_1 : (Nat → Int32)) (vak0_2 : (Nat → Int32)) (v1 : Int32) (ws : va_W) (H : Heap) (locs : List Loc) (ls : Array Slot), va_P D classes ws H → va_D (fun q : Nat => B ≤ q) ws → va_S (fun q : Nat => B ≤ q) s.heap H locs → lv_has ls 2 [(1, .int v1), (0, .ref (ad k0))] → ws[k0]? = some (ad k0, .inr (4, [.ref (ad (k0 + 1)), .ref (ad (k0 + 2)), .int x0_2, .int x0_3, .int x0_4])) → ws[k0 + 1]? = some (ad (k0 + 1), .inl (cI, 30, .inl vak0_1)) → ws[k0 + 2]? = some (ad (k0 + 2), .inl (cI, 30, .inl vak0_2)) → (∀ j : Nat, (j < k0 ∨ k0 + 3 ≤ j) → ws[j]? = w0[j]?) → f_Rk_dropFirst_2 N x0_2 n vak0_1 vak0_2 v1 = some (y0_0, y0_1, y0_2) → W p l e ({ frames := 1, cells := 0, slots := 0, locals := 21 } : Room) s m args below meth c H locs 0 0 (MQ below (va_Qv (fun (w1 : va_W) => wc_Rk cI cG cZ ad k0 (y0_0, y0_1, y0_2, x0_3, x0_4) w1 ∧ (∀ j : Nat, (j < k0 ∨ k0 + 3 ≤ j) → w1[j]? = w0[j]?)) (hw_B D B) (fun q : Nat => B ≤ q)) args s 0 0 (fun q : Nat => B ≤ q)) (F0 m 2 ls []) := by
  obtain ⟨hx, hb, hr, hml, hown, hts, hlocks⟩ := id C0
  intro n
  induction n with
  | zero =>
    intro vak0_1 vak0_2 v1 ws H locs ls hP hD hS hl mk0_0 mk0_1 mk0_2 fr hf
    exact nomatch (show none = some _ from hf)
  | succ n ih =>
    intro vak0_1 vak0_2 v1 ws H locs ls hP hD hS hl mk0_0 mk0_1 mk0_2 fr hf
    rw [f_Rk_dropFirst_2] at hf
    refine lv_iload_n hx hb d_Rk_dropFirst_2 rfl (lv_at hl 0 rfl) ?_
    refine lv_aload_n hx hb d_Rk_dropFirst_3 rfl (lv_at hl 1 rfl) ?_
    refine va_get (D := D) (ci := 4) (v := .int x0_2) (C := R_Rk) (T := F_Rk) (N := 5) hx hb hts i_Rk hown hK hP (k0) mk0_0 rfl 2 (by decide) (hts _ iw_86) (fun _ h9 => h9) rfl d_Rk_dropFirst_4 ?_
    refine lv_icmp_ge (tgt := 44) hx hb d_Rk_dropFirst_7 (by decide) (fun c1 => ?_) (fun c1 => ?_)
    · rw [if_pos c1] at hf
      refine lv_aload_n hx hb d_Rk_dropFirst_44 rfl (lv_at hl 1 rfl) ?_
      refine lv_iconst (v := 0) hx hb d_Rk_dropFirst_45 (by decide) ?_
      refine lv_aload_n hx hb d_Rk_dropFirst_46 rfl (lv_at hl 1 rfl) ?_
      refine va_get (D := D) (ci := 4) (v := .int x0_2) (C := R_Rk) (T := F_Rk) (N := 5) hx hb hts i_Rk hown hK hP (k0) mk0_0 rfl 2 (by decide) (hts _ iw_86) (fun _ h9 => h9) rfl d_Rk_dropFirst_47 ?_
      refine lv_iconst (v := 1) hx hb d_Rk_dropFirst_50 (by decide) ?_
      refine lv_isub hx hb d_Rk_dropFirst_51 ?_
      refine va_mmax hx hb (hml.trans hl.1.symm) hown (hts _ iw_281) (hts _ iw_max_static) (hts _ iw_math_init) (hts _ iw_max_code) (Nat.le_of_ble_eq_true rfl) (Nat.le_of_ble_eq_true rfl) (Nat.zero_le _) (Nat.zero_le _) d_Rk_dropFirst_52 ?_
      refine va_put (D := D) (ci := 4) (v := .int (if 0 < (x0_2 - 1) then x0_2 - 1 else 0)) (ty := .int) (C := R_Rk) (T := F_Rk) (N := 5) hx hb hts i_Rk t_Rk t_Rk_ok n_Rk hown hK hP hD hS (k0) mk0_0 rfl 2 (by decide) (hts _ iw_86) (fun _ h9 => h9) rfl (by decide +kernel) rfl rfl (Nat.le_of_ble_eq_true rfl) d_Rk_dropFirst_55 (fun H locs hP hD hS => ?_)
      obtain ⟨w2, hP, hD, hne, heq⟩ := hs_up hP hD mk0_0
      have mk0_0 : w2[k0]? = some (ad k0, .inr (4, [.ref (ad (k0 + 1)), .ref (ad (k0 + 2)), .int (if 0 < (x0_2 - 1) then x0_2 - 1 else 0), .int x0_3, .int x0_4])) := heq
      have mk0_1 : w2[k0 + 1]? = some (ad (k0 + 1), .inl (cI, 30, .inl vak0_1)) := (hne _ (by omega)).trans mk0_1
      have mk0_2 : w2[k0 + 2]? = some (ad (k0 + 2), .inl (cI, 30, .inl vak0_2)) := (hne _ (by omega)).trans mk0_2
      have fr : ∀ j : Nat, (j < k0 ∨ k0 + 3 ≤ j) → w2[j]? = w0[j]? := fun j o0 => (hne j (by omega)).trans (fr j o0)
      have bk0_0 : wc_Rk cI cG cZ ad (k0) (vak0_1, vak0_2, if 0 < (x0_2 - 1) then x0_2 - 1 else 0, x0_3, x0_4) w2 := ⟨mk0_0, mk0_1, mk0_2⟩
      have he := Option.some.inj hf
      obtain ⟨e0, he⟩ := Prod.mk.inj he
      obtain ⟨e1, e2⟩ := Prod.mk.inj he
      have f0 : wc_Rk cI cG cZ ad (k0) (y0_0, y0_1, y0_2, x0_3, x0_4) w2 := by rw [← e0, ← e1, ← e2]; exact bk0_0
      exact W.vret hx hb hr (fun t ht hW => ⟨⟨w2, rfl, ⟨f0, fr⟩, by rw [ht]; exact hP, hD⟩, hS.F ht⟩) hS.2.2 d_Rk_dropFirst_58
    · rw [if_neg c1] at hf
      refine lv_aload_n hx hb d_Rk_dropFirst_10 rfl (lv_at hl 1 rfl) ?_
      refine va_get (D := D) (ci := 4) (v := .ref (ad (k0 + 1))) (C := R_Rk) (T := F_Rk) (N := 5) hx hb hts i_Rk hown hK hP (k0) mk0_0 rfl 0 (by decide) (hts _ iw_84) (fun _ h9 => h9) rfl d_Rk_dropFirst_11 ?_
      refine lv_iload_n hx hb d_Rk_dropFirst_14 rfl (lv_at hl 0 rfl) ?_
      refine lv_iconst (v := 1) hx hb d_Rk_dropFirst_15 (by decide) ?_
      refine lv_isub hx hb d_Rk_dropFirst_16 ?_
      refine lv_aload_n hx hb d_Rk_dropFirst_17 rfl (lv_at hl 1 rfl) ?_
      refine va_get (D := D) (ci := 4) (v := .ref (ad (k0 + 1))) (C := R_Rk) (T := F_Rk) (N := 5) hx hb hts i_Rk hown hK hP (k0) mk0_0 rfl 0 (by decide) (hts _ iw_84) (fun _ h9 => h9) rfl d_Rk_dropFirst_18 ?_
      refine lv_iload_n hx hb d_Rk_dropFirst_21 rfl (lv_at hl 0 rfl) ?_
      obtain ⟨z3, hf⟩ := g_atE hf
      refine va_iald hx hb hK hP (k0 + 1) 0 mk0_1 rfl z3 d_Rk_dropFirst_22 ?_
      obtain ⟨z4, hf⟩ := g_atE hf
      refine va_iast hx hb hK hP hD hS (k0 + 1) 0 mk0_1 rfl z4 d_Rk_dropFirst_23 (fun H locs hP hD hS => ?_)
      obtain ⟨w5, hP, hD, hne, heq⟩ := hs_up hP hD mk0_1
      have mk0_1 : w5[k0 + 1]? = some (ad (k0 + 1), .inl (cI, 30, .inl (upd vak0_1 (v1 - 1).toNatClampNeg (vak0_1 v1.toNatClampNeg)))) := heq
      have mk0_0 : w5[k0]? = some (ad k0, .inr (4, [.ref (ad (k0 + 1)), .ref (ad (k0 + 2)), .int x0_2, .int x0_3, .int x0_4])) := (hne _ (by omega)).trans mk0_0
      have mk0_2 : w5[k0 + 2]? = some (ad (k0 + 2), .inl (cI, 30, .inl vak0_2)) := (hne _ (by omega)).trans mk0_2
      have fr : ∀ j : Nat, (j < k0 ∨ k0 + 3 ≤ j) → w5[j]? = w0[j]? := fun j o0 => (hne j (by omega)).trans (fr j o0)
      refine lv_aload_n hx hb d_Rk_dropFirst_24 rfl (lv_at hl 1 rfl) ?_
      refine va_get (D := D) (ci := 4) (v := .ref (ad (k0 + 2))) (C := R_Rk) (T := F_Rk) (N := 5) hx hb hts i_Rk hown hK hP (k0) mk0_0 rfl 1 (by decide) (hts _ iw_85) (fun _ h9 => h9) rfl d_Rk_dropFirst_25 ?_
      refine lv_iload_n hx hb d_Rk_dropFirst_28 rfl (lv_at hl 0 rfl) ?_
      refine lv_iconst (v := 1) hx hb d_Rk_dropFirst_29 (by decide) ?_
      refine lv_isub hx hb d_Rk_dropFirst_30 ?_
      refine lv_aload_n hx hb d_Rk_dropFirst_31 rfl (lv_at hl 1 rfl) ?_
      refine va_get (D := D) (ci := 4) (v := .ref (ad (k0 + 2))) (C := R_Rk) (T := F_Rk) (N := 5) hx hb hts i_Rk hown hK hP (k0) mk0_0 rfl 1 (by decide) (hts _ iw_85) (fun _ h9 => h9) rfl d_Rk_dropFirst_32 ?_
      refine lv_iload_n hx hb d_Rk_dropFirst_35 rfl (lv_at hl 0 rfl) ?_
      obtain ⟨z6, hf⟩ := g_atE hf
      refine va_iald hx hb hK hP (k0 + 2) 0 mk0_2 rfl z6 d_Rk_dropFirst_36 ?_
      obtain ⟨z7, hf⟩ := g_atE hf
      refine va_iast hx hb hK hP hD hS (k0 + 2) 0 mk0_2 rfl z7 d_Rk_dropFirst_37 (fun H locs hP hD hS => ?_)
      obtain ⟨w8, hP, hD, hne, heq⟩ := hs_up hP hD mk0_2
      have mk0_2 : w8[k0 + 2]? = some (ad (k0 + 2), .inl (cI, 30, .inl (upd vak0_2 (v1 - 1).toNatClampNeg (vak0_2 v1.toNatClampNeg)))) := heq
      have mk0_0 : w8[k0]? = some (ad k0, .inr (4, [.ref (ad (k0 + 1)), .ref (ad (k0 + 2)), .int x0_2, .int x0_3, .int x0_4])) := (hne _ (by omega)).trans mk0_0
      have mk0_1 : w8[k0 + 1]? = some (ad (k0 + 1), .inl (cI, 30, .inl (upd vak0_1 (v1 - 1).toNatClampNeg (vak0_1 v1.toNatClampNeg)))) := (hne _ (by omega)).trans mk0_1
      have fr : ∀ j : Nat, (j < k0 ∨ k0 + 3 ≤ j) → w8[j]? = w0[j]? := fun j o0 => (hne j (by omega)).trans (fr j o0)
      refine lv_iinc (v := v1 + 1) (lv' := [(1, .int (v1 + 1)), (0, .ref (ad k0))]) hx hb d_Rk_dropFirst_38 hl (k := 0) rfl rfl (by decide) rfl (fun ls hl => ?_)
      refine lv_goto (tgt := 2) hx hb d_Rk_dropFirst_41 (by decide) ?_
      exact ih (upd vak0_1 (v1 - 1).toNatClampNeg (vak0_1 v1.toNatClampNeg)) (upd vak0_2 (v1 - 1).toNatClampNeg (vak0_2 v1.toNatClampNeg)) (v1 + 1) _ _ _ _ hP hD hS (lv_sub hl [0, 1] rfl) mk0_0 mk0_1 mk0_2 fr hf
set_option maxHeartbeats 4000000 in
set_option maxRecDepth 100000 in
theorem c_Rk_dropFirst (l : Launch) (D : va_G) (cI cG cZ : ClassId) (ad : Nat → Nat) (B : Nat) (w0 : va_W) (N : Nat) (k0 : Nat) (x0_0 : (Nat → Int32)) (x0_1 : (Nat → Int32)) (x0_2 : Int32) (x0_3 : Int32) (x0_4 : Int32) (y0_0 : (Nat → Int32)) (y0_1 : (Nat → Int32)) (y0_2 : Int32) (hf : f_Rk_dropFirst N x0_0 x0_1 x0_2 = some (y0_0, y0_1, y0_2)) (bk0_0 : wc_Rk cI cG cZ ad k0 (x0_0, x0_1, x0_2, x0_3, x0_4) w0) : Met l y_Rk_dropFirst (.code y_Rk_dropFirst b_Rk_dropFirst 2 none :: hw_G) ({ frames := 1, cells := 0, slots := 0, locals := 21 } : Room) (va_Pc [.ref (ad k0)] (hw_U D cI cG cZ B w0)) (va_Qv (fun (w1 : va_W) => wc_Rk cI cG cZ ad k0 (y0_0, y0_1, y0_2, x0_3, x0_4) w1 ∧ (∀ j : Nat, (j < k0 ∨ k0 + 3 ≤ j) → w1[j]? = w0[j]?)) (hw_B D B) (fun q : Nat => B ≤ q)) 0 0 (fun q : Nat => B ≤ q) := by
  refine Met.ofW (cc := b_Rk_dropFirst) (maxL := 2) (ret := none) (by decide) rfl ?_
  intro p e s m args below meth c s₁ Bd hml hv
  obtain ⟨rfl, hP, hD, hK, hN⟩ := hv
  have C0 : hw_C p s m meth c b_Rk_dropFirst 2 _ R_Rk none := ⟨Bd.exec, Bd.bytes, Bd.returns, hml, findClass_of_methodNamed Bd.named, fun w h => atoms_spec (ws := .code y_Rk_dropFirst b_Rk_dropFirst 2 none :: hw_G) Bd.pre w (List.mem_cons_of_mem _ h), Bd.notSynchronized⟩
  obtain ⟨hx, hb, hr, -, hown, hts, hlocks⟩ := id C0
  have hS : va_S (fun q : Nat => B ≤ q) s.heap s.heap [] := va_S.rf
  have fr : ∀ j : Nat, (j < k0 ∨ k0 + 3 ≤ j) → w0[j]? = w0[j]? := fun j _ => rfl
  have hl := lv_entry ([.ref (ad k0)]) (n := 2) (Nat.le_of_ble_eq_true rfl)
  rw [lg_entry_eq]
  generalize (lg_sl ([.ref (ad k0)]) ++ List.replicate (2 - (lg_sl ([.ref (ad k0)])).length) Slot.unset).toArray = ls at hl ⊢
  have hl : lv_has ls 2 [(0, .ref (ad k0))] := hl
  unfold f_Rk_dropFirst at hf
  obtain ⟨mk0_0, mk0_1, mk0_2⟩ := id bk0_0
  have mk0_0 : w0[k0]? = some (ad k0, .inr (4, [.ref (ad (k0 + 1)), .ref (ad (k0 + 2)), .int x0_2, .int x0_3, .int x0_4])) := mk0_0
  have mk0_1 : w0[k0 + 1]? = some (ad (k0 + 1), .inl (cI, 30, .inl x0_0)) := mk0_1
  have mk0_2 : w0[k0 + 2]? = some (ad (k0 + 2), .inl (cI, 30, .inl x0_1)) := mk0_2
  refine lv_iconst (v := 1) hx hb d_Rk_dropFirst_0 (by decide) ?_
  refine lv_istore_n (lv' := [(1, .int 1), (0, .ref (ad k0))]) hx hb d_Rk_dropFirst_1 rfl hl (by decide) rfl (fun ls hl => ?_)
  exact wl_Rk_dropFirst_2 (ad := ad) C0 hK hN x0_2 x0_3 x0_4 x0_0 x0_1 y0_0 y0_1 y0_2 N x0_0 x0_1 1 _ _ _ _ hP hD hS (lv_sub hl [0, 1] rfl) mk0_0 mk0_1 mk0_2 fr hf
set_option maxHeartbeats 4000000 in
set_option maxRecDepth 100000 in
theorem c_Rk_lastPrecedes (l : Launch) (D : va_G) (cI cG cZ : ClassId) (ad : Nat → Nat) (B : Nat) (w0 : va_W) (N : Nat) (k0 : Nat) (x0_0 : (Nat → Int32)) (x0_1 : (Nat → Int32)) (x0_2 : Int32) (x0_3 : Int32) (x0_4 : Int32) (a1 : Int32) (a2 : Int32) (r : Int32) (hf : f_Rk_lastPrecedes N x0_0 x0_1 x0_2 x0_4 a1 a2 = some r) (bk0_0 : wc_Rk cI cG cZ ad k0 (x0_0, x0_1, x0_2, x0_3, x0_4) w0) : Met l y_Rk_lastPrecedes (.code y_Rk_lastPrecedes b_Rk_lastPrecedes 3 (some .boolean) :: hw_G) ({ frames := 1, cells := 0, slots := 0, locals := 24 } : Room) (va_Pc [.ref (ad k0), .int a1, .int a2] (hw_U D cI cG cZ B w0)) (va_Qi (fun (r1 : Int32) (w1 : va_W) => r1 = r ∧ w1 = w0) (hw_B D B) (fun q : Nat => B ≤ q)) 0 0 (fun q : Nat => B ≤ q) := by
  refine Met.ofW (cc := b_Rk_lastPrecedes) (maxL := 3) (ret := (some .boolean)) (by decide) rfl ?_
  intro p e s m args below meth c s₁ Bd hml hv
  obtain ⟨rfl, hP, hD, hK, hN⟩ := hv
  have C0 : hw_C p s m meth c b_Rk_lastPrecedes 3 _ R_Rk (some .boolean) := ⟨Bd.exec, Bd.bytes, Bd.returns, hml, findClass_of_methodNamed Bd.named, fun w h => atoms_spec (ws := .code y_Rk_lastPrecedes b_Rk_lastPrecedes 3 (some .boolean) :: hw_G) Bd.pre w (List.mem_cons_of_mem _ h), Bd.notSynchronized⟩
  obtain ⟨hx, hb, hr, -, hown, hts, hlocks⟩ := id C0
  have hS : va_S (fun q : Nat => B ≤ q) s.heap s.heap [] := va_S.rf
  have fr : w0 = w0 := rfl
  have hl := lv_entry ([.ref (ad k0), .int a1, .int a2]) (n := 3) (Nat.le_of_ble_eq_true rfl)
  rw [lg_entry_eq]
  generalize (lg_sl ([.ref (ad k0), .int a1, .int a2]) ++ List.replicate (3 - (lg_sl ([.ref (ad k0), .int a1, .int a2])).length) Slot.unset).toArray = ls at hl ⊢
  have hl : lv_has ls 3 [(0, .ref (ad k0)), (1, .int a1), (2, .int a2)] := hl
  unfold f_Rk_lastPrecedes at hf
  obtain ⟨mk0_0, mk0_1, mk0_2⟩ := id bk0_0
  have mk0_0 : w0[k0]? = some (ad k0, .inr (4, [.ref (ad (k0 + 1)), .ref (ad (k0 + 2)), .int x0_2, .int x0_3, .int x0_4])) := mk0_0
  have mk0_1 : w0[k0 + 1]? = some (ad (k0 + 1), .inl (cI, 30, .inl x0_0)) := mk0_1
  have mk0_2 : w0[k0 + 2]? = some (ad (k0 + 2), .inl (cI, 30, .inl x0_1)) := mk0_2
  refine lv_aload_n hx hb d_Rk_lastPrecedes_0 rfl (lv_at hl 0 rfl) ?_
  refine va_get (D := D) (ci := 4) (v := .int x0_2) (C := R_Rk) (T := F_Rk) (N := 5) hx hb hts i_Rk hown hK hP (k0) mk0_0 rfl 2 (by decide) (hts _ iw_86) (fun _ h9 => h9) rfl d_Rk_lastPrecedes_1 ?_
  refine lv_if_le (tgt := 42) hx hb d_Rk_lastPrecedes_4 (by decide) (fun c1 => ?_) (fun c1 => ?_)
  · rw [if_pos c1] at hf
    refine lv_iconst (v := 0) hx hb d_Rk_lastPrecedes_42 (by decide) ?_
    have bk0_0 : wc_Rk cI cG cZ ad (k0) (x0_0, x0_1, x0_2, x0_3, x0_4) w0 := ⟨mk0_0, mk0_1, mk0_2⟩
    have e0 := Option.some.inj hf
    exact W.zret (v := 0) hx hb hr (by decide) (fun t ht hW => ⟨⟨0, w0, rfl, ⟨e0, fr⟩, by rw [ht]; exact hP, hD⟩, hS.F ht⟩) hS.2.2 d_Rk_lastPrecedes_43
  · rw [if_neg c1] at hf
    refine lv_aload_n hx hb d_Rk_lastPrecedes_7 rfl (lv_at hl 0 rfl) ?_
    refine lv_aload_n hx hb d_Rk_lastPrecedes_8 rfl (lv_at hl 0 rfl) ?_
    refine va_get (D := D) (ci := 4) (v := .ref (ad (k0 + 1))) (C := R_Rk) (T := F_Rk) (N := 5) hx hb hts i_Rk hown hK hP (k0) mk0_0 rfl 0 (by decide) (hts _ iw_84) (fun _ h9 => h9) rfl d_Rk_lastPrecedes_9 ?_
    refine lv_aload_n hx hb d_Rk_lastPrecedes_12 rfl (lv_at hl 0 rfl) ?_
    refine va_get (D := D) (ci := 4) (v := .int x0_2) (C := R_Rk) (T := F_Rk) (N := 5) hx hb hts i_Rk hown hK hP (k0) mk0_0 rfl 2 (by decide) (hts _ iw_86) (fun _ h9 => h9) rfl d_Rk_lastPrecedes_13 ?_
    refine lv_iconst (v := 1) hx hb d_Rk_lastPrecedes_16 (by decide) ?_
    refine lv_isub hx hb d_Rk_lastPrecedes_17 ?_
    obtain ⟨z2, hf⟩ := g_atE hf
    refine va_iald hx hb hK hP (k0 + 1) 0 mk0_1 rfl z2 d_Rk_lastPrecedes_18 ?_
    refine lv_aload_n hx hb d_Rk_lastPrecedes_19 rfl (lv_at hl 0 rfl) ?_
    refine va_get (D := D) (ci := 4) (v := .ref (ad (k0 + 2))) (C := R_Rk) (T := F_Rk) (N := 5) hx hb hts i_Rk hown hK hP (k0) mk0_0 rfl 1 (by decide) (hts _ iw_85) (fun _ h9 => h9) rfl d_Rk_lastPrecedes_20 ?_
    refine lv_aload_n hx hb d_Rk_lastPrecedes_23 rfl (lv_at hl 0 rfl) ?_
    refine va_get (D := D) (ci := 4) (v := .int x0_2) (C := R_Rk) (T := F_Rk) (N := 5) hx hb hts i_Rk hown hK hP (k0) mk0_0 rfl 2 (by decide) (hts _ iw_86) (fun _ h9 => h9) rfl d_Rk_lastPrecedes_24 ?_
    refine lv_iconst (v := 1) hx hb d_Rk_lastPrecedes_27 (by decide) ?_
    refine lv_isub hx hb d_Rk_lastPrecedes_28 ?_
    obtain ⟨z3, hf⟩ := g_atE hf
    refine va_iald hx hb hK hP (k0 + 2) 0 mk0_2 rfl z3 d_Rk_lastPrecedes_29 ?_
    refine lv_iload_n hx hb d_Rk_lastPrecedes_30 rfl (lv_at hl 1 rfl) ?_
    refine lv_iload_n hx hb d_Rk_lastPrecedes_31 rfl (lv_at hl 2 rfl) ?_
    have bk0_0 : wc_Rk cI cG cZ ad (k0) (x0_0, x0_1, x0_2, x0_3, x0_4) w0 := ⟨mk0_0, mk0_1, mk0_2⟩
    obtain ⟨p4, hp4, hf⟩ := g_bd hf
    refine hw_ci0 (va_runV (As := [.int (x0_0 (x0_2 - 1).toNatClampNeg), .int (x0_1 (x0_2 - 1).toNatClampNeg), .int a1, .int a2]) (rest := []) ⟨hx, hb, hml, hown, hts⟩ (c_Rk_precedes l D cI cG cZ ad B w0 N k0 x0_0 x0_1 x0_2 x0_3 x0_4 (x0_0 (x0_2 - 1).toNatClampNeg) (x0_1 (x0_2 - 1).toNatClampNeg) a1 a2 p4 hp4 bk0_0) (cwV 4 hts (hw_gV iw_245 gy_Rk_precedes) rfl rfl rfl (by decide +kernel) ⟨Nat.le_of_ble_eq_true rfl, Nat.le_of_ble_eq_true rfl⟩) ⟨hw_blind, va_recv hK hP (ci := 4) (q0 := k0) rfl bk0_0.1, hw_go hP hD hK hN⟩ rfl rfl hl.1 rfl (lv_room (Nat.le_of_ble_eq_true rfl)) d_Rk_lastPrecedes_32 ⟨Nat.zero_le _, Nat.zero_le _⟩) hS (fun H locs hP hD hS => ?_)
    refine lv_if_eq (tgt := 42) hx hb d_Rk_lastPrecedes_35 (by decide) (fun c5 => ?_) (fun c5 => ?_)
    · rw [if_pos c5] at hf
      refine lv_iconst (v := 0) hx hb d_Rk_lastPrecedes_42 (by decide) ?_
      have e0 := Option.some.inj hf
      exact W.zret (v := 0) hx hb hr (by decide) (fun t ht hW => ⟨⟨0, w0, rfl, ⟨e0, fr⟩, by rw [ht]; exact hP, hD⟩, hS.F ht⟩) hS.2.2 d_Rk_lastPrecedes_43
    · rw [if_neg c5] at hf
      refine lv_iconst (v := 1) hx hb d_Rk_lastPrecedes_38 (by decide) ?_
      refine lv_goto (tgt := 43) hx hb d_Rk_lastPrecedes_39 (by decide) ?_
      have e0 := Option.some.inj hf
      exact W.zret (v := 1) hx hb hr (by decide) (fun t ht hW => ⟨⟨1, w0, rfl, ⟨e0, fr⟩, by rw [ht]; exact hP, hD⟩, hS.F ht⟩) hS.2.2 d_Rk_lastPrecedes_43
set_option maxHeartbeats 4000000 in
set_option maxRecDepth 100000 in
theorem wl_Rk_holds_2 {p : Program} {l : Launch} {e : Env} {s : State} {m : MethodId} {args : Array Value} {below : List Frame} {meth : Method} {c : Code} {D : va_G} {cI cG cZ : ClassId} {ad : Nat → Nat} {B : Nat} {w0 : va_W} {N : Nat} {k0 : Nat} (C0 : hw_C p s m meth c b_Rk_holds 3 args R_Rk (some .boolean)) (hK : va_K D classes [(cI, .int), (cG, .array .int), (cZ, .boolean)] s) (hN : hw_N s) (x0_0 : (Nat → Int32)) (x0_1 : (Nat → Int32)) (x0_2 : Int32) (x0_3 : Int32) (x0_4 : Int32) (a1 : Int32) (r : Int32) : ∀ (n : Nat) (v2 : Int32) (ws : va_W) (H : Heap) (locs : List Loc) (ls : Array Slot), va_P D classes ws H → va_D (fun q : Nat => B ≤ q) ws → va_S (fun q : Nat => B ≤ q) s.heap H locs → lv_has ls 3 [(2, .int v2), (0, .ref (ad k0)), (1, .int a1)] → ws[k0]? = some (ad k0, .inr (4, [.ref (ad (k0 + 1)), .ref (ad (k0 + 2)), .int x0_2, .int x0_3, .int x0_4])) → ws[k0 + 1]? = some (ad (k0 + 1), .inl (cI, 30, .inl x0_0)) → ws[k0 + 2]? = some (ad (k0 + 2), .inl (cI, 30, .inl x0_1)) → (ws = w0) → f_Rk_holds_2 N x0_0 x0_2 a1 n v2 = some r → W p l e ({ frames := 0, cells := 0, slots := 0, locals := 0 } : Room) s m args below meth c H locs 0 0 (MQ below (va_Qi (fun (r1 : Int32) (w1 : va_W) => r1 = r ∧ w1 = w0) (hw_B D B) (fun q : Nat => B ≤ q)) args s 0 0 (fun q : Nat => B ≤ q)) (F0 m 2 ls []) := by
  obtain ⟨hx, hb, hr, hml, hown, hts, hlocks⟩ := id C0
  intro n
  induction n with
  | zero =>
    intro v2 ws H locs ls hP hD hS hl mk0_0 mk0_1 mk0_2 fr hf
    exact nomatch (show none = some _ from hf)
  | succ n ih =>
    intro v2 ws H locs ls hP hD hS hl mk0_0 mk0_1 mk0_2 fr hf
    rw [f_Rk_holds_2] at hf
    refine lv_iload_n hx hb d_Rk_holds_2 rfl (lv_at hl 0 rfl) ?_
    refine lv_aload_n hx hb d_Rk_holds_3 rfl (lv_at hl 1 rfl) ?_
    refine va_get (D := D) (ci := 4) (v := .int x0_2) (C := R_Rk) (T := F_Rk) (N := 5) hx hb hts i_Rk hown hK hP (k0) mk0_0 rfl 2 (by decide) (hts _ iw_86) (fun _ h9 => h9) rfl d_Rk_holds_4 ?_
    refine lv_icmp_ge (tgt := 28) hx hb d_Rk_holds_7 (by decide) (fun c1 => ?_) (fun c1 => ?_)
    · rw [if_pos c1] at hf
      refine lv_iconst (v := 0) hx hb d_Rk_holds_28 (by decide) ?_
      have bk0_0 : wc_Rk cI cG cZ ad (k0) (x0_0, x0_1, x0_2, x0_3, x0_4) ws := ⟨mk0_0, mk0_1, mk0_2⟩
      have e0 := Option.some.inj hf
      exact W.zret (v := 0) hx hb hr (by decide) (fun t ht hW => ⟨⟨0, ws, rfl, ⟨e0, fr⟩, by rw [ht]; exact hP, hD⟩, hS.F ht⟩) hS.2.2 d_Rk_holds_29
    · rw [if_neg c1] at hf
      refine lv_aload_n hx hb d_Rk_holds_10 rfl (lv_at hl 1 rfl) ?_
      refine va_get (D := D) (ci := 4) (v := .ref (ad (k0 + 1))) (C := R_Rk) (T := F_Rk) (N := 5) hx hb hts i_Rk hown hK hP (k0) mk0_0 rfl 0 (by decide) (hts _ iw_84) (fun _ h9 => h9) rfl d_Rk_holds_11 ?_
      refine lv_iload_n hx hb d_Rk_holds_14 rfl (lv_at hl 0 rfl) ?_
      obtain ⟨z2, hf⟩ := g_atE hf
      refine va_iald hx hb hK hP (k0 + 1) 0 mk0_1 rfl z2 d_Rk_holds_15 ?_
      refine lv_iload_n hx hb d_Rk_holds_16 rfl (lv_at hl 2 rfl) ?_
      refine lv_icmp_ne (tgt := 22) hx hb d_Rk_holds_17 (by decide) (fun c3 => ?_) (fun c3 => ?_)
      · rw [if_neg c3] at hf
        refine lv_iinc (v := v2 + 1) (lv' := [(2, .int (v2 + 1)), (0, .ref (ad k0)), (1, .int a1)]) hx hb d_Rk_holds_22 hl (k := 0) rfl rfl (by decide) rfl (fun ls hl => ?_)
        refine lv_goto (tgt := 2) hx hb d_Rk_holds_25 (by decide) ?_
        exact ih (v2 + 1) _ _ _ _ hP hD hS (lv_sub hl [0, 1, 2] rfl) mk0_0 mk0_1 mk0_2 fr hf
      · rw [if_pos c3] at hf
        refine lv_iconst (v := 1) hx hb d_Rk_holds_20 (by decide) ?_
        have bk0_0 : wc_Rk cI cG cZ ad (k0) (x0_0, x0_1, x0_2, x0_3, x0_4) ws := ⟨mk0_0, mk0_1, mk0_2⟩
        have e0 := Option.some.inj hf
        exact W.zret (v := 1) hx hb hr (by decide) (fun t ht hW => ⟨⟨1, ws, rfl, ⟨e0, fr⟩, by rw [ht]; exact hP, hD⟩, hS.F ht⟩) hS.2.2 d_Rk_holds_21
set_option maxHeartbeats 4000000 in
set_option maxRecDepth 100000 in
theorem c_Rk_holds (l : Launch) (D : va_G) (cI cG cZ : ClassId) (ad : Nat → Nat) (B : Nat) (w0 : va_W) (N : Nat) (k0 : Nat) (x0_0 : (Nat → Int32)) (x0_1 : (Nat → Int32)) (x0_2 : Int32) (x0_3 : Int32) (x0_4 : Int32) (a1 : Int32) (r : Int32) (hf : f_Rk_holds N x0_0 x0_2 a1 = some r) (bk0_0 : wc_Rk cI cG cZ ad k0 (x0_0, x0_1, x0_2, x0_3, x0_4) w0) : Met l y_Rk_holds (.code y_Rk_holds b_Rk_holds 3 (some .boolean) :: hw_G) ({ frames := 0, cells := 0, slots := 0, locals := 0 } : Room) (va_Pc [.ref (ad k0), .int a1] (hw_U D cI cG cZ B w0)) (va_Qi (fun (r1 : Int32) (w1 : va_W) => r1 = r ∧ w1 = w0) (hw_B D B) (fun q : Nat => B ≤ q)) 0 0 (fun q : Nat => B ≤ q) := by
  refine Met.ofW (cc := b_Rk_holds) (maxL := 3) (ret := (some .boolean)) (by decide) rfl ?_
  intro p e s m args below meth c s₁ Bd hml hv
  obtain ⟨rfl, hP, hD, hK, hN⟩ := hv
  have C0 : hw_C p s m meth c b_Rk_holds 3 _ R_Rk (some .boolean) := ⟨Bd.exec, Bd.bytes, Bd.returns, hml, findClass_of_methodNamed Bd.named, fun w h => atoms_spec (ws := .code y_Rk_holds b_Rk_holds 3 (some .boolean) :: hw_G) Bd.pre w (List.mem_cons_of_mem _ h), Bd.notSynchronized⟩
  obtain ⟨hx, hb, hr, -, hown, hts, hlocks⟩ := id C0
  have hS : va_S (fun q : Nat => B ≤ q) s.heap s.heap [] := va_S.rf
  have fr : w0 = w0 := rfl
  have hl := lv_entry ([.ref (ad k0), .int a1]) (n := 3) (Nat.le_of_ble_eq_true rfl)
  rw [lg_entry_eq]
  generalize (lg_sl ([.ref (ad k0), .int a1]) ++ List.replicate (3 - (lg_sl ([.ref (ad k0), .int a1])).length) Slot.unset).toArray = ls at hl ⊢
  have hl : lv_has ls 3 [(0, .ref (ad k0)), (1, .int a1)] := hl
  unfold f_Rk_holds at hf
  obtain ⟨mk0_0, mk0_1, mk0_2⟩ := id bk0_0
  have mk0_0 : w0[k0]? = some (ad k0, .inr (4, [.ref (ad (k0 + 1)), .ref (ad (k0 + 2)), .int x0_2, .int x0_3, .int x0_4])) := mk0_0
  have mk0_1 : w0[k0 + 1]? = some (ad (k0 + 1), .inl (cI, 30, .inl x0_0)) := mk0_1
  have mk0_2 : w0[k0 + 2]? = some (ad (k0 + 2), .inl (cI, 30, .inl x0_1)) := mk0_2
  refine lv_iconst (v := 0) hx hb d_Rk_holds_0 (by decide) ?_
  refine lv_istore_n (lv' := [(2, .int 0), (0, .ref (ad k0)), (1, .int a1)]) hx hb d_Rk_holds_1 rfl hl (by decide) rfl (fun ls hl => ?_)
  exact wl_Rk_holds_2 (ad := ad) C0 hK hN x0_0 x0_1 x0_2 x0_3 x0_4 a1 r N 0 _ _ _ _ hP hD hS (lv_sub hl [0, 1, 2] rfl) mk0_0 mk0_1 mk0_2 fr hf
