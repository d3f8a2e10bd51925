set_option maxHeartbeats 4000000 in
set_option maxRecDepth 100000 in
theorem c_Mo_init (l : Launch) (D : va_G) (cI cG cZ : ClassId) (B : Nat) (w0 : va_W) (k h : Nat) (m_0 : w0[k]? = some (h, .inr (7, [.null, .null, .null, .null, .null, .null, .null, .null, .int 0, .int 0, .null, .null, .null, .null, .null, .null, .null, .null, .null, .int 0, .int 0, .int 0, .null, .null, .null, .int 0, .long 0, .long 0]))) (len : w0.length = k + 1) : Met l y_Mo_init (.code y_Mo_init b_Mo_init 1 none :: hw_G) ({ frames := 1, cells := 20, slots := 1516, locals := 20 } : Room) (va_Pc [.ref h] (hw_UA D cI cG cZ B w0)) (va_Qv (fun (w1 : va_W) => (∀ ad : Nat → Nat, hw_ad ad w1 → wc_Mo cI cG cZ ad k i0_Mo w1) ∧ w1.length = k + 21 ∧ (∀ j : Nat, j < k → w1[j]? = w0[j]?) ∧ ∃ e1, w1[k]? = some (h, e1)) (hw_B D B) (fun q : Nat => B ≤ q)) 20 1516 (fun q : Nat => B ≤ q) := by
  refine Met.ofW (cc := b_Mo_init) (maxL := 1) (ret := none) (by decide) rfl ?_
  intro p e s m args below meth c s₁ Bd hml hv
  obtain ⟨rfl, ⟨hP, hD, hK, hN⟩, hBs, hO⟩ := hv
  have hx := Bd.exec
  have hb := Bd.bytes
  have hr := Bd.returns
  have hown : s.vm.findClass R_Mo = some m.cls := findClass_of_methodNamed Bd.named
  have hts : ∀ w ∈ hw_G, w.before #[Value.ref h] s = true := fun w hw => atoms_spec (ws := .code y_Mo_init b_Mo_init 1 none :: hw_G) Bd.pre w (List.mem_cons_of_mem _ hw)
  have hlocks := Bd.notSynchronized
  have hin : meth.name = "<init>" := (name_of_methodNamed Bd.named Bd.method).1
  have hA : ∀ q : Nat, s.heap.size ≤ q → (fun q : Nat => B ≤ q) q := fun q hq => Nat.le_trans hBs hq
  have hS : va_S (fun q : Nat => B ≤ q) s.heap s.heap [] := va_S.rf
  have kp : ∀ j : Nat, j < k → w0[j]? = w0[j]? := fun _ _ => rfl
  have lo0 := len
  have hl := lv_entry ([.ref h]) (n := 1) (Nat.le_of_ble_eq_true rfl)
  rw [lg_entry_eq]
  generalize (lg_sl ([.ref h]) ++ List.replicate (1 - (lg_sl ([.ref h])).length) Slot.unset).toArray = ls at hl ⊢
  have hl : lv_has ls 1 [(0, .ref h)] := hl
  refine lv_aload_n hx hb d_Mo_init_0 rfl (lv_at hl 0 rfl) ?_
  refine W.objInit hx hb hown (hts _ iw_568) (hts _ iw_obj_inst) (hts _ iw_obj_code) rfl (by rw [hml]; exact hl.1) rfl d_Mo_init_1 (Nat.le_of_ble_eq_true rfl) (Nat.le_of_ble_eq_true rfl) ?_
  refine W.eq (g2 := F0 m 4 ls []) rfl ?_
  refine lv_aload_n hx hb d_Mo_init_4 rfl (lv_at hl 0 rfl) ?_
  refine lv_bipush (v := 30) hx hb d_Mo_init_5 (by decide) ?_
  refine hw_newa (atype := .boolean) (ty := .boolean) hx hb (hts _ iw_654) rfl hK hP hD hS hA 2 rfl (fun _ h9 => h9) (N' := 30) (fun _ => rfl) (by decide) (by decide) (by decide) (Nat.le_of_ble_eq_true rfl) (Nat.le_of_ble_eq_true rfl) d_Mo_init_7 (fun q7 H hP hD hS => ?_)
  refine W.widen (k := 1) (n := 30) (Nat.le_refl _) (Nat.le_refl _) ?_
  have lo := len
  obtain ⟨w1, hP, hD, len, ke, mq⟩ := hs_push hP hD len
  have len : w1.length = k + 2 := len
  have ka : ∀ ad : Nat → Nat, hw_ad ad w1 → hw_ad ad w0 := fun ad a => hw_ad.push lo ke a
  have m_0 : w1[k]? = some (h, .inr (7, [.null, .null, .null, .null, .null, .null, .null, .null, .int 0, .int 0, .null, .null, .null, .null, .null, .null, .null, .null, .null, .int 0, .int 0, .int 0, .null, .null, .null, .int 0, .long 0, .long 0])) := (ke _ (hq_k (by decide))).trans m_0
  have kp : ∀ j : Nat, j < k → w1[j]? = w0[j]? := fun j hj => (ke j (hq_j _ hj)).trans (kp j hj)
  have m_1 : w1[k + 1]? = some (q7, .inl (cZ, 30, .inl (fun _ => 0))) := mq
  refine va_putF (D := D) (ci := 7) (v := .ref q7) (ty := .array .boolean) (C := R_Mo) (T := F_Mo) (N := 28) hx hb hts i_Mo t_Mo t_Mo_ok n_Mo hown hK hP hD hS (k) m_0 rfl 0 (by decide) (hts _ iw_569) (fun _ h9 => h9) rfl hin rfl (by decide +kernel) rfl rfl (Nat.le_of_ble_eq_true rfl) d_Mo_init_9 (fun H locs hP hD hS => ?_)
  obtain ⟨w2, hP, hD, len, ke, m1⟩ := hs_up2 hP hD m_0 len
  have ka : ∀ ad : Nat → Nat, hw_ad ad w2 → hw_ad ad w1 := fun ad a => hw_ad.set m_0 m1 ke a
  have m_0 : w2[k]? = some (h, .inr (7, [.ref q7, .null, .null, .null, .null, .null, .null, .null, .int 0, .int 0, .null, .null, .null, .null, .null, .null, .null, .null, .null, .int 0, .int 0, .int 0, .null, .null, .null, .int 0, .long 0, .long 0])) := m1
  have m_1 : w2[k + 1]? = some (q7, .inl (cZ, 30, .inl (fun _ => 0))) := (ke _ (hq_ne (by decide))).trans m_1
  have kp : ∀ j : Nat, j < k → w2[j]? = w0[j]? := fun j hj => (ke j (Nat.ne_of_lt hj)).trans (kp j hj)
  refine lv_aload_n hx hb d_Mo_init_12 rfl (lv_at hl 0 rfl) ?_
  refine lv_bipush (v := 30) hx hb d_Mo_init_13 (by decide) ?_
  refine hw_newa (atype := .boolean) (ty := .boolean) hx hb (hts _ iw_654) rfl hK hP hD hS hA 2 rfl (fun _ h9 => h9) (N' := 30) (fun _ => rfl) (by decide) (by decide) (by decide) (Nat.le_of_ble_eq_true rfl) (Nat.le_of_ble_eq_true rfl) d_Mo_init_15 (fun q15 H hP hD hS => ?_)
  refine W.widen (k := 2) (n := 60) (Nat.le_refl _) (Nat.le_refl _) ?_
  have lo := len
  obtain ⟨w3, hP, hD, len, ke, mq⟩ := hs_push hP hD len
  have len : w3.length = k + 3 := len
  have ka : ∀ ad : Nat → Nat, hw_ad ad w3 → hw_ad ad w2 := fun ad a => hw_ad.push lo ke a
  have m_0 : w3[k]? = some (h, .inr (7, [.ref q7, .null, .null, .null, .null, .null, .null, .null, .int 0, .int 0, .null, .null, .null, .null, .null, .null, .null, .null, .null, .int 0, .int 0, .int 0, .null, .null, .null, .int 0, .long 0, .long 0])) := (ke _ (hq_k (by decide))).trans m_0
  have m_1 : w3[k + 1]? = some (q7, .inl (cZ, 30, .inl (fun _ => 0))) := (ke _ (hq_lt (by decide))).trans m_1
  have kp : ∀ j : Nat, j < k → w3[j]? = w0[j]? := fun j hj => (ke j (hq_j _ hj)).trans (kp j hj)
  have m_2 : w3[k + 2]? = some (q15, .inl (cZ, 30, .inl (fun _ => 0))) := mq
  refine va_putF (D := D) (ci := 7) (v := .ref q15) (ty := .array .boolean) (C := R_Mo) (T := F_Mo) (N := 28) hx hb hts i_Mo t_Mo t_Mo_ok n_Mo hown hK hP hD hS (k) m_0 rfl 1 (by decide) (hts _ iw_570) (fun _ h9 => h9) rfl hin rfl (by decide +kernel) rfl rfl (Nat.le_of_ble_eq_true rfl) d_Mo_init_17 (fun H locs hP hD hS => ?_)
  obtain ⟨w4, hP, hD, len, ke, m1⟩ := hs_up2 hP hD m_0 len
  have ka : ∀ ad : Nat → Nat, hw_ad ad w4 → hw_ad ad w3 := fun ad a => hw_ad.set m_0 m1 ke a
  have m_0 : w4[k]? = some (h, .inr (7, [.ref q7, .ref q15, .null, .null, .null, .null, .null, .null, .int 0, .int 0, .null, .null, .null, .null, .null, .null, .null, .null, .null, .int 0, .int 0, .int 0, .null, .null, .null, .int 0, .long 0, .long 0])) := m1
  have m_1 : w4[k + 1]? = some (q7, .inl (cZ, 30, .inl (fun _ => 0))) := (ke _ (hq_ne (by decide))).trans m_1
  have m_2 : w4[k + 2]? = some (q15, .inl (cZ, 30, .inl (fun _ => 0))) := (ke _ (hq_ne (by decide))).trans m_2
  have kp : ∀ j : Nat, j < k → w4[j]? = w0[j]? := fun j hj => (ke j (Nat.ne_of_lt hj)).trans (kp j hj)
  refine lv_aload_n hx hb d_Mo_init_20 rfl (lv_at hl 0 rfl) ?_
  refine lv_bipush (v := 120) hx hb d_Mo_init_21 (by decide) ?_
  refine hw_newa (atype := .int) (ty := .int) hx hb (hts _ iw_40) rfl hK hP hD hS hA 0 rfl (fun _ h9 => h9) (N' := 120) (fun _ => rfl) (by decide) (by decide) (by decide) (Nat.le_of_ble_eq_true rfl) (Nat.le_of_ble_eq_true rfl) d_Mo_init_23 (fun q23 H hP hD hS => ?_)
  refine W.widen (k := 3) (n := 180) (Nat.le_refl _) (Nat.le_refl _) ?_
  have lo := len
  obtain ⟨w5, hP, hD, len, ke, mq⟩ := hs_push hP hD len
  have len : w5.length = k + 4 := len
  have ka : ∀ ad : Nat → Nat, hw_ad ad w5 → hw_ad ad w4 := fun ad a => hw_ad.push lo ke a
  have m_0 : w5[k]? = some (h, .inr (7, [.ref q7, .ref q15, .null, .null, .null, .null, .null, .null, .int 0, .int 0, .null, .null, .null, .null, .null, .null, .null, .null, .null, .int 0, .int 0, .int 0, .null, .null, .null, .int 0, .long 0, .long 0])) := (ke _ (hq_k (by decide))).trans m_0
  have m_1 : w5[k + 1]? = some (q7, .inl (cZ, 30, .inl (fun _ => 0))) := (ke _ (hq_lt (by decide))).trans m_1
  have m_2 : w5[k + 2]? = some (q15, .inl (cZ, 30, .inl (fun _ => 0))) := (ke _ (hq_lt (by decide))).trans m_2
  have kp : ∀ j : Nat, j < k → w5[j]? = w0[j]? := fun j hj => (ke j (hq_j _ hj)).trans (kp j hj)
  have m_3 : w5[k + 3]? = some (q23, .inl (cI, 120, .inl (fun _ => 0))) := mq
  refine va_putF (D := D) (ci := 7) (v := .ref q23) (ty := .array .int) (C := R_Mo) (T := F_Mo) (N := 28) hx hb hts i_Mo t_Mo t_Mo_ok n_Mo hown hK hP hD hS (k) m_0 rfl 2 (by decide) (hts _ iw_571) (fun _ h9 => h9) rfl hin rfl (by decide +kernel) rfl rfl (Nat.le_of_ble_eq_true rfl) d_Mo_init_25 (fun H locs hP hD hS => ?_)
  obtain ⟨w6, hP, hD, len, ke, m1⟩ := hs_up2 hP hD m_0 len
  have ka : ∀ ad : Nat → Nat, hw_ad ad w6 → hw_ad ad w5 := fun ad a => hw_ad.set m_0 m1 ke a
  have m_0 : w6[k]? = some (h, .inr (7, [.ref q7, .ref q15, .ref q23, .null, .null, .null, .null, .null, .int 0, .int 0, .null, .null, .null, .null, .null, .null, .null, .null, .null, .int 0, .int 0, .int 0, .null, .null, .null, .int 0, .long 0, .long 0])) := m1
  have m_1 : w6[k + 1]? = some (q7, .inl (cZ, 30, .inl (fun _ => 0))) := (ke _ (hq_ne (by decide))).trans m_1
  have m_2 : w6[k + 2]? = some (q15, .inl (cZ, 30, .inl (fun _ => 0))) := (ke _ (hq_ne (by decide))).trans m_2
  have m_3 : w6[k + 3]? = some (q23, .inl (cI, 120, .inl (fun _ => 0))) := (ke _ (hq_ne (by decide))).trans m_3
  have kp : ∀ j : Nat, j < k → w6[j]? = w0[j]? := fun j hj => (ke j (Nat.ne_of_lt hj)).trans (kp j hj)
  refine lv_aload_n hx hb d_Mo_init_28 rfl (lv_at hl 0 rfl) ?_
  refine lv_bipush (v := 30) hx hb d_Mo_init_29 (by decide) ?_
  refine hw_newa (atype := .int) (ty := .int) hx hb (hts _ iw_40) rfl hK hP hD hS hA 0 rfl (fun _ h9 => h9) (N' := 30) (fun _ => rfl) (by decide) (by decide) (by decide) (Nat.le_of_ble_eq_true rfl) (Nat.le_of_ble_eq_true rfl) d_Mo_init_31 (fun q31 H hP hD hS => ?_)
  refine W.widen (k := 4) (n := 210) (Nat.le_refl _) (Nat.le_refl _) ?_
  have lo := len
  obtain ⟨w7, hP, hD, len, ke, mq⟩ := hs_push hP hD len
  have len : w7.length = k + 5 := len
  have ka : ∀ ad : Nat → Nat, hw_ad ad w7 → hw_ad ad w6 := fun ad a => hw_ad.push lo ke a
  have m_0 : w7[k]? = some (h, .inr (7, [.ref q7, .ref q15, .ref q23, .null, .null, .null, .null, .null, .int 0, .int 0, .null, .null, .null, .null, .null, .null, .null, .null, .null, .int 0, .int 0, .int 0, .null, .null, .null, .int 0, .long 0, .long 0])) := (ke _ (hq_k (by decide))).trans m_0
  have m_1 : w7[k + 1]? = some (q7, .inl (cZ, 30, .inl (fun _ => 0))) := (ke _ (hq_lt (by decide))).trans m_1
  have m_2 : w7[k + 2]? = some (q15, .inl (cZ, 30, .inl (fun _ => 0))) := (ke _ (hq_lt (by decide))).trans m_2
  have m_3 : w7[k + 3]? = some (q23, .inl (cI, 120, .inl (fun _ => 0))) := (ke _ (hq_lt (by decide))).trans m_3
  have kp : ∀ j : Nat, j < k → w7[j]? = w0[j]? := fun j hj => (ke j (hq_j _ hj)).trans (kp j hj)
  have m_4 : w7[k + 4]? = some (q31, .inl (cI, 30, .inl (fun _ => 0))) := mq
  refine va_putF (D := D) (ci := 7) (v := .ref q31) (ty := .array .int) (C := R_Mo) (T := F_Mo) (N := 28) hx hb hts i_Mo t_Mo t_Mo_ok n_Mo hown hK hP hD hS (k) m_0 rfl 3 (by decide) (hts _ iw_572) (fun _ h9 => h9) rfl hin rfl (by decide +kernel) rfl rfl (Nat.le_of_ble_eq_true rfl) d_Mo_init_33 (fun H locs hP hD hS => ?_)
  obtain ⟨w8, hP, hD, len, ke, m1⟩ := hs_up2 hP hD m_0 len
  have ka : ∀ ad : Nat → Nat, hw_ad ad w8 → hw_ad ad w7 := fun ad a => hw_ad.set m_0 m1 ke a
  have m_0 : w8[k]? = some (h, .inr (7, [.ref q7, .ref q15, .ref q23, .ref q31, .null, .null, .null, .null, .int 0, .int 0, .null, .null, .null, .null, .null, .null, .null, .null, .null, .int 0, .int 0, .int 0, .null, .null, .null, .int 0, .long 0, .long 0])) := m1
  have m_1 : w8[k + 1]? = some (q7, .inl (cZ, 30, .inl (fun _ => 0))) := (ke _ (hq_ne (by decide))).trans m_1
  have m_2 : w8[k + 2]? = some (q15, .inl (cZ, 30, .inl (fun _ => 0))) := (ke _ (hq_ne (by decide))).trans m_2
  have m_3 : w8[k + 3]? = some (q23, .inl (cI, 120, .inl (fun _ => 0))) := (ke _ (hq_ne (by decide))).trans m_3
  have m_4 : w8[k + 4]? = some (q31, .inl (cI, 30, .inl (fun _ => 0))) := (ke _ (hq_ne (by decide))).trans m_4
  have kp : ∀ j : Nat, j < k → w8[j]? = w0[j]? := fun j hj => (ke j (Nat.ne_of_lt hj)).trans (kp j hj)
  refine lv_aload_n hx hb d_Mo_init_36 rfl (lv_at hl 0 rfl) ?_
  refine lv_bipush (v := 30) hx hb d_Mo_init_37 (by decide) ?_
  refine hw_newa (atype := .int) (ty := .int) hx hb (hts _ iw_40) rfl hK hP hD hS hA 0 rfl (fun _ h9 => h9) (N' := 30) (fun _ => rfl) (by decide) (by decide) (by decide) (Nat.le_of_ble_eq_true rfl) (Nat.le_of_ble_eq_true rfl) d_Mo_init_39 (fun q39 H hP hD hS => ?_)
  refine W.widen (k := 5) (n := 240) (Nat.le_refl _) (Nat.le_refl _) ?_
  have lo := len
  obtain ⟨w9, hP, hD, len, ke, mq⟩ := hs_push hP hD len
  have len : w9.length = k + 6 := len
  have ka : ∀ ad : Nat → Nat, hw_ad ad w9 → hw_ad ad w8 := fun ad a => hw_ad.push lo ke a
  have m_0 : w9[k]? = some (h, .inr (7, [.ref q7, .ref q15, .ref q23, .ref q31, .null, .null, .null, .null, .int 0, .int 0, .null, .null, .null, .null, .null, .null, .null, .null, .null, .int 0, .int 0, .int 0, .null, .null, .null, .int 0, .long 0, .long 0])) := (ke _ (hq_k (by decide))).trans m_0
  have m_1 : w9[k + 1]? = some (q7, .inl (cZ, 30, .inl (fun _ => 0))) := (ke _ (hq_lt (by decide))).trans m_1
  have m_2 : w9[k + 2]? = some (q15, .inl (cZ, 30, .inl (fun _ => 0))) := (ke _ (hq_lt (by decide))).trans m_2
  have m_3 : w9[k + 3]? = some (q23, .inl (cI, 120, .inl (fun _ => 0))) := (ke _ (hq_lt (by decide))).trans m_3
  have m_4 : w9[k + 4]? = some (q31, .inl (cI, 30, .inl (fun _ => 0))) := (ke _ (hq_lt (by decide))).trans m_4
  have kp : ∀ j : Nat, j < k → w9[j]? = w0[j]? := fun j hj => (ke j (hq_j _ hj)).trans (kp j hj)
  have m_5 : w9[k + 5]? = some (q39, .inl (cI, 30, .inl (fun _ => 0))) := mq
  refine va_putF (D := D) (ci := 7) (v := .ref q39) (ty := .array .int) (C := R_Mo) (T := F_Mo) (N := 28) hx hb hts i_Mo t_Mo t_Mo_ok n_Mo hown hK hP hD hS (k) m_0 rfl 4 (by decide) (hts _ iw_573) (fun _ h9 => h9) rfl hin rfl (by decide +kernel) rfl rfl (Nat.le_of_ble_eq_true rfl) d_Mo_init_41 (fun H locs hP hD hS => ?_)
  obtain ⟨w10, hP, hD, len, ke, m1⟩ := hs_up2 hP hD m_0 len
  have ka : ∀ ad : Nat → Nat, hw_ad ad w10 → hw_ad ad w9 := fun ad a => hw_ad.set m_0 m1 ke a
  have m_0 : w10[k]? = some (h, .inr (7, [.ref q7, .ref q15, .ref q23, .ref q31, .ref q39, .null, .null, .null, .int 0, .int 0, .null, .null, .null, .null, .null, .null, .null, .null, .null, .int 0, .int 0, .int 0, .null, .null, .null, .int 0, .long 0, .long 0])) := m1
  have m_1 : w10[k + 1]? = some (q7, .inl (cZ, 30, .inl (fun _ => 0))) := (ke _ (hq_ne (by decide))).trans m_1
  have m_2 : w10[k + 2]? = some (q15, .inl (cZ, 30, .inl (fun _ => 0))) := (ke _ (hq_ne (by decide))).trans m_2
  have m_3 : w10[k + 3]? = some (q23, .inl (cI, 120, .inl (fun _ => 0))) := (ke _ (hq_ne (by decide))).trans m_3
  have m_4 : w10[k + 4]? = some (q31, .inl (cI, 30, .inl (fun _ => 0))) := (ke _ (hq_ne (by decide))).trans m_4
  have m_5 : w10[k + 5]? = some (q39, .inl (cI, 30, .inl (fun _ => 0))) := (ke _ (hq_ne (by decide))).trans m_5
  have kp : ∀ j : Nat, j < k → w10[j]? = w0[j]? := fun j hj => (ke j (Nat.ne_of_lt hj)).trans (kp j hj)
  refine lv_aload_n hx hb d_Mo_init_44 rfl (lv_at hl 0 rfl) ?_
  refine lv_bipush (v := 30) hx hb d_Mo_init_45 (by decide) ?_
  refine hw_newa (atype := .int) (ty := .int) hx hb (hts _ iw_40) rfl hK hP hD hS hA 0 rfl (fun _ h9 => h9) (N' := 30) (fun _ => rfl) (by decide) (by decide) (by decide) (Nat.le_of_ble_eq_true rfl) (Nat.le_of_ble_eq_true rfl) d_Mo_init_47 (fun q47 H hP hD hS => ?_)
  refine W.widen (k := 6) (n := 270) (Nat.le_refl _) (Nat.le_refl _) ?_
  have lo := len
  obtain ⟨w11, hP, hD, len, ke, mq⟩ := hs_push hP hD len
  have len : w11.length = k + 7 := len
  have ka : ∀ ad : Nat → Nat, hw_ad ad w11 → hw_ad ad w10 := fun ad a => hw_ad.push lo ke a
  have m_0 : w11[k]? = some (h, .inr (7, [.ref q7, .ref q15, .ref q23, .ref q31, .ref q39, .null, .null, .null, .int 0, .int 0, .null, .null, .null, .null, .null, .null, .null, .null, .null, .int 0, .int 0, .int 0, .null, .null, .null, .int 0, .long 0, .long 0])) := (ke _ (hq_k (by decide))).trans m_0
  have m_1 : w11[k + 1]? = some (q7, .inl (cZ, 30, .inl (fun _ => 0))) := (ke _ (hq_lt (by decide))).trans m_1
  have m_2 : w11[k + 2]? = some (q15, .inl (cZ, 30, .inl (fun _ => 0))) := (ke _ (hq_lt (by decide))).trans m_2
  have m_3 : w11[k + 3]? = some (q23, .inl (cI, 120, .inl (fun _ => 0))) := (ke _ (hq_lt (by decide))).trans m_3
  have m_4 : w11[k + 4]? = some (q31, .inl (cI, 30, .inl (fun _ => 0))) := (ke _ (hq_lt (by decide))).trans m_4
  have m_5 : w11[k + 5]? = some (q39, .inl (cI, 30, .inl (fun _ => 0))) := (ke _ (hq_lt (by decide))).trans m_5
  have kp : ∀ j : Nat, j < k → w11[j]? = w0[j]? := fun j hj => (ke j (hq_j _ hj)).trans (kp j hj)
  have m_6 : w11[k + 6]? = some (q47, .inl (cI, 30, .inl (fun _ => 0))) := mq
  refine va_putF (D := D) (ci := 7) (v := .ref q47) (ty := .array .int) (C := R_Mo) (T := F_Mo) (N := 28) hx hb hts i_Mo t_Mo t_Mo_ok n_Mo hown hK hP hD hS (k) m_0 rfl 5 (by decide) (hts _ iw_574) (fun _ h9 => h9) rfl hin rfl (by decide +kernel) rfl rfl (Nat.le_of_ble_eq_true rfl) d_Mo_init_49 (fun H locs hP hD hS => ?_)
  obtain ⟨w12, hP, hD, len, ke, m1⟩ := hs_up2 hP hD m_0 len
  have ka : ∀ ad : Nat → Nat, hw_ad ad w12 → hw_ad ad w11 := fun ad a => hw_ad.set m_0 m1 ke a
  have m_0 : w12[k]? = some (h, .inr (7, [.ref q7, .ref q15, .ref q23, .ref q31, .ref q39, .ref q47, .null, .null, .int 0, .int 0, .null, .null, .null, .null, .null, .null, .null, .null, .null, .int 0, .int 0, .int 0, .null, .null, .null, .int 0, .long 0, .long 0])) := m1
  have m_1 : w12[k + 1]? = some (q7, .inl (cZ, 30, .inl (fun _ => 0))) := (ke _ (hq_ne (by decide))).trans m_1
  have m_2 : w12[k + 2]? = some (q15, .inl (cZ, 30, .inl (fun _ => 0))) := (ke _ (hq_ne (by decide))).trans m_2
  have m_3 : w12[k + 3]? = some (q23, .inl (cI, 120, .inl (fun _ => 0))) := (ke _ (hq_ne (by decide))).trans m_3
  have m_4 : w12[k + 4]? = some (q31, .inl (cI, 30, .inl (fun _ => 0))) := (ke _ (hq_ne (by decide))).trans m_4
  have m_5 : w12[k + 5]? = some (q39, .inl (cI, 30, .inl (fun _ => 0))) := (ke _ (hq_ne (by decide))).trans m_5
  have m_6 : w12[k + 6]? = some (q47, .inl (cI, 30, .inl (fun _ => 0))) := (ke _ (hq_ne (by decide))).trans m_6
  have kp : ∀ j : Nat, j < k → w12[j]? = w0[j]? := fun j hj => (ke j (Nat.ne_of_lt hj)).trans (kp j hj)
  refine lv_aload_n hx hb d_Mo_init_52 rfl (lv_at hl 0 rfl) ?_
  refine lv_sipush (v := 840) hx hb d_Mo_init_53 (by decide) ?_
  refine hw_newa (atype := .int) (ty := .int) hx hb (hts _ iw_40) rfl hK hP hD hS hA 0 rfl (fun _ h9 => h9) (N' := 840) (fun _ => rfl) (by decide) (by decide) (by decide) (Nat.le_of_ble_eq_true rfl) (Nat.le_of_ble_eq_true rfl) d_Mo_init_56 (fun q56 H hP hD hS => ?_)
  refine W.widen (k := 7) (n := 1110) (Nat.le_refl _) (Nat.le_refl _) ?_
  have lo := len
  obtain ⟨w13, hP, hD, len, ke, mq⟩ := hs_push hP hD len
  have len : w13.length = k + 8 := len
  have ka : ∀ ad : Nat → Nat, hw_ad ad w13 → hw_ad ad w12 := fun ad a => hw_ad.push lo ke a
  have m_0 : w13[k]? = some (h, .inr (7, [.ref q7, .ref q15, .ref q23, .ref q31, .ref q39, .ref q47, .null, .null, .int 0, .int 0, .null, .null, .null, .null, .null, .null, .null, .null, .null, .int 0, .int 0, .int 0, .null, .null, .null, .int 0, .long 0, .long 0])) := (ke _ (hq_k (by decide))).trans m_0
  have m_1 : w13[k + 1]? = some (q7, .inl (cZ, 30, .inl (fun _ => 0))) := (ke _ (hq_lt (by decide))).trans m_1
  have m_2 : w13[k + 2]? = some (q15, .inl (cZ, 30, .inl (fun _ => 0))) := (ke _ (hq_lt (by decide))).trans m_2
  have m_3 : w13[k + 3]? = some (q23, .inl (cI, 120, .inl (fun _ => 0))) := (ke _ (hq_lt (by decide))).trans m_3
  have m_4 : w13[k + 4]? = some (q31, .inl (cI, 30, .inl (fun _ => 0))) := (ke _ (hq_lt (by decide))).trans m_4
  have m_5 : w13[k + 5]? = some (q39, .inl (cI, 30, .inl (fun _ => 0))) := (ke _ (hq_lt (by decide))).trans m_5
  have m_6 : w13[k + 6]? = some (q47, .inl (cI, 30, .inl (fun _ => 0))) := (ke _ (hq_lt (by decide))).trans m_6
  have kp : ∀ j : Nat, j < k → w13[j]? = w0[j]? := fun j hj => (ke j (hq_j _ hj)).trans (kp j hj)
  have m_7 : w13[k + 7]? = some (q56, .inl (cI, 840, .inl (fun _ => 0))) := mq
  refine va_putF (D := D) (ci := 7) (v := .ref q56) (ty := .array .int) (C := R_Mo) (T := F_Mo) (N := 28) hx hb hts i_Mo t_Mo t_Mo_ok n_Mo hown hK hP hD hS (k) m_0 rfl 6 (by decide) (hts _ iw_575) (fun _ h9 => h9) rfl hin rfl (by decide +kernel) rfl rfl (Nat.le_of_ble_eq_true rfl) d_Mo_init_58 (fun H locs hP hD hS => ?_)
  obtain ⟨w14, hP, hD, len, ke, m1⟩ := hs_up2 hP hD m_0 len
  have ka : ∀ ad : Nat → Nat, hw_ad ad w14 → hw_ad ad w13 := fun ad a => hw_ad.set m_0 m1 ke a
  have m_0 : w14[k]? = some (h, .inr (7, [.ref q7, .ref q15, .ref q23, .ref q31, .ref q39, .ref q47, .ref q56, .null, .int 0, .int 0, .null, .null, .null, .null, .null, .null, .null, .null, .null, .int 0, .int 0, .int 0, .null, .null, .null, .int 0, .long 0, .long 0])) := m1
  have m_1 : w14[k + 1]? = some (q7, .inl (cZ, 30, .inl (fun _ => 0))) := (ke _ (hq_ne (by decide))).trans m_1
  have m_2 : w14[k + 2]? = some (q15, .inl (cZ, 30, .inl (fun _ => 0))) := (ke _ (hq_ne (by decide))).trans m_2
  have m_3 : w14[k + 3]? = some (q23, .inl (cI, 120, .inl (fun _ => 0))) := (ke _ (hq_ne (by decide))).trans m_3
  have m_4 : w14[k + 4]? = some (q31, .inl (cI, 30, .inl (fun _ => 0))) := (ke _ (hq_ne (by decide))).trans m_4
  have m_5 : w14[k + 5]? = some (q39, .inl (cI, 30, .inl (fun _ => 0))) := (ke _ (hq_ne (by decide))).trans m_5
  have m_6 : w14[k + 6]? = some (q47, .inl (cI, 30, .inl (fun _ => 0))) := (ke _ (hq_ne (by decide))).trans m_6
  have m_7 : w14[k + 7]? = some (q56, .inl (cI, 840, .inl (fun _ => 0))) := (ke _ (hq_ne (by decide))).trans m_7
  have kp : ∀ j : Nat, j < k → w14[j]? = w0[j]? := fun j hj => (ke j (Nat.ne_of_lt hj)).trans (kp j hj)
  refine lv_aload_n hx hb d_Mo_init_61 rfl (lv_at hl 0 rfl) ?_
  refine lv_bipush (v := 120) hx hb d_Mo_init_62 (by decide) ?_
  refine hw_newa (atype := .int) (ty := .int) hx hb (hts _ iw_40) rfl hK hP hD hS hA 0 rfl (fun _ h9 => h9) (N' := 120) (fun _ => rfl) (by decide) (by decide) (by decide) (Nat.le_of_ble_eq_true rfl) (Nat.le_of_ble_eq_true rfl) d_Mo_init_64 (fun q64 H hP hD hS => ?_)
  refine W.widen (k := 8) (n := 1230) (Nat.le_refl _) (Nat.le_refl _) ?_
  have lo := len
  obtain ⟨w15, hP, hD, len, ke, mq⟩ := hs_push hP hD len
  have len : w15.length = k + 9 := len
  have ka : ∀ ad : Nat → Nat, hw_ad ad w15 → hw_ad ad w14 := fun ad a => hw_ad.push lo ke a
  have m_0 : w15[k]? = some (h, .inr (7, [.ref q7, .ref q15, .ref q23, .ref q31, .ref q39, .ref q47, .ref q56, .null, .int 0, .int 0, .null, .null, .null, .null, .null, .null, .null, .null, .null, .int 0, .int 0, .int 0, .null, .null, .null, .int 0, .long 0, .long 0])) := (ke _ (hq_k (by decide))).trans m_0
  have m_1 : w15[k + 1]? = some (q7, .inl (cZ, 30, .inl (fun _ => 0))) := (ke _ (hq_lt (by decide))).trans m_1
  have m_2 : w15[k + 2]? = some (q15, .inl (cZ, 30, .inl (fun _ => 0))) := (ke _ (hq_lt (by decide))).trans m_2
  have m_3 : w15[k + 3]? = some (q23, .inl (cI, 120, .inl (fun _ => 0))) := (ke _ (hq_lt (by decide))).trans m_3
  have m_4 : w15[k + 4]? = some (q31, .inl (cI, 30, .inl (fun _ => 0))) := (ke _ (hq_lt (by decide))).trans m_4
  have m_5 : w15[k + 5]? = some (q39, .inl (cI, 30, .inl (fun _ => 0))) := (ke _ (hq_lt (by decide))).trans m_5
  have m_6 : w15[k + 6]? = some (q47, .inl (cI, 30, .inl (fun _ => 0))) := (ke _ (hq_lt (by decide))).trans m_6
  have m_7 : w15[k + 7]? = some (q56, .inl (cI, 840, .inl (fun _ => 0))) := (ke _ (hq_lt (by decide))).trans m_7
  have kp : ∀ j : Nat, j < k → w15[j]? = w0[j]? := fun j hj => (ke j (hq_j _ hj)).trans (kp j hj)
  have m_8 : w15[k + 8]? = some (q64, .inl (cI, 120, .inl (fun _ => 0))) := mq
  refine va_putF (D := D) (ci := 7) (v := .ref q64) (ty := .array .int) (C := R_Mo) (T := F_Mo) (N := 28) hx hb hts i_Mo t_Mo t_Mo_ok n_Mo hown hK hP hD hS (k) m_0 rfl 7 (by decide) (hts _ iw_576) (fun _ h9 => h9) rfl hin rfl (by decide +kernel) rfl rfl (Nat.le_of_ble_eq_true rfl) d_Mo_init_66 (fun H locs hP hD hS => ?_)
  obtain ⟨w16, hP, hD, len, ke, m1⟩ := hs_up2 hP hD m_0 len
  have ka : ∀ ad : Nat → Nat, hw_ad ad w16 → hw_ad ad w15 := fun ad a => hw_ad.set m_0 m1 ke a
  have m_0 : w16[k]? = some (h, .inr (7, [.ref q7, .ref q15, .ref q23, .ref q31, .ref q39, .ref q47, .ref q56, .ref q64, .int 0, .int 0, .null, .null, .null, .null, .null, .null, .null, .null, .null, .int 0, .int 0, .int 0, .null, .null, .null, .int 0, .long 0, .long 0])) := m1
  have m_1 : w16[k + 1]? = some (q7, .inl (cZ, 30, .inl (fun _ => 0))) := (ke _ (hq_ne (by decide))).trans m_1
  have m_2 : w16[k + 2]? = some (q15, .inl (cZ, 30, .inl (fun _ => 0))) := (ke _ (hq_ne (by decide))).trans m_2
  have m_3 : w16[k + 3]? = some (q23, .inl (cI, 120, .inl (fun _ => 0))) := (ke _ (hq_ne (by decide))).trans m_3
  have m_4 : w16[k + 4]? = some (q31, .inl (cI, 30, .inl (fun _ => 0))) := (ke _ (hq_ne (by decide))).trans m_4
  have m_5 : w16[k + 5]? = some (q39, .inl (cI, 30, .inl (fun _ => 0))) := (ke _ (hq_ne (by decide))).trans m_5
  have m_6 : w16[k + 6]? = some (q47, .inl (cI, 30, .inl (fun _ => 0))) := (ke _ (hq_ne (by decide))).trans m_6
  have m_7 : w16[k + 7]? = some (q56, .inl (cI, 840, .inl (fun _ => 0))) := (ke _ (hq_ne (by decide))).trans m_7
  have m_8 : w16[k + 8]? = some (q64, .inl (cI, 120, .inl (fun _ => 0))) := (ke _ (hq_ne (by decide))).trans m_8
  have kp : ∀ j : Nat, j < k → w16[j]? = w0[j]? := fun j hj => (ke j (Nat.ne_of_lt hj)).trans (kp j hj)
  refine lv_aload_n hx hb d_Mo_init_69 rfl (lv_at hl 0 rfl) ?_
  refine lv_iconst (v := (-1)) hx hb d_Mo_init_70 (by decide) ?_
  refine va_put (D := D) (ci := 7) (v := .int (-1)) (ty := .int) (C := R_Mo) (T := F_Mo) (N := 28) hx hb hts i_Mo t_Mo t_Mo_ok n_Mo hown hK hP hD hS (k) m_0 rfl 8 (by decide) (hts _ iw_577) (fun _ h9 => h9) rfl (by decide +kernel) rfl rfl (Nat.le_of_ble_eq_true rfl) d_Mo_init_71 (fun H locs hP hD hS => ?_)
  obtain ⟨w17, hP, hD, len, ke, m1⟩ := hs_up2 hP hD m_0 len
  have ka : ∀ ad : Nat → Nat, hw_ad ad w17 → hw_ad ad w16 := fun ad a => hw_ad.set m_0 m1 ke a
  have m_0 : w17[k]? = some (h, .inr (7, [.ref q7, .ref q15, .ref q23, .ref q31, .ref q39, .ref q47, .ref q56, .ref q64, .int (-1), .int 0, .null, .null, .null, .null, .null, .null, .null, .null, .null, .int 0, .int 0, .int 0, .null, .null, .null, .int 0, .long 0, .long 0])) := m1
  have m_1 : w17[k + 1]? = some (q7, .inl (cZ, 30, .inl (fun _ => 0))) := (ke _ (hq_ne (by decide))).trans m_1
  have m_2 : w17[k + 2]? = some (q15, .inl (cZ, 30, .inl (fun _ => 0))) := (ke _ (hq_ne (by decide))).trans m_2
  have m_3 : w17[k + 3]? = some (q23, .inl (cI, 120, .inl (fun _ => 0))) := (ke _ (hq_ne (by decide))).trans m_3
  have m_4 : w17[k + 4]? = some (q31, .inl (cI, 30, .inl (fun _ => 0))) := (ke _ (hq_ne (by decide))).trans m_4
  have m_5 : w17[k + 5]? = some (q39, .inl (cI, 30, .inl (fun _ => 0))) := (ke _ (hq_ne (by decide))).trans m_5
  have m_6 : w17[k + 6]? = some (q47, .inl (cI, 30, .inl (fun _ => 0))) := (ke _ (hq_ne (by decide))).trans m_6
  have m_7 : w17[k + 7]? = some (q56, .inl (cI, 840, .inl (fun _ => 0))) := (ke _ (hq_ne (by decide))).trans m_7
  have m_8 : w17[k + 8]? = some (q64, .inl (cI, 120, .inl (fun _ => 0))) := (ke _ (hq_ne (by decide))).trans m_8
  have kp : ∀ j : Nat, j < k → w17[j]? = w0[j]? := fun j hj => (ke j (Nat.ne_of_lt hj)).trans (kp j hj)
  refine lv_aload_n hx hb d_Mo_init_74 rfl (lv_at hl 0 rfl) ?_
  refine lv_iconst (v := 4) hx hb d_Mo_init_75 (by decide) ?_
  refine hw_newa (atype := .int) (ty := .int) hx hb (hts _ iw_40) rfl hK hP hD hS hA 0 rfl (fun _ h9 => h9) (N' := 4) (fun _ => rfl) (by decide) (by decide) (by decide) (Nat.le_of_ble_eq_true rfl) (Nat.le_of_ble_eq_true rfl) d_Mo_init_76 (fun q76 H hP hD hS => ?_)
  refine W.widen (k := 9) (n := 1234) (Nat.le_refl _) (Nat.le_refl _) ?_
  have lo := len
  obtain ⟨w18, hP, hD, len, ke, mq⟩ := hs_push hP hD len
  have len : w18.length = k + 10 := len
  have ka : ∀ ad : Nat → Nat, hw_ad ad w18 → hw_ad ad w17 := fun ad a => hw_ad.push lo ke a
  have m_0 : w18[k]? = some (h, .inr (7, [.ref q7, .ref q15, .ref q23, .ref q31, .ref q39, .ref q47, .ref q56, .ref q64, .int (-1), .int 0, .null, .null, .null, .null, .null, .null, .null, .null, .null, .int 0, .int 0, .int 0, .null, .null, .null, .int 0, .long 0, .long 0])) := (ke _ (hq_k (by decide))).trans m_0
  have m_1 : w18[k + 1]? = some (q7, .inl (cZ, 30, .inl (fun _ => 0))) := (ke _ (hq_lt (by decide))).trans m_1
  have m_2 : w18[k + 2]? = some (q15, .inl (cZ, 30, .inl (fun _ => 0))) := (ke _ (hq_lt (by decide))).trans m_2
  have m_3 : w18[k + 3]? = some (q23, .inl (cI, 120, .inl (fun _ => 0))) := (ke _ (hq_lt (by decide))).trans m_3
  have m_4 : w18[k + 4]? = some (q31, .inl (cI, 30, .inl (fun _ => 0))) := (ke _ (hq_lt (by decide))).trans m_4
  have m_5 : w18[k + 5]? = some (q39, .inl (cI, 30, .inl (fun _ => 0))) := (ke _ (hq_lt (by decide))).trans m_5
  have m_6 : w18[k + 6]? = some (q47, .inl (cI, 30, .inl (fun _ => 0))) := (ke _ (hq_lt (by decide))).trans m_6
  have m_7 : w18[k + 7]? = some (q56, .inl (cI, 840, .inl (fun _ => 0))) := (ke _ (hq_lt (by decide))).trans m_7
  have m_8 : w18[k + 8]? = some (q64, .inl (cI, 120, .inl (fun _ => 0))) := (ke _ (hq_lt (by decide))).trans m_8
  have kp : ∀ j : Nat, j < k → w18[j]? = w0[j]? := fun j hj => (ke j (hq_j _ hj)).trans (kp j hj)
  have m_9 : w18[k + 9]? = some (q76, .inl (cI, 4, .inl (fun _ => 0))) := mq
  refine va_putF (D := D) (ci := 7) (v := .ref q76) (ty := .array .int) (C := R_Mo) (T := F_Mo) (N := 28) hx hb hts i_Mo t_Mo t_Mo_ok n_Mo hown hK hP hD hS (k) m_0 rfl 10 (by decide) (hts _ iw_579) (fun _ h9 => h9) rfl hin rfl (by decide +kernel) rfl rfl (Nat.le_of_ble_eq_true rfl) d_Mo_init_78 (fun H locs hP hD hS => ?_)
  obtain ⟨w19, hP, hD, len, ke, m1⟩ := hs_up2 hP hD m_0 len
  have ka : ∀ ad : Nat → Nat, hw_ad ad w19 → hw_ad ad w18 := fun ad a => hw_ad.set m_0 m1 ke a
  have m_0 : w19[k]? = some (h, .inr (7, [.ref q7, .ref q15, .ref q23, .ref q31, .ref q39, .ref q47, .ref q56, .ref q64, .int (-1), .int 0, .ref q76, .null, .null, .null, .null, .null, .null, .null, .null, .int 0, .int 0, .int 0, .null, .null, .null, .int 0, .long 0, .long 0])) := m1
  have m_1 : w19[k + 1]? = some (q7, .inl (cZ, 30, .inl (fun _ => 0))) := (ke _ (hq_ne (by decide))).trans m_1
  have m_2 : w19[k + 2]? = some (q15, .inl (cZ, 30, .inl (fun _ => 0))) := (ke _ (hq_ne (by decide))).trans m_2
  have m_3 : w19[k + 3]? = some (q23, .inl (cI, 120, .inl (fun _ => 0))) := (ke _ (hq_ne (by decide))).trans m_3
  have m_4 : w19[k + 4]? = some (q31, .inl (cI, 30, .inl (fun _ => 0))) := (ke _ (hq_ne (by decide))).trans m_4
  have m_5 : w19[k + 5]? = some (q39, .inl (cI, 30, .inl (fun _ => 0))) := (ke _ (hq_ne (by decide))).trans m_5
  have m_6 : w19[k + 6]? = some (q47, .inl (cI, 30, .inl (fun _ => 0))) := (ke _ (hq_ne (by decide))).trans m_6
  have m_7 : w19[k + 7]? = some (q56, .inl (cI, 840, .inl (fun _ => 0))) := (ke _ (hq_ne (by decide))).trans m_7
  have m_8 : w19[k + 8]? = some (q64, .inl (cI, 120, .inl (fun _ => 0))) := (ke _ (hq_ne (by decide))).trans m_8
  have m_9 : w19[k + 9]? = some (q76, .inl (cI, 4, .inl (fun _ => 0))) := (ke _ (hq_ne (by decide))).trans m_9
  have kp : ∀ j : Nat, j < k → w19[j]? = w0[j]? := fun j hj => (ke j (Nat.ne_of_lt hj)).trans (kp j hj)
  refine lv_aload_n hx hb d_Mo_init_81 rfl (lv_at hl 0 rfl) ?_
  refine lv_iconst (v := 4) hx hb d_Mo_init_82 (by decide) ?_
  refine hw_newa (atype := .int) (ty := .int) hx hb (hts _ iw_40) rfl hK hP hD hS hA 0 rfl (fun _ h9 => h9) (N' := 4) (fun _ => rfl) (by decide) (by decide) (by decide) (Nat.le_of_ble_eq_true rfl) (Nat.le_of_ble_eq_true rfl) d_Mo_init_83 (fun q83 H hP hD hS => ?_)
  refine W.widen (k := 10) (n := 1238) (Nat.le_refl _) (Nat.le_refl _) ?_
  have lo := len
  obtain ⟨w20, hP, hD, len, ke, mq⟩ := hs_push hP hD len
  have len : w20.length = k + 11 := len
  have ka : ∀ ad : Nat → Nat, hw_ad ad w20 → hw_ad ad w19 := fun ad a => hw_ad.push lo ke a
  have m_0 : w20[k]? = some (h, .inr (7, [.ref q7, .ref q15, .ref q23, .ref q31, .ref q39, .ref q47, .ref q56, .ref q64, .int (-1), .int 0, .ref q76, .null, .null, .null, .null, .null, .null, .null, .null, .int 0, .int 0, .int 0, .null, .null, .null, .int 0, .long 0, .long 0])) := (ke _ (hq_k (by decide))).trans m_0
  have m_1 : w20[k + 1]? = some (q7, .inl (cZ, 30, .inl (fun _ => 0))) := (ke _ (hq_lt (by decide))).trans m_1
  have m_2 : w20[k + 2]? = some (q15, .inl (cZ, 30, .inl (fun _ => 0))) := (ke _ (hq_lt (by decide))).trans m_2
  have m_3 : w20[k + 3]? = some (q23, .inl (cI, 120, .inl (fun _ => 0))) := (ke _ (hq_lt (by decide))).trans m_3
  have m_4 : w20[k + 4]? = some (q31, .inl (cI, 30, .inl (fun _ => 0))) := (ke _ (hq_lt (by decide))).trans m_4
  have m_5 : w20[k + 5]? = some (q39, .inl (cI, 30, .inl (fun _ => 0))) := (ke _ (hq_lt (by decide))).trans m_5
  have m_6 : w20[k + 6]? = some (q47, .inl (cI, 30, .inl (fun _ => 0))) := (ke _ (hq_lt (by decide))).trans m_6
  have m_7 : w20[k + 7]? = some (q56, .inl (cI, 840, .inl (fun _ => 0))) := (ke _ (hq_lt (by decide))).trans m_7
  have m_8 : w20[k + 8]? = some (q64, .inl (cI, 120, .inl (fun _ => 0))) := (ke _ (hq_lt (by decide))).trans m_8
  have m_9 : w20[k + 9]? = some (q76, .inl (cI, 4, .inl (fun _ => 0))) := (ke _ (hq_lt (by decide))).trans m_9
  have kp : ∀ j : Nat, j < k → w20[j]? = w0[j]? := fun j hj => (ke j (hq_j _ hj)).trans (kp j hj)
  have m_10 : w20[k + 10]? = some (q83, .inl (cI, 4, .inl (fun _ => 0))) := mq
  refine va_putF (D := D) (ci := 7) (v := .ref q83) (ty := .array .int) (C := R_Mo) (T := F_Mo) (N := 28) hx hb hts i_Mo t_Mo t_Mo_ok n_Mo hown hK hP hD hS (k) m_0 rfl 11 (by decide) (hts _ iw_580) (fun _ h9 => h9) rfl hin rfl (by decide +kernel) rfl rfl (Nat.le_of_ble_eq_true rfl) d_Mo_init_85 (fun H locs hP hD hS => ?_)
  obtain ⟨w21, hP, hD, len, ke, m1⟩ := hs_up2 hP hD m_0 len
  have ka : ∀ ad : Nat → Nat, hw_ad ad w21 → hw_ad ad w20 := fun ad a => hw_ad.set m_0 m1 ke a
  have m_0 : w21[k]? = some (h, .inr (7, [.ref q7, .ref q15, .ref q23, .ref q31, .ref q39, .ref q47, .ref q56, .ref q64, .int (-1), .int 0, .ref q76, .ref q83, .null, .null, .null, .null, .null, .null, .null, .int 0, .int 0, .int 0, .null, .null, .null, .int 0, .long 0, .long 0])) := m1
  have m_1 : w21[k + 1]? = some (q7, .inl (cZ, 30, .inl (fun _ => 0))) := (ke _ (hq_ne (by decide))).trans m_1
  have m_2 : w21[k + 2]? = some (q15, .inl (cZ, 30, .inl (fun _ => 0))) := (ke _ (hq_ne (by decide))).trans m_2
  have m_3 : w21[k + 3]? = some (q23, .inl (cI, 120, .inl (fun _ => 0))) := (ke _ (hq_ne (by decide))).trans m_3
  have m_4 : w21[k + 4]? = some (q31, .inl (cI, 30, .inl (fun _ => 0))) := (ke _ (hq_ne (by decide))).trans m_4
  have m_5 : w21[k + 5]? = some (q39, .inl (cI, 30, .inl (fun _ => 0))) := (ke _ (hq_ne (by decide))).trans m_5
  have m_6 : w21[k + 6]? = some (q47, .inl (cI, 30, .inl (fun _ => 0))) := (ke _ (hq_ne (by decide))).trans m_6
  have m_7 : w21[k + 7]? = some (q56, .inl (cI, 840, .inl (fun _ => 0))) := (ke _ (hq_ne (by decide))).trans m_7
  have m_8 : w21[k + 8]? = some (q64, .inl (cI, 120, .inl (fun _ => 0))) := (ke _ (hq_ne (by decide))).trans m_8
  have m_9 : w21[k + 9]? = some (q76, .inl (cI, 4, .inl (fun _ => 0))) := (ke _ (hq_ne (by decide))).trans m_9
  have m_10 : w21[k + 10]? = some (q83, .inl (cI, 4, .inl (fun _ => 0))) := (ke _ (hq_ne (by decide))).trans m_10
  have kp : ∀ j : Nat, j < k → w21[j]? = w0[j]? := fun j hj => (ke j (Nat.ne_of_lt hj)).trans (kp j hj)
  refine lv_aload_n hx hb d_Mo_init_88 rfl (lv_at hl 0 rfl) ?_
  refine lv_bipush (v := 30) hx hb d_Mo_init_89 (by decide) ?_
  refine hw_newa (atype := .boolean) (ty := .boolean) hx hb (hts _ iw_654) rfl hK hP hD hS hA 2 rfl (fun _ h9 => h9) (N' := 30) (fun _ => rfl) (by decide) (by decide) (by decide) (Nat.le_of_ble_eq_true rfl) (Nat.le_of_ble_eq_true rfl) d_Mo_init_91 (fun q91 H hP hD hS => ?_)
  refine W.widen (k := 11) (n := 1268) (Nat.le_refl _) (Nat.le_refl _) ?_
  have lo := len
  obtain ⟨w22, hP, hD, len, ke, mq⟩ := hs_push hP hD len
  have len : w22.length = k + 12 := len
  have ka : ∀ ad : Nat → Nat, hw_ad ad w22 → hw_ad ad w21 := fun ad a => hw_ad.push lo ke a
  have m_0 : w22[k]? = some (h, .inr (7, [.ref q7, .ref q15, .ref q23, .ref q31, .ref q39, .ref q47, .ref q56, .ref q64, .int (-1), .int 0, .ref q76, .ref q83, .null, .null, .null, .null, .null, .null, .null, .int 0, .int 0, .int 0, .null, .null, .null, .int 0, .long 0, .long 0])) := (ke _ (hq_k (by decide))).trans m_0
  have m_1 : w22[k + 1]? = some (q7, .inl (cZ, 30, .inl (fun _ => 0))) := (ke _ (hq_lt (by decide))).trans m_1
  have m_2 : w22[k + 2]? = some (q15, .inl (cZ, 30, .inl (fun _ => 0))) := (ke _ (hq_lt (by decide))).trans m_2
  have m_3 : w22[k + 3]? = some (q23, .inl (cI, 120, .inl (fun _ => 0))) := (ke _ (hq_lt (by decide))).trans m_3
  have m_4 : w22[k + 4]? = some (q31, .inl (cI, 30, .inl (fun _ => 0))) := (ke _ (hq_lt (by decide))).trans m_4
  have m_5 : w22[k + 5]? = some (q39, .inl (cI, 30, .inl (fun _ => 0))) := (ke _ (hq_lt (by decide))).trans m_5
  have m_6 : w22[k + 6]? = some (q47, .inl (cI, 30, .inl (fun _ => 0))) := (ke _ (hq_lt (by decide))).trans m_6
  have m_7 : w22[k + 7]? = some (q56, .inl (cI, 840, .inl (fun _ => 0))) := (ke _ (hq_lt (by decide))).trans m_7
  have m_8 : w22[k + 8]? = some (q64, .inl (cI, 120, .inl (fun _ => 0))) := (ke _ (hq_lt (by decide))).trans m_8
  have m_9 : w22[k + 9]? = some (q76, .inl (cI, 4, .inl (fun _ => 0))) := (ke _ (hq_lt (by decide))).trans m_9
  have m_10 : w22[k + 10]? = some (q83, .inl (cI, 4, .inl (fun _ => 0))) := (ke _ (hq_lt (by decide))).trans m_10
  have kp : ∀ j : Nat, j < k → w22[j]? = w0[j]? := fun j hj => (ke j (hq_j _ hj)).trans (kp j hj)
  have m_11 : w22[k + 11]? = some (q91, .inl (cZ, 30, .inl (fun _ => 0))) := mq
  refine va_putF (D := D) (ci := 7) (v := .ref q91) (ty := .array .boolean) (C := R_Mo) (T := F_Mo) (N := 28) hx hb hts i_Mo t_Mo t_Mo_ok n_Mo hown hK hP hD hS (k) m_0 rfl 12 (by decide) (hts _ iw_581) (fun _ h9 => h9) rfl hin rfl (by decide +kernel) rfl rfl (Nat.le_of_ble_eq_true rfl) d_Mo_init_93 (fun H locs hP hD hS => ?_)
  obtain ⟨w23, hP, hD, len, ke, m1⟩ := hs_up2 hP hD m_0 len
  have ka : ∀ ad : Nat → Nat, hw_ad ad w23 → hw_ad ad w22 := fun ad a => hw_ad.set m_0 m1 ke a
  have m_0 : w23[k]? = some (h, .inr (7, [.ref q7, .ref q15, .ref q23, .ref q31, .ref q39, .ref q47, .ref q56, .ref q64, .int (-1), .int 0, .ref q76, .ref q83, .ref q91, .null, .null, .null, .null, .null, .null, .int 0, .int 0, .int 0, .null, .null, .null, .int 0, .long 0, .long 0])) := m1
  have m_1 : w23[k + 1]? = some (q7, .inl (cZ, 30, .inl (fun _ => 0))) := (ke _ (hq_ne (by decide))).trans m_1
  have m_2 : w23[k + 2]? = some (q15, .inl (cZ, 30, .inl (fun _ => 0))) := (ke _ (hq_ne (by decide))).trans m_2
  have m_3 : w23[k + 3]? = some (q23, .inl (cI, 120, .inl (fun _ => 0))) := (ke _ (hq_ne (by decide))).trans m_3
  have m_4 : w23[k + 4]? = some (q31, .inl (cI, 30, .inl (fun _ => 0))) := (ke _ (hq_ne (by decide))).trans m_4
  have m_5 : w23[k + 5]? = some (q39, .inl (cI, 30, .inl (fun _ => 0))) := (ke _ (hq_ne (by decide))).trans m_5
  have m_6 : w23[k + 6]? = some (q47, .inl (cI, 30, .inl (fun _ => 0))) := (ke _ (hq_ne (by decide))).trans m_6
  have m_7 : w23[k + 7]? = some (q56, .inl (cI, 840, .inl (fun _ => 0))) := (ke _ (hq_ne (by decide))).trans m_7
  have m_8 : w23[k + 8]? = some (q64, .inl (cI, 120, .inl (fun _ => 0))) := (ke _ (hq_ne (by decide))).trans m_8
  have m_9 : w23[k + 9]? = some (q76, .inl (cI, 4, .inl (fun _ => 0))) := (ke _ (hq_ne (by decide))).trans m_9
  have m_10 : w23[k + 10]? = some (q83, .inl (cI, 4, .inl (fun _ => 0))) := (ke _ (hq_ne (by decide))).trans m_10
  have m_11 : w23[k + 11]? = some (q91, .inl (cZ, 30, .inl (fun _ => 0))) := (ke _ (hq_ne (by decide))).trans m_11
  have kp : ∀ j : Nat, j < k → w23[j]? = w0[j]? := fun j hj => (ke j (Nat.ne_of_lt hj)).trans (kp j hj)
  refine lv_aload_n hx hb d_Mo_init_96 rfl (lv_at hl 0 rfl) ?_
  refine lv_bipush (v := 30) hx hb d_Mo_init_97 (by decide) ?_
  refine hw_newa (atype := .boolean) (ty := .boolean) hx hb (hts _ iw_654) rfl hK hP hD hS hA 2 rfl (fun _ h9 => h9) (N' := 30) (fun _ => rfl) (by decide) (by decide) (by decide) (Nat.le_of_ble_eq_true rfl) (Nat.le_of_ble_eq_true rfl) d_Mo_init_99 (fun q99 H hP hD hS => ?_)
  refine W.widen (k := 12) (n := 1298) (Nat.le_refl _) (Nat.le_refl _) ?_
  have lo := len
  obtain ⟨w24, hP, hD, len, ke, mq⟩ := hs_push hP hD len
  have len : w24.length = k + 13 := len
  have ka : ∀ ad : Nat → Nat, hw_ad ad w24 → hw_ad ad w23 := fun ad a => hw_ad.push lo ke a
  have m_0 : w24[k]? = some (h, .inr (7, [.ref q7, .ref q15, .ref q23, .ref q31, .ref q39, .ref q47, .ref q56, .ref q64, .int (-1), .int 0, .ref q76, .ref q83, .ref q91, .null, .null, .null, .null, .null, .null, .int 0, .int 0, .int 0, .null, .null, .null, .int 0, .long 0, .long 0])) := (ke _ (hq_k (by decide))).trans m_0
  have m_1 : w24[k + 1]? = some (q7, .inl (cZ, 30, .inl (fun _ => 0))) := (ke _ (hq_lt (by decide))).trans m_1
  have m_2 : w24[k + 2]? = some (q15, .inl (cZ, 30, .inl (fun _ => 0))) := (ke _ (hq_lt (by decide))).trans m_2
  have m_3 : w24[k + 3]? = some (q23, .inl (cI, 120, .inl (fun _ => 0))) := (ke _ (hq_lt (by decide))).trans m_3
  have m_4 : w24[k + 4]? = some (q31, .inl (cI, 30, .inl (fun _ => 0))) := (ke _ (hq_lt (by decide))).trans m_4
  have m_5 : w24[k + 5]? = some (q39, .inl (cI, 30, .inl (fun _ => 0))) := (ke _ (hq_lt (by decide))).trans m_5
  have m_6 : w24[k + 6]? = some (q47, .inl (cI, 30, .inl (fun _ => 0))) := (ke _ (hq_lt (by decide))).trans m_6
  have m_7 : w24[k + 7]? = some (q56, .inl (cI, 840, .inl (fun _ => 0))) := (ke _ (hq_lt (by decide))).trans m_7
  have m_8 : w24[k + 8]? = some (q64, .inl (cI, 120, .inl (fun _ => 0))) := (ke _ (hq_lt (by decide))).trans m_8
  have m_9 : w24[k + 9]? = some (q76, .inl (cI, 4, .inl (fun _ => 0))) := (ke _ (hq_lt (by decide))).trans m_9
  have m_10 : w24[k + 10]? = some (q83, .inl (cI, 4, .inl (fun _ => 0))) := (ke _ (hq_lt (by decide))).trans m_10
  have m_11 : w24[k + 11]? = some (q91, .inl (cZ, 30, .inl (fun _ => 0))) := (ke _ (hq_lt (by decide))).trans m_11
  have kp : ∀ j : Nat, j < k → w24[j]? = w0[j]? := fun j hj => (ke j (hq_j _ hj)).trans (kp j hj)
  have m_12 : w24[k + 12]? = some (q99, .inl (cZ, 30, .inl (fun _ => 0))) := mq
  refine va_putF (D := D) (ci := 7) (v := .ref q99) (ty := .array .boolean) (C := R_Mo) (T := F_Mo) (N := 28) hx hb hts i_Mo t_Mo t_Mo_ok n_Mo hown hK hP hD hS (k) m_0 rfl 13 (by decide) (hts _ iw_582) (fun _ h9 => h9) rfl hin rfl (by decide +kernel) rfl rfl (Nat.le_of_ble_eq_true rfl) d_Mo_init_101 (fun H locs hP hD hS => ?_)
  obtain ⟨w25, hP, hD, len, ke, m1⟩ := hs_up2 hP hD m_0 len
  have ka : ∀ ad : Nat → Nat, hw_ad ad w25 → hw_ad ad w24 := fun ad a => hw_ad.set m_0 m1 ke a
  have m_0 : w25[k]? = some (h, .inr (7, [.ref q7, .ref q15, .ref q23, .ref q31, .ref q39, .ref q47, .ref q56, .ref q64, .int (-1), .int 0, .ref q76, .ref q83, .ref q91, .ref q99, .null, .null, .null, .null, .null, .int 0, .int 0, .int 0, .null, .null, .null, .int 0, .long 0, .long 0])) := m1
  have m_1 : w25[k + 1]? = some (q7, .inl (cZ, 30, .inl (fun _ => 0))) := (ke _ (hq_ne (by decide))).trans m_1
  have m_2 : w25[k + 2]? = some (q15, .inl (cZ, 30, .inl (fun _ => 0))) := (ke _ (hq_ne (by decide))).trans m_2
  have m_3 : w25[k + 3]? = some (q23, .inl (cI, 120, .inl (fun _ => 0))) := (ke _ (hq_ne (by decide))).trans m_3
  have m_4 : w25[k + 4]? = some (q31, .inl (cI, 30, .inl (fun _ => 0))) := (ke _ (hq_ne (by decide))).trans m_4
  have m_5 : w25[k + 5]? = some (q39, .inl (cI, 30, .inl (fun _ => 0))) := (ke _ (hq_ne (by decide))).trans m_5
  have m_6 : w25[k + 6]? = some (q47, .inl (cI, 30, .inl (fun _ => 0))) := (ke _ (hq_ne (by decide))).trans m_6
  have m_7 : w25[k + 7]? = some (q56, .inl (cI, 840, .inl (fun _ => 0))) := (ke _ (hq_ne (by decide))).trans m_7
  have m_8 : w25[k + 8]? = some (q64, .inl (cI, 120, .inl (fun _ => 0))) := (ke _ (hq_ne (by decide))).trans m_8
  have m_9 : w25[k + 9]? = some (q76, .inl (cI, 4, .inl (fun _ => 0))) := (ke _ (hq_ne (by decide))).trans m_9
  have m_10 : w25[k + 10]? = some (q83, .inl (cI, 4, .inl (fun _ => 0))) := (ke _ (hq_ne (by decide))).trans m_10
  have m_11 : w25[k + 11]? = some (q91, .inl (cZ, 30, .inl (fun _ => 0))) := (ke _ (hq_ne (by decide))).trans m_11
  have m_12 : w25[k + 12]? = some (q99, .inl (cZ, 30, .inl (fun _ => 0))) := (ke _ (hq_ne (by decide))).trans m_12
  have kp : ∀ j : Nat, j < k → w25[j]? = w0[j]? := fun j hj => (ke j (Nat.ne_of_lt hj)).trans (kp j hj)
  refine lv_aload_n hx hb d_Mo_init_104 rfl (lv_at hl 0 rfl) ?_
  refine lv_bipush (v := 30) hx hb d_Mo_init_105 (by decide) ?_
  refine hw_newa (atype := .boolean) (ty := .boolean) hx hb (hts _ iw_654) rfl hK hP hD hS hA 2 rfl (fun _ h9 => h9) (N' := 30) (fun _ => rfl) (by decide) (by decide) (by decide) (Nat.le_of_ble_eq_true rfl) (Nat.le_of_ble_eq_true rfl) d_Mo_init_107 (fun q107 H hP hD hS => ?_)
  refine W.widen (k := 13) (n := 1328) (Nat.le_refl _) (Nat.le_refl _) ?_
  have lo := len
  obtain ⟨w26, hP, hD, len, ke, mq⟩ := hs_push hP hD len
  have len : w26.length = k + 14 := len
  have ka : ∀ ad : Nat → Nat, hw_ad ad w26 → hw_ad ad w25 := fun ad a => hw_ad.push lo ke a
  have m_0 : w26[k]? = some (h, .inr (7, [.ref q7, .ref q15, .ref q23, .ref q31, .ref q39, .ref q47, .ref q56, .ref q64, .int (-1), .int 0, .ref q76, .ref q83, .ref q91, .ref q99, .null, .null, .null, .null, .null, .int 0, .int 0, .int 0, .null, .null, .null, .int 0, .long 0, .long 0])) := (ke _ (hq_k (by decide))).trans m_0
  have m_1 : w26[k + 1]? = some (q7, .inl (cZ, 30, .inl (fun _ => 0))) := (ke _ (hq_lt (by decide))).trans m_1
  have m_2 : w26[k + 2]? = some (q15, .inl (cZ, 30, .inl (fun _ => 0))) := (ke _ (hq_lt (by decide))).trans m_2
  have m_3 : w26[k + 3]? = some (q23, .inl (cI, 120, .inl (fun _ => 0))) := (ke _ (hq_lt (by decide))).trans m_3
  have m_4 : w26[k + 4]? = some (q31, .inl (cI, 30, .inl (fun _ => 0))) := (ke _ (hq_lt (by decide))).trans m_4
  have m_5 : w26[k + 5]? = some (q39, .inl (cI, 30, .inl (fun _ => 0))) := (ke _ (hq_lt (by decide))).trans m_5
  have m_6 : w26[k + 6]? = some (q47, .inl (cI, 30, .inl (fun _ => 0))) := (ke _ (hq_lt (by decide))).trans m_6
  have m_7 : w26[k + 7]? = some (q56, .inl (cI, 840, .inl (fun _ => 0))) := (ke _ (hq_lt (by decide))).trans m_7
  have m_8 : w26[k + 8]? = some (q64, .inl (cI, 120, .inl (fun _ => 0))) := (ke _ (hq_lt (by decide))).trans m_8
  have m_9 : w26[k + 9]? = some (q76, .inl (cI, 4, .inl (fun _ => 0))) := (ke _ (hq_lt (by decide))).trans m_9
  have m_10 : w26[k + 10]? = some (q83, .inl (cI, 4, .inl (fun _ => 0))) := (ke _ (hq_lt (by decide))).trans m_10
  have m_11 : w26[k + 11]? = some (q91, .inl (cZ, 30, .inl (fun _ => 0))) := (ke _ (hq_lt (by decide))).trans m_11
  have m_12 : w26[k + 12]? = some (q99, .inl (cZ, 30, .inl (fun _ => 0))) := (ke _ (hq_lt (by decide))).trans m_12
  have kp : ∀ j : Nat, j < k → w26[j]? = w0[j]? := fun j hj => (ke j (hq_j _ hj)).trans (kp j hj)
  have m_13 : w26[k + 13]? = some (q107, .inl (cZ, 30, .inl (fun _ => 0))) := mq
  refine va_putF (D := D) (ci := 7) (v := .ref q107) (ty := .array .boolean) (C := R_Mo) (T := F_Mo) (N := 28) hx hb hts i_Mo t_Mo t_Mo_ok n_Mo hown hK hP hD hS (k) m_0 rfl 14 (by decide) (hts _ iw_583) (fun _ h9 => h9) rfl hin rfl (by decide +kernel) rfl rfl (Nat.le_of_ble_eq_true rfl) d_Mo_init_109 (fun H locs hP hD hS => ?_)
  obtain ⟨w27, hP, hD, len, ke, m1⟩ := hs_up2 hP hD m_0 len
  have ka : ∀ ad : Nat → Nat, hw_ad ad w27 → hw_ad ad w26 := fun ad a => hw_ad.set m_0 m1 ke a
  have m_0 : w27[k]? = some (h, .inr (7, [.ref q7, .ref q15, .ref q23, .ref q31, .ref q39, .ref q47, .ref q56, .ref q64, .int (-1), .int 0, .ref q76, .ref q83, .ref q91, .ref q99, .ref q107, .null, .null, .null, .null, .int 0, .int 0, .int 0, .null, .null, .null, .int 0, .long 0, .long 0])) := m1
  have m_1 : w27[k + 1]? = some (q7, .inl (cZ, 30, .inl (fun _ => 0))) := (ke _ (hq_ne (by decide))).trans m_1
  have m_2 : w27[k + 2]? = some (q15, .inl (cZ, 30, .inl (fun _ => 0))) := (ke _ (hq_ne (by decide))).trans m_2
  have m_3 : w27[k + 3]? = some (q23, .inl (cI, 120, .inl (fun _ => 0))) := (ke _ (hq_ne (by decide))).trans m_3
  have m_4 : w27[k + 4]? = some (q31, .inl (cI, 30, .inl (fun _ => 0))) := (ke _ (hq_ne (by decide))).trans m_4
  have m_5 : w27[k + 5]? = some (q39, .inl (cI, 30, .inl (fun _ => 0))) := (ke _ (hq_ne (by decide))).trans m_5
  have m_6 : w27[k + 6]? = some (q47, .inl (cI, 30, .inl (fun _ => 0))) := (ke _ (hq_ne (by decide))).trans m_6
  have m_7 : w27[k + 7]? = some (q56, .inl (cI, 840, .inl (fun _ => 0))) := (ke _ (hq_ne (by decide))).trans m_7
  have m_8 : w27[k + 8]? = some (q64, .inl (cI, 120, .inl (fun _ => 0))) := (ke _ (hq_ne (by decide))).trans m_8
  have m_9 : w27[k + 9]? = some (q76, .inl (cI, 4, .inl (fun _ => 0))) := (ke _ (hq_ne (by decide))).trans m_9
  have m_10 : w27[k + 10]? = some (q83, .inl (cI, 4, .inl (fun _ => 0))) := (ke _ (hq_ne (by decide))).trans m_10
  have m_11 : w27[k + 11]? = some (q91, .inl (cZ, 30, .inl (fun _ => 0))) := (ke _ (hq_ne (by decide))).trans m_11
  have m_12 : w27[k + 12]? = some (q99, .inl (cZ, 30, .inl (fun _ => 0))) := (ke _ (hq_ne (by decide))).trans m_12
  have m_13 : w27[k + 13]? = some (q107, .inl (cZ, 30, .inl (fun _ => 0))) := (ke _ (hq_ne (by decide))).trans m_13
  have kp : ∀ j : Nat, j < k → w27[j]? = w0[j]? := fun j hj => (ke j (Nat.ne_of_lt hj)).trans (kp j hj)
  refine lv_aload_n hx hb d_Mo_init_112 rfl (lv_at hl 0 rfl) ?_
  refine lv_bipush (v := 30) hx hb d_Mo_init_113 (by decide) ?_
  refine hw_newa (atype := .boolean) (ty := .boolean) hx hb (hts _ iw_654) rfl hK hP hD hS hA 2 rfl (fun _ h9 => h9) (N' := 30) (fun _ => rfl) (by decide) (by decide) (by decide) (Nat.le_of_ble_eq_true rfl) (Nat.le_of_ble_eq_true rfl) d_Mo_init_115 (fun q115 H hP hD hS => ?_)
  refine W.widen (k := 14) (n := 1358) (Nat.le_refl _) (Nat.le_refl _) ?_
  have lo := len
  obtain ⟨w28, hP, hD, len, ke, mq⟩ := hs_push hP hD len
  have len : w28.length = k + 15 := len
  have ka : ∀ ad : Nat → Nat, hw_ad ad w28 → hw_ad ad w27 := fun ad a => hw_ad.push lo ke a
  have m_0 : w28[k]? = some (h, .inr (7, [.ref q7, .ref q15, .ref q23, .ref q31, .ref q39, .ref q47, .ref q56, .ref q64, .int (-1), .int 0, .ref q76, .ref q83, .ref q91, .ref q99, .ref q107, .null, .null, .null, .null, .int 0, .int 0, .int 0, .null, .null, .null, .int 0, .long 0, .long 0])) := (ke _ (hq_k (by decide))).trans m_0
  have m_1 : w28[k + 1]? = some (q7, .inl (cZ, 30, .inl (fun _ => 0))) := (ke _ (hq_lt (by decide))).trans m_1
  have m_2 : w28[k + 2]? = some (q15, .inl (cZ, 30, .inl (fun _ => 0))) := (ke _ (hq_lt (by decide))).trans m_2
  have m_3 : w28[k + 3]? = some (q23, .inl (cI, 120, .inl (fun _ => 0))) := (ke _ (hq_lt (by decide))).trans m_3
  have m_4 : w28[k + 4]? = some (q31, .inl (cI, 30, .inl (fun _ => 0))) := (ke _ (hq_lt (by decide))).trans m_4
  have m_5 : w28[k + 5]? = some (q39, .inl (cI, 30, .inl (fun _ => 0))) := (ke _ (hq_lt (by decide))).trans m_5
  have m_6 : w28[k + 6]? = some (q47, .inl (cI, 30, .inl (fun _ => 0))) := (ke _ (hq_lt (by decide))).trans m_6
  have m_7 : w28[k + 7]? = some (q56, .inl (cI, 840, .inl (fun _ => 0))) := (ke _ (hq_lt (by decide))).trans m_7
  have m_8 : w28[k + 8]? = some (q64, .inl (cI, 120, .inl (fun _ => 0))) := (ke _ (hq_lt (by decide))).trans m_8
  have m_9 : w28[k + 9]? = some (q76, .inl (cI, 4, .inl (fun _ => 0))) := (ke _ (hq_lt (by decide))).trans m_9
  have m_10 : w28[k + 10]? = some (q83, .inl (cI, 4, .inl (fun _ => 0))) := (ke _ (hq_lt (by decide))).trans m_10
  have m_11 : w28[k + 11]? = some (q91, .inl (cZ, 30, .inl (fun _ => 0))) := (ke _ (hq_lt (by decide))).trans m_11
  have m_12 : w28[k + 12]? = some (q99, .inl (cZ, 30, .inl (fun _ => 0))) := (ke _ (hq_lt (by decide))).trans m_12
  have m_13 : w28[k + 13]? = some (q107, .inl (cZ, 30, .inl (fun _ => 0))) := (ke _ (hq_lt (by decide))).trans m_13
  have kp : ∀ j : Nat, j < k → w28[j]? = w0[j]? := fun j hj => (ke j (hq_j _ hj)).trans (kp j hj)
  have m_14 : w28[k + 14]? = some (q115, .inl (cZ, 30, .inl (fun _ => 0))) := mq
  refine va_putF (D := D) (ci := 7) (v := .ref q115) (ty := .array .boolean) (C := R_Mo) (T := F_Mo) (N := 28) hx hb hts i_Mo t_Mo t_Mo_ok n_Mo hown hK hP hD hS (k) m_0 rfl 15 (by decide) (hts _ iw_584) (fun _ h9 => h9) rfl hin rfl (by decide +kernel) rfl rfl (Nat.le_of_ble_eq_true rfl) d_Mo_init_117 (fun H locs hP hD hS => ?_)
  obtain ⟨w29, hP, hD, len, ke, m1⟩ := hs_up2 hP hD m_0 len
  have ka : ∀ ad : Nat → Nat, hw_ad ad w29 → hw_ad ad w28 := fun ad a => hw_ad.set m_0 m1 ke a
  have m_0 : w29[k]? = some (h, .inr (7, [.ref q7, .ref q15, .ref q23, .ref q31, .ref q39, .ref q47, .ref q56, .ref q64, .int (-1), .int 0, .ref q76, .ref q83, .ref q91, .ref q99, .ref q107, .ref q115, .null, .null, .null, .int 0, .int 0, .int 0, .null, .null, .null, .int 0, .long 0, .long 0])) := m1
  have m_1 : w29[k + 1]? = some (q7, .inl (cZ, 30, .inl (fun _ => 0))) := (ke _ (hq_ne (by decide))).trans m_1
  have m_2 : w29[k + 2]? = some (q15, .inl (cZ, 30, .inl (fun _ => 0))) := (ke _ (hq_ne (by decide))).trans m_2
  have m_3 : w29[k + 3]? = some (q23, .inl (cI, 120, .inl (fun _ => 0))) := (ke _ (hq_ne (by decide))).trans m_3
  have m_4 : w29[k + 4]? = some (q31, .inl (cI, 30, .inl (fun _ => 0))) := (ke _ (hq_ne (by decide))).trans m_4
  have m_5 : w29[k + 5]? = some (q39, .inl (cI, 30, .inl (fun _ => 0))) := (ke _ (hq_ne (by decide))).trans m_5
  have m_6 : w29[k + 6]? = some (q47, .inl (cI, 30, .inl (fun _ => 0))) := (ke _ (hq_ne (by decide))).trans m_6
  have m_7 : w29[k + 7]? = some (q56, .inl (cI, 840, .inl (fun _ => 0))) := (ke _ (hq_ne (by decide))).trans m_7
  have m_8 : w29[k + 8]? = some (q64, .inl (cI, 120, .inl (fun _ => 0))) := (ke _ (hq_ne (by decide))).trans m_8
  have m_9 : w29[k + 9]? = some (q76, .inl (cI, 4, .inl (fun _ => 0))) := (ke _ (hq_ne (by decide))).trans m_9
  have m_10 : w29[k + 10]? = some (q83, .inl (cI, 4, .inl (fun _ => 0))) := (ke _ (hq_ne (by decide))).trans m_10
  have m_11 : w29[k + 11]? = some (q91, .inl (cZ, 30, .inl (fun _ => 0))) := (ke _ (hq_ne (by decide))).trans m_11
  have m_12 : w29[k + 12]? = some (q99, .inl (cZ, 30, .inl (fun _ => 0))) := (ke _ (hq_ne (by decide))).trans m_12
  have m_13 : w29[k + 13]? = some (q107, .inl (cZ, 30, .inl (fun _ => 0))) := (ke _ (hq_ne (by decide))).trans m_13
  have m_14 : w29[k + 14]? = some (q115, .inl (cZ, 30, .inl (fun _ => 0))) := (ke _ (hq_ne (by decide))).trans m_14
  have kp : ∀ j : Nat, j < k → w29[j]? = w0[j]? := fun j hj => (ke j (Nat.ne_of_lt hj)).trans (kp j hj)
  refine lv_aload_n hx hb d_Mo_init_120 rfl (lv_at hl 0 rfl) ?_
  refine lv_bipush (v := 30) hx hb d_Mo_init_121 (by decide) ?_
  refine hw_newa (atype := .int) (ty := .int) hx hb (hts _ iw_40) rfl hK hP hD hS hA 0 rfl (fun _ h9 => h9) (N' := 30) (fun _ => rfl) (by decide) (by decide) (by decide) (Nat.le_of_ble_eq_true rfl) (Nat.le_of_ble_eq_true rfl) d_Mo_init_123 (fun q123 H hP hD hS => ?_)
  refine W.widen (k := 15) (n := 1388) (Nat.le_refl _) (Nat.le_refl _) ?_
  have lo := len
  obtain ⟨w30, hP, hD, len, ke, mq⟩ := hs_push hP hD len
  have len : w30.length = k + 16 := len
  have ka : ∀ ad : Nat → Nat, hw_ad ad w30 → hw_ad ad w29 := fun ad a => hw_ad.push lo ke a
  have m_0 : w30[k]? = some (h, .inr (7, [.ref q7, .ref q15, .ref q23, .ref q31, .ref q39, .ref q47, .ref q56, .ref q64, .int (-1), .int 0, .ref q76, .ref q83, .ref q91, .ref q99, .ref q107, .ref q115, .null, .null, .null, .int 0, .int 0, .int 0, .null, .null, .null, .int 0, .long 0, .long 0])) := (ke _ (hq_k (by decide))).trans m_0
  have m_1 : w30[k + 1]? = some (q7, .inl (cZ, 30, .inl (fun _ => 0))) := (ke _ (hq_lt (by decide))).trans m_1
  have m_2 : w30[k + 2]? = some (q15, .inl (cZ, 30, .inl (fun _ => 0))) := (ke _ (hq_lt (by decide))).trans m_2
  have m_3 : w30[k + 3]? = some (q23, .inl (cI, 120, .inl (fun _ => 0))) := (ke _ (hq_lt (by decide))).trans m_3
  have m_4 : w30[k + 4]? = some (q31, .inl (cI, 30, .inl (fun _ => 0))) := (ke _ (hq_lt (by decide))).trans m_4
  have m_5 : w30[k + 5]? = some (q39, .inl (cI, 30, .inl (fun _ => 0))) := (ke _ (hq_lt (by decide))).trans m_5
  have m_6 : w30[k + 6]? = some (q47, .inl (cI, 30, .inl (fun _ => 0))) := (ke _ (hq_lt (by decide))).trans m_6
  have m_7 : w30[k + 7]? = some (q56, .inl (cI, 840, .inl (fun _ => 0))) := (ke _ (hq_lt (by decide))).trans m_7
  have m_8 : w30[k + 8]? = some (q64, .inl (cI, 120, .inl (fun _ => 0))) := (ke _ (hq_lt (by decide))).trans m_8
  have m_9 : w30[k + 9]? = some (q76, .inl (cI, 4, .inl (fun _ => 0))) := (ke _ (hq_lt (by decide))).trans m_9
  have m_10 : w30[k + 10]? = some (q83, .inl (cI, 4, .inl (fun _ => 0))) := (ke _ (hq_lt (by decide))).trans m_10
  have m_11 : w30[k + 11]? = some (q91, .inl (cZ, 30, .inl (fun _ => 0))) := (ke _ (hq_lt (by decide))).trans m_11
  have m_12 : w30[k + 12]? = some (q99, .inl (cZ, 30, .inl (fun _ => 0))) := (ke _ (hq_lt (by decide))).trans m_12
  have m_13 : w30[k + 13]? = some (q107, .inl (cZ, 30, .inl (fun _ => 0))) := (ke _ (hq_lt (by decide))).trans m_13
  have m_14 : w30[k + 14]? = some (q115, .inl (cZ, 30, .inl (fun _ => 0))) := (ke _ (hq_lt (by decide))).trans m_14
  have kp : ∀ j : Nat, j < k → w30[j]? = w0[j]? := fun j hj => (ke j (hq_j _ hj)).trans (kp j hj)
  have m_15 : w30[k + 15]? = some (q123, .inl (cI, 30, .inl (fun _ => 0))) := mq
  refine va_putF (D := D) (ci := 7) (v := .ref q123) (ty := .array .int) (C := R_Mo) (T := F_Mo) (N := 28) hx hb hts i_Mo t_Mo t_Mo_ok n_Mo hown hK hP hD hS (k) m_0 rfl 16 (by decide) (hts _ iw_585) (fun _ h9 => h9) rfl hin rfl (by decide +kernel) rfl rfl (Nat.le_of_ble_eq_true rfl) d_Mo_init_125 (fun H locs hP hD hS => ?_)
  obtain ⟨w31, hP, hD, len, ke, m1⟩ := hs_up2 hP hD m_0 len
  have ka : ∀ ad : Nat → Nat, hw_ad ad w31 → hw_ad ad w30 := fun ad a => hw_ad.set m_0 m1 ke a
  have m_0 : w31[k]? = some (h, .inr (7, [.ref q7, .ref q15, .ref q23, .ref q31, .ref q39, .ref q47, .ref q56, .ref q64, .int (-1), .int 0, .ref q76, .ref q83, .ref q91, .ref q99, .ref q107, .ref q115, .ref q123, .null, .null, .int 0, .int 0, .int 0, .null, .null, .null, .int 0, .long 0, .long 0])) := m1
  have m_1 : w31[k + 1]? = some (q7, .inl (cZ, 30, .inl (fun _ => 0))) := (ke _ (hq_ne (by decide))).trans m_1
  have m_2 : w31[k + 2]? = some (q15, .inl (cZ, 30, .inl (fun _ => 0))) := (ke _ (hq_ne (by decide))).trans m_2
  have m_3 : w31[k + 3]? = some (q23, .inl (cI, 120, .inl (fun _ => 0))) := (ke _ (hq_ne (by decide))).trans m_3
  have m_4 : w31[k + 4]? = some (q31, .inl (cI, 30, .inl (fun _ => 0))) := (ke _ (hq_ne (by decide))).trans m_4
  have m_5 : w31[k + 5]? = some (q39, .inl (cI, 30, .inl (fun _ => 0))) := (ke _ (hq_ne (by decide))).trans m_5
  have m_6 : w31[k + 6]? = some (q47, .inl (cI, 30, .inl (fun _ => 0))) := (ke _ (hq_ne (by decide))).trans m_6
  have m_7 : w31[k + 7]? = some (q56, .inl (cI, 840, .inl (fun _ => 0))) := (ke _ (hq_ne (by decide))).trans m_7
  have m_8 : w31[k + 8]? = some (q64, .inl (cI, 120, .inl (fun _ => 0))) := (ke _ (hq_ne (by decide))).trans m_8
  have m_9 : w31[k + 9]? = some (q76, .inl (cI, 4, .inl (fun _ => 0))) := (ke _ (hq_ne (by decide))).trans m_9
  have m_10 : w31[k + 10]? = some (q83, .inl (cI, 4, .inl (fun _ => 0))) := (ke _ (hq_ne (by decide))).trans m_10
  have m_11 : w31[k + 11]? = some (q91, .inl (cZ, 30, .inl (fun _ => 0))) := (ke _ (hq_ne (by decide))).trans m_11
  have m_12 : w31[k + 12]? = some (q99, .inl (cZ, 30, .inl (fun _ => 0))) := (ke _ (hq_ne (by decide))).trans m_12
  have m_13 : w31[k + 13]? = some (q107, .inl (cZ, 30, .inl (fun _ => 0))) := (ke _ (hq_ne (by decide))).trans m_13
  have m_14 : w31[k + 14]? = some (q115, .inl (cZ, 30, .inl (fun _ => 0))) := (ke _ (hq_ne (by decide))).trans m_14
  have m_15 : w31[k + 15]? = some (q123, .inl (cI, 30, .inl (fun _ => 0))) := (ke _ (hq_ne (by decide))).trans m_15
  have kp : ∀ j : Nat, j < k → w31[j]? = w0[j]? := fun j hj => (ke j (Nat.ne_of_lt hj)).trans (kp j hj)
  refine lv_aload_n hx hb d_Mo_init_128 rfl (lv_at hl 0 rfl) ?_
  refine lv_bipush (v := 8) hx hb d_Mo_init_129 (by decide) ?_
  refine hw_newa (atype := .int) (ty := .int) hx hb (hts _ iw_40) rfl hK hP hD hS hA 0 rfl (fun _ h9 => h9) (N' := 8) (fun _ => rfl) (by decide) (by decide) (by decide) (Nat.le_of_ble_eq_true rfl) (Nat.le_of_ble_eq_true rfl) d_Mo_init_131 (fun q131 H hP hD hS => ?_)
  refine W.widen (k := 16) (n := 1396) (Nat.le_refl _) (Nat.le_refl _) ?_
  have lo := len
  obtain ⟨w32, hP, hD, len, ke, mq⟩ := hs_push hP hD len
  have len : w32.length = k + 17 := len
  have ka : ∀ ad : Nat → Nat, hw_ad ad w32 → hw_ad ad w31 := fun ad a => hw_ad.push lo ke a
  have m_0 : w32[k]? = some (h, .inr (7, [.ref q7, .ref q15, .ref q23, .ref q31, .ref q39, .ref q47, .ref q56, .ref q64, .int (-1), .int 0, .ref q76, .ref q83, .ref q91, .ref q99, .ref q107, .ref q115, .ref q123, .null, .null, .int 0, .int 0, .int 0, .null, .null, .null, .int 0, .long 0, .long 0])) := (ke _ (hq_k (by decide))).trans m_0
  have m_1 : w32[k + 1]? = some (q7, .inl (cZ, 30, .inl (fun _ => 0))) := (ke _ (hq_lt (by decide))).trans m_1
  have m_2 : w32[k + 2]? = some (q15, .inl (cZ, 30, .inl (fun _ => 0))) := (ke _ (hq_lt (by decide))).trans m_2
  have m_3 : w32[k + 3]? = some (q23, .inl (cI, 120, .inl (fun _ => 0))) := (ke _ (hq_lt (by decide))).trans m_3
  have m_4 : w32[k + 4]? = some (q31, .inl (cI, 30, .inl (fun _ => 0))) := (ke _ (hq_lt (by decide))).trans m_4
  have m_5 : w32[k + 5]? = some (q39, .inl (cI, 30, .inl (fun _ => 0))) := (ke _ (hq_lt (by decide))).trans m_5
  have m_6 : w32[k + 6]? = some (q47, .inl (cI, 30, .inl (fun _ => 0))) := (ke _ (hq_lt (by decide))).trans m_6
  have m_7 : w32[k + 7]? = some (q56, .inl (cI, 840, .inl (fun _ => 0))) := (ke _ (hq_lt (by decide))).trans m_7
  have m_8 : w32[k + 8]? = some (q64, .inl (cI, 120, .inl (fun _ => 0))) := (ke _ (hq_lt (by decide))).trans m_8
  have m_9 : w32[k + 9]? = some (q76, .inl (cI, 4, .inl (fun _ => 0))) := (ke _ (hq_lt (by decide))).trans m_9
  have m_10 : w32[k + 10]? = some (q83, .inl (cI, 4, .inl (fun _ => 0))) := (ke _ (hq_lt (by decide))).trans m_10
  have m_11 : w32[k + 11]? = some (q91, .inl (cZ, 30, .inl (fun _ => 0))) := (ke _ (hq_lt (by decide))).trans m_11
  have m_12 : w32[k + 12]? = some (q99, .inl (cZ, 30, .inl (fun _ => 0))) := (ke _ (hq_lt (by decide))).trans m_12
  have m_13 : w32[k + 13]? = some (q107, .inl (cZ, 30, .inl (fun _ => 0))) := (ke _ (hq_lt (by decide))).trans m_13
  have m_14 : w32[k + 14]? = some (q115, .inl (cZ, 30, .inl (fun _ => 0))) := (ke _ (hq_lt (by decide))).trans m_14
  have m_15 : w32[k + 15]? = some (q123, .inl (cI, 30, .inl (fun _ => 0))) := (ke _ (hq_lt (by decide))).trans m_15
  have kp : ∀ j : Nat, j < k → w32[j]? = w0[j]? := fun j hj => (ke j (hq_j _ hj)).trans (kp j hj)
  have m_16 : w32[k + 16]? = some (q131, .inl (cI, 8, .inl (fun _ => 0))) := mq
  refine va_putF (D := D) (ci := 7) (v := .ref q131) (ty := .array .int) (C := R_Mo) (T := F_Mo) (N := 28) hx hb hts i_Mo t_Mo t_Mo_ok n_Mo hown hK hP hD hS (k) m_0 rfl 17 (by decide) (hts _ iw_586) (fun _ h9 => h9) rfl hin rfl (by decide +kernel) rfl rfl (Nat.le_of_ble_eq_true rfl) d_Mo_init_133 (fun H locs hP hD hS => ?_)
  obtain ⟨w33, hP, hD, len, ke, m1⟩ := hs_up2 hP hD m_0 len
  have ka : ∀ ad : Nat → Nat, hw_ad ad w33 → hw_ad ad w32 := fun ad a => hw_ad.set m_0 m1 ke a
  have m_0 : w33[k]? = some (h, .inr (7, [.ref q7, .ref q15, .ref q23, .ref q31, .ref q39, .ref q47, .ref q56, .ref q64, .int (-1), .int 0, .ref q76, .ref q83, .ref q91, .ref q99, .ref q107, .ref q115, .ref q123, .ref q131, .null, .int 0, .int 0, .int 0, .null, .null, .null, .int 0, .long 0, .long 0])) := m1
  have m_1 : w33[k + 1]? = some (q7, .inl (cZ, 30, .inl (fun _ => 0))) := (ke _ (hq_ne (by decide))).trans m_1
  have m_2 : w33[k + 2]? = some (q15, .inl (cZ, 30, .inl (fun _ => 0))) := (ke _ (hq_ne (by decide))).trans m_2
  have m_3 : w33[k + 3]? = some (q23, .inl (cI, 120, .inl (fun _ => 0))) := (ke _ (hq_ne (by decide))).trans m_3
  have m_4 : w33[k + 4]? = some (q31, .inl (cI, 30, .inl (fun _ => 0))) := (ke _ (hq_ne (by decide))).trans m_4
  have m_5 : w33[k + 5]? = some (q39, .inl (cI, 30, .inl (fun _ => 0))) := (ke _ (hq_ne (by decide))).trans m_5
  have m_6 : w33[k + 6]? = some (q47, .inl (cI, 30, .inl (fun _ => 0))) := (ke _ (hq_ne (by decide))).trans m_6
  have m_7 : w33[k + 7]? = some (q56, .inl (cI, 840, .inl (fun _ => 0))) := (ke _ (hq_ne (by decide))).trans m_7
  have m_8 : w33[k + 8]? = some (q64, .inl (cI, 120, .inl (fun _ => 0))) := (ke _ (hq_ne (by decide))).trans m_8
  have m_9 : w33[k + 9]? = some (q76, .inl (cI, 4, .inl (fun _ => 0))) := (ke _ (hq_ne (by decide))).trans m_9
  have m_10 : w33[k + 10]? = some (q83, .inl (cI, 4, .inl (fun _ => 0))) := (ke _ (hq_ne (by decide))).trans m_10
  have m_11 : w33[k + 11]? = some (q91, .inl (cZ, 30, .inl (fun _ => 0))) := (ke _ (hq_ne (by decide))).trans m_11
  have m_12 : w33[k + 12]? = some (q99, .inl (cZ, 30, .inl (fun _ => 0))) := (ke _ (hq_ne (by decide))).trans m_12
  have m_13 : w33[k + 13]? = some (q107, .inl (cZ, 30, .inl (fun _ => 0))) := (ke _ (hq_ne (by decide))).trans m_13
  have m_14 : w33[k + 14]? = some (q115, .inl (cZ, 30, .inl (fun _ => 0))) := (ke _ (hq_ne (by decide))).trans m_14
  have m_15 : w33[k + 15]? = some (q123, .inl (cI, 30, .inl (fun _ => 0))) := (ke _ (hq_ne (by decide))).trans m_15
  have m_16 : w33[k + 16]? = some (q131, .inl (cI, 8, .inl (fun _ => 0))) := (ke _ (hq_ne (by decide))).trans m_16
  have kp : ∀ j : Nat, j < k → w33[j]? = w0[j]? := fun j hj => (ke j (Nat.ne_of_lt hj)).trans (kp j hj)
  refine lv_aload_n hx hb d_Mo_init_136 rfl (lv_at hl 0 rfl) ?_
  refine lv_bipush (v := 30) hx hb d_Mo_init_137 (by decide) ?_
  refine hw_newa (atype := .int) (ty := .int) hx hb (hts _ iw_40) rfl hK hP hD hS hA 0 rfl (fun _ h9 => h9) (N' := 30) (fun _ => rfl) (by decide) (by decide) (by decide) (Nat.le_of_ble_eq_true rfl) (Nat.le_of_ble_eq_true rfl) d_Mo_init_139 (fun q139 H hP hD hS => ?_)
  refine W.widen (k := 17) (n := 1426) (Nat.le_refl _) (Nat.le_refl _) ?_
  have lo := len
  obtain ⟨w34, hP, hD, len, ke, mq⟩ := hs_push hP hD len
  have len : w34.length = k + 18 := len
  have ka : ∀ ad : Nat → Nat, hw_ad ad w34 → hw_ad ad w33 := fun ad a => hw_ad.push lo ke a
  have m_0 : w34[k]? = some (h, .inr (7, [.ref q7, .ref q15, .ref q23, .ref q31, .ref q39, .ref q47, .ref q56, .ref q64, .int (-1), .int 0, .ref q76, .ref q83, .ref q91, .ref q99, .ref q107, .ref q115, .ref q123, .ref q131, .null, .int 0, .int 0, .int 0, .null, .null, .null, .int 0, .long 0, .long 0])) := (ke _ (hq_k (by decide))).trans m_0
  have m_1 : w34[k + 1]? = some (q7, .inl (cZ, 30, .inl (fun _ => 0))) := (ke _ (hq_lt (by decide))).trans m_1
  have m_2 : w34[k + 2]? = some (q15, .inl (cZ, 30, .inl (fun _ => 0))) := (ke _ (hq_lt (by decide))).trans m_2
  have m_3 : w34[k + 3]? = some (q23, .inl (cI, 120, .inl (fun _ => 0))) := (ke _ (hq_lt (by decide))).trans m_3
  have m_4 : w34[k + 4]? = some (q31, .inl (cI, 30, .inl (fun _ => 0))) := (ke _ (hq_lt (by decide))).trans m_4
  have m_5 : w34[k + 5]? = some (q39, .inl (cI, 30, .inl (fun _ => 0))) := (ke _ (hq_lt (by decide))).trans m_5
  have m_6 : w34[k + 6]? = some (q47, .inl (cI, 30, .inl (fun _ => 0))) := (ke _ (hq_lt (by decide))).trans m_6
  have m_7 : w34[k + 7]? = some (q56, .inl (cI, 840, .inl (fun _ => 0))) := (ke _ (hq_lt (by decide))).trans m_7
  have m_8 : w34[k + 8]? = some (q64, .inl (cI, 120, .inl (fun _ => 0))) := (ke _ (hq_lt (by decide))).trans m_8
  have m_9 : w34[k + 9]? = some (q76, .inl (cI, 4, .inl (fun _ => 0))) := (ke _ (hq_lt (by decide))).trans m_9
  have m_10 : w34[k + 10]? = some (q83, .inl (cI, 4, .inl (fun _ => 0))) := (ke _ (hq_lt (by decide))).trans m_10
  have m_11 : w34[k + 11]? = some (q91, .inl (cZ, 30, .inl (fun _ => 0))) := (ke _ (hq_lt (by decide))).trans m_11
  have m_12 : w34[k + 12]? = some (q99, .inl (cZ, 30, .inl (fun _ => 0))) := (ke _ (hq_lt (by decide))).trans m_12
  have m_13 : w34[k + 13]? = some (q107, .inl (cZ, 30, .inl (fun _ => 0))) := (ke _ (hq_lt (by decide))).trans m_13
  have m_14 : w34[k + 14]? = some (q115, .inl (cZ, 30, .inl (fun _ => 0))) := (ke _ (hq_lt (by decide))).trans m_14
  have m_15 : w34[k + 15]? = some (q123, .inl (cI, 30, .inl (fun _ => 0))) := (ke _ (hq_lt (by decide))).trans m_15
  have m_16 : w34[k + 16]? = some (q131, .inl (cI, 8, .inl (fun _ => 0))) := (ke _ (hq_lt (by decide))).trans m_16
  have kp : ∀ j : Nat, j < k → w34[j]? = w0[j]? := fun j hj => (ke j (hq_j _ hj)).trans (kp j hj)
  have m_17 : w34[k + 17]? = some (q139, .inl (cI, 30, .inl (fun _ => 0))) := mq
  refine va_putF (D := D) (ci := 7) (v := .ref q139) (ty := .array .int) (C := R_Mo) (T := F_Mo) (N := 28) hx hb hts i_Mo t_Mo t_Mo_ok n_Mo hown hK hP hD hS (k) m_0 rfl 18 (by decide) (hts _ iw_587) (fun _ h9 => h9) rfl hin rfl (by decide +kernel) rfl rfl (Nat.le_of_ble_eq_true rfl) d_Mo_init_141 (fun H locs hP hD hS => ?_)
  obtain ⟨w35, hP, hD, len, ke, m1⟩ := hs_up2 hP hD m_0 len
  have ka : ∀ ad : Nat → Nat, hw_ad ad w35 → hw_ad ad w34 := fun ad a => hw_ad.set m_0 m1 ke a
  have m_0 : w35[k]? = some (h, .inr (7, [.ref q7, .ref q15, .ref q23, .ref q31, .ref q39, .ref q47, .ref q56, .ref q64, .int (-1), .int 0, .ref q76, .ref q83, .ref q91, .ref q99, .ref q107, .ref q115, .ref q123, .ref q131, .ref q139, .int 0, .int 0, .int 0, .null, .null, .null, .int 0, .long 0, .long 0])) := m1
  have m_1 : w35[k + 1]? = some (q7, .inl (cZ, 30, .inl (fun _ => 0))) := (ke _ (hq_ne (by decide))).trans m_1
  have m_2 : w35[k + 2]? = some (q15, .inl (cZ, 30, .inl (fun _ => 0))) := (ke _ (hq_ne (by decide))).trans m_2
  have m_3 : w35[k + 3]? = some (q23, .inl (cI, 120, .inl (fun _ => 0))) := (ke _ (hq_ne (by decide))).trans m_3
  have m_4 : w35[k + 4]? = some (q31, .inl (cI, 30, .inl (fun _ => 0))) := (ke _ (hq_ne (by decide))).trans m_4
  have m_5 : w35[k + 5]? = some (q39, .inl (cI, 30, .inl (fun _ => 0))) := (ke _ (hq_ne (by decide))).trans m_5
  have m_6 : w35[k + 6]? = some (q47, .inl (cI, 30, .inl (fun _ => 0))) := (ke _ (hq_ne (by decide))).trans m_6
  have m_7 : w35[k + 7]? = some (q56, .inl (cI, 840, .inl (fun _ => 0))) := (ke _ (hq_ne (by decide))).trans m_7
  have m_8 : w35[k + 8]? = some (q64, .inl (cI, 120, .inl (fun _ => 0))) := (ke _ (hq_ne (by decide))).trans m_8
  have m_9 : w35[k + 9]? = some (q76, .inl (cI, 4, .inl (fun _ => 0))) := (ke _ (hq_ne (by decide))).trans m_9
  have m_10 : w35[k + 10]? = some (q83, .inl (cI, 4, .inl (fun _ => 0))) := (ke _ (hq_ne (by decide))).trans m_10
  have m_11 : w35[k + 11]? = some (q91, .inl (cZ, 30, .inl (fun _ => 0))) := (ke _ (hq_ne (by decide))).trans m_11
  have m_12 : w35[k + 12]? = some (q99, .inl (cZ, 30, .inl (fun _ => 0))) := (ke _ (hq_ne (by decide))).trans m_12
  have m_13 : w35[k + 13]? = some (q107, .inl (cZ, 30, .inl (fun _ => 0))) := (ke _ (hq_ne (by decide))).trans m_13
  have m_14 : w35[k + 14]? = some (q115, .inl (cZ, 30, .inl (fun _ => 0))) := (ke _ (hq_ne (by decide))).trans m_14
  have m_15 : w35[k + 15]? = some (q123, .inl (cI, 30, .inl (fun _ => 0))) := (ke _ (hq_ne (by decide))).trans m_15
  have m_16 : w35[k + 16]? = some (q131, .inl (cI, 8, .inl (fun _ => 0))) := (ke _ (hq_ne (by decide))).trans m_16
  have m_17 : w35[k + 17]? = some (q139, .inl (cI, 30, .inl (fun _ => 0))) := (ke _ (hq_ne (by decide))).trans m_17
  have kp : ∀ j : Nat, j < k → w35[j]? = w0[j]? := fun j hj => (ke j (Nat.ne_of_lt hj)).trans (kp j hj)
  refine lv_aload_n hx hb d_Mo_init_144 rfl (lv_at hl 0 rfl) ?_
  refine lv_bipush (v := 30) hx hb d_Mo_init_145 (by decide) ?_
  refine hw_newa (atype := .int) (ty := .int) hx hb (hts _ iw_40) rfl hK hP hD hS hA 0 rfl (fun _ h9 => h9) (N' := 30) (fun _ => rfl) (by decide) (by decide) (by decide) (Nat.le_of_ble_eq_true rfl) (Nat.le_of_ble_eq_true rfl) d_Mo_init_147 (fun q147 H hP hD hS => ?_)
  refine W.widen (k := 18) (n := 1456) (Nat.le_refl _) (Nat.le_refl _) ?_
  have lo := len
  obtain ⟨w36, hP, hD, len, ke, mq⟩ := hs_push hP hD len
  have len : w36.length = k + 19 := len
  have ka : ∀ ad : Nat → Nat, hw_ad ad w36 → hw_ad ad w35 := fun ad a => hw_ad.push lo ke a
  have m_0 : w36[k]? = some (h, .inr (7, [.ref q7, .ref q15, .ref q23, .ref q31, .ref q39, .ref q47, .ref q56, .ref q64, .int (-1), .int 0, .ref q76, .ref q83, .ref q91, .ref q99, .ref q107, .ref q115, .ref q123, .ref q131, .ref q139, .int 0, .int 0, .int 0, .null, .null, .null, .int 0, .long 0, .long 0])) := (ke _ (hq_k (by decide))).trans m_0
  have m_1 : w36[k + 1]? = some (q7, .inl (cZ, 30, .inl (fun _ => 0))) := (ke _ (hq_lt (by decide))).trans m_1
  have m_2 : w36[k + 2]? = some (q15, .inl (cZ, 30, .inl (fun _ => 0))) := (ke _ (hq_lt (by decide))).trans m_2
  have m_3 : w36[k + 3]? = some (q23, .inl (cI, 120, .inl (fun _ => 0))) := (ke _ (hq_lt (by decide))).trans m_3
  have m_4 : w36[k + 4]? = some (q31, .inl (cI, 30, .inl (fun _ => 0))) := (ke _ (hq_lt (by decide))).trans m_4
  have m_5 : w36[k + 5]? = some (q39, .inl (cI, 30, .inl (fun _ => 0))) := (ke _ (hq_lt (by decide))).trans m_5
  have m_6 : w36[k + 6]? = some (q47, .inl (cI, 30, .inl (fun _ => 0))) := (ke _ (hq_lt (by decide))).trans m_6
  have m_7 : w36[k + 7]? = some (q56, .inl (cI, 840, .inl (fun _ => 0))) := (ke _ (hq_lt (by decide))).trans m_7
  have m_8 : w36[k + 8]? = some (q64, .inl (cI, 120, .inl (fun _ => 0))) := (ke _ (hq_lt (by decide))).trans m_8
  have m_9 : w36[k + 9]? = some (q76, .inl (cI, 4, .inl (fun _ => 0))) := (ke _ (hq_lt (by decide))).trans m_9
  have m_10 : w36[k + 10]? = some (q83, .inl (cI, 4, .inl (fun _ => 0))) := (ke _ (hq_lt (by decide))).trans m_10
  have m_11 : w36[k + 11]? = some (q91, .inl (cZ, 30, .inl (fun _ => 0))) := (ke _ (hq_lt (by decide))).trans m_11
  have m_12 : w36[k + 12]? = some (q99, .inl (cZ, 30, .inl (fun _ => 0))) := (ke _ (hq_lt (by decide))).trans m_12
  have m_13 : w36[k + 13]? = some (q107, .inl (cZ, 30, .inl (fun _ => 0))) := (ke _ (hq_lt (by decide))).trans m_13
  have m_14 : w36[k + 14]? = some (q115, .inl (cZ, 30, .inl (fun _ => 0))) := (ke _ (hq_lt (by decide))).trans m_14
  have m_15 : w36[k + 15]? = some (q123, .inl (cI, 30, .inl (fun _ => 0))) := (ke _ (hq_lt (by decide))).trans m_15
  have m_16 : w36[k + 16]? = some (q131, .inl (cI, 8, .inl (fun _ => 0))) := (ke _ (hq_lt (by decide))).trans m_16
  have m_17 : w36[k + 17]? = some (q139, .inl (cI, 30, .inl (fun _ => 0))) := (ke _ (hq_lt (by decide))).trans m_17
  have kp : ∀ j : Nat, j < k → w36[j]? = w0[j]? := fun j hj => (ke j (hq_j _ hj)).trans (kp j hj)
  have m_18 : w36[k + 18]? = some (q147, .inl (cI, 30, .inl (fun _ => 0))) := mq
  refine va_putF (D := D) (ci := 7) (v := .ref q147) (ty := .array .int) (C := R_Mo) (T := F_Mo) (N := 28) hx hb hts i_Mo t_Mo t_Mo_ok n_Mo hown hK hP hD hS (k) m_0 rfl 22 (by decide) (hts _ iw_591) (fun _ h9 => h9) rfl hin rfl (by decide +kernel) rfl rfl (Nat.le_of_ble_eq_true rfl) d_Mo_init_149 (fun H locs hP hD hS => ?_)
  obtain ⟨w37, hP, hD, len, ke, m1⟩ := hs_up2 hP hD m_0 len
  have ka : ∀ ad : Nat → Nat, hw_ad ad w37 → hw_ad ad w36 := fun ad a => hw_ad.set m_0 m1 ke a
  have m_0 : w37[k]? = some (h, .inr (7, [.ref q7, .ref q15, .ref q23, .ref q31, .ref q39, .ref q47, .ref q56, .ref q64, .int (-1), .int 0, .ref q76, .ref q83, .ref q91, .ref q99, .ref q107, .ref q115, .ref q123, .ref q131, .ref q139, .int 0, .int 0, .int 0, .ref q147, .null, .null, .int 0, .long 0, .long 0])) := m1
  have m_1 : w37[k + 1]? = some (q7, .inl (cZ, 30, .inl (fun _ => 0))) := (ke _ (hq_ne (by decide))).trans m_1
  have m_2 : w37[k + 2]? = some (q15, .inl (cZ, 30, .inl (fun _ => 0))) := (ke _ (hq_ne (by decide))).trans m_2
  have m_3 : w37[k + 3]? = some (q23, .inl (cI, 120, .inl (fun _ => 0))) := (ke _ (hq_ne (by decide))).trans m_3
  have m_4 : w37[k + 4]? = some (q31, .inl (cI, 30, .inl (fun _ => 0))) := (ke _ (hq_ne (by decide))).trans m_4
  have m_5 : w37[k + 5]? = some (q39, .inl (cI, 30, .inl (fun _ => 0))) := (ke _ (hq_ne (by decide))).trans m_5
  have m_6 : w37[k + 6]? = some (q47, .inl (cI, 30, .inl (fun _ => 0))) := (ke _ (hq_ne (by decide))).trans m_6
  have m_7 : w37[k + 7]? = some (q56, .inl (cI, 840, .inl (fun _ => 0))) := (ke _ (hq_ne (by decide))).trans m_7
  have m_8 : w37[k + 8]? = some (q64, .inl (cI, 120, .inl (fun _ => 0))) := (ke _ (hq_ne (by decide))).trans m_8
  have m_9 : w37[k + 9]? = some (q76, .inl (cI, 4, .inl (fun _ => 0))) := (ke _ (hq_ne (by decide))).trans m_9
  have m_10 : w37[k + 10]? = some (q83, .inl (cI, 4, .inl (fun _ => 0))) := (ke _ (hq_ne (by decide))).trans m_10
  have m_11 : w37[k + 11]? = some (q91, .inl (cZ, 30, .inl (fun _ => 0))) := (ke _ (hq_ne (by decide))).trans m_11
  have m_12 : w37[k + 12]? = some (q99, .inl (cZ, 30, .inl (fun _ => 0))) := (ke _ (hq_ne (by decide))).trans m_12
  have m_13 : w37[k + 13]? = some (q107, .inl (cZ, 30, .inl (fun _ => 0))) := (ke _ (hq_ne (by decide))).trans m_13
  have m_14 : w37[k + 14]? = some (q115, .inl (cZ, 30, .inl (fun _ => 0))) := (ke _ (hq_ne (by decide))).trans m_14
  have m_15 : w37[k + 15]? = some (q123, .inl (cI, 30, .inl (fun _ => 0))) := (ke _ (hq_ne (by decide))).trans m_15
  have m_16 : w37[k + 16]? = some (q131, .inl (cI, 8, .inl (fun _ => 0))) := (ke _ (hq_ne (by decide))).trans m_16
  have m_17 : w37[k + 17]? = some (q139, .inl (cI, 30, .inl (fun _ => 0))) := (ke _ (hq_ne (by decide))).trans m_17
  have m_18 : w37[k + 18]? = some (q147, .inl (cI, 30, .inl (fun _ => 0))) := (ke _ (hq_ne (by decide))).trans m_18
  have kp : ∀ j : Nat, j < k → w37[j]? = w0[j]? := fun j hj => (ke j (Nat.ne_of_lt hj)).trans (kp j hj)
  refine lv_aload_n hx hb d_Mo_init_152 rfl (lv_at hl 0 rfl) ?_
  refine lv_bipush (v := 30) hx hb d_Mo_init_153 (by decide) ?_
  refine hw_newa (atype := .int) (ty := .int) hx hb (hts _ iw_40) rfl hK hP hD hS hA 0 rfl (fun _ h9 => h9) (N' := 30) (fun _ => rfl) (by decide) (by decide) (by decide) (Nat.le_of_ble_eq_true rfl) (Nat.le_of_ble_eq_true rfl) d_Mo_init_155 (fun q155 H hP hD hS => ?_)
  refine W.widen (k := 19) (n := 1486) (Nat.le_refl _) (Nat.le_refl _) ?_
  have lo := len
  obtain ⟨w38, hP, hD, len, ke, mq⟩ := hs_push hP hD len
  have len : w38.length = k + 20 := len
  have ka : ∀ ad : Nat → Nat, hw_ad ad w38 → hw_ad ad w37 := fun ad a => hw_ad.push lo ke a
  have m_0 : w38[k]? = some (h, .inr (7, [.ref q7, .ref q15, .ref q23, .ref q31, .ref q39, .ref q47, .ref q56, .ref q64, .int (-1), .int 0, .ref q76, .ref q83, .ref q91, .ref q99, .ref q107, .ref q115, .ref q123, .ref q131, .ref q139, .int 0, .int 0, .int 0, .ref q147, .null, .null, .int 0, .long 0, .long 0])) := (ke _ (hq_k (by decide))).trans m_0
  have m_1 : w38[k + 1]? = some (q7, .inl (cZ, 30, .inl (fun _ => 0))) := (ke _ (hq_lt (by decide))).trans m_1
  have m_2 : w38[k + 2]? = some (q15, .inl (cZ, 30, .inl (fun _ => 0))) := (ke _ (hq_lt (by decide))).trans m_2
  have m_3 : w38[k + 3]? = some (q23, .inl (cI, 120, .inl (fun _ => 0))) := (ke _ (hq_lt (by decide))).trans m_3
  have m_4 : w38[k + 4]? = some (q31, .inl (cI, 30, .inl (fun _ => 0))) := (ke _ (hq_lt (by decide))).trans m_4
  have m_5 : w38[k + 5]? = some (q39, .inl (cI, 30, .inl (fun _ => 0))) := (ke _ (hq_lt (by decide))).trans m_5
  have m_6 : w38[k + 6]? = some (q47, .inl (cI, 30, .inl (fun _ => 0))) := (ke _ (hq_lt (by decide))).trans m_6
  have m_7 : w38[k + 7]? = some (q56, .inl (cI, 840, .inl (fun _ => 0))) := (ke _ (hq_lt (by decide))).trans m_7
  have m_8 : w38[k + 8]? = some (q64, .inl (cI, 120, .inl (fun _ => 0))) := (ke _ (hq_lt (by decide))).trans m_8
  have m_9 : w38[k + 9]? = some (q76, .inl (cI, 4, .inl (fun _ => 0))) := (ke _ (hq_lt (by decide))).trans m_9
  have m_10 : w38[k + 10]? = some (q83, .inl (cI, 4, .inl (fun _ => 0))) := (ke _ (hq_lt (by decide))).trans m_10
  have m_11 : w38[k + 11]? = some (q91, .inl (cZ, 30, .inl (fun _ => 0))) := (ke _ (hq_lt (by decide))).trans m_11
  have m_12 : w38[k + 12]? = some (q99, .inl (cZ, 30, .inl (fun _ => 0))) := (ke _ (hq_lt (by decide))).trans m_12
  have m_13 : w38[k + 13]? = some (q107, .inl (cZ, 30, .inl (fun _ => 0))) := (ke _ (hq_lt (by decide))).trans m_13
  have m_14 : w38[k + 14]? = some (q115, .inl (cZ, 30, .inl (fun _ => 0))) := (ke _ (hq_lt (by decide))).trans m_14
  have m_15 : w38[k + 15]? = some (q123, .inl (cI, 30, .inl (fun _ => 0))) := (ke _ (hq_lt (by decide))).trans m_15
  have m_16 : w38[k + 16]? = some (q131, .inl (cI, 8, .inl (fun _ => 0))) := (ke _ (hq_lt (by decide))).trans m_16
  have m_17 : w38[k + 17]? = some (q139, .inl (cI, 30, .inl (fun _ => 0))) := (ke _ (hq_lt (by decide))).trans m_17
  have m_18 : w38[k + 18]? = some (q147, .inl (cI, 30, .inl (fun _ => 0))) := (ke _ (hq_lt (by decide))).trans m_18
  have kp : ∀ j : Nat, j < k → w38[j]? = w0[j]? := fun j hj => (ke j (hq_j _ hj)).trans (kp j hj)
  have m_19 : w38[k + 19]? = some (q155, .inl (cI, 30, .inl (fun _ => 0))) := mq
  refine va_putF (D := D) (ci := 7) (v := .ref q155) (ty := .array .int) (C := R_Mo) (T := F_Mo) (N := 28) hx hb hts i_Mo t_Mo t_Mo_ok n_Mo hown hK hP hD hS (k) m_0 rfl 23 (by decide) (hts _ iw_592) (fun _ h9 => h9) rfl hin rfl (by decide +kernel) rfl rfl (Nat.le_of_ble_eq_true rfl) d_Mo_init_157 (fun H locs hP hD hS => ?_)
  obtain ⟨w39, hP, hD, len, ke, m1⟩ := hs_up2 hP hD m_0 len
  have ka : ∀ ad : Nat → Nat, hw_ad ad w39 → hw_ad ad w38 := fun ad a => hw_ad.set m_0 m1 ke a
  have m_0 : w39[k]? = some (h, .inr (7, [.ref q7, .ref q15, .ref q23, .ref q31, .ref q39, .ref q47, .ref q56, .ref q64, .int (-1), .int 0, .ref q76, .ref q83, .ref q91, .ref q99, .ref q107, .ref q115, .ref q123, .ref q131, .ref q139, .int 0, .int 0, .int 0, .ref q147, .ref q155, .null, .int 0, .long 0, .long 0])) := m1
  have m_1 : w39[k + 1]? = some (q7, .inl (cZ, 30, .inl (fun _ => 0))) := (ke _ (hq_ne (by decide))).trans m_1
  have m_2 : w39[k + 2]? = some (q15, .inl (cZ, 30, .inl (fun _ => 0))) := (ke _ (hq_ne (by decide))).trans m_2
  have m_3 : w39[k + 3]? = some (q23, .inl (cI, 120, .inl (fun _ => 0))) := (ke _ (hq_ne (by decide))).trans m_3
  have m_4 : w39[k + 4]? = some (q31, .inl (cI, 30, .inl (fun _ => 0))) := (ke _ (hq_ne (by decide))).trans m_4
  have m_5 : w39[k + 5]? = some (q39, .inl (cI, 30, .inl (fun _ => 0))) := (ke _ (hq_ne (by decide))).trans m_5
  have m_6 : w39[k + 6]? = some (q47, .inl (cI, 30, .inl (fun _ => 0))) := (ke _ (hq_ne (by decide))).trans m_6
  have m_7 : w39[k + 7]? = some (q56, .inl (cI, 840, .inl (fun _ => 0))) := (ke _ (hq_ne (by decide))).trans m_7
  have m_8 : w39[k + 8]? = some (q64, .inl (cI, 120, .inl (fun _ => 0))) := (ke _ (hq_ne (by decide))).trans m_8
  have m_9 : w39[k + 9]? = some (q76, .inl (cI, 4, .inl (fun _ => 0))) := (ke _ (hq_ne (by decide))).trans m_9
  have m_10 : w39[k + 10]? = some (q83, .inl (cI, 4, .inl (fun _ => 0))) := (ke _ (hq_ne (by decide))).trans m_10
  have m_11 : w39[k + 11]? = some (q91, .inl (cZ, 30, .inl (fun _ => 0))) := (ke _ (hq_ne (by decide))).trans m_11
  have m_12 : w39[k + 12]? = some (q99, .inl (cZ, 30, .inl (fun _ => 0))) := (ke _ (hq_ne (by decide))).trans m_12
  have m_13 : w39[k + 13]? = some (q107, .inl (cZ, 30, .inl (fun _ => 0))) := (ke _ (hq_ne (by decide))).trans m_13
  have m_14 : w39[k + 14]? = some (q115, .inl (cZ, 30, .inl (fun _ => 0))) := (ke _ (hq_ne (by decide))).trans m_14
  have m_15 : w39[k + 15]? = some (q123, .inl (cI, 30, .inl (fun _ => 0))) := (ke _ (hq_ne (by decide))).trans m_15
  have m_16 : w39[k + 16]? = some (q131, .inl (cI, 8, .inl (fun _ => 0))) := (ke _ (hq_ne (by decide))).trans m_16
  have m_17 : w39[k + 17]? = some (q139, .inl (cI, 30, .inl (fun _ => 0))) := (ke _ (hq_ne (by decide))).trans m_17
  have m_18 : w39[k + 18]? = some (q147, .inl (cI, 30, .inl (fun _ => 0))) := (ke _ (hq_ne (by decide))).trans m_18
  have m_19 : w39[k + 19]? = some (q155, .inl (cI, 30, .inl (fun _ => 0))) := (ke _ (hq_ne (by decide))).trans m_19
  have kp : ∀ j : Nat, j < k → w39[j]? = w0[j]? := fun j hj => (ke j (Nat.ne_of_lt hj)).trans (kp j hj)
  refine lv_aload_n hx hb d_Mo_init_160 rfl (lv_at hl 0 rfl) ?_
  refine lv_bipush (v := 30) hx hb d_Mo_init_161 (by decide) ?_
  refine hw_newa (atype := .int) (ty := .int) hx hb (hts _ iw_40) rfl hK hP hD hS hA 0 rfl (fun _ h9 => h9) (N' := 30) (fun _ => rfl) (by decide) (by decide) (by decide) (Nat.le_of_ble_eq_true rfl) (Nat.le_of_ble_eq_true rfl) d_Mo_init_163 (fun q163 H hP hD hS => ?_)
  refine W.widen (k := 20) (n := 1516) (Nat.le_refl _) (Nat.le_refl _) ?_
  have lo := len
  obtain ⟨w40, hP, hD, len, ke, mq⟩ := hs_push hP hD len
  have len : w40.length = k + 21 := len
  have ka : ∀ ad : Nat → Nat, hw_ad ad w40 → hw_ad ad w39 := fun ad a => hw_ad.push lo ke a
  have m_0 : w40[k]? = some (h, .inr (7, [.ref q7, .ref q15, .ref q23, .ref q31, .ref q39, .ref q47, .ref q56, .ref q64, .int (-1), .int 0, .ref q76, .ref q83, .ref q91, .ref q99, .ref q107, .ref q115, .ref q123, .ref q131, .ref q139, .int 0, .int 0, .int 0, .ref q147, .ref q155, .null, .int 0, .long 0, .long 0])) := (ke _ (hq_k (by decide))).trans m_0
  have m_1 : w40[k + 1]? = some (q7, .inl (cZ, 30, .inl (fun _ => 0))) := (ke _ (hq_lt (by decide))).trans m_1
  have m_2 : w40[k + 2]? = some (q15, .inl (cZ, 30, .inl (fun _ => 0))) := (ke _ (hq_lt (by decide))).trans m_2
  have m_3 : w40[k + 3]? = some (q23, .inl (cI, 120, .inl (fun _ => 0))) := (ke _ (hq_lt (by decide))).trans m_3
  have m_4 : w40[k + 4]? = some (q31, .inl (cI, 30, .inl (fun _ => 0))) := (ke _ (hq_lt (by decide))).trans m_4
  have m_5 : w40[k + 5]? = some (q39, .inl (cI, 30, .inl (fun _ => 0))) := (ke _ (hq_lt (by decide))).trans m_5
  have m_6 : w40[k + 6]? = some (q47, .inl (cI, 30, .inl (fun _ => 0))) := (ke _ (hq_lt (by decide))).trans m_6
  have m_7 : w40[k + 7]? = some (q56, .inl (cI, 840, .inl (fun _ => 0))) := (ke _ (hq_lt (by decide))).trans m_7
  have m_8 : w40[k + 8]? = some (q64, .inl (cI, 120, .inl (fun _ => 0))) := (ke _ (hq_lt (by decide))).trans m_8
  have m_9 : w40[k + 9]? = some (q76, .inl (cI, 4, .inl (fun _ => 0))) := (ke _ (hq_lt (by decide))).trans m_9
  have m_10 : w40[k + 10]? = some (q83, .inl (cI, 4, .inl (fun _ => 0))) := (ke _ (hq_lt (by decide))).trans m_10
  have m_11 : w40[k + 11]? = some (q91, .inl (cZ, 30, .inl (fun _ => 0))) := (ke _ (hq_lt (by decide))).trans m_11
  have m_12 : w40[k + 12]? = some (q99, .inl (cZ, 30, .inl (fun _ => 0))) := (ke _ (hq_lt (by decide))).trans m_12
  have m_13 : w40[k + 13]? = some (q107, .inl (cZ, 30, .inl (fun _ => 0))) := (ke _ (hq_lt (by decide))).trans m_13
  have m_14 : w40[k + 14]? = some (q115, .inl (cZ, 30, .inl (fun _ => 0))) := (ke _ (hq_lt (by decide))).trans m_14
  have m_15 : w40[k + 15]? = some (q123, .inl (cI, 30, .inl (fun _ => 0))) := (ke _ (hq_lt (by decide))).trans m_15
  have m_16 : w40[k + 16]? = some (q131, .inl (cI, 8, .inl (fun _ => 0))) := (ke _ (hq_lt (by decide))).trans m_16
  have m_17 : w40[k + 17]? = some (q139, .inl (cI, 30, .inl (fun _ => 0))) := (ke _ (hq_lt (by decide))).trans m_17
  have m_18 : w40[k + 18]? = some (q147, .inl (cI, 30, .inl (fun _ => 0))) := (ke _ (hq_lt (by decide))).trans m_18
  have m_19 : w40[k + 19]? = some (q155, .inl (cI, 30, .inl (fun _ => 0))) := (ke _ (hq_lt (by decide))).trans m_19
  have kp : ∀ j : Nat, j < k → w40[j]? = w0[j]? := fun j hj => (ke j (hq_j _ hj)).trans (kp j hj)
  have m_20 : w40[k + 20]? = some (q163, .inl (cI, 30, .inl (fun _ => 0))) := mq
  refine va_putF (D := D) (ci := 7) (v := .ref q163) (ty := .array .int) (C := R_Mo) (T := F_Mo) (N := 28) hx hb hts i_Mo t_Mo t_Mo_ok n_Mo hown hK hP hD hS (k) m_0 rfl 24 (by decide) (hts _ iw_593) (fun _ h9 => h9) rfl hin rfl (by decide +kernel) rfl rfl (Nat.le_of_ble_eq_true rfl) d_Mo_init_165 (fun H locs hP hD hS => ?_)
  obtain ⟨w41, hP, hD, len, ke, m1⟩ := hs_up2 hP hD m_0 len
  have ka : ∀ ad : Nat → Nat, hw_ad ad w41 → hw_ad ad w40 := fun ad a => hw_ad.set m_0 m1 ke a
  have m_0 : w41[k]? = some (h, .inr (7, [.ref q7, .ref q15, .ref q23, .ref q31, .ref q39, .ref q47, .ref q56, .ref q64, .int (-1), .int 0, .ref q76, .ref q83, .ref q91, .ref q99, .ref q107, .ref q115, .ref q123, .ref q131, .ref q139, .int 0, .int 0, .int 0, .ref q147, .ref q155, .ref q163, .int 0, .long 0, .long 0])) := m1
  have m_1 : w41[k + 1]? = some (q7, .inl (cZ, 30, .inl (fun _ => 0))) := (ke _ (hq_ne (by decide))).trans m_1
  have m_2 : w41[k + 2]? = some (q15, .inl (cZ, 30, .inl (fun _ => 0))) := (ke _ (hq_ne (by decide))).trans m_2
  have m_3 : w41[k + 3]? = some (q23, .inl (cI, 120, .inl (fun _ => 0))) := (ke _ (hq_ne (by decide))).trans m_3
  have m_4 : w41[k + 4]? = some (q31, .inl (cI, 30, .inl (fun _ => 0))) := (ke _ (hq_ne (by decide))).trans m_4
  have m_5 : w41[k + 5]? = some (q39, .inl (cI, 30, .inl (fun _ => 0))) := (ke _ (hq_ne (by decide))).trans m_5
  have m_6 : w41[k + 6]? = some (q47, .inl (cI, 30, .inl (fun _ => 0))) := (ke _ (hq_ne (by decide))).trans m_6
  have m_7 : w41[k + 7]? = some (q56, .inl (cI, 840, .inl (fun _ => 0))) := (ke _ (hq_ne (by decide))).trans m_7
  have m_8 : w41[k + 8]? = some (q64, .inl (cI, 120, .inl (fun _ => 0))) := (ke _ (hq_ne (by decide))).trans m_8
  have m_9 : w41[k + 9]? = some (q76, .inl (cI, 4, .inl (fun _ => 0))) := (ke _ (hq_ne (by decide))).trans m_9
  have m_10 : w41[k + 10]? = some (q83, .inl (cI, 4, .inl (fun _ => 0))) := (ke _ (hq_ne (by decide))).trans m_10
  have m_11 : w41[k + 11]? = some (q91, .inl (cZ, 30, .inl (fun _ => 0))) := (ke _ (hq_ne (by decide))).trans m_11
  have m_12 : w41[k + 12]? = some (q99, .inl (cZ, 30, .inl (fun _ => 0))) := (ke _ (hq_ne (by decide))).trans m_12
  have m_13 : w41[k + 13]? = some (q107, .inl (cZ, 30, .inl (fun _ => 0))) := (ke _ (hq_ne (by decide))).trans m_13
  have m_14 : w41[k + 14]? = some (q115, .inl (cZ, 30, .inl (fun _ => 0))) := (ke _ (hq_ne (by decide))).trans m_14
  have m_15 : w41[k + 15]? = some (q123, .inl (cI, 30, .inl (fun _ => 0))) := (ke _ (hq_ne (by decide))).trans m_15
  have m_16 : w41[k + 16]? = some (q131, .inl (cI, 8, .inl (fun _ => 0))) := (ke _ (hq_ne (by decide))).trans m_16
  have m_17 : w41[k + 17]? = some (q139, .inl (cI, 30, .inl (fun _ => 0))) := (ke _ (hq_ne (by decide))).trans m_17
  have m_18 : w41[k + 18]? = some (q147, .inl (cI, 30, .inl (fun _ => 0))) := (ke _ (hq_ne (by decide))).trans m_18
  have m_19 : w41[k + 19]? = some (q155, .inl (cI, 30, .inl (fun _ => 0))) := (ke _ (hq_ne (by decide))).trans m_19
  have m_20 : w41[k + 20]? = some (q163, .inl (cI, 30, .inl (fun _ => 0))) := (ke _ (hq_ne (by decide))).trans m_20
  have kp : ∀ j : Nat, j < k → w41[j]? = w0[j]? := fun j hj => (ke j (Nat.ne_of_lt hj)).trans (kp j hj)
  refine W.vret hx hb hr (fun t ht hW => ⟨⟨w41, rfl, ⟨fun ad a => ?_, len, kp, ⟨_, m_0⟩⟩, by rw [ht]; exact hP, hD⟩, hS.F ht⟩) hS.2.2 d_Mo_init_168
  have e0 : ad k = h := a _ _ m_0
  have e1 : ad (k + 1) = q7 := a _ _ m_1
  have e2 : ad (k + 2) = q15 := a _ _ m_2
  have e3 : ad (k + 3) = q23 := a _ _ m_3
  have e4 : ad (k + 4) = q31 := a _ _ m_4
  have e5 : ad (k + 5) = q39 := a _ _ m_5
  have e6 : ad (k + 6) = q47 := a _ _ m_6
  have e7 : ad (k + 7) = q56 := a _ _ m_7
  have e8 : ad (k + 8) = q64 := a _ _ m_8
  have e9 : ad (k + 9) = q76 := a _ _ m_9
  have e10 : ad (k + 10) = q83 := a _ _ m_10
  have e11 : ad (k + 11) = q91 := a _ _ m_11
  have e12 : ad (k + 12) = q99 := a _ _ m_12
  have e13 : ad (k + 13) = q107 := a _ _ m_13
  have e14 : ad (k + 14) = q115 := a _ _ m_14
  have e15 : ad (k + 15) = q123 := a _ _ m_15
  have e16 : ad (k + 16) = q131 := a _ _ m_16
  have e17 : ad (k + 17) = q139 := a _ _ m_17
  have e18 : ad (k + 18) = q147 := a _ _ m_18
  have e19 : ad (k + 19) = q155 := a _ _ m_19
  have e20 : ad (k + 20) = q163 := a _ _ m_20
  exact ⟨(by rw [e0, e1, e2, e3, e4, e5, e6, e7, e8, e9, e10, e11, e12, e13, e14, e15, e16, e17, e18, e19, e20]; exact m_0), (by rw [e1]; exact m_1), (by rw [e2]; exact m_2), (by rw [e3]; exact m_3), (by rw [e4]; exact m_4), (by rw [e5]; exact m_5), (by rw [e6]; exact m_6), (by rw [e7]; exact m_7), (by rw [e8]; exact m_8), (by rw [e9]; exact m_9), (by rw [e10]; exact m_10), (by rw [e11]; exact m_11), (by rw [e12]; exact m_12), (by rw [e13]; exact m_13), (by rw [e14]; exact m_14), (by rw [e15]; exact m_15), (by rw [e16]; exact m_16), (by rw [e17]; exact m_17), (by rw [e18]; exact m_18), (by rw [e19]; exact m_19), (by rw [e20]; exact m_20)⟩
