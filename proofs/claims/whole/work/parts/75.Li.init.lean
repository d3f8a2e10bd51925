set_option maxHeartbeats 4000000 in
set_option maxRecDepth 100000 in
theorem c_Li_init (l : Launch) (D : va_G) (cI cG cZ : ClassId) (B : Nat) (w0 : va_W) (k h : Nat) (m_0 : w0[k]? = some (h, .inr (3, [.null, .null, .null, .null, .null, .int 0]))) (len : w0.length = k + 1) : Met l y_Li_init (.code y_Li_init b_Li_init 1 none :: hw_G) ({ frames := 1, cells := 5, slots := 1050, locals := 20 } : Room) (va_Pc [.ref h] (hw_UA D cI cG cZ B w0)) (va_Qv (fun (w1 : va_W) => (∀ ad : Nat → Nat, hw_ad ad w1 → wc_Li cI cG cZ ad k i0_Li w1) ∧ w1.length = k + 6 ∧ (∀ j : Nat, j < k → w1[j]? = w0[j]?) ∧ ∃ e1, w1[k]? = some (h, e1)) (hw_B D B) (fun q : Nat => B ≤ q)) 5 1050 (fun q : Nat => B ≤ q) := by
  refine Met.ofW (cc := b_Li_init) (maxL := 1) (ret := none) (by decide) rfl ?_
  intro p e s m args below meth c s₁ Bd hml hv
  obtain ⟨rfl, ⟨hP, hD, hK, hN⟩, hBs, hO⟩ := hv
  have hx := Bd.exec
  have hb := Bd.bytes
  have hr := Bd.returns
  have hown : s.vm.findClass R_Li = some m.cls := findClass_of_methodNamed Bd.named
  have hts : ∀ w ∈ hw_G, w.before #[Value.ref h] s = true := fun w hw => atoms_spec (ws := .code y_Li_init b_Li_init 1 none :: hw_G) Bd.pre w (List.mem_cons_of_mem _ hw)
  have hlocks := Bd.notSynchronized
  have hin : meth.name = "<init>" := (name_of_methodNamed Bd.named Bd.method).1
  have hA : ∀ q : Nat, s.heap.size ≤ q → (fun q : Nat => B ≤ q) q := fun q hq => Nat.le_trans hBs hq
  have hS : va_S (fun q : Nat => B ≤ q) s.heap s.heap [] := va_S.rf
  have kp : ∀ j : Nat, j < k → w0[j]? = w0[j]? := fun _ _ => rfl
  have lo0 := len
  have hl := lv_entry ([.ref h]) (n := 1) (Nat.le_of_ble_eq_true rfl)
  rw [lg_entry_eq]
  generalize (lg_sl ([.ref h]) ++ List.replicate (1 - (lg_sl ([.ref h])).length) Slot.unset).toArray = ls at hl ⊢
  have hl : lv_has ls 1 [(0, .ref h)] := hl
  refine lv_aload_n hx hb d_Li_init_0 rfl (lv_at hl 0 rfl) ?_
  refine W.objInit hx hb hown (hts _ iw_52) (hts _ iw_obj_inst) (hts _ iw_obj_code) rfl (by rw [hml]; exact hl.1) rfl d_Li_init_1 (Nat.le_of_ble_eq_true rfl) (Nat.le_of_ble_eq_true rfl) ?_
  refine W.eq (g2 := F0 m 4 ls []) rfl ?_
  refine lv_aload_n hx hb d_Li_init_4 rfl (lv_at hl 0 rfl) ?_
  refine lv_bipush (v := 30) hx hb d_Li_init_5 (by decide) ?_
  refine hw_newa (atype := .int) (ty := .int) hx hb (hts _ iw_40) rfl hK hP hD hS hA 0 rfl (fun _ h9 => h9) (N' := 30) (fun _ => rfl) (by decide) (by decide) (by decide) (Nat.le_of_ble_eq_true rfl) (Nat.le_of_ble_eq_true rfl) d_Li_init_7 (fun q7 H hP hD hS => ?_)
  refine W.widen (k := 1) (n := 30) (Nat.le_refl _) (Nat.le_refl _) ?_
  have lo := len
  obtain ⟨w1, hP, hD, len, ke, mq⟩ := hs_push hP hD len
  have len : w1.length = k + 2 := len
  have ka : ∀ ad : Nat → Nat, hw_ad ad w1 → hw_ad ad w0 := fun ad a => hw_ad.push lo ke a
  have m_0 : w1[k]? = some (h, .inr (3, [.null, .null, .null, .null, .null, .int 0])) := (ke _ (hq_k (by decide))).trans m_0
  have kp : ∀ j : Nat, j < k → w1[j]? = w0[j]? := fun j hj => (ke j (hq_j _ hj)).trans (kp j hj)
  have m_1 : w1[k + 1]? = some (q7, .inl (cI, 30, .inl (fun _ => 0))) := mq
  refine va_putF (D := D) (ci := 3) (v := .ref q7) (ty := .array .int) (C := R_Li) (T := F_Li) (N := 6) hx hb hts i_Li t_Li t_Li_ok n_Li hown hK hP hD hS (k) m_0 rfl 0 (by decide) (hts _ iw_53) (fun _ h9 => h9) rfl hin rfl (by decide +kernel) rfl rfl (Nat.le_of_ble_eq_true rfl) d_Li_init_9 (fun H locs hP hD hS => ?_)
  obtain ⟨w2, hP, hD, len, ke, m1⟩ := hs_up2 hP hD m_0 len
  have ka : ∀ ad : Nat → Nat, hw_ad ad w2 → hw_ad ad w1 := fun ad a => hw_ad.set m_0 m1 ke a
  have m_0 : w2[k]? = some (h, .inr (3, [.ref q7, .null, .null, .null, .null, .int 0])) := m1
  have m_1 : w2[k + 1]? = some (q7, .inl (cI, 30, .inl (fun _ => 0))) := (ke _ (hq_ne (by decide))).trans m_1
  have kp : ∀ j : Nat, j < k → w2[j]? = w0[j]? := fun j hj => (ke j (Nat.ne_of_lt hj)).trans (kp j hj)
  refine lv_aload_n hx hb d_Li_init_12 rfl (lv_at hl 0 rfl) ?_
  refine lv_bipush (v := 30) hx hb d_Li_init_13 (by decide) ?_
  refine hw_newa (atype := .int) (ty := .int) hx hb (hts _ iw_40) rfl hK hP hD hS hA 0 rfl (fun _ h9 => h9) (N' := 30) (fun _ => rfl) (by decide) (by decide) (by decide) (Nat.le_of_ble_eq_true rfl) (Nat.le_of_ble_eq_true rfl) d_Li_init_15 (fun q15 H hP hD hS => ?_)
  refine W.widen (k := 2) (n := 60) (Nat.le_refl _) (Nat.le_refl _) ?_
  have lo := len
  obtain ⟨w3, hP, hD, len, ke, mq⟩ := hs_push hP hD len
  have len : w3.length = k + 3 := len
  have ka : ∀ ad : Nat → Nat, hw_ad ad w3 → hw_ad ad w2 := fun ad a => hw_ad.push lo ke a
  have m_0 : w3[k]? = some (h, .inr (3, [.ref q7, .null, .null, .null, .null, .int 0])) := (ke _ (hq_k (by decide))).trans m_0
  have m_1 : w3[k + 1]? = some (q7, .inl (cI, 30, .inl (fun _ => 0))) := (ke _ (hq_lt (by decide))).trans m_1
  have kp : ∀ j : Nat, j < k → w3[j]? = w0[j]? := fun j hj => (ke j (hq_j _ hj)).trans (kp j hj)
  have m_2 : w3[k + 2]? = some (q15, .inl (cI, 30, .inl (fun _ => 0))) := mq
  refine va_putF (D := D) (ci := 3) (v := .ref q15) (ty := .array .int) (C := R_Li) (T := F_Li) (N := 6) hx hb hts i_Li t_Li t_Li_ok n_Li hown hK hP hD hS (k) m_0 rfl 1 (by decide) (hts _ iw_54) (fun _ h9 => h9) rfl hin rfl (by decide +kernel) rfl rfl (Nat.le_of_ble_eq_true rfl) d_Li_init_17 (fun H locs hP hD hS => ?_)
  obtain ⟨w4, hP, hD, len, ke, m1⟩ := hs_up2 hP hD m_0 len
  have ka : ∀ ad : Nat → Nat, hw_ad ad w4 → hw_ad ad w3 := fun ad a => hw_ad.set m_0 m1 ke a
  have m_0 : w4[k]? = some (h, .inr (3, [.ref q7, .ref q15, .null, .null, .null, .int 0])) := m1
  have m_1 : w4[k + 1]? = some (q7, .inl (cI, 30, .inl (fun _ => 0))) := (ke _ (hq_ne (by decide))).trans m_1
  have m_2 : w4[k + 2]? = some (q15, .inl (cI, 30, .inl (fun _ => 0))) := (ke _ (hq_ne (by decide))).trans m_2
  have kp : ∀ j : Nat, j < k → w4[j]? = w0[j]? := fun j hj => (ke j (Nat.ne_of_lt hj)).trans (kp j hj)
  refine lv_aload_n hx hb d_Li_init_20 rfl (lv_at hl 0 rfl) ?_
  refine lv_bipush (v := 120) hx hb d_Li_init_21 (by decide) ?_
  refine hw_newa (atype := .int) (ty := .int) hx hb (hts _ iw_40) rfl hK hP hD hS hA 0 rfl (fun _ h9 => h9) (N' := 120) (fun _ => rfl) (by decide) (by decide) (by decide) (Nat.le_of_ble_eq_true rfl) (Nat.le_of_ble_eq_true rfl) d_Li_init_23 (fun q23 H hP hD hS => ?_)
  refine W.widen (k := 3) (n := 180) (Nat.le_refl _) (Nat.le_refl _) ?_
  have lo := len
  obtain ⟨w5, hP, hD, len, ke, mq⟩ := hs_push hP hD len
  have len : w5.length = k + 4 := len
  have ka : ∀ ad : Nat → Nat, hw_ad ad w5 → hw_ad ad w4 := fun ad a => hw_ad.push lo ke a
  have m_0 : w5[k]? = some (h, .inr (3, [.ref q7, .ref q15, .null, .null, .null, .int 0])) := (ke _ (hq_k (by decide))).trans m_0
  have m_1 : w5[k + 1]? = some (q7, .inl (cI, 30, .inl (fun _ => 0))) := (ke _ (hq_lt (by decide))).trans m_1
  have m_2 : w5[k + 2]? = some (q15, .inl (cI, 30, .inl (fun _ => 0))) := (ke _ (hq_lt (by decide))).trans m_2
  have kp : ∀ j : Nat, j < k → w5[j]? = w0[j]? := fun j hj => (ke j (hq_j _ hj)).trans (kp j hj)
  have m_3 : w5[k + 3]? = some (q23, .inl (cI, 120, .inl (fun _ => 0))) := mq
  refine va_putF (D := D) (ci := 3) (v := .ref q23) (ty := .array .int) (C := R_Li) (T := F_Li) (N := 6) hx hb hts i_Li t_Li t_Li_ok n_Li hown hK hP hD hS (k) m_0 rfl 2 (by decide) (hts _ iw_55) (fun _ h9 => h9) rfl hin rfl (by decide +kernel) rfl rfl (Nat.le_of_ble_eq_true rfl) d_Li_init_25 (fun H locs hP hD hS => ?_)
  obtain ⟨w6, hP, hD, len, ke, m1⟩ := hs_up2 hP hD m_0 len
  have ka : ∀ ad : Nat → Nat, hw_ad ad w6 → hw_ad ad w5 := fun ad a => hw_ad.set m_0 m1 ke a
  have m_0 : w6[k]? = some (h, .inr (3, [.ref q7, .ref q15, .ref q23, .null, .null, .int 0])) := m1
  have m_1 : w6[k + 1]? = some (q7, .inl (cI, 30, .inl (fun _ => 0))) := (ke _ (hq_ne (by decide))).trans m_1
  have m_2 : w6[k + 2]? = some (q15, .inl (cI, 30, .inl (fun _ => 0))) := (ke _ (hq_ne (by decide))).trans m_2
  have m_3 : w6[k + 3]? = some (q23, .inl (cI, 120, .inl (fun _ => 0))) := (ke _ (hq_ne (by decide))).trans m_3
  have kp : ∀ j : Nat, j < k → w6[j]? = w0[j]? := fun j hj => (ke j (Nat.ne_of_lt hj)).trans (kp j hj)
  refine lv_aload_n hx hb d_Li_init_28 rfl (lv_at hl 0 rfl) ?_
  refine lv_sipush (v := 840) hx hb d_Li_init_29 (by decide) ?_
  refine hw_newa (atype := .int) (ty := .int) hx hb (hts _ iw_40) rfl hK hP hD hS hA 0 rfl (fun _ h9 => h9) (N' := 840) (fun _ => rfl) (by decide) (by decide) (by decide) (Nat.le_of_ble_eq_true rfl) (Nat.le_of_ble_eq_true rfl) d_Li_init_32 (fun q32 H hP hD hS => ?_)
  refine W.widen (k := 4) (n := 1020) (Nat.le_refl _) (Nat.le_refl _) ?_
  have lo := len
  obtain ⟨w7, hP, hD, len, ke, mq⟩ := hs_push hP hD len
  have len : w7.length = k + 5 := len
  have ka : ∀ ad : Nat → Nat, hw_ad ad w7 → hw_ad ad w6 := fun ad a => hw_ad.push lo ke a
  have m_0 : w7[k]? = some (h, .inr (3, [.ref q7, .ref q15, .ref q23, .null, .null, .int 0])) := (ke _ (hq_k (by decide))).trans m_0
  have m_1 : w7[k + 1]? = some (q7, .inl (cI, 30, .inl (fun _ => 0))) := (ke _ (hq_lt (by decide))).trans m_1
  have m_2 : w7[k + 2]? = some (q15, .inl (cI, 30, .inl (fun _ => 0))) := (ke _ (hq_lt (by decide))).trans m_2
  have m_3 : w7[k + 3]? = some (q23, .inl (cI, 120, .inl (fun _ => 0))) := (ke _ (hq_lt (by decide))).trans m_3
  have kp : ∀ j : Nat, j < k → w7[j]? = w0[j]? := fun j hj => (ke j (hq_j _ hj)).trans (kp j hj)
  have m_4 : w7[k + 4]? = some (q32, .inl (cI, 840, .inl (fun _ => 0))) := mq
  refine va_putF (D := D) (ci := 3) (v := .ref q32) (ty := .array .int) (C := R_Li) (T := F_Li) (N := 6) hx hb hts i_Li t_Li t_Li_ok n_Li hown hK hP hD hS (k) m_0 rfl 3 (by decide) (hts _ iw_56) (fun _ h9 => h9) rfl hin rfl (by decide +kernel) rfl rfl (Nat.le_of_ble_eq_true rfl) d_Li_init_34 (fun H locs hP hD hS => ?_)
  obtain ⟨w8, hP, hD, len, ke, m1⟩ := hs_up2 hP hD m_0 len
  have ka : ∀ ad : Nat → Nat, hw_ad ad w8 → hw_ad ad w7 := fun ad a => hw_ad.set m_0 m1 ke a
  have m_0 : w8[k]? = some (h, .inr (3, [.ref q7, .ref q15, .ref q23, .ref q32, .null, .int 0])) := m1
  have m_1 : w8[k + 1]? = some (q7, .inl (cI, 30, .inl (fun _ => 0))) := (ke _ (hq_ne (by decide))).trans m_1
  have m_2 : w8[k + 2]? = some (q15, .inl (cI, 30, .inl (fun _ => 0))) := (ke _ (hq_ne (by decide))).trans m_2
  have m_3 : w8[k + 3]? = some (q23, .inl (cI, 120, .inl (fun _ => 0))) := (ke _ (hq_ne (by decide))).trans m_3
  have m_4 : w8[k + 4]? = some (q32, .inl (cI, 840, .inl (fun _ => 0))) := (ke _ (hq_ne (by decide))).trans m_4
  have kp : ∀ j : Nat, j < k → w8[j]? = w0[j]? := fun j hj => (ke j (Nat.ne_of_lt hj)).trans (kp j hj)
  refine lv_aload_n hx hb d_Li_init_37 rfl (lv_at hl 0 rfl) ?_
  refine lv_bipush (v := 30) hx hb d_Li_init_38 (by decide) ?_
  refine hw_newa (atype := .int) (ty := .int) hx hb (hts _ iw_40) rfl hK hP hD hS hA 0 rfl (fun _ h9 => h9) (N' := 30) (fun _ => rfl) (by decide) (by decide) (by decide) (Nat.le_of_ble_eq_true rfl) (Nat.le_of_ble_eq_true rfl) d_Li_init_40 (fun q40 H hP hD hS => ?_)
  refine W.widen (k := 5) (n := 1050) (Nat.le_refl _) (Nat.le_refl _) ?_
  have lo := len
  obtain ⟨w9, hP, hD, len, ke, mq⟩ := hs_push hP hD len
  have len : w9.length = k + 6 := len
  have ka : ∀ ad : Nat → Nat, hw_ad ad w9 → hw_ad ad w8 := fun ad a => hw_ad.push lo ke a
  have m_0 : w9[k]? = some (h, .inr (3, [.ref q7, .ref q15, .ref q23, .ref q32, .null, .int 0])) := (ke _ (hq_k (by decide))).trans m_0
  have m_1 : w9[k + 1]? = some (q7, .inl (cI, 30, .inl (fun _ => 0))) := (ke _ (hq_lt (by decide))).trans m_1
  have m_2 : w9[k + 2]? = some (q15, .inl (cI, 30, .inl (fun _ => 0))) := (ke _ (hq_lt (by decide))).trans m_2
  have m_3 : w9[k + 3]? = some (q23, .inl (cI, 120, .inl (fun _ => 0))) := (ke _ (hq_lt (by decide))).trans m_3
  have m_4 : w9[k + 4]? = some (q32, .inl (cI, 840, .inl (fun _ => 0))) := (ke _ (hq_lt (by decide))).trans m_4
  have kp : ∀ j : Nat, j < k → w9[j]? = w0[j]? := fun j hj => (ke j (hq_j _ hj)).trans (kp j hj)
  have m_5 : w9[k + 5]? = some (q40, .inl (cI, 30, .inl (fun _ => 0))) := mq
  refine va_putF (D := D) (ci := 3) (v := .ref q40) (ty := .array .int) (C := R_Li) (T := F_Li) (N := 6) hx hb hts i_Li t_Li t_Li_ok n_Li hown hK hP hD hS (k) m_0 rfl 4 (by decide) (hts _ iw_57) (fun _ h9 => h9) rfl hin rfl (by decide +kernel) rfl rfl (Nat.le_of_ble_eq_true rfl) d_Li_init_42 (fun H locs hP hD hS => ?_)
  obtain ⟨w10, hP, hD, len, ke, m1⟩ := hs_up2 hP hD m_0 len
  have ka : ∀ ad : Nat → Nat, hw_ad ad w10 → hw_ad ad w9 := fun ad a => hw_ad.set m_0 m1 ke a
  have m_0 : w10[k]? = some (h, .inr (3, [.ref q7, .ref q15, .ref q23, .ref q32, .ref q40, .int 0])) := m1
  have m_1 : w10[k + 1]? = some (q7, .inl (cI, 30, .inl (fun _ => 0))) := (ke _ (hq_ne (by decide))).trans m_1
  have m_2 : w10[k + 2]? = some (q15, .inl (cI, 30, .inl (fun _ => 0))) := (ke _ (hq_ne (by decide))).trans m_2
  have m_3 : w10[k + 3]? = some (q23, .inl (cI, 120, .inl (fun _ => 0))) := (ke _ (hq_ne (by decide))).trans m_3
  have m_4 : w10[k + 4]? = some (q32, .inl (cI, 840, .inl (fun _ => 0))) := (ke _ (hq_ne (by decide))).trans m_4
  have m_5 : w10[k + 5]? = some (q40, .inl (cI, 30, .inl (fun _ => 0))) := (ke _ (hq_ne (by decide))).trans m_5
  have kp : ∀ j : Nat, j < k → w10[j]? = w0[j]? := fun j hj => (ke j (Nat.ne_of_lt hj)).trans (kp j hj)
  refine W.vret hx hb hr (fun t ht hW => ⟨⟨w10, rfl, ⟨fun ad a => ?_, len, kp, ⟨_, m_0⟩⟩, by rw [ht]; exact hP, hD⟩, hS.F ht⟩) hS.2.2 d_Li_init_45
  have e0 : ad k = h := a _ _ m_0
  have e1 : ad (k + 1) = q7 := a _ _ m_1
  have e2 : ad (k + 2) = q15 := a _ _ m_2
  have e3 : ad (k + 3) = q23 := a _ _ m_3
  have e4 : ad (k + 4) = q32 := a _ _ m_4
  have e5 : ad (k + 5) = q40 := a _ _ m_5
  exact ⟨(by rw [e0, e1, e2, e3, e4, e5]; exact m_0), (by rw [e1]; exact m_1), (by rw [e2]; exact m_2), (by rw [e3]; exact m_3), (by rw [e4]; exact m_4), (by rw [e5]; exact m_5)⟩
