set_option maxHeartbeats 4000000 in
set_option maxRecDepth 100000 in
theorem c_Do_init (l : Launch) (D : va_G) (cI cG cZ : ClassId) (B : Nat) (w0 : va_W) (k h : Nat) (m_0 : w0[k]? = some (h, .inr (1, [.null, .null, .null, .int 0]))) (len : w0.length = k + 1) : Met l y_Do_init (.code y_Do_init b_Do_init 1 none :: hw_G) ({ frames := 1, cells := 33, slots := 188, locals := 20 } : Room) (va_Pc [.ref h] (hw_UA D cI cG cZ B w0)) (va_Qv (fun (w1 : va_W) => (∀ ad : Nat → Nat, hw_ad ad w1 → wc_Do cI cG cZ ad k i0_Do w1) ∧ w1.length = k + 34 ∧ (∀ j : Nat, j < k → w1[j]? = w0[j]?) ∧ ∃ e1, w1[k]? = some (h, e1)) (hw_B D B) (fun q : Nat => B ≤ q)) 33 188 (fun q : Nat => B ≤ q) := by
  refine Met.ofW (cc := b_Do_init) (maxL := 1) (ret := none) (by decide) rfl ?_
  intro p e s m args below meth c s₁ Bd hml hv
  obtain ⟨rfl, ⟨hP, hD, hK, hN⟩, hBs, hO⟩ := hv
  have hx := Bd.exec
  have hb := Bd.bytes
  have hr := Bd.returns
  have hown : s.vm.findClass R_Do = some m.cls := findClass_of_methodNamed Bd.named
  have hts : ∀ w ∈ hw_G, w.before #[Value.ref h] s = true := fun w hw => atoms_spec (ws := .code y_Do_init b_Do_init 1 none :: hw_G) Bd.pre w (List.mem_cons_of_mem _ hw)
  have hlocks := Bd.notSynchronized
  have hin : meth.name = "<init>" := (name_of_methodNamed Bd.named Bd.method).1
  have hA : ∀ q : Nat, s.heap.size ≤ q → (fun q : Nat => B ≤ q) q := fun q hq => Nat.le_trans hBs hq
  have hS : va_S (fun q : Nat => B ≤ q) s.heap s.heap [] := va_S.rf
  have kp : ∀ j : Nat, j < k → w0[j]? = w0[j]? := fun _ _ => rfl
  have lo0 := len
  have hl := lv_entry ([.ref h]) (n := 1) (Nat.le_of_ble_eq_true rfl)
  rw [lg_entry_eq]
  generalize (lg_sl ([.ref h]) ++ List.replicate (1 - (lg_sl ([.ref h])).length) Slot.unset).toArray = ls at hl ⊢
  have hl : lv_has ls 1 [(0, .ref h)] := hl
  refine lv_aload_n hx hb d_Do_init_0 rfl (lv_at hl 0 rfl) ?_
  refine W.objInit hx hb hown (hts _ iw_24) (hts _ iw_obj_inst) (hts _ iw_obj_code) rfl (by rw [hml]; exact hl.1) rfl d_Do_init_1 (Nat.le_of_ble_eq_true rfl) (Nat.le_of_ble_eq_true rfl) ?_
  refine W.eq (g2 := F0 m 4 ls []) rfl ?_
  refine lv_aload_n hx hb d_Do_init_4 rfl (lv_at hl 0 rfl) ?_
  refine lv_bipush (v := 30) hx hb d_Do_init_5 (by decide) ?_
  refine lv_iconst (v := 4) hx hb d_Do_init_7 (by decide) ?_
  refine hw_mna hx hb hown (hts _ iw_25) hO (hts _ iw_40) hK hP hD hS hA len (Nat.le_of_ble_eq_true rfl) (Nat.le_of_ble_eq_true rfl) d_Do_init_8 (fun q8 wn H hP hD hS len ke gq nq => ?_)
  refine W.widen (k := 31) (n := 150) (Nat.le_refl _) (Nat.le_refl _) ?_
  generalize wn = w1 at hP hD len ke gq nq
  have len : w1.length = k + 32 := len
  have ka : ∀ ad : Nat → Nat, hw_ad ad w1 → hw_ad ad w0 := fun ad a => hw_ad.push lo0 ke a
  have m_0 : w1[k]? = some (h, .inr (1, [.null, .null, .null, .int 0])) := (ke _ (hq_k (by decide))).trans m_0
  have kp : ∀ j : Nat, j < k → w1[j]? = w0[j]? := fun j hj => (ke j (hq_j _ hj)).trans (kp j hj)
  have m_1 : ∀ ad : Nat → Nat, hw_ad ad w1 → wc_grid cI cG ad (k + 1) 30 4 (fun _ _ => 0) w1 := gq
  have n_1 : ∃ e1, w1[k + 1]? = some (q8, e1) := nq
  refine va_putF (D := D) (ci := 1) (v := .ref q8) (ty := .array (.array .int)) (C := R_Do) (T := F_Do) (N := 4) hx hb hts i_Do t_Do t_Do_ok n_Do hown hK hP hD hS (k) m_0 rfl 0 (by decide) (hts _ iw_27) (fun _ h9 => h9) rfl hin rfl (by decide +kernel) rfl rfl (Nat.le_of_ble_eq_true rfl) d_Do_init_12 (fun H locs hP hD hS => ?_)
  obtain ⟨w2, hP, hD, len, ke, m1⟩ := hs_up2 hP hD m_0 len
  have ka : ∀ ad : Nat → Nat, hw_ad ad w2 → hw_ad ad w1 := fun ad a => hw_ad.set m_0 m1 ke a
  have m_0 : w2[k]? = some (h, .inr (1, [.ref q8, .null, .null, .int 0])) := m1
  have m_1 : ∀ ad : Nat → Nat, hw_ad ad w2 → wc_grid cI cG ad (k + 1) 30 4 (fun _ _ => 0) w2 := fun ad a => (m_1 ad (ka ad a)).fr (fun j h1 h2 => ke j (hq_nf h1 (by decide)))
  have n_1 : ∃ e1, w2[k + 1]? = some (q8, e1) := n_1.elim (fun e1 h1 => ⟨e1, (ke _ (hq_ne (by decide))).trans h1⟩)
  have kp : ∀ j : Nat, j < k → w2[j]? = w0[j]? := fun j hj => (ke j (Nat.ne_of_lt hj)).trans (kp j hj)
  refine lv_aload_n hx hb d_Do_init_15 rfl (lv_at hl 0 rfl) ?_
  refine lv_bipush (v := 30) hx hb d_Do_init_16 (by decide) ?_
  refine hw_newa (atype := .int) (ty := .int) hx hb (hts _ iw_40) rfl hK hP hD hS hA 0 rfl (fun _ h9 => h9) (N' := 30) (fun _ => rfl) (by decide) (by decide) (by decide) (Nat.le_of_ble_eq_true rfl) (Nat.le_of_ble_eq_true rfl) d_Do_init_18 (fun q18 H hP hD hS => ?_)
  refine W.widen (k := 32) (n := 180) (Nat.le_refl _) (Nat.le_refl _) ?_
  have lo := len
  obtain ⟨w3, hP, hD, len, ke, mq⟩ := hs_push hP hD len
  have len : w3.length = k + 33 := len
  have ka : ∀ ad : Nat → Nat, hw_ad ad w3 → hw_ad ad w2 := fun ad a => hw_ad.push lo ke a
  have m_0 : w3[k]? = some (h, .inr (1, [.ref q8, .null, .null, .int 0])) := (ke _ (hq_k (by decide))).trans m_0
  have m_1 : ∀ ad : Nat → Nat, hw_ad ad w3 → wc_grid cI cG ad (k + 1) 30 4 (fun _ _ => 0) w3 := fun ad a => (m_1 ad (ka ad a)).fr (fun j h1 h2 => ke j (hq_g (k := k) (a := 1) (n := 30) h2 (by decide)))
  have n_1 : ∃ e1, w3[k + 1]? = some (q8, e1) := n_1.elim (fun e1 h1 => ⟨e1, (ke _ (hq_lt (by decide))).trans h1⟩)
  have kp : ∀ j : Nat, j < k → w3[j]? = w0[j]? := fun j hj => (ke j (hq_j _ hj)).trans (kp j hj)
  have m_32 : w3[k + 32]? = some (q18, .inl (cI, 30, .inl (fun _ => 0))) := mq
  refine va_putF (D := D) (ci := 1) (v := .ref q18) (ty := .array .int) (C := R_Do) (T := F_Do) (N := 4) hx hb hts i_Do t_Do t_Do_ok n_Do hown hK hP hD hS (k) m_0 rfl 1 (by decide) (hts _ iw_28) (fun _ h9 => h9) rfl hin rfl (by decide +kernel) rfl rfl (Nat.le_of_ble_eq_true rfl) d_Do_init_20 (fun H locs hP hD hS => ?_)
  obtain ⟨w4, hP, hD, len, ke, m1⟩ := hs_up2 hP hD m_0 len
  have ka : ∀ ad : Nat → Nat, hw_ad ad w4 → hw_ad ad w3 := fun ad a => hw_ad.set m_0 m1 ke a
  have m_0 : w4[k]? = some (h, .inr (1, [.ref q8, .ref q18, .null, .int 0])) := m1
  have m_1 : ∀ ad : Nat → Nat, hw_ad ad w4 → wc_grid cI cG ad (k + 1) 30 4 (fun _ _ => 0) w4 := fun ad a => (m_1 ad (ka ad a)).fr (fun j h1 h2 => ke j (hq_nf h1 (by decide)))
  have n_1 : ∃ e1, w4[k + 1]? = some (q8, e1) := n_1.elim (fun e1 h1 => ⟨e1, (ke _ (hq_ne (by decide))).trans h1⟩)
  have m_32 : w4[k + 32]? = some (q18, .inl (cI, 30, .inl (fun _ => 0))) := (ke _ (hq_ne (by decide))).trans m_32
  have kp : ∀ j : Nat, j < k → w4[j]? = w0[j]? := fun j hj => (ke j (Nat.ne_of_lt hj)).trans (kp j hj)
  refine lv_aload_n hx hb d_Do_init_23 rfl (lv_at hl 0 rfl) ?_
  refine lv_bipush (v := 8) hx hb d_Do_init_24 (by decide) ?_
  refine hw_newa (atype := .int) (ty := .int) hx hb (hts _ iw_40) rfl hK hP hD hS hA 0 rfl (fun _ h9 => h9) (N' := 8) (fun _ => rfl) (by decide) (by decide) (by decide) (Nat.le_of_ble_eq_true rfl) (Nat.le_of_ble_eq_true rfl) d_Do_init_26 (fun q26 H hP hD hS => ?_)
  refine W.widen (k := 33) (n := 188) (Nat.le_refl _) (Nat.le_refl _) ?_
  have lo := len
  obtain ⟨w5, hP, hD, len, ke, mq⟩ := hs_push hP hD len
  have len : w5.length = k + 34 := len
  have ka : ∀ ad : Nat → Nat, hw_ad ad w5 → hw_ad ad w4 := fun ad a => hw_ad.push lo ke a
  have m_0 : w5[k]? = some (h, .inr (1, [.ref q8, .ref q18, .null, .int 0])) := (ke _ (hq_k (by decide))).trans m_0
  have m_1 : ∀ ad : Nat → Nat, hw_ad ad w5 → wc_grid cI cG ad (k + 1) 30 4 (fun _ _ => 0) w5 := fun ad a => (m_1 ad (ka ad a)).fr (fun j h1 h2 => ke j (hq_g (k := k) (a := 1) (n := 30) h2 (by decide)))
  have n_1 : ∃ e1, w5[k + 1]? = some (q8, e1) := n_1.elim (fun e1 h1 => ⟨e1, (ke _ (hq_lt (by decide))).trans h1⟩)
  have m_32 : w5[k + 32]? = some (q18, .inl (cI, 30, .inl (fun _ => 0))) := (ke _ (hq_lt (by decide))).trans m_32
  have kp : ∀ j : Nat, j < k → w5[j]? = w0[j]? := fun j hj => (ke j (hq_j _ hj)).trans (kp j hj)
  have m_33 : w5[k + 33]? = some (q26, .inl (cI, 8, .inl (fun _ => 0))) := mq
  refine va_putF (D := D) (ci := 1) (v := .ref q26) (ty := .array .int) (C := R_Do) (T := F_Do) (N := 4) hx hb hts i_Do t_Do t_Do_ok n_Do hown hK hP hD hS (k) m_0 rfl 2 (by decide) (hts _ iw_29) (fun _ h9 => h9) rfl hin rfl (by decide +kernel) rfl rfl (Nat.le_of_ble_eq_true rfl) d_Do_init_28 (fun H locs hP hD hS => ?_)
  obtain ⟨w6, hP, hD, len, ke, m1⟩ := hs_up2 hP hD m_0 len
  have ka : ∀ ad : Nat → Nat, hw_ad ad w6 → hw_ad ad w5 := fun ad a => hw_ad.set m_0 m1 ke a
  have m_0 : w6[k]? = some (h, .inr (1, [.ref q8, .ref q18, .ref q26, .int 0])) := m1
  have m_1 : ∀ ad : Nat → Nat, hw_ad ad w6 → wc_grid cI cG ad (k + 1) 30 4 (fun _ _ => 0) w6 := fun ad a => (m_1 ad (ka ad a)).fr (fun j h1 h2 => ke j (hq_nf h1 (by decide)))
  have n_1 : ∃ e1, w6[k + 1]? = some (q8, e1) := n_1.elim (fun e1 h1 => ⟨e1, (ke _ (hq_ne (by decide))).trans h1⟩)
  have m_32 : w6[k + 32]? = some (q18, .inl (cI, 30, .inl (fun _ => 0))) := (ke _ (hq_ne (by decide))).trans m_32
  have m_33 : w6[k + 33]? = some (q26, .inl (cI, 8, .inl (fun _ => 0))) := (ke _ (hq_ne (by decide))).trans m_33
  have kp : ∀ j : Nat, j < k → w6[j]? = w0[j]? := fun j hj => (ke j (Nat.ne_of_lt hj)).trans (kp j hj)
  refine W.vret hx hb hr (fun t ht hW => ⟨⟨w6, rfl, ⟨fun ad a => ?_, len, kp, ⟨_, m_0⟩⟩, by rw [ht]; exact hP, hD⟩, hS.F ht⟩) hS.2.2 d_Do_init_31
  have e0 : ad k = h := a _ _ m_0
  have e1 : ad (k + 1) = q8 := n_1.elim (fun e1 h1 => a _ _ h1)
  have e32 : ad (k + 32) = q18 := a _ _ m_32
  have e33 : ad (k + 33) = q26 := a _ _ m_33
  exact ⟨(by rw [e0, e1, e32, e33]; exact m_0), (m_1 ad a), (by rw [e32]; exact m_32), (by rw [e33]; exact m_33)⟩
