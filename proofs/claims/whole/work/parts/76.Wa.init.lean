set_option maxHeartbeats 4000000 in
set_option maxRecDepth 100000 in
theorem c_Wa_init (l : Launch) (D : va_G) (cI cG cZ : ClassId) (B : Nat) (w0 : va_W) (k h : Nat) (m_0 : w0[k]? = some (h, .inr (5, [.null, .null, .null, .int 0]))) (len : w0.length = k + 1) : Met l y_Wa_init (.code y_Wa_init b_Wa_init 1 none :: hw_G) ({ frames := 2, cells := 7, slots := 160, locals := 40 } : Room) (va_Pc [.ref h] (hw_UA D cI cG cZ B w0)) (va_Qv (fun (w1 : va_W) => (∀ ad : Nat → Nat, hw_ad ad w1 → wc_Wa cI cG cZ ad k i0_Wa w1) ∧ w1.length = k + 8 ∧ (∀ j : Nat, j < k → w1[j]? = w0[j]?) ∧ ∃ e1, w1[k]? = some (h, e1)) (hw_B D B) (fun q : Nat => B ≤ q)) 7 160 (fun q : Nat => B ≤ q) := by
  refine Met.ofW (cc := b_Wa_init) (maxL := 1) (ret := none) (by decide) rfl ?_
  intro p e s m args below meth c s₁ Bd hml hv
  obtain ⟨rfl, ⟨hP, hD, hK, hN⟩, hBs, hO⟩ := hv
  have hx := Bd.exec
  have hb := Bd.bytes
  have hr := Bd.returns
  have hown : s.vm.findClass R_Wa = some m.cls := findClass_of_methodNamed Bd.named
  have hts : ∀ w ∈ hw_G, w.before #[Value.ref h] s = true := fun w hw => atoms_spec (ws := .code y_Wa_init b_Wa_init 1 none :: hw_G) Bd.pre w (List.mem_cons_of_mem _ hw)
  have hlocks := Bd.notSynchronized
  have hin : meth.name = "<init>" := (name_of_methodNamed Bd.named Bd.method).1
  have hA : ∀ q : Nat, s.heap.size ≤ q → (fun q : Nat => B ≤ q) q := fun q hq => Nat.le_trans hBs hq
  have hS : va_S (fun q : Nat => B ≤ q) s.heap s.heap [] := va_S.rf
  have kp : ∀ j : Nat, j < k → w0[j]? = w0[j]? := fun _ _ => rfl
  have lo0 := len
  have hl := lv_entry ([.ref h]) (n := 1) (Nat.le_of_ble_eq_true rfl)
  rw [lg_entry_eq]
  generalize (lg_sl ([.ref h]) ++ List.replicate (1 - (lg_sl ([.ref h])).length) Slot.unset).toArray = ls at hl ⊢
  have hl : lv_has ls 1 [(0, .ref h)] := hl
  refine lv_aload_n hx hb d_Wa_init_0 rfl (lv_at hl 0 rfl) ?_
  refine W.objInit hx hb hown (hts _ iw_77) (hts _ iw_obj_inst) (hts _ iw_obj_code) rfl (by rw [hml]; exact hl.1) rfl d_Wa_init_1 (Nat.le_of_ble_eq_true rfl) (Nat.le_of_ble_eq_true rfl) ?_
  refine W.eq (g2 := F0 m 4 ls []) rfl ?_
  refine lv_aload_n hx hb d_Wa_init_4 rfl (lv_at hl 0 rfl) ?_
  refine va_new (ci := 4) (fs := [.null, .null, .int 0, .int 0, .int 0]) (C := R_Rk) (T := F_Rk) (N := 5) hx hb hts i_Rk t_Rk t_Rk_ok hown (hts _ iw_78) (hts _ iw_79) (hts _ iw_6) hK hP hD hS hA rfl (fun j hj => match j, hj with | 0, _ => rfl | 1, _ => rfl | 2, _ => rfl | 3, _ => rfl | 4, _ => rfl | k + 5, h => absurd h (by omega)) (Nat.le_of_ble_eq_true rfl) (Nat.le_of_ble_eq_true rfl) d_Wa_init_5 (fun q5 H hP hD hS => ?_)
  refine W.widen (k := 1) (n := 5) (Nat.le_refl _) (Nat.le_refl _) ?_
  have lo := len
  obtain ⟨w1, hP, hD, len, ke, mq⟩ := hs_push hP hD len
  have len : w1.length = k + 2 := len
  have ka : ∀ ad : Nat → Nat, hw_ad ad w1 → hw_ad ad w0 := fun ad a => hw_ad.push lo ke a
  have m_0 : w1[k]? = some (h, .inr (5, [.null, .null, .null, .int 0])) := (ke _ (hq_k (by decide))).trans m_0
  have kp : ∀ j : Nat, j < k → w1[j]? = w0[j]? := fun j hj => (ke j (hq_j _ hj)).trans (kp j hj)
  have mq : w1[k + 1]? = some (q5, .inr (4, [.null, .null, .int 0, .int 0, .int 0])) := mq
  refine lv_dup hx hb d_Wa_init_8 rfl ?_
  refine hw_cm (va_runIN (As := []) (rest := [.ref q5, .ref h]) ⟨hx, hb, hml, hown, hts⟩ (c_Rk_init l D cI cG cZ B w1 (k + 1) q5 mq len) ⟨va_cnB 0 hts (hw_gc ic_Rk_init) rfl rfl rfl (hN _ in_80) (hts _ iw_6) (by decide +kernel) ⟨Nat.le_of_ble_eq_true rfl, Nat.le_of_ble_eq_true rfl⟩, rfl, hts _ iw_81⟩ ⟨hw_blindA, hw_goA hP hD hK hN hS hBs hO⟩ rfl rfl hl.1 rfl (lv_room (Nat.le_of_ble_eq_true rfl)) d_Wa_init_9 ⟨Nat.le_of_ble_eq_true rfl, Nat.le_of_ble_eq_true rfl⟩) hS (fun wn H locs hP hD hS hpp => ?_)
  refine W.widen (k := 3) (n := 65) (Nat.le_refl _) (Nat.le_refl _) ?_
  generalize wn = w2 at hP hD hpp
  have lo := len
  obtain ⟨bq, len, ke, hq⟩ := hpp
  have len : w2.length = k + 4 := len
  have ka : ∀ ad : Nat → Nat, hw_ad ad w2 → hw_ad ad w1 := fun ad a => hw_ad.made lo mq hq ke a
  have m_0 : w2[k]? = some (h, .inr (5, [.null, .null, .null, .int 0])) := (ke _ (hq_k (by decide))).trans m_0
  have kp : ∀ j : Nat, j < k → w2[j]? = w0[j]? := fun j hj => (ke j (hq_j _ hj)).trans (kp j hj)
  have m_1 : ∀ ad : Nat → Nat, hw_ad ad w2 → wc_Rk cI cG cZ ad (k + 1) i0_Rk w2 := bq
  have n_1 : ∃ e1, w2[k + 1]? = some (q5, e1) := hq
  refine va_putF (D := D) (ci := 5) (v := .ref q5) (ty := .object "NearDesk$Ranking") (C := R_Wa) (T := F_Wa) (N := 4) hx hb hts i_Wa t_Wa t_Wa_ok n_Wa hown hK hP hD hS (k) m_0 rfl 0 (by decide) (hts _ iw_100) (fun _ h9 => h9) rfl hin rfl (by decide +kernel) rfl rfl (Nat.le_of_ble_eq_true rfl) d_Wa_init_12 (fun H locs hP hD hS => ?_)
  obtain ⟨w3, hP, hD, len, ke, m1⟩ := hs_up2 hP hD m_0 len
  have ka : ∀ ad : Nat → Nat, hw_ad ad w3 → hw_ad ad w2 := fun ad a => hw_ad.set m_0 m1 ke a
  have m_0 : w3[k]? = some (h, .inr (5, [.ref q5, .null, .null, .int 0])) := m1
  have m_1 : ∀ ad : Nat → Nat, hw_ad ad w3 → wc_Rk cI cG cZ ad (k + 1) i0_Rk w3 := fun ad a => (m_1 ad (ka ad a)).fr (fun j h1 h2 => ke j (hq_nf h1 (by decide)))
  have n_1 : ∃ e1, w3[k + 1]? = some (q5, e1) := n_1.elim (fun e1 h1 => ⟨e1, (ke _ (hq_ne (by decide))).trans h1⟩)
  have kp : ∀ j : Nat, j < k → w3[j]? = w0[j]? := fun j hj => (ke j (Nat.ne_of_lt hj)).trans (kp j hj)
  refine lv_aload_n hx hb d_Wa_init_15 rfl (lv_at hl 0 rfl) ?_
  refine va_new (ci := 4) (fs := [.null, .null, .int 0, .int 0, .int 0]) (C := R_Rk) (T := F_Rk) (N := 5) hx hb hts i_Rk t_Rk t_Rk_ok hown (hts _ iw_78) (hts _ iw_79) (hts _ iw_6) hK hP hD hS hA rfl (fun j hj => match j, hj with | 0, _ => rfl | 1, _ => rfl | 2, _ => rfl | 3, _ => rfl | 4, _ => rfl | k + 5, h => absurd h (by omega)) (Nat.le_of_ble_eq_true rfl) (Nat.le_of_ble_eq_true rfl) d_Wa_init_16 (fun q16 H hP hD hS => ?_)
  refine W.widen (k := 4) (n := 70) (Nat.le_refl _) (Nat.le_refl _) ?_
  have lo := len
  obtain ⟨w4, hP, hD, len, ke, mq⟩ := hs_push hP hD len
  have len : w4.length = k + 5 := len
  have ka : ∀ ad : Nat → Nat, hw_ad ad w4 → hw_ad ad w3 := fun ad a => hw_ad.push lo ke a
  have m_0 : w4[k]? = some (h, .inr (5, [.ref q5, .null, .null, .int 0])) := (ke _ (hq_k (by decide))).trans m_0
  have m_1 : ∀ ad : Nat → Nat, hw_ad ad w4 → wc_Rk cI cG cZ ad (k + 1) i0_Rk w4 := fun ad a => (m_1 ad (ka ad a)).fr (fun j h1 h2 => ke j (hq_fr (k := k) (a := 1) (n := 3) h2 (by decide)))
  have n_1 : ∃ e1, w4[k + 1]? = some (q5, e1) := n_1.elim (fun e1 h1 => ⟨e1, (ke _ (hq_lt (by decide))).trans h1⟩)
  have kp : ∀ j : Nat, j < k → w4[j]? = w0[j]? := fun j hj => (ke j (hq_j _ hj)).trans (kp j hj)
  have mq : w4[k + 4]? = some (q16, .inr (4, [.null, .null, .int 0, .int 0, .int 0])) := mq
  refine lv_dup hx hb d_Wa_init_19 rfl ?_
  refine hw_cm (va_runIN (As := []) (rest := [.ref q16, .ref h]) ⟨hx, hb, hml, hown, hts⟩ (c_Rk_init l D cI cG cZ B w4 (k + 4) q16 mq len) ⟨va_cnB 0 hts (hw_gc ic_Rk_init) rfl rfl rfl (hN _ in_80) (hts _ iw_6) (by decide +kernel) ⟨Nat.le_of_ble_eq_true rfl, Nat.le_of_ble_eq_true rfl⟩, rfl, hts _ iw_81⟩ ⟨hw_blindA, hw_goA hP hD hK hN hS hBs hO⟩ rfl rfl hl.1 rfl (lv_room (Nat.le_of_ble_eq_true rfl)) d_Wa_init_20 ⟨Nat.le_of_ble_eq_true rfl, Nat.le_of_ble_eq_true rfl⟩) hS (fun wn H locs hP hD hS hpp => ?_)
  refine W.widen (k := 6) (n := 130) (Nat.le_refl _) (Nat.le_refl _) ?_
  generalize wn = w5 at hP hD hpp
  have lo := len
  obtain ⟨bq, len, ke, hq⟩ := hpp
  have len : w5.length = k + 7 := len
  have ka : ∀ ad : Nat → Nat, hw_ad ad w5 → hw_ad ad w4 := fun ad a => hw_ad.made lo mq hq ke a
  have m_0 : w5[k]? = some (h, .inr (5, [.ref q5, .null, .null, .int 0])) := (ke _ (hq_k (by decide))).trans m_0
  have m_1 : ∀ ad : Nat → Nat, hw_ad ad w5 → wc_Rk cI cG cZ ad (k + 1) i0_Rk w5 := fun ad a => (m_1 ad (ka ad a)).fr (fun j h1 h2 => ke j (hq_fr (k := k) (a := 1) (n := 3) h2 (by decide)))
  have n_1 : ∃ e1, w5[k + 1]? = some (q5, e1) := n_1.elim (fun e1 h1 => ⟨e1, (ke _ (hq_lt (by decide))).trans h1⟩)
  have kp : ∀ j : Nat, j < k → w5[j]? = w0[j]? := fun j hj => (ke j (hq_j _ hj)).trans (kp j hj)
  have m_4 : ∀ ad : Nat → Nat, hw_ad ad w5 → wc_Rk cI cG cZ ad (k + 4) i0_Rk w5 := bq
  have n_4 : ∃ e1, w5[k + 4]? = some (q16, e1) := hq
  refine va_putF (D := D) (ci := 5) (v := .ref q16) (ty := .object "NearDesk$Ranking") (C := R_Wa) (T := F_Wa) (N := 4) hx hb hts i_Wa t_Wa t_Wa_ok n_Wa hown hK hP hD hS (k) m_0 rfl 1 (by decide) (hts _ iw_101) (fun _ h9 => h9) rfl hin rfl (by decide +kernel) rfl rfl (Nat.le_of_ble_eq_true rfl) d_Wa_init_23 (fun H locs hP hD hS => ?_)
  obtain ⟨w6, hP, hD, len, ke, m1⟩ := hs_up2 hP hD m_0 len
  have ka : ∀ ad : Nat → Nat, hw_ad ad w6 → hw_ad ad w5 := fun ad a => hw_ad.set m_0 m1 ke a
  have m_0 : w6[k]? = some (h, .inr (5, [.ref q5, .ref q16, .null, .int 0])) := m1
  have m_1 : ∀ ad : Nat → Nat, hw_ad ad w6 → wc_Rk cI cG cZ ad (k + 1) i0_Rk w6 := fun ad a => (m_1 ad (ka ad a)).fr (fun j h1 h2 => ke j (hq_nf h1 (by decide)))
  have n_1 : ∃ e1, w6[k + 1]? = some (q5, e1) := n_1.elim (fun e1 h1 => ⟨e1, (ke _ (hq_ne (by decide))).trans h1⟩)
  have m_4 : ∀ ad : Nat → Nat, hw_ad ad w6 → wc_Rk cI cG cZ ad (k + 4) i0_Rk w6 := fun ad a => (m_4 ad (ka ad a)).fr (fun j h1 h2 => ke j (hq_nf h1 (by decide)))
  have n_4 : ∃ e1, w6[k + 4]? = some (q16, e1) := n_4.elim (fun e1 h1 => ⟨e1, (ke _ (hq_ne (by decide))).trans h1⟩)
  have kp : ∀ j : Nat, j < k → w6[j]? = w0[j]? := fun j hj => (ke j (Nat.ne_of_lt hj)).trans (kp j hj)
  refine lv_aload_n hx hb d_Wa_init_26 rfl (lv_at hl 0 rfl) ?_
  refine lv_bipush (v := 30) hx hb d_Wa_init_27 (by decide) ?_
  refine hw_newa (atype := .int) (ty := .int) hx hb (hts _ iw_40) rfl hK hP hD hS hA 0 rfl (fun _ h9 => h9) (N' := 30) (fun _ => rfl) (by decide) (by decide) (by decide) (Nat.le_of_ble_eq_true rfl) (Nat.le_of_ble_eq_true rfl) d_Wa_init_29 (fun q29 H hP hD hS => ?_)
  refine W.widen (k := 7) (n := 160) (Nat.le_refl _) (Nat.le_refl _) ?_
  have lo := len
  obtain ⟨w7, hP, hD, len, ke, mq⟩ := hs_push hP hD len
  have len : w7.length = k + 8 := len
  have ka : ∀ ad : Nat → Nat, hw_ad ad w7 → hw_ad ad w6 := fun ad a => hw_ad.push lo ke a
  have m_0 : w7[k]? = some (h, .inr (5, [.ref q5, .ref q16, .null, .int 0])) := (ke _ (hq_k (by decide))).trans m_0
  have m_1 : ∀ ad : Nat → Nat, hw_ad ad w7 → wc_Rk cI cG cZ ad (k + 1) i0_Rk w7 := fun ad a => (m_1 ad (ka ad a)).fr (fun j h1 h2 => ke j (hq_fr (k := k) (a := 1) (n := 3) h2 (by decide)))
  have n_1 : ∃ e1, w7[k + 1]? = some (q5, e1) := n_1.elim (fun e1 h1 => ⟨e1, (ke _ (hq_lt (by decide))).trans h1⟩)
  have m_4 : ∀ ad : Nat → Nat, hw_ad ad w7 → wc_Rk cI cG cZ ad (k + 4) i0_Rk w7 := fun ad a => (m_4 ad (ka ad a)).fr (fun j h1 h2 => ke j (hq_fr (k := k) (a := 4) (n := 3) h2 (by decide)))
  have n_4 : ∃ e1, w7[k + 4]? = some (q16, e1) := n_4.elim (fun e1 h1 => ⟨e1, (ke _ (hq_lt (by decide))).trans h1⟩)
  have kp : ∀ j : Nat, j < k → w7[j]? = w0[j]? := fun j hj => (ke j (hq_j _ hj)).trans (kp j hj)
  have m_7 : w7[k + 7]? = some (q29, .inl (cI, 30, .inl (fun _ => 0))) := mq
  refine va_putF (D := D) (ci := 5) (v := .ref q29) (ty := .array .int) (C := R_Wa) (T := F_Wa) (N := 4) hx hb hts i_Wa t_Wa t_Wa_ok n_Wa hown hK hP hD hS (k) m_0 rfl 2 (by decide) (hts _ iw_102) (fun _ h9 => h9) rfl hin rfl (by decide +kernel) rfl rfl (Nat.le_of_ble_eq_true rfl) d_Wa_init_31 (fun H locs hP hD hS => ?_)
  obtain ⟨w8, hP, hD, len, ke, m1⟩ := hs_up2 hP hD m_0 len
  have ka : ∀ ad : Nat → Nat, hw_ad ad w8 → hw_ad ad w7 := fun ad a => hw_ad.set m_0 m1 ke a
  have m_0 : w8[k]? = some (h, .inr (5, [.ref q5, .ref q16, .ref q29, .int 0])) := m1
  have m_1 : ∀ ad : Nat → Nat, hw_ad ad w8 → wc_Rk cI cG cZ ad (k + 1) i0_Rk w8 := fun ad a => (m_1 ad (ka ad a)).fr (fun j h1 h2 => ke j (hq_nf h1 (by decide)))
  have n_1 : ∃ e1, w8[k + 1]? = some (q5, e1) := n_1.elim (fun e1 h1 => ⟨e1, (ke _ (hq_ne (by decide))).trans h1⟩)
  have m_4 : ∀ ad : Nat → Nat, hw_ad ad w8 → wc_Rk cI cG cZ ad (k + 4) i0_Rk w8 := fun ad a => (m_4 ad (ka ad a)).fr (fun j h1 h2 => ke j (hq_nf h1 (by decide)))
  have n_4 : ∃ e1, w8[k + 4]? = some (q16, e1) := n_4.elim (fun e1 h1 => ⟨e1, (ke _ (hq_ne (by decide))).trans h1⟩)
  have m_7 : w8[k + 7]? = some (q29, .inl (cI, 30, .inl (fun _ => 0))) := (ke _ (hq_ne (by decide))).trans m_7
  have kp : ∀ j : Nat, j < k → w8[j]? = w0[j]? := fun j hj => (ke j (Nat.ne_of_lt hj)).trans (kp j hj)
  refine W.vret hx hb hr (fun t ht hW => ⟨⟨w8, rfl, ⟨fun ad a => ?_, len, kp, ⟨_, m_0⟩⟩, by rw [ht]; exact hP, hD⟩, hS.F ht⟩) hS.2.2 d_Wa_init_34
  have e0 : ad k = h := a _ _ m_0
  have e1 : ad (k + 1) = q5 := n_1.elim (fun e1 h1 => a _ _ h1)
  have e4 : ad (k + 4) = q16 := n_4.elim (fun e1 h1 => a _ _ h1)
  have e7 : ad (k + 7) = q29 := a _ _ m_7
  exact ⟨(by rw [e0, e1, e4, e7]; exact m_0), (m_1 ad a), (m_4 ad a), (by rw [e7]; exact m_7)⟩
