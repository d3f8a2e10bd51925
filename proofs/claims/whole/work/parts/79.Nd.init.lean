set_option maxHeartbeats 4000000 in
set_option maxRecDepth 100000 in
theorem c_Nd_init (l : Launch) (D : va_G) (cI cG cZ : ClassId) (B : Nat) (w0 : va_W) (k h : Nat) (m_0 : w0[k]? = some (h, .inr (6, [.null, .null, .null, .null, .null, .null]))) (len : w0.length = k + 1) : Met l y_Nd_init (.code y_Nd_init b_Nd_init 1 none :: hw_G) ({ frames := 4, cells := 62, slots := 1681, locals := 80 } : Room) (va_Pc [.ref h] (hw_UA D cI cG cZ B w0)) (va_Qv (fun (w1 : va_W) => (∀ ad : Nat → Nat, hw_ad ad w1 → wc_Nd cI cG cZ ad k i0_Nd w1) ∧ w1.length = k + 63 ∧ (∀ j : Nat, j < k → w1[j]? = w0[j]?) ∧ ∃ e1, w1[k]? = some (h, e1)) (hw_B D B) (fun q : Nat => B ≤ q)) 62 1681 (fun q : Nat => B ≤ q) := by
  refine Met.ofW (cc := b_Nd_init) (maxL := 1) (ret := none) (by decide) rfl ?_
  intro p e s m args below meth c s₁ Bd hml hv
  obtain ⟨rfl, ⟨hP, hD, hK, hN⟩, hBs, hO⟩ := hv
  have hx := Bd.exec
  have hb := Bd.bytes
  have hr := Bd.returns
  have hown : s.vm.findClass R_Nd = some m.cls := findClass_of_methodNamed Bd.named
  have hts : ∀ w ∈ hw_G, w.before #[Value.ref h] s = true := fun w hw => atoms_spec (ws := .code y_Nd_init b_Nd_init 1 none :: hw_G) Bd.pre w (List.mem_cons_of_mem _ hw)
  have hlocks := Bd.notSynchronized
  have hin : meth.name = "<init>" := (name_of_methodNamed Bd.named Bd.method).1
  have hA : ∀ q : Nat, s.heap.size ≤ q → (fun q : Nat => B ≤ q) q := fun q hq => Nat.le_trans hBs hq
  have hS : va_S (fun q : Nat => B ≤ q) s.heap s.heap [] := va_S.rf
  have kp : ∀ j : Nat, j < k → w0[j]? = w0[j]? := fun _ _ => rfl
  have lo0 := len
  have hl := lv_entry ([.ref h]) (n := 1) (Nat.le_of_ble_eq_true rfl)
  rw [lg_entry_eq]
  generalize (lg_sl ([.ref h]) ++ List.replicate (1 - (lg_sl ([.ref h])).length) Slot.unset).toArray = ls at hl ⊢
  have hl : lv_has ls 1 [(0, .ref h)] := hl
  refine lv_aload_n hx hb d_Nd_init_0 rfl (lv_at hl 0 rfl) ?_
  refine W.objInit hx hb hown (hts _ iw_16) (hts _ iw_obj_inst) (hts _ iw_obj_code) rfl (by rw [hml]; exact hl.1) rfl d_Nd_init_1 (Nat.le_of_ble_eq_true rfl) (Nat.le_of_ble_eq_true rfl) ?_
  refine W.eq (g2 := F0 m 4 ls []) rfl ?_
  refine lv_aload_n hx hb d_Nd_init_4 rfl (lv_at hl 0 rfl) ?_
  refine va_new (ci := 1) (fs := [.null, .null, .null, .int 0]) (C := R_Do) (T := F_Do) (N := 4) hx hb hts i_Do t_Do t_Do_ok hown (hts _ iw_19) (hts _ iw_20) (hts _ iw_2) hK hP hD hS hA rfl (fun j hj => match j, hj with | 0, _ => rfl | 1, _ => rfl | 2, _ => rfl | 3, _ => rfl | k + 4, h => absurd h (by omega)) (Nat.le_of_ble_eq_true rfl) (Nat.le_of_ble_eq_true rfl) d_Nd_init_5 (fun q5 H hP hD hS => ?_)
  refine W.widen (k := 1) (n := 4) (Nat.le_refl _) (Nat.le_refl _) ?_
  have lo := len
  obtain ⟨w1, hP, hD, len, ke, mq⟩ := hs_push hP hD len
  have len : w1.length = k + 2 := len
  have ka : ∀ ad : Nat → Nat, hw_ad ad w1 → hw_ad ad w0 := fun ad a => hw_ad.push lo ke a
  have m_0 : w1[k]? = some (h, .inr (6, [.null, .null, .null, .null, .null, .null])) := (ke _ (hq_k (by decide))).trans m_0
  have kp : ∀ j : Nat, j < k → w1[j]? = w0[j]? := fun j hj => (ke j (hq_j _ hj)).trans (kp j hj)
  have mq : w1[k + 1]? = some (q5, .inr (1, [.null, .null, .null, .int 0])) := mq
  refine lv_dup hx hb d_Nd_init_8 rfl ?_
  refine hw_cm (va_runIN (As := []) (rest := [.ref q5, .ref h]) ⟨hx, hb, hml, hown, hts⟩ (c_Do_init l D cI cG cZ B w1 (k + 1) q5 mq len) ⟨va_cnB 0 hts (hw_gc ic_Do_init) rfl rfl rfl (hN _ in_21) (hts _ iw_2) (by decide +kernel) ⟨Nat.le_of_ble_eq_true rfl, Nat.le_of_ble_eq_true rfl⟩, rfl, hts _ iw_22⟩ ⟨hw_blindA, hw_goA hP hD hK hN hS hBs hO⟩ rfl rfl hl.1 rfl (lv_room (Nat.le_of_ble_eq_true rfl)) d_Nd_init_9 ⟨Nat.le_of_ble_eq_true rfl, Nat.le_of_ble_eq_true rfl⟩) hS (fun wn H locs hP hD hS hpp => ?_)
  refine W.widen (k := 34) (n := 192) (Nat.le_refl _) (Nat.le_refl _) ?_
  generalize wn = w2 at hP hD hpp
  have lo := len
  obtain ⟨bq, len, ke, hq⟩ := hpp
  have len : w2.length = k + 35 := len
  have ka : ∀ ad : Nat → Nat, hw_ad ad w2 → hw_ad ad w1 := fun ad a => hw_ad.made lo mq hq ke a
  have m_0 : w2[k]? = some (h, .inr (6, [.null, .null, .null, .null, .null, .null])) := (ke _ (hq_k (by decide))).trans m_0
  have kp : ∀ j : Nat, j < k → w2[j]? = w0[j]? := fun j hj => (ke j (hq_j _ hj)).trans (kp j hj)
  have m_1 : ∀ ad : Nat → Nat, hw_ad ad w2 → wc_Do cI cG cZ ad (k + 1) i0_Do w2 := bq
  have n_1 : ∃ e1, w2[k + 1]? = some (q5, e1) := hq
  refine va_putF (D := D) (ci := 6) (v := .ref q5) (ty := .object "NearDesk$Documents") (C := R_Nd) (T := F_Nd) (N := 6) hx hb hts i_Nd t_Nd t_Nd_ok n_Nd hown hK hP hD hS (k) m_0 rfl 0 (by decide) (hts _ iw_156) (fun _ h9 => h9) rfl hin rfl (by decide +kernel) rfl rfl (Nat.le_of_ble_eq_true rfl) d_Nd_init_12 (fun H locs hP hD hS => ?_)
  obtain ⟨w3, hP, hD, len, ke, m1⟩ := hs_up2 hP hD m_0 len
  have ka : ∀ ad : Nat → Nat, hw_ad ad w3 → hw_ad ad w2 := fun ad a => hw_ad.set m_0 m1 ke a
  have m_0 : w3[k]? = some (h, .inr (6, [.ref q5, .null, .null, .null, .null, .null])) := m1
  have m_1 : ∀ ad : Nat → Nat, hw_ad ad w3 → wc_Do cI cG cZ ad (k + 1) i0_Do w3 := fun ad a => (m_1 ad (ka ad a)).fr (fun j h1 h2 => ke j (hq_nf h1 (by decide)))
  have n_1 : ∃ e1, w3[k + 1]? = some (q5, e1) := n_1.elim (fun e1 h1 => ⟨e1, (ke _ (hq_ne (by decide))).trans h1⟩)
  have kp : ∀ j : Nat, j < k → w3[j]? = w0[j]? := fun j hj => (ke j (Nat.ne_of_lt hj)).trans (kp j hj)
  refine lv_aload_n hx hb d_Nd_init_15 rfl (lv_at hl 0 rfl) ?_
  refine va_new (ci := 2) (fs := [.null, .null, .null, .null, .int 0, .int 0, .int 0]) (C := R_Gr) (T := F_Gr) (N := 7) hx hb hts i_Gr t_Gr t_Gr_ok hown (hts _ iw_41) (hts _ iw_42) (hts _ iw_3) hK hP hD hS hA rfl (fun j hj => match j, hj with | 0, _ => rfl | 1, _ => rfl | 2, _ => rfl | 3, _ => rfl | 4, _ => rfl | 5, _ => rfl | 6, _ => rfl | k + 7, h => absurd h (by omega)) (Nat.le_of_ble_eq_true rfl) (Nat.le_of_ble_eq_true rfl) d_Nd_init_16 (fun q16 H hP hD hS => ?_)
  refine W.widen (k := 35) (n := 199) (Nat.le_refl _) (Nat.le_refl _) ?_
  have lo := len
  obtain ⟨w4, hP, hD, len, ke, mq⟩ := hs_push hP hD len
  have len : w4.length = k + 36 := len
  have ka : ∀ ad : Nat → Nat, hw_ad ad w4 → hw_ad ad w3 := fun ad a => hw_ad.push lo ke a
  have m_0 : w4[k]? = some (h, .inr (6, [.ref q5, .null, .null, .null, .null, .null])) := (ke _ (hq_k (by decide))).trans m_0
  have m_1 : ∀ ad : Nat → Nat, hw_ad ad w4 → wc_Do cI cG cZ ad (k + 1) i0_Do w4 := fun ad a => (m_1 ad (ka ad a)).fr (fun j h1 h2 => ke j (hq_fr (k := k) (a := 1) (n := 34) h2 (by decide)))
  have n_1 : ∃ e1, w4[k + 1]? = some (q5, e1) := n_1.elim (fun e1 h1 => ⟨e1, (ke _ (hq_lt (by decide))).trans h1⟩)
  have kp : ∀ j : Nat, j < k → w4[j]? = w0[j]? := fun j hj => (ke j (hq_j _ hj)).trans (kp j hj)
  have mq : w4[k + 35]? = some (q16, .inr (2, [.null, .null, .null, .null, .int 0, .int 0, .int 0])) := mq
  refine lv_dup hx hb d_Nd_init_19 rfl ?_
  refine hw_cm (va_runIN (As := []) (rest := [.ref q16, .ref h]) ⟨hx, hb, hml, hown, hts⟩ (c_Gr_init l D cI cG cZ B w4 (k + 35) q16 mq len) ⟨va_cnB 0 hts (hw_gc ic_Gr_init) rfl rfl rfl (hN _ in_43) (hts _ iw_3) (by decide +kernel) ⟨Nat.le_of_ble_eq_true rfl, Nat.le_of_ble_eq_true rfl⟩, rfl, hts _ iw_44⟩ ⟨hw_blindA, hw_goA hP hD hK hN hS hBs hO⟩ rfl rfl hl.1 rfl (lv_room (Nat.le_of_ble_eq_true rfl)) d_Nd_init_20 ⟨Nat.le_of_ble_eq_true rfl, Nat.le_of_ble_eq_true rfl⟩) hS (fun wn H locs hP hD hS hpp => ?_)
  refine W.widen (k := 54) (n := 1517) (Nat.le_refl _) (Nat.le_refl _) ?_
  generalize wn = w5 at hP hD hpp
  have lo := len
  obtain ⟨bq, len, ke, hq⟩ := hpp
  have len : w5.length = k + 55 := len
  have ka : ∀ ad : Nat → Nat, hw_ad ad w5 → hw_ad ad w4 := fun ad a => hw_ad.made lo mq hq ke a
  have m_0 : w5[k]? = some (h, .inr (6, [.ref q5, .null, .null, .null, .null, .null])) := (ke _ (hq_k (by decide))).trans m_0
  have m_1 : ∀ ad : Nat → Nat, hw_ad ad w5 → wc_Do cI cG cZ ad (k + 1) i0_Do w5 := fun ad a => (m_1 ad (ka ad a)).fr (fun j h1 h2 => ke j (hq_fr (k := k) (a := 1) (n := 34) h2 (by decide)))
  have n_1 : ∃ e1, w5[k + 1]? = some (q5, e1) := n_1.elim (fun e1 h1 => ⟨e1, (ke _ (hq_lt (by decide))).trans h1⟩)
  have kp : ∀ j : Nat, j < k → w5[j]? = w0[j]? := fun j hj => (ke j (hq_j _ hj)).trans (kp j hj)
  have m_35 : ∀ ad : Nat → Nat, hw_ad ad w5 → wc_Gr cI cG cZ ad (k + 35) i0_Gr w5 := bq
  have n_35 : ∃ e1, w5[k + 35]? = some (q16, e1) := hq
  refine va_putF (D := D) (ci := 6) (v := .ref q16) (ty := .object "NearDesk$Graph") (C := R_Nd) (T := F_Nd) (N := 6) hx hb hts i_Nd t_Nd t_Nd_ok n_Nd hown hK hP hD hS (k) m_0 rfl 1 (by decide) (hts _ iw_157) (fun _ h9 => h9) rfl hin rfl (by decide +kernel) rfl rfl (Nat.le_of_ble_eq_true rfl) d_Nd_init_23 (fun H locs hP hD hS => ?_)
  obtain ⟨w6, hP, hD, len, ke, m1⟩ := hs_up2 hP hD m_0 len
  have ka : ∀ ad : Nat → Nat, hw_ad ad w6 → hw_ad ad w5 := fun ad a => hw_ad.set m_0 m1 ke a
  have m_0 : w6[k]? = some (h, .inr (6, [.ref q5, .ref q16, .null, .null, .null, .null])) := m1
  have m_1 : ∀ ad : Nat → Nat, hw_ad ad w6 → wc_Do cI cG cZ ad (k + 1) i0_Do w6 := fun ad a => (m_1 ad (ka ad a)).fr (fun j h1 h2 => ke j (hq_nf h1 (by decide)))
  have n_1 : ∃ e1, w6[k + 1]? = some (q5, e1) := n_1.elim (fun e1 h1 => ⟨e1, (ke _ (hq_ne (by decide))).trans h1⟩)
  have m_35 : ∀ ad : Nat → Nat, hw_ad ad w6 → wc_Gr cI cG cZ ad (k + 35) i0_Gr w6 := fun ad a => (m_35 ad (ka ad a)).fr (fun j h1 h2 => ke j (hq_nf h1 (by decide)))
  have n_35 : ∃ e1, w6[k + 35]? = some (q16, e1) := n_35.elim (fun e1 h1 => ⟨e1, (ke _ (hq_ne (by decide))).trans h1⟩)
  have kp : ∀ j : Nat, j < k → w6[j]? = w0[j]? := fun j hj => (ke j (Nat.ne_of_lt hj)).trans (kp j hj)
  refine lv_aload_n hx hb d_Nd_init_26 rfl (lv_at hl 0 rfl) ?_
  refine va_new (ci := 4) (fs := [.null, .null, .int 0, .int 0, .int 0]) (C := R_Rk) (T := F_Rk) (N := 5) hx hb hts i_Rk t_Rk t_Rk_ok hown (hts _ iw_154) (hts _ iw_79) (hts _ iw_6) hK hP hD hS hA rfl (fun j hj => match j, hj with | 0, _ => rfl | 1, _ => rfl | 2, _ => rfl | 3, _ => rfl | 4, _ => rfl | k + 5, h => absurd h (by omega)) (Nat.le_of_ble_eq_true rfl) (Nat.le_of_ble_eq_true rfl) d_Nd_init_27 (fun q27 H hP hD hS => ?_)
  refine W.widen (k := 55) (n := 1522) (Nat.le_refl _) (Nat.le_refl _) ?_
  have lo := len
  obtain ⟨w7, hP, hD, len, ke, mq⟩ := hs_push hP hD len
  have len : w7.length = k + 56 := len
  have ka : ∀ ad : Nat → Nat, hw_ad ad w7 → hw_ad ad w6 := fun ad a => hw_ad.push lo ke a
  have m_0 : w7[k]? = some (h, .inr (6, [.ref q5, .ref q16, .null, .null, .null, .null])) := (ke _ (hq_k (by decide))).trans m_0
  have m_1 : ∀ ad : Nat → Nat, hw_ad ad w7 → wc_Do cI cG cZ ad (k + 1) i0_Do w7 := fun ad a => (m_1 ad (ka ad a)).fr (fun j h1 h2 => ke j (hq_fr (k := k) (a := 1) (n := 34) h2 (by decide)))
  have n_1 : ∃ e1, w7[k + 1]? = some (q5, e1) := n_1.elim (fun e1 h1 => ⟨e1, (ke _ (hq_lt (by decide))).trans h1⟩)
  have m_35 : ∀ ad : Nat → Nat, hw_ad ad w7 → wc_Gr cI cG cZ ad (k + 35) i0_Gr w7 := fun ad a => (m_35 ad (ka ad a)).fr (fun j h1 h2 => ke j (hq_fr (k := k) (a := 35) (n := 20) h2 (by decide)))
  have n_35 : ∃ e1, w7[k + 35]? = some (q16, e1) := n_35.elim (fun e1 h1 => ⟨e1, (ke _ (hq_lt (by decide))).trans h1⟩)
  have kp : ∀ j : Nat, j < k → w7[j]? = w0[j]? := fun j hj => (ke j (hq_j _ hj)).trans (kp j hj)
  have mq : w7[k + 55]? = some (q27, .inr (4, [.null, .null, .int 0, .int 0, .int 0])) := mq
  refine lv_dup hx hb d_Nd_init_30 rfl ?_
  refine hw_cm (va_runIN (As := []) (rest := [.ref q27, .ref h]) ⟨hx, hb, hml, hown, hts⟩ (c_Rk_init l D cI cG cZ B w7 (k + 55) q27 mq len) ⟨va_cnB 0 hts (hw_gc ic_Rk_init) rfl rfl rfl (hN _ in_155) (hts _ iw_6) (by decide +kernel) ⟨Nat.le_of_ble_eq_true rfl, Nat.le_of_ble_eq_true rfl⟩, rfl, hts _ iw_81⟩ ⟨hw_blindA, hw_goA hP hD hK hN hS hBs hO⟩ rfl rfl hl.1 rfl (lv_room (Nat.le_of_ble_eq_true rfl)) d_Nd_init_31 ⟨Nat.le_of_ble_eq_true rfl, Nat.le_of_ble_eq_true rfl⟩) hS (fun wn H locs hP hD hS hpp => ?_)
  refine W.widen (k := 57) (n := 1582) (Nat.le_refl _) (Nat.le_refl _) ?_
  generalize wn = w8 at hP hD hpp
  have lo := len
  obtain ⟨bq, len, ke, hq⟩ := hpp
  have len : w8.length = k + 58 := len
  have ka : ∀ ad : Nat → Nat, hw_ad ad w8 → hw_ad ad w7 := fun ad a => hw_ad.made lo mq hq ke a
  have m_0 : w8[k]? = some (h, .inr (6, [.ref q5, .ref q16, .null, .null, .null, .null])) := (ke _ (hq_k (by decide))).trans m_0
  have m_1 : ∀ ad : Nat → Nat, hw_ad ad w8 → wc_Do cI cG cZ ad (k + 1) i0_Do w8 := fun ad a => (m_1 ad (ka ad a)).fr (fun j h1 h2 => ke j (hq_fr (k := k) (a := 1) (n := 34) h2 (by decide)))
  have n_1 : ∃ e1, w8[k + 1]? = some (q5, e1) := n_1.elim (fun e1 h1 => ⟨e1, (ke _ (hq_lt (by decide))).trans h1⟩)
  have m_35 : ∀ ad : Nat → Nat, hw_ad ad w8 → wc_Gr cI cG cZ ad (k + 35) i0_Gr w8 := fun ad a => (m_35 ad (ka ad a)).fr (fun j h1 h2 => ke j (hq_fr (k := k) (a := 35) (n := 20) h2 (by decide)))
  have n_35 : ∃ e1, w8[k + 35]? = some (q16, e1) := n_35.elim (fun e1 h1 => ⟨e1, (ke _ (hq_lt (by decide))).trans h1⟩)
  have kp : ∀ j : Nat, j < k → w8[j]? = w0[j]? := fun j hj => (ke j (hq_j _ hj)).trans (kp j hj)
  have m_55 : ∀ ad : Nat → Nat, hw_ad ad w8 → wc_Rk cI cG cZ ad (k + 55) i0_Rk w8 := bq
  have n_55 : ∃ e1, w8[k + 55]? = some (q27, e1) := hq
  refine va_putF (D := D) (ci := 6) (v := .ref q27) (ty := .object "NearDesk$Ranking") (C := R_Nd) (T := F_Nd) (N := 6) hx hb hts i_Nd t_Nd t_Nd_ok n_Nd hown hK hP hD hS (k) m_0 rfl 2 (by decide) (hts _ iw_158) (fun _ h9 => h9) rfl hin rfl (by decide +kernel) rfl rfl (Nat.le_of_ble_eq_true rfl) d_Nd_init_34 (fun H locs hP hD hS => ?_)
  obtain ⟨w9, hP, hD, len, ke, m1⟩ := hs_up2 hP hD m_0 len
  have ka : ∀ ad : Nat → Nat, hw_ad ad w9 → hw_ad ad w8 := fun ad a => hw_ad.set m_0 m1 ke a
  have m_0 : w9[k]? = some (h, .inr (6, [.ref q5, .ref q16, .ref q27, .null, .null, .null])) := m1
  have m_1 : ∀ ad : Nat → Nat, hw_ad ad w9 → wc_Do cI cG cZ ad (k + 1) i0_Do w9 := fun ad a => (m_1 ad (ka ad a)).fr (fun j h1 h2 => ke j (hq_nf h1 (by decide)))
  have n_1 : ∃ e1, w9[k + 1]? = some (q5, e1) := n_1.elim (fun e1 h1 => ⟨e1, (ke _ (hq_ne (by decide))).trans h1⟩)
  have m_35 : ∀ ad : Nat → Nat, hw_ad ad w9 → wc_Gr cI cG cZ ad (k + 35) i0_Gr w9 := fun ad a => (m_35 ad (ka ad a)).fr (fun j h1 h2 => ke j (hq_nf h1 (by decide)))
  have n_35 : ∃ e1, w9[k + 35]? = some (q16, e1) := n_35.elim (fun e1 h1 => ⟨e1, (ke _ (hq_ne (by decide))).trans h1⟩)
  have m_55 : ∀ ad : Nat → Nat, hw_ad ad w9 → wc_Rk cI cG cZ ad (k + 55) i0_Rk w9 := fun ad a => (m_55 ad (ka ad a)).fr (fun j h1 h2 => ke j (hq_nf h1 (by decide)))
  have n_55 : ∃ e1, w9[k + 55]? = some (q27, e1) := n_55.elim (fun e1 h1 => ⟨e1, (ke _ (hq_ne (by decide))).trans h1⟩)
  have kp : ∀ j : Nat, j < k → w9[j]? = w0[j]? := fun j hj => (ke j (Nat.ne_of_lt hj)).trans (kp j hj)
  refine lv_aload_n hx hb d_Nd_init_37 rfl (lv_at hl 0 rfl) ?_
  refine va_new (ci := 4) (fs := [.null, .null, .int 0, .int 0, .int 0]) (C := R_Rk) (T := F_Rk) (N := 5) hx hb hts i_Rk t_Rk t_Rk_ok hown (hts _ iw_154) (hts _ iw_79) (hts _ iw_6) hK hP hD hS hA rfl (fun j hj => match j, hj with | 0, _ => rfl | 1, _ => rfl | 2, _ => rfl | 3, _ => rfl | 4, _ => rfl | k + 5, h => absurd h (by omega)) (Nat.le_of_ble_eq_true rfl) (Nat.le_of_ble_eq_true rfl) d_Nd_init_38 (fun q38 H hP hD hS => ?_)
  refine W.widen (k := 58) (n := 1587) (Nat.le_refl _) (Nat.le_refl _) ?_
  have lo := len
  obtain ⟨w10, hP, hD, len, ke, mq⟩ := hs_push hP hD len
  have len : w10.length = k + 59 := len
  have ka : ∀ ad : Nat → Nat, hw_ad ad w10 → hw_ad ad w9 := fun ad a => hw_ad.push lo ke a
  have m_0 : w10[k]? = some (h, .inr (6, [.ref q5, .ref q16, .ref q27, .null, .null, .null])) := (ke _ (hq_k (by decide))).trans m_0
  have m_1 : ∀ ad : Nat → Nat, hw_ad ad w10 → wc_Do cI cG cZ ad (k + 1) i0_Do w10 := fun ad a => (m_1 ad (ka ad a)).fr (fun j h1 h2 => ke j (hq_fr (k := k) (a := 1) (n := 34) h2 (by decide)))
  have n_1 : ∃ e1, w10[k + 1]? = some (q5, e1) := n_1.elim (fun e1 h1 => ⟨e1, (ke _ (hq_lt (by decide))).trans h1⟩)
  have m_35 : ∀ ad : Nat → Nat, hw_ad ad w10 → wc_Gr cI cG cZ ad (k + 35) i0_Gr w10 := fun ad a => (m_35 ad (ka ad a)).fr (fun j h1 h2 => ke j (hq_fr (k := k) (a := 35) (n := 20) h2 (by decide)))
  have n_35 : ∃ e1, w10[k + 35]? = some (q16, e1) := n_35.elim (fun e1 h1 => ⟨e1, (ke _ (hq_lt (by decide))).trans h1⟩)
  have m_55 : ∀ ad : Nat → Nat, hw_ad ad w10 → wc_Rk cI cG cZ ad (k + 55) i0_Rk w10 := fun ad a => (m_55 ad (ka ad a)).fr (fun j h1 h2 => ke j (hq_fr (k := k) (a := 55) (n := 3) h2 (by decide)))
  have n_55 : ∃ e1, w10[k + 55]? = some (q27, e1) := n_55.elim (fun e1 h1 => ⟨e1, (ke _ (hq_lt (by decide))).trans h1⟩)
  have kp : ∀ j : Nat, j < k → w10[j]? = w0[j]? := fun j hj => (ke j (hq_j _ hj)).trans (kp j hj)
  have mq : w10[k + 58]? = some (q38, .inr (4, [.null, .null, .int 0, .int 0, .int 0])) := mq
  refine lv_dup hx hb d_Nd_init_41 rfl ?_
  refine hw_cm (va_runIN (As := []) (rest := [.ref q38, .ref h]) ⟨hx, hb, hml, hown, hts⟩ (c_Rk_init l D cI cG cZ B w10 (k + 58) q38 mq len) ⟨va_cnB 0 hts (hw_gc ic_Rk_init) rfl rfl rfl (hN _ in_155) (hts _ iw_6) (by decide +kernel) ⟨Nat.le_of_ble_eq_true rfl, Nat.le_of_ble_eq_true rfl⟩, rfl, hts _ iw_81⟩ ⟨hw_blindA, hw_goA hP hD hK hN hS hBs hO⟩ rfl rfl hl.1 rfl (lv_room (Nat.le_of_ble_eq_true rfl)) d_Nd_init_42 ⟨Nat.le_of_ble_eq_true rfl, Nat.le_of_ble_eq_true rfl⟩) hS (fun wn H locs hP hD hS hpp => ?_)
  refine W.widen (k := 60) (n := 1647) (Nat.le_refl _) (Nat.le_refl _) ?_
  generalize wn = w11 at hP hD hpp
  have lo := len
  obtain ⟨bq, len, ke, hq⟩ := hpp
  have len : w11.length = k + 61 := len
  have ka : ∀ ad : Nat → Nat, hw_ad ad w11 → hw_ad ad w10 := fun ad a => hw_ad.made lo mq hq ke a
  have m_0 : w11[k]? = some (h, .inr (6, [.ref q5, .ref q16, .ref q27, .null, .null, .null])) := (ke _ (hq_k (by decide))).trans m_0
  have m_1 : ∀ ad : Nat → Nat, hw_ad ad w11 → wc_Do cI cG cZ ad (k + 1) i0_Do w11 := fun ad a => (m_1 ad (ka ad a)).fr (fun j h1 h2 => ke j (hq_fr (k := k) (a := 1) (n := 34) h2 (by decide)))
  have n_1 : ∃ e1, w11[k + 1]? = some (q5, e1) := n_1.elim (fun e1 h1 => ⟨e1, (ke _ (hq_lt (by decide))).trans h1⟩)
  have m_35 : ∀ ad : Nat → Nat, hw_ad ad w11 → wc_Gr cI cG cZ ad (k + 35) i0_Gr w11 := fun ad a => (m_35 ad (ka ad a)).fr (fun j h1 h2 => ke j (hq_fr (k := k) (a := 35) (n := 20) h2 (by decide)))
  have n_35 : ∃ e1, w11[k + 35]? = some (q16, e1) := n_35.elim (fun e1 h1 => ⟨e1, (ke _ (hq_lt (by decide))).trans h1⟩)
  have m_55 : ∀ ad : Nat → Nat, hw_ad ad w11 → wc_Rk cI cG cZ ad (k + 55) i0_Rk w11 := fun ad a => (m_55 ad (ka ad a)).fr (fun j h1 h2 => ke j (hq_fr (k := k) (a := 55) (n := 3) h2 (by decide)))
  have n_55 : ∃ e1, w11[k + 55]? = some (q27, e1) := n_55.elim (fun e1 h1 => ⟨e1, (ke _ (hq_lt (by decide))).trans h1⟩)
  have kp : ∀ j : Nat, j < k → w11[j]? = w0[j]? := fun j hj => (ke j (hq_j _ hj)).trans (kp j hj)
  have m_58 : ∀ ad : Nat → Nat, hw_ad ad w11 → wc_Rk cI cG cZ ad (k + 58) i0_Rk w11 := bq
  have n_58 : ∃ e1, w11[k + 58]? = some (q38, e1) := hq
  refine va_putF (D := D) (ci := 6) (v := .ref q38) (ty := .object "NearDesk$Ranking") (C := R_Nd) (T := F_Nd) (N := 6) hx hb hts i_Nd t_Nd t_Nd_ok n_Nd hown hK hP hD hS (k) m_0 rfl 3 (by decide) (hts _ iw_159) (fun _ h9 => h9) rfl hin rfl (by decide +kernel) rfl rfl (Nat.le_of_ble_eq_true rfl) d_Nd_init_45 (fun H locs hP hD hS => ?_)
  obtain ⟨w12, hP, hD, len, ke, m1⟩ := hs_up2 hP hD m_0 len
  have ka : ∀ ad : Nat → Nat, hw_ad ad w12 → hw_ad ad w11 := fun ad a => hw_ad.set m_0 m1 ke a
  have m_0 : w12[k]? = some (h, .inr (6, [.ref q5, .ref q16, .ref q27, .ref q38, .null, .null])) := m1
  have m_1 : ∀ ad : Nat → Nat, hw_ad ad w12 → wc_Do cI cG cZ ad (k + 1) i0_Do w12 := fun ad a => (m_1 ad (ka ad a)).fr (fun j h1 h2 => ke j (hq_nf h1 (by decide)))
  have n_1 : ∃ e1, w12[k + 1]? = some (q5, e1) := n_1.elim (fun e1 h1 => ⟨e1, (ke _ (hq_ne (by decide))).trans h1⟩)
  have m_35 : ∀ ad : Nat → Nat, hw_ad ad w12 → wc_Gr cI cG cZ ad (k + 35) i0_Gr w12 := fun ad a => (m_35 ad (ka ad a)).fr (fun j h1 h2 => ke j (hq_nf h1 (by decide)))
  have n_35 : ∃ e1, w12[k + 35]? = some (q16, e1) := n_35.elim (fun e1 h1 => ⟨e1, (ke _ (hq_ne (by decide))).trans h1⟩)
  have m_55 : ∀ ad : Nat → Nat, hw_ad ad w12 → wc_Rk cI cG cZ ad (k + 55) i0_Rk w12 := fun ad a => (m_55 ad (ka ad a)).fr (fun j h1 h2 => ke j (hq_nf h1 (by decide)))
  have n_55 : ∃ e1, w12[k + 55]? = some (q27, e1) := n_55.elim (fun e1 h1 => ⟨e1, (ke _ (hq_ne (by decide))).trans h1⟩)
  have m_58 : ∀ ad : Nat → Nat, hw_ad ad w12 → wc_Rk cI cG cZ ad (k + 58) i0_Rk w12 := fun ad a => (m_58 ad (ka ad a)).fr (fun j h1 h2 => ke j (hq_nf h1 (by decide)))
  have n_58 : ∃ e1, w12[k + 58]? = some (q38, e1) := n_58.elim (fun e1 h1 => ⟨e1, (ke _ (hq_ne (by decide))).trans h1⟩)
  have kp : ∀ j : Nat, j < k → w12[j]? = w0[j]? := fun j hj => (ke j (Nat.ne_of_lt hj)).trans (kp j hj)
  refine lv_aload_n hx hb d_Nd_init_48 rfl (lv_at hl 0 rfl) ?_
  refine lv_iconst (v := 4) hx hb d_Nd_init_49 (by decide) ?_
  refine hw_newa (atype := .int) (ty := .int) hx hb (hts _ iw_40) rfl hK hP hD hS hA 0 rfl (fun _ h9 => h9) (N' := 4) (fun _ => rfl) (by decide) (by decide) (by decide) (Nat.le_of_ble_eq_true rfl) (Nat.le_of_ble_eq_true rfl) d_Nd_init_50 (fun q50 H hP hD hS => ?_)
  refine W.widen (k := 61) (n := 1651) (Nat.le_refl _) (Nat.le_refl _) ?_
  have lo := len
  obtain ⟨w13, hP, hD, len, ke, mq⟩ := hs_push hP hD len
  have len : w13.length = k + 62 := len
  have ka : ∀ ad : Nat → Nat, hw_ad ad w13 → hw_ad ad w12 := fun ad a => hw_ad.push lo ke a
  have m_0 : w13[k]? = some (h, .inr (6, [.ref q5, .ref q16, .ref q27, .ref q38, .null, .null])) := (ke _ (hq_k (by decide))).trans m_0
  have m_1 : ∀ ad : Nat → Nat, hw_ad ad w13 → wc_Do cI cG cZ ad (k + 1) i0_Do w13 := fun ad a => (m_1 ad (ka ad a)).fr (fun j h1 h2 => ke j (hq_fr (k := k) (a := 1) (n := 34) h2 (by decide)))
  have n_1 : ∃ e1, w13[k + 1]? = some (q5, e1) := n_1.elim (fun e1 h1 => ⟨e1, (ke _ (hq_lt (by decide))).trans h1⟩)
  have m_35 : ∀ ad : Nat → Nat, hw_ad ad w13 → wc_Gr cI cG cZ ad (k + 35) i0_Gr w13 := fun ad a => (m_35 ad (ka ad a)).fr (fun j h1 h2 => ke j (hq_fr (k := k) (a := 35) (n := 20) h2 (by decide)))
  have n_35 : ∃ e1, w13[k + 35]? = some (q16, e1) := n_35.elim (fun e1 h1 => ⟨e1, (ke _ (hq_lt (by decide))).trans h1⟩)
  have m_55 : ∀ ad : Nat → Nat, hw_ad ad w13 → wc_Rk cI cG cZ ad (k + 55) i0_Rk w13 := fun ad a => (m_55 ad (ka ad a)).fr (fun j h1 h2 => ke j (hq_fr (k := k) (a := 55) (n := 3) h2 (by decide)))
  have n_55 : ∃ e1, w13[k + 55]? = some (q27, e1) := n_55.elim (fun e1 h1 => ⟨e1, (ke _ (hq_lt (by decide))).trans h1⟩)
  have m_58 : ∀ ad : Nat → Nat, hw_ad ad w13 → wc_Rk cI cG cZ ad (k + 58) i0_Rk w13 := fun ad a => (m_58 ad (ka ad a)).fr (fun j h1 h2 => ke j (hq_fr (k := k) (a := 58) (n := 3) h2 (by decide)))
  have n_58 : ∃ e1, w13[k + 58]? = some (q38, e1) := n_58.elim (fun e1 h1 => ⟨e1, (ke _ (hq_lt (by decide))).trans h1⟩)
  have kp : ∀ j : Nat, j < k → w13[j]? = w0[j]? := fun j hj => (ke j (hq_j _ hj)).trans (kp j hj)
  have m_61 : w13[k + 61]? = some (q50, .inl (cI, 4, .inl (fun _ => 0))) := mq
  refine va_putF (D := D) (ci := 6) (v := .ref q50) (ty := .array .int) (C := R_Nd) (T := F_Nd) (N := 6) hx hb hts i_Nd t_Nd t_Nd_ok n_Nd hown hK hP hD hS (k) m_0 rfl 4 (by decide) (hts _ iw_160) (fun _ h9 => h9) rfl hin rfl (by decide +kernel) rfl rfl (Nat.le_of_ble_eq_true rfl) d_Nd_init_52 (fun H locs hP hD hS => ?_)
  obtain ⟨w14, hP, hD, len, ke, m1⟩ := hs_up2 hP hD m_0 len
  have ka : ∀ ad : Nat → Nat, hw_ad ad w14 → hw_ad ad w13 := fun ad a => hw_ad.set m_0 m1 ke a
  have m_0 : w14[k]? = some (h, .inr (6, [.ref q5, .ref q16, .ref q27, .ref q38, .ref q50, .null])) := m1
  have m_1 : ∀ ad : Nat → Nat, hw_ad ad w14 → wc_Do cI cG cZ ad (k + 1) i0_Do w14 := fun ad a => (m_1 ad (ka ad a)).fr (fun j h1 h2 => ke j (hq_nf h1 (by decide)))
  have n_1 : ∃ e1, w14[k + 1]? = some (q5, e1) := n_1.elim (fun e1 h1 => ⟨e1, (ke _ (hq_ne (by decide))).trans h1⟩)
  have m_35 : ∀ ad : Nat → Nat, hw_ad ad w14 → wc_Gr cI cG cZ ad (k + 35) i0_Gr w14 := fun ad a => (m_35 ad (ka ad a)).fr (fun j h1 h2 => ke j (hq_nf h1 (by decide)))
  have n_35 : ∃ e1, w14[k + 35]? = some (q16, e1) := n_35.elim (fun e1 h1 => ⟨e1, (ke _ (hq_ne (by decide))).trans h1⟩)
  have m_55 : ∀ ad : Nat → Nat, hw_ad ad w14 → wc_Rk cI cG cZ ad (k + 55) i0_Rk w14 := fun ad a => (m_55 ad (ka ad a)).fr (fun j h1 h2 => ke j (hq_nf h1 (by decide)))
  have n_55 : ∃ e1, w14[k + 55]? = some (q27, e1) := n_55.elim (fun e1 h1 => ⟨e1, (ke _ (hq_ne (by decide))).trans h1⟩)
  have m_58 : ∀ ad : Nat → Nat, hw_ad ad w14 → wc_Rk cI cG cZ ad (k + 58) i0_Rk w14 := fun ad a => (m_58 ad (ka ad a)).fr (fun j h1 h2 => ke j (hq_nf h1 (by decide)))
  have n_58 : ∃ e1, w14[k + 58]? = some (q38, e1) := n_58.elim (fun e1 h1 => ⟨e1, (ke _ (hq_ne (by decide))).trans h1⟩)
  have m_61 : w14[k + 61]? = some (q50, .inl (cI, 4, .inl (fun _ => 0))) := (ke _ (hq_ne (by decide))).trans m_61
  have kp : ∀ j : Nat, j < k → w14[j]? = w0[j]? := fun j hj => (ke j (Nat.ne_of_lt hj)).trans (kp j hj)
  refine lv_aload_n hx hb d_Nd_init_55 rfl (lv_at hl 0 rfl) ?_
  refine lv_bipush (v := 30) hx hb d_Nd_init_56 (by decide) ?_
  refine hw_newa (atype := .int) (ty := .int) hx hb (hts _ iw_40) rfl hK hP hD hS hA 0 rfl (fun _ h9 => h9) (N' := 30) (fun _ => rfl) (by decide) (by decide) (by decide) (Nat.le_of_ble_eq_true rfl) (Nat.le_of_ble_eq_true rfl) d_Nd_init_58 (fun q58 H hP hD hS => ?_)
  refine W.widen (k := 62) (n := 1681) (Nat.le_refl _) (Nat.le_refl _) ?_
  have lo := len
  obtain ⟨w15, hP, hD, len, ke, mq⟩ := hs_push hP hD len
  have len : w15.length = k + 63 := len
  have ka : ∀ ad : Nat → Nat, hw_ad ad w15 → hw_ad ad w14 := fun ad a => hw_ad.push lo ke a
  have m_0 : w15[k]? = some (h, .inr (6, [.ref q5, .ref q16, .ref q27, .ref q38, .ref q50, .null])) := (ke _ (hq_k (by decide))).trans m_0
  have m_1 : ∀ ad : Nat → Nat, hw_ad ad w15 → wc_Do cI cG cZ ad (k + 1) i0_Do w15 := fun ad a => (m_1 ad (ka ad a)).fr (fun j h1 h2 => ke j (hq_fr (k := k) (a := 1) (n := 34) h2 (by decide)))
  have n_1 : ∃ e1, w15[k + 1]? = some (q5, e1) := n_1.elim (fun e1 h1 => ⟨e1, (ke _ (hq_lt (by decide))).trans h1⟩)
  have m_35 : ∀ ad : Nat → Nat, hw_ad ad w15 → wc_Gr cI cG cZ ad (k + 35) i0_Gr w15 := fun ad a => (m_35 ad (ka ad a)).fr (fun j h1 h2 => ke j (hq_fr (k := k) (a := 35) (n := 20) h2 (by decide)))
  have n_35 : ∃ e1, w15[k + 35]? = some (q16, e1) := n_35.elim (fun e1 h1 => ⟨e1, (ke _ (hq_lt (by decide))).trans h1⟩)
  have m_55 : ∀ ad : Nat → Nat, hw_ad ad w15 → wc_Rk cI cG cZ ad (k + 55) i0_Rk w15 := fun ad a => (m_55 ad (ka ad a)).fr (fun j h1 h2 => ke j (hq_fr (k := k) (a := 55) (n := 3) h2 (by decide)))
  have n_55 : ∃ e1, w15[k + 55]? = some (q27, e1) := n_55.elim (fun e1 h1 => ⟨e1, (ke _ (hq_lt (by decide))).trans h1⟩)
  have m_58 : ∀ ad : Nat → Nat, hw_ad ad w15 → wc_Rk cI cG cZ ad (k + 58) i0_Rk w15 := fun ad a => (m_58 ad (ka ad a)).fr (fun j h1 h2 => ke j (hq_fr (k := k) (a := 58) (n := 3) h2 (by decide)))
  have n_58 : ∃ e1, w15[k + 58]? = some (q38, e1) := n_58.elim (fun e1 h1 => ⟨e1, (ke _ (hq_lt (by decide))).trans h1⟩)
  have m_61 : w15[k + 61]? = some (q50, .inl (cI, 4, .inl (fun _ => 0))) := (ke _ (hq_lt (by decide))).trans m_61
  have kp : ∀ j : Nat, j < k → w15[j]? = w0[j]? := fun j hj => (ke j (hq_j _ hj)).trans (kp j hj)
  have m_62 : w15[k + 62]? = some (q58, .inl (cI, 30, .inl (fun _ => 0))) := mq
  refine va_putF (D := D) (ci := 6) (v := .ref q58) (ty := .array .int) (C := R_Nd) (T := F_Nd) (N := 6) hx hb hts i_Nd t_Nd t_Nd_ok n_Nd hown hK hP hD hS (k) m_0 rfl 5 (by decide) (hts _ iw_161) (fun _ h9 => h9) rfl hin rfl (by decide +kernel) rfl rfl (Nat.le_of_ble_eq_true rfl) d_Nd_init_60 (fun H locs hP hD hS => ?_)
  obtain ⟨w16, hP, hD, len, ke, m1⟩ := hs_up2 hP hD m_0 len
  have ka : ∀ ad : Nat → Nat, hw_ad ad w16 → hw_ad ad w15 := fun ad a => hw_ad.set m_0 m1 ke a
  have m_0 : w16[k]? = some (h, .inr (6, [.ref q5, .ref q16, .ref q27, .ref q38, .ref q50, .ref q58])) := m1
  have m_1 : ∀ ad : Nat → Nat, hw_ad ad w16 → wc_Do cI cG cZ ad (k + 1) i0_Do w16 := fun ad a => (m_1 ad (ka ad a)).fr (fun j h1 h2 => ke j (hq_nf h1 (by decide)))
  have n_1 : ∃ e1, w16[k + 1]? = some (q5, e1) := n_1.elim (fun e1 h1 => ⟨e1, (ke _ (hq_ne (by decide))).trans h1⟩)
  have m_35 : ∀ ad : Nat → Nat, hw_ad ad w16 → wc_Gr cI cG cZ ad (k + 35) i0_Gr w16 := fun ad a => (m_35 ad (ka ad a)).fr (fun j h1 h2 => ke j (hq_nf h1 (by decide)))
  have n_35 : ∃ e1, w16[k + 35]? = some (q16, e1) := n_35.elim (fun e1 h1 => ⟨e1, (ke _ (hq_ne (by decide))).trans h1⟩)
  have m_55 : ∀ ad : Nat → Nat, hw_ad ad w16 → wc_Rk cI cG cZ ad (k + 55) i0_Rk w16 := fun ad a => (m_55 ad (ka ad a)).fr (fun j h1 h2 => ke j (hq_nf h1 (by decide)))
  have n_55 : ∃ e1, w16[k + 55]? = some (q27, e1) := n_55.elim (fun e1 h1 => ⟨e1, (ke _ (hq_ne (by decide))).trans h1⟩)
  have m_58 : ∀ ad : Nat → Nat, hw_ad ad w16 → wc_Rk cI cG cZ ad (k + 58) i0_Rk w16 := fun ad a => (m_58 ad (ka ad a)).fr (fun j h1 h2 => ke j (hq_nf h1 (by decide)))
  have n_58 : ∃ e1, w16[k + 58]? = some (q38, e1) := n_58.elim (fun e1 h1 => ⟨e1, (ke _ (hq_ne (by decide))).trans h1⟩)
  have m_61 : w16[k + 61]? = some (q50, .inl (cI, 4, .inl (fun _ => 0))) := (ke _ (hq_ne (by decide))).trans m_61
  have m_62 : w16[k + 62]? = some (q58, .inl (cI, 30, .inl (fun _ => 0))) := (ke _ (hq_ne (by decide))).trans m_62
  have kp : ∀ j : Nat, j < k → w16[j]? = w0[j]? := fun j hj => (ke j (Nat.ne_of_lt hj)).trans (kp j hj)
  refine W.vret hx hb hr (fun t ht hW => ⟨⟨w16, rfl, ⟨fun ad a => ?_, len, kp, ⟨_, m_0⟩⟩, by rw [ht]; exact hP, hD⟩, hS.F ht⟩) hS.2.2 d_Nd_init_63
  have e0 : ad k = h := a _ _ m_0
  have e1 : ad (k + 1) = q5 := n_1.elim (fun e1 h1 => a _ _ h1)
  have e35 : ad (k + 35) = q16 := n_35.elim (fun e1 h1 => a _ _ h1)
  have e55 : ad (k + 55) = q27 := n_55.elim (fun e1 h1 => a _ _ h1)
  have e58 : ad (k + 58) = q38 := n_58.elim (fun e1 h1 => a _ _ h1)
  have e61 : ad (k + 61) = q50 := a _ _ m_61
  have e62 : ad (k + 62) = q58 := a _ _ m_62
  exact ⟨(by rw [e0, e1, e35, e55, e58, e61, e62]; exact m_0), (m_1 ad a), (m_35 ad a), (m_55 ad a), (m_58 ad a), (by rw [e61]; exact m_61), (by rw [e62]; exact m_62)⟩
