set_option maxHeartbeats 4000000 in
set_option maxRecDepth 100000 in
theorem c_Gr_init (l : Launch) (D : va_G) (cI cG cZ : ClassId) (B : Nat) (w0 : va_W) (k h : Nat) (m_0 : w0[k]? = some (h, .inr (2, [.null, .null, .null, .null, .int 0, .int 0, .int 0]))) (len : w0.length = k + 1) : Met l y_Gr_init (.code y_Gr_init b_Gr_init 1 none :: hw_G) ({ frames := 3, cells := 19, slots := 1318, locals := 60 } : Room) (va_Pc [.ref h] (hw_UA D cI cG cZ B w0)) (va_Qv (fun (w1 : va_W) => (∀ ad : Nat → Nat, hw_ad ad w1 → wc_Gr cI cG cZ ad k i0_Gr w1) ∧ w1.length = k + 20 ∧ (∀ j : Nat, j < k → w1[j]? = w0[j]?) ∧ ∃ e1, w1[k]? = some (h, e1)) (hw_B D B) (fun q : Nat => B ≤ q)) 19 1318 (fun q : Nat => B ≤ q) := by
  refine Met.ofW (cc := b_Gr_init) (maxL := 1) (ret := none) (by decide) rfl ?_
  intro p e s m args below meth c s₁ Bd hml hv
  obtain ⟨rfl, ⟨hP, hD, hK, hN⟩, hBs, hO⟩ := hv
  have hx := Bd.exec
  have hb := Bd.bytes
  have hr := Bd.returns
  have hown : s.vm.findClass R_Gr = some m.cls := findClass_of_methodNamed Bd.named
  have hts : ∀ w ∈ hw_G, w.before #[Value.ref h] s = true := fun w hw => atoms_spec (ws := .code y_Gr_init b_Gr_init 1 none :: hw_G) Bd.pre w (List.mem_cons_of_mem _ hw)
  have hlocks := Bd.notSynchronized
  have hin : meth.name = "<init>" := (name_of_methodNamed Bd.named Bd.method).1
  have hA : ∀ q : Nat, s.heap.size ≤ q → (fun q : Nat => B ≤ q) q := fun q hq => Nat.le_trans hBs hq
  have hS : va_S (fun q : Nat => B ≤ q) s.heap s.heap [] := va_S.rf
  have kp : ∀ j : Nat, j < k → w0[j]? = w0[j]? := fun _ _ => rfl
  have lo0 := len
  have hl := lv_entry ([.ref h]) (n := 1) (Nat.le_of_ble_eq_true rfl)
  rw [lg_entry_eq]
  generalize (lg_sl ([.ref h]) ++ List.replicate (1 - (lg_sl ([.ref h])).length) Slot.unset).toArray = ls at hl ⊢
  have hl : lv_has ls 1 [(0, .ref h)] := hl
  refine lv_aload_n hx hb d_Gr_init_0 rfl (lv_at hl 0 rfl) ?_
  refine W.objInit hx hb hown (hts _ iw_46) (hts _ iw_obj_inst) (hts _ iw_obj_code) rfl (by rw [hml]; exact hl.1) rfl d_Gr_init_1 (Nat.le_of_ble_eq_true rfl) (Nat.le_of_ble_eq_true rfl) ?_
  refine W.eq (g2 := F0 m 4 ls []) rfl ?_
  refine lv_aload_n hx hb d_Gr_init_4 rfl (lv_at hl 0 rfl) ?_
  refine va_new (ci := 3) (fs := [.null, .null, .null, .null, .null, .int 0]) (C := R_Li) (T := F_Li) (N := 6) hx hb hts i_Li t_Li t_Li_ok hown (hts _ iw_47) (hts _ iw_48) (hts _ iw_4) hK hP hD hS hA rfl (fun j hj => match j, hj with | 0, _ => rfl | 1, _ => rfl | 2, _ => rfl | 3, _ => rfl | 4, _ => rfl | 5, _ => rfl | k + 6, h => absurd h (by omega)) (Nat.le_of_ble_eq_true rfl) (Nat.le_of_ble_eq_true rfl) d_Gr_init_5 (fun q5 H hP hD hS => ?_)
  refine W.widen (k := 1) (n := 6) (Nat.le_refl _) (Nat.le_refl _) ?_
  have lo := len
  obtain ⟨w1, hP, hD, len, ke, mq⟩ := hs_push hP hD len
  have len : w1.length = k + 2 := len
  have ka : ∀ ad : Nat → Nat, hw_ad ad w1 → hw_ad ad w0 := fun ad a => hw_ad.push lo ke a
  have m_0 : w1[k]? = some (h, .inr (2, [.null, .null, .null, .null, .int 0, .int 0, .int 0])) := (ke _ (hq_k (by decide))).trans m_0
  have kp : ∀ j : Nat, j < k → w1[j]? = w0[j]? := fun j hj => (ke j (hq_j _ hj)).trans (kp j hj)
  have mq : w1[k + 1]? = some (q5, .inr (3, [.null, .null, .null, .null, .null, .int 0])) := mq
  refine lv_dup hx hb d_Gr_init_8 rfl ?_
  refine hw_cm (va_runIN (As := []) (rest := [.ref q5, .ref h]) ⟨hx, hb, hml, hown, hts⟩ (c_Li_init l D cI cG cZ B w1 (k + 1) q5 mq len) ⟨va_cnB 0 hts (hw_gc ic_Li_init) rfl rfl rfl (hN _ in_49) (hts _ iw_4) (by decide +kernel) ⟨Nat.le_of_ble_eq_true rfl, Nat.le_of_ble_eq_true rfl⟩, rfl, hts _ iw_50⟩ ⟨hw_blindA, hw_goA hP hD hK hN hS hBs hO⟩ rfl rfl hl.1 rfl (lv_room (Nat.le_of_ble_eq_true rfl)) d_Gr_init_9 ⟨Nat.le_of_ble_eq_true rfl, Nat.le_of_ble_eq_true rfl⟩) hS (fun wn H locs hP hD hS hpp => ?_)
  refine W.widen (k := 6) (n := 1056) (Nat.le_refl _) (Nat.le_refl _) ?_
  generalize wn = w2 at hP hD hpp
  have lo := len
  obtain ⟨bq, len, ke, hq⟩ := hpp
  have len : w2.length = k + 7 := len
  have ka : ∀ ad : Nat → Nat, hw_ad ad w2 → hw_ad ad w1 := fun ad a => hw_ad.made lo mq hq ke a
  have m_0 : w2[k]? = some (h, .inr (2, [.null, .null, .null, .null, .int 0, .int 0, .int 0])) := (ke _ (hq_k (by decide))).trans m_0
  have kp : ∀ j : Nat, j < k → w2[j]? = w0[j]? := fun j hj => (ke j (hq_j _ hj)).trans (kp j hj)
  have m_1 : ∀ ad : Nat → Nat, hw_ad ad w2 → wc_Li cI cG cZ ad (k + 1) i0_Li w2 := bq
  have n_1 : ∃ e1, w2[k + 1]? = some (q5, e1) := hq
  refine va_putF (D := D) (ci := 2) (v := .ref q5) (ty := .object "NearDesk$Links") (C := R_Gr) (T := F_Gr) (N := 7) hx hb hts i_Gr t_Gr t_Gr_ok n_Gr hown hK hP hD hS (k) m_0 rfl 0 (by decide) (hts _ iw_131) (fun _ h9 => h9) rfl hin rfl (by decide +kernel) rfl rfl (Nat.le_of_ble_eq_true rfl) d_Gr_init_12 (fun H locs hP hD hS => ?_)
  obtain ⟨w3, hP, hD, len, ke, m1⟩ := hs_up2 hP hD m_0 len
  have ka : ∀ ad : Nat → Nat, hw_ad ad w3 → hw_ad ad w2 := fun ad a => hw_ad.set m_0 m1 ke a
  have m_0 : w3[k]? = some (h, .inr (2, [.ref q5, .null, .null, .null, .int 0, .int 0, .int 0])) := m1
  have m_1 : ∀ ad : Nat → Nat, hw_ad ad w3 → wc_Li cI cG cZ ad (k + 1) i0_Li w3 := fun ad a => (m_1 ad (ka ad a)).fr (fun j h1 h2 => ke j (hq_nf h1 (by decide)))
  have n_1 : ∃ e1, w3[k + 1]? = some (q5, e1) := n_1.elim (fun e1 h1 => ⟨e1, (ke _ (hq_ne (by decide))).trans h1⟩)
  have kp : ∀ j : Nat, j < k → w3[j]? = w0[j]? := fun j hj => (ke j (Nat.ne_of_lt hj)).trans (kp j hj)
  refine lv_aload_n hx hb d_Gr_init_15 rfl (lv_at hl 0 rfl) ?_
  refine va_new (ci := 5) (fs := [.null, .null, .null, .int 0]) (C := R_Wa) (T := F_Wa) (N := 4) hx hb hts i_Wa t_Wa t_Wa_ok hown (hts _ iw_72) (hts _ iw_73) (hts _ iw_5) hK hP hD hS hA rfl (fun j hj => match j, hj with | 0, _ => rfl | 1, _ => rfl | 2, _ => rfl | 3, _ => rfl | k + 4, h => absurd h (by omega)) (Nat.le_of_ble_eq_true rfl) (Nat.le_of_ble_eq_true rfl) d_Gr_init_16 (fun q16 H hP hD hS => ?_)
  refine W.widen (k := 7) (n := 1060) (Nat.le_refl _) (Nat.le_refl _) ?_
  have lo := len
  obtain ⟨w4, hP, hD, len, ke, mq⟩ := hs_push hP hD len
  have len : w4.length = k + 8 := len
  have ka : ∀ ad : Nat → Nat, hw_ad ad w4 → hw_ad ad w3 := fun ad a => hw_ad.push lo ke a
  have m_0 : w4[k]? = some (h, .inr (2, [.ref q5, .null, .null, .null, .int 0, .int 0, .int 0])) := (ke _ (hq_k (by decide))).trans m_0
  have m_1 : ∀ ad : Nat → Nat, hw_ad ad w4 → wc_Li cI cG cZ ad (k + 1) i0_Li w4 := fun ad a => (m_1 ad (ka ad a)).fr (fun j h1 h2 => ke j (hq_fr (k := k) (a := 1) (n := 6) h2 (by decide)))
  have n_1 : ∃ e1, w4[k + 1]? = some (q5, e1) := n_1.elim (fun e1 h1 => ⟨e1, (ke _ (hq_lt (by decide))).trans h1⟩)
  have kp : ∀ j : Nat, j < k → w4[j]? = w0[j]? := fun j hj => (ke j (hq_j _ hj)).trans (kp j hj)
  have mq : w4[k + 7]? = some (q16, .inr (5, [.null, .null, .null, .int 0])) := mq
  refine lv_dup hx hb d_Gr_init_19 rfl ?_
  refine hw_cm (va_runIN (As := []) (rest := [.ref q16, .ref h]) ⟨hx, hb, hml, hown, hts⟩ (c_Wa_init l D cI cG cZ B w4 (k + 7) q16 mq len) ⟨va_cnB 0 hts (hw_gc ic_Wa_init) rfl rfl rfl (hN _ in_74) (hts _ iw_5) (by decide +kernel) ⟨Nat.le_of_ble_eq_true rfl, Nat.le_of_ble_eq_true rfl⟩, rfl, hts _ iw_75⟩ ⟨hw_blindA, hw_goA hP hD hK hN hS hBs hO⟩ rfl rfl hl.1 rfl (lv_room (Nat.le_of_ble_eq_true rfl)) d_Gr_init_20 ⟨Nat.le_of_ble_eq_true rfl, Nat.le_of_ble_eq_true rfl⟩) hS (fun wn H locs hP hD hS hpp => ?_)
  refine W.widen (k := 14) (n := 1220) (Nat.le_refl _) (Nat.le_refl _) ?_
  generalize wn = w5 at hP hD hpp
  have lo := len
  obtain ⟨bq, len, ke, hq⟩ := hpp
  have len : w5.length = k + 15 := len
  have ka : ∀ ad : Nat → Nat, hw_ad ad w5 → hw_ad ad w4 := fun ad a => hw_ad.made lo mq hq ke a
  have m_0 : w5[k]? = some (h, .inr (2, [.ref q5, .null, .null, .null, .int 0, .int 0, .int 0])) := (ke _ (hq_k (by decide))).trans m_0
  have m_1 : ∀ ad : Nat → Nat, hw_ad ad w5 → wc_Li cI cG cZ ad (k + 1) i0_Li w5 := fun ad a => (m_1 ad (ka ad a)).fr (fun j h1 h2 => ke j (hq_fr (k := k) (a := 1) (n := 6) h2 (by decide)))
  have n_1 : ∃ e1, w5[k + 1]? = some (q5, e1) := n_1.elim (fun e1 h1 => ⟨e1, (ke _ (hq_lt (by decide))).trans h1⟩)
  have kp : ∀ j : Nat, j < k → w5[j]? = w0[j]? := fun j hj => (ke j (hq_j _ hj)).trans (kp j hj)
  have m_7 : ∀ ad : Nat → Nat, hw_ad ad w5 → wc_Wa cI cG cZ ad (k + 7) i0_Wa w5 := bq
  have n_7 : ∃ e1, w5[k + 7]? = some (q16, e1) := hq
  refine va_putF (D := D) (ci := 2) (v := .ref q16) (ty := .object "NearDesk$Walker") (C := R_Gr) (T := F_Gr) (N := 7) hx hb hts i_Gr t_Gr t_Gr_ok n_Gr hown hK hP hD hS (k) m_0 rfl 1 (by decide) (hts _ iw_133) (fun _ h9 => h9) rfl hin rfl (by decide +kernel) rfl rfl (Nat.le_of_ble_eq_true rfl) d_Gr_init_23 (fun H locs hP hD hS => ?_)
  obtain ⟨w6, hP, hD, len, ke, m1⟩ := hs_up2 hP hD m_0 len
  have ka : ∀ ad : Nat → Nat, hw_ad ad w6 → hw_ad ad w5 := fun ad a => hw_ad.set m_0 m1 ke a
  have m_0 : w6[k]? = some (h, .inr (2, [.ref q5, .ref q16, .null, .null, .int 0, .int 0, .int 0])) := m1
  have m_1 : ∀ ad : Nat → Nat, hw_ad ad w6 → wc_Li cI cG cZ ad (k + 1) i0_Li w6 := fun ad a => (m_1 ad (ka ad a)).fr (fun j h1 h2 => ke j (hq_nf h1 (by decide)))
  have n_1 : ∃ e1, w6[k + 1]? = some (q5, e1) := n_1.elim (fun e1 h1 => ⟨e1, (ke _ (hq_ne (by decide))).trans h1⟩)
  have m_7 : ∀ ad : Nat → Nat, hw_ad ad w6 → wc_Wa cI cG cZ ad (k + 7) i0_Wa w6 := fun ad a => (m_7 ad (ka ad a)).fr (fun j h1 h2 => ke j (hq_nf h1 (by decide)))
  have n_7 : ∃ e1, w6[k + 7]? = some (q16, e1) := n_7.elim (fun e1 h1 => ⟨e1, (ke _ (hq_ne (by decide))).trans h1⟩)
  have kp : ∀ j : Nat, j < k → w6[j]? = w0[j]? := fun j hj => (ke j (Nat.ne_of_lt hj)).trans (kp j hj)
  refine lv_aload_n hx hb d_Gr_init_26 rfl (lv_at hl 0 rfl) ?_
  refine va_new (ci := 0) (fs := [.null, .int 0, .int 0]) (C := R_Ch) (T := F_Ch) (N := 3) hx hb hts i_Ch t_Ch t_Ch_ok hown (hts _ iw_113) (hts _ iw_114) (hts _ iw_7) hK hP hD hS hA rfl (fun j hj => match j, hj with | 0, _ => rfl | 1, _ => rfl | 2, _ => rfl | k + 3, h => absurd h (by omega)) (Nat.le_of_ble_eq_true rfl) (Nat.le_of_ble_eq_true rfl) d_Gr_init_27 (fun q27 H hP hD hS => ?_)
  refine W.widen (k := 15) (n := 1223) (Nat.le_refl _) (Nat.le_refl _) ?_
  have lo := len
  obtain ⟨w7, hP, hD, len, ke, mq⟩ := hs_push hP hD len
  have len : w7.length = k + 16 := len
  have ka : ∀ ad : Nat → Nat, hw_ad ad w7 → hw_ad ad w6 := fun ad a => hw_ad.push lo ke a
  have m_0 : w7[k]? = some (h, .inr (2, [.ref q5, .ref q16, .null, .null, .int 0, .int 0, .int 0])) := (ke _ (hq_k (by decide))).trans m_0
  have m_1 : ∀ ad : Nat → Nat, hw_ad ad w7 → wc_Li cI cG cZ ad (k + 1) i0_Li w7 := fun ad a => (m_1 ad (ka ad a)).fr (fun j h1 h2 => ke j (hq_fr (k := k) (a := 1) (n := 6) h2 (by decide)))
  have n_1 : ∃ e1, w7[k + 1]? = some (q5, e1) := n_1.elim (fun e1 h1 => ⟨e1, (ke _ (hq_lt (by decide))).trans h1⟩)
  have m_7 : ∀ ad : Nat → Nat, hw_ad ad w7 → wc_Wa cI cG cZ ad (k + 7) i0_Wa w7 := fun ad a => (m_7 ad (ka ad a)).fr (fun j h1 h2 => ke j (hq_fr (k := k) (a := 7) (n := 8) h2 (by decide)))
  have n_7 : ∃ e1, w7[k + 7]? = some (q16, e1) := n_7.elim (fun e1 h1 => ⟨e1, (ke _ (hq_lt (by decide))).trans h1⟩)
  have kp : ∀ j : Nat, j < k → w7[j]? = w0[j]? := fun j hj => (ke j (hq_j _ hj)).trans (kp j hj)
  have mq : w7[k + 15]? = some (q27, .inr (0, [.null, .int 0, .int 0])) := mq
  refine lv_dup hx hb d_Gr_init_30 rfl ?_
  refine hw_cm (va_runIN (As := []) (rest := [.ref q27, .ref h]) ⟨hx, hb, hml, hown, hts⟩ (c_Ch_init l D cI cG cZ B w7 (k + 15) q27 mq len) ⟨va_cnB 0 hts (hw_gc ic_Ch_init) rfl rfl rfl (hN _ in_115) (hts _ iw_7) (by decide +kernel) ⟨Nat.le_of_ble_eq_true rfl, Nat.le_of_ble_eq_true rfl⟩, rfl, hts _ iw_116⟩ ⟨hw_blindA, hw_goA hP hD hK hN hS hBs hO⟩ rfl rfl hl.1 rfl (lv_room (Nat.le_of_ble_eq_true rfl)) d_Gr_init_31 ⟨Nat.le_of_ble_eq_true rfl, Nat.le_of_ble_eq_true rfl⟩) hS (fun wn H locs hP hD hS hpp => ?_)
  refine W.widen (k := 16) (n := 1253) (Nat.le_refl _) (Nat.le_refl _) ?_
  generalize wn = w8 at hP hD hpp
  have lo := len
  obtain ⟨bq, len, ke, hq⟩ := hpp
  have len : w8.length = k + 17 := len
  have ka : ∀ ad : Nat → Nat, hw_ad ad w8 → hw_ad ad w7 := fun ad a => hw_ad.made lo mq hq ke a
  have m_0 : w8[k]? = some (h, .inr (2, [.ref q5, .ref q16, .null, .null, .int 0, .int 0, .int 0])) := (ke _ (hq_k (by decide))).trans m_0
  have m_1 : ∀ ad : Nat → Nat, hw_ad ad w8 → wc_Li cI cG cZ ad (k + 1) i0_Li w8 := fun ad a => (m_1 ad (ka ad a)).fr (fun j h1 h2 => ke j (hq_fr (k := k) (a := 1) (n := 6) h2 (by decide)))
  have n_1 : ∃ e1, w8[k + 1]? = some (q5, e1) := n_1.elim (fun e1 h1 => ⟨e1, (ke _ (hq_lt (by decide))).trans h1⟩)
  have m_7 : ∀ ad : Nat → Nat, hw_ad ad w8 → wc_Wa cI cG cZ ad (k + 7) i0_Wa w8 := fun ad a => (m_7 ad (ka ad a)).fr (fun j h1 h2 => ke j (hq_fr (k := k) (a := 7) (n := 8) h2 (by decide)))
  have n_7 : ∃ e1, w8[k + 7]? = some (q16, e1) := n_7.elim (fun e1 h1 => ⟨e1, (ke _ (hq_lt (by decide))).trans h1⟩)
  have kp : ∀ j : Nat, j < k → w8[j]? = w0[j]? := fun j hj => (ke j (hq_j _ hj)).trans (kp j hj)
  have m_15 : ∀ ad : Nat → Nat, hw_ad ad w8 → wc_Ch cI cG cZ ad (k + 15) i0_Ch w8 := bq
  have n_15 : ∃ e1, w8[k + 15]? = some (q27, e1) := hq
  refine va_putF (D := D) (ci := 2) (v := .ref q27) (ty := .object "NearDesk$Chooser") (C := R_Gr) (T := F_Gr) (N := 7) hx hb hts i_Gr t_Gr t_Gr_ok n_Gr hown hK hP hD hS (k) m_0 rfl 2 (by decide) (hts _ iw_134) (fun _ h9 => h9) rfl hin rfl (by decide +kernel) rfl rfl (Nat.le_of_ble_eq_true rfl) d_Gr_init_34 (fun H locs hP hD hS => ?_)
  obtain ⟨w9, hP, hD, len, ke, m1⟩ := hs_up2 hP hD m_0 len
  have ka : ∀ ad : Nat → Nat, hw_ad ad w9 → hw_ad ad w8 := fun ad a => hw_ad.set m_0 m1 ke a
  have m_0 : w9[k]? = some (h, .inr (2, [.ref q5, .ref q16, .ref q27, .null, .int 0, .int 0, .int 0])) := m1
  have m_1 : ∀ ad : Nat → Nat, hw_ad ad w9 → wc_Li cI cG cZ ad (k + 1) i0_Li w9 := fun ad a => (m_1 ad (ka ad a)).fr (fun j h1 h2 => ke j (hq_nf h1 (by decide)))
  have n_1 : ∃ e1, w9[k + 1]? = some (q5, e1) := n_1.elim (fun e1 h1 => ⟨e1, (ke _ (hq_ne (by decide))).trans h1⟩)
  have m_7 : ∀ ad : Nat → Nat, hw_ad ad w9 → wc_Wa cI cG cZ ad (k + 7) i0_Wa w9 := fun ad a => (m_7 ad (ka ad a)).fr (fun j h1 h2 => ke j (hq_nf h1 (by decide)))
  have n_7 : ∃ e1, w9[k + 7]? = some (q16, e1) := n_7.elim (fun e1 h1 => ⟨e1, (ke _ (hq_ne (by decide))).trans h1⟩)
  have m_15 : ∀ ad : Nat → Nat, hw_ad ad w9 → wc_Ch cI cG cZ ad (k + 15) i0_Ch w9 := fun ad a => (m_15 ad (ka ad a)).fr (fun j h1 h2 => ke j (hq_nf h1 (by decide)))
  have n_15 : ∃ e1, w9[k + 15]? = some (q27, e1) := n_15.elim (fun e1 h1 => ⟨e1, (ke _ (hq_ne (by decide))).trans h1⟩)
  have kp : ∀ j : Nat, j < k → w9[j]? = w0[j]? := fun j hj => (ke j (Nat.ne_of_lt hj)).trans (kp j hj)
  refine lv_aload_n hx hb d_Gr_init_37 rfl (lv_at hl 0 rfl) ?_
  refine va_new (ci := 4) (fs := [.null, .null, .int 0, .int 0, .int 0]) (C := R_Rk) (T := F_Rk) (N := 5) hx hb hts i_Rk t_Rk t_Rk_ok hown (hts _ iw_129) (hts _ iw_79) (hts _ iw_6) hK hP hD hS hA rfl (fun j hj => match j, hj with | 0, _ => rfl | 1, _ => rfl | 2, _ => rfl | 3, _ => rfl | 4, _ => rfl | k + 5, h => absurd h (by omega)) (Nat.le_of_ble_eq_true rfl) (Nat.le_of_ble_eq_true rfl) d_Gr_init_38 (fun q38 H hP hD hS => ?_)
  refine W.widen (k := 17) (n := 1258) (Nat.le_refl _) (Nat.le_refl _) ?_
  have lo := len
  obtain ⟨w10, hP, hD, len, ke, mq⟩ := hs_push hP hD len
  have len : w10.length = k + 18 := len
  have ka : ∀ ad : Nat → Nat, hw_ad ad w10 → hw_ad ad w9 := fun ad a => hw_ad.push lo ke a
  have m_0 : w10[k]? = some (h, .inr (2, [.ref q5, .ref q16, .ref q27, .null, .int 0, .int 0, .int 0])) := (ke _ (hq_k (by decide))).trans m_0
  have m_1 : ∀ ad : Nat → Nat, hw_ad ad w10 → wc_Li cI cG cZ ad (k + 1) i0_Li w10 := fun ad a => (m_1 ad (ka ad a)).fr (fun j h1 h2 => ke j (hq_fr (k := k) (a := 1) (n := 6) h2 (by decide)))
  have n_1 : ∃ e1, w10[k + 1]? = some (q5, e1) := n_1.elim (fun e1 h1 => ⟨e1, (ke _ (hq_lt (by decide))).trans h1⟩)
  have m_7 : ∀ ad : Nat → Nat, hw_ad ad w10 → wc_Wa cI cG cZ ad (k + 7) i0_Wa w10 := fun ad a => (m_7 ad (ka ad a)).fr (fun j h1 h2 => ke j (hq_fr (k := k) (a := 7) (n := 8) h2 (by decide)))
  have n_7 : ∃ e1, w10[k + 7]? = some (q16, e1) := n_7.elim (fun e1 h1 => ⟨e1, (ke _ (hq_lt (by decide))).trans h1⟩)
  have m_15 : ∀ ad : Nat → Nat, hw_ad ad w10 → wc_Ch cI cG cZ ad (k + 15) i0_Ch w10 := fun ad a => (m_15 ad (ka ad a)).fr (fun j h1 h2 => ke j (hq_fr (k := k) (a := 15) (n := 2) h2 (by decide)))
  have n_15 : ∃ e1, w10[k + 15]? = some (q27, e1) := n_15.elim (fun e1 h1 => ⟨e1, (ke _ (hq_lt (by decide))).trans h1⟩)
  have kp : ∀ j : Nat, j < k → w10[j]? = w0[j]? := fun j hj => (ke j (hq_j _ hj)).trans (kp j hj)
  have mq : w10[k + 17]? = some (q38, .inr (4, [.null, .null, .int 0, .int 0, .int 0])) := mq
  refine lv_dup hx hb d_Gr_init_41 rfl ?_
  refine hw_cm (va_runIN (As := []) (rest := [.ref q38, .ref h]) ⟨hx, hb, hml, hown, hts⟩ (c_Rk_init l D cI cG cZ B w10 (k + 17) q38 mq len) ⟨va_cnB 0 hts (hw_gc ic_Rk_init) rfl rfl rfl (hN _ in_130) (hts _ iw_6) (by decide +kernel) ⟨Nat.le_of_ble_eq_true rfl, Nat.le_of_ble_eq_true rfl⟩, rfl, hts _ iw_81⟩ ⟨hw_blindA, hw_goA hP hD hK hN hS hBs hO⟩ rfl rfl hl.1 rfl (lv_room (Nat.le_of_ble_eq_true rfl)) d_Gr_init_42 ⟨Nat.le_of_ble_eq_true rfl, Nat.le_of_ble_eq_true rfl⟩) hS (fun wn H locs hP hD hS hpp => ?_)
  refine W.widen (k := 19) (n := 1318) (Nat.le_refl _) (Nat.le_refl _) ?_
  generalize wn = w11 at hP hD hpp
  have lo := len
  obtain ⟨bq, len, ke, hq⟩ := hpp
  have len : w11.length = k + 20 := len
  have ka : ∀ ad : Nat → Nat, hw_ad ad w11 → hw_ad ad w10 := fun ad a => hw_ad.made lo mq hq ke a
  have m_0 : w11[k]? = some (h, .inr (2, [.ref q5, .ref q16, .ref q27, .null, .int 0, .int 0, .int 0])) := (ke _ (hq_k (by decide))).trans m_0
  have m_1 : ∀ ad : Nat → Nat, hw_ad ad w11 → wc_Li cI cG cZ ad (k + 1) i0_Li w11 := fun ad a => (m_1 ad (ka ad a)).fr (fun j h1 h2 => ke j (hq_fr (k := k) (a := 1) (n := 6) h2 (by decide)))
  have n_1 : ∃ e1, w11[k + 1]? = some (q5, e1) := n_1.elim (fun e1 h1 => ⟨e1, (ke _ (hq_lt (by decide))).trans h1⟩)
  have m_7 : ∀ ad : Nat → Nat, hw_ad ad w11 → wc_Wa cI cG cZ ad (k + 7) i0_Wa w11 := fun ad a => (m_7 ad (ka ad a)).fr (fun j h1 h2 => ke j (hq_fr (k := k) (a := 7) (n := 8) h2 (by decide)))
  have n_7 : ∃ e1, w11[k + 7]? = some (q16, e1) := n_7.elim (fun e1 h1 => ⟨e1, (ke _ (hq_lt (by decide))).trans h1⟩)
  have m_15 : ∀ ad : Nat → Nat, hw_ad ad w11 → wc_Ch cI cG cZ ad (k + 15) i0_Ch w11 := fun ad a => (m_15 ad (ka ad a)).fr (fun j h1 h2 => ke j (hq_fr (k := k) (a := 15) (n := 2) h2 (by decide)))
  have n_15 : ∃ e1, w11[k + 15]? = some (q27, e1) := n_15.elim (fun e1 h1 => ⟨e1, (ke _ (hq_lt (by decide))).trans h1⟩)
  have kp : ∀ j : Nat, j < k → w11[j]? = w0[j]? := fun j hj => (ke j (hq_j _ hj)).trans (kp j hj)
  have m_17 : ∀ ad : Nat → Nat, hw_ad ad w11 → wc_Rk cI cG cZ ad (k + 17) i0_Rk w11 := bq
  have n_17 : ∃ e1, w11[k + 17]? = some (q38, e1) := hq
  refine va_putF (D := D) (ci := 2) (v := .ref q38) (ty := .object "NearDesk$Ranking") (C := R_Gr) (T := F_Gr) (N := 7) hx hb hts i_Gr t_Gr t_Gr_ok n_Gr hown hK hP hD hS (k) m_0 rfl 3 (by decide) (hts _ iw_135) (fun _ h9 => h9) rfl hin rfl (by decide +kernel) rfl rfl (Nat.le_of_ble_eq_true rfl) d_Gr_init_45 (fun H locs hP hD hS => ?_)
  obtain ⟨w12, hP, hD, len, ke, m1⟩ := hs_up2 hP hD m_0 len
  have ka : ∀ ad : Nat → Nat, hw_ad ad w12 → hw_ad ad w11 := fun ad a => hw_ad.set m_0 m1 ke a
  have m_0 : w12[k]? = some (h, .inr (2, [.ref q5, .ref q16, .ref q27, .ref q38, .int 0, .int 0, .int 0])) := m1
  have m_1 : ∀ ad : Nat → Nat, hw_ad ad w12 → wc_Li cI cG cZ ad (k + 1) i0_Li w12 := fun ad a => (m_1 ad (ka ad a)).fr (fun j h1 h2 => ke j (hq_nf h1 (by decide)))
  have n_1 : ∃ e1, w12[k + 1]? = some (q5, e1) := n_1.elim (fun e1 h1 => ⟨e1, (ke _ (hq_ne (by decide))).trans h1⟩)
  have m_7 : ∀ ad : Nat → Nat, hw_ad ad w12 → wc_Wa cI cG cZ ad (k + 7) i0_Wa w12 := fun ad a => (m_7 ad (ka ad a)).fr (fun j h1 h2 => ke j (hq_nf h1 (by decide)))
  have n_7 : ∃ e1, w12[k + 7]? = some (q16, e1) := n_7.elim (fun e1 h1 => ⟨e1, (ke _ (hq_ne (by decide))).trans h1⟩)
  have m_15 : ∀ ad : Nat → Nat, hw_ad ad w12 → wc_Ch cI cG cZ ad (k + 15) i0_Ch w12 := fun ad a => (m_15 ad (ka ad a)).fr (fun j h1 h2 => ke j (hq_nf h1 (by decide)))
  have n_15 : ∃ e1, w12[k + 15]? = some (q27, e1) := n_15.elim (fun e1 h1 => ⟨e1, (ke _ (hq_ne (by decide))).trans h1⟩)
  have m_17 : ∀ ad : Nat → Nat, hw_ad ad w12 → wc_Rk cI cG cZ ad (k + 17) i0_Rk w12 := fun ad a => (m_17 ad (ka ad a)).fr (fun j h1 h2 => ke j (hq_nf h1 (by decide)))
  have n_17 : ∃ e1, w12[k + 17]? = some (q38, e1) := n_17.elim (fun e1 h1 => ⟨e1, (ke _ (hq_ne (by decide))).trans h1⟩)
  have kp : ∀ j : Nat, j < k → w12[j]? = w0[j]? := fun j hj => (ke j (Nat.ne_of_lt hj)).trans (kp j hj)
  refine lv_aload_n hx hb d_Gr_init_48 rfl (lv_at hl 0 rfl) ?_
  refine lv_bipush (v := (-2)) hx hb d_Gr_init_49 (by decide) ?_
  refine va_put (D := D) (ci := 2) (v := .int (-2)) (ty := .int) (C := R_Gr) (T := F_Gr) (N := 7) hx hb hts i_Gr t_Gr t_Gr_ok n_Gr hown hK hP hD hS (k) m_0 rfl 4 (by decide) (hts _ iw_136) (fun _ h9 => h9) rfl (by decide +kernel) rfl rfl (Nat.le_of_ble_eq_true rfl) d_Gr_init_51 (fun H locs hP hD hS => ?_)
  obtain ⟨w13, hP, hD, len, ke, m1⟩ := hs_up2 hP hD m_0 len
  have ka : ∀ ad : Nat → Nat, hw_ad ad w13 → hw_ad ad w12 := fun ad a => hw_ad.set m_0 m1 ke a
  have m_0 : w13[k]? = some (h, .inr (2, [.ref q5, .ref q16, .ref q27, .ref q38, .int (-2), .int 0, .int 0])) := m1
  have m_1 : ∀ ad : Nat → Nat, hw_ad ad w13 → wc_Li cI cG cZ ad (k + 1) i0_Li w13 := fun ad a => (m_1 ad (ka ad a)).fr (fun j h1 h2 => ke j (hq_nf h1 (by decide)))
  have n_1 : ∃ e1, w13[k + 1]? = some (q5, e1) := n_1.elim (fun e1 h1 => ⟨e1, (ke _ (hq_ne (by decide))).trans h1⟩)
  have m_7 : ∀ ad : Nat → Nat, hw_ad ad w13 → wc_Wa cI cG cZ ad (k + 7) i0_Wa w13 := fun ad a => (m_7 ad (ka ad a)).fr (fun j h1 h2 => ke j (hq_nf h1 (by decide)))
  have n_7 : ∃ e1, w13[k + 7]? = some (q16, e1) := n_7.elim (fun e1 h1 => ⟨e1, (ke _ (hq_ne (by decide))).trans h1⟩)
  have m_15 : ∀ ad : Nat → Nat, hw_ad ad w13 → wc_Ch cI cG cZ ad (k + 15) i0_Ch w13 := fun ad a => (m_15 ad (ka ad a)).fr (fun j h1 h2 => ke j (hq_nf h1 (by decide)))
  have n_15 : ∃ e1, w13[k + 15]? = some (q27, e1) := n_15.elim (fun e1 h1 => ⟨e1, (ke _ (hq_ne (by decide))).trans h1⟩)
  have m_17 : ∀ ad : Nat → Nat, hw_ad ad w13 → wc_Rk cI cG cZ ad (k + 17) i0_Rk w13 := fun ad a => (m_17 ad (ka ad a)).fr (fun j h1 h2 => ke j (hq_nf h1 (by decide)))
  have n_17 : ∃ e1, w13[k + 17]? = some (q38, e1) := n_17.elim (fun e1 h1 => ⟨e1, (ke _ (hq_ne (by decide))).trans h1⟩)
  have kp : ∀ j : Nat, j < k → w13[j]? = w0[j]? := fun j hj => (ke j (Nat.ne_of_lt hj)).trans (kp j hj)
  refine W.vret hx hb hr (fun t ht hW => ⟨⟨w13, rfl, ⟨fun ad a => ?_, len, kp, ⟨_, m_0⟩⟩, by rw [ht]; exact hP, hD⟩, hS.F ht⟩) hS.2.2 d_Gr_init_54
  have e0 : ad k = h := a _ _ m_0
  have e1 : ad (k + 1) = q5 := n_1.elim (fun e1 h1 => a _ _ h1)
  have e7 : ad (k + 7) = q16 := n_7.elim (fun e1 h1 => a _ _ h1)
  have e15 : ad (k + 15) = q27 := n_15.elim (fun e1 h1 => a _ _ h1)
  have e17 : ad (k + 17) = q38 := n_17.elim (fun e1 h1 => a _ _ h1)
  exact ⟨(by rw [e0, e1, e7, e15, e17]; exact m_0), (m_1 ad a), (m_7 ad a), (m_15 ad a), (m_17 ad a)⟩
