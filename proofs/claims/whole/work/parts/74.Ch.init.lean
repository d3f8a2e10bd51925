set_option maxHeartbeats 4000000 in
set_option maxRecDepth 100000 in
theorem c_Ch_init (l : Launch) (D : va_G) (cI cG cZ : ClassId) (B : Nat) (w0 : va_W) (k h : Nat) (m_0 : w0[k]? = some (h, .inr (0, [.null, .int 0, .int 0]))) (len : w0.length = k + 1) : Met l y_Ch_init (.code y_Ch_init b_Ch_init 1 none :: hw_G) ({ frames := 1, cells := 1, slots := 30, locals := 20 } : Room) (va_Pc [.ref h] (hw_UA D cI cG cZ B w0)) (va_Qv (fun (w1 : va_W) => (∀ ad : Nat → Nat, hw_ad ad w1 → wc_Ch cI cG cZ ad k i0_Ch w1) ∧ w1.length = k + 2 ∧ (∀ j : Nat, j < k → w1[j]? = w0[j]?) ∧ ∃ e1, w1[k]? = some (h, e1)) (hw_B D B) (fun q : Nat => B ≤ q)) 1 30 (fun q : Nat => B ≤ q) := by
  refine Met.ofW (cc := b_Ch_init) (maxL := 1) (ret := none) (by decide) rfl ?_
  intro p e s m args below meth c s₁ Bd hml hv
  obtain ⟨rfl, ⟨hP, hD, hK, hN⟩, hBs, hO⟩ := hv
  have hx := Bd.exec
  have hb := Bd.bytes
  have hr := Bd.returns
  have hown : s.vm.findClass R_Ch = some m.cls := findClass_of_methodNamed Bd.named
  have hts : ∀ w ∈ hw_G, w.before #[Value.ref h] s = true := fun w hw => atoms_spec (ws := .code y_Ch_init b_Ch_init 1 none :: hw_G) Bd.pre w (List.mem_cons_of_mem _ hw)
  have hlocks := Bd.notSynchronized
  have hin : meth.name = "<init>" := (name_of_methodNamed Bd.named Bd.method).1
  have hA : ∀ q : Nat, s.heap.size ≤ q → (fun q : Nat => B ≤ q) q := fun q hq => Nat.le_trans hBs hq
  have hS : va_S (fun q : Nat => B ≤ q) s.heap s.heap [] := va_S.rf
  have kp : ∀ j : Nat, j < k → w0[j]? = w0[j]? := fun _ _ => rfl
  have lo0 := len
  have hl := lv_entry ([.ref h]) (n := 1) (Nat.le_of_ble_eq_true rfl)
  rw [lg_entry_eq]
  generalize (lg_sl ([.ref h]) ++ List.replicate (1 - (lg_sl ([.ref h])).length) Slot.unset).toArray = ls at hl ⊢
  have hl : lv_has ls 1 [(0, .ref h)] := hl
  refine lv_aload_n hx hb d_Ch_init_0 rfl (lv_at hl 0 rfl) ?_
  refine W.objInit hx hb hown (hts _ iw_118) (hts _ iw_obj_inst) (hts _ iw_obj_code) rfl (by rw [hml]; exact hl.1) rfl d_Ch_init_1 (Nat.le_of_ble_eq_true rfl) (Nat.le_of_ble_eq_true rfl) ?_
  refine W.eq (g2 := F0 m 4 ls []) rfl ?_
  refine lv_aload_n hx hb d_Ch_init_4 rfl (lv_at hl 0 rfl) ?_
  refine lv_bipush (v := 30) hx hb d_Ch_init_5 (by decide) ?_
  refine hw_newa (atype := .int) (ty := .int) hx hb (hts _ iw_40) rfl hK hP hD hS hA 0 rfl (fun _ h9 => h9) (N' := 30) (fun _ => rfl) (by decide) (by decide) (by decide) (Nat.le_of_ble_eq_true rfl) (Nat.le_of_ble_eq_true rfl) d_Ch_init_7 (fun q7 H hP hD hS => ?_)
  refine W.widen (k := 1) (n := 30) (Nat.le_refl _) (Nat.le_refl _) ?_
  have lo := len
  obtain ⟨w1, hP, hD, len, ke, mq⟩ := hs_push hP hD len
  have len : w1.length = k + 2 := len
  have ka : ∀ ad : Nat → Nat, hw_ad ad w1 → hw_ad ad w0 := fun ad a => hw_ad.push lo ke a
  have m_0 : w1[k]? = some (h, .inr (0, [.null, .int 0, .int 0])) := (ke _ (hq_k (by decide))).trans m_0
  have kp : ∀ j : Nat, j < k → w1[j]? = w0[j]? := fun j hj => (ke j (hq_j _ hj)).trans (kp j hj)
  have m_1 : w1[k + 1]? = some (q7, .inl (cI, 30, .inl (fun _ => 0))) := mq
  refine va_putF (D := D) (ci := 0) (v := .ref q7) (ty := .array .int) (C := R_Ch) (T := F_Ch) (N := 3) hx hb hts i_Ch t_Ch t_Ch_ok n_Ch hown hK hP hD hS (k) m_0 rfl 0 (by decide) (hts _ iw_119) (fun _ h9 => h9) rfl hin rfl (by decide +kernel) rfl rfl (Nat.le_of_ble_eq_true rfl) d_Ch_init_9 (fun H locs hP hD hS => ?_)
  obtain ⟨w2, hP, hD, len, ke, m1⟩ := hs_up2 hP hD m_0 len
  have ka : ∀ ad : Nat → Nat, hw_ad ad w2 → hw_ad ad w1 := fun ad a => hw_ad.set m_0 m1 ke a
  have m_0 : w2[k]? = some (h, .inr (0, [.ref q7, .int 0, .int 0])) := m1
  have m_1 : w2[k + 1]? = some (q7, .inl (cI, 30, .inl (fun _ => 0))) := (ke _ (hq_ne (by decide))).trans m_1
  have kp : ∀ j : Nat, j < k → w2[j]? = w0[j]? := fun j hj => (ke j (Nat.ne_of_lt hj)).trans (kp j hj)
  refine W.vret hx hb hr (fun t ht hW => ⟨⟨w2, rfl, ⟨fun ad a => ?_, len, kp, ⟨_, m_0⟩⟩, by rw [ht]; exact hP, hD⟩, hS.F ht⟩) hS.2.2 d_Ch_init_12
  have e0 : ad k = h := a _ _ m_0
  have e1 : ad (k + 1) = q7 := a _ _ m_1
  exact ⟨(by rw [e0, e1]; exact m_0), (by rw [e1]; exact m_1)⟩
