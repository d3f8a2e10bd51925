set_option maxHeartbeats 4000000 in
set_option maxRecDepth 100000 in
theorem wl_Li_freeNumber_2 {p : Program} {l : Launch} {e : Env} {s : State} {m : MethodId} {args : Array Value} {below : List Frame} {meth : Method} {c : Code} {D : va_G} {cI cG cZ : ClassId} {ad : Nat → Nat} {B : Nat} {w0 : va_W} {N : Nat} {k0 : Nat} (C0 : hw_C p s m meth c b_Li_freeNumber 2 args R_Li (some .int)) (hK : va_K D classes [(cI, .int), (cG, .array .int), (cZ, .boolean)] s) (hN : hw_N s) (x0_0 : (Nat → Int32)) (x0_1 : (Nat → Int32)) (x0_2 : (Nat → Int32)) (x0_3 : (Nat → Int32)) (x0_4 : (Nat → Int32)) (x0_5 : Int32) (r : Int32) : ∀ (n : Nat) (v1 : Int32) (ws : va_W) (H : Heap) (locs : List Loc) (ls : Array Slot), va_P D classes ws H → va_D (fun q : Nat => B ≤ q) ws → va_S (fun q : Nat => B ≤ q) s.heap H locs → lv_has ls 2 [(1, .int v1), (0, .ref (ad k0))] → ws[k0]? = some (ad k0, .inr (3, [.ref (ad (k0 + 1)), .ref (ad (k0 + 2)), .ref (ad (k0 + 3)), .ref (ad (k0 + 4)), .ref (ad (k0 + 5)), .int x0_5])) → ws[k0 + 1]? = some (ad (k0 + 1), .inl (cI, 30, .inl x0_0)) → ws[k0 + 2]? = some (ad (k0 + 2), .inl (cI, 30, .inl x0_1)) → ws[k0 + 3]? = some (ad (k0 + 3), .inl (cI, 120, .inl x0_2)) → ws[k0 + 4]? = some (ad (k0 + 4), .inl (cI, 840, .inl x0_3)) → ws[k0 + 5]? = some (ad (k0 + 5), .inl (cI, 30, .inl x0_4)) → (ws = w0) → f_Li_freeNumber_2 N x0_0 n v1 = some r → W p l e ({ frames := 0, cells := 0, slots := 0, locals := 0 } : Room) s m args below meth c H locs 0 0 (MQ below (va_Qi (fun (r1 : Int32) (w1 : va_W) => r1 = r ∧ w1 = w0) (hw_B D B) (fun q : Nat => B ≤ q)) args s 0 0 (fun q : Nat => B ≤ q)) (F0 m 2 ls []) := by
  obtain ⟨hx, hb, hr, hml, hown, hts, hlocks⟩ := id C0
  intro n
  induction n with
  | zero =>
    intro v1 ws H locs ls hP hD hS hl mk0_0 mk0_1 mk0_2 mk0_3 mk0_4 mk0_5 fr hf
    exact nomatch (show none = some _ from hf)
  | succ n ih =>
    intro v1 ws H locs ls hP hD hS hl mk0_0 mk0_1 mk0_2 mk0_3 mk0_4 mk0_5 fr hf
    rw [f_Li_freeNumber_2] at hf
    refine lv_iload_n hx hb d_Li_freeNumber_2 rfl (lv_at hl 0 rfl) ?_
    refine lv_bipush (v := 30) hx hb d_Li_freeNumber_3 (by decide) ?_
    refine lv_icmp_ge (tgt := 25) hx hb d_Li_freeNumber_5 (by decide) (fun c1 => ?_) (fun c1 => ?_)
    · rw [if_pos c1] at hf
      refine lv_bipush (v := (-2)) hx hb d_Li_freeNumber_25 (by decide) ?_
      have bk0_0 : wc_Li cI cG cZ ad (k0) (x0_0, x0_1, x0_2, x0_3, x0_4, x0_5) ws := ⟨mk0_0, mk0_1, mk0_2, mk0_3, mk0_4, mk0_5⟩
      have e0 := Option.some.inj hf
      exact W.iret (v := (-2)) hx hb hr (fun t ht hW => ⟨⟨(-2), ws, rfl, ⟨e0, fr⟩, by rw [ht]; exact hP, hD⟩, hS.F ht⟩) hS.2.2 d_Li_freeNumber_27
    · rw [if_neg c1] at hf
      refine lv_aload_n hx hb d_Li_freeNumber_8 rfl (lv_at hl 1 rfl) ?_
      refine va_get (D := D) (ci := 3) (v := .ref (ad (k0 + 1))) (C := R_Li) (T := F_Li) (N := 6) hx hb hts i_Li hown hK hP (k0) mk0_0 rfl 0 (by decide) (hts _ iw_53) (fun _ h9 => h9) rfl d_Li_freeNumber_9 ?_
      refine lv_iload_n hx hb d_Li_freeNumber_12 rfl (lv_at hl 0 rfl) ?_
      obtain ⟨z2, hf⟩ := g_atE hf
      refine va_iald hx hb hK hP (k0 + 1) 0 mk0_1 rfl z2 d_Li_freeNumber_13 ?_
      refine lv_if_ne (tgt := 19) hx hb d_Li_freeNumber_14 (by decide) (fun c3 => ?_) (fun c3 => ?_)
      · rw [if_neg c3] at hf
        refine lv_iinc (v := v1 + 1) (lv' := [(1, .int (v1 + 1)), (0, .ref (ad k0))]) hx hb d_Li_freeNumber_19 hl (k := 0) rfl rfl (by decide) rfl (fun ls hl => ?_)
        refine lv_goto (tgt := 2) hx hb d_Li_freeNumber_22 (by decide) ?_
        exact ih (v1 + 1) _ _ _ _ hP hD hS (lv_sub hl [0, 1] rfl) mk0_0 mk0_1 mk0_2 mk0_3 mk0_4 mk0_5 fr hf
      · rw [if_pos c3] at hf
        refine lv_iload_n hx hb d_Li_freeNumber_17 rfl (lv_at hl 0 rfl) ?_
        have bk0_0 : wc_Li cI cG cZ ad (k0) (x0_0, x0_1, x0_2, x0_3, x0_4, x0_5) ws := ⟨mk0_0, mk0_1, mk0_2, mk0_3, mk0_4, mk0_5⟩
        have e0 := Option.some.inj hf
        exact W.iret (v := v1) hx hb hr (fun t ht hW => ⟨⟨v1, ws, rfl, ⟨e0, fr⟩, by rw [ht]; exact hP, hD⟩, hS.F ht⟩) hS.2.2 d_Li_freeNumber_18
set_option maxHeartbeats 4000000 in
set_option maxRecDepth 100000 in
theorem c_Li_freeNumber (l : Launch) (D : va_G) (cI cG cZ : ClassId) (ad : Nat → Nat) (B : Nat) (w0 : va_W) (N : Nat) (k0 : Nat) (x0_0 : (Nat → Int32)) (x0_1 : (Nat → Int32)) (x0_2 : (Nat → Int32)) (x0_3 : (Nat → Int32)) (x0_4 : (Nat → Int32)) (x0_5 : Int32) (r : Int32) (hf : f_Li_freeNumber N x0_0 = some r) (bk0_0 : wc_Li cI cG cZ ad k0 (x0_0, x0_1, x0_2, x0_3, x0_4, x0_5) w0) : Met l y_Li_freeNumber (.code y_Li_freeNumber b_Li_freeNumber 2 (some .int) :: hw_G) ({ frames := 0, cells := 0, slots := 0, locals := 0 } : Room) (va_Pc [.ref (ad k0)] (hw_U D cI cG cZ B w0)) (va_Qi (fun (r1 : Int32) (w1 : va_W) => r1 = r ∧ w1 = w0) (hw_B D B) (fun q : Nat => B ≤ q)) 0 0 (fun q : Nat => B ≤ q) := by
  refine Met.ofW (cc := b_Li_freeNumber) (maxL := 2) (ret := (some .int)) (by decide) rfl ?_
  intro p e s m args below meth c s₁ Bd hml hv
  obtain ⟨rfl, hP, hD, hK, hN⟩ := hv
  have C0 : hw_C p s m meth c b_Li_freeNumber 2 _ R_Li (some .int) := ⟨Bd.exec, Bd.bytes, Bd.returns, hml, findClass_of_methodNamed Bd.named, fun w h => atoms_spec (ws := .code y_Li_freeNumber b_Li_freeNumber 2 (some .int) :: hw_G) Bd.pre w (List.mem_cons_of_mem _ h), Bd.notSynchronized⟩
  obtain ⟨hx, hb, hr, -, hown, hts, hlocks⟩ := id C0
  have hS : va_S (fun q : Nat => B ≤ q) s.heap s.heap [] := va_S.rf
  have fr : w0 = w0 := rfl
  have hl := lv_entry ([.ref (ad k0)]) (n := 2) (Nat.le_of_ble_eq_true rfl)
  rw [lg_entry_eq]
  generalize (lg_sl ([.ref (ad k0)]) ++ List.replicate (2 - (lg_sl ([.ref (ad k0)])).length) Slot.unset).toArray = ls at hl ⊢
  have hl : lv_has ls 2 [(0, .ref (ad k0))] := hl
  unfold f_Li_freeNumber at hf
  obtain ⟨mk0_0, mk0_1, mk0_2, mk0_3, mk0_4, mk0_5⟩ := id bk0_0
  have mk0_0 : w0[k0]? = some (ad k0, .inr (3, [.ref (ad (k0 + 1)), .ref (ad (k0 + 2)), .ref (ad (k0 + 3)), .ref (ad (k0 + 4)), .ref (ad (k0 + 5)), .int x0_5])) := mk0_0
  have mk0_1 : w0[k0 + 1]? = some (ad (k0 + 1), .inl (cI, 30, .inl x0_0)) := mk0_1
  have mk0_2 : w0[k0 + 2]? = some (ad (k0 + 2), .inl (cI, 30, .inl x0_1)) := mk0_2
  have mk0_3 : w0[k0 + 3]? = some (ad (k0 + 3), .inl (cI, 120, .inl x0_2)) := mk0_3
  have mk0_4 : w0[k0 + 4]? = some (ad (k0 + 4), .inl (cI, 840, .inl x0_3)) := mk0_4
  have mk0_5 : w0[k0 + 5]? = some (ad (k0 + 5), .inl (cI, 30, .inl x0_4)) := mk0_5
  refine lv_iconst (v := 0) hx hb d_Li_freeNumber_0 (by decide) ?_
  refine lv_istore_n (lv' := [(1, .int 0), (0, .ref (ad k0))]) hx hb d_Li_freeNumber_1 rfl hl (by decide) rfl (fun ls hl => ?_)
  exact wl_Li_freeNumber_2 (ad := ad) C0 hK hN x0_0 x0_1 x0_2 x0_3 x0_4 x0_5 r N 0 _ _ _ _ hP hD hS (lv_sub hl [0, 1] rfl) mk0_0 mk0_1 mk0_2 mk0_3 mk0_4 mk0_5 fr hf
set_option maxHeartbeats 4000000 in
set_option maxRecDepth 100000 in
theorem wl_Li_levelOf_4 {p : Program} {l : Launch} {e : Env} {s : State} {m : MethodId} {args : Array Value} {below : List Frame} {meth : Method} {c : Code} {D : va_G} {cI cG cZ : ClassId} {ad : Nat → Nat} {B : Nat} {w0 : va_W} {N : Nat} (C0 : hw_C p s m meth c b_Li_levelOf 3 args R_Li (some .int)) (hK : va_K D classes [(cI, .int), (cG, .array .int), (cZ, .boolean)] s) (hN : hw_N s) (a0 : Int32) (r : Int32) : ∀ (n : Nat) (v1 : Int32) (v2 : Int32) (ws : va_W) (H : Heap) (locs : List Loc) (ls : Array Slot), va_P D classes ws H → va_D (fun q : Nat => B ≤ q) ws → va_S (fun q : Nat => B ≤ q) s.heap H locs → lv_has ls 3 [(2, .int v2), (1, .int v1), (0, .int a0)] → (ws = w0) → f_Li_levelOf_4 N n v1 v2 = some r → W p l e ({ frames := 0, cells := 0, slots := 0, locals := 0 } : Room) s m args below meth c H locs 0 0 (MQ below (va_Qi (fun (r1 : Int32) (w1 : va_W) => r1 = r ∧ w1 = w0) (hw_B D B) (fun q : Nat => B ≤ q)) args s 0 0 (fun q : Nat => B ≤ q)) (F0 m 4 ls []) := by
  obtain ⟨hx, hb, hr, hml, hown, hts, hlocks⟩ := id C0
  intro n
  induction n with
  | zero =>
    intro v1 v2 ws H locs ls hP hD hS hl fr hf
    exact nomatch (show none = some _ from hf)
  | succ n ih =>
    intro v1 v2 ws H locs ls hP hD hS hl fr hf
    rw [f_Li_levelOf_4] at hf
    refine lv_iload_n hx hb d_Li_levelOf_4 rfl (lv_at hl 1 rfl) ?_
    refine lv_iconst (v := 3) hx hb d_Li_levelOf_5 (by decide) ?_
    refine lv_icmp_ge (tgt := 25) hx hb d_Li_levelOf_6 (by decide) (fun c1 => ?_) (fun c1 => ?_)
    · rw [if_pos c1] at hf
      refine lv_iload_n hx hb d_Li_levelOf_25 rfl (lv_at hl 1 rfl) ?_
      have e0 := Option.some.inj hf
      exact W.iret (v := v1) hx hb hr (fun t ht hW => ⟨⟨v1, ws, rfl, ⟨e0, fr⟩, by rw [ht]; exact hP, hD⟩, hS.F ht⟩) hS.2.2 d_Li_levelOf_26
    · rw [if_neg c1] at hf
      refine lv_iload_n hx hb d_Li_levelOf_9 rfl (lv_at hl 0 rfl) ?_
      refine lv_iconst (v := 3) hx hb d_Li_levelOf_10 (by decide) ?_
      refine lv_irem hx hb d_Li_levelOf_11 (by decide) ?_
      refine lv_if_ne (tgt := 25) hx hb d_Li_levelOf_12 (by decide) (fun c3 => ?_) (fun c3 => ?_)
      · rw [if_neg c3] at hf
        refine lv_iload_n hx hb d_Li_levelOf_25 rfl (lv_at hl 1 rfl) ?_
        have e0 := Option.some.inj hf
        exact W.iret (v := v1) hx hb hr (fun t ht hW => ⟨⟨v1, ws, rfl, ⟨e0, fr⟩, by rw [ht]; exact hP, hD⟩, hS.F ht⟩) hS.2.2 d_Li_levelOf_26
      · rw [if_pos c3] at hf
        refine lv_iload_n hx hb d_Li_levelOf_15 rfl (lv_at hl 0 rfl) ?_
        refine lv_iconst (v := 3) hx hb d_Li_levelOf_16 (by decide) ?_
        refine lv_idiv hx hb d_Li_levelOf_17 (by decide) ?_
        refine lv_istore_n (lv' := [(2, .int (v2 / 3)), (1, .int v1), (0, .int a0)]) hx hb d_Li_levelOf_18 rfl hl (by decide) rfl (fun ls hl => ?_)
        refine lv_iinc (v := v1 + 1) (lv' := [(1, .int (v1 + 1)), (2, .int (v2 / 3)), (0, .int a0)]) hx hb d_Li_levelOf_19 hl (k := 1) rfl rfl (by decide) rfl (fun ls hl => ?_)
        refine lv_goto (tgt := 4) hx hb d_Li_levelOf_22 (by decide) ?_
        exact ih (v1 + 1) (v2 / 3) _ _ _ _ hP hD hS (lv_sub hl [1, 0, 2] rfl) fr hf
set_option maxHeartbeats 4000000 in
set_option maxRecDepth 100000 in
theorem c_Li_levelOf (l : Launch) (D : va_G) (cI cG cZ : ClassId) (ad : Nat → Nat) (B : Nat) (w0 : va_W) (N : Nat) (a0 : Int32) (r : Int32) (hf : f_Li_levelOf N a0 = some r) : Met l y_Li_levelOf (.code y_Li_levelOf b_Li_levelOf 3 (some .int) :: hw_G) ({ frames := 0, cells := 0, slots := 0, locals := 0 } : Room) (va_Pc [.int a0] (hw_U D cI cG cZ B w0)) (va_Qi (fun (r1 : Int32) (w1 : va_W) => r1 = r ∧ w1 = w0) (hw_B D B) (fun q : Nat => B ≤ q)) 0 0 (fun q : Nat => B ≤ q) := by
  refine Met.ofW (cc := b_Li_levelOf) (maxL := 3) (ret := (some .int)) (by decide) rfl ?_
  intro p e s m args below meth c s₁ Bd hml hv
  obtain ⟨rfl, hP, hD, hK, hN⟩ := hv
  have C0 : hw_C p s m meth c b_Li_levelOf 3 _ R_Li (some .int) := ⟨Bd.exec, Bd.bytes, Bd.returns, hml, findClass_of_methodNamed Bd.named, fun w h => atoms_spec (ws := .code y_Li_levelOf b_Li_levelOf 3 (some .int) :: hw_G) Bd.pre w (List.mem_cons_of_mem _ h), Bd.notSynchronized⟩
  obtain ⟨hx, hb, hr, -, hown, hts, hlocks⟩ := id C0
  have hS : va_S (fun q : Nat => B ≤ q) s.heap s.heap [] := va_S.rf
  have fr : w0 = w0 := rfl
  have hl := lv_entry ([.int a0]) (n := 3) (Nat.le_of_ble_eq_true rfl)
  rw [lg_entry_eq]
  generalize (lg_sl ([.int a0]) ++ List.replicate (3 - (lg_sl ([.int a0])).length) Slot.unset).toArray = ls at hl ⊢
  have hl : lv_has ls 3 [(0, .int a0)] := hl
  unfold f_Li_levelOf at hf
  refine lv_iconst (v := 0) hx hb d_Li_levelOf_0 (by decide) ?_
  refine lv_istore_n (lv' := [(1, .int 0), (0, .int a0)]) hx hb d_Li_levelOf_1 rfl hl (by decide) rfl (fun ls hl => ?_)
  refine lv_iload_n hx hb d_Li_levelOf_2 rfl (lv_at hl 1 rfl) ?_
  refine lv_istore_n (lv' := [(2, .int a0), (1, .int 0), (0, .int a0)]) hx hb d_Li_levelOf_3 rfl hl (by decide) rfl (fun ls hl => ?_)
  exact wl_Li_levelOf_4 (ad := ad) C0 hK hN a0 r N 0 a0 _ _ _ _ hP hD hS (lv_sub hl [0, 1, 2] rfl) fr hf
set_option maxHeartbeats 4000000 in
set_option maxRecDepth 100000 in
theorem wl_Li_addNode_35 {p : Program} {l : Launch} {e : Env} {s : State} {m : MethodId} {args : Array Value} {below : List Frame} {meth : Method} {c : Code} {D : va_G} {cI cG cZ : ClassId} {ad : Nat → Nat} {B : Nat} {w0 : va_W} {N : Nat} {k0 : Nat} (C0 : hw_C p s m meth c b_Li_addNode 3 args R_Li none) (hK : va_K D classes [(cI, .int), (cG, .array .int), (cZ, .boolean)] s) (hN : hw_N s) (x0_0 : (Nat → Int32)) (x0_1 : (Nat → Int32)) (x0_3 : (Nat → Int32)) (x0_4 : (Nat → Int32)) (x0_5 : Int32) (a1 : Int32) (p4 : Int32) (x0_2 : (Nat → Int32)) (y0_0 : (Nat → Int32)) (y0_1 : (Nat → Int32)) (y0_2 : (Nat → Int32)) (y0_5 : Int32) : ∀ (n : Nat) (vak0_3 : (Nat → Int32)) (v2 : Int32) (ws : va_W) (H : Heap) (locs : List Loc) (ls : Array Slot), va_P D classes ws H → va_D (fun q : Nat => B ≤ q) ws → va_S (fun q : Nat => B ≤ q) s.heap H locs → lv_has ls 3 [(2, .int v2), (0, .ref (ad k0)), (1, .int a1)] → ws[k0]? = some (ad k0, .inr (3, [.ref (ad (k0 + 1)), .ref (ad (k0 + 2)), .ref (ad (k0 + 3)), .ref (ad (k0 + 4)), .ref (ad (k0 + 5)), .int (x0_5 + 1)])) → ws[k0 + 1]? = some (ad (k0 + 1), .inl (cI, 30, .inl (upd x0_0 a1.toNatClampNeg (x0_5 + 1)))) → ws[k0 + 2]? = some (ad (k0 + 2), .inl (cI, 30, .inl (upd x0_1 a1.toNatClampNeg p4))) → ws[k0 + 3]? = some (ad (k0 + 3), .inl (cI, 120, .inl vak0_3)) → ws[k0 + 4]? = some (ad (k0 + 4), .inl (cI, 840, .inl x0_3)) → ws[k0 + 5]? = some (ad (k0 + 5), .inl (cI, 30, .inl x0_4)) → (∀ j : Nat, (j < k0 ∨ k0 + 6 ≤ j) → ws[j]? = w0[j]?) → f_Li_addNode_35 N x0_0 x0_1 x0_5 a1 p4 n vak0_3 v2 = some (y0_0, y0_1, y0_2, y0_5) → W p l e ({ frames := 1, cells := 0, slots := 0, locals := 22 } : Room) s m args below meth c H locs 0 0 (MQ below (va_Qv (fun (w1 : va_W) => wc_Li cI cG cZ ad k0 (y0_0, y0_1, y0_2, x0_3, x0_4, y0_5) w1 ∧ (∀ j : Nat, (j < k0 ∨ k0 + 6 ≤ j) → w1[j]? = w0[j]?)) (hw_B D B) (fun q : Nat => B ≤ q)) args s 0 0 (fun q : Nat => B ≤ q)) (F0 m 35 ls []) := by
  obtain ⟨hx, hb, hr, hml, hown, hts, hlocks⟩ := id C0
  intro n
  induction n with
  | zero =>
    intro vak0_3 v2 ws H locs ls hP hD hS hl mk0_0 mk0_1 mk0_2 mk0_3 mk0_4 mk0_5 fr hf
    exact nomatch (show none = some _ from hf)
  | succ n ih =>
    intro vak0_3 v2 ws H locs ls hP hD hS hl mk0_0 mk0_1 mk0_2 mk0_3 mk0_4 mk0_5 fr hf
    rw [f_Li_addNode_35] at hf
    refine lv_iload_n hx hb d_Li_addNode_35 rfl (lv_at hl 0 rfl) ?_
    refine lv_iconst (v := 4) hx hb d_Li_addNode_36 (by decide) ?_
    refine lv_icmp_ge (tgt := 57) hx hb d_Li_addNode_37 (by decide) (fun c7 => ?_) (fun c7 => ?_)
    · rw [if_pos c7] at hf
      have bk0_0 : wc_Li cI cG cZ ad (k0) (upd x0_0 a1.toNatClampNeg (x0_5 + 1), upd x0_1 a1.toNatClampNeg p4, vak0_3, x0_3, x0_4, x0_5 + 1) ws := ⟨mk0_0, mk0_1, mk0_2, mk0_3, mk0_4, mk0_5⟩
      have he := Option.some.inj hf
      obtain ⟨e0, he⟩ := Prod.mk.inj he
      obtain ⟨e1, he⟩ := Prod.mk.inj he
      obtain ⟨e2, e3⟩ := Prod.mk.inj he
      have f0 : wc_Li cI cG cZ ad (k0) (y0_0, y0_1, y0_2, x0_3, x0_4, y0_5) ws := by rw [← e0, ← e1, ← e2, ← e3]; exact bk0_0
      exact W.vret hx hb hr (fun t ht hW => ⟨⟨ws, rfl, ⟨f0, fr⟩, by rw [ht]; exact hP, hD⟩, hS.F ht⟩) hS.2.2 d_Li_addNode_57
    · rw [if_neg c7] at hf
      refine lv_aload_n hx hb d_Li_addNode_40 rfl (lv_at hl 1 rfl) ?_
      refine va_get (D := D) (ci := 3) (v := .ref (ad (k0 + 3))) (C := R_Li) (T := F_Li) (N := 6) hx hb hts i_Li hown hK hP (k0) mk0_0 rfl 2 (by decide) (hts _ iw_55) (fun _ h9 => h9) rfl d_Li_addNode_41 ?_
      refine lv_iload_n hx hb d_Li_addNode_44 rfl (lv_at hl 2 rfl) ?_
      refine lv_iconst (v := 4) hx hb d_Li_addNode_45 (by decide) ?_
      refine lv_imul hx hb d_Li_addNode_46 ?_
      refine lv_iload_n hx hb d_Li_addNode_47 rfl (lv_at hl 0 rfl) ?_
      refine lv_iadd hx hb d_Li_addNode_48 ?_
      refine lv_iconst (v := 0) hx hb d_Li_addNode_49 (by decide) ?_
      obtain ⟨z8, hf⟩ := g_atE hf
      refine va_iast hx hb hK hP hD hS (k0 + 3) 0 mk0_3 rfl z8 d_Li_addNode_50 (fun H locs hP hD hS => ?_)
      obtain ⟨w9, hP, hD, hne, heq⟩ := hs_up hP hD mk0_3
      have mk0_3 : w9[k0 + 3]? = some (ad (k0 + 3), .inl (cI, 120, .inl (upd vak0_3 ((a1 * 4) + v2).toNatClampNeg 0))) := heq
      have mk0_0 : w9[k0]? = some (ad k0, .inr (3, [.ref (ad (k0 + 1)), .ref (ad (k0 + 2)), .ref (ad (k0 + 3)), .ref (ad (k0 + 4)), .ref (ad (k0 + 5)), .int (x0_5 + 1)])) := (hne _ (by omega)).trans mk0_0
      have mk0_1 : w9[k0 + 1]? = some (ad (k0 + 1), .inl (cI, 30, .inl (upd x0_0 a1.toNatClampNeg (x0_5 + 1)))) := (hne _ (by omega)).trans mk0_1
      have mk0_2 : w9[k0 + 2]? = some (ad (k0 + 2), .inl (cI, 30, .inl (upd x0_1 a1.toNatClampNeg p4))) := (hne _ (by omega)).trans mk0_2
      have mk0_4 : w9[k0 + 4]? = some (ad (k0 + 4), .inl (cI, 840, .inl x0_3)) := (hne _ (by omega)).trans mk0_4
      have mk0_5 : w9[k0 + 5]? = some (ad (k0 + 5), .inl (cI, 30, .inl x0_4)) := (hne _ (by omega)).trans mk0_5
      have fr : ∀ j : Nat, (j < k0 ∨ k0 + 6 ≤ j) → w9[j]? = w0[j]? := fun j o0 => (hne j (by omega)).trans (fr j o0)
      refine lv_iinc (v := v2 + 1) (lv' := [(2, .int (v2 + 1)), (0, .ref (ad k0)), (1, .int a1)]) hx hb d_Li_addNode_51 hl (k := 0) rfl rfl (by decide) rfl (fun ls hl => ?_)
      refine lv_goto (tgt := 35) hx hb d_Li_addNode_54 (by decide) ?_
      exact ih (upd vak0_3 ((a1 * 4) + v2).toNatClampNeg 0) (v2 + 1) _ _ _ _ hP hD hS (lv_sub hl [0, 1, 2] rfl) mk0_0 mk0_1 mk0_2 mk0_3 mk0_4 mk0_5 fr hf
set_option maxHeartbeats 4000000 in
set_option maxRecDepth 100000 in
theorem c_Li_addNode (l : Launch) (D : va_G) (cI cG cZ : ClassId) (ad : Nat → Nat) (B : Nat) (w0 : va_W) (N : Nat) (k0 : Nat) (x0_0 : (Nat → Int32)) (x0_1 : (Nat → Int32)) (x0_2 : (Nat → Int32)) (x0_3 : (Nat → Int32)) (x0_4 : (Nat → Int32)) (x0_5 : Int32) (a1 : Int32) (y0_0 : (Nat → Int32)) (y0_1 : (Nat → Int32)) (y0_2 : (Nat → Int32)) (y0_5 : Int32) (hf : f_Li_addNode N x0_0 x0_1 x0_2 x0_5 a1 = some (y0_0, y0_1, y0_2, y0_5)) (bk0_0 : wc_Li cI cG cZ ad k0 (x0_0, x0_1, x0_2, x0_3, x0_4, x0_5) w0) : Met l y_Li_addNode (.code y_Li_addNode b_Li_addNode 3 none :: hw_G) ({ frames := 1, cells := 0, slots := 0, locals := 22 } : Room) (va_Pc [.ref (ad k0), .int a1] (hw_U D cI cG cZ B w0)) (va_Qv (fun (w1 : va_W) => wc_Li cI cG cZ ad k0 (y0_0, y0_1, y0_2, x0_3, x0_4, y0_5) w1 ∧ (∀ j : Nat, (j < k0 ∨ k0 + 6 ≤ j) → w1[j]? = w0[j]?)) (hw_B D B) (fun q : Nat => B ≤ q)) 0 0 (fun q : Nat => B ≤ q) := by
  refine Met.ofW (cc := b_Li_addNode) (maxL := 3) (ret := none) (by decide) rfl ?_
  intro p e s m args below meth c s₁ Bd hml hv
  obtain ⟨rfl, hP, hD, hK, hN⟩ := hv
  have C0 : hw_C p s m meth c b_Li_addNode 3 _ R_Li none := ⟨Bd.exec, Bd.bytes, Bd.returns, hml, findClass_of_methodNamed Bd.named, fun w h => atoms_spec (ws := .code y_Li_addNode b_Li_addNode 3 none :: hw_G) Bd.pre w (List.mem_cons_of_mem _ h), Bd.notSynchronized⟩
  obtain ⟨hx, hb, hr, -, hown, hts, hlocks⟩ := id C0
  have hS : va_S (fun q : Nat => B ≤ q) s.heap s.heap [] := va_S.rf
  have fr : ∀ j : Nat, (j < k0 ∨ k0 + 6 ≤ j) → w0[j]? = w0[j]? := fun j _ => rfl
  have hl := lv_entry ([.ref (ad k0), .int a1]) (n := 3) (Nat.le_of_ble_eq_true rfl)
  rw [lg_entry_eq]
  generalize (lg_sl ([.ref (ad k0), .int a1]) ++ List.replicate (3 - (lg_sl ([.ref (ad k0), .int a1])).length) Slot.unset).toArray = ls at hl ⊢
  have hl : lv_has ls 3 [(0, .ref (ad k0)), (1, .int a1)] := hl
  unfold f_Li_addNode at hf
  obtain ⟨mk0_0, mk0_1, mk0_2, mk0_3, mk0_4, mk0_5⟩ := id bk0_0
  have mk0_0 : w0[k0]? = some (ad k0, .inr (3, [.ref (ad (k0 + 1)), .ref (ad (k0 + 2)), .ref (ad (k0 + 3)), .ref (ad (k0 + 4)), .ref (ad (k0 + 5)), .int x0_5])) := mk0_0
  have mk0_1 : w0[k0 + 1]? = some (ad (k0 + 1), .inl (cI, 30, .inl x0_0)) := mk0_1
  have mk0_2 : w0[k0 + 2]? = some (ad (k0 + 2), .inl (cI, 30, .inl x0_1)) := mk0_2
  have mk0_3 : w0[k0 + 3]? = some (ad (k0 + 3), .inl (cI, 120, .inl x0_2)) := mk0_3
  have mk0_4 : w0[k0 + 4]? = some (ad (k0 + 4), .inl (cI, 840, .inl x0_3)) := mk0_4
  have mk0_5 : w0[k0 + 5]? = some (ad (k0 + 5), .inl (cI, 30, .inl x0_4)) := mk0_5
  refine lv_aload_n hx hb d_Li_addNode_0 rfl (lv_at hl 0 rfl) ?_
  refine lv_dup hx hb d_Li_addNode_1 rfl ?_
  refine va_get (D := D) (ci := 3) (v := .int x0_5) (C := R_Li) (T := F_Li) (N := 6) hx hb hts i_Li hown hK hP (k0) mk0_0 rfl 5 (by decide) (hts _ iw_58) (fun _ h9 => h9) rfl d_Li_addNode_2 ?_
  refine lv_iconst (v := 1) hx hb d_Li_addNode_5 (by decide) ?_
  refine lv_iadd hx hb d_Li_addNode_6 ?_
  refine va_put (D := D) (ci := 3) (v := .int (x0_5 + 1)) (ty := .int) (C := R_Li) (T := F_Li) (N := 6) hx hb hts i_Li t_Li t_Li_ok n_Li hown hK hP hD hS (k0) mk0_0 rfl 5 (by decide) (hts _ iw_58) (fun _ h9 => h9) rfl (by decide +kernel) rfl rfl (Nat.le_of_ble_eq_true rfl) d_Li_addNode_7 (fun H locs hP hD hS => ?_)
  obtain ⟨w1, hP, hD, hne, heq⟩ := hs_up hP hD mk0_0
  have mk0_0 : w1[k0]? = some (ad k0, .inr (3, [.ref (ad (k0 + 1)), .ref (ad (k0 + 2)), .ref (ad (k0 + 3)), .ref (ad (k0 + 4)), .ref (ad (k0 + 5)), .int (x0_5 + 1)])) := heq
  have mk0_1 : w1[k0 + 1]? = some (ad (k0 + 1), .inl (cI, 30, .inl x0_0)) := (hne _ (by omega)).trans mk0_1
  have mk0_2 : w1[k0 + 2]? = some (ad (k0 + 2), .inl (cI, 30, .inl x0_1)) := (hne _ (by omega)).trans mk0_2
  have mk0_3 : w1[k0 + 3]? = some (ad (k0 + 3), .inl (cI, 120, .inl x0_2)) := (hne _ (by omega)).trans mk0_3
  have mk0_4 : w1[k0 + 4]? = some (ad (k0 + 4), .inl (cI, 840, .inl x0_3)) := (hne _ (by omega)).trans mk0_4
  have mk0_5 : w1[k0 + 5]? = some (ad (k0 + 5), .inl (cI, 30, .inl x0_4)) := (hne _ (by omega)).trans mk0_5
  have fr : ∀ j : Nat, (j < k0 ∨ k0 + 6 ≤ j) → w1[j]? = w0[j]? := fun j o0 => (hne j (by omega)).trans (fr j o0)
  refine lv_aload_n hx hb d_Li_addNode_10 rfl (lv_at hl 0 rfl) ?_
  refine va_get (D := D) (ci := 3) (v := .ref (ad (k0 + 1))) (C := R_Li) (T := F_Li) (N := 6) hx hb hts i_Li hown hK hP (k0) mk0_0 rfl 0 (by decide) (hts _ iw_53) (fun _ h9 => h9) rfl d_Li_addNode_11 ?_
  refine lv_iload_n hx hb d_Li_addNode_14 rfl (lv_at hl 1 rfl) ?_
  refine lv_aload_n hx hb d_Li_addNode_15 rfl (lv_at hl 0 rfl) ?_
  refine va_get (D := D) (ci := 3) (v := .int (x0_5 + 1)) (C := R_Li) (T := F_Li) (N := 6) hx hb hts i_Li hown hK hP (k0) mk0_0 rfl 5 (by decide) (hts _ iw_58) (fun _ h9 => h9) rfl d_Li_addNode_16 ?_
  obtain ⟨z2, hf⟩ := g_atE hf
  refine va_iast hx hb hK hP hD hS (k0 + 1) 0 mk0_1 rfl z2 d_Li_addNode_19 (fun H locs hP hD hS => ?_)
  obtain ⟨w3, hP, hD, hne, heq⟩ := hs_up hP hD mk0_1
  have mk0_1 : w3[k0 + 1]? = some (ad (k0 + 1), .inl (cI, 30, .inl (upd x0_0 a1.toNatClampNeg (x0_5 + 1)))) := heq
  have mk0_0 : w3[k0]? = some (ad k0, .inr (3, [.ref (ad (k0 + 1)), .ref (ad (k0 + 2)), .ref (ad (k0 + 3)), .ref (ad (k0 + 4)), .ref (ad (k0 + 5)), .int (x0_5 + 1)])) := (hne _ (by omega)).trans mk0_0
  have mk0_2 : w3[k0 + 2]? = some (ad (k0 + 2), .inl (cI, 30, .inl x0_1)) := (hne _ (by omega)).trans mk0_2
  have mk0_3 : w3[k0 + 3]? = some (ad (k0 + 3), .inl (cI, 120, .inl x0_2)) := (hne _ (by omega)).trans mk0_3
  have mk0_4 : w3[k0 + 4]? = some (ad (k0 + 4), .inl (cI, 840, .inl x0_3)) := (hne _ (by omega)).trans mk0_4
  have mk0_5 : w3[k0 + 5]? = some (ad (k0 + 5), .inl (cI, 30, .inl x0_4)) := (hne _ (by omega)).trans mk0_5
  have fr : ∀ j : Nat, (j < k0 ∨ k0 + 6 ≤ j) → w3[j]? = w0[j]? := fun j o0 => (hne j (by omega)).trans (fr j o0)
  refine lv_aload_n hx hb d_Li_addNode_20 rfl (lv_at hl 0 rfl) ?_
  refine va_get (D := D) (ci := 3) (v := .ref (ad (k0 + 2))) (C := R_Li) (T := F_Li) (N := 6) hx hb hts i_Li hown hK hP (k0) mk0_0 rfl 1 (by decide) (hts _ iw_54) (fun _ h9 => h9) rfl d_Li_addNode_21 ?_
  refine lv_iload_n hx hb d_Li_addNode_24 rfl (lv_at hl 1 rfl) ?_
  refine lv_aload_n hx hb d_Li_addNode_25 rfl (lv_at hl 0 rfl) ?_
  refine va_get (D := D) (ci := 3) (v := .int (x0_5 + 1)) (C := R_Li) (T := F_Li) (N := 6) hx hb hts i_Li hown hK hP (k0) mk0_0 rfl 5 (by decide) (hts _ iw_58) (fun _ h9 => h9) rfl d_Li_addNode_26 ?_
  obtain ⟨p4, hp4, hf⟩ := g_bd hf
  refine hw_ci0 (va_runS (As := [.int (x0_5 + 1)]) (rest := [.int a1, .ref (ad (k0 + 2))]) ⟨hx, hb, hml, hown, hts⟩ (c_Li_levelOf l D cI cG cZ ad B w3 N (x0_5 + 1) p4 hp4) (va_cwS 1 hts (hw_gS iw_208 gs_Li_levelOf) rfl rfl rfl (by decide +kernel) ⟨Nat.le_of_ble_eq_true rfl, Nat.le_of_ble_eq_true rfl⟩) ⟨hw_blind, hw_go hP hD hK hN⟩ rfl rfl hl.1 rfl (lv_room (Nat.le_of_ble_eq_true rfl)) d_Li_addNode_29 ⟨Nat.zero_le _, Nat.zero_le _⟩) hS (fun H locs hP hD hS => ?_)
  obtain ⟨z5, hf⟩ := g_atE hf
  refine va_iast hx hb hK hP hD hS (k0 + 2) 0 mk0_2 rfl z5 d_Li_addNode_32 (fun H locs hP hD hS => ?_)
  obtain ⟨w6, hP, hD, hne, heq⟩ := hs_up hP hD mk0_2
  have mk0_2 : w6[k0 + 2]? = some (ad (k0 + 2), .inl (cI, 30, .inl (upd x0_1 a1.toNatClampNeg p4))) := heq
  have mk0_0 : w6[k0]? = some (ad k0, .inr (3, [.ref (ad (k0 + 1)), .ref (ad (k0 + 2)), .ref (ad (k0 + 3)), .ref (ad (k0 + 4)), .ref (ad (k0 + 5)), .int (x0_5 + 1)])) := (hne _ (by omega)).trans mk0_0
  have mk0_1 : w6[k0 + 1]? = some (ad (k0 + 1), .inl (cI, 30, .inl (upd x0_0 a1.toNatClampNeg (x0_5 + 1)))) := (hne _ (by omega)).trans mk0_1
  have mk0_3 : w6[k0 + 3]? = some (ad (k0 + 3), .inl (cI, 120, .inl x0_2)) := (hne _ (by omega)).trans mk0_3
  have mk0_4 : w6[k0 + 4]? = some (ad (k0 + 4), .inl (cI, 840, .inl x0_3)) := (hne _ (by omega)).trans mk0_4
  have mk0_5 : w6[k0 + 5]? = some (ad (k0 + 5), .inl (cI, 30, .inl x0_4)) := (hne _ (by omega)).trans mk0_5
  have fr : ∀ j : Nat, (j < k0 ∨ k0 + 6 ≤ j) → w6[j]? = w0[j]? := fun j o0 => (hne j (by omega)).trans (fr j o0)
  refine lv_iconst (v := 0) hx hb d_Li_addNode_33 (by decide) ?_
  refine lv_istore_n (lv' := [(2, .int 0), (0, .ref (ad k0)), (1, .int a1)]) hx hb d_Li_addNode_34 rfl hl (by decide) rfl (fun ls hl => ?_)
  exact wl_Li_addNode_35 (ad := ad) C0 hK hN x0_0 x0_1 x0_3 x0_4 x0_5 a1 p4 x0_2 y0_0 y0_1 y0_2 y0_5 N x0_2 0 _ _ _ _ hP hD hS (lv_sub hl [0, 1, 2] rfl) mk0_0 mk0_1 mk0_2 mk0_3 mk0_4 mk0_5 fr hf
set_option maxHeartbeats 4000000 in
set_option maxRecDepth 100000 in
theorem c_Li_level (l : Launch) (D : va_G) (cI cG cZ : ClassId) (ad : Nat → Nat) (B : Nat) (w0 : va_W) (N : Nat) (k0 : Nat) (x0_0 : (Nat → Int32)) (x0_1 : (Nat → Int32)) (x0_2 : (Nat → Int32)) (x0_3 : (Nat → Int32)) (x0_4 : (Nat → Int32)) (x0_5 : Int32) (a1 : Int32) (r : Int32) (hf : f_Li_level N x0_1 a1 = some r) (bk0_0 : wc_Li cI cG cZ ad k0 (x0_0, x0_1, x0_2, x0_3, x0_4, x0_5) w0) : Met l y_Li_level (.code y_Li_level b_Li_level 2 (some .int) :: hw_G) ({ frames := 0, cells := 0, slots := 0, locals := 0 } : Room) (va_Pc [.ref (ad k0), .int a1] (hw_U D cI cG cZ B w0)) (va_Qi (fun (r1 : Int32) (w1 : va_W) => r1 = r ∧ w1 = w0) (hw_B D B) (fun q : Nat => B ≤ q)) 0 0 (fun q : Nat => B ≤ q) := by
  refine Met.ofW (cc := b_Li_level) (maxL := 2) (ret := (some .int)) (by decide) rfl ?_
  intro p e s m args below meth c s₁ Bd hml hv
  obtain ⟨rfl, hP, hD, hK, hN⟩ := hv
  have C0 : hw_C p s m meth c b_Li_level 2 _ R_Li (some .int) := ⟨Bd.exec, Bd.bytes, Bd.returns, hml, findClass_of_methodNamed Bd.named, fun w h => atoms_spec (ws := .code y_Li_level b_Li_level 2 (some .int) :: hw_G) Bd.pre w (List.mem_cons_of_mem _ h), Bd.notSynchronized⟩
  obtain ⟨hx, hb, hr, -, hown, hts, hlocks⟩ := id C0
  have hS : va_S (fun q : Nat => B ≤ q) s.heap s.heap [] := va_S.rf
  have fr : w0 = w0 := rfl
  have hl := lv_entry ([.ref (ad k0), .int a1]) (n := 2) (Nat.le_of_ble_eq_true rfl)
  rw [lg_entry_eq]
  generalize (lg_sl ([.ref (ad k0), .int a1]) ++ List.replicate (2 - (lg_sl ([.ref (ad k0), .int a1])).length) Slot.unset).toArray = ls at hl ⊢
  have hl : lv_has ls 2 [(0, .ref (ad k0)), (1, .int a1)] := hl
  unfold f_Li_level at hf
  obtain ⟨mk0_0, mk0_1, mk0_2, mk0_3, mk0_4, mk0_5⟩ := id bk0_0
  have mk0_0 : w0[k0]? = some (ad k0, .inr (3, [.ref (ad (k0 + 1)), .ref (ad (k0 + 2)), .ref (ad (k0 + 3)), .ref (ad (k0 + 4)), .ref (ad (k0 + 5)), .int x0_5])) := mk0_0
  have mk0_1 : w0[k0 + 1]? = some (ad (k0 + 1), .inl (cI, 30, .inl x0_0)) := mk0_1
  have mk0_2 : w0[k0 + 2]? = some (ad (k0 + 2), .inl (cI, 30, .inl x0_1)) := mk0_2
  have mk0_3 : w0[k0 + 3]? = some (ad (k0 + 3), .inl (cI, 120, .inl x0_2)) := mk0_3
  have mk0_4 : w0[k0 + 4]? = some (ad (k0 + 4), .inl (cI, 840, .inl x0_3)) := mk0_4
  have mk0_5 : w0[k0 + 5]? = some (ad (k0 + 5), .inl (cI, 30, .inl x0_4)) := mk0_5
  refine lv_aload_n hx hb d_Li_level_0 rfl (lv_at hl 0 rfl) ?_
  refine va_get (D := D) (ci := 3) (v := .ref (ad (k0 + 2))) (C := R_Li) (T := F_Li) (N := 6) hx hb hts i_Li hown hK hP (k0) mk0_0 rfl 1 (by decide) (hts _ iw_54) (fun _ h9 => h9) rfl d_Li_level_1 ?_
  refine lv_iload_n hx hb d_Li_level_4 rfl (lv_at hl 1 rfl) ?_
  obtain ⟨z1, hf⟩ := g_atE hf
  refine va_iald hx hb hK hP (k0 + 2) 0 mk0_2 rfl z1 d_Li_level_5 ?_
  have bk0_0 : wc_Li cI cG cZ ad (k0) (x0_0, x0_1, x0_2, x0_3, x0_4, x0_5) w0 := ⟨mk0_0, mk0_1, mk0_2, mk0_3, mk0_4, mk0_5⟩
  have e0 := Option.some.inj hf
  exact W.iret (v := x0_1 a1.toNatClampNeg) hx hb hr (fun t ht hW => ⟨⟨x0_1 a1.toNatClampNeg, w0, rfl, ⟨e0, fr⟩, by rw [ht]; exact hP, hD⟩, hS.F ht⟩) hS.2.2 d_Li_level_6
set_option maxHeartbeats 4000000 in
set_option maxRecDepth 100000 in
theorem c_Li_degree (l : Launch) (D : va_G) (cI cG cZ : ClassId) (ad : Nat → Nat) (B : Nat) (w0 : va_W) (N : Nat) (k0 : Nat) (x0_0 : (Nat → Int32)) (x0_1 : (Nat → Int32)) (x0_2 : (Nat → Int32)) (x0_3 : (Nat → Int32)) (x0_4 : (Nat → Int32)) (x0_5 : Int32) (a1 : Int32) (a2 : Int32) (r : Int32) (hf : f_Li_degree N x0_2 a1 a2 = some r) (bk0_0 : wc_Li cI cG cZ ad k0 (x0_0, x0_1, x0_2, x0_3, x0_4, x0_5) w0) : Met l y_Li_degree (.code y_Li_degree b_Li_degree 3 (some .int) :: hw_G) ({ frames := 0, cells := 0, slots := 0, locals := 0 } : Room) (va_Pc [.ref (ad k0), .int a1, .int a2] (hw_U D cI cG cZ B w0)) (va_Qi (fun (r1 : Int32) (w1 : va_W) => r1 = r ∧ w1 = w0) (hw_B D B) (fun q : Nat => B ≤ q)) 0 0 (fun q : Nat => B ≤ q) := by
  refine Met.ofW (cc := b_Li_degree) (maxL := 3) (ret := (some .int)) (by decide) rfl ?_
  intro p e s m args below meth c s₁ Bd hml hv
  obtain ⟨rfl, hP, hD, hK, hN⟩ := hv
  have C0 : hw_C p s m meth c b_Li_degree 3 _ R_Li (some .int) := ⟨Bd.exec, Bd.bytes, Bd.returns, hml, findClass_of_methodNamed Bd.named, fun w h => atoms_spec (ws := .code y_Li_degree b_Li_degree 3 (some .int) :: hw_G) Bd.pre w (List.mem_cons_of_mem _ h), Bd.notSynchronized⟩
  obtain ⟨hx, hb, hr, -, hown, hts, hlocks⟩ := id C0
  have hS : va_S (fun q : Nat => B ≤ q) s.heap s.heap [] := va_S.rf
  have fr : w0 = w0 := rfl
  have hl := lv_entry ([.ref (ad k0), .int a1, .int a2]) (n := 3) (Nat.le_of_ble_eq_true rfl)
  rw [lg_entry_eq]
  generalize (lg_sl ([.ref (ad k0), .int a1, .int a2]) ++ List.replicate (3 - (lg_sl ([.ref (ad k0), .int a1, .int a2])).length) Slot.unset).toArray = ls at hl ⊢
  have hl : lv_has ls 3 [(0, .ref (ad k0)), (1, .int a1), (2, .int a2)] := hl
  unfold f_Li_degree at hf
  obtain ⟨mk0_0, mk0_1, mk0_2, mk0_3, mk0_4, mk0_5⟩ := id bk0_0
  have mk0_0 : w0[k0]? = some (ad k0, .inr (3, [.ref (ad (k0 + 1)), .ref (ad (k0 + 2)), .ref (ad (k0 + 3)), .ref (ad (k0 + 4)), .ref (ad (k0 + 5)), .int x0_5])) := mk0_0
  have mk0_1 : w0[k0 + 1]? = some (ad (k0 + 1), .inl (cI, 30, .inl x0_0)) := mk0_1
  have mk0_2 : w0[k0 + 2]? = some (ad (k0 + 2), .inl (cI, 30, .inl x0_1)) := mk0_2
  have mk0_3 : w0[k0 + 3]? = some (ad (k0 + 3), .inl (cI, 120, .inl x0_2)) := mk0_3
  have mk0_4 : w0[k0 + 4]? = some (ad (k0 + 4), .inl (cI, 840, .inl x0_3)) := mk0_4
  have mk0_5 : w0[k0 + 5]? = some (ad (k0 + 5), .inl (cI, 30, .inl x0_4)) := mk0_5
  refine lv_aload_n hx hb d_Li_degree_0 rfl (lv_at hl 0 rfl) ?_
  refine va_get (D := D) (ci := 3) (v := .ref (ad (k0 + 3))) (C := R_Li) (T := F_Li) (N := 6) hx hb hts i_Li hown hK hP (k0) mk0_0 rfl 2 (by decide) (hts _ iw_55) (fun _ h9 => h9) rfl d_Li_degree_1 ?_
  refine lv_iload_n hx hb d_Li_degree_4 rfl (lv_at hl 1 rfl) ?_
  refine lv_iconst (v := 4) hx hb d_Li_degree_5 (by decide) ?_
  refine lv_imul hx hb d_Li_degree_6 ?_
  refine lv_iload_n hx hb d_Li_degree_7 rfl (lv_at hl 2 rfl) ?_
  refine lv_iadd hx hb d_Li_degree_8 ?_
  obtain ⟨z1, hf⟩ := g_atE hf
  refine va_iald hx hb hK hP (k0 + 3) 0 mk0_3 rfl z1 d_Li_degree_9 ?_
  have bk0_0 : wc_Li cI cG cZ ad (k0) (x0_0, x0_1, x0_2, x0_3, x0_4, x0_5) w0 := ⟨mk0_0, mk0_1, mk0_2, mk0_3, mk0_4, mk0_5⟩
  have e0 := Option.some.inj hf
  exact W.iret (v := x0_2 ((a1 * 4) + a2).toNatClampNeg) hx hb hr (fun t ht hW => ⟨⟨x0_2 ((a1 * 4) + a2).toNatClampNeg, w0, rfl, ⟨e0, fr⟩, by rw [ht]; exact hP, hD⟩, hS.F ht⟩) hS.2.2 d_Li_degree_10
set_option maxHeartbeats 4000000 in
set_option maxRecDepth 100000 in
theorem c_Li_linked (l : Launch) (D : va_G) (cI cG cZ : ClassId) (ad : Nat → Nat) (B : Nat) (w0 : va_W) (N : Nat) (k0 : Nat) (x0_0 : (Nat → Int32)) (x0_1 : (Nat → Int32)) (x0_2 : (Nat → Int32)) (x0_3 : (Nat → Int32)) (x0_4 : (Nat → Int32)) (x0_5 : Int32) (a1 : Int32) (a2 : Int32) (a3 : Int32) (r : Int32) (hf : f_Li_linked N x0_3 a1 a2 a3 = some r) (bk0_0 : wc_Li cI cG cZ ad k0 (x0_0, x0_1, x0_2, x0_3, x0_4, x0_5) w0) : Met l y_Li_linked (.code y_Li_linked b_Li_linked 4 (some .int) :: hw_G) ({ frames := 0, cells := 0, slots := 0, locals := 0 } : Room) (va_Pc [.ref (ad k0), .int a1, .int a2, .int a3] (hw_U D cI cG cZ B w0)) (va_Qi (fun (r1 : Int32) (w1 : va_W) => r1 = r ∧ w1 = w0) (hw_B D B) (fun q : Nat => B ≤ q)) 0 0 (fun q : Nat => B ≤ q) := by
  refine Met.ofW (cc := b_Li_linked) (maxL := 4) (ret := (some .int)) (by decide) rfl ?_
  intro p e s m args below meth c s₁ Bd hml hv
  obtain ⟨rfl, hP, hD, hK, hN⟩ := hv
  have C0 : hw_C p s m meth c b_Li_linked 4 _ R_Li (some .int) := ⟨Bd.exec, Bd.bytes, Bd.returns, hml, findClass_of_methodNamed Bd.named, fun w h => atoms_spec (ws := .code y_Li_linked b_Li_linked 4 (some .int) :: hw_G) Bd.pre w (List.mem_cons_of_mem _ h), Bd.notSynchronized⟩
  obtain ⟨hx, hb, hr, -, hown, hts, hlocks⟩ := id C0
  have hS : va_S (fun q : Nat => B ≤ q) s.heap s.heap [] := va_S.rf
  have fr : w0 = w0 := rfl
  have hl := lv_entry ([.ref (ad k0), .int a1, .int a2, .int a3]) (n := 4) (Nat.le_of_ble_eq_true rfl)
  rw [lg_entry_eq]
  generalize (lg_sl ([.ref (ad k0), .int a1, .int a2, .int a3]) ++ List.replicate (4 - (lg_sl ([.ref (ad k0), .int a1, .int a2, .int a3])).length) Slot.unset).toArray = ls at hl ⊢
  have hl : lv_has ls 4 [(0, .ref (ad k0)), (1, .int a1), (2, .int a2), (3, .int a3)] := hl
  unfold f_Li_linked at hf
  obtain ⟨mk0_0, mk0_1, mk0_2, mk0_3, mk0_4, mk0_5⟩ := id bk0_0
  have mk0_0 : w0[k0]? = some (ad k0, .inr (3, [.ref (ad (k0 + 1)), .ref (ad (k0 + 2)), .ref (ad (k0 + 3)), .ref (ad (k0 + 4)), .ref (ad (k0 + 5)), .int x0_5])) := mk0_0
  have mk0_1 : w0[k0 + 1]? = some (ad (k0 + 1), .inl (cI, 30, .inl x0_0)) := mk0_1
  have mk0_2 : w0[k0 + 2]? = some (ad (k0 + 2), .inl (cI, 30, .inl x0_1)) := mk0_2
  have mk0_3 : w0[k0 + 3]? = some (ad (k0 + 3), .inl (cI, 120, .inl x0_2)) := mk0_3
  have mk0_4 : w0[k0 + 4]? = some (ad (k0 + 4), .inl (cI, 840, .inl x0_3)) := mk0_4
  have mk0_5 : w0[k0 + 5]? = some (ad (k0 + 5), .inl (cI, 30, .inl x0_4)) := mk0_5
  refine lv_aload_n hx hb d_Li_linked_0 rfl (lv_at hl 0 rfl) ?_
  refine va_get (D := D) (ci := 3) (v := .ref (ad (k0 + 4))) (C := R_Li) (T := F_Li) (N := 6) hx hb hts i_Li hown hK hP (k0) mk0_0 rfl 3 (by decide) (hts _ iw_56) (fun _ h9 => h9) rfl d_Li_linked_1 ?_
  refine lv_iload_n hx hb d_Li_linked_4 rfl (lv_at hl 1 rfl) ?_
  refine lv_iconst (v := 4) hx hb d_Li_linked_5 (by decide) ?_
  refine lv_imul hx hb d_Li_linked_6 ?_
  refine lv_iload_n hx hb d_Li_linked_7 rfl (lv_at hl 2 rfl) ?_
  refine lv_iadd hx hb d_Li_linked_8 ?_
  refine lv_bipush (v := 7) hx hb d_Li_linked_9 (by decide) ?_
  refine lv_imul hx hb d_Li_linked_11 ?_
  refine lv_iload_n hx hb d_Li_linked_12 rfl (lv_at hl 3 rfl) ?_
  refine lv_iadd hx hb d_Li_linked_13 ?_
  obtain ⟨z1, hf⟩ := g_atE hf
  refine va_iald hx hb hK hP (k0 + 4) 0 mk0_4 rfl z1 d_Li_linked_14 ?_
  have bk0_0 : wc_Li cI cG cZ ad (k0) (x0_0, x0_1, x0_2, x0_3, x0_4, x0_5) w0 := ⟨mk0_0, mk0_1, mk0_2, mk0_3, mk0_4, mk0_5⟩
  have e0 := Option.some.inj hf
  exact W.iret (v := x0_3 ((((a1 * 4) + a2) * 7) + a3).toNatClampNeg) hx hb hr (fun t ht hW => ⟨⟨x0_3 ((((a1 * 4) + a2) * 7) + a3).toNatClampNeg, w0, rfl, ⟨e0, fr⟩, by rw [ht]; exact hP, hD⟩, hS.F ht⟩) hS.2.2 d_Li_linked_15
set_option maxHeartbeats 4000000 in
set_option maxRecDepth 100000 in
theorem c_Li_append (l : Launch) (D : va_G) (cI cG cZ : ClassId) (ad : Nat → Nat) (B : Nat) (w0 : va_W) (N : Nat) (k0 : Nat) (x0_0 : (Nat → Int32)) (x0_1 : (Nat → Int32)) (x0_2 : (Nat → Int32)) (x0_3 : (Nat → Int32)) (x0_4 : (Nat → Int32)) (x0_5 : Int32) (a1 : Int32) (a2 : Int32) (a3 : Int32) (y0_2 : (Nat → Int32)) (y0_3 : (Nat → Int32)) (hf : f_Li_append N x0_2 x0_3 a1 a2 a3 = some (y0_2, y0_3)) (bk0_0 : wc_Li cI cG cZ ad k0 (x0_0, x0_1, x0_2, x0_3, x0_4, x0_5) w0) : Met l y_Li_append (.code y_Li_append b_Li_append 5 none :: hw_G) ({ frames := 0, cells := 0, slots := 0, locals := 0 } : Room) (va_Pc [.ref (ad k0), .int a1, .int a2, .int a3] (hw_U D cI cG cZ B w0)) (va_Qv (fun (w1 : va_W) => wc_Li cI cG cZ ad k0 (x0_0, x0_1, y0_2, y0_3, x0_4, x0_5) w1 ∧ (∀ j : Nat, (j < k0 ∨ k0 + 6 ≤ j) → w1[j]? = w0[j]?)) (hw_B D B) (fun q : Nat => B ≤ q)) 0 0 (fun q : Nat => B ≤ q) := by
  refine Met.ofW (cc := b_Li_append) (maxL := 5) (ret := none) (by decide) rfl ?_
  intro p e s m args below meth c s₁ Bd hml hv
  obtain ⟨rfl, hP, hD, hK, hN⟩ := hv
  have C0 : hw_C p s m meth c b_Li_append 5 _ R_Li none := ⟨Bd.exec, Bd.bytes, Bd.returns, hml, findClass_of_methodNamed Bd.named, fun w h => atoms_spec (ws := .code y_Li_append b_Li_append 5 none :: hw_G) Bd.pre w (List.mem_cons_of_mem _ h), Bd.notSynchronized⟩
  obtain ⟨hx, hb, hr, -, hown, hts, hlocks⟩ := id C0
  have hS : va_S (fun q : Nat => B ≤ q) s.heap s.heap [] := va_S.rf
  have fr : ∀ j : Nat, (j < k0 ∨ k0 + 6 ≤ j) → w0[j]? = w0[j]? := fun j _ => rfl
  have hl := lv_entry ([.ref (ad k0), .int a1, .int a2, .int a3]) (n := 5) (Nat.le_of_ble_eq_true rfl)
  rw [lg_entry_eq]
  generalize (lg_sl ([.ref (ad k0), .int a1, .int a2, .int a3]) ++ List.replicate (5 - (lg_sl ([.ref (ad k0), .int a1, .int a2, .int a3])).length) Slot.unset).toArray = ls at hl ⊢
  have hl : lv_has ls 5 [(0, .ref (ad k0)), (1, .int a1), (2, .int a2), (3, .int a3)] := hl
  unfold f_Li_append at hf
  obtain ⟨mk0_0, mk0_1, mk0_2, mk0_3, mk0_4, mk0_5⟩ := id bk0_0
  have mk0_0 : w0[k0]? = some (ad k0, .inr (3, [.ref (ad (k0 + 1)), .ref (ad (k0 + 2)), .ref (ad (k0 + 3)), .ref (ad (k0 + 4)), .ref (ad (k0 + 5)), .int x0_5])) := mk0_0
  have mk0_1 : w0[k0 + 1]? = some (ad (k0 + 1), .inl (cI, 30, .inl x0_0)) := mk0_1
  have mk0_2 : w0[k0 + 2]? = some (ad (k0 + 2), .inl (cI, 30, .inl x0_1)) := mk0_2
  have mk0_3 : w0[k0 + 3]? = some (ad (k0 + 3), .inl (cI, 120, .inl x0_2)) := mk0_3
  have mk0_4 : w0[k0 + 4]? = some (ad (k0 + 4), .inl (cI, 840, .inl x0_3)) := mk0_4
  have mk0_5 : w0[k0 + 5]? = some (ad (k0 + 5), .inl (cI, 30, .inl x0_4)) := mk0_5
  refine lv_iload_n hx hb d_Li_append_0 rfl (lv_at hl 1 rfl) ?_
  refine lv_iconst (v := 4) hx hb d_Li_append_1 (by decide) ?_
  refine lv_imul hx hb d_Li_append_2 ?_
  refine lv_iload_n hx hb d_Li_append_3 rfl (lv_at hl 2 rfl) ?_
  refine lv_iadd hx hb d_Li_append_4 ?_
  refine lv_istore (lv' := [(4, .int ((a1 * 4) + a2)), (0, .ref (ad k0)), (1, .int a1), (2, .int a2), (3, .int a3)]) hx hb d_Li_append_5 hl (by decide) rfl (fun ls hl => ?_)
  refine lv_aload_n hx hb d_Li_append_7 rfl (lv_at hl 1 rfl) ?_
  refine va_get (D := D) (ci := 3) (v := .ref (ad (k0 + 3))) (C := R_Li) (T := F_Li) (N := 6) hx hb hts i_Li hown hK hP (k0) mk0_0 rfl 2 (by decide) (hts _ iw_55) (fun _ h9 => h9) rfl d_Li_append_8 ?_
  refine lv_iload hx hb d_Li_append_11 (lv_at hl 0 rfl) ?_
  obtain ⟨z1, hf⟩ := g_atE hf
  refine va_iald hx hb hK hP (k0 + 3) 0 mk0_3 rfl z1 d_Li_append_13 ?_
  refine lv_bipush (v := 7) hx hb d_Li_append_14 (by decide) ?_
  refine lv_icmp_ge (tgt := 49) hx hb d_Li_append_16 (by decide) (fun c2 => ?_) (fun c2 => ?_)
  · rw [if_pos c2] at hf
    have bk0_0 : wc_Li cI cG cZ ad (k0) (x0_0, x0_1, x0_2, x0_3, x0_4, x0_5) w0 := ⟨mk0_0, mk0_1, mk0_2, mk0_3, mk0_4, mk0_5⟩
    have he := Option.some.inj hf
    obtain ⟨e0, e1⟩ := Prod.mk.inj he
    have f0 : wc_Li cI cG cZ ad (k0) (x0_0, x0_1, y0_2, y0_3, x0_4, x0_5) w0 := by rw [← e0, ← e1]; exact bk0_0
    exact W.vret hx hb hr (fun t ht hW => ⟨⟨w0, rfl, ⟨f0, fr⟩, by rw [ht]; exact hP, hD⟩, hS.F ht⟩) hS.2.2 d_Li_append_49
  · rw [if_neg c2] at hf
    refine lv_aload_n hx hb d_Li_append_19 rfl (lv_at hl 1 rfl) ?_
    refine va_get (D := D) (ci := 3) (v := .ref (ad (k0 + 4))) (C := R_Li) (T := F_Li) (N := 6) hx hb hts i_Li hown hK hP (k0) mk0_0 rfl 3 (by decide) (hts _ iw_56) (fun _ h9 => h9) rfl d_Li_append_20 ?_
    refine lv_iload hx hb d_Li_append_23 (lv_at hl 0 rfl) ?_
    refine lv_bipush (v := 7) hx hb d_Li_append_25 (by decide) ?_
    refine lv_imul hx hb d_Li_append_27 ?_
    refine lv_aload_n hx hb d_Li_append_28 rfl (lv_at hl 1 rfl) ?_
    refine va_get (D := D) (ci := 3) (v := .ref (ad (k0 + 3))) (C := R_Li) (T := F_Li) (N := 6) hx hb hts i_Li hown hK hP (k0) mk0_0 rfl 2 (by decide) (hts _ iw_55) (fun _ h9 => h9) rfl d_Li_append_29 ?_
    refine lv_iload hx hb d_Li_append_32 (lv_at hl 0 rfl) ?_
    obtain ⟨z3, hf⟩ := g_atE hf
    refine va_iald hx hb hK hP (k0 + 3) 0 mk0_3 rfl z3 d_Li_append_34 ?_
    refine lv_iadd hx hb d_Li_append_35 ?_
    refine lv_iload_n hx hb d_Li_append_36 rfl (lv_at hl 4 rfl) ?_
    obtain ⟨z4, hf⟩ := g_atE hf
    refine va_iast hx hb hK hP hD hS (k0 + 4) 0 mk0_4 rfl z4 d_Li_append_37 (fun H locs hP hD hS => ?_)
    obtain ⟨w5, hP, hD, hne, heq⟩ := hs_up hP hD mk0_4
    have mk0_4 : w5[k0 + 4]? = some (ad (k0 + 4), .inl (cI, 840, .inl (upd x0_3 ((((a1 * 4) + a2) * 7) + (x0_2 ((a1 * 4) + a2).toNatClampNeg)).toNatClampNeg a3))) := heq
    have mk0_0 : w5[k0]? = some (ad k0, .inr (3, [.ref (ad (k0 + 1)), .ref (ad (k0 + 2)), .ref (ad (k0 + 3)), .ref (ad (k0 + 4)), .ref (ad (k0 + 5)), .int x0_5])) := (hne _ (by omega)).trans mk0_0
    have mk0_1 : w5[k0 + 1]? = some (ad (k0 + 1), .inl (cI, 30, .inl x0_0)) := (hne _ (by omega)).trans mk0_1
    have mk0_2 : w5[k0 + 2]? = some (ad (k0 + 2), .inl (cI, 30, .inl x0_1)) := (hne _ (by omega)).trans mk0_2
    have mk0_3 : w5[k0 + 3]? = some (ad (k0 + 3), .inl (cI, 120, .inl x0_2)) := (hne _ (by omega)).trans mk0_3
    have mk0_5 : w5[k0 + 5]? = some (ad (k0 + 5), .inl (cI, 30, .inl x0_4)) := (hne _ (by omega)).trans mk0_5
    have fr : ∀ j : Nat, (j < k0 ∨ k0 + 6 ≤ j) → w5[j]? = w0[j]? := fun j o0 => (hne j (by omega)).trans (fr j o0)
    refine lv_aload_n hx hb d_Li_append_38 rfl (lv_at hl 1 rfl) ?_
    refine va_get (D := D) (ci := 3) (v := .ref (ad (k0 + 3))) (C := R_Li) (T := F_Li) (N := 6) hx hb hts i_Li hown hK hP (k0) mk0_0 rfl 2 (by decide) (hts _ iw_55) (fun _ h9 => h9) rfl d_Li_append_39 ?_
    refine lv_iload hx hb d_Li_append_42 (lv_at hl 0 rfl) ?_
    refine lv_dup2_11 hx hb d_Li_append_44 rfl rfl ?_
    obtain ⟨z6, hf⟩ := g_atE hf
    refine va_iald hx hb hK hP (k0 + 3) 0 mk0_3 rfl z6 d_Li_append_45 ?_
    refine lv_iconst (v := 1) hx hb d_Li_append_46 (by decide) ?_
    refine lv_iadd hx hb d_Li_append_47 ?_
    obtain ⟨z7, hf⟩ := g_atE hf
    refine va_iast hx hb hK hP hD hS (k0 + 3) 0 mk0_3 rfl z7 d_Li_append_48 (fun H locs hP hD hS => ?_)
    obtain ⟨w8, hP, hD, hne, heq⟩ := hs_up hP hD mk0_3
    have mk0_3 : w8[k0 + 3]? = some (ad (k0 + 3), .inl (cI, 120, .inl (upd x0_2 ((a1 * 4) + a2).toNatClampNeg ((x0_2 ((a1 * 4) + a2).toNatClampNeg) + 1)))) := heq
    have mk0_0 : w8[k0]? = some (ad k0, .inr (3, [.ref (ad (k0 + 1)), .ref (ad (k0 + 2)), .ref (ad (k0 + 3)), .ref (ad (k0 + 4)), .ref (ad (k0 + 5)), .int x0_5])) := (hne _ (by omega)).trans mk0_0
    have mk0_1 : w8[k0 + 1]? = some (ad (k0 + 1), .inl (cI, 30, .inl x0_0)) := (hne _ (by omega)).trans mk0_1
    have mk0_2 : w8[k0 + 2]? = some (ad (k0 + 2), .inl (cI, 30, .inl x0_1)) := (hne _ (by omega)).trans mk0_2
    have mk0_4 : w8[k0 + 4]? = some (ad (k0 + 4), .inl (cI, 840, .inl (upd x0_3 ((((a1 * 4) + a2) * 7) + (x0_2 ((a1 * 4) + a2).toNatClampNeg)).toNatClampNeg a3))) := (hne _ (by omega)).trans mk0_4
    have mk0_5 : w8[k0 + 5]? = some (ad (k0 + 5), .inl (cI, 30, .inl x0_4)) := (hne _ (by omega)).trans mk0_5
    have fr : ∀ j : Nat, (j < k0 ∨ k0 + 6 ≤ j) → w8[j]? = w0[j]? := fun j o0 => (hne j (by omega)).trans (fr j o0)
    have bk0_0 : wc_Li cI cG cZ ad (k0) (x0_0, x0_1, upd x0_2 ((a1 * 4) + a2).toNatClampNeg ((x0_2 ((a1 * 4) + a2).toNatClampNeg) + 1), upd x0_3 ((((a1 * 4) + a2) * 7) + (x0_2 ((a1 * 4) + a2).toNatClampNeg)).toNatClampNeg a3, x0_4, x0_5) w8 := ⟨mk0_0, mk0_1, mk0_2, mk0_3, mk0_4, mk0_5⟩
    have he := Option.some.inj hf
    obtain ⟨e0, e1⟩ := Prod.mk.inj he
    have f0 : wc_Li cI cG cZ ad (k0) (x0_0, x0_1, y0_2, y0_3, x0_4, x0_5) w8 := by rw [← e0, ← e1]; exact bk0_0
    exact W.vret hx hb hr (fun t ht hW => ⟨⟨w8, rfl, ⟨f0, fr⟩, by rw [ht]; exact hP, hD⟩, hS.F ht⟩) hS.2.2 d_Li_append_49
set_option maxHeartbeats 4000000 in
set_option maxRecDepth 100000 in
theorem wl_Li_replace_14 {p : Program} {l : Launch} {e : Env} {s : State} {m : MethodId} {args : Array Value} {below : List Frame} {meth : Method} {c : Code} {D : va_G} {cI cG cZ : ClassId} {ad : Nat → Nat} {B : Nat} {w0 : va_W} {N : Nat} {k0 : Nat} {k1 : Nat} (C0 : hw_C p s m meth c b_Li_replace 5 args R_Li none) (hK : va_K D classes [(cI, .int), (cG, .array .int), (cZ, .boolean)] s) (hN : hw_N s) (dj0 : k0 + 6 ≤ k1 ∨ k1 + 2 ≤ k0) (x0_0 : (Nat → Int32)) (x0_1 : (Nat → Int32)) (x0_4 : (Nat → Int32)) (x0_5 : Int32) (x1_0 : (Nat → Int32)) (x1_1 : Int32) (x1_2 : Int32) (a1 : Int32) (a2 : Int32) (x0_2 : (Nat → Int32)) (x0_3 : (Nat → Int32)) (y0_2 : (Nat → Int32)) (y0_3 : (Nat → Int32)) : ∀ (n : Nat) (vak0_3 : (Nat → Int32)) (vak0_4 : (Nat → Int32)) (v4 : Int32) (ws : va_W) (H : Heap) (locs : List Loc) (ls : Array Slot), va_P D classes ws H → va_D (fun q : Nat => B ≤ q) ws → va_S (fun q : Nat => B ≤ q) s.heap H locs → lv_has ls 5 [(4, .int v4), (0, .ref (ad k0)), (1, .int a1), (2, .int a2), (3, .ref (ad k1))] → ws[k0]? = some (ad k0, .inr (3, [.ref (ad (k0 + 1)), .ref (ad (k0 + 2)), .ref (ad (k0 + 3)), .ref (ad (k0 + 4)), .ref (ad (k0 + 5)), .int x0_5])) → ws[k0 + 1]? = some (ad (k0 + 1), .inl (cI, 30, .inl x0_0)) → ws[k0 + 2]? = some (ad (k0 + 2), .inl (cI, 30, .inl x0_1)) → ws[k0 + 3]? = some (ad (k0 + 3), .inl (cI, 120, .inl vak0_3)) → ws[k0 + 4]? = some (ad (k0 + 4), .inl (cI, 840, .inl vak0_4)) → ws[k0 + 5]? = some (ad (k0 + 5), .inl (cI, 30, .inl x0_4)) → wc_Ch cI cG cZ ad (k1) (x1_0, x1_1, x1_2) ws → (∀ j : Nat, (j < k0 ∨ k0 + 6 ≤ j) → ws[j]? = w0[j]?) → f_Li_replace_14 N x1_0 x1_1 a1 a2 n vak0_3 vak0_4 v4 = some (y0_2, y0_3) → W p l e ({ frames := 1, cells := 0, slots := 0, locals := 24 } : Room) s m args below meth c H locs 0 0 (MQ below (va_Qv (fun (w1 : va_W) => wc_Li cI cG cZ ad k0 (x0_0, x0_1, y0_2, y0_3, x0_4, x0_5) w1 ∧ (∀ j : Nat, (j < k0 ∨ k0 + 6 ≤ j) → w1[j]? = w0[j]?)) (hw_B D B) (fun q : Nat => B ≤ q)) args s 0 0 (fun q : Nat => B ≤ q)) (F0 m 14 ls []) := by
  obtain ⟨hx, hb, hr, hml, hown, hts, hlocks⟩ := id C0
  intro n
  induction n with
  | zero =>
    intro vak0_3 vak0_4 v4 ws H locs ls hP hD hS hl mk0_0 mk0_1 mk0_2 mk0_3 mk0_4 mk0_5 bk1_0 fr hf
    exact nomatch (show none = some _ from hf)
  | succ n ih =>
    intro vak0_3 vak0_4 v4 ws H locs ls hP hD hS hl mk0_0 mk0_1 mk0_2 mk0_3 mk0_4 mk0_5 bk1_0 fr hf
    rw [f_Li_replace_14] at hf
    refine lv_iload hx hb d_Li_replace_14 (lv_at hl 0 rfl) ?_
    refine lv_aload_n hx hb d_Li_replace_16 rfl (lv_at hl 4 rfl) ?_
    obtain ⟨p3, hp3, hf⟩ := g_bd hf
    refine hw_ci0 (va_runV (As := []) (rest := [.int v4]) ⟨hx, hb, hml, hown, hts⟩ (c_Ch_size l D cI cG cZ ad B ws N k1 x1_0 x1_1 x1_2 p3 hp3 bk1_0) (cwV 0 hts (hw_gV iw_340 gy_Ch_size) rfl rfl rfl (by decide +kernel) ⟨Nat.le_of_ble_eq_true rfl, Nat.le_of_ble_eq_true rfl⟩) ⟨hw_blind, va_recv hK hP (ci := 0) (q0 := k1) rfl bk1_0.1, hw_go hP hD hK hN⟩ rfl rfl hl.1 rfl (lv_room (Nat.le_of_ble_eq_true rfl)) d_Li_replace_17 ⟨Nat.zero_le _, Nat.zero_le _⟩) hS (fun H locs hP hD hS => ?_)
    refine lv_icmp_ge (tgt := 41) hx hb d_Li_replace_20 (by decide) (fun c4 => ?_) (fun c4 => ?_)
    · rw [if_pos c4] at hf
      have bk0_0 : wc_Li cI cG cZ ad (k0) (x0_0, x0_1, vak0_3, vak0_4, x0_4, x0_5) ws := ⟨mk0_0, mk0_1, mk0_2, mk0_3, mk0_4, mk0_5⟩
      have he := Option.some.inj hf
      obtain ⟨e0, e1⟩ := Prod.mk.inj he
      have f0 : wc_Li cI cG cZ ad (k0) (x0_0, x0_1, y0_2, y0_3, x0_4, x0_5) ws := by rw [← e0, ← e1]; exact bk0_0
      exact W.vret hx hb hr (fun t ht hW => ⟨⟨ws, rfl, ⟨f0, fr⟩, by rw [ht]; exact hP, hD⟩, hS.F ht⟩) hS.2.2 d_Li_replace_41
    · rw [if_neg c4] at hf
      refine lv_aload_n hx hb d_Li_replace_23 rfl (lv_at hl 1 rfl) ?_
      refine lv_iload_n hx hb d_Li_replace_24 rfl (lv_at hl 2 rfl) ?_
      refine lv_iload_n hx hb d_Li_replace_25 rfl (lv_at hl 3 rfl) ?_
      refine lv_aload_n hx hb d_Li_replace_26 rfl (lv_at hl 4 rfl) ?_
      refine lv_iload hx hb d_Li_replace_27 (lv_at hl 0 rfl) ?_
      obtain ⟨p5, hp5, hf⟩ := g_bd hf
      refine hw_ci0 (va_runV (As := [.int v4]) (rest := [.int a2, .int a1, .ref (ad k0)]) ⟨hx, hb, hml, hown, hts⟩ (c_Ch_chosen l D cI cG cZ ad B ws N k1 x1_0 x1_1 x1_2 v4 p5 hp5 bk1_0) (cwV 1 hts (hw_gV iw_344 gy_Ch_chosen) rfl rfl rfl (by decide +kernel) ⟨Nat.le_of_ble_eq_true rfl, Nat.le_of_ble_eq_true rfl⟩) ⟨hw_blind, va_recv hK hP (ci := 0) (q0 := k1) rfl bk1_0.1, hw_go hP hD hK hN⟩ rfl rfl hl.1 rfl (lv_room (Nat.le_of_ble_eq_true rfl)) d_Li_replace_29 ⟨Nat.zero_le _, Nat.zero_le _⟩) hS (fun H locs hP hD hS => ?_)
      have bk0_0 : wc_Li cI cG cZ ad (k0) (x0_0, x0_1, vak0_3, vak0_4, x0_4, x0_5) ws := ⟨mk0_0, mk0_1, mk0_2, mk0_3, mk0_4, mk0_5⟩
      obtain ⟨p6, hp6, hf⟩ := g_bd hf
      refine hw_cv (va_runV (As := [.int a1, .int a2, .int p5]) (rest := []) ⟨hx, hb, hml, hown, hts⟩ (c_Li_append l D cI cG cZ ad B ws N k0 x0_0 x0_1 vak0_3 vak0_4 x0_4 x0_5 a1 a2 p5 p6.1 p6.2 hp6 bk0_0) (cwV 3 hts (hw_gV iw_348 gy_Li_append) rfl rfl rfl (by decide +kernel) ⟨Nat.le_of_ble_eq_true rfl, Nat.le_of_ble_eq_true rfl⟩) ⟨hw_blind, va_recv hK hP (ci := 3) (q0 := k0) rfl bk0_0.1, hw_go hP hD hK hN⟩ rfl rfl hl.1 rfl (lv_room (Nat.le_of_ble_eq_true rfl)) d_Li_replace_32 ⟨Nat.zero_le _, Nat.zero_le _⟩) hS (fun w7 H locs hP hD hS hpp => ?_)
      obtain ⟨q0, frc⟩ := hpp
      have bk0_0 : wc_Li cI cG cZ ad (k0) (x0_0, x0_1, p6.1, p6.2, x0_4, x0_5) w7 := q0
      have bk1_0 : wc_Ch cI cG cZ ad (k1) (x1_0, x1_1, x1_2) w7 := bk1_0.fr (fun j h1 h2 => frc j (by omega))
      have fr : ∀ j : Nat, (j < k0 ∨ k0 + 6 ≤ j) → w7[j]? = w0[j]? := fun j o0 => (frc j (by omega)).trans (fr j o0)
      refine lv_iinc (v := v4 + 1) (lv' := [(4, .int (v4 + 1)), (0, .ref (ad k0)), (1, .int a1), (2, .int a2), (3, .ref (ad k1))]) hx hb d_Li_replace_35 hl (k := 0) rfl rfl (by decide) rfl (fun ls hl => ?_)
      refine lv_goto (tgt := 14) hx hb d_Li_replace_38 (by decide) ?_
      obtain ⟨mk0_0, mk0_1, mk0_2, mk0_3, mk0_4, mk0_5⟩ := id bk0_0
      have mk0_0 : w7[k0]? = some (ad k0, .inr (3, [.ref (ad (k0 + 1)), .ref (ad (k0 + 2)), .ref (ad (k0 + 3)), .ref (ad (k0 + 4)), .ref (ad (k0 + 5)), .int x0_5])) := mk0_0
      have mk0_1 : w7[k0 + 1]? = some (ad (k0 + 1), .inl (cI, 30, .inl x0_0)) := mk0_1
      have mk0_2 : w7[k0 + 2]? = some (ad (k0 + 2), .inl (cI, 30, .inl x0_1)) := mk0_2
      have mk0_3 : w7[k0 + 3]? = some (ad (k0 + 3), .inl (cI, 120, .inl p6.1)) := mk0_3
      have mk0_4 : w7[k0 + 4]? = some (ad (k0 + 4), .inl (cI, 840, .inl p6.2)) := mk0_4
      have mk0_5 : w7[k0 + 5]? = some (ad (k0 + 5), .inl (cI, 30, .inl x0_4)) := mk0_5
      exact ih p6.1 p6.2 (v4 + 1) _ _ _ _ hP hD hS (lv_sub hl [0, 1, 2, 3, 4] rfl) mk0_0 mk0_1 mk0_2 mk0_3 mk0_4 mk0_5 bk1_0 fr hf
set_option maxHeartbeats 4000000 in
set_option maxRecDepth 100000 in
theorem c_Li_replace (l : Launch) (D : va_G) (cI cG cZ : ClassId) (ad : Nat → Nat) (B : Nat) (w0 : va_W) (N : Nat) (k0 : Nat) (x0_0 : (Nat → Int32)) (x0_1 : (Nat → Int32)) (x0_2 : (Nat → Int32)) (x0_3 : (Nat → Int32)) (x0_4 : (Nat → Int32)) (x0_5 : Int32) (k1 : Nat) (x1_0 : (Nat → Int32)) (x1_1 : Int32) (x1_2 : Int32) (a1 : Int32) (a2 : Int32) (y0_2 : (Nat → Int32)) (y0_3 : (Nat → Int32)) (hf : f_Li_replace N x0_2 x0_3 x1_0 x1_1 a1 a2 = some (y0_2, y0_3)) (bk0_0 : wc_Li cI cG cZ ad k0 (x0_0, x0_1, x0_2, x0_3, x0_4, x0_5) w0) (bk1_0 : wc_Ch cI cG cZ ad k1 (x1_0, x1_1, x1_2) w0) (dj0 : k0 + 6 ≤ k1 ∨ k1 + 2 ≤ k0) : Met l y_Li_replace (.code y_Li_replace b_Li_replace 5 none :: hw_G) ({ frames := 1, cells := 0, slots := 0, locals := 24 } : Room) (va_Pc [.ref (ad k0), .int a1, .int a2, .ref (ad k1)] (hw_U D cI cG cZ B w0)) (va_Qv (fun (w1 : va_W) => wc_Li cI cG cZ ad k0 (x0_0, x0_1, y0_2, y0_3, x0_4, x0_5) w1 ∧ (∀ j : Nat, (j < k0 ∨ k0 + 6 ≤ j) → w1[j]? = w0[j]?)) (hw_B D B) (fun q : Nat => B ≤ q)) 0 0 (fun q : Nat => B ≤ q) := by
  refine Met.ofW (cc := b_Li_replace) (maxL := 5) (ret := none) (by decide) rfl ?_
  intro p e s m args below meth c s₁ Bd hml hv
  obtain ⟨rfl, hP, hD, hK, hN⟩ := hv
  have C0 : hw_C p s m meth c b_Li_replace 5 _ R_Li none := ⟨Bd.exec, Bd.bytes, Bd.returns, hml, findClass_of_methodNamed Bd.named, fun w h => atoms_spec (ws := .code y_Li_replace b_Li_replace 5 none :: hw_G) Bd.pre w (List.mem_cons_of_mem _ h), Bd.notSynchronized⟩
  obtain ⟨hx, hb, hr, -, hown, hts, hlocks⟩ := id C0
  have hS : va_S (fun q : Nat => B ≤ q) s.heap s.heap [] := va_S.rf
  have fr : ∀ j : Nat, (j < k0 ∨ k0 + 6 ≤ j) → w0[j]? = w0[j]? := fun j _ => rfl
  have hl := lv_entry ([.ref (ad k0), .int a1, .int a2, .ref (ad k1)]) (n := 5) (Nat.le_of_ble_eq_true rfl)
  rw [lg_entry_eq]
  generalize (lg_sl ([.ref (ad k0), .int a1, .int a2, .ref (ad k1)]) ++ List.replicate (5 - (lg_sl ([.ref (ad k0), .int a1, .int a2, .ref (ad k1)])).length) Slot.unset).toArray = ls at hl ⊢
  have hl : lv_has ls 5 [(0, .ref (ad k0)), (1, .int a1), (2, .int a2), (3, .ref (ad k1))] := hl
  unfold f_Li_replace at hf
  obtain ⟨mk0_0, mk0_1, mk0_2, mk0_3, mk0_4, mk0_5⟩ := id bk0_0
  have mk0_0 : w0[k0]? = some (ad k0, .inr (3, [.ref (ad (k0 + 1)), .ref (ad (k0 + 2)), .ref (ad (k0 + 3)), .ref (ad (k0 + 4)), .ref (ad (k0 + 5)), .int x0_5])) := mk0_0
  have mk0_1 : w0[k0 + 1]? = some (ad (k0 + 1), .inl (cI, 30, .inl x0_0)) := mk0_1
  have mk0_2 : w0[k0 + 2]? = some (ad (k0 + 2), .inl (cI, 30, .inl x0_1)) := mk0_2
  have mk0_3 : w0[k0 + 3]? = some (ad (k0 + 3), .inl (cI, 120, .inl x0_2)) := mk0_3
  have mk0_4 : w0[k0 + 4]? = some (ad (k0 + 4), .inl (cI, 840, .inl x0_3)) := mk0_4
  have mk0_5 : w0[k0 + 5]? = some (ad (k0 + 5), .inl (cI, 30, .inl x0_4)) := mk0_5
  refine lv_aload_n hx hb d_Li_replace_0 rfl (lv_at hl 0 rfl) ?_
  refine va_get (D := D) (ci := 3) (v := .ref (ad (k0 + 3))) (C := R_Li) (T := F_Li) (N := 6) hx hb hts i_Li hown hK hP (k0) mk0_0 rfl 2 (by decide) (hts _ iw_55) (fun _ h9 => h9) rfl d_Li_replace_1 ?_
  refine lv_iload_n hx hb d_Li_replace_4 rfl (lv_at hl 1 rfl) ?_
  refine lv_iconst (v := 4) hx hb d_Li_replace_5 (by decide) ?_
  refine lv_imul hx hb d_Li_replace_6 ?_
  refine lv_iload_n hx hb d_Li_replace_7 rfl (lv_at hl 2 rfl) ?_
  refine lv_iadd hx hb d_Li_replace_8 ?_
  refine lv_iconst (v := 0) hx hb d_Li_replace_9 (by decide) ?_
  obtain ⟨z1, hf⟩ := g_atE hf
  refine va_iast hx hb hK hP hD hS (k0 + 3) 0 mk0_3 rfl z1 d_Li_replace_10 (fun H locs hP hD hS => ?_)
  obtain ⟨w2, hP, hD, hne, heq⟩ := hs_up hP hD mk0_3
  have mk0_3 : w2[k0 + 3]? = some (ad (k0 + 3), .inl (cI, 120, .inl (upd x0_2 ((a1 * 4) + a2).toNatClampNeg 0))) := heq
  have bk1_0 : wc_Ch cI cG cZ ad (k1) (x1_0, x1_1, x1_2) w2 := bk1_0.fr (fun j h1 h2 => hne j (by omega))
  have mk0_0 : w2[k0]? = some (ad k0, .inr (3, [.ref (ad (k0 + 1)), .ref (ad (k0 + 2)), .ref (ad (k0 + 3)), .ref (ad (k0 + 4)), .ref (ad (k0 + 5)), .int x0_5])) := (hne _ (by omega)).trans mk0_0
  have mk0_1 : w2[k0 + 1]? = some (ad (k0 + 1), .inl (cI, 30, .inl x0_0)) := (hne _ (by omega)).trans mk0_1
  have mk0_2 : w2[k0 + 2]? = some (ad (k0 + 2), .inl (cI, 30, .inl x0_1)) := (hne _ (by omega)).trans mk0_2
  have mk0_4 : w2[k0 + 4]? = some (ad (k0 + 4), .inl (cI, 840, .inl x0_3)) := (hne _ (by omega)).trans mk0_4
  have mk0_5 : w2[k0 + 5]? = some (ad (k0 + 5), .inl (cI, 30, .inl x0_4)) := (hne _ (by omega)).trans mk0_5
  have fr : ∀ j : Nat, (j < k0 ∨ k0 + 6 ≤ j) → w2[j]? = w0[j]? := fun j o0 => (hne j (by omega)).trans (fr j o0)
  refine lv_iconst (v := 0) hx hb d_Li_replace_11 (by decide) ?_
  refine lv_istore (lv' := [(4, .int 0), (0, .ref (ad k0)), (1, .int a1), (2, .int a2), (3, .ref (ad k1))]) hx hb d_Li_replace_12 hl (by decide) rfl (fun ls hl => ?_)
  exact wl_Li_replace_14 (ad := ad) C0 hK hN dj0 x0_0 x0_1 x0_4 x0_5 x1_0 x1_1 x1_2 a1 a2 x0_2 x0_3 y0_2 y0_3 N (upd x0_2 ((a1 * 4) + a2).toNatClampNeg 0) x0_3 0 _ _ _ _ hP hD hS (lv_sub hl [0, 1, 2, 3, 4] rfl) mk0_0 mk0_1 mk0_2 mk0_3 mk0_4 mk0_5 bk1_0 fr hf
set_option maxHeartbeats 4000000 in
set_option maxRecDepth 100000 in
theorem c_Li_most (l : Launch) (D : va_G) (cI cG cZ : ClassId) (ad : Nat → Nat) (B : Nat) (w0 : va_W) (N : Nat) (k0 : Nat) (x0_0 : (Nat → Int32)) (x0_1 : (Nat → Int32)) (x0_2 : (Nat → Int32)) (x0_3 : (Nat → Int32)) (x0_4 : (Nat → Int32)) (x0_5 : Int32) (a1 : Int32) (r : Int32) (hf : f_Li_most N a1 = some r) (bk0_0 : wc_Li cI cG cZ ad k0 (x0_0, x0_1, x0_2, x0_3, x0_4, x0_5) w0) : Met l y_Li_most (.code y_Li_most b_Li_most 2 (some .int) :: hw_G) ({ frames := 0, cells := 0, slots := 0, locals := 0 } : Room) (va_Pc [.ref (ad k0), .int a1] (hw_U D cI cG cZ B w0)) (va_Qi (fun (r1 : Int32) (w1 : va_W) => r1 = r ∧ w1 = w0) (hw_B D B) (fun q : Nat => B ≤ q)) 0 0 (fun q : Nat => B ≤ q) := by
  refine Met.ofW (cc := b_Li_most) (maxL := 2) (ret := (some .int)) (by decide) rfl ?_
  intro p e s m args below meth c s₁ Bd hml hv
  obtain ⟨rfl, hP, hD, hK, hN⟩ := hv
  have C0 : hw_C p s m meth c b_Li_most 2 _ R_Li (some .int) := ⟨Bd.exec, Bd.bytes, Bd.returns, hml, findClass_of_methodNamed Bd.named, fun w h => atoms_spec (ws := .code y_Li_most b_Li_most 2 (some .int) :: hw_G) Bd.pre w (List.mem_cons_of_mem _ h), Bd.notSynchronized⟩
  obtain ⟨hx, hb, hr, -, hown, hts, hlocks⟩ := id C0
  have hS : va_S (fun q : Nat => B ≤ q) s.heap s.heap [] := va_S.rf
  have fr : w0 = w0 := rfl
  have hl := lv_entry ([.ref (ad k0), .int a1]) (n := 2) (Nat.le_of_ble_eq_true rfl)
  rw [lg_entry_eq]
  generalize (lg_sl ([.ref (ad k0), .int a1]) ++ List.replicate (2 - (lg_sl ([.ref (ad k0), .int a1])).length) Slot.unset).toArray = ls at hl ⊢
  have hl : lv_has ls 2 [(0, .ref (ad k0)), (1, .int a1)] := hl
  unfold f_Li_most at hf
  obtain ⟨mk0_0, mk0_1, mk0_2, mk0_3, mk0_4, mk0_5⟩ := id bk0_0
  have mk0_0 : w0[k0]? = some (ad k0, .inr (3, [.ref (ad (k0 + 1)), .ref (ad (k0 + 2)), .ref (ad (k0 + 3)), .ref (ad (k0 + 4)), .ref (ad (k0 + 5)), .int x0_5])) := mk0_0
  have mk0_1 : w0[k0 + 1]? = some (ad (k0 + 1), .inl (cI, 30, .inl x0_0)) := mk0_1
  have mk0_2 : w0[k0 + 2]? = some (ad (k0 + 2), .inl (cI, 30, .inl x0_1)) := mk0_2
  have mk0_3 : w0[k0 + 3]? = some (ad (k0 + 3), .inl (cI, 120, .inl x0_2)) := mk0_3
  have mk0_4 : w0[k0 + 4]? = some (ad (k0 + 4), .inl (cI, 840, .inl x0_3)) := mk0_4
  have mk0_5 : w0[k0 + 5]? = some (ad (k0 + 5), .inl (cI, 30, .inl x0_4)) := mk0_5
  refine lv_iload_n hx hb d_Li_most_0 rfl (lv_at hl 1 rfl) ?_
  refine lv_if_ne (tgt := 9) hx hb d_Li_most_1 (by decide) (fun c1 => ?_) (fun c1 => ?_)
  · rw [if_neg c1] at hf
    refine lv_iconst (v := 3) hx hb d_Li_most_9 (by decide) ?_
    have bk0_0 : wc_Li cI cG cZ ad (k0) (x0_0, x0_1, x0_2, x0_3, x0_4, x0_5) w0 := ⟨mk0_0, mk0_1, mk0_2, mk0_3, mk0_4, mk0_5⟩
    have e0 := Option.some.inj hf
    exact W.iret (v := 3) hx hb hr (fun t ht hW => ⟨⟨3, w0, rfl, ⟨e0, fr⟩, by rw [ht]; exact hP, hD⟩, hS.F ht⟩) hS.2.2 d_Li_most_10
  · rw [if_pos c1] at hf
    refine lv_bipush (v := 6) hx hb d_Li_most_4 (by decide) ?_
    refine lv_goto (tgt := 10) hx hb d_Li_most_6 (by decide) ?_
    have bk0_0 : wc_Li cI cG cZ ad (k0) (x0_0, x0_1, x0_2, x0_3, x0_4, x0_5) w0 := ⟨mk0_0, mk0_1, mk0_2, mk0_3, mk0_4, mk0_5⟩
    have e0 := Option.some.inj hf
    exact W.iret (v := 6) hx hb hr (fun t ht hW => ⟨⟨6, w0, rfl, ⟨e0, fr⟩, by rw [ht]; exact hP, hD⟩, hS.F ht⟩) hS.2.2 d_Li_most_10
set_option maxHeartbeats 4000000 in
set_option maxRecDepth 100000 in
theorem c_Li_size (l : Launch) (D : va_G) (cI cG cZ : ClassId) (ad : Nat → Nat) (B : Nat) (w0 : va_W) (N : Nat) (k0 : Nat) (x0_0 : (Nat → Int32)) (x0_1 : (Nat → Int32)) (x0_2 : (Nat → Int32)) (x0_3 : (Nat → Int32)) (x0_4 : (Nat → Int32)) (x0_5 : Int32) (r : Int32) (hf : f_Li_size N x0_5 = some r) (bk0_0 : wc_Li cI cG cZ ad k0 (x0_0, x0_1, x0_2, x0_3, x0_4, x0_5) w0) : Met l y_Li_size (.code y_Li_size b_Li_size 1 (some .int) :: hw_G) ({ frames := 0, cells := 0, slots := 0, locals := 0 } : Room) (va_Pc [.ref (ad k0)] (hw_U D cI cG cZ B w0)) (va_Qi (fun (r1 : Int32) (w1 : va_W) => r1 = r ∧ w1 = w0) (hw_B D B) (fun q : Nat => B ≤ q)) 0 0 (fun q : Nat => B ≤ q) := by
  refine Met.ofW (cc := b_Li_size) (maxL := 1) (ret := (some .int)) (by decide) rfl ?_
  intro p e s m args below meth c s₁ Bd hml hv
  obtain ⟨rfl, hP, hD, hK, hN⟩ := hv
  have C0 : hw_C p s m meth c b_Li_size 1 _ R_Li (some .int) := ⟨Bd.exec, Bd.bytes, Bd.returns, hml, findClass_of_methodNamed Bd.named, fun w h => atoms_spec (ws := .code y_Li_size b_Li_size 1 (some .int) :: hw_G) Bd.pre w (List.mem_cons_of_mem _ h), Bd.notSynchronized⟩
  obtain ⟨hx, hb, hr, -, hown, hts, hlocks⟩ := id C0
  have hS : va_S (fun q : Nat => B ≤ q) s.heap s.heap [] := va_S.rf
  have fr : w0 = w0 := rfl
  have hl := lv_entry ([.ref (ad k0)]) (n := 1) (Nat.le_of_ble_eq_true rfl)
  rw [lg_entry_eq]
  generalize (lg_sl ([.ref (ad k0)]) ++ List.replicate (1 - (lg_sl ([.ref (ad k0)])).length) Slot.unset).toArray = ls at hl ⊢
  have hl : lv_has ls 1 [(0, .ref (ad k0))] := hl
  unfold f_Li_size at hf
  obtain ⟨mk0_0, mk0_1, mk0_2, mk0_3, mk0_4, mk0_5⟩ := id bk0_0
  have mk0_0 : w0[k0]? = some (ad k0, .inr (3, [.ref (ad (k0 + 1)), .ref (ad (k0 + 2)), .ref (ad (k0 + 3)), .ref (ad (k0 + 4)), .ref (ad (k0 + 5)), .int x0_5])) := mk0_0
  have mk0_1 : w0[k0 + 1]? = some (ad (k0 + 1), .inl (cI, 30, .inl x0_0)) := mk0_1
  have mk0_2 : w0[k0 + 2]? = some (ad (k0 + 2), .inl (cI, 30, .inl x0_1)) := mk0_2
  have mk0_3 : w0[k0 + 3]? = some (ad (k0 + 3), .inl (cI, 120, .inl x0_2)) := mk0_3
  have mk0_4 : w0[k0 + 4]? = some (ad (k0 + 4), .inl (cI, 840, .inl x0_3)) := mk0_4
  have mk0_5 : w0[k0 + 5]? = some (ad (k0 + 5), .inl (cI, 30, .inl x0_4)) := mk0_5
  refine lv_aload_n hx hb d_Li_size_0 rfl (lv_at hl 0 rfl) ?_
  refine va_get (D := D) (ci := 3) (v := .int x0_5) (C := R_Li) (T := F_Li) (N := 6) hx hb hts i_Li hown hK hP (k0) mk0_0 rfl 5 (by decide) (hts _ iw_58) (fun _ h9 => h9) rfl d_Li_size_1 ?_
  have bk0_0 : wc_Li cI cG cZ ad (k0) (x0_0, x0_1, x0_2, x0_3, x0_4, x0_5) w0 := ⟨mk0_0, mk0_1, mk0_2, mk0_3, mk0_4, mk0_5⟩
  have e0 := Option.some.inj hf
  exact W.iret (v := x0_5) hx hb hr (fun t ht hW => ⟨⟨x0_5, w0, rfl, ⟨e0, fr⟩, by rw [ht]; exact hP, hD⟩, hS.F ht⟩) hS.2.2 d_Li_size_4
set_option maxHeartbeats 4000000 in
set_option maxRecDepth 100000 in
theorem wl_Li_clear_2 {p : Program} {l : Launch} {e : Env} {s : State} {m : MethodId} {args : Array Value} {below : List Frame} {meth : Method} {c : Code} {D : va_G} {cI cG cZ : ClassId} {ad : Nat → Nat} {B : Nat} {w0 : va_W} {N : Nat} {k0 : Nat} (C0 : hw_C p s m meth c b_Li_clear 2 args R_Li none) (hK : va_K D classes [(cI, .int), (cG, .array .int), (cZ, .boolean)] s) (hN : hw_N s) (x0_1 : (Nat → Int32)) (x0_2 : (Nat → Int32)) (x0_3 : (Nat → Int32)) (x0_4 : (Nat → Int32)) (x0_5 : Int32) (x0_0 : (Nat → Int32)) (y0_0 : (Nat → Int32)) (y0_5 : Int32) : ∀ (n : Nat) (vak0_1 : (Nat → Int32)) (v1 : Int32) (ws : va_W) (H : Heap) (locs : List Loc) (ls : Array Slot), va_P D classes ws H → va_D (fun q : Nat => B ≤ q) ws → va_S (fun q : Nat => B ≤ q) s.heap H locs → lv_has ls 2 [(1, .int v1), (0, .ref (ad k0))] → ws[k0]? = some (ad k0, .inr (3, [.ref (ad (k0 + 1)), .ref (ad (k0 + 2)), .ref (ad (k0 + 3)), .ref (ad (k0 + 4)), .ref (ad (k0 + 5)), .int x0_5])) → ws[k0 + 1]? = some (ad (k0 + 1), .inl (cI, 30, .inl vak0_1)) → ws[k0 + 2]? = some (ad (k0 + 2), .inl (cI, 30, .inl x0_1)) → ws[k0 + 3]? = some (ad (k0 + 3), .inl (cI, 120, .inl x0_2)) → ws[k0 + 4]? = some (ad (k0 + 4), .inl (cI, 840, .inl x0_3)) → ws[k0 + 5]? = some (ad (k0 + 5), .inl (cI, 30, .inl x0_4)) → (∀ j : Nat, (j < k0 ∨ k0 + 6 ≤ j) → ws[j]? = w0[j]?) → f_Li_clear_2 N n vak0_1 v1 = some (y0_0, y0_5) → W p l e ({ frames := 0, cells := 0, slots := 0, locals := 0 } : Room) s m args below meth c H locs 0 0 (MQ below (va_Qv (fun (w1 : va_W) => wc_Li cI cG cZ ad k0 (y0_0, x0_1, x0_2, x0_3, x0_4, y0_5) w1 ∧ (∀ j : Nat, (j < k0 ∨ k0 + 6 ≤ j) → w1[j]? = w0[j]?)) (hw_B D B) (fun q : Nat => B ≤ q)) args s 0 0 (fun q : Nat => B ≤ q)) (F0 m 2 ls []) := by
  obtain ⟨hx, hb, hr, hml, hown, hts, hlocks⟩ := id C0
  intro n
  induction n with
  | zero =>
    intro vak0_1 v1 ws H locs ls hP hD hS hl mk0_0 mk0_1 mk0_2 mk0_3 mk0_4 mk0_5 fr hf
    exact nomatch (show none = some _ from hf)
  | succ n ih =>
    intro vak0_1 v1 ws H locs ls hP hD hS hl mk0_0 mk0_1 mk0_2 mk0_3 mk0_4 mk0_5 fr hf
    rw [f_Li_clear_2] at hf
    refine lv_iload_n hx hb d_Li_clear_2 rfl (lv_at hl 0 rfl) ?_
    refine lv_bipush (v := 30) hx hb d_Li_clear_3 (by decide) ?_
    refine lv_icmp_ge (tgt := 21) hx hb d_Li_clear_5 (by decide) (fun c1 => ?_) (fun c1 => ?_)
    · rw [if_pos c1] at hf
      refine lv_aload_n hx hb d_Li_clear_21 rfl (lv_at hl 1 rfl) ?_
      refine lv_iconst (v := 0) hx hb d_Li_clear_22 (by decide) ?_
      refine va_put (D := D) (ci := 3) (v := .int 0) (ty := .int) (C := R_Li) (T := F_Li) (N := 6) hx hb hts i_Li t_Li t_Li_ok n_Li hown hK hP hD hS (k0) mk0_0 rfl 5 (by decide) (hts _ iw_58) (fun _ h9 => h9) rfl (by decide +kernel) rfl rfl (Nat.le_of_ble_eq_true rfl) d_Li_clear_23 (fun H locs hP hD hS => ?_)
      obtain ⟨w2, hP, hD, hne, heq⟩ := hs_up hP hD mk0_0
      have mk0_0 : w2[k0]? = some (ad k0, .inr (3, [.ref (ad (k0 + 1)), .ref (ad (k0 + 2)), .ref (ad (k0 + 3)), .ref (ad (k0 + 4)), .ref (ad (k0 + 5)), .int 0])) := heq
      have mk0_1 : w2[k0 + 1]? = some (ad (k0 + 1), .inl (cI, 30, .inl vak0_1)) := (hne _ (by omega)).trans mk0_1
      have mk0_2 : w2[k0 + 2]? = some (ad (k0 + 2), .inl (cI, 30, .inl x0_1)) := (hne _ (by omega)).trans mk0_2
      have mk0_3 : w2[k0 + 3]? = some (ad (k0 + 3), .inl (cI, 120, .inl x0_2)) := (hne _ (by omega)).trans mk0_3
      have mk0_4 : w2[k0 + 4]? = some (ad (k0 + 4), .inl (cI, 840, .inl x0_3)) := (hne _ (by omega)).trans mk0_4
      have mk0_5 : w2[k0 + 5]? = some (ad (k0 + 5), .inl (cI, 30, .inl x0_4)) := (hne _ (by omega)).trans mk0_5
      have fr : ∀ j : Nat, (j < k0 ∨ k0 + 6 ≤ j) → w2[j]? = w0[j]? := fun j o0 => (hne j (by omega)).trans (fr j o0)
      have bk0_0 : wc_Li cI cG cZ ad (k0) (vak0_1, x0_1, x0_2, x0_3, x0_4, 0) w2 := ⟨mk0_0, mk0_1, mk0_2, mk0_3, mk0_4, mk0_5⟩
      have he := Option.some.inj hf
      obtain ⟨e0, e1⟩ := Prod.mk.inj he
      have f0 : wc_Li cI cG cZ ad (k0) (y0_0, x0_1, x0_2, x0_3, x0_4, y0_5) w2 := by rw [← e0, ← e1]; exact bk0_0
      exact W.vret hx hb hr (fun t ht hW => ⟨⟨w2, rfl, ⟨f0, fr⟩, by rw [ht]; exact hP, hD⟩, hS.F ht⟩) hS.2.2 d_Li_clear_26
    · rw [if_neg c1] at hf
      refine lv_aload_n hx hb d_Li_clear_8 rfl (lv_at hl 1 rfl) ?_
      refine va_get (D := D) (ci := 3) (v := .ref (ad (k0 + 1))) (C := R_Li) (T := F_Li) (N := 6) hx hb hts i_Li hown hK hP (k0) mk0_0 rfl 0 (by decide) (hts _ iw_53) (fun _ h9 => h9) rfl d_Li_clear_9 ?_
      refine lv_iload_n hx hb d_Li_clear_12 rfl (lv_at hl 0 rfl) ?_
      refine lv_iconst (v := 0) hx hb d_Li_clear_13 (by decide) ?_
      obtain ⟨z3, hf⟩ := g_atE hf
      refine va_iast hx hb hK hP hD hS (k0 + 1) 0 mk0_1 rfl z3 d_Li_clear_14 (fun H locs hP hD hS => ?_)
      obtain ⟨w4, hP, hD, hne, heq⟩ := hs_up hP hD mk0_1
      have mk0_1 : w4[k0 + 1]? = some (ad (k0 + 1), .inl (cI, 30, .inl (upd vak0_1 v1.toNatClampNeg 0))) := heq
      have mk0_0 : w4[k0]? = some (ad k0, .inr (3, [.ref (ad (k0 + 1)), .ref (ad (k0 + 2)), .ref (ad (k0 + 3)), .ref (ad (k0 + 4)), .ref (ad (k0 + 5)), .int x0_5])) := (hne _ (by omega)).trans mk0_0
      have mk0_2 : w4[k0 + 2]? = some (ad (k0 + 2), .inl (cI, 30, .inl x0_1)) := (hne _ (by omega)).trans mk0_2
      have mk0_3 : w4[k0 + 3]? = some (ad (k0 + 3), .inl (cI, 120, .inl x0_2)) := (hne _ (by omega)).trans mk0_3
      have mk0_4 : w4[k0 + 4]? = some (ad (k0 + 4), .inl (cI, 840, .inl x0_3)) := (hne _ (by omega)).trans mk0_4
      have mk0_5 : w4[k0 + 5]? = some (ad (k0 + 5), .inl (cI, 30, .inl x0_4)) := (hne _ (by omega)).trans mk0_5
      have fr : ∀ j : Nat, (j < k0 ∨ k0 + 6 ≤ j) → w4[j]? = w0[j]? := fun j o0 => (hne j (by omega)).trans (fr j o0)
      refine lv_iinc (v := v1 + 1) (lv' := [(1, .int (v1 + 1)), (0, .ref (ad k0))]) hx hb d_Li_clear_15 hl (k := 0) rfl rfl (by decide) rfl (fun ls hl => ?_)
      refine lv_goto (tgt := 2) hx hb d_Li_clear_18 (by decide) ?_
      exact ih (upd vak0_1 v1.toNatClampNeg 0) (v1 + 1) _ _ _ _ hP hD hS (lv_sub hl [0, 1] rfl) mk0_0 mk0_1 mk0_2 mk0_3 mk0_4 mk0_5 fr hf
set_option maxHeartbeats 4000000 in
set_option maxRecDepth 100000 in
theorem c_Li_clear (l : Launch) (D : va_G) (cI cG cZ : ClassId) (ad : Nat → Nat) (B : Nat) (w0 : va_W) (N : Nat) (k0 : Nat) (x0_0 : (Nat → Int32)) (x0_1 : (Nat → Int32)) (x0_2 : (Nat → Int32)) (x0_3 : (Nat → Int32)) (x0_4 : (Nat → Int32)) (x0_5 : Int32) (y0_0 : (Nat → Int32)) (y0_5 : Int32) (hf : f_Li_clear N x0_0 = some (y0_0, y0_5)) (bk0_0 : wc_Li cI cG cZ ad k0 (x0_0, x0_1, x0_2, x0_3, x0_4, x0_5) w0) : Met l y_Li_clear (.code y_Li_clear b_Li_clear 2 none :: hw_G) ({ frames := 0, cells := 0, slots := 0, locals := 0 } : Room) (va_Pc [.ref (ad k0)] (hw_U D cI cG cZ B w0)) (va_Qv (fun (w1 : va_W) => wc_Li cI cG cZ ad k0 (y0_0, x0_1, x0_2, x0_3, x0_4, y0_5) w1 ∧ (∀ j : Nat, (j < k0 ∨ k0 + 6 ≤ j) → w1[j]? = w0[j]?)) (hw_B D B) (fun q : Nat => B ≤ q)) 0 0 (fun q : Nat => B ≤ q) := by
  refine Met.ofW (cc := b_Li_clear) (maxL := 2) (ret := none) (by decide) rfl ?_
  intro p e s m args below meth c s₁ Bd hml hv
  obtain ⟨rfl, hP, hD, hK, hN⟩ := hv
  have C0 : hw_C p s m meth c b_Li_clear 2 _ R_Li none := ⟨Bd.exec, Bd.bytes, Bd.returns, hml, findClass_of_methodNamed Bd.named, fun w h => atoms_spec (ws := .code y_Li_clear b_Li_clear 2 none :: hw_G) Bd.pre w (List.mem_cons_of_mem _ h), Bd.notSynchronized⟩
  obtain ⟨hx, hb, hr, -, hown, hts, hlocks⟩ := id C0
  have hS : va_S (fun q : Nat => B ≤ q) s.heap s.heap [] := va_S.rf
  have fr : ∀ j : Nat, (j < k0 ∨ k0 + 6 ≤ j) → w0[j]? = w0[j]? := fun j _ => rfl
  have hl := lv_entry ([.ref (ad k0)]) (n := 2) (Nat.le_of_ble_eq_true rfl)
  rw [lg_entry_eq]
  generalize (lg_sl ([.ref (ad k0)]) ++ List.replicate (2 - (lg_sl ([.ref (ad k0)])).length) Slot.unset).toArray = ls at hl ⊢
  have hl : lv_has ls 2 [(0, .ref (ad k0))] := hl
  unfold f_Li_clear at hf
  obtain ⟨mk0_0, mk0_1, mk0_2, mk0_3, mk0_4, mk0_5⟩ := id bk0_0
  have mk0_0 : w0[k0]? = some (ad k0, .inr (3, [.ref (ad (k0 + 1)), .ref (ad (k0 + 2)), .ref (ad (k0 + 3)), .ref (ad (k0 + 4)), .ref (ad (k0 + 5)), .int x0_5])) := mk0_0
  have mk0_1 : w0[k0 + 1]? = some (ad (k0 + 1), .inl (cI, 30, .inl x0_0)) := mk0_1
  have mk0_2 : w0[k0 + 2]? = some (ad (k0 + 2), .inl (cI, 30, .inl x0_1)) := mk0_2
  have mk0_3 : w0[k0 + 3]? = some (ad (k0 + 3), .inl (cI, 120, .inl x0_2)) := mk0_3
  have mk0_4 : w0[k0 + 4]? = some (ad (k0 + 4), .inl (cI, 840, .inl x0_3)) := mk0_4
  have mk0_5 : w0[k0 + 5]? = some (ad (k0 + 5), .inl (cI, 30, .inl x0_4)) := mk0_5
  refine lv_iconst (v := 0) hx hb d_Li_clear_0 (by decide) ?_
  refine lv_istore_n (lv' := [(1, .int 0), (0, .ref (ad k0))]) hx hb d_Li_clear_1 rfl hl (by decide) rfl (fun ls hl => ?_)
  exact wl_Li_clear_2 (ad := ad) C0 hK hN x0_1 x0_2 x0_3 x0_4 x0_5 x0_0 y0_0 y0_5 N x0_0 0 _ _ _ _ hP hD hS (lv_sub hl [0, 1] rfl) mk0_0 mk0_1 mk0_2 mk0_3 mk0_4 mk0_5 fr hf
set_option maxHeartbeats 4000000 in
set_option maxRecDepth 100000 in
theorem c_Li_isNode (l : Launch) (D : va_G) (cI cG cZ : ClassId) (ad : Nat → Nat) (B : Nat) (w0 : va_W) (N : Nat) (k0 : Nat) (x0_0 : (Nat → Int32)) (x0_1 : (Nat → Int32)) (x0_2 : (Nat → Int32)) (x0_3 : (Nat → Int32)) (x0_4 : (Nat → Int32)) (x0_5 : Int32) (a1 : Int32) (r : Int32) (hf : f_Li_isNode N x0_0 a1 = some r) (bk0_0 : wc_Li cI cG cZ ad k0 (x0_0, x0_1, x0_2, x0_3, x0_4, x0_5) w0) : Met l y_Li_isNode (.code y_Li_isNode b_Li_isNode 2 (some .boolean) :: hw_G) ({ frames := 2, cells := 0, slots := 0, locals := 42 } : Room) (va_Pc [.ref (ad k0), .int a1] (hw_U D cI cG cZ B w0)) (va_Qi (fun (r1 : Int32) (w1 : va_W) => r1 = r ∧ w1 = w0) (hw_B D B) (fun q : Nat => B ≤ q)) 0 0 (fun q : Nat => B ≤ q) := by
  refine Met.ofW (cc := b_Li_isNode) (maxL := 2) (ret := (some .boolean)) (by decide) rfl ?_
  intro p e s m args below meth c s₁ Bd hml hv
  obtain ⟨rfl, hP, hD, hK, hN⟩ := hv
  have C0 : hw_C p s m meth c b_Li_isNode 2 _ R_Li (some .boolean) := ⟨Bd.exec, Bd.bytes, Bd.returns, hml, findClass_of_methodNamed Bd.named, fun w h => atoms_spec (ws := .code y_Li_isNode b_Li_isNode 2 (some .boolean) :: hw_G) Bd.pre w (List.mem_cons_of_mem _ h), Bd.notSynchronized⟩
  obtain ⟨hx, hb, hr, -, hown, hts, hlocks⟩ := id C0
  have hS : va_S (fun q : Nat => B ≤ q) s.heap s.heap [] := va_S.rf
  have fr : w0 = w0 := rfl
  have hl := lv_entry ([.ref (ad k0), .int a1]) (n := 2) (Nat.le_of_ble_eq_true rfl)
  rw [lg_entry_eq]
  generalize (lg_sl ([.ref (ad k0), .int a1]) ++ List.replicate (2 - (lg_sl ([.ref (ad k0), .int a1])).length) Slot.unset).toArray = ls at hl ⊢
  have hl : lv_has ls 2 [(0, .ref (ad k0)), (1, .int a1)] := hl
  unfold f_Li_isNode at hf
  obtain ⟨mk0_0, mk0_1, mk0_2, mk0_3, mk0_4, mk0_5⟩ := id bk0_0
  have mk0_0 : w0[k0]? = some (ad k0, .inr (3, [.ref (ad (k0 + 1)), .ref (ad (k0 + 2)), .ref (ad (k0 + 3)), .ref (ad (k0 + 4)), .ref (ad (k0 + 5)), .int x0_5])) := mk0_0
  have mk0_1 : w0[k0 + 1]? = some (ad (k0 + 1), .inl (cI, 30, .inl x0_0)) := mk0_1
  have mk0_2 : w0[k0 + 2]? = some (ad (k0 + 2), .inl (cI, 30, .inl x0_1)) := mk0_2
  have mk0_3 : w0[k0 + 3]? = some (ad (k0 + 3), .inl (cI, 120, .inl x0_2)) := mk0_3
  have mk0_4 : w0[k0 + 4]? = some (ad (k0 + 4), .inl (cI, 840, .inl x0_3)) := mk0_4
  have mk0_5 : w0[k0 + 5]? = some (ad (k0 + 5), .inl (cI, 30, .inl x0_4)) := mk0_5
  refine lv_iload_n hx hb d_Li_isNode_0 rfl (lv_at hl 1 rfl) ?_
  obtain ⟨p1, hp1, hf⟩ := g_bd hf
  refine hw_ci0 (va_runSN (As := [.int a1]) (rest := []) ⟨hx, hb, hml, hown, hts⟩ (c_Nd_isDocumentNumber l D cI cG cZ ad B w0 N a1 p1 hp1) ⟨va_cnB 1 hts (hw_gc ic_Nd_isDocumentNumber) rfl rfl rfl (hN _ in_493) (hts _ iw_1) (by decide +kernel) ⟨Nat.le_of_ble_eq_true rfl, Nat.le_of_ble_eq_true rfl⟩, hts _ iw_379, trivial⟩ ⟨hw_blind, hw_go hP hD hK hN⟩ rfl rfl hl.1 rfl (lv_room (Nat.le_of_ble_eq_true rfl)) d_Li_isNode_1 ⟨Nat.zero_le _, Nat.zero_le _⟩) hS (fun H locs hP hD hS => ?_)
  refine lv_if_eq (tgt := 20) hx hb d_Li_isNode_4 (by decide) (fun c2 => ?_) (fun c2 => ?_)
  · rw [if_pos c2] at hf
    refine lv_iconst (v := 0) hx hb d_Li_isNode_20 (by decide) ?_
    have bk0_0 : wc_Li cI cG cZ ad (k0) (x0_0, x0_1, x0_2, x0_3, x0_4, x0_5) w0 := ⟨mk0_0, mk0_1, mk0_2, mk0_3, mk0_4, mk0_5⟩
    have e0 := Option.some.inj hf
    exact W.zret (v := 0) hx hb hr (by decide) (fun t ht hW => ⟨⟨0, w0, rfl, ⟨e0, fr⟩, by rw [ht]; exact hP, hD⟩, hS.F ht⟩) hS.2.2 d_Li_isNode_21
  · rw [if_neg c2] at hf
    refine lv_aload_n hx hb d_Li_isNode_7 rfl (lv_at hl 0 rfl) ?_
    refine va_get (D := D) (ci := 3) (v := .ref (ad (k0 + 1))) (C := R_Li) (T := F_Li) (N := 6) hx hb hts i_Li hown hK hP (k0) mk0_0 rfl 0 (by decide) (hts _ iw_53) (fun _ h9 => h9) rfl d_Li_isNode_8 ?_
    refine lv_iload_n hx hb d_Li_isNode_11 rfl (lv_at hl 1 rfl) ?_
    obtain ⟨z3, hf⟩ := g_atE hf
    refine va_iald hx hb hK hP (k0 + 1) 0 mk0_1 rfl z3 d_Li_isNode_12 ?_
    refine lv_if_le (tgt := 20) hx hb d_Li_isNode_13 (by decide) (fun c4 => ?_) (fun c4 => ?_)
    · rw [if_pos c4] at hf
      refine lv_iconst (v := 0) hx hb d_Li_isNode_20 (by decide) ?_
      have bk0_0 : wc_Li cI cG cZ ad (k0) (x0_0, x0_1, x0_2, x0_3, x0_4, x0_5) w0 := ⟨mk0_0, mk0_1, mk0_2, mk0_3, mk0_4, mk0_5⟩
      have e0 := Option.some.inj hf
      exact W.zret (v := 0) hx hb hr (by decide) (fun t ht hW => ⟨⟨0, w0, rfl, ⟨e0, fr⟩, by rw [ht]; exact hP, hD⟩, hS.F ht⟩) hS.2.2 d_Li_isNode_21
    · rw [if_neg c4] at hf
      refine lv_iconst (v := 1) hx hb d_Li_isNode_16 (by decide) ?_
      refine lv_goto (tgt := 21) hx hb d_Li_isNode_17 (by decide) ?_
      have bk0_0 : wc_Li cI cG cZ ad (k0) (x0_0, x0_1, x0_2, x0_3, x0_4, x0_5) w0 := ⟨mk0_0, mk0_1, mk0_2, mk0_3, mk0_4, mk0_5⟩
      have e0 := Option.some.inj hf
      exact W.zret (v := 1) hx hb hr (by decide) (fun t ht hW => ⟨⟨1, w0, rfl, ⟨e0, fr⟩, by rw [ht]; exact hP, hD⟩, hS.F ht⟩) hS.2.2 d_Li_isNode_21
set_option maxHeartbeats 4000000 in
set_option maxRecDepth 100000 in
theorem c_Li_isInLayer (l : Launch) (D : va_G) (cI cG cZ : ClassId) (ad : Nat → Nat) (B : Nat) (w0 : va_W) (N : Nat) (k0 : Nat) (x0_0 : (Nat → Int32)) (x0_1 : (Nat → Int32)) (x0_2 : (Nat → Int32)) (x0_3 : (Nat → Int32)) (x0_4 : (Nat → Int32)) (x0_5 : Int32) (a1 : Int32) (a2 : Int32) (r : Int32) (hf : f_Li_isInLayer N x0_0 x0_1 a1 a2 = some r) (bk0_0 : wc_Li cI cG cZ ad k0 (x0_0, x0_1, x0_2, x0_3, x0_4, x0_5) w0) : Met l y_Li_isInLayer (.code y_Li_isInLayer b_Li_isInLayer 3 (some .boolean) :: hw_G) ({ frames := 3, cells := 0, slots := 0, locals := 63 } : Room) (va_Pc [.ref (ad k0), .int a1, .int a2] (hw_U D cI cG cZ B w0)) (va_Qi (fun (r1 : Int32) (w1 : va_W) => r1 = r ∧ w1 = w0) (hw_B D B) (fun q : Nat => B ≤ q)) 0 0 (fun q : Nat => B ≤ q) := by
  refine Met.ofW (cc := b_Li_isInLayer) (maxL := 3) (ret := (some .boolean)) (by decide) rfl ?_
  intro p e s m args below meth c s₁ Bd hml hv
  obtain ⟨rfl, hP, hD, hK, hN⟩ := hv
  have C0 : hw_C p s m meth c b_Li_isInLayer 3 _ R_Li (some .boolean) := ⟨Bd.exec, Bd.bytes, Bd.returns, hml, findClass_of_methodNamed Bd.named, fun w h => atoms_spec (ws := .code y_Li_isInLayer b_Li_isInLayer 3 (some .boolean) :: hw_G) Bd.pre w (List.mem_cons_of_mem _ h), Bd.notSynchronized⟩
  obtain ⟨hx, hb, hr, -, hown, hts, hlocks⟩ := id C0
  have hS : va_S (fun q : Nat => B ≤ q) s.heap s.heap [] := va_S.rf
  have fr : w0 = w0 := rfl
  have hl := lv_entry ([.ref (ad k0), .int a1, .int a2]) (n := 3) (Nat.le_of_ble_eq_true rfl)
  rw [lg_entry_eq]
  generalize (lg_sl ([.ref (ad k0), .int a1, .int a2]) ++ List.replicate (3 - (lg_sl ([.ref (ad k0), .int a1, .int a2])).length) Slot.unset).toArray = ls at hl ⊢
  have hl : lv_has ls 3 [(0, .ref (ad k0)), (1, .int a1), (2, .int a2)] := hl
  unfold f_Li_isInLayer at hf
  obtain ⟨mk0_0, mk0_1, mk0_2, mk0_3, mk0_4, mk0_5⟩ := id bk0_0
  have mk0_0 : w0[k0]? = some (ad k0, .inr (3, [.ref (ad (k0 + 1)), .ref (ad (k0 + 2)), .ref (ad (k0 + 3)), .ref (ad (k0 + 4)), .ref (ad (k0 + 5)), .int x0_5])) := mk0_0
  have mk0_1 : w0[k0 + 1]? = some (ad (k0 + 1), .inl (cI, 30, .inl x0_0)) := mk0_1
  have mk0_2 : w0[k0 + 2]? = some (ad (k0 + 2), .inl (cI, 30, .inl x0_1)) := mk0_2
  have mk0_3 : w0[k0 + 3]? = some (ad (k0 + 3), .inl (cI, 120, .inl x0_2)) := mk0_3
  have mk0_4 : w0[k0 + 4]? = some (ad (k0 + 4), .inl (cI, 840, .inl x0_3)) := mk0_4
  have mk0_5 : w0[k0 + 5]? = some (ad (k0 + 5), .inl (cI, 30, .inl x0_4)) := mk0_5
  refine lv_aload_n hx hb d_Li_isInLayer_0 rfl (lv_at hl 0 rfl) ?_
  refine lv_iload_n hx hb d_Li_isInLayer_1 rfl (lv_at hl 1 rfl) ?_
  have bk0_0 : wc_Li cI cG cZ ad (k0) (x0_0, x0_1, x0_2, x0_3, x0_4, x0_5) w0 := ⟨mk0_0, mk0_1, mk0_2, mk0_3, mk0_4, mk0_5⟩
  obtain ⟨p1, hp1, hf⟩ := g_bd hf
  refine hw_ci0 (va_runV (As := [.int a1]) (rest := []) ⟨hx, hb, hml, hown, hts⟩ (c_Li_isNode l D cI cG cZ ad B w0 N k0 x0_0 x0_1 x0_2 x0_3 x0_4 x0_5 a1 p1 hp1 bk0_0) (cwV 1 hts (hw_gV iw_498 gy_Li_isNode) rfl rfl rfl (by decide +kernel) ⟨Nat.le_of_ble_eq_true rfl, Nat.le_of_ble_eq_true rfl⟩) ⟨hw_blind, va_recv hK hP (ci := 3) (q0 := k0) rfl bk0_0.1, hw_go hP hD hK hN⟩ rfl rfl hl.1 rfl (lv_room (Nat.le_of_ble_eq_true rfl)) d_Li_isInLayer_2 ⟨Nat.zero_le _, Nat.zero_le _⟩) hS (fun H locs hP hD hS => ?_)
  refine lv_if_eq (tgt := 26) hx hb d_Li_isInLayer_5 (by decide) (fun c2 => ?_) (fun c2 => ?_)
  · rw [if_pos c2] at hf
    refine lv_iconst (v := 0) hx hb d_Li_isInLayer_26 (by decide) ?_
    have e0 := Option.some.inj hf
    exact W.zret (v := 0) hx hb hr (by decide) (fun t ht hW => ⟨⟨0, w0, rfl, ⟨e0, fr⟩, by rw [ht]; exact hP, hD⟩, hS.F ht⟩) hS.2.2 d_Li_isInLayer_27
  · rw [if_neg c2] at hf
    refine lv_iload_n hx hb d_Li_isInLayer_8 rfl (lv_at hl 2 rfl) ?_
    refine lv_iconst (v := 0) hx hb d_Li_isInLayer_9 (by decide) ?_
    refine lv_aload_n hx hb d_Li_isInLayer_10 rfl (lv_at hl 0 rfl) ?_
    obtain ⟨mk0_0, mk0_1, mk0_2, mk0_3, mk0_4, mk0_5⟩ := id bk0_0
    have mk0_0 : w0[k0]? = some (ad k0, .inr (3, [.ref (ad (k0 + 1)), .ref (ad (k0 + 2)), .ref (ad (k0 + 3)), .ref (ad (k0 + 4)), .ref (ad (k0 + 5)), .int x0_5])) := mk0_0
    have mk0_1 : w0[k0 + 1]? = some (ad (k0 + 1), .inl (cI, 30, .inl x0_0)) := mk0_1
    have mk0_2 : w0[k0 + 2]? = some (ad (k0 + 2), .inl (cI, 30, .inl x0_1)) := mk0_2
    have mk0_3 : w0[k0 + 3]? = some (ad (k0 + 3), .inl (cI, 120, .inl x0_2)) := mk0_3
    have mk0_4 : w0[k0 + 4]? = some (ad (k0 + 4), .inl (cI, 840, .inl x0_3)) := mk0_4
    have mk0_5 : w0[k0 + 5]? = some (ad (k0 + 5), .inl (cI, 30, .inl x0_4)) := mk0_5
    refine va_get (D := D) (ci := 3) (v := .ref (ad (k0 + 2))) (C := R_Li) (T := F_Li) (N := 6) hx hb hts i_Li hown hK hP (k0) mk0_0 rfl 1 (by decide) (hts _ iw_54) (fun _ h9 => h9) rfl d_Li_isInLayer_11 ?_
    refine lv_iload_n hx hb d_Li_isInLayer_14 rfl (lv_at hl 1 rfl) ?_
    obtain ⟨z3, hf⟩ := g_atE hf
    refine va_iald hx hb hK hP (k0 + 2) 0 mk0_2 rfl z3 d_Li_isInLayer_15 ?_
    obtain ⟨p4, hp4, hf⟩ := g_bd hf
    refine hw_ci0 (va_runSN (As := [.int a2, .int 0, .int (x0_1 a1.toNatClampNeg)]) (rest := []) ⟨hx, hb, hml, hown, hts⟩ (c_Nd_isWithin l D cI cG cZ ad B w0 N a2 0 (x0_1 a1.toNatClampNeg) p4 hp4) ⟨va_cnB 3 hts (hw_gc ic_Nd_isWithin) rfl rfl rfl (hN _ in_499) (hts _ iw_1) (by decide +kernel) ⟨Nat.le_of_ble_eq_true rfl, Nat.le_of_ble_eq_true rfl⟩, hts _ iw_186, trivial⟩ ⟨hw_blind, hw_go hP hD hK hN⟩ rfl rfl hl.1 rfl (lv_room (Nat.le_of_ble_eq_true rfl)) d_Li_isInLayer_16 ⟨Nat.zero_le _, Nat.zero_le _⟩) hS (fun H locs hP hD hS => ?_)
    refine lv_if_eq (tgt := 26) hx hb d_Li_isInLayer_19 (by decide) (fun c5 => ?_) (fun c5 => ?_)
    · rw [if_pos c5] at hf
      refine lv_iconst (v := 0) hx hb d_Li_isInLayer_26 (by decide) ?_
      have bk0_0 : wc_Li cI cG cZ ad (k0) (x0_0, x0_1, x0_2, x0_3, x0_4, x0_5) w0 := ⟨mk0_0, mk0_1, mk0_2, mk0_3, mk0_4, mk0_5⟩
      have e0 := Option.some.inj hf
      exact W.zret (v := 0) hx hb hr (by decide) (fun t ht hW => ⟨⟨0, w0, rfl, ⟨e0, fr⟩, by rw [ht]; exact hP, hD⟩, hS.F ht⟩) hS.2.2 d_Li_isInLayer_27
    · rw [if_neg c5] at hf
      refine lv_iconst (v := 1) hx hb d_Li_isInLayer_22 (by decide) ?_
      refine lv_goto (tgt := 27) hx hb d_Li_isInLayer_23 (by decide) ?_
      have bk0_0 : wc_Li cI cG cZ ad (k0) (x0_0, x0_1, x0_2, x0_3, x0_4, x0_5) w0 := ⟨mk0_0, mk0_1, mk0_2, mk0_3, mk0_4, mk0_5⟩
      have e0 := Option.some.inj hf
      exact W.zret (v := 1) hx hb hr (by decide) (fun t ht hW => ⟨⟨1, w0, rfl, ⟨e0, fr⟩, by rw [ht]; exact hP, hD⟩, hS.F ht⟩) hS.2.2 d_Li_isInLayer_27
set_option maxHeartbeats 4000000 in
set_option maxRecDepth 100000 in
theorem c_Li_order (l : Launch) (D : va_G) (cI cG cZ : ClassId) (ad : Nat → Nat) (B : Nat) (w0 : va_W) (N : Nat) (k0 : Nat) (x0_0 : (Nat → Int32)) (x0_1 : (Nat → Int32)) (x0_2 : (Nat → Int32)) (x0_3 : (Nat → Int32)) (x0_4 : (Nat → Int32)) (x0_5 : Int32) (a1 : Int32) (r : Int32) (hf : f_Li_order N x0_0 a1 = some r) (bk0_0 : wc_Li cI cG cZ ad k0 (x0_0, x0_1, x0_2, x0_3, x0_4, x0_5) w0) : Met l y_Li_order (.code y_Li_order b_Li_order 2 (some .int) :: hw_G) ({ frames := 0, cells := 0, slots := 0, locals := 0 } : Room) (va_Pc [.ref (ad k0), .int a1] (hw_U D cI cG cZ B w0)) (va_Qi (fun (r1 : Int32) (w1 : va_W) => r1 = r ∧ w1 = w0) (hw_B D B) (fun q : Nat => B ≤ q)) 0 0 (fun q : Nat => B ≤ q) := by
  refine Met.ofW (cc := b_Li_order) (maxL := 2) (ret := (some .int)) (by decide) rfl ?_
  intro p e s m args below meth c s₁ Bd hml hv
  obtain ⟨rfl, hP, hD, hK, hN⟩ := hv
  have C0 : hw_C p s m meth c b_Li_order 2 _ R_Li (some .int) := ⟨Bd.exec, Bd.bytes, Bd.returns, hml, findClass_of_methodNamed Bd.named, fun w h => atoms_spec (ws := .code y_Li_order b_Li_order 2 (some .int) :: hw_G) Bd.pre w (List.mem_cons_of_mem _ h), Bd.notSynchronized⟩
  obtain ⟨hx, hb, hr, -, hown, hts, hlocks⟩ := id C0
  have hS : va_S (fun q : Nat => B ≤ q) s.heap s.heap [] := va_S.rf
  have fr : w0 = w0 := rfl
  have hl := lv_entry ([.ref (ad k0), .int a1]) (n := 2) (Nat.le_of_ble_eq_true rfl)
  rw [lg_entry_eq]
  generalize (lg_sl ([.ref (ad k0), .int a1]) ++ List.replicate (2 - (lg_sl ([.ref (ad k0), .int a1])).length) Slot.unset).toArray = ls at hl ⊢
  have hl : lv_has ls 2 [(0, .ref (ad k0)), (1, .int a1)] := hl
  unfold f_Li_order at hf
  obtain ⟨mk0_0, mk0_1, mk0_2, mk0_3, mk0_4, mk0_5⟩ := id bk0_0
  have mk0_0 : w0[k0]? = some (ad k0, .inr (3, [.ref (ad (k0 + 1)), .ref (ad (k0 + 2)), .ref (ad (k0 + 3)), .ref (ad (k0 + 4)), .ref (ad (k0 + 5)), .int x0_5])) := mk0_0
  have mk0_1 : w0[k0 + 1]? = some (ad (k0 + 1), .inl (cI, 30, .inl x0_0)) := mk0_1
  have mk0_2 : w0[k0 + 2]? = some (ad (k0 + 2), .inl (cI, 30, .inl x0_1)) := mk0_2
  have mk0_3 : w0[k0 + 3]? = some (ad (k0 + 3), .inl (cI, 120, .inl x0_2)) := mk0_3
  have mk0_4 : w0[k0 + 4]? = some (ad (k0 + 4), .inl (cI, 840, .inl x0_3)) := mk0_4
  have mk0_5 : w0[k0 + 5]? = some (ad (k0 + 5), .inl (cI, 30, .inl x0_4)) := mk0_5
  refine lv_aload_n hx hb d_Li_order_0 rfl (lv_at hl 0 rfl) ?_
  refine va_get (D := D) (ci := 3) (v := .ref (ad (k0 + 1))) (C := R_Li) (T := F_Li) (N := 6) hx hb hts i_Li hown hK hP (k0) mk0_0 rfl 0 (by decide) (hts _ iw_53) (fun _ h9 => h9) rfl d_Li_order_1 ?_
  refine lv_iload_n hx hb d_Li_order_4 rfl (lv_at hl 1 rfl) ?_
  obtain ⟨z1, hf⟩ := g_atE hf
  refine va_iald hx hb hK hP (k0 + 1) 0 mk0_1 rfl z1 d_Li_order_5 ?_
  have bk0_0 : wc_Li cI cG cZ ad (k0) (x0_0, x0_1, x0_2, x0_3, x0_4, x0_5) w0 := ⟨mk0_0, mk0_1, mk0_2, mk0_3, mk0_4, mk0_5⟩
  have e0 := Option.some.inj hf
  exact W.iret (v := x0_0 a1.toNatClampNeg) hx hb hr (fun t ht hW => ⟨⟨x0_0 a1.toNatClampNeg, w0, rfl, ⟨e0, fr⟩, by rw [ht]; exact hP, hD⟩, hS.F ht⟩) hS.2.2 d_Li_order_6
set_option maxHeartbeats 4000000 in
set_option maxRecDepth 100000 in
theorem wl_Li_isLinked_2 {p : Program} {l : Launch} {e : Env} {s : State} {m : MethodId} {args : Array Value} {below : List Frame} {meth : Method} {c : Code} {D : va_G} {cI cG cZ : ClassId} {ad : Nat → Nat} {B : Nat} {w0 : va_W} {N : Nat} {k0 : Nat} (C0 : hw_C p s m meth c b_Li_isLinked 4 args R_Li (some .boolean)) (hK : va_K D classes [(cI, .int), (cG, .array .int), (cZ, .boolean)] s) (hN : hw_N s) (x0_0 : (Nat → Int32)) (x0_1 : (Nat → Int32)) (x0_2 : (Nat → Int32)) (x0_3 : (Nat → Int32)) (x0_4 : (Nat → Int32)) (x0_5 : Int32) (a1 : Int32) (a2 : Int32) (r : Int32) : ∀ (n : Nat) (v3 : Int32) (ws : va_W) (H : Heap) (locs : List Loc) (ls : Array Slot), va_P D classes ws H → va_D (fun q : Nat => B ≤ q) ws → va_S (fun q : Nat => B ≤ q) s.heap H locs → lv_has ls 4 [(3, .int v3), (0, .ref (ad k0)), (1, .int a1), (2, .int a2)] → ws[k0]? = some (ad k0, .inr (3, [.ref (ad (k0 + 1)), .ref (ad (k0 + 2)), .ref (ad (k0 + 3)), .ref (ad (k0 + 4)), .ref (ad (k0 + 5)), .int x0_5])) → ws[k0 + 1]? = some (ad (k0 + 1), .inl (cI, 30, .inl x0_0)) → ws[k0 + 2]? = some (ad (k0 + 2), .inl (cI, 30, .inl x0_1)) → ws[k0 + 3]? = some (ad (k0 + 3), .inl (cI, 120, .inl x0_2)) → ws[k0 + 4]? = some (ad (k0 + 4), .inl (cI, 840, .inl x0_3)) → ws[k0 + 5]? = some (ad (k0 + 5), .inl (cI, 30, .inl x0_4)) → (ws = w0) → f_Li_isLinked_2 N x0_2 x0_3 a1 a2 n v3 = some r → W p l e ({ frames := 1, cells := 0, slots := 0, locals := 23 } : Room) s m args below meth c H locs 0 0 (MQ below (va_Qi (fun (r1 : Int32) (w1 : va_W) => r1 = r ∧ w1 = w0) (hw_B D B) (fun q : Nat => B ≤ q)) args s 0 0 (fun q : Nat => B ≤ q)) (F0 m 2 ls []) := by
  obtain ⟨hx, hb, hr, hml, hown, hts, hlocks⟩ := id C0
  intro n
  induction n with
  | zero =>
    intro v3 ws H locs ls hP hD hS hl mk0_0 mk0_1 mk0_2 mk0_3 mk0_4 mk0_5 fr hf
    exact nomatch (show none = some _ from hf)
  | succ n ih =>
    intro v3 ws H locs ls hP hD hS hl mk0_0 mk0_1 mk0_2 mk0_3 mk0_4 mk0_5 fr hf
    rw [f_Li_isLinked_2] at hf
    refine lv_iload_n hx hb d_Li_isLinked_2 rfl (lv_at hl 0 rfl) ?_
    refine lv_aload_n hx hb d_Li_isLinked_3 rfl (lv_at hl 1 rfl) ?_
    refine lv_iload_n hx hb d_Li_isLinked_4 rfl (lv_at hl 2 rfl) ?_
    refine lv_iconst (v := 0) hx hb d_Li_isLinked_5 (by decide) ?_
    have bk0_0 : wc_Li cI cG cZ ad (k0) (x0_0, x0_1, x0_2, x0_3, x0_4, x0_5) ws := ⟨mk0_0, mk0_1, mk0_2, mk0_3, mk0_4, mk0_5⟩
    obtain ⟨p1, hp1, hf⟩ := g_bd hf
    refine hw_ci0 (va_runV (As := [.int a1, .int 0]) (rest := [.int v3]) ⟨hx, hb, hml, hown, hts⟩ (c_Li_degree l D cI cG cZ ad B ws N k0 x0_0 x0_1 x0_2 x0_3 x0_4 x0_5 a1 0 p1 hp1 bk0_0) (cwV 2 hts (hw_gV iw_552 gy_Li_degree) rfl rfl rfl (by decide +kernel) ⟨Nat.le_of_ble_eq_true rfl, Nat.le_of_ble_eq_true rfl⟩) ⟨hw_blind, va_recv hK hP (ci := 3) (q0 := k0) rfl bk0_0.1, hw_go hP hD hK hN⟩ rfl rfl hl.1 rfl (lv_room (Nat.le_of_ble_eq_true rfl)) d_Li_isLinked_6 ⟨Nat.zero_le _, Nat.zero_le _⟩) hS (fun H locs hP hD hS => ?_)
    refine lv_icmp_ge (tgt := 31) hx hb d_Li_isLinked_9 (by decide) (fun c2 => ?_) (fun c2 => ?_)
    · rw [if_pos c2] at hf
      refine lv_iconst (v := 0) hx hb d_Li_isLinked_31 (by decide) ?_
      have e0 := Option.some.inj hf
      exact W.zret (v := 0) hx hb hr (by decide) (fun t ht hW => ⟨⟨0, ws, rfl, ⟨e0, fr⟩, by rw [ht]; exact hP, hD⟩, hS.F ht⟩) hS.2.2 d_Li_isLinked_32
    · rw [if_neg c2] at hf
      refine lv_aload_n hx hb d_Li_isLinked_12 rfl (lv_at hl 1 rfl) ?_
      refine lv_iload_n hx hb d_Li_isLinked_13 rfl (lv_at hl 2 rfl) ?_
      refine lv_iconst (v := 0) hx hb d_Li_isLinked_14 (by decide) ?_
      refine lv_iload_n hx hb d_Li_isLinked_15 rfl (lv_at hl 0 rfl) ?_
      obtain ⟨p3, hp3, hf⟩ := g_bd hf
      refine hw_ci0 (va_runV (As := [.int a1, .int 0, .int v3]) (rest := []) ⟨hx, hb, hml, hown, hts⟩ (c_Li_linked l D cI cG cZ ad B ws N k0 x0_0 x0_1 x0_2 x0_3 x0_4 x0_5 a1 0 v3 p3 hp3 bk0_0) (cwV 3 hts (hw_gV iw_553 gy_Li_linked) rfl rfl rfl (by decide +kernel) ⟨Nat.le_of_ble_eq_true rfl, Nat.le_of_ble_eq_true rfl⟩) ⟨hw_blind, va_recv hK hP (ci := 3) (q0 := k0) rfl bk0_0.1, hw_go hP hD hK hN⟩ rfl rfl hl.1 rfl (lv_room (Nat.le_of_ble_eq_true rfl)) d_Li_isLinked_16 ⟨Nat.zero_le _, Nat.zero_le _⟩) hS (fun H locs hP hD hS => ?_)
      refine lv_iload_n hx hb d_Li_isLinked_19 rfl (lv_at hl 3 rfl) ?_
      refine lv_icmp_ne (tgt := 25) hx hb d_Li_isLinked_20 (by decide) (fun c4 => ?_) (fun c4 => ?_)
      · rw [if_neg c4] at hf
        refine lv_iinc (v := v3 + 1) (lv' := [(3, .int (v3 + 1)), (0, .ref (ad k0)), (1, .int a1), (2, .int a2)]) hx hb d_Li_isLinked_25 hl (k := 0) rfl rfl (by decide) rfl (fun ls hl => ?_)
        refine lv_goto (tgt := 2) hx hb d_Li_isLinked_28 (by decide) ?_
        obtain ⟨mk0_0, mk0_1, mk0_2, mk0_3, mk0_4, mk0_5⟩ := id bk0_0
        have mk0_0 : ws[k0]? = some (ad k0, .inr (3, [.ref (ad (k0 + 1)), .ref (ad (k0 + 2)), .ref (ad (k0 + 3)), .ref (ad (k0 + 4)), .ref (ad (k0 + 5)), .int x0_5])) := mk0_0
        have mk0_1 : ws[k0 + 1]? = some (ad (k0 + 1), .inl (cI, 30, .inl x0_0)) := mk0_1
        have mk0_2 : ws[k0 + 2]? = some (ad (k0 + 2), .inl (cI, 30, .inl x0_1)) := mk0_2
        have mk0_3 : ws[k0 + 3]? = some (ad (k0 + 3), .inl (cI, 120, .inl x0_2)) := mk0_3
        have mk0_4 : ws[k0 + 4]? = some (ad (k0 + 4), .inl (cI, 840, .inl x0_3)) := mk0_4
        have mk0_5 : ws[k0 + 5]? = some (ad (k0 + 5), .inl (cI, 30, .inl x0_4)) := mk0_5
        exact ih (v3 + 1) _ _ _ _ hP hD hS (lv_sub hl [0, 1, 2, 3] rfl) mk0_0 mk0_1 mk0_2 mk0_3 mk0_4 mk0_5 fr hf
      · rw [if_pos c4] at hf
        refine lv_iconst (v := 1) hx hb d_Li_isLinked_23 (by decide) ?_
        have e0 := Option.some.inj hf
        exact W.zret (v := 1) hx hb hr (by decide) (fun t ht hW => ⟨⟨1, ws, rfl, ⟨e0, fr⟩, by rw [ht]; exact hP, hD⟩, hS.F ht⟩) hS.2.2 d_Li_isLinked_24
set_option maxHeartbeats 4000000 in
set_option maxRecDepth 100000 in
theorem c_Li_isLinked (l : Launch) (D : va_G) (cI cG cZ : ClassId) (ad : Nat → Nat) (B : Nat) (w0 : va_W) (N : Nat) (k0 : Nat) (x0_0 : (Nat → Int32)) (x0_1 : (Nat → Int32)) (x0_2 : (Nat → Int32)) (x0_3 : (Nat → Int32)) (x0_4 : (Nat → Int32)) (x0_5 : Int32) (a1 : Int32) (a2 : Int32) (r : Int32) (hf : f_Li_isLinked N x0_2 x0_3 a1 a2 = some r) (bk0_0 : wc_Li cI cG cZ ad k0 (x0_0, x0_1, x0_2, x0_3, x0_4, x0_5) w0) : Met l y_Li_isLinked (.code y_Li_isLinked b_Li_isLinked 4 (some .boolean) :: hw_G) ({ frames := 1, cells := 0, slots := 0, locals := 23 } : Room) (va_Pc [.ref (ad k0), .int a1, .int a2] (hw_U D cI cG cZ B w0)) (va_Qi (fun (r1 : Int32) (w1 : va_W) => r1 = r ∧ w1 = w0) (hw_B D B) (fun q : Nat => B ≤ q)) 0 0 (fun q : Nat => B ≤ q) := by
  refine Met.ofW (cc := b_Li_isLinked) (maxL := 4) (ret := (some .boolean)) (by decide) rfl ?_
  intro p e s m args below meth c s₁ Bd hml hv
  obtain ⟨rfl, hP, hD, hK, hN⟩ := hv
  have C0 : hw_C p s m meth c b_Li_isLinked 4 _ R_Li (some .boolean) := ⟨Bd.exec, Bd.bytes, Bd.returns, hml, findClass_of_methodNamed Bd.named, fun w h => atoms_spec (ws := .code y_Li_isLinked b_Li_isLinked 4 (some .boolean) :: hw_G) Bd.pre w (List.mem_cons_of_mem _ h), Bd.notSynchronized⟩
  obtain ⟨hx, hb, hr, -, hown, hts, hlocks⟩ := id C0
  have hS : va_S (fun q : Nat => B ≤ q) s.heap s.heap [] := va_S.rf
  have fr : w0 = w0 := rfl
  have hl := lv_entry ([.ref (ad k0), .int a1, .int a2]) (n := 4) (Nat.le_of_ble_eq_true rfl)
  rw [lg_entry_eq]
  generalize (lg_sl ([.ref (ad k0), .int a1, .int a2]) ++ List.replicate (4 - (lg_sl ([.ref (ad k0), .int a1, .int a2])).length) Slot.unset).toArray = ls at hl ⊢
  have hl : lv_has ls 4 [(0, .ref (ad k0)), (1, .int a1), (2, .int a2)] := hl
  unfold f_Li_isLinked at hf
  obtain ⟨mk0_0, mk0_1, mk0_2, mk0_3, mk0_4, mk0_5⟩ := id bk0_0
  have mk0_0 : w0[k0]? = some (ad k0, .inr (3, [.ref (ad (k0 + 1)), .ref (ad (k0 + 2)), .ref (ad (k0 + 3)), .ref (ad (k0 + 4)), .ref (ad (k0 + 5)), .int x0_5])) := mk0_0
  have mk0_1 : w0[k0 + 1]? = some (ad (k0 + 1), .inl (cI, 30, .inl x0_0)) := mk0_1
  have mk0_2 : w0[k0 + 2]? = some (ad (k0 + 2), .inl (cI, 30, .inl x0_1)) := mk0_2
  have mk0_3 : w0[k0 + 3]? = some (ad (k0 + 3), .inl (cI, 120, .inl x0_2)) := mk0_3
  have mk0_4 : w0[k0 + 4]? = some (ad (k0 + 4), .inl (cI, 840, .inl x0_3)) := mk0_4
  have mk0_5 : w0[k0 + 5]? = some (ad (k0 + 5), .inl (cI, 30, .inl x0_4)) := mk0_5
  refine lv_iconst (v := 0) hx hb d_Li_isLinked_0 (by decide) ?_
  refine lv_istore_n (lv' := [(3, .int 0), (0, .ref (ad k0)), (1, .int a1), (2, .int a2)]) hx hb d_Li_isLinked_1 rfl hl (by decide) rfl (fun ls hl => ?_)
  exact wl_Li_isLinked_2 (ad := ad) C0 hK hN x0_0 x0_1 x0_2 x0_3 x0_4 x0_5 a1 a2 r N 0 _ _ _ _ hP hD hS (lv_sub hl [0, 1, 2, 3] rfl) mk0_0 mk0_1 mk0_2 mk0_3 mk0_4 mk0_5 fr hf
set_option maxHeartbeats 4000000 in
set_option maxRecDepth 100000 in
theorem wl_Li_unreturned_4 {p : Program} {l : Launch} {e : Env} {s : State} {m : MethodId} {args : Array Value} {below : List Frame} {meth : Method} {c : Code} {D : va_G} {cI cG cZ : ClassId} {ad : Nat → Nat} {B : Nat} {w0 : va_W} {N : Nat} {k0 : Nat} (C0 : hw_C p s m meth c b_Li_unreturned 4 args R_Li (some .int)) (hK : va_K D classes [(cI, .int), (cG, .array .int), (cZ, .boolean)] s) (hN : hw_N s) (x0_0 : (Nat → Int32)) (x0_1 : (Nat → Int32)) (x0_2 : (Nat → Int32)) (x0_3 : (Nat → Int32)) (x0_4 : (Nat → Int32)) (x0_5 : Int32) (a1 : Int32) (r : Int32) : ∀ (n : Nat) (v2 : Int32) (v3 : Int32) (ws : va_W) (H : Heap) (locs : List Loc) (ls : Array Slot), va_P D classes ws H → va_D (fun q : Nat => B ≤ q) ws → va_S (fun q : Nat => B ≤ q) s.heap H locs → lv_has ls 4 [(3, .int v3), (2, .int v2), (0, .ref (ad k0)), (1, .int a1)] → ws[k0]? = some (ad k0, .inr (3, [.ref (ad (k0 + 1)), .ref (ad (k0 + 2)), .ref (ad (k0 + 3)), .ref (ad (k0 + 4)), .ref (ad (k0 + 5)), .int x0_5])) → ws[k0 + 1]? = some (ad (k0 + 1), .inl (cI, 30, .inl x0_0)) → ws[k0 + 2]? = some (ad (k0 + 2), .inl (cI, 30, .inl x0_1)) → ws[k0 + 3]? = some (ad (k0 + 3), .inl (cI, 120, .inl x0_2)) → ws[k0 + 4]? = some (ad (k0 + 4), .inl (cI, 840, .inl x0_3)) → ws[k0 + 5]? = some (ad (k0 + 5), .inl (cI, 30, .inl x0_4)) → (ws = w0) → f_Li_unreturned_4 N x0_2 x0_3 a1 n v2 v3 = some r → W p l e ({ frames := 2, cells := 0, slots := 0, locals := 46 } : Room) s m args below meth c H locs 0 0 (MQ below (va_Qi (fun (r1 : Int32) (w1 : va_W) => r1 = r ∧ w1 = w0) (hw_B D B) (fun q : Nat => B ≤ q)) args s 0 0 (fun q : Nat => B ≤ q)) (F0 m 4 ls []) := by
  obtain ⟨hx, hb, hr, hml, hown, hts, hlocks⟩ := id C0
  intro n
  induction n with
  | zero =>
    intro v2 v3 ws H locs ls hP hD hS hl mk0_0 mk0_1 mk0_2 mk0_3 mk0_4 mk0_5 fr hf
    exact nomatch (show none = some _ from hf)
  | succ n ih =>
    intro v2 v3 ws H locs ls hP hD hS hl mk0_0 mk0_1 mk0_2 mk0_3 mk0_4 mk0_5 fr hf
    rw [f_Li_unreturned_4] at hf
    refine lv_iload_n hx hb d_Li_unreturned_4 rfl (lv_at hl 0 rfl) ?_
    refine lv_aload_n hx hb d_Li_unreturned_5 rfl (lv_at hl 2 rfl) ?_
    refine lv_iload_n hx hb d_Li_unreturned_6 rfl (lv_at hl 3 rfl) ?_
    refine lv_iconst (v := 0) hx hb d_Li_unreturned_7 (by decide) ?_
    have bk0_0 : wc_Li cI cG cZ ad (k0) (x0_0, x0_1, x0_2, x0_3, x0_4, x0_5) ws := ⟨mk0_0, mk0_1, mk0_2, mk0_3, mk0_4, mk0_5⟩
    obtain ⟨p1, hp1, hf⟩ := g_bd hf
    refine hw_ci0 (va_runV (As := [.int a1, .int 0]) (rest := [.int v3]) ⟨hx, hb, hml, hown, hts⟩ (c_Li_degree l D cI cG cZ ad B ws N k0 x0_0 x0_1 x0_2 x0_3 x0_4 x0_5 a1 0 p1 hp1 bk0_0) (cwV 2 hts (hw_gV iw_552 gy_Li_degree) rfl rfl rfl (by decide +kernel) ⟨Nat.le_of_ble_eq_true rfl, Nat.le_of_ble_eq_true rfl⟩) ⟨hw_blind, va_recv hK hP (ci := 3) (q0 := k0) rfl bk0_0.1, hw_go hP hD hK hN⟩ rfl rfl hl.1 rfl (lv_room (Nat.le_of_ble_eq_true rfl)) d_Li_unreturned_8 ⟨Nat.zero_le _, Nat.zero_le _⟩) hS (fun H locs hP hD hS => ?_)
    refine lv_icmp_ge (tgt := 38) hx hb d_Li_unreturned_11 (by decide) (fun c2 => ?_) (fun c2 => ?_)
    · rw [if_pos c2] at hf
      refine lv_iload_n hx hb d_Li_unreturned_38 rfl (lv_at hl 1 rfl) ?_
      have e0 := Option.some.inj hf
      exact W.iret (v := v2) hx hb hr (fun t ht hW => ⟨⟨v2, ws, rfl, ⟨e0, fr⟩, by rw [ht]; exact hP, hD⟩, hS.F ht⟩) hS.2.2 d_Li_unreturned_39
    · rw [if_neg c2] at hf
      refine lv_aload_n hx hb d_Li_unreturned_14 rfl (lv_at hl 2 rfl) ?_
      refine lv_aload_n hx hb d_Li_unreturned_15 rfl (lv_at hl 2 rfl) ?_
      refine lv_iload_n hx hb d_Li_unreturned_16 rfl (lv_at hl 3 rfl) ?_
      refine lv_iconst (v := 0) hx hb d_Li_unreturned_17 (by decide) ?_
      refine lv_iload_n hx hb d_Li_unreturned_18 rfl (lv_at hl 0 rfl) ?_
      obtain ⟨p3, hp3, hf⟩ := g_bd hf
      refine hw_ci0 (va_runV (As := [.int a1, .int 0, .int v3]) (rest := [.ref (ad k0)]) ⟨hx, hb, hml, hown, hts⟩ (c_Li_linked l D cI cG cZ ad B ws N k0 x0_0 x0_1 x0_2 x0_3 x0_4 x0_5 a1 0 v3 p3 hp3 bk0_0) (cwV 3 hts (hw_gV iw_553 gy_Li_linked) rfl rfl rfl (by decide +kernel) ⟨Nat.le_of_ble_eq_true rfl, Nat.le_of_ble_eq_true rfl⟩) ⟨hw_blind, va_recv hK hP (ci := 3) (q0 := k0) rfl bk0_0.1, hw_go hP hD hK hN⟩ rfl rfl hl.1 rfl (lv_room (Nat.le_of_ble_eq_true rfl)) d_Li_unreturned_19 ⟨Nat.zero_le _, Nat.zero_le _⟩) hS (fun H locs hP hD hS => ?_)
      refine lv_iload_n hx hb d_Li_unreturned_22 rfl (lv_at hl 3 rfl) ?_
      obtain ⟨p4, hp4, hf⟩ := g_bd hf
      refine hw_ci0 (va_runV (As := [.int p3, .int a1]) (rest := []) ⟨hx, hb, hml, hown, hts⟩ (c_Li_isLinked l D cI cG cZ ad B ws N k0 x0_0 x0_1 x0_2 x0_3 x0_4 x0_5 p3 a1 p4 hp4 bk0_0) (cwV 2 hts (hw_gV iw_554 gy_Li_isLinked) rfl rfl rfl (by decide +kernel) ⟨Nat.le_of_ble_eq_true rfl, Nat.le_of_ble_eq_true rfl⟩) ⟨hw_blind, va_recv hK hP (ci := 3) (q0 := k0) rfl bk0_0.1, hw_go hP hD hK hN⟩ rfl rfl hl.1 rfl (lv_room (Nat.le_of_ble_eq_true rfl)) d_Li_unreturned_23 ⟨Nat.zero_le _, Nat.zero_le _⟩) hS (fun H locs hP hD hS => ?_)
      refine lv_if_ne (tgt := 32) hx hb d_Li_unreturned_26 (by decide) (fun c5 => ?_) (fun c5 => ?_)
      · rw [if_neg c5] at hf
        refine lv_iinc (v := v3 + 1) (lv' := [(3, .int (v3 + 1)), (2, .int v2), (0, .ref (ad k0)), (1, .int a1)]) hx hb d_Li_unreturned_32 hl (k := 0) rfl rfl (by decide) rfl (fun ls hl => ?_)
        refine lv_goto (tgt := 4) hx hb d_Li_unreturned_35 (by decide) ?_
        obtain ⟨mk0_0, mk0_1, mk0_2, mk0_3, mk0_4, mk0_5⟩ := id bk0_0
        have mk0_0 : ws[k0]? = some (ad k0, .inr (3, [.ref (ad (k0 + 1)), .ref (ad (k0 + 2)), .ref (ad (k0 + 3)), .ref (ad (k0 + 4)), .ref (ad (k0 + 5)), .int x0_5])) := mk0_0
        have mk0_1 : ws[k0 + 1]? = some (ad (k0 + 1), .inl (cI, 30, .inl x0_0)) := mk0_1
        have mk0_2 : ws[k0 + 2]? = some (ad (k0 + 2), .inl (cI, 30, .inl x0_1)) := mk0_2
        have mk0_3 : ws[k0 + 3]? = some (ad (k0 + 3), .inl (cI, 120, .inl x0_2)) := mk0_3
        have mk0_4 : ws[k0 + 4]? = some (ad (k0 + 4), .inl (cI, 840, .inl x0_3)) := mk0_4
        have mk0_5 : ws[k0 + 5]? = some (ad (k0 + 5), .inl (cI, 30, .inl x0_4)) := mk0_5
        exact ih v2 (v3 + 1) _ _ _ _ hP hD hS (lv_sub hl [0, 1, 2, 3] rfl) mk0_0 mk0_1 mk0_2 mk0_3 mk0_4 mk0_5 fr hf
      · rw [if_pos c5] at hf
        refine lv_iinc (v := v2 + 1) (lv' := [(2, .int (v2 + 1)), (3, .int v3), (0, .ref (ad k0)), (1, .int a1)]) hx hb d_Li_unreturned_29 hl (k := 1) rfl rfl (by decide) rfl (fun ls hl => ?_)
        refine lv_iinc (v := v3 + 1) (lv' := [(3, .int (v3 + 1)), (2, .int (v2 + 1)), (0, .ref (ad k0)), (1, .int a1)]) hx hb d_Li_unreturned_32 hl (k := 1) rfl rfl (by decide) rfl (fun ls hl => ?_)
        refine lv_goto (tgt := 4) hx hb d_Li_unreturned_35 (by decide) ?_
        obtain ⟨mk0_0, mk0_1, mk0_2, mk0_3, mk0_4, mk0_5⟩ := id bk0_0
        have mk0_0 : ws[k0]? = some (ad k0, .inr (3, [.ref (ad (k0 + 1)), .ref (ad (k0 + 2)), .ref (ad (k0 + 3)), .ref (ad (k0 + 4)), .ref (ad (k0 + 5)), .int x0_5])) := mk0_0
        have mk0_1 : ws[k0 + 1]? = some (ad (k0 + 1), .inl (cI, 30, .inl x0_0)) := mk0_1
        have mk0_2 : ws[k0 + 2]? = some (ad (k0 + 2), .inl (cI, 30, .inl x0_1)) := mk0_2
        have mk0_3 : ws[k0 + 3]? = some (ad (k0 + 3), .inl (cI, 120, .inl x0_2)) := mk0_3
        have mk0_4 : ws[k0 + 4]? = some (ad (k0 + 4), .inl (cI, 840, .inl x0_3)) := mk0_4
        have mk0_5 : ws[k0 + 5]? = some (ad (k0 + 5), .inl (cI, 30, .inl x0_4)) := mk0_5
        exact ih (v2 + 1) (v3 + 1) _ _ _ _ hP hD hS (lv_sub hl [0, 1, 2, 3] rfl) mk0_0 mk0_1 mk0_2 mk0_3 mk0_4 mk0_5 fr hf
set_option maxHeartbeats 4000000 in
set_option maxRecDepth 100000 in
theorem c_Li_unreturned (l : Launch) (D : va_G) (cI cG cZ : ClassId) (ad : Nat → Nat) (B : Nat) (w0 : va_W) (N : Nat) (k0 : Nat) (x0_0 : (Nat → Int32)) (x0_1 : (Nat → Int32)) (x0_2 : (Nat → Int32)) (x0_3 : (Nat → Int32)) (x0_4 : (Nat → Int32)) (x0_5 : Int32) (a1 : Int32) (r : Int32) (hf : f_Li_unreturned N x0_2 x0_3 a1 = some r) (bk0_0 : wc_Li cI cG cZ ad k0 (x0_0, x0_1, x0_2, x0_3, x0_4, x0_5) w0) : Met l y_Li_unreturned (.code y_Li_unreturned b_Li_unreturned 4 (some .int) :: hw_G) ({ frames := 2, cells := 0, slots := 0, locals := 46 } : Room) (va_Pc [.ref (ad k0), .int a1] (hw_U D cI cG cZ B w0)) (va_Qi (fun (r1 : Int32) (w1 : va_W) => r1 = r ∧ w1 = w0) (hw_B D B) (fun q : Nat => B ≤ q)) 0 0 (fun q : Nat => B ≤ q) := by
  refine Met.ofW (cc := b_Li_unreturned) (maxL := 4) (ret := (some .int)) (by decide) rfl ?_
  intro p e s m args below meth c s₁ Bd hml hv
  obtain ⟨rfl, hP, hD, hK, hN⟩ := hv
  have C0 : hw_C p s m meth c b_Li_unreturned 4 _ R_Li (some .int) := ⟨Bd.exec, Bd.bytes, Bd.returns, hml, findClass_of_methodNamed Bd.named, fun w h => atoms_spec (ws := .code y_Li_unreturned b_Li_unreturned 4 (some .int) :: hw_G) Bd.pre w (List.mem_cons_of_mem _ h), Bd.notSynchronized⟩
  obtain ⟨hx, hb, hr, -, hown, hts, hlocks⟩ := id C0
  have hS : va_S (fun q : Nat => B ≤ q) s.heap s.heap [] := va_S.rf
  have fr : w0 = w0 := rfl
  have hl := lv_entry ([.ref (ad k0), .int a1]) (n := 4) (Nat.le_of_ble_eq_true rfl)
  rw [lg_entry_eq]
  generalize (lg_sl ([.ref (ad k0), .int a1]) ++ List.replicate (4 - (lg_sl ([.ref (ad k0), .int a1])).length) Slot.unset).toArray = ls at hl ⊢
  have hl : lv_has ls 4 [(0, .ref (ad k0)), (1, .int a1)] := hl
  unfold f_Li_unreturned at hf
  obtain ⟨mk0_0, mk0_1, mk0_2, mk0_3, mk0_4, mk0_5⟩ := id bk0_0
  have mk0_0 : w0[k0]? = some (ad k0, .inr (3, [.ref (ad (k0 + 1)), .ref (ad (k0 + 2)), .ref (ad (k0 + 3)), .ref (ad (k0 + 4)), .ref (ad (k0 + 5)), .int x0_5])) := mk0_0
  have mk0_1 : w0[k0 + 1]? = some (ad (k0 + 1), .inl (cI, 30, .inl x0_0)) := mk0_1
  have mk0_2 : w0[k0 + 2]? = some (ad (k0 + 2), .inl (cI, 30, .inl x0_1)) := mk0_2
  have mk0_3 : w0[k0 + 3]? = some (ad (k0 + 3), .inl (cI, 120, .inl x0_2)) := mk0_3
  have mk0_4 : w0[k0 + 4]? = some (ad (k0 + 4), .inl (cI, 840, .inl x0_3)) := mk0_4
  have mk0_5 : w0[k0 + 5]? = some (ad (k0 + 5), .inl (cI, 30, .inl x0_4)) := mk0_5
  refine lv_iconst (v := 0) hx hb d_Li_unreturned_0 (by decide) ?_
  refine lv_istore_n (lv' := [(2, .int 0), (0, .ref (ad k0)), (1, .int a1)]) hx hb d_Li_unreturned_1 rfl hl (by decide) rfl (fun ls hl => ?_)
  refine lv_iconst (v := 0) hx hb d_Li_unreturned_2 (by decide) ?_
  refine lv_istore_n (lv' := [(3, .int 0), (2, .int 0), (0, .ref (ad k0)), (1, .int a1)]) hx hb d_Li_unreturned_3 rfl hl (by decide) rfl (fun ls hl => ?_)
  exact wl_Li_unreturned_4 (ad := ad) C0 hK hN x0_0 x0_1 x0_2 x0_3 x0_4 x0_5 a1 r N 0 0 _ _ _ _ hP hD hS (lv_sub hl [0, 1, 2, 3] rfl) mk0_0 mk0_1 mk0_2 mk0_3 mk0_4 mk0_5 fr hf
set_option maxHeartbeats 4000000 in
set_option maxRecDepth 100000 in
theorem wl_Li_oneSidedPairs_4 {p : Program} {l : Launch} {e : Env} {s : State} {m : MethodId} {args : Array Value} {below : List Frame} {meth : Method} {c : Code} {D : va_G} {cI cG cZ : ClassId} {ad : Nat → Nat} {B : Nat} {w0 : va_W} {N : Nat} {k0 : Nat} (C0 : hw_C p s m meth c b_Li_oneSidedPairs 3 args R_Li (some .int)) (hK : va_K D classes [(cI, .int), (cG, .array .int), (cZ, .boolean)] s) (hN : hw_N s) (x0_0 : (Nat → Int32)) (x0_1 : (Nat → Int32)) (x0_2 : (Nat → Int32)) (x0_3 : (Nat → Int32)) (x0_4 : (Nat → Int32)) (x0_5 : Int32) (r : Int32) : ∀ (n : Nat) (v1 : Int32) (v2 : Int32) (ws : va_W) (H : Heap) (locs : List Loc) (ls : Array Slot), va_P D classes ws H → va_D (fun q : Nat => B ≤ q) ws → va_S (fun q : Nat => B ≤ q) s.heap H locs → lv_has ls 3 [(2, .int v2), (1, .int v1), (0, .ref (ad k0))] → ws[k0]? = some (ad k0, .inr (3, [.ref (ad (k0 + 1)), .ref (ad (k0 + 2)), .ref (ad (k0 + 3)), .ref (ad (k0 + 4)), .ref (ad (k0 + 5)), .int x0_5])) → ws[k0 + 1]? = some (ad (k0 + 1), .inl (cI, 30, .inl x0_0)) → ws[k0 + 2]? = some (ad (k0 + 2), .inl (cI, 30, .inl x0_1)) → ws[k0 + 3]? = some (ad (k0 + 3), .inl (cI, 120, .inl x0_2)) → ws[k0 + 4]? = some (ad (k0 + 4), .inl (cI, 840, .inl x0_3)) → ws[k0 + 5]? = some (ad (k0 + 5), .inl (cI, 30, .inl x0_4)) → (ws = w0) → f_Li_oneSidedPairs_4 N x0_0 x0_2 x0_3 n v1 v2 = some r → W p l e ({ frames := 3, cells := 0, slots := 0, locals := 69 } : Room) s m args below meth c H locs 0 0 (MQ below (va_Qi (fun (r1 : Int32) (w1 : va_W) => r1 = r ∧ w1 = w0) (hw_B D B) (fun q : Nat => B ≤ q)) args s 0 0 (fun q : Nat => B ≤ q)) (F0 m 4 ls []) := by
  obtain ⟨hx, hb, hr, hml, hown, hts, hlocks⟩ := id C0
  intro n
  induction n with
  | zero =>
    intro v1 v2 ws H locs ls hP hD hS hl mk0_0 mk0_1 mk0_2 mk0_3 mk0_4 mk0_5 fr hf
    exact nomatch (show none = some _ from hf)
  | succ n ih =>
    intro v1 v2 ws H locs ls hP hD hS hl mk0_0 mk0_1 mk0_2 mk0_3 mk0_4 mk0_5 fr hf
    rw [f_Li_oneSidedPairs_4] at hf
    refine lv_iload_n hx hb d_Li_oneSidedPairs_4 rfl (lv_at hl 0 rfl) ?_
    refine lv_bipush (v := 30) hx hb d_Li_oneSidedPairs_5 (by decide) ?_
    refine lv_icmp_ge (tgt := 32) hx hb d_Li_oneSidedPairs_7 (by decide) (fun c1 => ?_) (fun c1 => ?_)
    · rw [if_pos c1] at hf
      refine lv_iload_n hx hb d_Li_oneSidedPairs_32 rfl (lv_at hl 1 rfl) ?_
      have bk0_0 : wc_Li cI cG cZ ad (k0) (x0_0, x0_1, x0_2, x0_3, x0_4, x0_5) ws := ⟨mk0_0, mk0_1, mk0_2, mk0_3, mk0_4, mk0_5⟩
      have e0 := Option.some.inj hf
      exact W.iret (v := v1) hx hb hr (fun t ht hW => ⟨⟨v1, ws, rfl, ⟨e0, fr⟩, by rw [ht]; exact hP, hD⟩, hS.F ht⟩) hS.2.2 d_Li_oneSidedPairs_33
    · rw [if_neg c1] at hf
      refine lv_aload_n hx hb d_Li_oneSidedPairs_10 rfl (lv_at hl 2 rfl) ?_
      refine lv_iload_n hx hb d_Li_oneSidedPairs_11 rfl (lv_at hl 0 rfl) ?_
      have bk0_0 : wc_Li cI cG cZ ad (k0) (x0_0, x0_1, x0_2, x0_3, x0_4, x0_5) ws := ⟨mk0_0, mk0_1, mk0_2, mk0_3, mk0_4, mk0_5⟩
      obtain ⟨p2, hp2, hf⟩ := g_bd hf
      refine hw_ci0 (va_runV (As := [.int v2]) (rest := []) ⟨hx, hb, hml, hown, hts⟩ (c_Li_isNode l D cI cG cZ ad B ws N k0 x0_0 x0_1 x0_2 x0_3 x0_4 x0_5 v2 p2 hp2 bk0_0) (cwV 1 hts (hw_gV iw_498 gy_Li_isNode) rfl rfl rfl (by decide +kernel) ⟨Nat.le_of_ble_eq_true rfl, Nat.le_of_ble_eq_true rfl⟩) ⟨hw_blind, va_recv hK hP (ci := 3) (q0 := k0) rfl bk0_0.1, hw_go hP hD hK hN⟩ rfl rfl hl.1 rfl (lv_room (Nat.le_of_ble_eq_true rfl)) d_Li_oneSidedPairs_12 ⟨Nat.zero_le _, Nat.zero_le _⟩) hS (fun H locs hP hD hS => ?_)
      refine lv_if_eq (tgt := 26) hx hb d_Li_oneSidedPairs_15 (by decide) (fun c3 => ?_) (fun c3 => ?_)
      · rw [if_pos c3] at hf
        refine lv_iinc (v := v2 + 1) (lv' := [(2, .int (v2 + 1)), (1, .int v1), (0, .ref (ad k0))]) hx hb d_Li_oneSidedPairs_26 hl (k := 0) rfl rfl (by decide) rfl (fun ls hl => ?_)
        refine lv_goto (tgt := 4) hx hb d_Li_oneSidedPairs_29 (by decide) ?_
        obtain ⟨mk0_0, mk0_1, mk0_2, mk0_3, mk0_4, mk0_5⟩ := id bk0_0
        have mk0_0 : ws[k0]? = some (ad k0, .inr (3, [.ref (ad (k0 + 1)), .ref (ad (k0 + 2)), .ref (ad (k0 + 3)), .ref (ad (k0 + 4)), .ref (ad (k0 + 5)), .int x0_5])) := mk0_0
        have mk0_1 : ws[k0 + 1]? = some (ad (k0 + 1), .inl (cI, 30, .inl x0_0)) := mk0_1
        have mk0_2 : ws[k0 + 2]? = some (ad (k0 + 2), .inl (cI, 30, .inl x0_1)) := mk0_2
        have mk0_3 : ws[k0 + 3]? = some (ad (k0 + 3), .inl (cI, 120, .inl x0_2)) := mk0_3
        have mk0_4 : ws[k0 + 4]? = some (ad (k0 + 4), .inl (cI, 840, .inl x0_3)) := mk0_4
        have mk0_5 : ws[k0 + 5]? = some (ad (k0 + 5), .inl (cI, 30, .inl x0_4)) := mk0_5
        exact ih v1 (v2 + 1) _ _ _ _ hP hD hS (lv_sub hl [0, 1, 2] rfl) mk0_0 mk0_1 mk0_2 mk0_3 mk0_4 mk0_5 fr hf
      · rw [if_neg c3] at hf
        refine lv_iload_n hx hb d_Li_oneSidedPairs_18 rfl (lv_at hl 1 rfl) ?_
        refine lv_aload_n hx hb d_Li_oneSidedPairs_19 rfl (lv_at hl 2 rfl) ?_
        refine lv_iload_n hx hb d_Li_oneSidedPairs_20 rfl (lv_at hl 0 rfl) ?_
        obtain ⟨p4, hp4, hf⟩ := g_bd hf
        refine hw_ci0 (va_runV (As := [.int v2]) (rest := [.int v1]) ⟨hx, hb, hml, hown, hts⟩ (c_Li_unreturned l D cI cG cZ ad B ws N k0 x0_0 x0_1 x0_2 x0_3 x0_4 x0_5 v2 p4 hp4 bk0_0) (cwV 1 hts (hw_gV iw_548 gy_Li_unreturned) rfl rfl rfl (by decide +kernel) ⟨Nat.le_of_ble_eq_true rfl, Nat.le_of_ble_eq_true rfl⟩) ⟨hw_blind, va_recv hK hP (ci := 3) (q0 := k0) rfl bk0_0.1, hw_go hP hD hK hN⟩ rfl rfl hl.1 rfl (lv_room (Nat.le_of_ble_eq_true rfl)) d_Li_oneSidedPairs_21 ⟨Nat.zero_le _, Nat.zero_le _⟩) hS (fun H locs hP hD hS => ?_)
        refine lv_iadd hx hb d_Li_oneSidedPairs_24 ?_
        refine lv_istore_n (lv' := [(1, .int (v1 + p4)), (2, .int v2), (0, .ref (ad k0))]) hx hb d_Li_oneSidedPairs_25 rfl hl (by decide) rfl (fun ls hl => ?_)
        refine lv_iinc (v := v2 + 1) (lv' := [(2, .int (v2 + 1)), (1, .int (v1 + p4)), (0, .ref (ad k0))]) hx hb d_Li_oneSidedPairs_26 hl (k := 1) rfl rfl (by decide) rfl (fun ls hl => ?_)
        refine lv_goto (tgt := 4) hx hb d_Li_oneSidedPairs_29 (by decide) ?_
        obtain ⟨mk0_0, mk0_1, mk0_2, mk0_3, mk0_4, mk0_5⟩ := id bk0_0
        have mk0_0 : ws[k0]? = some (ad k0, .inr (3, [.ref (ad (k0 + 1)), .ref (ad (k0 + 2)), .ref (ad (k0 + 3)), .ref (ad (k0 + 4)), .ref (ad (k0 + 5)), .int x0_5])) := mk0_0
        have mk0_1 : ws[k0 + 1]? = some (ad (k0 + 1), .inl (cI, 30, .inl x0_0)) := mk0_1
        have mk0_2 : ws[k0 + 2]? = some (ad (k0 + 2), .inl (cI, 30, .inl x0_1)) := mk0_2
        have mk0_3 : ws[k0 + 3]? = some (ad (k0 + 3), .inl (cI, 120, .inl x0_2)) := mk0_3
        have mk0_4 : ws[k0 + 4]? = some (ad (k0 + 4), .inl (cI, 840, .inl x0_3)) := mk0_4
        have mk0_5 : ws[k0 + 5]? = some (ad (k0 + 5), .inl (cI, 30, .inl x0_4)) := mk0_5
        exact ih (v1 + p4) (v2 + 1) _ _ _ _ hP hD hS (lv_sub hl [0, 1, 2] rfl) mk0_0 mk0_1 mk0_2 mk0_3 mk0_4 mk0_5 fr hf
set_option maxHeartbeats 4000000 in
set_option maxRecDepth 100000 in
theorem c_Li_oneSidedPairs (l : Launch) (D : va_G) (cI cG cZ : ClassId) (ad : Nat → Nat) (B : Nat) (w0 : va_W) (N : Nat) (k0 : Nat) (x0_0 : (Nat → Int32)) (x0_1 : (Nat → Int32)) (x0_2 : (Nat → Int32)) (x0_3 : (Nat → Int32)) (x0_4 : (Nat → Int32)) (x0_5 : Int32) (r : Int32) (hf : f_Li_oneSidedPairs N x0_0 x0_2 x0_3 = some r) (bk0_0 : wc_Li cI cG cZ ad k0 (x0_0, x0_1, x0_2, x0_3, x0_4, x0_5) w0) : Met l y_Li_oneSidedPairs (.code y_Li_oneSidedPairs b_Li_oneSidedPairs 3 (some .int) :: hw_G) ({ frames := 3, cells := 0, slots := 0, locals := 69 } : Room) (va_Pc [.ref (ad k0)] (hw_U D cI cG cZ B w0)) (va_Qi (fun (r1 : Int32) (w1 : va_W) => r1 = r ∧ w1 = w0) (hw_B D B) (fun q : Nat => B ≤ q)) 0 0 (fun q : Nat => B ≤ q) := by
  refine Met.ofW (cc := b_Li_oneSidedPairs) (maxL := 3) (ret := (some .int)) (by decide) rfl ?_
  intro p e s m args below meth c s₁ Bd hml hv
  obtain ⟨rfl, hP, hD, hK, hN⟩ := hv
  have C0 : hw_C p s m meth c b_Li_oneSidedPairs 3 _ R_Li (some .int) := ⟨Bd.exec, Bd.bytes, Bd.returns, hml, findClass_of_methodNamed Bd.named, fun w h => atoms_spec (ws := .code y_Li_oneSidedPairs b_Li_oneSidedPairs 3 (some .int) :: hw_G) Bd.pre w (List.mem_cons_of_mem _ h), Bd.notSynchronized⟩
  obtain ⟨hx, hb, hr, -, hown, hts, hlocks⟩ := id C0
  have hS : va_S (fun q : Nat => B ≤ q) s.heap s.heap [] := va_S.rf
  have fr : w0 = w0 := rfl
  have hl := lv_entry ([.ref (ad k0)]) (n := 3) (Nat.le_of_ble_eq_true rfl)
  rw [lg_entry_eq]
  generalize (lg_sl ([.ref (ad k0)]) ++ List.replicate (3 - (lg_sl ([.ref (ad k0)])).length) Slot.unset).toArray = ls at hl ⊢
  have hl : lv_has ls 3 [(0, .ref (ad k0))] := hl
  unfold f_Li_oneSidedPairs at hf
  obtain ⟨mk0_0, mk0_1, mk0_2, mk0_3, mk0_4, mk0_5⟩ := id bk0_0
  have mk0_0 : w0[k0]? = some (ad k0, .inr (3, [.ref (ad (k0 + 1)), .ref (ad (k0 + 2)), .ref (ad (k0 + 3)), .ref (ad (k0 + 4)), .ref (ad (k0 + 5)), .int x0_5])) := mk0_0
  have mk0_1 : w0[k0 + 1]? = some (ad (k0 + 1), .inl (cI, 30, .inl x0_0)) := mk0_1
  have mk0_2 : w0[k0 + 2]? = some (ad (k0 + 2), .inl (cI, 30, .inl x0_1)) := mk0_2
  have mk0_3 : w0[k0 + 3]? = some (ad (k0 + 3), .inl (cI, 120, .inl x0_2)) := mk0_3
  have mk0_4 : w0[k0 + 4]? = some (ad (k0 + 4), .inl (cI, 840, .inl x0_3)) := mk0_4
  have mk0_5 : w0[k0 + 5]? = some (ad (k0 + 5), .inl (cI, 30, .inl x0_4)) := mk0_5
  refine lv_iconst (v := 0) hx hb d_Li_oneSidedPairs_0 (by decide) ?_
  refine lv_istore_n (lv' := [(1, .int 0), (0, .ref (ad k0))]) hx hb d_Li_oneSidedPairs_1 rfl hl (by decide) rfl (fun ls hl => ?_)
  refine lv_iconst (v := 0) hx hb d_Li_oneSidedPairs_2 (by decide) ?_
  refine lv_istore_n (lv' := [(2, .int 0), (1, .int 0), (0, .ref (ad k0))]) hx hb d_Li_oneSidedPairs_3 rfl hl (by decide) rfl (fun ls hl => ?_)
  exact wl_Li_oneSidedPairs_4 (ad := ad) C0 hK hN x0_0 x0_1 x0_2 x0_3 x0_4 x0_5 r N 0 0 _ _ _ _ hP hD hS (lv_sub hl [0, 1, 2] rfl) mk0_0 mk0_1 mk0_2 mk0_3 mk0_4 mk0_5 fr hf
set_option maxHeartbeats 4000000 in
set_option maxRecDepth 100000 in
theorem wl_Li_reachedFrom_42 {p : Program} {l : Launch} {e : Env} {s : State} {m : MethodId} {args : Array Value} {below : List Frame} {meth : Method} {c : Code} {D : va_G} {cI cG cZ : ClassId} {ad : Nat → Nat} {B : Nat} {w0 : va_W} {N : Nat} {k0 : Nat} (C0 : hw_C p s m meth c b_Li_reachedFrom 7 args R_Li (some .int)) (hK : va_K D classes [(cI, .int), (cG, .array .int), (cZ, .boolean)] s) (hN : hw_N s) (x0_0 : (Nat → Int32)) (x0_1 : (Nat → Int32)) (x0_2 : (Nat → Int32)) (x0_3 : (Nat → Int32)) (x0_5 : Int32) (a1 : Int32) (v4 : Int32) (x0_4 : (Nat → Int32)) (r : Int32) (y0_4 : (Nat → Int32)) (kk : (Nat → Int32) → Int32 → Int32 → Int32 → Option (Int32 × (Nat → Int32))) (hk : ∀ (vak0_5 : (Nat → Int32)) (v2 : Int32) (v3 : Int32) (v5 : Int32) (ws : va_W) (H : Heap) (locs : List Loc) (ls : Array Slot), va_P D classes ws H → va_D (fun q : Nat => B ≤ q) ws → va_S (fun q : Nat => B ≤ q) s.heap H locs → lv_has ls 7 [(5, .int v5), (4, .int v4), (3, .int v3), (2, .int v2), (0, .ref (ad k0)), (1, .int a1)] → ws[k0]? = some (ad k0, .inr (3, [.ref (ad (k0 + 1)), .ref (ad (k0 + 2)), .ref (ad (k0 + 3)), .ref (ad (k0 + 4)), .ref (ad (k0 + 5)), .int x0_5])) → ws[k0 + 1]? = some (ad (k0 + 1), .inl (cI, 30, .inl x0_0)) → ws[k0 + 2]? = some (ad (k0 + 2), .inl (cI, 30, .inl x0_1)) → ws[k0 + 3]? = some (ad (k0 + 3), .inl (cI, 120, .inl x0_2)) → ws[k0 + 4]? = some (ad (k0 + 4), .inl (cI, 840, .inl x0_3)) → ws[k0 + 5]? = some (ad (k0 + 5), .inl (cI, 30, .inl vak0_5)) → (∀ j : Nat, (j < k0 ∨ k0 + 6 ≤ j) → ws[j]? = w0[j]?) → kk vak0_5 v2 v3 v5 = some (r, y0_4) → W p l e ({ frames := 3, cells := 0, slots := 0, locals := 63 } : Room) s m args below meth c H locs 0 0 (MQ below (va_Qi (fun (r1 : Int32) (w1 : va_W) => r1 = r ∧ wc_Li cI cG cZ ad k0 (x0_0, x0_1, x0_2, x0_3, y0_4, x0_5) w1 ∧ (∀ j : Nat, (j < k0 ∨ k0 + 6 ≤ j) → w1[j]? = w0[j]?)) (hw_B D B) (fun q : Nat => B ≤ q)) args s 0 0 (fun q : Nat => B ≤ q)) (F0 m 108 ls [])) : ∀ (n : Nat) (vak0_5 : (Nat → Int32)) (v2 : Int32) (v3 : Int32) (v5 : Int32) (ws : va_W) (H : Heap) (locs : List Loc) (ls : Array Slot), va_P D classes ws H → va_D (fun q : Nat => B ≤ q) ws → va_S (fun q : Nat => B ≤ q) s.heap H locs → lv_has ls 7 [(5, .int v5), (4, .int v4), (3, .int v3), (2, .int v2), (0, .ref (ad k0)), (1, .int a1)] → ws[k0]? = some (ad k0, .inr (3, [.ref (ad (k0 + 1)), .ref (ad (k0 + 2)), .ref (ad (k0 + 3)), .ref (ad (k0 + 4)), .ref (ad (k0 + 5)), .int x0_5])) → ws[k0 + 1]? = some (ad (k0 + 1), .inl (cI, 30, .inl x0_0)) → ws[k0 + 2]? = some (ad (k0 + 2), .inl (cI, 30, .inl x0_1)) → ws[k0 + 3]? = some (ad (k0 + 3), .inl (cI, 120, .inl x0_2)) → ws[k0 + 4]? = some (ad (k0 + 4), .inl (cI, 840, .inl x0_3)) → ws[k0 + 5]? = some (ad (k0 + 5), .inl (cI, 30, .inl vak0_5)) → (∀ j : Nat, (j < k0 ∨ k0 + 6 ≤ j) → ws[j]? = w0[j]?) → f_Li_reachedFrom_42 N x0_2 x0_3 v4 kk n vak0_5 v2 v3 v5 = some (r, y0_4) → W p l e ({ frames := 3, cells := 0, slots := 0, locals := 63 } : Room) s m args below meth c H locs 0 0 (MQ below (va_Qi (fun (r1 : Int32) (w1 : va_W) => r1 = r ∧ wc_Li cI cG cZ ad k0 (x0_0, x0_1, x0_2, x0_3, y0_4, x0_5) w1 ∧ (∀ j : Nat, (j < k0 ∨ k0 + 6 ≤ j) → w1[j]? = w0[j]?)) (hw_B D B) (fun q : Nat => B ≤ q)) args s 0 0 (fun q : Nat => B ≤ q)) (F0 m 42 ls []) := by
  obtain ⟨hx, hb, hr, hml, hown, hts, hlocks⟩ := id C0
  intro n
  induction n with
  | zero =>
    intro vak0_5 v2 v3 v5 ws H locs ls hP hD hS hl mk0_0 mk0_1 mk0_2 mk0_3 mk0_4 mk0_5 fr hf
    exact nomatch (show none = some _ from hf)
  | succ n ih =>
    intro vak0_5 v2 v3 v5 ws H locs ls hP hD hS hl mk0_0 mk0_1 mk0_2 mk0_3 mk0_4 mk0_5 fr hf
    rw [f_Li_reachedFrom_42] at hf
    refine lv_iload hx hb d_Li_reachedFrom_42 (lv_at hl 0 rfl) ?_
    refine lv_aload_n hx hb d_Li_reachedFrom_44 rfl (lv_at hl 4 rfl) ?_
    refine lv_aload_n hx hb d_Li_reachedFrom_45 rfl (lv_at hl 4 rfl) ?_
    refine va_get (D := D) (ci := 3) (v := .ref (ad (k0 + 5))) (C := R_Li) (T := F_Li) (N := 6) hx hb hts i_Li hown hK hP (k0) mk0_0 rfl 4 (by decide) (hts _ iw_57) (fun _ h9 => h9) rfl d_Li_reachedFrom_46 ?_
    refine lv_iload hx hb d_Li_reachedFrom_49 (lv_at hl 1 rfl) ?_
    obtain ⟨z9, hf⟩ := g_atE hf
    refine va_iald hx hb hK hP (k0 + 5) 0 mk0_5 rfl z9 d_Li_reachedFrom_51 ?_
    refine lv_iconst (v := 0) hx hb d_Li_reachedFrom_52 (by decide) ?_
    have bk0_0 : wc_Li cI cG cZ ad (k0) (x0_0, x0_1, x0_2, x0_3, vak0_5, x0_5) ws := ⟨mk0_0, mk0_1, mk0_2, mk0_3, mk0_4, mk0_5⟩
    obtain ⟨p10, hp10, hf⟩ := g_bd hf
    refine hw_ci0 (va_runV (As := [.int (vak0_5 v4.toNatClampNeg), .int 0]) (rest := [.int v5]) ⟨hx, hb, hml, hown, hts⟩ (c_Li_degree l D cI cG cZ ad B ws N k0 x0_0 x0_1 x0_2 x0_3 vak0_5 x0_5 (vak0_5 v4.toNatClampNeg) 0 p10 hp10 bk0_0) (cwV 2 hts (hw_gV iw_552 gy_Li_degree) rfl rfl rfl (by decide +kernel) ⟨Nat.le_of_ble_eq_true rfl, Nat.le_of_ble_eq_true rfl⟩) ⟨hw_blind, va_recv hK hP (ci := 3) (q0 := k0) rfl bk0_0.1, hw_go hP hD hK hN⟩ rfl rfl hl.1 rfl (lv_room (Nat.le_of_ble_eq_true rfl)) d_Li_reachedFrom_53 ⟨Nat.zero_le _, Nat.zero_le _⟩) hS (fun H locs hP hD hS => ?_)
    refine lv_icmp_ge (tgt := 108) hx hb d_Li_reachedFrom_56 (by decide) (fun c11 => ?_) (fun c11 => ?_)
    · rw [if_pos c11] at hf
      obtain ⟨mk0_0, mk0_1, mk0_2, mk0_3, mk0_4, mk0_5⟩ := id bk0_0
      have mk0_0 : ws[k0]? = some (ad k0, .inr (3, [.ref (ad (k0 + 1)), .ref (ad (k0 + 2)), .ref (ad (k0 + 3)), .ref (ad (k0 + 4)), .ref (ad (k0 + 5)), .int x0_5])) := mk0_0
      have mk0_1 : ws[k0 + 1]? = some (ad (k0 + 1), .inl (cI, 30, .inl x0_0)) := mk0_1
      have mk0_2 : ws[k0 + 2]? = some (ad (k0 + 2), .inl (cI, 30, .inl x0_1)) := mk0_2
      have mk0_3 : ws[k0 + 3]? = some (ad (k0 + 3), .inl (cI, 120, .inl x0_2)) := mk0_3
      have mk0_4 : ws[k0 + 4]? = some (ad (k0 + 4), .inl (cI, 840, .inl x0_3)) := mk0_4
      have mk0_5 : ws[k0 + 5]? = some (ad (k0 + 5), .inl (cI, 30, .inl vak0_5)) := mk0_5
      exact hk vak0_5 v2 v3 v5 _ _ _ _ hP hD hS (lv_sub hl [0, 1, 2, 3, 4, 5] rfl) mk0_0 mk0_1 mk0_2 mk0_3 mk0_4 mk0_5 fr hf
    · rw [if_neg c11] at hf
      refine lv_aload_n hx hb d_Li_reachedFrom_59 rfl (lv_at hl 4 rfl) ?_
      refine lv_aload_n hx hb d_Li_reachedFrom_60 rfl (lv_at hl 4 rfl) ?_
      obtain ⟨mk0_0, mk0_1, mk0_2, mk0_3, mk0_4, mk0_5⟩ := id bk0_0
      have mk0_0 : ws[k0]? = some (ad k0, .inr (3, [.ref (ad (k0 + 1)), .ref (ad (k0 + 2)), .ref (ad (k0 + 3)), .ref (ad (k0 + 4)), .ref (ad (k0 + 5)), .int x0_5])) := mk0_0
      have mk0_1 : ws[k0 + 1]? = some (ad (k0 + 1), .inl (cI, 30, .inl x0_0)) := mk0_1
      have mk0_2 : ws[k0 + 2]? = some (ad (k0 + 2), .inl (cI, 30, .inl x0_1)) := mk0_2
      have mk0_3 : ws[k0 + 3]? = some (ad (k0 + 3), .inl (cI, 120, .inl x0_2)) := mk0_3
      have mk0_4 : ws[k0 + 4]? = some (ad (k0 + 4), .inl (cI, 840, .inl x0_3)) := mk0_4
      have mk0_5 : ws[k0 + 5]? = some (ad (k0 + 5), .inl (cI, 30, .inl vak0_5)) := mk0_5
      refine va_get (D := D) (ci := 3) (v := .ref (ad (k0 + 5))) (C := R_Li) (T := F_Li) (N := 6) hx hb hts i_Li hown hK hP (k0) mk0_0 rfl 4 (by decide) (hts _ iw_57) (fun _ h9 => h9) rfl d_Li_reachedFrom_61 ?_
      refine lv_iload hx hb d_Li_reachedFrom_64 (lv_at hl 1 rfl) ?_
      obtain ⟨z12, hf⟩ := g_atE hf
      refine va_iald hx hb hK hP (k0 + 5) 0 mk0_5 rfl z12 d_Li_reachedFrom_66 ?_
      refine lv_iconst (v := 0) hx hb d_Li_reachedFrom_67 (by decide) ?_
      refine lv_iload hx hb d_Li_reachedFrom_68 (lv_at hl 0 rfl) ?_
      have bk0_0 : wc_Li cI cG cZ ad (k0) (x0_0, x0_1, x0_2, x0_3, vak0_5, x0_5) ws := ⟨mk0_0, mk0_1, mk0_2, mk0_3, mk0_4, mk0_5⟩
      obtain ⟨p13, hp13, hf⟩ := g_bd hf
      refine hw_ci0 (va_runV (As := [.int (vak0_5 v4.toNatClampNeg), .int 0, .int v5]) (rest := []) ⟨hx, hb, hml, hown, hts⟩ (c_Li_linked l D cI cG cZ ad B ws N k0 x0_0 x0_1 x0_2 x0_3 vak0_5 x0_5 (vak0_5 v4.toNatClampNeg) 0 v5 p13 hp13 bk0_0) (cwV 3 hts (hw_gV iw_553 gy_Li_linked) rfl rfl rfl (by decide +kernel) ⟨Nat.le_of_ble_eq_true rfl, Nat.le_of_ble_eq_true rfl⟩) ⟨hw_blind, va_recv hK hP (ci := 3) (q0 := k0) rfl bk0_0.1, hw_go hP hD hK hN⟩ rfl rfl hl.1 rfl (lv_room (Nat.le_of_ble_eq_true rfl)) d_Li_reachedFrom_70 ⟨Nat.zero_le _, Nat.zero_le _⟩) hS (fun H locs hP hD hS => ?_)
      refine lv_istore (lv' := [(6, .int p13), (5, .int v5), (4, .int v4), (3, .int v3), (2, .int v2), (0, .ref (ad k0)), (1, .int a1)]) hx hb d_Li_reachedFrom_73 hl (by decide) rfl (fun ls hl => ?_)
      refine lv_iload_n hx hb d_Li_reachedFrom_75 rfl (lv_at hl 4 rfl) ?_
      refine lv_iload hx hb d_Li_reachedFrom_76 (lv_at hl 0 rfl) ?_
      obtain ⟨p14, hp14, hf⟩ := g_bd hf
      refine hw_ci0 (va_runSN (As := [.int v2, .int p13]) (rest := []) ⟨hx, hb, hml, hown, hts⟩ (c_Nd_isIn l D cI cG cZ ad B ws N v2 p13 p14 hp14) ⟨va_cnB 2 hts (hw_gc ic_Nd_isIn) rfl rfl rfl (hN _ in_562) (hts _ iw_1) (by decide +kernel) ⟨Nat.le_of_ble_eq_true rfl, Nat.le_of_ble_eq_true rfl⟩, hts _ iw_302, trivial⟩ ⟨hw_blind, hw_go hP hD hK hN⟩ rfl rfl hl.1 rfl (lv_room (Nat.le_of_ble_eq_true rfl)) d_Li_reachedFrom_78 ⟨Nat.zero_le _, Nat.zero_le _⟩) hS (fun H locs hP hD hS => ?_)
      refine lv_if_ne (tgt := 102) hx hb d_Li_reachedFrom_81 (by decide) (fun c15 => ?_) (fun c15 => ?_)
      · rw [if_neg c15] at hf
        refine lv_iinc (v := v5 + 1) (lv' := [(5, .int (v5 + 1)), (6, .int p13), (4, .int v4), (3, .int v3), (2, .int v2), (0, .ref (ad k0)), (1, .int a1)]) hx hb d_Li_reachedFrom_102 hl (k := 1) rfl rfl (by decide) rfl (fun ls hl => ?_)
        refine lv_goto (tgt := 42) hx hb d_Li_reachedFrom_105 (by decide) ?_
        obtain ⟨mk0_0, mk0_1, mk0_2, mk0_3, mk0_4, mk0_5⟩ := id bk0_0
        have mk0_0 : ws[k0]? = some (ad k0, .inr (3, [.ref (ad (k0 + 1)), .ref (ad (k0 + 2)), .ref (ad (k0 + 3)), .ref (ad (k0 + 4)), .ref (ad (k0 + 5)), .int x0_5])) := mk0_0
        have mk0_1 : ws[k0 + 1]? = some (ad (k0 + 1), .inl (cI, 30, .inl x0_0)) := mk0_1
        have mk0_2 : ws[k0 + 2]? = some (ad (k0 + 2), .inl (cI, 30, .inl x0_1)) := mk0_2
        have mk0_3 : ws[k0 + 3]? = some (ad (k0 + 3), .inl (cI, 120, .inl x0_2)) := mk0_3
        have mk0_4 : ws[k0 + 4]? = some (ad (k0 + 4), .inl (cI, 840, .inl x0_3)) := mk0_4
        have mk0_5 : ws[k0 + 5]? = some (ad (k0 + 5), .inl (cI, 30, .inl vak0_5)) := mk0_5
        exact ih vak0_5 v2 v3 (v5 + 1) _ _ _ _ hP hD hS (lv_sub hl [0, 2, 3, 4, 5, 6] rfl) mk0_0 mk0_1 mk0_2 mk0_3 mk0_4 mk0_5 fr hf
      · rw [if_pos c15] at hf
        refine lv_iload_n hx hb d_Li_reachedFrom_84 rfl (lv_at hl 4 rfl) ?_
        refine lv_iconst (v := 1) hx hb d_Li_reachedFrom_85 (by decide) ?_
        refine lv_iload hx hb d_Li_reachedFrom_86 (lv_at hl 0 rfl) ?_
        refine lv_ishl hx hb d_Li_reachedFrom_88 ?_
        refine lv_ior hx hb d_Li_reachedFrom_89 ?_
        refine lv_istore_n (lv' := [(2, .int (v2 ||| (1 <<< (p13 &&& 31)))), (6, .int p13), (5, .int v5), (4, .int v4), (3, .int v3), (0, .ref (ad k0)), (1, .int a1)]) hx hb d_Li_reachedFrom_90 rfl hl (by decide) rfl (fun ls hl => ?_)
        refine lv_aload_n hx hb d_Li_reachedFrom_91 rfl (lv_at hl 5 rfl) ?_
        obtain ⟨mk0_0, mk0_1, mk0_2, mk0_3, mk0_4, mk0_5⟩ := id bk0_0
        have mk0_0 : ws[k0]? = some (ad k0, .inr (3, [.ref (ad (k0 + 1)), .ref (ad (k0 + 2)), .ref (ad (k0 + 3)), .ref (ad (k0 + 4)), .ref (ad (k0 + 5)), .int x0_5])) := mk0_0
        have mk0_1 : ws[k0 + 1]? = some (ad (k0 + 1), .inl (cI, 30, .inl x0_0)) := mk0_1
        have mk0_2 : ws[k0 + 2]? = some (ad (k0 + 2), .inl (cI, 30, .inl x0_1)) := mk0_2
        have mk0_3 : ws[k0 + 3]? = some (ad (k0 + 3), .inl (cI, 120, .inl x0_2)) := mk0_3
        have mk0_4 : ws[k0 + 4]? = some (ad (k0 + 4), .inl (cI, 840, .inl x0_3)) := mk0_4
        have mk0_5 : ws[k0 + 5]? = some (ad (k0 + 5), .inl (cI, 30, .inl vak0_5)) := mk0_5
        refine va_get (D := D) (ci := 3) (v := .ref (ad (k0 + 5))) (C := R_Li) (T := F_Li) (N := 6) hx hb hts i_Li hown hK hP (k0) mk0_0 rfl 4 (by decide) (hts _ iw_57) (fun _ h9 => h9) rfl d_Li_reachedFrom_92 ?_
        refine lv_iload_n hx hb d_Li_reachedFrom_95 rfl (lv_at hl 4 rfl) ?_
        refine lv_iload hx hb d_Li_reachedFrom_96 (lv_at hl 1 rfl) ?_
        obtain ⟨z16, hf⟩ := g_atE hf
        refine va_iast hx hb hK hP hD hS (k0 + 5) 0 mk0_5 rfl z16 d_Li_reachedFrom_98 (fun H locs hP hD hS => ?_)
        obtain ⟨w17, hP, hD, hne, heq⟩ := hs_up hP hD mk0_5
        have mk0_5 : w17[k0 + 5]? = some (ad (k0 + 5), .inl (cI, 30, .inl (upd vak0_5 v3.toNatClampNeg p13))) := heq
        have mk0_0 : w17[k0]? = some (ad k0, .inr (3, [.ref (ad (k0 + 1)), .ref (ad (k0 + 2)), .ref (ad (k0 + 3)), .ref (ad (k0 + 4)), .ref (ad (k0 + 5)), .int x0_5])) := (hne _ (by omega)).trans mk0_0
        have mk0_1 : w17[k0 + 1]? = some (ad (k0 + 1), .inl (cI, 30, .inl x0_0)) := (hne _ (by omega)).trans mk0_1
        have mk0_2 : w17[k0 + 2]? = some (ad (k0 + 2), .inl (cI, 30, .inl x0_1)) := (hne _ (by omega)).trans mk0_2
        have mk0_3 : w17[k0 + 3]? = some (ad (k0 + 3), .inl (cI, 120, .inl x0_2)) := (hne _ (by omega)).trans mk0_3
        have mk0_4 : w17[k0 + 4]? = some (ad (k0 + 4), .inl (cI, 840, .inl x0_3)) := (hne _ (by omega)).trans mk0_4
        have fr : ∀ j : Nat, (j < k0 ∨ k0 + 6 ≤ j) → w17[j]? = w0[j]? := fun j o0 => (hne j (by omega)).trans (fr j o0)
        refine lv_iinc (v := v3 + 1) (lv' := [(3, .int (v3 + 1)), (2, .int (v2 ||| (1 <<< (p13 &&& 31)))), (6, .int p13), (5, .int v5), (4, .int v4), (0, .ref (ad k0)), (1, .int a1)]) hx hb d_Li_reachedFrom_99 hl (k := 4) rfl rfl (by decide) rfl (fun ls hl => ?_)
        refine lv_iinc (v := v5 + 1) (lv' := [(5, .int (v5 + 1)), (3, .int (v3 + 1)), (2, .int (v2 ||| (1 <<< (p13 &&& 31)))), (6, .int p13), (4, .int v4), (0, .ref (ad k0)), (1, .int a1)]) hx hb d_Li_reachedFrom_102 hl (k := 3) rfl rfl (by decide) rfl (fun ls hl => ?_)
        refine lv_goto (tgt := 42) hx hb d_Li_reachedFrom_105 (by decide) ?_
        exact ih (upd vak0_5 v3.toNatClampNeg p13) (v2 ||| (1 <<< (p13 &&& 31))) (v3 + 1) (v5 + 1) _ _ _ _ hP hD hS (lv_sub hl [0, 4, 1, 2, 5, 6] rfl) mk0_0 mk0_1 mk0_2 mk0_3 mk0_4 mk0_5 fr hf
set_option maxHeartbeats 4000000 in
set_option maxRecDepth 100000 in
theorem wl_Li_reachedFrom_26 {p : Program} {l : Launch} {e : Env} {s : State} {m : MethodId} {args : Array Value} {below : List Frame} {meth : Method} {c : Code} {D : va_G} {cI cG cZ : ClassId} {ad : Nat → Nat} {B : Nat} {w0 : va_W} {N : Nat} {k0 : Nat} (C0 : hw_C p s m meth c b_Li_reachedFrom 7 args R_Li (some .int)) (hK : va_K D classes [(cI, .int), (cG, .array .int), (cZ, .boolean)] s) (hN : hw_N s) (x0_0 : (Nat → Int32)) (x0_1 : (Nat → Int32)) (x0_2 : (Nat → Int32)) (x0_3 : (Nat → Int32)) (x0_5 : Int32) (a1 : Int32) (x0_4 : (Nat → Int32)) (r : Int32) (y0_4 : (Nat → Int32)) : ∀ (n : Nat) (vak0_5 : (Nat → Int32)) (v2 : Int32) (v3 : Int32) (v4 : Int32) (ws : va_W) (H : Heap) (locs : List Loc) (ls : Array Slot), va_P D classes ws H → va_D (fun q : Nat => B ≤ q) ws → va_S (fun q : Nat => B ≤ q) s.heap H locs → lv_has ls 7 [(4, .int v4), (3, .int v3), (2, .int v2), (0, .ref (ad k0)), (1, .int a1)] → ws[k0]? = some (ad k0, .inr (3, [.ref (ad (k0 + 1)), .ref (ad (k0 + 2)), .ref (ad (k0 + 3)), .ref (ad (k0 + 4)), .ref (ad (k0 + 5)), .int x0_5])) → ws[k0 + 1]? = some (ad (k0 + 1), .inl (cI, 30, .inl x0_0)) → ws[k0 + 2]? = some (ad (k0 + 2), .inl (cI, 30, .inl x0_1)) → ws[k0 + 3]? = some (ad (k0 + 3), .inl (cI, 120, .inl x0_2)) → ws[k0 + 4]? = some (ad (k0 + 4), .inl (cI, 840, .inl x0_3)) → ws[k0 + 5]? = some (ad (k0 + 5), .inl (cI, 30, .inl vak0_5)) → (∀ j : Nat, (j < k0 ∨ k0 + 6 ≤ j) → ws[j]? = w0[j]?) → f_Li_reachedFrom_26 N x0_2 x0_3 n vak0_5 v2 v3 v4 = some (r, y0_4) → W p l e ({ frames := 3, cells := 0, slots := 0, locals := 63 } : Room) s m args below meth c H locs 0 0 (MQ below (va_Qi (fun (r1 : Int32) (w1 : va_W) => r1 = r ∧ wc_Li cI cG cZ ad k0 (x0_0, x0_1, x0_2, x0_3, y0_4, x0_5) w1 ∧ (∀ j : Nat, (j < k0 ∨ k0 + 6 ≤ j) → w1[j]? = w0[j]?)) (hw_B D B) (fun q : Nat => B ≤ q)) args s 0 0 (fun q : Nat => B ≤ q)) (F0 m 26 ls []) := by
  obtain ⟨hx, hb, hr, hml, hown, hts, hlocks⟩ := id C0
  intro n
  induction n with
  | zero =>
    intro vak0_5 v2 v3 v4 ws H locs ls hP hD hS hl mk0_0 mk0_1 mk0_2 mk0_3 mk0_4 mk0_5 fr hf
    exact nomatch (show none = some _ from hf)
  | succ n ih =>
    intro vak0_5 v2 v3 v4 ws H locs ls hP hD hS hl mk0_0 mk0_1 mk0_2 mk0_3 mk0_4 mk0_5 fr hf
    rw [f_Li_reachedFrom_26] at hf
    refine lv_iload hx hb d_Li_reachedFrom_26 (lv_at hl 0 rfl) ?_
    refine lv_bipush (v := 30) hx hb d_Li_reachedFrom_28 (by decide) ?_
    refine lv_icmp_ge (tgt := 114) hx hb d_Li_reachedFrom_30 (by decide) (fun c5 => ?_) (fun c5 => ?_)
    · rw [if_pos c5] at hf
      refine lv_iload_n hx hb d_Li_reachedFrom_114 rfl (lv_at hl 1 rfl) ?_
      have bk0_0 : wc_Li cI cG cZ ad (k0) (x0_0, x0_1, x0_2, x0_3, vak0_5, x0_5) ws := ⟨mk0_0, mk0_1, mk0_2, mk0_3, mk0_4, mk0_5⟩
      have he := Option.some.inj hf
      obtain ⟨e0, e1⟩ := Prod.mk.inj he
      have f0 : wc_Li cI cG cZ ad (k0) (x0_0, x0_1, x0_2, x0_3, y0_4, x0_5) ws := by rw [← e1]; exact bk0_0
      exact W.iret (v := v3) hx hb hr (fun t ht hW => ⟨⟨v3, ws, rfl, ⟨e0, ⟨f0, fr⟩⟩, by rw [ht]; exact hP, hD⟩, hS.F ht⟩) hS.2.2 d_Li_reachedFrom_115
    · rw [if_neg c5] at hf
      refine lv_iload hx hb d_Li_reachedFrom_33 (lv_at hl 0 rfl) ?_
      refine lv_iload_n hx hb d_Li_reachedFrom_35 rfl (lv_at hl 1 rfl) ?_
      refine lv_icmp_ge (tgt := 114) hx hb d_Li_reachedFrom_36 (by decide) (fun c6 => ?_) (fun c6 => ?_)
      · rw [if_pos c6] at hf
        refine lv_iload_n hx hb d_Li_reachedFrom_114 rfl (lv_at hl 1 rfl) ?_
        have bk0_0 : wc_Li cI cG cZ ad (k0) (x0_0, x0_1, x0_2, x0_3, vak0_5, x0_5) ws := ⟨mk0_0, mk0_1, mk0_2, mk0_3, mk0_4, mk0_5⟩
        have he := Option.some.inj hf
        obtain ⟨e0, e1⟩ := Prod.mk.inj he
        have f0 : wc_Li cI cG cZ ad (k0) (x0_0, x0_1, x0_2, x0_3, y0_4, x0_5) ws := by rw [← e1]; exact bk0_0
        exact W.iret (v := v3) hx hb hr (fun t ht hW => ⟨⟨v3, ws, rfl, ⟨e0, ⟨f0, fr⟩⟩, by rw [ht]; exact hP, hD⟩, hS.F ht⟩) hS.2.2 d_Li_reachedFrom_115
      · rw [if_neg c6] at hf
        refine lv_iconst (v := 0) hx hb d_Li_reachedFrom_39 (by decide) ?_
        refine lv_istore (lv' := [(5, .int 0), (4, .int v4), (3, .int v3), (2, .int v2), (0, .ref (ad k0)), (1, .int a1)]) hx hb d_Li_reachedFrom_40 hl (by decide) rfl (fun ls hl => ?_)
        refine wl_Li_reachedFrom_42 (ad := ad) C0 hK hN x0_0 x0_1 x0_2 x0_3 x0_5 a1 v4 x0_4 r y0_4 _ (fun vak0_5_7 v2_7 v3_7 v5_7 w8 H locs ls hP hD hS hl mk0_0 mk0_1 mk0_2 mk0_3 mk0_4 mk0_5 fr hf => ?_) N vak0_5 v2 v3 0 _ _ _ _ hP hD hS (lv_sub hl [0, 1, 2, 3, 4, 5] rfl) mk0_0 mk0_1 mk0_2 mk0_3 mk0_4 mk0_5 fr hf
        refine lv_iinc (v := v4 + 1) (lv' := [(4, .int (v4 + 1)), (5, .int v5_7), (3, .int v3_7), (2, .int v2_7), (0, .ref (ad k0)), (1, .int a1)]) hx hb d_Li_reachedFrom_108 hl (k := 1) rfl rfl (by decide) rfl (fun ls hl => ?_)
        refine lv_goto (tgt := 26) hx hb d_Li_reachedFrom_111 (by decide) ?_
        exact ih vak0_5_7 v2_7 v3_7 (v4 + 1) _ _ _ _ hP hD hS (lv_sub hl [0, 2, 3, 4, 5] rfl) mk0_0 mk0_1 mk0_2 mk0_3 mk0_4 mk0_5 fr hf
set_option maxHeartbeats 4000000 in
set_option maxRecDepth 100000 in
theorem c_Li_reachedFrom (l : Launch) (D : va_G) (cI cG cZ : ClassId) (ad : Nat → Nat) (B : Nat) (w0 : va_W) (N : Nat) (k0 : Nat) (x0_0 : (Nat → Int32)) (x0_1 : (Nat → Int32)) (x0_2 : (Nat → Int32)) (x0_3 : (Nat → Int32)) (x0_4 : (Nat → Int32)) (x0_5 : Int32) (a1 : Int32) (r : Int32) (y0_4 : (Nat → Int32)) (hf : f_Li_reachedFrom N x0_0 x0_2 x0_3 x0_4 a1 = some (r, y0_4)) (bk0_0 : wc_Li cI cG cZ ad k0 (x0_0, x0_1, x0_2, x0_3, x0_4, x0_5) w0) : Met l y_Li_reachedFrom (.code y_Li_reachedFrom b_Li_reachedFrom 7 (some .int) :: hw_G) ({ frames := 3, cells := 0, slots := 0, locals := 63 } : Room) (va_Pc [.ref (ad k0), .int a1] (hw_U D cI cG cZ B w0)) (va_Qi (fun (r1 : Int32) (w1 : va_W) => r1 = r ∧ wc_Li cI cG cZ ad k0 (x0_0, x0_1, x0_2, x0_3, y0_4, x0_5) w1 ∧ (∀ j : Nat, (j < k0 ∨ k0 + 6 ≤ j) → w1[j]? = w0[j]?)) (hw_B D B) (fun q : Nat => B ≤ q)) 0 0 (fun q : Nat => B ≤ q) := by
  refine Met.ofW (cc := b_Li_reachedFrom) (maxL := 7) (ret := (some .int)) (by decide) rfl ?_
  intro p e s m args below meth c s₁ Bd hml hv
  obtain ⟨rfl, hP, hD, hK, hN⟩ := hv
  have C0 : hw_C p s m meth c b_Li_reachedFrom 7 _ R_Li (some .int) := ⟨Bd.exec, Bd.bytes, Bd.returns, hml, findClass_of_methodNamed Bd.named, fun w h => atoms_spec (ws := .code y_Li_reachedFrom b_Li_reachedFrom 7 (some .int) :: hw_G) Bd.pre w (List.mem_cons_of_mem _ h), Bd.notSynchronized⟩
  obtain ⟨hx, hb, hr, -, hown, hts, hlocks⟩ := id C0
  have hS : va_S (fun q : Nat => B ≤ q) s.heap s.heap [] := va_S.rf
  have fr : ∀ j : Nat, (j < k0 ∨ k0 + 6 ≤ j) → w0[j]? = w0[j]? := fun j _ => rfl
  have hl := lv_entry ([.ref (ad k0), .int a1]) (n := 7) (Nat.le_of_ble_eq_true rfl)
  rw [lg_entry_eq]
  generalize (lg_sl ([.ref (ad k0), .int a1]) ++ List.replicate (7 - (lg_sl ([.ref (ad k0), .int a1])).length) Slot.unset).toArray = ls at hl ⊢
  have hl : lv_has ls 7 [(0, .ref (ad k0)), (1, .int a1)] := hl
  unfold f_Li_reachedFrom at hf
  obtain ⟨mk0_0, mk0_1, mk0_2, mk0_3, mk0_4, mk0_5⟩ := id bk0_0
  have mk0_0 : w0[k0]? = some (ad k0, .inr (3, [.ref (ad (k0 + 1)), .ref (ad (k0 + 2)), .ref (ad (k0 + 3)), .ref (ad (k0 + 4)), .ref (ad (k0 + 5)), .int x0_5])) := mk0_0
  have mk0_1 : w0[k0 + 1]? = some (ad (k0 + 1), .inl (cI, 30, .inl x0_0)) := mk0_1
  have mk0_2 : w0[k0 + 2]? = some (ad (k0 + 2), .inl (cI, 30, .inl x0_1)) := mk0_2
  have mk0_3 : w0[k0 + 3]? = some (ad (k0 + 3), .inl (cI, 120, .inl x0_2)) := mk0_3
  have mk0_4 : w0[k0 + 4]? = some (ad (k0 + 4), .inl (cI, 840, .inl x0_3)) := mk0_4
  have mk0_5 : w0[k0 + 5]? = some (ad (k0 + 5), .inl (cI, 30, .inl x0_4)) := mk0_5
  refine lv_aload_n hx hb d_Li_reachedFrom_0 rfl (lv_at hl 0 rfl) ?_
  refine lv_iload_n hx hb d_Li_reachedFrom_1 rfl (lv_at hl 1 rfl) ?_
  have bk0_0 : wc_Li cI cG cZ ad (k0) (x0_0, x0_1, x0_2, x0_3, x0_4, x0_5) w0 := ⟨mk0_0, mk0_1, mk0_2, mk0_3, mk0_4, mk0_5⟩
  obtain ⟨p1, hp1, hf⟩ := g_bd hf
  refine hw_ci0 (va_runV (As := [.int a1]) (rest := []) ⟨hx, hb, hml, hown, hts⟩ (c_Li_isNode l D cI cG cZ ad B w0 N k0 x0_0 x0_1 x0_2 x0_3 x0_4 x0_5 a1 p1 hp1 bk0_0) (cwV 1 hts (hw_gV iw_498 gy_Li_isNode) rfl rfl rfl (by decide +kernel) ⟨Nat.le_of_ble_eq_true rfl, Nat.le_of_ble_eq_true rfl⟩) ⟨hw_blind, va_recv hK hP (ci := 3) (q0 := k0) rfl bk0_0.1, hw_go hP hD hK hN⟩ rfl rfl hl.1 rfl (lv_room (Nat.le_of_ble_eq_true rfl)) d_Li_reachedFrom_2 ⟨Nat.zero_le _, Nat.zero_le _⟩) hS (fun H locs hP hD hS => ?_)
  refine lv_if_ne (tgt := 10) hx hb d_Li_reachedFrom_5 (by decide) (fun c2 => ?_) (fun c2 => ?_)
  · rw [if_neg c2] at hf
    refine lv_iconst (v := 1) hx hb d_Li_reachedFrom_10 (by decide) ?_
    refine lv_iload_n hx hb d_Li_reachedFrom_11 rfl (lv_at hl 1 rfl) ?_
    refine lv_ishl hx hb d_Li_reachedFrom_12 ?_
    refine lv_istore_n (lv' := [(2, .int (1 <<< (a1 &&& 31))), (0, .ref (ad k0)), (1, .int a1)]) hx hb d_Li_reachedFrom_13 rfl hl (by decide) rfl (fun ls hl => ?_)
    refine lv_iconst (v := 1) hx hb d_Li_reachedFrom_14 (by decide) ?_
    refine lv_istore_n (lv' := [(3, .int 1), (2, .int (1 <<< (a1 &&& 31))), (0, .ref (ad k0)), (1, .int a1)]) hx hb d_Li_reachedFrom_15 rfl hl (by decide) rfl (fun ls hl => ?_)
    refine lv_aload_n hx hb d_Li_reachedFrom_16 rfl (lv_at hl 2 rfl) ?_
    obtain ⟨mk0_0, mk0_1, mk0_2, mk0_3, mk0_4, mk0_5⟩ := id bk0_0
    have mk0_0 : w0[k0]? = some (ad k0, .inr (3, [.ref (ad (k0 + 1)), .ref (ad (k0 + 2)), .ref (ad (k0 + 3)), .ref (ad (k0 + 4)), .ref (ad (k0 + 5)), .int x0_5])) := mk0_0
    have mk0_1 : w0[k0 + 1]? = some (ad (k0 + 1), .inl (cI, 30, .inl x0_0)) := mk0_1
    have mk0_2 : w0[k0 + 2]? = some (ad (k0 + 2), .inl (cI, 30, .inl x0_1)) := mk0_2
    have mk0_3 : w0[k0 + 3]? = some (ad (k0 + 3), .inl (cI, 120, .inl x0_2)) := mk0_3
    have mk0_4 : w0[k0 + 4]? = some (ad (k0 + 4), .inl (cI, 840, .inl x0_3)) := mk0_4
    have mk0_5 : w0[k0 + 5]? = some (ad (k0 + 5), .inl (cI, 30, .inl x0_4)) := mk0_5
    refine va_get (D := D) (ci := 3) (v := .ref (ad (k0 + 5))) (C := R_Li) (T := F_Li) (N := 6) hx hb hts i_Li hown hK hP (k0) mk0_0 rfl 4 (by decide) (hts _ iw_57) (fun _ h9 => h9) rfl d_Li_reachedFrom_17 ?_
    refine lv_iconst (v := 0) hx hb d_Li_reachedFrom_20 (by decide) ?_
    refine lv_iload_n hx hb d_Li_reachedFrom_21 rfl (lv_at hl 3 rfl) ?_
    obtain ⟨z3, hf⟩ := g_atE hf
    refine va_iast hx hb hK hP hD hS (k0 + 5) 0 mk0_5 rfl z3 d_Li_reachedFrom_22 (fun H locs hP hD hS => ?_)
    obtain ⟨w4, hP, hD, hne, heq⟩ := hs_up hP hD mk0_5
    have mk0_5 : w4[k0 + 5]? = some (ad (k0 + 5), .inl (cI, 30, .inl (upd x0_4 (0 : Int32).toNatClampNeg a1))) := heq
    have mk0_0 : w4[k0]? = some (ad k0, .inr (3, [.ref (ad (k0 + 1)), .ref (ad (k0 + 2)), .ref (ad (k0 + 3)), .ref (ad (k0 + 4)), .ref (ad (k0 + 5)), .int x0_5])) := (hne _ (by omega)).trans mk0_0
    have mk0_1 : w4[k0 + 1]? = some (ad (k0 + 1), .inl (cI, 30, .inl x0_0)) := (hne _ (by omega)).trans mk0_1
    have mk0_2 : w4[k0 + 2]? = some (ad (k0 + 2), .inl (cI, 30, .inl x0_1)) := (hne _ (by omega)).trans mk0_2
    have mk0_3 : w4[k0 + 3]? = some (ad (k0 + 3), .inl (cI, 120, .inl x0_2)) := (hne _ (by omega)).trans mk0_3
    have mk0_4 : w4[k0 + 4]? = some (ad (k0 + 4), .inl (cI, 840, .inl x0_3)) := (hne _ (by omega)).trans mk0_4
    have fr : ∀ j : Nat, (j < k0 ∨ k0 + 6 ≤ j) → w4[j]? = w0[j]? := fun j o0 => (hne j (by omega)).trans (fr j o0)
    refine lv_iconst (v := 0) hx hb d_Li_reachedFrom_23 (by decide) ?_
    refine lv_istore (lv' := [(4, .int 0), (3, .int 1), (2, .int (1 <<< (a1 &&& 31))), (0, .ref (ad k0)), (1, .int a1)]) hx hb d_Li_reachedFrom_24 hl (by decide) rfl (fun ls hl => ?_)
    exact wl_Li_reachedFrom_26 (ad := ad) C0 hK hN x0_0 x0_1 x0_2 x0_3 x0_5 a1 x0_4 r y0_4 N (upd x0_4 (0 : Int32).toNatClampNeg a1) (1 <<< (a1 &&& 31)) 1 0 _ _ _ _ hP hD hS (lv_sub hl [0, 1, 2, 3, 4] rfl) mk0_0 mk0_1 mk0_2 mk0_3 mk0_4 mk0_5 fr hf
  · rw [if_pos c2] at hf
    refine lv_iconst (v := 0) hx hb d_Li_reachedFrom_8 (by decide) ?_
    have he := Option.some.inj hf
    obtain ⟨e0, e1⟩ := Prod.mk.inj he
    have f0 : wc_Li cI cG cZ ad (k0) (x0_0, x0_1, x0_2, x0_3, y0_4, x0_5) w0 := by rw [← e1]; exact bk0_0
    exact W.iret (v := 0) hx hb hr (fun t ht hW => ⟨⟨0, w0, rfl, ⟨e0, ⟨f0, fr⟩⟩, by rw [ht]; exact hP, hD⟩, hS.F ht⟩) hS.2.2 d_Li_reachedFrom_9
