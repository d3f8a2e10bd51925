set_option maxHeartbeats 4000000 in
set_option maxRecDepth 100000 in
theorem wl_Ch_isNearestToVector_3 {p : Program} {l : Launch} {e : Env} {s : State} {m : MethodId} {args : Array Value} {below : List Frame} {meth : Method} {c : Code} {D : va_G} {cI cG cZ : ClassId} {ad : Nat → Nat} {B : Nat} {w0 : va_W} {N : Nat} {k0 : Nat} {k1 : Nat} (C0 : hw_C p s m meth c b_Ch_isNearestToVector 5 args R_Ch (some .boolean)) (hK : va_K D classes [(cI, .int), (cG, .array .int), (cZ, .boolean)] s) (hN : hw_N s) (x0_0 : (Nat → Int32)) (x0_1 : Int32) (x0_2 : Int32) (x1_0 : (Nat → Nat → Int32)) (x1_1 : (Nat → Int32)) (x1_2 : (Nat → Int32)) (x1_3 : Int32) (a2 : Int32) (a3 : Int32) (r : Int32) : ∀ (n : Nat) (v4 : Int32) (ws : va_W) (H : Heap) (locs : List Loc) (ls : Array Slot), va_P D classes ws H → va_D (fun q : Nat => B ≤ q) ws → va_S (fun q : Nat => B ≤ q) s.heap H locs → lv_has ls 5 [(4, .int v4), (0, .ref (ad k0)), (1, .ref (ad k1)), (2, .int a2), (3, .int a3)] → ws[k0]? = some (ad k0, .inr (0, [.ref (ad (k0 + 1)), .int x0_1, .int x0_2])) → ws[k0 + 1]? = some (ad (k0 + 1), .inl (cI, 30, .inl x0_0)) → wc_Do cI cG cZ ad (k1) (x1_0, x1_1, x1_2, x1_3) ws → (ws = w0) → f_Ch_isNearestToVector_3 N x0_0 x0_1 x1_0 a2 a3 n v4 = some r → W p l e ({ frames := 1, cells := 0, slots := 0, locals := 24 } : Room) s m args below meth c H locs 0 0 (MQ below (va_Qi (fun (r1 : Int32) (w1 : va_W) => r1 = r ∧ w1 = w0) (hw_B D B) (fun q : Nat => B ≤ q)) args s 0 0 (fun q : Nat => B ≤ q)) (F0 m 3 ls []) := by
  obtain ⟨hx, hb, hr, hml, hown, hts, hlocks⟩ := id C0
  intro n
  induction n with
  | zero =>
    intro v4 ws H locs ls hP hD hS hl mk0_0 mk0_1 bk1_0 fr hf
    exact nomatch (show none = some _ from hf)
  | succ n ih =>
    intro v4 ws H locs ls hP hD hS hl mk0_0 mk0_1 bk1_0 fr hf
    rw [f_Ch_isNearestToVector_3] at hf
    refine lv_iload hx hb d_Ch_isNearestToVector_3 (lv_at hl 0 rfl) ?_
    refine lv_aload_n hx hb d_Ch_isNearestToVector_5 rfl (lv_at hl 1 rfl) ?_
    refine va_get (D := D) (ci := 0) (v := .int x0_1) (C := R_Ch) (T := F_Ch) (N := 3) hx hb hts i_Ch hown hK hP (k0) mk0_0 rfl 1 (by decide) (hts _ iw_120) (fun _ h9 => h9) rfl d_Ch_isNearestToVector_6 ?_
    refine lv_icmp_ge (tgt := 43) hx hb d_Ch_isNearestToVector_9 (by decide) (fun c1 => ?_) (fun c1 => ?_)
    · rw [if_pos c1] at hf
      refine lv_iconst (v := 1) hx hb d_Ch_isNearestToVector_43 (by decide) ?_
      have bk0_0 : wc_Ch cI cG cZ ad (k0) (x0_0, x0_1, x0_2) ws := ⟨mk0_0, mk0_1⟩
      have e0 := Option.some.inj hf
      exact W.zret (v := 1) hx hb hr (by decide) (fun t ht hW => ⟨⟨1, ws, rfl, ⟨e0, fr⟩, by rw [ht]; exact hP, hD⟩, hS.F ht⟩) hS.2.2 d_Ch_isNearestToVector_44
    · rw [if_neg c1] at hf
      refine lv_iload_n hx hb d_Ch_isNearestToVector_12 rfl (lv_at hl 4 rfl) ?_
      refine lv_aload_n hx hb d_Ch_isNearestToVector_13 rfl (lv_at hl 2 rfl) ?_
      refine lv_iload_n hx hb d_Ch_isNearestToVector_14 rfl (lv_at hl 3 rfl) ?_
      obtain ⟨p2, hp2, hf⟩ := g_bd hf
      obtain ⟨z3, -⟩ := g_atE (show g_at a2 30 (some ()) = some _ from hp2)
      have lz3 := g_inLt z3
      refine hw_cr0 (va_runV (As := [.int a2]) (rest := [.int a3]) ⟨hx, hb, hml, hown, hts⟩ (c_Do_vector l D cI cG cZ ad B ws N k1 x1_0 x1_1 x1_2 x1_3 a2 hp2 bk1_0) (cwV 1 hts (hw_gV iw_329 gy_Do_vector) rfl rfl rfl (by decide +kernel) ⟨Nat.le_of_ble_eq_true rfl, Nat.le_of_ble_eq_true rfl⟩) ⟨hw_blind, va_recv hK hP (ci := 1) (q0 := k1) rfl bk1_0.1, hw_go hP hD hK hN⟩ rfl rfl hl.1 rfl (lv_room (Nat.le_of_ble_eq_true rfl)) d_Ch_isNearestToVector_15 ⟨Nat.zero_le _, Nat.zero_le _⟩) hS (fun H locs hP hD hS => ?_)
      refine lv_aload_n hx hb d_Ch_isNearestToVector_18 rfl (lv_at hl 2 rfl) ?_
      refine lv_aload_n hx hb d_Ch_isNearestToVector_19 rfl (lv_at hl 1 rfl) ?_
      refine va_get (D := D) (ci := 0) (v := .ref (ad (k0 + 1))) (C := R_Ch) (T := F_Ch) (N := 3) hx hb hts i_Ch hown hK hP (k0) mk0_0 rfl 0 (by decide) (hts _ iw_119) (fun _ h9 => h9) rfl d_Ch_isNearestToVector_20 ?_
      refine lv_iload hx hb d_Ch_isNearestToVector_23 (lv_at hl 0 rfl) ?_
      obtain ⟨z4, hf⟩ := g_atE hf
      refine va_iald hx hb hK hP (k0 + 1) 0 mk0_1 rfl z4 d_Ch_isNearestToVector_25 ?_
      obtain ⟨p5, hp5, hf⟩ := g_bd hf
      obtain ⟨z6, -⟩ := g_atE (show g_at (x0_0 v4.toNatClampNeg) 30 (some ()) = some _ from hp5)
      have lz6 := g_inLt z6
      refine hw_cr0 (va_runV (As := [.int (x0_0 v4.toNatClampNeg)]) (rest := [.ref (ad (k1 + 1 + 1 + a2.toNatClampNeg)), .int a3]) ⟨hx, hb, hml, hown, hts⟩ (c_Do_vector l D cI cG cZ ad B ws N k1 x1_0 x1_1 x1_2 x1_3 (x0_0 v4.toNatClampNeg) hp5 bk1_0) (cwV 1 hts (hw_gV iw_329 gy_Do_vector) rfl rfl rfl (by decide +kernel) ⟨Nat.le_of_ble_eq_true rfl, Nat.le_of_ble_eq_true rfl⟩) ⟨hw_blind, va_recv hK hP (ci := 1) (q0 := k1) rfl bk1_0.1, hw_go hP hD hK hN⟩ rfl rfl hl.1 rfl (lv_room (Nat.le_of_ble_eq_true rfl)) d_Ch_isNearestToVector_26 ⟨Nat.zero_le _, Nat.zero_le _⟩) hS (fun H locs hP hD hS => ?_)
      obtain ⟨mk1_0, gk1_1, mk1_32, mk1_33⟩ := id bk1_0
      have mk1_0 : ws[k1]? = some (ad k1, .inr (1, [.ref (ad (k1 + 1)), .ref (ad (k1 + 32)), .ref (ad (k1 + 33)), .int x1_3])) := mk1_0
      have gk1_1 : wc_grid cI cG ad (k1 + 1) 30 4 x1_0 ws := gk1_1
      have mk1_32 : ws[k1 + 32]? = some (ad (k1 + 32), .inl (cI, 30, .inl x1_1)) := mk1_32
      have mk1_33 : ws[k1 + 33]? = some (ad (k1 + 33), .inl (cI, 8, .inl x1_2)) := mk1_33
      obtain ⟨p7, hp7, hf⟩ := g_bd hf
      refine hw_ci0 (va_runSN (As := [.ref (ad (k1 + 1 + 1 + a2.toNatClampNeg)), .ref (ad (k1 + 1 + 1 + (x0_0 v4.toNatClampNeg).toNatClampNeg))]) (rest := [.int a3]) ⟨hx, hb, hml, hown, hts⟩ (c_Nd_distance l D cI cG cZ ad B ws N (k1 + 1 + 1 + a2.toNatClampNeg) (x1_0 a2.toNatClampNeg) (k1 + 1 + 1 + (x0_0 v4.toNatClampNeg).toNatClampNeg) (x1_0 (x0_0 v4.toNatClampNeg).toNatClampNeg) p7 hp7 (gk1_1.2 _ (g_inLt z3)) (gk1_1.2 _ (g_inLt z6))) ⟨va_cnB 2 hts (hw_gc ic_Nd_distance) rfl rfl rfl (hN _ in_330) (hts _ iw_1) (by decide +kernel) ⟨Nat.le_of_ble_eq_true rfl, Nat.le_of_ble_eq_true rfl⟩, hts _ iw_228, trivial⟩ ⟨hw_blind, hw_go hP hD hK hN⟩ rfl rfl hl.1 rfl (lv_room (Nat.le_of_ble_eq_true rfl)) d_Ch_isNearestToVector_29 ⟨Nat.zero_le _, Nat.zero_le _⟩) hS (fun H locs hP hD hS => ?_)
      refine lv_icmp_lt (tgt := 37) hx hb d_Ch_isNearestToVector_32 (by decide) (fun c8 => ?_) (fun c8 => ?_)
      · rw [if_pos c8] at hf
        refine lv_iinc (v := v4 + 1) (lv' := [(4, .int (v4 + 1)), (0, .ref (ad k0)), (1, .ref (ad k1)), (2, .int a2), (3, .int a3)]) hx hb d_Ch_isNearestToVector_37 hl (k := 0) rfl rfl (by decide) rfl (fun ls hl => ?_)
        refine lv_goto (tgt := 3) hx hb d_Ch_isNearestToVector_40 (by decide) ?_
        have bk1_0 : wc_Do cI cG cZ ad (k1) (x1_0, x1_1, x1_2, x1_3) ws := ⟨mk1_0, gk1_1, mk1_32, mk1_33⟩
        exact ih (v4 + 1) _ _ _ _ hP hD hS (lv_sub hl [0, 1, 2, 3, 4] rfl) mk0_0 mk0_1 bk1_0 fr hf
      · rw [if_neg c8] at hf
        refine lv_iconst (v := 0) hx hb d_Ch_isNearestToVector_35 (by decide) ?_
        have bk0_0 : wc_Ch cI cG cZ ad (k0) (x0_0, x0_1, x0_2) ws := ⟨mk0_0, mk0_1⟩
        have bk1_0 : wc_Do cI cG cZ ad (k1) (x1_0, x1_1, x1_2, x1_3) ws := ⟨mk1_0, gk1_1, mk1_32, mk1_33⟩
        have e0 := Option.some.inj hf
        exact W.zret (v := 0) hx hb hr (by decide) (fun t ht hW => ⟨⟨0, ws, rfl, ⟨e0, fr⟩, by rw [ht]; exact hP, hD⟩, hS.F ht⟩) hS.2.2 d_Ch_isNearestToVector_36
set_option maxHeartbeats 4000000 in
set_option maxRecDepth 100000 in
theorem c_Ch_isNearestToVector (l : Launch) (D : va_G) (cI cG cZ : ClassId) (ad : Nat → Nat) (B : Nat) (w0 : va_W) (N : Nat) (k0 : Nat) (x0_0 : (Nat → Int32)) (x0_1 : Int32) (x0_2 : Int32) (k1 : Nat) (x1_0 : (Nat → Nat → Int32)) (x1_1 : (Nat → Int32)) (x1_2 : (Nat → Int32)) (x1_3 : Int32) (a2 : Int32) (a3 : Int32) (r : Int32) (hf : f_Ch_isNearestToVector N x0_0 x0_1 x1_0 a2 a3 = some r) (bk0_0 : wc_Ch cI cG cZ ad k0 (x0_0, x0_1, x0_2) w0) (bk1_0 : wc_Do cI cG cZ ad k1 (x1_0, x1_1, x1_2, x1_3) w0) : Met l y_Ch_isNearestToVector (.code y_Ch_isNearestToVector b_Ch_isNearestToVector 5 (some .boolean) :: hw_G) ({ frames := 1, cells := 0, slots := 0, locals := 24 } : Room) (va_Pc [.ref (ad k0), .ref (ad k1), .int a2, .int a3] (hw_U D cI cG cZ B w0)) (va_Qi (fun (r1 : Int32) (w1 : va_W) => r1 = r ∧ w1 = w0) (hw_B D B) (fun q : Nat => B ≤ q)) 0 0 (fun q : Nat => B ≤ q) := by
  refine Met.ofW (cc := b_Ch_isNearestToVector) (maxL := 5) (ret := (some .boolean)) (by decide) rfl ?_
  intro p e s m args below meth c s₁ Bd hml hv
  obtain ⟨rfl, hP, hD, hK, hN⟩ := hv
  have C0 : hw_C p s m meth c b_Ch_isNearestToVector 5 _ R_Ch (some .boolean) := ⟨Bd.exec, Bd.bytes, Bd.returns, hml, findClass_of_methodNamed Bd.named, fun w h => atoms_spec (ws := .code y_Ch_isNearestToVector b_Ch_isNearestToVector 5 (some .boolean) :: hw_G) Bd.pre w (List.mem_cons_of_mem _ h), Bd.notSynchronized⟩
  obtain ⟨hx, hb, hr, -, hown, hts, hlocks⟩ := id C0
  have hS : va_S (fun q : Nat => B ≤ q) s.heap s.heap [] := va_S.rf
  have fr : w0 = w0 := rfl
  have hl := lv_entry ([.ref (ad k0), .ref (ad k1), .int a2, .int a3]) (n := 5) (Nat.le_of_ble_eq_true rfl)
  rw [lg_entry_eq]
  generalize (lg_sl ([.ref (ad k0), .ref (ad k1), .int a2, .int a3]) ++ List.replicate (5 - (lg_sl ([.ref (ad k0), .ref (ad k1), .int a2, .int a3])).length) Slot.unset).toArray = ls at hl ⊢
  have hl : lv_has ls 5 [(0, .ref (ad k0)), (1, .ref (ad k1)), (2, .int a2), (3, .int a3)] := hl
  unfold f_Ch_isNearestToVector at hf
  obtain ⟨mk0_0, mk0_1⟩ := id bk0_0
  have mk0_0 : w0[k0]? = some (ad k0, .inr (0, [.ref (ad (k0 + 1)), .int x0_1, .int x0_2])) := mk0_0
  have mk0_1 : w0[k0 + 1]? = some (ad (k0 + 1), .inl (cI, 30, .inl x0_0)) := mk0_1
  refine lv_iconst (v := 0) hx hb d_Ch_isNearestToVector_0 (by decide) ?_
  refine lv_istore (lv' := [(4, .int 0), (0, .ref (ad k0)), (1, .ref (ad k1)), (2, .int a2), (3, .int a3)]) hx hb d_Ch_isNearestToVector_1 hl (by decide) rfl (fun ls hl => ?_)
  exact wl_Ch_isNearestToVector_3 (ad := ad) C0 hK hN x0_0 x0_1 x0_2 x1_0 x1_1 x1_2 x1_3 a2 a3 r N 0 _ _ _ _ hP hD hS (lv_sub hl [0, 1, 2, 3, 4] rfl) mk0_0 mk0_1 bk1_0 fr hf
set_option maxHeartbeats 4000000 in
set_option maxRecDepth 100000 in
theorem c_Ch_take (l : Launch) (D : va_G) (cI cG cZ : ClassId) (ad : Nat → Nat) (B : Nat) (w0 : va_W) (N : Nat) (k0 : Nat) (x0_0 : (Nat → Int32)) (x0_1 : Int32) (x0_2 : Int32) (a1 : Int32) (y0_0 : (Nat → Int32)) (y0_1 : Int32) (y0_2 : Int32) (hf : f_Ch_take N x0_0 x0_1 x0_2 a1 = some (y0_0, y0_1, y0_2)) (bk0_0 : wc_Ch cI cG cZ ad k0 (x0_0, x0_1, x0_2) w0) : Met l y_Ch_take (.code y_Ch_take b_Ch_take 2 none :: hw_G) ({ frames := 0, cells := 0, slots := 0, locals := 0 } : Room) (va_Pc [.ref (ad k0), .int a1] (hw_U D cI cG cZ B w0)) (va_Qv (fun (w1 : va_W) => wc_Ch cI cG cZ ad k0 (y0_0, y0_1, y0_2) w1 ∧ (∀ j : Nat, (j < k0 ∨ k0 + 2 ≤ j) → w1[j]? = w0[j]?)) (hw_B D B) (fun q : Nat => B ≤ q)) 0 0 (fun q : Nat => B ≤ q) := by
  refine Met.ofW (cc := b_Ch_take) (maxL := 2) (ret := none) (by decide) rfl ?_
  intro p e s m args below meth c s₁ Bd hml hv
  obtain ⟨rfl, hP, hD, hK, hN⟩ := hv
  have C0 : hw_C p s m meth c b_Ch_take 2 _ R_Ch none := ⟨Bd.exec, Bd.bytes, Bd.returns, hml, findClass_of_methodNamed Bd.named, fun w h => atoms_spec (ws := .code y_Ch_take b_Ch_take 2 none :: hw_G) Bd.pre w (List.mem_cons_of_mem _ h), Bd.notSynchronized⟩
  obtain ⟨hx, hb, hr, -, hown, hts, hlocks⟩ := id C0
  have hS : va_S (fun q : Nat => B ≤ q) s.heap s.heap [] := va_S.rf
  have fr : ∀ j : Nat, (j < k0 ∨ k0 + 2 ≤ j) → w0[j]? = w0[j]? := fun j _ => rfl
  have hl := lv_entry ([.ref (ad k0), .int a1]) (n := 2) (Nat.le_of_ble_eq_true rfl)
  rw [lg_entry_eq]
  generalize (lg_sl ([.ref (ad k0), .int a1]) ++ List.replicate (2 - (lg_sl ([.ref (ad k0), .int a1])).length) Slot.unset).toArray = ls at hl ⊢
  have hl : lv_has ls 2 [(0, .ref (ad k0)), (1, .int a1)] := hl
  unfold f_Ch_take at hf
  obtain ⟨mk0_0, mk0_1⟩ := id bk0_0
  have mk0_0 : w0[k0]? = some (ad k0, .inr (0, [.ref (ad (k0 + 1)), .int x0_1, .int x0_2])) := mk0_0
  have mk0_1 : w0[k0 + 1]? = some (ad (k0 + 1), .inl (cI, 30, .inl x0_0)) := mk0_1
  refine lv_aload_n hx hb d_Ch_take_0 rfl (lv_at hl 0 rfl) ?_
  refine va_get (D := D) (ci := 0) (v := .ref (ad (k0 + 1))) (C := R_Ch) (T := F_Ch) (N := 3) hx hb hts i_Ch hown hK hP (k0) mk0_0 rfl 0 (by decide) (hts _ iw_119) (fun _ h9 => h9) rfl d_Ch_take_1 ?_
  refine lv_aload_n hx hb d_Ch_take_4 rfl (lv_at hl 0 rfl) ?_
  refine va_get (D := D) (ci := 0) (v := .int x0_1) (C := R_Ch) (T := F_Ch) (N := 3) hx hb hts i_Ch hown hK hP (k0) mk0_0 rfl 1 (by decide) (hts _ iw_120) (fun _ h9 => h9) rfl d_Ch_take_5 ?_
  refine lv_iload_n hx hb d_Ch_take_8 rfl (lv_at hl 1 rfl) ?_
  obtain ⟨z1, hf⟩ := g_atE hf
  refine va_iast hx hb hK hP hD hS (k0 + 1) 0 mk0_1 rfl z1 d_Ch_take_9 (fun H locs hP hD hS => ?_)
  obtain ⟨w2, hP, hD, hne, heq⟩ := hs_up hP hD mk0_1
  have mk0_1 : w2[k0 + 1]? = some (ad (k0 + 1), .inl (cI, 30, .inl (upd x0_0 x0_1.toNatClampNeg a1))) := heq
  have mk0_0 : w2[k0]? = some (ad k0, .inr (0, [.ref (ad (k0 + 1)), .int x0_1, .int x0_2])) := (hne _ (by omega)).trans mk0_0
  have fr : ∀ j : Nat, (j < k0 ∨ k0 + 2 ≤ j) → w2[j]? = w0[j]? := fun j o0 => (hne j (by omega)).trans (fr j o0)
  refine lv_aload_n hx hb d_Ch_take_10 rfl (lv_at hl 0 rfl) ?_
  refine lv_dup hx hb d_Ch_take_11 rfl ?_
  refine va_get (D := D) (ci := 0) (v := .int x0_1) (C := R_Ch) (T := F_Ch) (N := 3) hx hb hts i_Ch hown hK hP (k0) mk0_0 rfl 1 (by decide) (hts _ iw_120) (fun _ h9 => h9) rfl d_Ch_take_12 ?_
  refine lv_iconst (v := 1) hx hb d_Ch_take_15 (by decide) ?_
  refine lv_iadd hx hb d_Ch_take_16 ?_
  refine va_put (D := D) (ci := 0) (v := .int (x0_1 + 1)) (ty := .int) (C := R_Ch) (T := F_Ch) (N := 3) hx hb hts i_Ch t_Ch t_Ch_ok n_Ch hown hK hP hD hS (k0) mk0_0 rfl 1 (by decide) (hts _ iw_120) (fun _ h9 => h9) rfl (by decide +kernel) rfl rfl (Nat.le_of_ble_eq_true rfl) d_Ch_take_17 (fun H locs hP hD hS => ?_)
  obtain ⟨w3, hP, hD, hne, heq⟩ := hs_up hP hD mk0_0
  have mk0_0 : w3[k0]? = some (ad k0, .inr (0, [.ref (ad (k0 + 1)), .int (x0_1 + 1), .int x0_2])) := heq
  have mk0_1 : w3[k0 + 1]? = some (ad (k0 + 1), .inl (cI, 30, .inl (upd x0_0 x0_1.toNatClampNeg a1))) := (hne _ (by omega)).trans mk0_1
  have fr : ∀ j : Nat, (j < k0 ∨ k0 + 2 ≤ j) → w3[j]? = w0[j]? := fun j o0 => (hne j (by omega)).trans (fr j o0)
  refine lv_aload_n hx hb d_Ch_take_20 rfl (lv_at hl 0 rfl) ?_
  refine lv_dup hx hb d_Ch_take_21 rfl ?_
  refine va_get (D := D) (ci := 0) (v := .int x0_2) (C := R_Ch) (T := F_Ch) (N := 3) hx hb hts i_Ch hown hK hP (k0) mk0_0 rfl 2 (by decide) (hts _ iw_121) (fun _ h9 => h9) rfl d_Ch_take_22 ?_
  refine lv_iconst (v := 1) hx hb d_Ch_take_25 (by decide) ?_
  refine lv_iload_n hx hb d_Ch_take_26 rfl (lv_at hl 1 rfl) ?_
  refine lv_ishl hx hb d_Ch_take_27 ?_
  refine lv_ior hx hb d_Ch_take_28 ?_
  refine va_put (D := D) (ci := 0) (v := .int (x0_2 ||| (1 <<< (a1 &&& 31)))) (ty := .int) (C := R_Ch) (T := F_Ch) (N := 3) hx hb hts i_Ch t_Ch t_Ch_ok n_Ch hown hK hP hD hS (k0) mk0_0 rfl 2 (by decide) (hts _ iw_121) (fun _ h9 => h9) rfl (by decide +kernel) rfl rfl (Nat.le_of_ble_eq_true rfl) d_Ch_take_29 (fun H locs hP hD hS => ?_)
  obtain ⟨w4, hP, hD, hne, heq⟩ := hs_up hP hD mk0_0
  have mk0_0 : w4[k0]? = some (ad k0, .inr (0, [.ref (ad (k0 + 1)), .int (x0_1 + 1), .int (x0_2 ||| (1 <<< (a1 &&& 31)))])) := heq
  have mk0_1 : w4[k0 + 1]? = some (ad (k0 + 1), .inl (cI, 30, .inl (upd x0_0 x0_1.toNatClampNeg a1))) := (hne _ (by omega)).trans mk0_1
  have fr : ∀ j : Nat, (j < k0 ∨ k0 + 2 ≤ j) → w4[j]? = w0[j]? := fun j o0 => (hne j (by omega)).trans (fr j o0)
  have bk0_0 : wc_Ch cI cG cZ ad (k0) (upd x0_0 x0_1.toNatClampNeg a1, x0_1 + 1, x0_2 ||| (1 <<< (a1 &&& 31))) w4 := ⟨mk0_0, mk0_1⟩
  have he := Option.some.inj hf
  obtain ⟨e0, he⟩ := Prod.mk.inj he
  obtain ⟨e1, e2⟩ := Prod.mk.inj he
  have f0 : wc_Ch cI cG cZ ad (k0) (y0_0, y0_1, y0_2) w4 := by rw [← e0, ← e1, ← e2]; exact bk0_0
  exact W.vret hx hb hr (fun t ht hW => ⟨⟨w4, rfl, ⟨f0, fr⟩, by rw [ht]; exact hP, hD⟩, hS.F ht⟩) hS.2.2 d_Ch_take_32
set_option maxHeartbeats 4000000 in
set_option maxRecDepth 100000 in
theorem wl_Ch_choose_69 {p : Program} {l : Launch} {e : Env} {s : State} {m : MethodId} {args : Array Value} {below : List Frame} {meth : Method} {c : Code} {D : va_G} {cI cG cZ : ClassId} {ad : Nat → Nat} {B : Nat} {w0 : va_W} {N : Nat} {k0 : Nat} {k1 : Nat} {k2 : Nat} (C0 : hw_C p s m meth c b_Ch_choose 6 args R_Ch none) (hK : va_K D classes [(cI, .int), (cG, .array .int), (cZ, .boolean)] s) (hN : hw_N s) (dj0 : k0 + 2 ≤ k1 ∨ k1 + 34 ≤ k0) (dj1 : k0 + 2 ≤ k2 ∨ k2 + 3 ≤ k0) (x1_0 : (Nat → Nat → Int32)) (x1_1 : (Nat → Int32)) (x1_2 : (Nat → Int32)) (x1_3 : Int32) (x2_0 : (Nat → Int32)) (x2_1 : (Nat → Int32)) (x2_2 : Int32) (x2_3 : Int32) (x2_4 : Int32) (a3 : Int32) (x0_0 : (Nat → Int32)) (x0_1 : Int32) (x0_2 : Int32) (y0_0 : (Nat → Int32)) (y0_1 : Int32) (y0_2 : Int32) : ∀ (n : Nat) (vak0_1 : (Nat → Int32)) (vfk0_0_1 : Int32) (vfk0_0_2 : Int32) (v4 : Int32) (ws : va_W) (H : Heap) (locs : List Loc) (ls : Array Slot), va_P D classes ws H → va_D (fun q : Nat => B ≤ q) ws → va_S (fun q : Nat => B ≤ q) s.heap H locs → lv_has ls 6 [(4, .int v4), (0, .ref (ad k0)), (1, .ref (ad k1)), (2, .ref (ad k2)), (3, .int a3)] → ws[k0]? = some (ad k0, .inr (0, [.ref (ad (k0 + 1)), .int vfk0_0_1, .int vfk0_0_2])) → ws[k0 + 1]? = some (ad (k0 + 1), .inl (cI, 30, .inl vak0_1)) → wc_Do cI cG cZ ad (k1) (x1_0, x1_1, x1_2, x1_3) ws → wc_Rk cI cG cZ ad (k2) (x2_0, x2_1, x2_2, x2_3, x2_4) ws → (∀ j : Nat, (j < k0 ∨ k0 + 2 ≤ j) → ws[j]? = w0[j]?) → f_Ch_choose_69 N x2_0 x2_2 a3 n vak0_1 vfk0_0_1 vfk0_0_2 v4 = some (y0_0, y0_1, y0_2) → W p l e ({ frames := 2, cells := 0, slots := 0, locals := 48 } : Room) s m args below meth c H locs 0 0 (MQ below (va_Qv (fun (w1 : va_W) => wc_Ch cI cG cZ ad k0 (y0_0, y0_1, y0_2) w1 ∧ (∀ j : Nat, (j < k0 ∨ k0 + 2 ≤ j) → w1[j]? = w0[j]?)) (hw_B D B) (fun q : Nat => B ≤ q)) args s 0 0 (fun q : Nat => B ≤ q)) (F0 m 69 ls []) := by
  obtain ⟨hx, hb, hr, hml, hown, hts, hlocks⟩ := id C0
  intro n
  induction n with
  | zero =>
    intro vak0_1 vfk0_0_1 vfk0_0_2 v4 ws H locs ls hP hD hS hl mk0_0 mk0_1 bk1_0 bk2_0 fr hf
    exact nomatch (show none = some _ from hf)
  | succ n ih =>
    intro vak0_1 vfk0_0_1 vfk0_0_2 v4 ws H locs ls hP hD hS hl mk0_0 mk0_1 bk1_0 bk2_0 fr hf
    rw [f_Ch_choose_69] at hf
    refine lv_iload hx hb d_Ch_choose_69 (lv_at hl 0 rfl) ?_
    refine lv_aload_n hx hb d_Ch_choose_71 rfl (lv_at hl 3 rfl) ?_
    obtain ⟨p12, hp12, hf⟩ := g_bd hf
    refine hw_ci0 (va_runV (As := []) (rest := [.int v4]) ⟨hx, hb, hml, hown, hts⟩ (c_Rk_size l D cI cG cZ ad B ws N k2 x2_0 x2_1 x2_2 x2_3 x2_4 p12 hp12 bk2_0) (cwV 0 hts (hw_gV iw_322 gy_Rk_size) rfl rfl rfl (by decide +kernel) ⟨Nat.le_of_ble_eq_true rfl, Nat.le_of_ble_eq_true rfl⟩) ⟨hw_blind, va_recv hK hP (ci := 4) (q0 := k2) rfl bk2_0.1, hw_go hP hD hK hN⟩ rfl rfl hl.1 rfl (lv_room (Nat.le_of_ble_eq_true rfl)) d_Ch_choose_72 ⟨Nat.zero_le _, Nat.zero_le _⟩) hS (fun H locs hP hD hS => ?_)
    refine lv_icmp_ge (tgt := 118) hx hb d_Ch_choose_75 (by decide) (fun c13 => ?_) (fun c13 => ?_)
    · rw [if_pos c13] at hf
      have bk0_0 : wc_Ch cI cG cZ ad (k0) (vak0_1, vfk0_0_1, vfk0_0_2) ws := ⟨mk0_0, mk0_1⟩
      have he := Option.some.inj hf
      obtain ⟨e0, he⟩ := Prod.mk.inj he
      obtain ⟨e1, e2⟩ := Prod.mk.inj he
      have f0 : wc_Ch cI cG cZ ad (k0) (y0_0, y0_1, y0_2) ws := by rw [← e0, ← e1, ← e2]; exact bk0_0
      exact W.vret hx hb hr (fun t ht hW => ⟨⟨ws, rfl, ⟨f0, fr⟩, by rw [ht]; exact hP, hD⟩, hS.F ht⟩) hS.2.2 d_Ch_choose_118
    · rw [if_neg c13] at hf
      refine lv_aload_n hx hb d_Ch_choose_78 rfl (lv_at hl 1 rfl) ?_
      refine va_get (D := D) (ci := 0) (v := .int vfk0_0_1) (C := R_Ch) (T := F_Ch) (N := 3) hx hb hts i_Ch hown hK hP (k0) mk0_0 rfl 1 (by decide) (hts _ iw_120) (fun _ h9 => h9) rfl d_Ch_choose_79 ?_
      refine lv_iload_n hx hb d_Ch_choose_82 rfl (lv_at hl 4 rfl) ?_
      refine lv_icmp_ge (tgt := 118) hx hb d_Ch_choose_83 (by decide) (fun c14 => ?_) (fun c14 => ?_)
      · rw [if_pos c14] at hf
        have bk0_0 : wc_Ch cI cG cZ ad (k0) (vak0_1, vfk0_0_1, vfk0_0_2) ws := ⟨mk0_0, mk0_1⟩
        have he := Option.some.inj hf
        obtain ⟨e0, he⟩ := Prod.mk.inj he
        obtain ⟨e1, e2⟩ := Prod.mk.inj he
        have f0 : wc_Ch cI cG cZ ad (k0) (y0_0, y0_1, y0_2) ws := by rw [← e0, ← e1, ← e2]; exact bk0_0
        exact W.vret hx hb hr (fun t ht hW => ⟨⟨ws, rfl, ⟨f0, fr⟩, by rw [ht]; exact hP, hD⟩, hS.F ht⟩) hS.2.2 d_Ch_choose_118
      · rw [if_neg c14] at hf
        refine lv_aload_n hx hb d_Ch_choose_86 rfl (lv_at hl 3 rfl) ?_
        refine lv_iload hx hb d_Ch_choose_87 (lv_at hl 0 rfl) ?_
        obtain ⟨p15, hp15, hf⟩ := g_bd hf
        refine hw_ci0 (va_runV (As := [.int v4]) (rest := []) ⟨hx, hb, hml, hown, hts⟩ (c_Rk_numberAt l D cI cG cZ ad B ws N k2 x2_0 x2_1 x2_2 x2_3 x2_4 v4 p15 hp15 bk2_0) (cwV 1 hts (hw_gV iw_323 gy_Rk_numberAt) rfl rfl rfl (by decide +kernel) ⟨Nat.le_of_ble_eq_true rfl, Nat.le_of_ble_eq_true rfl⟩) ⟨hw_blind, va_recv hK hP (ci := 4) (q0 := k2) rfl bk2_0.1, hw_go hP hD hK hN⟩ rfl rfl hl.1 rfl (lv_room (Nat.le_of_ble_eq_true rfl)) d_Ch_choose_89 ⟨Nat.zero_le _, Nat.zero_le _⟩) hS (fun H locs hP hD hS => ?_)
        refine lv_istore (lv' := [(5, .int p15), (4, .int v4), (0, .ref (ad k0)), (1, .ref (ad k1)), (2, .ref (ad k2)), (3, .int a3)]) hx hb d_Ch_choose_92 hl (by decide) rfl (fun ls hl => ?_)
        refine lv_aload_n hx hb d_Ch_choose_94 rfl (lv_at hl 2 rfl) ?_
        refine va_get (D := D) (ci := 0) (v := .int vfk0_0_2) (C := R_Ch) (T := F_Ch) (N := 3) hx hb hts i_Ch hown hK hP (k0) mk0_0 rfl 2 (by decide) (hts _ iw_121) (fun _ h9 => h9) rfl d_Ch_choose_95 ?_
        refine lv_iload hx hb d_Ch_choose_98 (lv_at hl 0 rfl) ?_
        obtain ⟨p16, hp16, hf⟩ := g_bd hf
        refine hw_ci0 (va_runSN (As := [.int vfk0_0_2, .int p15]) (rest := []) ⟨hx, hb, hml, hown, hts⟩ (c_Nd_isIn l D cI cG cZ ad B ws N vfk0_0_2 p15 p16 hp16) ⟨va_cnB 2 hts (hw_gc ic_Nd_isIn) rfl rfl rfl (hN _ in_335) (hts _ iw_1) (by decide +kernel) ⟨Nat.le_of_ble_eq_true rfl, Nat.le_of_ble_eq_true rfl⟩, hts _ iw_302, trivial⟩ ⟨hw_blind, hw_go hP hD hK hN⟩ rfl rfl hl.1 rfl (lv_room (Nat.le_of_ble_eq_true rfl)) d_Ch_choose_100 ⟨Nat.zero_le _, Nat.zero_le _⟩) hS (fun H locs hP hD hS => ?_)
        refine lv_if_ne (tgt := 112) hx hb d_Ch_choose_103 (by decide) (fun c17 => ?_) (fun c17 => ?_)
        · rw [if_neg c17] at hf
          refine lv_iinc (v := v4 + 1) (lv' := [(4, .int (v4 + 1)), (5, .int p15), (0, .ref (ad k0)), (1, .ref (ad k1)), (2, .ref (ad k2)), (3, .int a3)]) hx hb d_Ch_choose_112 hl (k := 1) rfl rfl (by decide) rfl (fun ls hl => ?_)
          refine lv_goto (tgt := 69) hx hb d_Ch_choose_115 (by decide) ?_
          exact ih vak0_1 vfk0_0_1 vfk0_0_2 (v4 + 1) _ _ _ _ hP hD hS (lv_sub hl [0, 2, 3, 4, 5] rfl) mk0_0 mk0_1 bk1_0 bk2_0 fr hf
        · rw [if_pos c17] at hf
          refine lv_aload_n hx hb d_Ch_choose_106 rfl (lv_at hl 2 rfl) ?_
          refine lv_iload hx hb d_Ch_choose_107 (lv_at hl 0 rfl) ?_
          have bk0_0 : wc_Ch cI cG cZ ad (k0) (vak0_1, vfk0_0_1, vfk0_0_2) ws := ⟨mk0_0, mk0_1⟩
          obtain ⟨p18, hp18, hf⟩ := g_bd hf
          refine hw_cv (va_runV (As := [.int p15]) (rest := []) ⟨hx, hb, hml, hown, hts⟩ (c_Ch_take l D cI cG cZ ad B ws N k0 vak0_1 vfk0_0_1 vfk0_0_2 p15 p18.1 p18.2.1 p18.2.2 hp18 bk0_0) (cwV 1 hts (hw_gV iw_331 gy_Ch_take) rfl rfl rfl (by decide +kernel) ⟨Nat.le_of_ble_eq_true rfl, Nat.le_of_ble_eq_true rfl⟩) ⟨hw_blind, va_recv hK hP (ci := 0) (q0 := k0) rfl bk0_0.1, hw_go hP hD hK hN⟩ rfl rfl hl.1 rfl (lv_room (Nat.le_of_ble_eq_true rfl)) d_Ch_choose_109 ⟨Nat.zero_le _, Nat.zero_le _⟩) hS (fun w19 H locs hP hD hS hpp => ?_)
          obtain ⟨q0, frc⟩ := hpp
          have bk0_0 : wc_Ch cI cG cZ ad (k0) (p18.1, p18.2.1, p18.2.2) w19 := q0
          have bk1_0 : wc_Do cI cG cZ ad (k1) (x1_0, x1_1, x1_2, x1_3) w19 := bk1_0.fr (fun j h1 h2 => frc j (by omega))
          have bk2_0 : wc_Rk cI cG cZ ad (k2) (x2_0, x2_1, x2_2, x2_3, x2_4) w19 := bk2_0.fr (fun j h1 h2 => frc j (by omega))
          have fr : ∀ j : Nat, (j < k0 ∨ k0 + 2 ≤ j) → w19[j]? = w0[j]? := fun j o0 => (frc j (by omega)).trans (fr j o0)
          refine lv_iinc (v := v4 + 1) (lv' := [(4, .int (v4 + 1)), (5, .int p15), (0, .ref (ad k0)), (1, .ref (ad k1)), (2, .ref (ad k2)), (3, .int a3)]) hx hb d_Ch_choose_112 hl (k := 1) rfl rfl (by decide) rfl (fun ls hl => ?_)
          refine lv_goto (tgt := 69) hx hb d_Ch_choose_115 (by decide) ?_
          obtain ⟨mk0_0, mk0_1⟩ := id bk0_0
          have mk0_0 : w19[k0]? = some (ad k0, .inr (0, [.ref (ad (k0 + 1)), .int p18.2.1, .int p18.2.2])) := mk0_0
          have mk0_1 : w19[k0 + 1]? = some (ad (k0 + 1), .inl (cI, 30, .inl p18.1)) := mk0_1
          exact ih p18.1 p18.2.1 p18.2.2 (v4 + 1) _ _ _ _ hP hD hS (lv_sub hl [0, 2, 3, 4, 5] rfl) mk0_0 mk0_1 bk1_0 bk2_0 fr hf
set_option maxHeartbeats 4000000 in
set_option maxRecDepth 100000 in
theorem wl_Ch_choose_13 {p : Program} {l : Launch} {e : Env} {s : State} {m : MethodId} {args : Array Value} {below : List Frame} {meth : Method} {c : Code} {D : va_G} {cI cG cZ : ClassId} {ad : Nat → Nat} {B : Nat} {w0 : va_W} {N : Nat} {k0 : Nat} {k1 : Nat} {k2 : Nat} (C0 : hw_C p s m meth c b_Ch_choose 6 args R_Ch none) (hK : va_K D classes [(cI, .int), (cG, .array .int), (cZ, .boolean)] s) (hN : hw_N s) (dj0 : k0 + 2 ≤ k1 ∨ k1 + 34 ≤ k0) (dj1 : k0 + 2 ≤ k2 ∨ k2 + 3 ≤ k0) (x1_0 : (Nat → Nat → Int32)) (x1_1 : (Nat → Int32)) (x1_2 : (Nat → Int32)) (x1_3 : Int32) (x2_0 : (Nat → Int32)) (x2_1 : (Nat → Int32)) (x2_2 : Int32) (x2_3 : Int32) (x2_4 : Int32) (a3 : Int32) (x0_0 : (Nat → Int32)) (x0_1 : Int32) (x0_2 : Int32) (y0_0 : (Nat → Int32)) (y0_1 : Int32) (y0_2 : Int32) : ∀ (n : Nat) (vak0_1 : (Nat → Int32)) (vfk0_0_1 : Int32) (vfk0_0_2 : Int32) (v4 : Int32) (ws : va_W) (H : Heap) (locs : List Loc) (ls : Array Slot), va_P D classes ws H → va_D (fun q : Nat => B ≤ q) ws → va_S (fun q : Nat => B ≤ q) s.heap H locs → lv_has ls 6 [(4, .int v4), (0, .ref (ad k0)), (1, .ref (ad k1)), (2, .ref (ad k2)), (3, .int a3)] → ws[k0]? = some (ad k0, .inr (0, [.ref (ad (k0 + 1)), .int vfk0_0_1, .int vfk0_0_2])) → ws[k0 + 1]? = some (ad (k0 + 1), .inl (cI, 30, .inl vak0_1)) → wc_Do cI cG cZ ad (k1) (x1_0, x1_1, x1_2, x1_3) ws → wc_Rk cI cG cZ ad (k2) (x2_0, x2_1, x2_2, x2_3, x2_4) ws → (∀ j : Nat, (j < k0 ∨ k0 + 2 ≤ j) → ws[j]? = w0[j]?) → f_Ch_choose_13 N x1_0 x2_0 x2_1 x2_2 a3 n vak0_1 vfk0_0_1 vfk0_0_2 v4 = some (y0_0, y0_1, y0_2) → W p l e ({ frames := 2, cells := 0, slots := 0, locals := 48 } : Room) s m args below meth c H locs 0 0 (MQ below (va_Qv (fun (w1 : va_W) => wc_Ch cI cG cZ ad k0 (y0_0, y0_1, y0_2) w1 ∧ (∀ j : Nat, (j < k0 ∨ k0 + 2 ≤ j) → w1[j]? = w0[j]?)) (hw_B D B) (fun q : Nat => B ≤ q)) args s 0 0 (fun q : Nat => B ≤ q)) (F0 m 13 ls []) := by
  obtain ⟨hx, hb, hr, hml, hown, hts, hlocks⟩ := id C0
  intro n
  induction n with
  | zero =>
    intro vak0_1 vfk0_0_1 vfk0_0_2 v4 ws H locs ls hP hD hS hl mk0_0 mk0_1 bk1_0 bk2_0 fr hf
    exact nomatch (show none = some _ from hf)
  | succ n ih =>
    intro vak0_1 vfk0_0_1 vfk0_0_2 v4 ws H locs ls hP hD hS hl mk0_0 mk0_1 bk1_0 bk2_0 fr hf
    rw [f_Ch_choose_13] at hf
    refine lv_iload hx hb d_Ch_choose_13 (lv_at hl 0 rfl) ?_
    refine lv_aload_n hx hb d_Ch_choose_15 rfl (lv_at hl 3 rfl) ?_
    obtain ⟨p3, hp3, hf⟩ := g_bd hf
    refine hw_ci0 (va_runV (As := []) (rest := [.int v4]) ⟨hx, hb, hml, hown, hts⟩ (c_Rk_size l D cI cG cZ ad B ws N k2 x2_0 x2_1 x2_2 x2_3 x2_4 p3 hp3 bk2_0) (cwV 0 hts (hw_gV iw_322 gy_Rk_size) rfl rfl rfl (by decide +kernel) ⟨Nat.le_of_ble_eq_true rfl, Nat.le_of_ble_eq_true rfl⟩) ⟨hw_blind, va_recv hK hP (ci := 4) (q0 := k2) rfl bk2_0.1, hw_go hP hD hK hN⟩ rfl rfl hl.1 rfl (lv_room (Nat.le_of_ble_eq_true rfl)) d_Ch_choose_16 ⟨Nat.zero_le _, Nat.zero_le _⟩) hS (fun H locs hP hD hS => ?_)
    refine lv_icmp_ge (tgt := 66) hx hb d_Ch_choose_19 (by decide) (fun c4 => ?_) (fun c4 => ?_)
    · rw [if_pos c4] at hf
      refine lv_iconst (v := 0) hx hb d_Ch_choose_66 (by decide) ?_
      refine lv_istore (lv' := [(4, .int 0), (0, .ref (ad k0)), (1, .ref (ad k1)), (2, .ref (ad k2)), (3, .int a3)]) hx hb d_Ch_choose_67 hl (by decide) rfl (fun ls hl => ?_)
      exact wl_Ch_choose_69 (ad := ad) C0 hK hN dj0 dj1 x1_0 x1_1 x1_2 x1_3 x2_0 x2_1 x2_2 x2_3 x2_4 a3 x0_0 x0_1 x0_2 y0_0 y0_1 y0_2 N vak0_1 vfk0_0_1 vfk0_0_2 0 _ _ _ _ hP hD hS (lv_sub hl [0, 1, 2, 3, 4] rfl) mk0_0 mk0_1 bk1_0 bk2_0 fr hf
    · rw [if_neg c4] at hf
      refine lv_aload_n hx hb d_Ch_choose_22 rfl (lv_at hl 1 rfl) ?_
      refine va_get (D := D) (ci := 0) (v := .int vfk0_0_1) (C := R_Ch) (T := F_Ch) (N := 3) hx hb hts i_Ch hown hK hP (k0) mk0_0 rfl 1 (by decide) (hts _ iw_120) (fun _ h9 => h9) rfl d_Ch_choose_23 ?_
      refine lv_iload_n hx hb d_Ch_choose_26 rfl (lv_at hl 4 rfl) ?_
      refine lv_icmp_ge (tgt := 66) hx hb d_Ch_choose_27 (by decide) (fun c5 => ?_) (fun c5 => ?_)
      · rw [if_pos c5] at hf
        refine lv_iconst (v := 0) hx hb d_Ch_choose_66 (by decide) ?_
        refine lv_istore (lv' := [(4, .int 0), (0, .ref (ad k0)), (1, .ref (ad k1)), (2, .ref (ad k2)), (3, .int a3)]) hx hb d_Ch_choose_67 hl (by decide) rfl (fun ls hl => ?_)
        exact wl_Ch_choose_69 (ad := ad) C0 hK hN dj0 dj1 x1_0 x1_1 x1_2 x1_3 x2_0 x2_1 x2_2 x2_3 x2_4 a3 x0_0 x0_1 x0_2 y0_0 y0_1 y0_2 N vak0_1 vfk0_0_1 vfk0_0_2 0 _ _ _ _ hP hD hS (lv_sub hl [0, 1, 2, 3, 4] rfl) mk0_0 mk0_1 bk1_0 bk2_0 fr hf
      · rw [if_neg c5] at hf
        refine lv_aload_n hx hb d_Ch_choose_30 rfl (lv_at hl 3 rfl) ?_
        refine lv_iload hx hb d_Ch_choose_31 (lv_at hl 0 rfl) ?_
        obtain ⟨p6, hp6, hf⟩ := g_bd hf
        refine hw_ci0 (va_runV (As := [.int v4]) (rest := []) ⟨hx, hb, hml, hown, hts⟩ (c_Rk_numberAt l D cI cG cZ ad B ws N k2 x2_0 x2_1 x2_2 x2_3 x2_4 v4 p6 hp6 bk2_0) (cwV 1 hts (hw_gV iw_323 gy_Rk_numberAt) rfl rfl rfl (by decide +kernel) ⟨Nat.le_of_ble_eq_true rfl, Nat.le_of_ble_eq_true rfl⟩) ⟨hw_blind, va_recv hK hP (ci := 4) (q0 := k2) rfl bk2_0.1, hw_go hP hD hK hN⟩ rfl rfl hl.1 rfl (lv_room (Nat.le_of_ble_eq_true rfl)) d_Ch_choose_33 ⟨Nat.zero_le _, Nat.zero_le _⟩) hS (fun H locs hP hD hS => ?_)
        refine lv_istore (lv' := [(5, .int p6), (4, .int v4), (0, .ref (ad k0)), (1, .ref (ad k1)), (2, .ref (ad k2)), (3, .int a3)]) hx hb d_Ch_choose_36 hl (by decide) rfl (fun ls hl => ?_)
        refine lv_aload_n hx hb d_Ch_choose_38 rfl (lv_at hl 2 rfl) ?_
        refine lv_aload_n hx hb d_Ch_choose_39 rfl (lv_at hl 3 rfl) ?_
        refine lv_iload hx hb d_Ch_choose_40 (lv_at hl 0 rfl) ?_
        refine lv_aload_n hx hb d_Ch_choose_42 rfl (lv_at hl 4 rfl) ?_
        refine lv_iload hx hb d_Ch_choose_43 (lv_at hl 1 rfl) ?_
        obtain ⟨p7, hp7, hf⟩ := g_bd hf
        refine hw_ci0 (va_runV (As := [.int v4]) (rest := [.int p6, .ref (ad k1), .ref (ad k0)]) ⟨hx, hb, hml, hown, hts⟩ (c_Rk_valueAt l D cI cG cZ ad B ws N k2 x2_0 x2_1 x2_2 x2_3 x2_4 v4 p7 hp7 bk2_0) (cwV 1 hts (hw_gV iw_324 gy_Rk_valueAt) rfl rfl rfl (by decide +kernel) ⟨Nat.le_of_ble_eq_true rfl, Nat.le_of_ble_eq_true rfl⟩) ⟨hw_blind, va_recv hK hP (ci := 4) (q0 := k2) rfl bk2_0.1, hw_go hP hD hK hN⟩ rfl rfl hl.1 rfl (lv_room (Nat.le_of_ble_eq_true rfl)) d_Ch_choose_45 ⟨Nat.zero_le _, Nat.zero_le _⟩) hS (fun H locs hP hD hS => ?_)
        have bk0_0 : wc_Ch cI cG cZ ad (k0) (vak0_1, vfk0_0_1, vfk0_0_2) ws := ⟨mk0_0, mk0_1⟩
        obtain ⟨p8, hp8, hf⟩ := g_bd hf
        refine hw_ci0 (va_runV (As := [.ref (ad k1), .int p6, .int p7]) (rest := []) ⟨hx, hb, hml, hown, hts⟩ (c_Ch_isNearestToVector l D cI cG cZ ad B ws N k0 vak0_1 vfk0_0_1 vfk0_0_2 k1 x1_0 x1_1 x1_2 x1_3 p6 p7 p8 hp8 bk0_0 bk1_0) (cwV 3 hts (hw_gV iw_325 gy_Ch_isNearestToVector) rfl rfl rfl (by decide +kernel) ⟨Nat.le_of_ble_eq_true rfl, Nat.le_of_ble_eq_true rfl⟩) ⟨hw_blind, va_recv hK hP (ci := 0) (q0 := k0) rfl bk0_0.1, hw_go hP hD hK hN⟩ rfl rfl hl.1 rfl (lv_room (Nat.le_of_ble_eq_true rfl)) d_Ch_choose_48 ⟨Nat.zero_le _, Nat.zero_le _⟩) hS (fun H locs hP hD hS => ?_)
        refine lv_if_eq (tgt := 60) hx hb d_Ch_choose_51 (by decide) (fun c9 => ?_) (fun c9 => ?_)
        · rw [if_pos c9] at hf
          refine lv_iinc (v := v4 + 1) (lv' := [(4, .int (v4 + 1)), (5, .int p6), (0, .ref (ad k0)), (1, .ref (ad k1)), (2, .ref (ad k2)), (3, .int a3)]) hx hb d_Ch_choose_60 hl (k := 1) rfl rfl (by decide) rfl (fun ls hl => ?_)
          refine lv_goto (tgt := 13) hx hb d_Ch_choose_63 (by decide) ?_
          obtain ⟨mk0_0, mk0_1⟩ := id bk0_0
          have mk0_0 : ws[k0]? = some (ad k0, .inr (0, [.ref (ad (k0 + 1)), .int vfk0_0_1, .int vfk0_0_2])) := mk0_0
          have mk0_1 : ws[k0 + 1]? = some (ad (k0 + 1), .inl (cI, 30, .inl vak0_1)) := mk0_1
          exact ih vak0_1 vfk0_0_1 vfk0_0_2 (v4 + 1) _ _ _ _ hP hD hS (lv_sub hl [0, 2, 3, 4, 5] rfl) mk0_0 mk0_1 bk1_0 bk2_0 fr hf
        · rw [if_neg c9] at hf
          refine lv_aload_n hx hb d_Ch_choose_54 rfl (lv_at hl 2 rfl) ?_
          refine lv_iload hx hb d_Ch_choose_55 (lv_at hl 0 rfl) ?_
          obtain ⟨p10, hp10, hf⟩ := g_bd hf
          refine hw_cv (va_runV (As := [.int p6]) (rest := []) ⟨hx, hb, hml, hown, hts⟩ (c_Ch_take l D cI cG cZ ad B ws N k0 vak0_1 vfk0_0_1 vfk0_0_2 p6 p10.1 p10.2.1 p10.2.2 hp10 bk0_0) (cwV 1 hts (hw_gV iw_331 gy_Ch_take) rfl rfl rfl (by decide +kernel) ⟨Nat.le_of_ble_eq_true rfl, Nat.le_of_ble_eq_true rfl⟩) ⟨hw_blind, va_recv hK hP (ci := 0) (q0 := k0) rfl bk0_0.1, hw_go hP hD hK hN⟩ rfl rfl hl.1 rfl (lv_room (Nat.le_of_ble_eq_true rfl)) d_Ch_choose_57 ⟨Nat.zero_le _, Nat.zero_le _⟩) hS (fun w11 H locs hP hD hS hpp => ?_)
          obtain ⟨q0, frc⟩ := hpp
          have bk0_0 : wc_Ch cI cG cZ ad (k0) (p10.1, p10.2.1, p10.2.2) w11 := q0
          have bk1_0 : wc_Do cI cG cZ ad (k1) (x1_0, x1_1, x1_2, x1_3) w11 := bk1_0.fr (fun j h1 h2 => frc j (by omega))
          have bk2_0 : wc_Rk cI cG cZ ad (k2) (x2_0, x2_1, x2_2, x2_3, x2_4) w11 := bk2_0.fr (fun j h1 h2 => frc j (by omega))
          have fr : ∀ j : Nat, (j < k0 ∨ k0 + 2 ≤ j) → w11[j]? = w0[j]? := fun j o0 => (frc j (by omega)).trans (fr j o0)
          refine lv_iinc (v := v4 + 1) (lv' := [(4, .int (v4 + 1)), (5, .int p6), (0, .ref (ad k0)), (1, .ref (ad k1)), (2, .ref (ad k2)), (3, .int a3)]) hx hb d_Ch_choose_60 hl (k := 1) rfl rfl (by decide) rfl (fun ls hl => ?_)
          refine lv_goto (tgt := 13) hx hb d_Ch_choose_63 (by decide) ?_
          obtain ⟨mk0_0, mk0_1⟩ := id bk0_0
          have mk0_0 : w11[k0]? = some (ad k0, .inr (0, [.ref (ad (k0 + 1)), .int p10.2.1, .int p10.2.2])) := mk0_0
          have mk0_1 : w11[k0 + 1]? = some (ad (k0 + 1), .inl (cI, 30, .inl p10.1)) := mk0_1
          exact ih p10.1 p10.2.1 p10.2.2 (v4 + 1) _ _ _ _ hP hD hS (lv_sub hl [0, 2, 3, 4, 5] rfl) mk0_0 mk0_1 bk1_0 bk2_0 fr hf
set_option maxHeartbeats 4000000 in
set_option maxRecDepth 100000 in
theorem c_Ch_choose (l : Launch) (D : va_G) (cI cG cZ : ClassId) (ad : Nat → Nat) (B : Nat) (w0 : va_W) (N : Nat) (k0 : Nat) (x0_0 : (Nat → Int32)) (x0_1 : Int32) (x0_2 : Int32) (k1 : Nat) (x1_0 : (Nat → Nat → Int32)) (x1_1 : (Nat → Int32)) (x1_2 : (Nat → Int32)) (x1_3 : Int32) (k2 : Nat) (x2_0 : (Nat → Int32)) (x2_1 : (Nat → Int32)) (x2_2 : Int32) (x2_3 : Int32) (x2_4 : Int32) (a3 : Int32) (y0_0 : (Nat → Int32)) (y0_1 : Int32) (y0_2 : Int32) (hf : f_Ch_choose N x0_0 x1_0 x2_0 x2_1 x2_2 a3 = some (y0_0, y0_1, y0_2)) (bk0_0 : wc_Ch cI cG cZ ad k0 (x0_0, x0_1, x0_2) w0) (bk1_0 : wc_Do cI cG cZ ad k1 (x1_0, x1_1, x1_2, x1_3) w0) (bk2_0 : wc_Rk cI cG cZ ad k2 (x2_0, x2_1, x2_2, x2_3, x2_4) w0) (dj0 : k0 + 2 ≤ k1 ∨ k1 + 34 ≤ k0) (dj1 : k0 + 2 ≤ k2 ∨ k2 + 3 ≤ k0) : Met l y_Ch_choose (.code y_Ch_choose b_Ch_choose 6 none :: hw_G) ({ frames := 2, cells := 0, slots := 0, locals := 48 } : Room) (va_Pc [.ref (ad k0), .ref (ad k1), .ref (ad k2), .int a3] (hw_U D cI cG cZ B w0)) (va_Qv (fun (w1 : va_W) => wc_Ch cI cG cZ ad k0 (y0_0, y0_1, y0_2) w1 ∧ (∀ j : Nat, (j < k0 ∨ k0 + 2 ≤ j) → w1[j]? = w0[j]?)) (hw_B D B) (fun q : Nat => B ≤ q)) 0 0 (fun q : Nat => B ≤ q) := by
  refine Met.ofW (cc := b_Ch_choose) (maxL := 6) (ret := none) (by decide) rfl ?_
  intro p e s m args below meth c s₁ Bd hml hv
  obtain ⟨rfl, hP, hD, hK, hN⟩ := hv
  have C0 : hw_C p s m meth c b_Ch_choose 6 _ R_Ch none := ⟨Bd.exec, Bd.bytes, Bd.returns, hml, findClass_of_methodNamed Bd.named, fun w h => atoms_spec (ws := .code y_Ch_choose b_Ch_choose 6 none :: hw_G) Bd.pre w (List.mem_cons_of_mem _ h), Bd.notSynchronized⟩
  obtain ⟨hx, hb, hr, -, hown, hts, hlocks⟩ := id C0
  have hS : va_S (fun q : Nat => B ≤ q) s.heap s.heap [] := va_S.rf
  have fr : ∀ j : Nat, (j < k0 ∨ k0 + 2 ≤ j) → w0[j]? = w0[j]? := fun j _ => rfl
  have hl := lv_entry ([.ref (ad k0), .ref (ad k1), .ref (ad k2), .int a3]) (n := 6) (Nat.le_of_ble_eq_true rfl)
  rw [lg_entry_eq]
  generalize (lg_sl ([.ref (ad k0), .ref (ad k1), .ref (ad k2), .int a3]) ++ List.replicate (6 - (lg_sl ([.ref (ad k0), .ref (ad k1), .ref (ad k2), .int a3])).length) Slot.unset).toArray = ls at hl ⊢
  have hl : lv_has ls 6 [(0, .ref (ad k0)), (1, .ref (ad k1)), (2, .ref (ad k2)), (3, .int a3)] := hl
  unfold f_Ch_choose at hf
  obtain ⟨mk0_0, mk0_1⟩ := id bk0_0
  have mk0_0 : w0[k0]? = some (ad k0, .inr (0, [.ref (ad (k0 + 1)), .int x0_1, .int x0_2])) := mk0_0
  have mk0_1 : w0[k0 + 1]? = some (ad (k0 + 1), .inl (cI, 30, .inl x0_0)) := mk0_1
  refine lv_aload_n hx hb d_Ch_choose_0 rfl (lv_at hl 0 rfl) ?_
  refine lv_iconst (v := 0) hx hb d_Ch_choose_1 (by decide) ?_
  refine va_put (D := D) (ci := 0) (v := .int 0) (ty := .int) (C := R_Ch) (T := F_Ch) (N := 3) hx hb hts i_Ch t_Ch t_Ch_ok n_Ch hown hK hP hD hS (k0) mk0_0 rfl 1 (by decide) (hts _ iw_120) (fun _ h9 => h9) rfl (by decide +kernel) rfl rfl (Nat.le_of_ble_eq_true rfl) d_Ch_choose_2 (fun H locs hP hD hS => ?_)
  obtain ⟨w1, hP, hD, hne, heq⟩ := hs_up hP hD mk0_0
  have mk0_0 : w1[k0]? = some (ad k0, .inr (0, [.ref (ad (k0 + 1)), .int 0, .int x0_2])) := heq
  have bk1_0 : wc_Do cI cG cZ ad (k1) (x1_0, x1_1, x1_2, x1_3) w1 := bk1_0.fr (fun j h1 h2 => hne j (by omega))
  have bk2_0 : wc_Rk cI cG cZ ad (k2) (x2_0, x2_1, x2_2, x2_3, x2_4) w1 := bk2_0.fr (fun j h1 h2 => hne j (by omega))
  have mk0_1 : w1[k0 + 1]? = some (ad (k0 + 1), .inl (cI, 30, .inl x0_0)) := (hne _ (by omega)).trans mk0_1
  have fr : ∀ j : Nat, (j < k0 ∨ k0 + 2 ≤ j) → w1[j]? = w0[j]? := fun j o0 => (hne j (by omega)).trans (fr j o0)
  refine lv_aload_n hx hb d_Ch_choose_5 rfl (lv_at hl 0 rfl) ?_
  refine lv_iconst (v := 0) hx hb d_Ch_choose_6 (by decide) ?_
  refine va_put (D := D) (ci := 0) (v := .int 0) (ty := .int) (C := R_Ch) (T := F_Ch) (N := 3) hx hb hts i_Ch t_Ch t_Ch_ok n_Ch hown hK hP hD hS (k0) mk0_0 rfl 2 (by decide) (hts _ iw_121) (fun _ h9 => h9) rfl (by decide +kernel) rfl rfl (Nat.le_of_ble_eq_true rfl) d_Ch_choose_7 (fun H locs hP hD hS => ?_)
  obtain ⟨w2, hP, hD, hne, heq⟩ := hs_up hP hD mk0_0
  have mk0_0 : w2[k0]? = some (ad k0, .inr (0, [.ref (ad (k0 + 1)), .int 0, .int 0])) := heq
  have bk1_0 : wc_Do cI cG cZ ad (k1) (x1_0, x1_1, x1_2, x1_3) w2 := bk1_0.fr (fun j h1 h2 => hne j (by omega))
  have bk2_0 : wc_Rk cI cG cZ ad (k2) (x2_0, x2_1, x2_2, x2_3, x2_4) w2 := bk2_0.fr (fun j h1 h2 => hne j (by omega))
  have mk0_1 : w2[k0 + 1]? = some (ad (k0 + 1), .inl (cI, 30, .inl x0_0)) := (hne _ (by omega)).trans mk0_1
  have fr : ∀ j : Nat, (j < k0 ∨ k0 + 2 ≤ j) → w2[j]? = w0[j]? := fun j o0 => (hne j (by omega)).trans (fr j o0)
  refine lv_iconst (v := 0) hx hb d_Ch_choose_10 (by decide) ?_
  refine lv_istore (lv' := [(4, .int 0), (0, .ref (ad k0)), (1, .ref (ad k1)), (2, .ref (ad k2)), (3, .int a3)]) hx hb d_Ch_choose_11 hl (by decide) rfl (fun ls hl => ?_)
  exact wl_Ch_choose_13 (ad := ad) C0 hK hN dj0 dj1 x1_0 x1_1 x1_2 x1_3 x2_0 x2_1 x2_2 x2_3 x2_4 a3 x0_0 x0_1 x0_2 y0_0 y0_1 y0_2 N x0_0 0 0 0 _ _ _ _ hP hD hS (lv_sub hl [0, 1, 2, 3, 4] rfl) mk0_0 mk0_1 bk1_0 bk2_0 fr hf
set_option maxHeartbeats 4000000 in
set_option maxRecDepth 100000 in
theorem c_Ch_size (l : Launch) (D : va_G) (cI cG cZ : ClassId) (ad : Nat → Nat) (B : Nat) (w0 : va_W) (N : Nat) (k0 : Nat) (x0_0 : (Nat → Int32)) (x0_1 : Int32) (x0_2 : Int32) (r : Int32) (hf : f_Ch_size N x0_1 = some r) (bk0_0 : wc_Ch cI cG cZ ad k0 (x0_0, x0_1, x0_2) w0) : Met l y_Ch_size (.code y_Ch_size b_Ch_size 1 (some .int) :: hw_G) ({ frames := 0, cells := 0, slots := 0, locals := 0 } : Room) (va_Pc [.ref (ad k0)] (hw_U D cI cG cZ B w0)) (va_Qi (fun (r1 : Int32) (w1 : va_W) => r1 = r ∧ w1 = w0) (hw_B D B) (fun q : Nat => B ≤ q)) 0 0 (fun q : Nat => B ≤ q) := by
  refine Met.ofW (cc := b_Ch_size) (maxL := 1) (ret := (some .int)) (by decide) rfl ?_
  intro p e s m args below meth c s₁ Bd hml hv
  obtain ⟨rfl, hP, hD, hK, hN⟩ := hv
  have C0 : hw_C p s m meth c b_Ch_size 1 _ R_Ch (some .int) := ⟨Bd.exec, Bd.bytes, Bd.returns, hml, findClass_of_methodNamed Bd.named, fun w h => atoms_spec (ws := .code y_Ch_size b_Ch_size 1 (some .int) :: hw_G) Bd.pre w (List.mem_cons_of_mem _ h), Bd.notSynchronized⟩
  obtain ⟨hx, hb, hr, -, hown, hts, hlocks⟩ := id C0
  have hS : va_S (fun q : Nat => B ≤ q) s.heap s.heap [] := va_S.rf
  have fr : w0 = w0 := rfl
  have hl := lv_entry ([.ref (ad k0)]) (n := 1) (Nat.le_of_ble_eq_true rfl)
  rw [lg_entry_eq]
  generalize (lg_sl ([.ref (ad k0)]) ++ List.replicate (1 - (lg_sl ([.ref (ad k0)])).length) Slot.unset).toArray = ls at hl ⊢
  have hl : lv_has ls 1 [(0, .ref (ad k0))] := hl
  unfold f_Ch_size at hf
  obtain ⟨mk0_0, mk0_1⟩ := id bk0_0
  have mk0_0 : w0[k0]? = some (ad k0, .inr (0, [.ref (ad (k0 + 1)), .int x0_1, .int x0_2])) := mk0_0
  have mk0_1 : w0[k0 + 1]? = some (ad (k0 + 1), .inl (cI, 30, .inl x0_0)) := mk0_1
  refine lv_aload_n hx hb d_Ch_size_0 rfl (lv_at hl 0 rfl) ?_
  refine va_get (D := D) (ci := 0) (v := .int x0_1) (C := R_Ch) (T := F_Ch) (N := 3) hx hb hts i_Ch hown hK hP (k0) mk0_0 rfl 1 (by decide) (hts _ iw_120) (fun _ h9 => h9) rfl d_Ch_size_1 ?_
  have bk0_0 : wc_Ch cI cG cZ ad (k0) (x0_0, x0_1, x0_2) w0 := ⟨mk0_0, mk0_1⟩
  have e0 := Option.some.inj hf
  exact W.iret (v := x0_1) hx hb hr (fun t ht hW => ⟨⟨x0_1, w0, rfl, ⟨e0, fr⟩, by rw [ht]; exact hP, hD⟩, hS.F ht⟩) hS.2.2 d_Ch_size_4
set_option maxHeartbeats 4000000 in
set_option maxRecDepth 100000 in
theorem c_Ch_chosen (l : Launch) (D : va_G) (cI cG cZ : ClassId) (ad : Nat → Nat) (B : Nat) (w0 : va_W) (N : Nat) (k0 : Nat) (x0_0 : (Nat → Int32)) (x0_1 : Int32) (x0_2 : Int32) (a1 : Int32) (r : Int32) (hf : f_Ch_chosen N x0_0 a1 = some r) (bk0_0 : wc_Ch cI cG cZ ad k0 (x0_0, x0_1, x0_2) w0) : Met l y_Ch_chosen (.code y_Ch_chosen b_Ch_chosen 2 (some .int) :: hw_G) ({ frames := 0, cells := 0, slots := 0, locals := 0 } : Room) (va_Pc [.ref (ad k0), .int a1] (hw_U D cI cG cZ B w0)) (va_Qi (fun (r1 : Int32) (w1 : va_W) => r1 = r ∧ w1 = w0) (hw_B D B) (fun q : Nat => B ≤ q)) 0 0 (fun q : Nat => B ≤ q) := by
  refine Met.ofW (cc := b_Ch_chosen) (maxL := 2) (ret := (some .int)) (by decide) rfl ?_
  intro p e s m args below meth c s₁ Bd hml hv
  obtain ⟨rfl, hP, hD, hK, hN⟩ := hv
  have C0 : hw_C p s m meth c b_Ch_chosen 2 _ R_Ch (some .int) := ⟨Bd.exec, Bd.bytes, Bd.returns, hml, findClass_of_methodNamed Bd.named, fun w h => atoms_spec (ws := .code y_Ch_chosen b_Ch_chosen 2 (some .int) :: hw_G) Bd.pre w (List.mem_cons_of_mem _ h), Bd.notSynchronized⟩
  obtain ⟨hx, hb, hr, -, hown, hts, hlocks⟩ := id C0
  have hS : va_S (fun q : Nat => B ≤ q) s.heap s.heap [] := va_S.rf
  have fr : w0 = w0 := rfl
  have hl := lv_entry ([.ref (ad k0), .int a1]) (n := 2) (Nat.le_of_ble_eq_true rfl)
  rw [lg_entry_eq]
  generalize (lg_sl ([.ref (ad k0), .int a1]) ++ List.replicate (2 - (lg_sl ([.ref (ad k0), .int a1])).length) Slot.unset).toArray = ls at hl ⊢
  have hl : lv_has ls 2 [(0, .ref (ad k0)), (1, .int a1)] := hl
  unfold f_Ch_chosen at hf
  obtain ⟨mk0_0, mk0_1⟩ := id bk0_0
  have mk0_0 : w0[k0]? = some (ad k0, .inr (0, [.ref (ad (k0 + 1)), .int x0_1, .int x0_2])) := mk0_0
  have mk0_1 : w0[k0 + 1]? = some (ad (k0 + 1), .inl (cI, 30, .inl x0_0)) := mk0_1
  refine lv_aload_n hx hb d_Ch_chosen_0 rfl (lv_at hl 0 rfl) ?_
  refine va_get (D := D) (ci := 0) (v := .ref (ad (k0 + 1))) (C := R_Ch) (T := F_Ch) (N := 3) hx hb hts i_Ch hown hK hP (k0) mk0_0 rfl 0 (by decide) (hts _ iw_119) (fun _ h9 => h9) rfl d_Ch_chosen_1 ?_
  refine lv_iload_n hx hb d_Ch_chosen_4 rfl (lv_at hl 1 rfl) ?_
  obtain ⟨z1, hf⟩ := g_atE hf
  refine va_iald hx hb hK hP (k0 + 1) 0 mk0_1 rfl z1 d_Ch_chosen_5 ?_
  have bk0_0 : wc_Ch cI cG cZ ad (k0) (x0_0, x0_1, x0_2) w0 := ⟨mk0_0, mk0_1⟩
  have e0 := Option.some.inj hf
  exact W.iret (v := x0_0 a1.toNatClampNeg) hx hb hr (fun t ht hW => ⟨⟨x0_0 a1.toNatClampNeg, w0, rfl, ⟨e0, fr⟩, by rw [ht]; exact hP, hD⟩, hS.F ht⟩) hS.2.2 d_Ch_chosen_6
