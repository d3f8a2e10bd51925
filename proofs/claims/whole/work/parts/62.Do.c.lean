set_option maxHeartbeats 4000000 in
set_option maxRecDepth 100000 in
theorem c_Do_store (l : Launch) (D : va_G) (cI cG cZ : ClassId) (ad : Nat → Nat) (B : Nat) (w0 : va_W) (N : Nat) (k0 : Nat) (x0_0 : (Nat → Nat → Int32)) (x0_1 : (Nat → Int32)) (x0_2 : (Nat → Int32)) (x0_3 : Int32) (a1 : Int32) (a2 : Int32) (a3 : Int32) (a4 : Int32) (a5 : Int32) (a6 : Int32) (y0_0 : (Nat → Nat → Int32)) (y0_1 : (Nat → Int32)) (y0_3 : Int32) (hf : f_Do_store N x0_0 x0_1 x0_3 a1 a2 a3 a4 a5 a6 = some (y0_0, y0_1, y0_3)) (bk0_0 : wc_Do cI cG cZ ad k0 (x0_0, x0_1, x0_2, x0_3) w0) : Met l y_Do_store (.code y_Do_store b_Do_store 7 none :: hw_G) ({ frames := 1, cells := 0, slots := 0, locals := 24 } : Room) (va_Pc [.ref (ad k0), .int a1, .int a2, .int a3, .int a4, .int a5, .int a6] (hw_U D cI cG cZ B w0)) (va_Qv (fun (w1 : va_W) => wc_Do cI cG cZ ad k0 (y0_0, y0_1, x0_2, y0_3) w1 ∧ (∀ j : Nat, (j < k0 ∨ k0 + 34 ≤ j) → w1[j]? = w0[j]?)) (hw_B D B) (fun q : Nat => B ≤ q)) 0 0 (fun q : Nat => B ≤ q) := by
  refine Met.ofW (cc := b_Do_store) (maxL := 7) (ret := none) (by decide) rfl ?_
  intro p e s m args below meth c s₁ Bd hml hv
  obtain ⟨rfl, hP, hD, hK, hN⟩ := hv
  have C0 : hw_C p s m meth c b_Do_store 7 _ R_Do none := ⟨Bd.exec, Bd.bytes, Bd.returns, hml, findClass_of_methodNamed Bd.named, fun w h => atoms_spec (ws := .code y_Do_store b_Do_store 7 none :: hw_G) Bd.pre w (List.mem_cons_of_mem _ h), Bd.notSynchronized⟩
  obtain ⟨hx, hb, hr, -, hown, hts, hlocks⟩ := id C0
  have hS : va_S (fun q : Nat => B ≤ q) s.heap s.heap [] := va_S.rf
  have fr : ∀ j : Nat, (j < k0 ∨ k0 + 34 ≤ j) → w0[j]? = w0[j]? := fun j _ => rfl
  have hl := lv_entry ([.ref (ad k0), .int a1, .int a2, .int a3, .int a4, .int a5, .int a6]) (n := 7) (Nat.le_of_ble_eq_true rfl)
  rw [lg_entry_eq]
  generalize (lg_sl ([.ref (ad k0), .int a1, .int a2, .int a3, .int a4, .int a5, .int a6]) ++ List.replicate (7 - (lg_sl ([.ref (ad k0), .int a1, .int a2, .int a3, .int a4, .int a5, .int a6])).length) Slot.unset).toArray = ls at hl ⊢
  have hl : lv_has ls 7 [(0, .ref (ad k0)), (1, .int a1), (2, .int a2), (3, .int a3), (4, .int a4), (5, .int a5), (6, .int a6)] := hl
  unfold f_Do_store at hf
  obtain ⟨mk0_0, gk0_1, mk0_32, mk0_33⟩ := id bk0_0
  have mk0_0 : w0[k0]? = some (ad k0, .inr (1, [.ref (ad (k0 + 1)), .ref (ad (k0 + 32)), .ref (ad (k0 + 33)), .int x0_3])) := mk0_0
  have gk0_1 : wc_grid cI cG ad (k0 + 1) 30 4 x0_0 w0 := gk0_1
  have mk0_32 : w0[k0 + 32]? = some (ad (k0 + 32), .inl (cI, 30, .inl x0_1)) := mk0_32
  have mk0_33 : w0[k0 + 33]? = some (ad (k0 + 33), .inl (cI, 8, .inl x0_2)) := mk0_33
  refine lv_aload_n hx hb d_Do_store_0 rfl (lv_at hl 0 rfl) ?_
  refine va_get (D := D) (ci := 1) (v := .ref (ad (k0 + 1))) (C := R_Do) (T := F_Do) (N := 4) hx hb hts i_Do hown hK hP (k0) mk0_0 rfl 0 (by decide) (hts _ iw_27) (fun _ h9 => h9) rfl d_Do_store_1 ?_
  refine lv_iload_n hx hb d_Do_store_4 rfl (lv_at hl 1 rfl) ?_
  obtain ⟨z1, hf⟩ := g_atE hf
  have lz1 := g_inLt z1
  refine hw_aald hx hb hK hP (k0 + 1) 1 gk0_1.1 rfl rfl z1 d_Do_store_5 (if_pos lz1) ?_
  refine lv_iload_n hx hb d_Do_store_6 rfl (lv_at hl 2 rfl) ?_
  refine lv_iload_n hx hb d_Do_store_7 rfl (lv_at hl 3 rfl) ?_
  refine lv_iload hx hb d_Do_store_8 (lv_at hl 4 rfl) ?_
  refine lv_iload hx hb d_Do_store_10 (lv_at hl 5 rfl) ?_
  obtain ⟨p2, hp2, hf⟩ := g_bd hf
  refine hw_cv (va_runSN (As := [.ref (ad (k0 + 1 + 1 + a1.toNatClampNeg)), .int a2, .int a3, .int a4, .int a5]) (rest := []) ⟨hx, hb, hml, hown, hts⟩ (c_Nd_writeVector l D cI cG cZ ad B w0 N (k0 + 1 + 1 + a1.toNatClampNeg) (x0_0 a1.toNatClampNeg) a2 a3 a4 a5 p2 hp2 (gk0_1.2 _ (g_inLt z1))) ⟨va_cnB 5 hts (hw_gc ic_Nd_writeVector) rfl rfl rfl (hN _ in_197) (hts _ iw_1) (by decide +kernel) ⟨Nat.le_of_ble_eq_true rfl, Nat.le_of_ble_eq_true rfl⟩, hts _ iw_198, trivial⟩ ⟨hw_blind, hw_go hP hD hK hN⟩ rfl rfl hl.1 rfl (lv_room (Nat.le_of_ble_eq_true rfl)) d_Do_store_12 ⟨Nat.zero_le _, Nat.zero_le _⟩) hS (fun w3 H locs hP hD hS hpp => ?_)
  obtain ⟨q0, frc⟩ := hpp
  have gk0_1 : wc_grid cI cG ad (k0 + 1) 30 4 (va_up x0_0 a1.toNatClampNeg p2) w3 := gk0_1.set (g_inLt z1) q0 (fun j hj => frc j (by omega))
  have mk0_0 : w3[k0]? = some (ad k0, .inr (1, [.ref (ad (k0 + 1)), .ref (ad (k0 + 32)), .ref (ad (k0 + 33)), .int x0_3])) := (frc _ (by omega)).trans mk0_0
  have mk0_32 : w3[k0 + 32]? = some (ad (k0 + 32), .inl (cI, 30, .inl x0_1)) := (frc _ (by omega)).trans mk0_32
  have mk0_33 : w3[k0 + 33]? = some (ad (k0 + 33), .inl (cI, 8, .inl x0_2)) := (frc _ (by omega)).trans mk0_33
  have fr : ∀ j : Nat, (j < k0 ∨ k0 + 34 ≤ j) → w3[j]? = w0[j]? := fun j o0 => (frc j (by omega)).trans (fr j o0)
  refine lv_aload_n hx hb d_Do_store_15 rfl (lv_at hl 0 rfl) ?_
  refine va_get (D := D) (ci := 1) (v := .ref (ad (k0 + 32))) (C := R_Do) (T := F_Do) (N := 4) hx hb hts i_Do hown hK hP (k0) mk0_0 rfl 1 (by decide) (hts _ iw_28) (fun _ h9 => h9) rfl d_Do_store_16 ?_
  refine lv_iload_n hx hb d_Do_store_19 rfl (lv_at hl 1 rfl) ?_
  refine lv_iload hx hb d_Do_store_20 (lv_at hl 6 rfl) ?_
  obtain ⟨z4, hf⟩ := g_atE hf
  refine va_iast hx hb hK hP hD hS (k0 + 32) 0 mk0_32 rfl z4 d_Do_store_22 (fun H locs hP hD hS => ?_)
  obtain ⟨w5, hP, hD, hne, heq⟩ := hs_up hP hD mk0_32
  have mk0_32 : w5[k0 + 32]? = some (ad (k0 + 32), .inl (cI, 30, .inl (upd x0_1 a1.toNatClampNeg a6))) := heq
  have mk0_0 : w5[k0]? = some (ad k0, .inr (1, [.ref (ad (k0 + 1)), .ref (ad (k0 + 32)), .ref (ad (k0 + 33)), .int x0_3])) := (hne _ (by omega)).trans mk0_0
  have gk0_1 : wc_grid cI cG ad (k0 + 1) 30 4 (va_up x0_0 a1.toNatClampNeg p2) w5 := gk0_1.fr (fun j h1 h2 => hne j (by omega))
  have mk0_33 : w5[k0 + 33]? = some (ad (k0 + 33), .inl (cI, 8, .inl x0_2)) := (hne _ (by omega)).trans mk0_33
  have fr : ∀ j : Nat, (j < k0 ∨ k0 + 34 ≤ j) → w5[j]? = w0[j]? := fun j o0 => (hne j (by omega)).trans (fr j o0)
  refine lv_aload_n hx hb d_Do_store_23 rfl (lv_at hl 0 rfl) ?_
  refine lv_dup hx hb d_Do_store_24 rfl ?_
  refine va_get (D := D) (ci := 1) (v := .int x0_3) (C := R_Do) (T := F_Do) (N := 4) hx hb hts i_Do hown hK hP (k0) mk0_0 rfl 3 (by decide) (hts _ iw_30) (fun _ h9 => h9) rfl d_Do_store_25 ?_
  refine lv_iconst (v := 1) hx hb d_Do_store_28 (by decide) ?_
  refine lv_iload_n hx hb d_Do_store_29 rfl (lv_at hl 1 rfl) ?_
  refine lv_ishl hx hb d_Do_store_30 ?_
  refine lv_ior hx hb d_Do_store_31 ?_
  refine va_put (D := D) (ci := 1) (v := .int (x0_3 ||| (1 <<< (a1 &&& 31)))) (ty := .int) (C := R_Do) (T := F_Do) (N := 4) hx hb hts i_Do t_Do t_Do_ok n_Do hown hK hP hD hS (k0) mk0_0 rfl 3 (by decide) (hts _ iw_30) (fun _ h9 => h9) rfl (by decide +kernel) rfl rfl (Nat.le_of_ble_eq_true rfl) d_Do_store_32 (fun H locs hP hD hS => ?_)
  obtain ⟨w6, hP, hD, hne, heq⟩ := hs_up hP hD mk0_0
  have mk0_0 : w6[k0]? = some (ad k0, .inr (1, [.ref (ad (k0 + 1)), .ref (ad (k0 + 32)), .ref (ad (k0 + 33)), .int (x0_3 ||| (1 <<< (a1 &&& 31)))])) := heq
  have gk0_1 : wc_grid cI cG ad (k0 + 1) 30 4 (va_up x0_0 a1.toNatClampNeg p2) w6 := gk0_1.fr (fun j h1 h2 => hne j (by omega))
  have mk0_32 : w6[k0 + 32]? = some (ad (k0 + 32), .inl (cI, 30, .inl (upd x0_1 a1.toNatClampNeg a6))) := (hne _ (by omega)).trans mk0_32
  have mk0_33 : w6[k0 + 33]? = some (ad (k0 + 33), .inl (cI, 8, .inl x0_2)) := (hne _ (by omega)).trans mk0_33
  have fr : ∀ j : Nat, (j < k0 ∨ k0 + 34 ≤ j) → w6[j]? = w0[j]? := fun j o0 => (hne j (by omega)).trans (fr j o0)
  have bk0_0 : wc_Do cI cG cZ ad (k0) (va_up x0_0 a1.toNatClampNeg p2, upd x0_1 a1.toNatClampNeg a6, x0_2, x0_3 ||| (1 <<< (a1 &&& 31))) w6 := ⟨mk0_0, gk0_1, mk0_32, mk0_33⟩
  have he := Option.some.inj hf
  obtain ⟨e0, he⟩ := Prod.mk.inj he
  obtain ⟨e1, e2⟩ := Prod.mk.inj he
  have f0 : wc_Do cI cG cZ ad (k0) (y0_0, y0_1, x0_2, y0_3) w6 := by rw [← e0, ← e1, ← e2]; exact bk0_0
  exact W.vret hx hb hr (fun t ht hW => ⟨⟨w6, rfl, ⟨f0, fr⟩, by rw [ht]; exact hP, hD⟩, hS.F ht⟩) hS.2.2 d_Do_store_35
set_option maxHeartbeats 4000000 in
set_option maxRecDepth 100000 in
theorem c_Do_vector (l : Launch) (D : va_G) (cI cG cZ : ClassId) (ad : Nat → Nat) (B : Nat) (w0 : va_W) (N : Nat) (k0 : Nat) (x0_0 : (Nat → Nat → Int32)) (x0_1 : (Nat → Int32)) (x0_2 : (Nat → Int32)) (x0_3 : Int32) (a1 : Int32) (hf : f_Do_vector N a1 = some ()) (bk0_0 : wc_Do cI cG cZ ad k0 (x0_0, x0_1, x0_2, x0_3) w0) : Met l y_Do_vector (.code y_Do_vector b_Do_vector 2 (some (.array .int)) :: hw_G) ({ frames := 0, cells := 0, slots := 0, locals := 0 } : Room) (va_Pc [.ref (ad k0), .int a1] (hw_U D cI cG cZ B w0)) (va_Qr (fun (w1 : va_W) => w1 = w0) (hw_Br D B (ad (k0 + 1 + 1 + a1.toNatClampNeg))) (fun q : Nat => B ≤ q)) 0 0 (fun q : Nat => B ≤ q) := by
  refine Met.ofW (cc := b_Do_vector) (maxL := 2) (ret := (some (.array .int))) (by decide) rfl ?_
  intro p e s m args below meth c s₁ Bd hml hv
  obtain ⟨rfl, hP, hD, hK, hN⟩ := hv
  have C0 : hw_C p s m meth c b_Do_vector 2 _ R_Do (some (.array .int)) := ⟨Bd.exec, Bd.bytes, Bd.returns, hml, findClass_of_methodNamed Bd.named, fun w h => atoms_spec (ws := .code y_Do_vector b_Do_vector 2 (some (.array .int)) :: hw_G) Bd.pre w (List.mem_cons_of_mem _ h), Bd.notSynchronized⟩
  obtain ⟨hx, hb, hr, -, hown, hts, hlocks⟩ := id C0
  have hS : va_S (fun q : Nat => B ≤ q) s.heap s.heap [] := va_S.rf
  have fr : w0 = w0 := rfl
  have hl := lv_entry ([.ref (ad k0), .int a1]) (n := 2) (Nat.le_of_ble_eq_true rfl)
  rw [lg_entry_eq]
  generalize (lg_sl ([.ref (ad k0), .int a1]) ++ List.replicate (2 - (lg_sl ([.ref (ad k0), .int a1])).length) Slot.unset).toArray = ls at hl ⊢
  have hl : lv_has ls 2 [(0, .ref (ad k0)), (1, .int a1)] := hl
  unfold f_Do_vector at hf
  obtain ⟨mk0_0, gk0_1, mk0_32, mk0_33⟩ := id bk0_0
  have mk0_0 : w0[k0]? = some (ad k0, .inr (1, [.ref (ad (k0 + 1)), .ref (ad (k0 + 32)), .ref (ad (k0 + 33)), .int x0_3])) := mk0_0
  have gk0_1 : wc_grid cI cG ad (k0 + 1) 30 4 x0_0 w0 := gk0_1
  have mk0_32 : w0[k0 + 32]? = some (ad (k0 + 32), .inl (cI, 30, .inl x0_1)) := mk0_32
  have mk0_33 : w0[k0 + 33]? = some (ad (k0 + 33), .inl (cI, 8, .inl x0_2)) := mk0_33
  refine lv_aload_n hx hb d_Do_vector_0 rfl (lv_at hl 0 rfl) ?_
  refine va_get (D := D) (ci := 1) (v := .ref (ad (k0 + 1))) (C := R_Do) (T := F_Do) (N := 4) hx hb hts i_Do hown hK hP (k0) mk0_0 rfl 0 (by decide) (hts _ iw_27) (fun _ h9 => h9) rfl d_Do_vector_1 ?_
  refine lv_iload_n hx hb d_Do_vector_4 rfl (lv_at hl 1 rfl) ?_
  obtain ⟨z1, hf⟩ := g_atE hf
  have lz1 := g_inLt z1
  refine hw_aald hx hb hK hP (k0 + 1) 1 gk0_1.1 rfl rfl z1 d_Do_vector_5 (if_pos lz1) ?_
  have bk0_0 : wc_Do cI cG cZ ad (k0) (x0_0, x0_1, x0_2, x0_3) w0 := ⟨mk0_0, gk0_1, mk0_32, mk0_33⟩
  exact W.aret hx hb hr (Or.inr ⟨_, rfl⟩) (Or.inr ⟨_, rfl⟩) (fun t ht hW => ⟨⟨w0, ad (k0 + 1 + 1 + a1.toNatClampNeg), rfl, fr, rfl, by rw [ht]; exact hP, hD⟩, hS.F ht⟩) hS.2.2 d_Do_vector_6
set_option maxHeartbeats 4000000 in
set_option maxRecDepth 100000 in
theorem wl_Do_measure_2 {p : Program} {l : Launch} {e : Env} {s : State} {m : MethodId} {args : Array Value} {below : List Frame} {meth : Method} {c : Code} {D : va_G} {cI cG cZ : ClassId} {ad : Nat → Nat} {B : Nat} {w0 : va_W} {N : Nat} {k0 : Nat} {k1 : Nat} {k2 : Nat} (C0 : hw_C p s m meth c b_Do_measure 4 args R_Do none) (hK : va_K D classes [(cI, .int), (cG, .array .int), (cZ, .boolean)] s) (hN : hw_N s) (dj0 : k0 + 34 ≤ k2 ∨ k2 + 1 ≤ k0) (dj1 : k1 + 1 ≤ k2 ∨ k2 + 1 ≤ k1) (x0_0 : (Nat → Nat → Int32)) (x0_1 : (Nat → Int32)) (x0_2 : (Nat → Int32)) (x0_3 : Int32) (x1_0 : (Nat → Int32)) (x2_0 : (Nat → Int32)) (y2_0 : (Nat → Int32)) : ∀ (n : Nat) (vak2_0 : (Nat → Int32)) (v3 : Int32) (ws : va_W) (H : Heap) (locs : List Loc) (ls : Array Slot), va_P D classes ws H → va_D (fun q : Nat => B ≤ q) ws → va_S (fun q : Nat => B ≤ q) s.heap H locs → lv_has ls 4 [(3, .int v3), (0, .ref (ad k0)), (1, .ref (ad k1)), (2, .ref (ad k2))] → ws[k0]? = some (ad k0, .inr (1, [.ref (ad (k0 + 1)), .ref (ad (k0 + 32)), .ref (ad (k0 + 33)), .int x0_3])) → wc_grid cI cG ad (k0 + 1) 30 4 x0_0 ws → ws[k0 + 32]? = some (ad (k0 + 32), .inl (cI, 30, .inl x0_1)) → ws[k0 + 33]? = some (ad (k0 + 33), .inl (cI, 8, .inl x0_2)) → ws[k1]? = some (ad k1, .inl (cI, 4, .inl x1_0)) → ws[k2]? = some (ad k2, .inl (cI, 30, .inl vak2_0)) → (∀ j : Nat, (j < k2 ∨ k2 + 1 ≤ j) → ws[j]? = w0[j]?) → f_Do_measure_2 N x0_0 x1_0 n vak2_0 v3 = some y2_0 → W p l e ({ frames := 1, cells := 0, slots := 0, locals := 24 } : Room) s m args below meth c H locs 0 0 (MQ below (va_Qv (fun (w1 : va_W) => w1[k2]? = some (ad k2, .inl (cI, 30, .inl y2_0)) ∧ (∀ j : Nat, (j < k2 ∨ k2 + 1 ≤ j) → w1[j]? = w0[j]?)) (hw_B D B) (fun q : Nat => B ≤ q)) args s 0 0 (fun q : Nat => B ≤ q)) (F0 m 2 ls []) := by
  obtain ⟨hx, hb, hr, hml, hown, hts, hlocks⟩ := id C0
  intro n
  induction n with
  | zero =>
    intro vak2_0 v3 ws H locs ls hP hD hS hl mk0_0 gk0_1 mk0_32 mk0_33 mk1_0 mk2_0 fr hf
    exact nomatch (show none = some _ from hf)
  | succ n ih =>
    intro vak2_0 v3 ws H locs ls hP hD hS hl mk0_0 gk0_1 mk0_32 mk0_33 mk1_0 mk2_0 fr hf
    rw [f_Do_measure_2] at hf
    refine lv_iload_n hx hb d_Do_measure_2 rfl (lv_at hl 0 rfl) ?_
    refine lv_bipush (v := 30) hx hb d_Do_measure_3 (by decide) ?_
    refine lv_icmp_ge (tgt := 27) hx hb d_Do_measure_5 (by decide) (fun c1 => ?_) (fun c1 => ?_)
    · rw [if_pos c1] at hf
      have bk0_0 : wc_Do cI cG cZ ad (k0) (x0_0, x0_1, x0_2, x0_3) ws := ⟨mk0_0, gk0_1, mk0_32, mk0_33⟩
      have e0 := Option.some.inj hf
      have f0 : ws[k2]? = some (ad k2, .inl (cI, 30, .inl y2_0)) := by rw [← e0]; exact mk2_0
      exact W.vret hx hb hr (fun t ht hW => ⟨⟨ws, rfl, ⟨f0, fr⟩, by rw [ht]; exact hP, hD⟩, hS.F ht⟩) hS.2.2 d_Do_measure_27
    · rw [if_neg c1] at hf
      refine lv_aload_n hx hb d_Do_measure_8 rfl (lv_at hl 3 rfl) ?_
      refine lv_iload_n hx hb d_Do_measure_9 rfl (lv_at hl 0 rfl) ?_
      refine lv_aload_n hx hb d_Do_measure_10 rfl (lv_at hl 2 rfl) ?_
      refine lv_aload_n hx hb d_Do_measure_11 rfl (lv_at hl 1 rfl) ?_
      refine va_get (D := D) (ci := 1) (v := .ref (ad (k0 + 1))) (C := R_Do) (T := F_Do) (N := 4) hx hb hts i_Do hown hK hP (k0) mk0_0 rfl 0 (by decide) (hts _ iw_27) (fun _ h9 => h9) rfl d_Do_measure_12 ?_
      refine lv_iload_n hx hb d_Do_measure_15 rfl (lv_at hl 0 rfl) ?_
      obtain ⟨z2, hf⟩ := g_atE hf
      have lz2 := g_inLt z2
      refine hw_aald hx hb hK hP (k0 + 1) 1 gk0_1.1 rfl rfl z2 d_Do_measure_16 (if_pos lz2) ?_
      obtain ⟨p3, hp3, hf⟩ := g_bd hf
      refine hw_ci0 (va_runSN (As := [.ref (ad k1), .ref (ad (k0 + 1 + 1 + v3.toNatClampNeg))]) (rest := [.int v3, .ref (ad k2)]) ⟨hx, hb, hml, hown, hts⟩ (c_Nd_distance l D cI cG cZ ad B ws N k1 x1_0 (k0 + 1 + 1 + v3.toNatClampNeg) (x0_0 v3.toNatClampNeg) p3 hp3 mk1_0 (gk0_1.2 _ (g_inLt z2))) ⟨va_cnB 2 hts (hw_gc ic_Nd_distance) rfl rfl rfl (hN _ in_227) (hts _ iw_1) (by decide +kernel) ⟨Nat.le_of_ble_eq_true rfl, Nat.le_of_ble_eq_true rfl⟩, hts _ iw_228, trivial⟩ ⟨hw_blind, hw_go hP hD hK hN⟩ rfl rfl hl.1 rfl (lv_room (Nat.le_of_ble_eq_true rfl)) d_Do_measure_17 ⟨Nat.zero_le _, Nat.zero_le _⟩) hS (fun H locs hP hD hS => ?_)
      obtain ⟨z4, hf⟩ := g_atE hf
      refine va_iast hx hb hK hP hD hS (k2) 0 mk2_0 rfl z4 d_Do_measure_20 (fun H locs hP hD hS => ?_)
      obtain ⟨w5, hP, hD, hne, heq⟩ := hs_up hP hD mk2_0
      have mk2_0 : w5[k2]? = some (ad k2, .inl (cI, 30, .inl (upd vak2_0 v3.toNatClampNeg p3))) := heq
      have mk1_0 : w5[k1]? = some (ad k1, .inl (cI, 4, .inl x1_0)) := (hne _ (by omega)).trans mk1_0
      have mk0_0 : w5[k0]? = some (ad k0, .inr (1, [.ref (ad (k0 + 1)), .ref (ad (k0 + 32)), .ref (ad (k0 + 33)), .int x0_3])) := (hne _ (by omega)).trans mk0_0
      have gk0_1 : wc_grid cI cG ad (k0 + 1) 30 4 x0_0 w5 := gk0_1.fr (fun j h1 h2 => hne j (by omega))
      have mk0_32 : w5[k0 + 32]? = some (ad (k0 + 32), .inl (cI, 30, .inl x0_1)) := (hne _ (by omega)).trans mk0_32
      have mk0_33 : w5[k0 + 33]? = some (ad (k0 + 33), .inl (cI, 8, .inl x0_2)) := (hne _ (by omega)).trans mk0_33
      have fr : ∀ j : Nat, (j < k2 ∨ k2 + 1 ≤ j) → w5[j]? = w0[j]? := fun j o0 => (hne j (by omega)).trans (fr j o0)
      refine lv_iinc (v := v3 + 1) (lv' := [(3, .int (v3 + 1)), (0, .ref (ad k0)), (1, .ref (ad k1)), (2, .ref (ad k2))]) hx hb d_Do_measure_21 hl (k := 0) rfl rfl (by decide) rfl (fun ls hl => ?_)
      refine lv_goto (tgt := 2) hx hb d_Do_measure_24 (by decide) ?_
      exact ih (upd vak2_0 v3.toNatClampNeg p3) (v3 + 1) _ _ _ _ hP hD hS (lv_sub hl [0, 1, 2, 3] rfl) mk0_0 gk0_1 mk0_32 mk0_33 mk1_0 mk2_0 fr hf
set_option maxHeartbeats 4000000 in
set_option maxRecDepth 100000 in
theorem c_Do_measure (l : Launch) (D : va_G) (cI cG cZ : ClassId) (ad : Nat → Nat) (B : Nat) (w0 : va_W) (N : Nat) (k0 : Nat) (x0_0 : (Nat → Nat → Int32)) (x0_1 : (Nat → Int32)) (x0_2 : (Nat → Int32)) (x0_3 : Int32) (k1 : Nat) (x1_0 : (Nat → Int32)) (k2 : Nat) (x2_0 : (Nat → Int32)) (y2_0 : (Nat → Int32)) (hf : f_Do_measure N x0_0 x1_0 x2_0 = some y2_0) (bk0_0 : wc_Do cI cG cZ ad k0 (x0_0, x0_1, x0_2, x0_3) w0) (mk1_0 : w0[k1]? = some (ad k1, .inl (cI, 4, .inl x1_0))) (mk2_0 : w0[k2]? = some (ad k2, .inl (cI, 30, .inl x2_0))) (dj0 : k0 + 34 ≤ k2 ∨ k2 + 1 ≤ k0) (dj1 : k1 + 1 ≤ k2 ∨ k2 + 1 ≤ k1) : Met l y_Do_measure (.code y_Do_measure b_Do_measure 4 none :: hw_G) ({ frames := 1, cells := 0, slots := 0, locals := 24 } : Room) (va_Pc [.ref (ad k0), .ref (ad k1), .ref (ad k2)] (hw_U D cI cG cZ B w0)) (va_Qv (fun (w1 : va_W) => w1[k2]? = some (ad k2, .inl (cI, 30, .inl y2_0)) ∧ (∀ j : Nat, (j < k2 ∨ k2 + 1 ≤ j) → w1[j]? = w0[j]?)) (hw_B D B) (fun q : Nat => B ≤ q)) 0 0 (fun q : Nat => B ≤ q) := by
  refine Met.ofW (cc := b_Do_measure) (maxL := 4) (ret := none) (by decide) rfl ?_
  intro p e s m args below meth c s₁ Bd hml hv
  obtain ⟨rfl, hP, hD, hK, hN⟩ := hv
  have C0 : hw_C p s m meth c b_Do_measure 4 _ R_Do none := ⟨Bd.exec, Bd.bytes, Bd.returns, hml, findClass_of_methodNamed Bd.named, fun w h => atoms_spec (ws := .code y_Do_measure b_Do_measure 4 none :: hw_G) Bd.pre w (List.mem_cons_of_mem _ h), Bd.notSynchronized⟩
  obtain ⟨hx, hb, hr, -, hown, hts, hlocks⟩ := id C0
  have hS : va_S (fun q : Nat => B ≤ q) s.heap s.heap [] := va_S.rf
  have fr : ∀ j : Nat, (j < k2 ∨ k2 + 1 ≤ j) → w0[j]? = w0[j]? := fun j _ => rfl
  have hl := lv_entry ([.ref (ad k0), .ref (ad k1), .ref (ad k2)]) (n := 4) (Nat.le_of_ble_eq_true rfl)
  rw [lg_entry_eq]
  generalize (lg_sl ([.ref (ad k0), .ref (ad k1), .ref (ad k2)]) ++ List.replicate (4 - (lg_sl ([.ref (ad k0), .ref (ad k1), .ref (ad k2)])).length) Slot.unset).toArray = ls at hl ⊢
  have hl : lv_has ls 4 [(0, .ref (ad k0)), (1, .ref (ad k1)), (2, .ref (ad k2))] := hl
  unfold f_Do_measure at hf
  obtain ⟨mk0_0, gk0_1, mk0_32, mk0_33⟩ := id bk0_0
  have mk0_0 : w0[k0]? = some (ad k0, .inr (1, [.ref (ad (k0 + 1)), .ref (ad (k0 + 32)), .ref (ad (k0 + 33)), .int x0_3])) := mk0_0
  have gk0_1 : wc_grid cI cG ad (k0 + 1) 30 4 x0_0 w0 := gk0_1
  have mk0_32 : w0[k0 + 32]? = some (ad (k0 + 32), .inl (cI, 30, .inl x0_1)) := mk0_32
  have mk0_33 : w0[k0 + 33]? = some (ad (k0 + 33), .inl (cI, 8, .inl x0_2)) := mk0_33
  refine lv_iconst (v := 0) hx hb d_Do_measure_0 (by decide) ?_
  refine lv_istore_n (lv' := [(3, .int 0), (0, .ref (ad k0)), (1, .ref (ad k1)), (2, .ref (ad k2))]) hx hb d_Do_measure_1 rfl hl (by decide) rfl (fun ls hl => ?_)
  exact wl_Do_measure_2 (ad := ad) C0 hK hN dj0 dj1 x0_0 x0_1 x0_2 x0_3 x1_0 x2_0 y2_0 N x2_0 0 _ _ _ _ hP hD hS (lv_sub hl [0, 1, 2, 3] rfl) mk0_0 gk0_1 mk0_32 mk0_33 mk1_0 mk2_0 fr hf
set_option maxHeartbeats 4000000 in
set_option maxRecDepth 100000 in
theorem c_Do_isLive (l : Launch) (D : va_G) (cI cG cZ : ClassId) (ad : Nat → Nat) (B : Nat) (w0 : va_W) (N : Nat) (k0 : Nat) (x0_0 : (Nat → Nat → Int32)) (x0_1 : (Nat → Int32)) (x0_2 : (Nat → Int32)) (x0_3 : Int32) (a1 : Int32) (r : Int32) (hf : f_Do_isLive N x0_3 a1 = some r) (bk0_0 : wc_Do cI cG cZ ad k0 (x0_0, x0_1, x0_2, x0_3) w0) : Met l y_Do_isLive (.code y_Do_isLive b_Do_isLive 2 (some .boolean) :: hw_G) ({ frames := 2, cells := 0, slots := 0, locals := 42 } : Room) (va_Pc [.ref (ad k0), .int a1] (hw_U D cI cG cZ B w0)) (va_Qi (fun (r1 : Int32) (w1 : va_W) => r1 = r ∧ w1 = w0) (hw_B D B) (fun q : Nat => B ≤ q)) 0 0 (fun q : Nat => B ≤ q) := by
  refine Met.ofW (cc := b_Do_isLive) (maxL := 2) (ret := (some .boolean)) (by decide) rfl ?_
  intro p e s m args below meth c s₁ Bd hml hv
  obtain ⟨rfl, hP, hD, hK, hN⟩ := hv
  have C0 : hw_C p s m meth c b_Do_isLive 2 _ R_Do (some .boolean) := ⟨Bd.exec, Bd.bytes, Bd.returns, hml, findClass_of_methodNamed Bd.named, fun w h => atoms_spec (ws := .code y_Do_isLive b_Do_isLive 2 (some .boolean) :: hw_G) Bd.pre w (List.mem_cons_of_mem _ h), Bd.notSynchronized⟩
  obtain ⟨hx, hb, hr, -, hown, hts, hlocks⟩ := id C0
  have hS : va_S (fun q : Nat => B ≤ q) s.heap s.heap [] := va_S.rf
  have fr : w0 = w0 := rfl
  have hl := lv_entry ([.ref (ad k0), .int a1]) (n := 2) (Nat.le_of_ble_eq_true rfl)
  rw [lg_entry_eq]
  generalize (lg_sl ([.ref (ad k0), .int a1]) ++ List.replicate (2 - (lg_sl ([.ref (ad k0), .int a1])).length) Slot.unset).toArray = ls at hl ⊢
  have hl : lv_has ls 2 [(0, .ref (ad k0)), (1, .int a1)] := hl
  unfold f_Do_isLive at hf
  obtain ⟨mk0_0, gk0_1, mk0_32, mk0_33⟩ := id bk0_0
  have mk0_0 : w0[k0]? = some (ad k0, .inr (1, [.ref (ad (k0 + 1)), .ref (ad (k0 + 32)), .ref (ad (k0 + 33)), .int x0_3])) := mk0_0
  have gk0_1 : wc_grid cI cG ad (k0 + 1) 30 4 x0_0 w0 := gk0_1
  have mk0_32 : w0[k0 + 32]? = some (ad (k0 + 32), .inl (cI, 30, .inl x0_1)) := mk0_32
  have mk0_33 : w0[k0 + 33]? = some (ad (k0 + 33), .inl (cI, 8, .inl x0_2)) := mk0_33
  refine lv_iload_n hx hb d_Do_isLive_0 rfl (lv_at hl 1 rfl) ?_
  obtain ⟨p1, hp1, hf⟩ := g_bd hf
  refine hw_ci0 (va_runSN (As := [.int a1]) (rest := []) ⟨hx, hb, hml, hown, hts⟩ (c_Nd_isDocumentNumber l D cI cG cZ ad B w0 N a1 p1 hp1) ⟨va_cnB 1 hts (hw_gc ic_Nd_isDocumentNumber) rfl rfl rfl (hN _ in_378) (hts _ iw_1) (by decide +kernel) ⟨Nat.le_of_ble_eq_true rfl, Nat.le_of_ble_eq_true rfl⟩, hts _ iw_379, trivial⟩ ⟨hw_blind, hw_go hP hD hK hN⟩ rfl rfl hl.1 rfl (lv_room (Nat.le_of_ble_eq_true rfl)) d_Do_isLive_1 ⟨Nat.zero_le _, Nat.zero_le _⟩) hS (fun H locs hP hD hS => ?_)
  refine lv_if_eq (tgt := 22) hx hb d_Do_isLive_4 (by decide) (fun c2 => ?_) (fun c2 => ?_)
  · rw [if_pos c2] at hf
    refine lv_iconst (v := 0) hx hb d_Do_isLive_22 (by decide) ?_
    have bk0_0 : wc_Do cI cG cZ ad (k0) (x0_0, x0_1, x0_2, x0_3) w0 := ⟨mk0_0, gk0_1, mk0_32, mk0_33⟩
    have e0 := Option.some.inj hf
    exact W.zret (v := 0) hx hb hr (by decide) (fun t ht hW => ⟨⟨0, w0, rfl, ⟨e0, fr⟩, by rw [ht]; exact hP, hD⟩, hS.F ht⟩) hS.2.2 d_Do_isLive_23
  · rw [if_neg c2] at hf
    refine lv_aload_n hx hb d_Do_isLive_7 rfl (lv_at hl 0 rfl) ?_
    refine va_get (D := D) (ci := 1) (v := .int x0_3) (C := R_Do) (T := F_Do) (N := 4) hx hb hts i_Do hown hK hP (k0) mk0_0 rfl 3 (by decide) (hts _ iw_30) (fun _ h9 => h9) rfl d_Do_isLive_8 ?_
    refine lv_iload_n hx hb d_Do_isLive_11 rfl (lv_at hl 1 rfl) ?_
    obtain ⟨p3, hp3, hf⟩ := g_bd hf
    refine hw_ci0 (va_runSN (As := [.int x0_3, .int a1]) (rest := []) ⟨hx, hb, hml, hown, hts⟩ (c_Nd_isIn l D cI cG cZ ad B w0 N x0_3 a1 p3 hp3) ⟨va_cnB 2 hts (hw_gc ic_Nd_isIn) rfl rfl rfl (hN _ in_381) (hts _ iw_1) (by decide +kernel) ⟨Nat.le_of_ble_eq_true rfl, Nat.le_of_ble_eq_true rfl⟩, hts _ iw_302, trivial⟩ ⟨hw_blind, hw_go hP hD hK hN⟩ rfl rfl hl.1 rfl (lv_room (Nat.le_of_ble_eq_true rfl)) d_Do_isLive_12 ⟨Nat.zero_le _, Nat.zero_le _⟩) hS (fun H locs hP hD hS => ?_)
    refine lv_if_eq (tgt := 22) hx hb d_Do_isLive_15 (by decide) (fun c4 => ?_) (fun c4 => ?_)
    · rw [if_pos c4] at hf
      refine lv_iconst (v := 0) hx hb d_Do_isLive_22 (by decide) ?_
      have bk0_0 : wc_Do cI cG cZ ad (k0) (x0_0, x0_1, x0_2, x0_3) w0 := ⟨mk0_0, gk0_1, mk0_32, mk0_33⟩
      have e0 := Option.some.inj hf
      exact W.zret (v := 0) hx hb hr (by decide) (fun t ht hW => ⟨⟨0, w0, rfl, ⟨e0, fr⟩, by rw [ht]; exact hP, hD⟩, hS.F ht⟩) hS.2.2 d_Do_isLive_23
    · rw [if_neg c4] at hf
      refine lv_iconst (v := 1) hx hb d_Do_isLive_18 (by decide) ?_
      refine lv_goto (tgt := 23) hx hb d_Do_isLive_19 (by decide) ?_
      have bk0_0 : wc_Do cI cG cZ ad (k0) (x0_0, x0_1, x0_2, x0_3) w0 := ⟨mk0_0, gk0_1, mk0_32, mk0_33⟩
      have e0 := Option.some.inj hf
      exact W.zret (v := 1) hx hb hr (by decide) (fun t ht hW => ⟨⟨1, w0, rfl, ⟨e0, fr⟩, by rw [ht]; exact hP, hD⟩, hS.F ht⟩) hS.2.2 d_Do_isLive_23
set_option maxHeartbeats 4000000 in
set_option maxRecDepth 100000 in
theorem c_Do_retire (l : Launch) (D : va_G) (cI cG cZ : ClassId) (ad : Nat → Nat) (B : Nat) (w0 : va_W) (N : Nat) (k0 : Nat) (x0_0 : (Nat → Nat → Int32)) (x0_1 : (Nat → Int32)) (x0_2 : (Nat → Int32)) (x0_3 : Int32) (a1 : Int32) (r : Int32) (y0_3 : Int32) (hf : f_Do_retire N x0_3 a1 = some (r, y0_3)) (bk0_0 : wc_Do cI cG cZ ad k0 (x0_0, x0_1, x0_2, x0_3) w0) : Met l y_Do_retire (.code y_Do_retire b_Do_retire 2 (some .boolean) :: hw_G) ({ frames := 3, cells := 0, slots := 0, locals := 63 } : Room) (va_Pc [.ref (ad k0), .int a1] (hw_U D cI cG cZ B w0)) (va_Qi (fun (r1 : Int32) (w1 : va_W) => r1 = r ∧ wc_Do cI cG cZ ad k0 (x0_0, x0_1, x0_2, y0_3) w1 ∧ (∀ j : Nat, (j < k0 ∨ k0 + 34 ≤ j) → w1[j]? = w0[j]?)) (hw_B D B) (fun q : Nat => B ≤ q)) 0 0 (fun q : Nat => B ≤ q) := by
  refine Met.ofW (cc := b_Do_retire) (maxL := 2) (ret := (some .boolean)) (by decide) rfl ?_
  intro p e s m args below meth c s₁ Bd hml hv
  obtain ⟨rfl, hP, hD, hK, hN⟩ := hv
  have C0 : hw_C p s m meth c b_Do_retire 2 _ R_Do (some .boolean) := ⟨Bd.exec, Bd.bytes, Bd.returns, hml, findClass_of_methodNamed Bd.named, fun w h => atoms_spec (ws := .code y_Do_retire b_Do_retire 2 (some .boolean) :: hw_G) Bd.pre w (List.mem_cons_of_mem _ h), Bd.notSynchronized⟩
  obtain ⟨hx, hb, hr, -, hown, hts, hlocks⟩ := id C0
  have hS : va_S (fun q : Nat => B ≤ q) s.heap s.heap [] := va_S.rf
  have fr : ∀ j : Nat, (j < k0 ∨ k0 + 34 ≤ j) → w0[j]? = w0[j]? := fun j _ => rfl
  have hl := lv_entry ([.ref (ad k0), .int a1]) (n := 2) (Nat.le_of_ble_eq_true rfl)
  rw [lg_entry_eq]
  generalize (lg_sl ([.ref (ad k0), .int a1]) ++ List.replicate (2 - (lg_sl ([.ref (ad k0), .int a1])).length) Slot.unset).toArray = ls at hl ⊢
  have hl : lv_has ls 2 [(0, .ref (ad k0)), (1, .int a1)] := hl
  unfold f_Do_retire at hf
  obtain ⟨mk0_0, gk0_1, mk0_32, mk0_33⟩ := id bk0_0
  have mk0_0 : w0[k0]? = some (ad k0, .inr (1, [.ref (ad (k0 + 1)), .ref (ad (k0 + 32)), .ref (ad (k0 + 33)), .int x0_3])) := mk0_0
  have gk0_1 : wc_grid cI cG ad (k0 + 1) 30 4 x0_0 w0 := gk0_1
  have mk0_32 : w0[k0 + 32]? = some (ad (k0 + 32), .inl (cI, 30, .inl x0_1)) := mk0_32
  have mk0_33 : w0[k0 + 33]? = some (ad (k0 + 33), .inl (cI, 8, .inl x0_2)) := mk0_33
  refine lv_aload_n hx hb d_Do_retire_0 rfl (lv_at hl 0 rfl) ?_
  refine lv_iload_n hx hb d_Do_retire_1 rfl (lv_at hl 1 rfl) ?_
  have bk0_0 : wc_Do cI cG cZ ad (k0) (x0_0, x0_1, x0_2, x0_3) w0 := ⟨mk0_0, gk0_1, mk0_32, mk0_33⟩
  obtain ⟨p1, hp1, hf⟩ := g_bd hf
  refine hw_ci0 (va_runV (As := [.int a1]) (rest := []) ⟨hx, hb, hml, hown, hts⟩ (c_Do_isLive l D cI cG cZ ad B w0 N k0 x0_0 x0_1 x0_2 x0_3 a1 p1 hp1 bk0_0) (cwV 1 hts (hw_gV iw_374 gy_Do_isLive) rfl rfl rfl (by decide +kernel) ⟨Nat.le_of_ble_eq_true rfl, Nat.le_of_ble_eq_true rfl⟩) ⟨hw_blind, va_recv hK hP (ci := 1) (q0 := k0) rfl bk0_0.1, hw_go hP hD hK hN⟩ rfl rfl hl.1 rfl (lv_room (Nat.le_of_ble_eq_true rfl)) d_Do_retire_2 ⟨Nat.zero_le _, Nat.zero_le _⟩) hS (fun H locs hP hD hS => ?_)
  refine lv_if_ne (tgt := 10) hx hb d_Do_retire_5 (by decide) (fun c2 => ?_) (fun c2 => ?_)
  · rw [if_neg c2] at hf
    refine lv_aload_n hx hb d_Do_retire_10 rfl (lv_at hl 0 rfl) ?_
    refine lv_dup hx hb d_Do_retire_11 rfl ?_
    obtain ⟨mk0_0, gk0_1, mk0_32, mk0_33⟩ := id bk0_0
    have mk0_0 : w0[k0]? = some (ad k0, .inr (1, [.ref (ad (k0 + 1)), .ref (ad (k0 + 32)), .ref (ad (k0 + 33)), .int x0_3])) := mk0_0
    have gk0_1 : wc_grid cI cG ad (k0 + 1) 30 4 x0_0 w0 := gk0_1
    have mk0_32 : w0[k0 + 32]? = some (ad (k0 + 32), .inl (cI, 30, .inl x0_1)) := mk0_32
    have mk0_33 : w0[k0 + 33]? = some (ad (k0 + 33), .inl (cI, 8, .inl x0_2)) := mk0_33
    refine va_get (D := D) (ci := 1) (v := .int x0_3) (C := R_Do) (T := F_Do) (N := 4) hx hb hts i_Do hown hK hP (k0) mk0_0 rfl 3 (by decide) (hts _ iw_30) (fun _ h9 => h9) rfl d_Do_retire_12 ?_
    refine lv_iconst (v := 1) hx hb d_Do_retire_15 (by decide) ?_
    refine lv_iload_n hx hb d_Do_retire_16 rfl (lv_at hl 1 rfl) ?_
    refine lv_ishl hx hb d_Do_retire_17 ?_
    refine lv_iconst (v := (-1)) hx hb d_Do_retire_18 (by decide) ?_
    refine lv_ixor hx hb d_Do_retire_19 ?_
    refine lv_iand hx hb d_Do_retire_20 ?_
    refine va_put (D := D) (ci := 1) (v := .int (x0_3 &&& ((1 <<< (a1 &&& 31)) ^^^ (-1)))) (ty := .int) (C := R_Do) (T := F_Do) (N := 4) hx hb hts i_Do t_Do t_Do_ok n_Do hown hK hP hD hS (k0) mk0_0 rfl 3 (by decide) (hts _ iw_30) (fun _ h9 => h9) rfl (by decide +kernel) rfl rfl (Nat.le_of_ble_eq_true rfl) d_Do_retire_21 (fun H locs hP hD hS => ?_)
    obtain ⟨w3, hP, hD, hne, heq⟩ := hs_up hP hD mk0_0
    have mk0_0 : w3[k0]? = some (ad k0, .inr (1, [.ref (ad (k0 + 1)), .ref (ad (k0 + 32)), .ref (ad (k0 + 33)), .int (x0_3 &&& ((1 <<< (a1 &&& 31)) ^^^ (-1)))])) := heq
    have gk0_1 : wc_grid cI cG ad (k0 + 1) 30 4 x0_0 w3 := gk0_1.fr (fun j h1 h2 => hne j (by omega))
    have mk0_32 : w3[k0 + 32]? = some (ad (k0 + 32), .inl (cI, 30, .inl x0_1)) := (hne _ (by omega)).trans mk0_32
    have mk0_33 : w3[k0 + 33]? = some (ad (k0 + 33), .inl (cI, 8, .inl x0_2)) := (hne _ (by omega)).trans mk0_33
    have fr : ∀ j : Nat, (j < k0 ∨ k0 + 34 ≤ j) → w3[j]? = w0[j]? := fun j o0 => (hne j (by omega)).trans (fr j o0)
    refine lv_iconst (v := 1) hx hb d_Do_retire_24 (by decide) ?_
    have bk0_0 : wc_Do cI cG cZ ad (k0) (x0_0, x0_1, x0_2, x0_3 &&& ((1 <<< (a1 &&& 31)) ^^^ (-1))) w3 := ⟨mk0_0, gk0_1, mk0_32, mk0_33⟩
    have he := Option.some.inj hf
    obtain ⟨e0, e1⟩ := Prod.mk.inj he
    have f0 : wc_Do cI cG cZ ad (k0) (x0_0, x0_1, x0_2, y0_3) w3 := by rw [← e1]; exact bk0_0
    exact W.zret (v := 1) hx hb hr (by decide) (fun t ht hW => ⟨⟨1, w3, rfl, ⟨e0, ⟨f0, fr⟩⟩, by rw [ht]; exact hP, hD⟩, hS.F ht⟩) hS.2.2 d_Do_retire_25
  · rw [if_pos c2] at hf
    refine lv_iconst (v := 0) hx hb d_Do_retire_8 (by decide) ?_
    have he := Option.some.inj hf
    obtain ⟨e0, e1⟩ := Prod.mk.inj he
    have f0 : wc_Do cI cG cZ ad (k0) (x0_0, x0_1, x0_2, y0_3) w0 := by rw [← e1]; exact bk0_0
    exact W.zret (v := 0) hx hb hr (by decide) (fun t ht hW => ⟨⟨0, w0, rfl, ⟨e0, ⟨f0, fr⟩⟩, by rw [ht]; exact hP, hD⟩, hS.F ht⟩) hS.2.2 d_Do_retire_9
set_option maxHeartbeats 4000000 in
set_option maxRecDepth 100000 in
theorem c_Do_liveCount (l : Launch) (D : va_G) (cI cG cZ : ClassId) (ad : Nat → Nat) (B : Nat) (w0 : va_W) (N : Nat) (k0 : Nat) (x0_0 : (Nat → Nat → Int32)) (x0_1 : (Nat → Int32)) (x0_2 : (Nat → Int32)) (x0_3 : Int32) (r : Int32) (hf : f_Do_liveCount N x0_3 = some r) (bk0_0 : wc_Do cI cG cZ ad k0 (x0_0, x0_1, x0_2, x0_3) w0) : Met l y_Do_liveCount (.code y_Do_liveCount b_Do_liveCount 1 (some .int) :: hw_G) ({ frames := 1, cells := 0, slots := 0, locals := 20 } : Room) (va_Pc [.ref (ad k0)] (hw_U D cI cG cZ B w0)) (va_Qi (fun (r1 : Int32) (w1 : va_W) => r1 = r ∧ w1 = w0) (hw_B D B) (fun q : Nat => B ≤ q)) 0 0 (fun q : Nat => B ≤ q) := by
  refine Met.ofW (cc := b_Do_liveCount) (maxL := 1) (ret := (some .int)) (by decide) rfl ?_
  intro p e s m args below meth c s₁ Bd hml hv
  obtain ⟨rfl, hP, hD, hK, hN⟩ := hv
  have C0 : hw_C p s m meth c b_Do_liveCount 1 _ R_Do (some .int) := ⟨Bd.exec, Bd.bytes, Bd.returns, hml, findClass_of_methodNamed Bd.named, fun w h => atoms_spec (ws := .code y_Do_liveCount b_Do_liveCount 1 (some .int) :: hw_G) Bd.pre w (List.mem_cons_of_mem _ h), Bd.notSynchronized⟩
  obtain ⟨hx, hb, hr, -, hown, hts, hlocks⟩ := id C0
  have hS : va_S (fun q : Nat => B ≤ q) s.heap s.heap [] := va_S.rf
  have fr : w0 = w0 := rfl
  have hl := lv_entry ([.ref (ad k0)]) (n := 1) (Nat.le_of_ble_eq_true rfl)
  rw [lg_entry_eq]
  generalize (lg_sl ([.ref (ad k0)]) ++ List.replicate (1 - (lg_sl ([.ref (ad k0)])).length) Slot.unset).toArray = ls at hl ⊢
  have hl : lv_has ls 1 [(0, .ref (ad k0))] := hl
  unfold f_Do_liveCount at hf
  obtain ⟨mk0_0, gk0_1, mk0_32, mk0_33⟩ := id bk0_0
  have mk0_0 : w0[k0]? = some (ad k0, .inr (1, [.ref (ad (k0 + 1)), .ref (ad (k0 + 32)), .ref (ad (k0 + 33)), .int x0_3])) := mk0_0
  have gk0_1 : wc_grid cI cG ad (k0 + 1) 30 4 x0_0 w0 := gk0_1
  have mk0_32 : w0[k0 + 32]? = some (ad (k0 + 32), .inl (cI, 30, .inl x0_1)) := mk0_32
  have mk0_33 : w0[k0 + 33]? = some (ad (k0 + 33), .inl (cI, 8, .inl x0_2)) := mk0_33
  refine lv_aload_n hx hb d_Do_liveCount_0 rfl (lv_at hl 0 rfl) ?_
  refine va_get (D := D) (ci := 1) (v := .int x0_3) (C := R_Do) (T := F_Do) (N := 4) hx hb hts i_Do hown hK hP (k0) mk0_0 rfl 3 (by decide) (hts _ iw_30) (fun _ h9 => h9) rfl d_Do_liveCount_1 ?_
  obtain ⟨p1, hp1, hf⟩ := g_bd hf
  refine hw_ci0 (va_runS (As := [.int x0_3]) (rest := []) ⟨hx, hb, hml, hown, hts⟩ (c_In_bitCount l D cI cG cZ ad B w0 N x0_3 p1 hp1) (va_cwS 1 hts (hw_gS iw_394 gs_In_bitCount) rfl rfl rfl (by decide +kernel) ⟨Nat.le_of_ble_eq_true rfl, Nat.le_of_ble_eq_true rfl⟩) ⟨hw_blind, hw_go hP hD hK hN⟩ rfl rfl hl.1 rfl (lv_room (Nat.le_of_ble_eq_true rfl)) d_Do_liveCount_4 ⟨Nat.zero_le _, Nat.zero_le _⟩) hS (fun H locs hP hD hS => ?_)
  have bk0_0 : wc_Do cI cG cZ ad (k0) (x0_0, x0_1, x0_2, x0_3) w0 := ⟨mk0_0, gk0_1, mk0_32, mk0_33⟩
  have e0 := Option.some.inj hf
  exact W.iret (v := p1) hx hb hr (fun t ht hW => ⟨⟨p1, w0, rfl, ⟨e0, fr⟩, by rw [ht]; exact hP, hD⟩, hS.F ht⟩) hS.2.2 d_Do_liveCount_7
set_option maxHeartbeats 4000000 in
set_option maxRecDepth 100000 in
theorem wl_Do_rankByDistance_2 {p : Program} {l : Launch} {e : Env} {s : State} {m : MethodId} {args : Array Value} {below : List Frame} {meth : Method} {c : Code} {D : va_G} {cI cG cZ : ClassId} {ad : Nat → Nat} {B : Nat} {w0 : va_W} {N : Nat} {k0 : Nat} {k1 : Nat} {k2 : Nat} (C0 : hw_C p s m meth c b_Do_rankByDistance 4 args R_Do none) (hK : va_K D classes [(cI, .int), (cG, .array .int), (cZ, .boolean)] s) (hN : hw_N s) (dj0 : k0 + 34 ≤ k2 ∨ k2 + 3 ≤ k0) (dj1 : k1 + 1 ≤ k2 ∨ k2 + 3 ≤ k1) (x0_0 : (Nat → Nat → Int32)) (x0_1 : (Nat → Int32)) (x0_2 : (Nat → Int32)) (x0_3 : Int32) (x1_0 : (Nat → Int32)) (x2_0 : (Nat → Int32)) (x2_1 : (Nat → Int32)) (x2_2 : Int32) (x2_3 : Int32) (x2_4 : Int32) (y2_0 : (Nat → Int32)) (y2_1 : (Nat → Int32)) (y2_2 : Int32) (y2_3 : Int32) (y2_4 : Int32) : ∀ (n : Nat) (vbk2_0 : T_Rk) (v3 : Int32) (ws : va_W) (H : Heap) (locs : List Loc) (ls : Array Slot), va_P D classes ws H → va_D (fun q : Nat => B ≤ q) ws → va_S (fun q : Nat => B ≤ q) s.heap H locs → lv_has ls 4 [(3, .int v3), (0, .ref (ad k0)), (1, .ref (ad k1)), (2, .ref (ad k2))] → ws[k0]? = some (ad k0, .inr (1, [.ref (ad (k0 + 1)), .ref (ad (k0 + 32)), .ref (ad (k0 + 33)), .int x0_3])) → wc_grid cI cG ad (k0 + 1) 30 4 x0_0 ws → ws[k0 + 32]? = some (ad (k0 + 32), .inl (cI, 30, .inl x0_1)) → ws[k0 + 33]? = some (ad (k0 + 33), .inl (cI, 8, .inl x0_2)) → ws[k1]? = some (ad k1, .inl (cI, 4, .inl x1_0)) → wc_Rk cI cG cZ ad (k2) vbk2_0 ws → (∀ j : Nat, (j < k2 ∨ k2 + 3 ≤ j) → ws[j]? = w0[j]?) → f_Do_rankByDistance_2 N x0_0 x0_3 x1_0 n vbk2_0 v3 = some (y2_0, y2_1, y2_2, y2_3, y2_4) → W p l e ({ frames := 3, cells := 0, slots := 0, locals := 63 } : Room) s m args below meth c H locs 0 0 (MQ below (va_Qv (fun (w1 : va_W) => wc_Rk cI cG cZ ad k2 (y2_0, y2_1, y2_2, y2_3, y2_4) w1 ∧ (∀ j : Nat, (j < k2 ∨ k2 + 3 ≤ j) → w1[j]? = w0[j]?)) (hw_B D B) (fun q : Nat => B ≤ q)) args s 0 0 (fun q : Nat => B ≤ q)) (F0 m 2 ls []) := by
  obtain ⟨hx, hb, hr, hml, hown, hts, hlocks⟩ := id C0
  intro n
  induction n with
  | zero =>
    intro vbk2_0 v3 ws H locs ls hP hD hS hl mk0_0 gk0_1 mk0_32 mk0_33 mk1_0 bk2_0 fr hf
    exact nomatch (show none = some _ from hf)
  | succ n ih =>
    intro vbk2_0 v3 ws H locs ls hP hD hS hl mk0_0 gk0_1 mk0_32 mk0_33 mk1_0 bk2_0 fr hf
    rw [f_Do_rankByDistance_2] at hf
    refine lv_iload_n hx hb d_Do_rankByDistance_2 rfl (lv_at hl 0 rfl) ?_
    refine lv_bipush (v := 30) hx hb d_Do_rankByDistance_3 (by decide) ?_
    refine lv_icmp_ge (tgt := 38) hx hb d_Do_rankByDistance_5 (by decide) (fun c1 => ?_) (fun c1 => ?_)
    · rw [if_pos c1] at hf
      have bk0_0 : wc_Do cI cG cZ ad (k0) (x0_0, x0_1, x0_2, x0_3) ws := ⟨mk0_0, gk0_1, mk0_32, mk0_33⟩
      have he := Option.some.inj hf
      obtain ⟨e0, he⟩ := Prod.mk.inj he
      obtain ⟨e1, he⟩ := Prod.mk.inj he
      obtain ⟨e2, he⟩ := Prod.mk.inj he
      obtain ⟨e3, e4⟩ := Prod.mk.inj he
      have f0 : wc_Rk cI cG cZ ad (k2) (y2_0, y2_1, y2_2, y2_3, y2_4) ws := by rw [← e0, ← e1, ← e2, ← e3, ← e4]; exact bk2_0
      exact W.vret hx hb hr (fun t ht hW => ⟨⟨ws, rfl, ⟨f0, fr⟩, by rw [ht]; exact hP, hD⟩, hS.F ht⟩) hS.2.2 d_Do_rankByDistance_38
    · rw [if_neg c1] at hf
      refine lv_aload_n hx hb d_Do_rankByDistance_8 rfl (lv_at hl 1 rfl) ?_
      refine lv_iload_n hx hb d_Do_rankByDistance_9 rfl (lv_at hl 0 rfl) ?_
      have bk0_0 : wc_Do cI cG cZ ad (k0) (x0_0, x0_1, x0_2, x0_3) ws := ⟨mk0_0, gk0_1, mk0_32, mk0_33⟩
      obtain ⟨p2, hp2, hf⟩ := g_bd hf
      refine hw_ci0 (va_runV (As := [.int v3]) (rest := []) ⟨hx, hb, hml, hown, hts⟩ (c_Do_isLive l D cI cG cZ ad B ws N k0 x0_0 x0_1 x0_2 x0_3 v3 p2 hp2 bk0_0) (cwV 1 hts (hw_gV iw_374 gy_Do_isLive) rfl rfl rfl (by decide +kernel) ⟨Nat.le_of_ble_eq_true rfl, Nat.le_of_ble_eq_true rfl⟩) ⟨hw_blind, va_recv hK hP (ci := 1) (q0 := k0) rfl bk0_0.1, hw_go hP hD hK hN⟩ rfl rfl hl.1 rfl (lv_room (Nat.le_of_ble_eq_true rfl)) d_Do_rankByDistance_10 ⟨Nat.zero_le _, Nat.zero_le _⟩) hS (fun H locs hP hD hS => ?_)
      refine lv_if_eq (tgt := 32) hx hb d_Do_rankByDistance_13 (by decide) (fun c3 => ?_) (fun c3 => ?_)
      · rw [if_pos c3] at hf
        refine lv_iinc (v := v3 + 1) (lv' := [(3, .int (v3 + 1)), (0, .ref (ad k0)), (1, .ref (ad k1)), (2, .ref (ad k2))]) hx hb d_Do_rankByDistance_32 hl (k := 0) rfl rfl (by decide) rfl (fun ls hl => ?_)
        refine lv_goto (tgt := 2) hx hb d_Do_rankByDistance_35 (by decide) ?_
        obtain ⟨mk0_0, gk0_1, mk0_32, mk0_33⟩ := id bk0_0
        have mk0_0 : ws[k0]? = some (ad k0, .inr (1, [.ref (ad (k0 + 1)), .ref (ad (k0 + 32)), .ref (ad (k0 + 33)), .int x0_3])) := mk0_0
        have gk0_1 : wc_grid cI cG ad (k0 + 1) 30 4 x0_0 ws := gk0_1
        have mk0_32 : ws[k0 + 32]? = some (ad (k0 + 32), .inl (cI, 30, .inl x0_1)) := mk0_32
        have mk0_33 : ws[k0 + 33]? = some (ad (k0 + 33), .inl (cI, 8, .inl x0_2)) := mk0_33
        exact ih vbk2_0 (v3 + 1) _ _ _ _ hP hD hS (lv_sub hl [0, 1, 2, 3] rfl) mk0_0 gk0_1 mk0_32 mk0_33 mk1_0 bk2_0 fr hf
      · rw [if_neg c3] at hf
        refine lv_aload_n hx hb d_Do_rankByDistance_16 rfl (lv_at hl 3 rfl) ?_
        refine lv_iload_n hx hb d_Do_rankByDistance_17 rfl (lv_at hl 0 rfl) ?_
        refine lv_aload_n hx hb d_Do_rankByDistance_18 rfl (lv_at hl 2 rfl) ?_
        refine lv_aload_n hx hb d_Do_rankByDistance_19 rfl (lv_at hl 1 rfl) ?_
        obtain ⟨mk0_0, gk0_1, mk0_32, mk0_33⟩ := id bk0_0
        have mk0_0 : ws[k0]? = some (ad k0, .inr (1, [.ref (ad (k0 + 1)), .ref (ad (k0 + 32)), .ref (ad (k0 + 33)), .int x0_3])) := mk0_0
        have gk0_1 : wc_grid cI cG ad (k0 + 1) 30 4 x0_0 ws := gk0_1
        have mk0_32 : ws[k0 + 32]? = some (ad (k0 + 32), .inl (cI, 30, .inl x0_1)) := mk0_32
        have mk0_33 : ws[k0 + 33]? = some (ad (k0 + 33), .inl (cI, 8, .inl x0_2)) := mk0_33
        refine va_get (D := D) (ci := 1) (v := .ref (ad (k0 + 1))) (C := R_Do) (T := F_Do) (N := 4) hx hb hts i_Do hown hK hP (k0) mk0_0 rfl 0 (by decide) (hts _ iw_27) (fun _ h9 => h9) rfl d_Do_rankByDistance_20 ?_
        refine lv_iload_n hx hb d_Do_rankByDistance_23 rfl (lv_at hl 0 rfl) ?_
        obtain ⟨z4, hf⟩ := g_atE hf
        have lz4 := g_inLt z4
        refine hw_aald hx hb hK hP (k0 + 1) 1 gk0_1.1 rfl rfl z4 d_Do_rankByDistance_24 (if_pos lz4) ?_
        obtain ⟨p5, hp5, hf⟩ := g_bd hf
        refine hw_ci0 (va_runSN (As := [.ref (ad k1), .ref (ad (k0 + 1 + 1 + v3.toNatClampNeg))]) (rest := [.int v3, .ref (ad k2)]) ⟨hx, hb, hml, hown, hts⟩ (c_Nd_distance l D cI cG cZ ad B ws N k1 x1_0 (k0 + 1 + 1 + v3.toNatClampNeg) (x0_0 v3.toNatClampNeg) p5 hp5 mk1_0 (gk0_1.2 _ (g_inLt z4))) ⟨va_cnB 2 hts (hw_gc ic_Nd_distance) rfl rfl rfl (hN _ in_227) (hts _ iw_1) (by decide +kernel) ⟨Nat.le_of_ble_eq_true rfl, Nat.le_of_ble_eq_true rfl⟩, hts _ iw_228, trivial⟩ ⟨hw_blind, hw_go hP hD hK hN⟩ rfl rfl hl.1 rfl (lv_room (Nat.le_of_ble_eq_true rfl)) d_Do_rankByDistance_25 ⟨Nat.zero_le _, Nat.zero_le _⟩) hS (fun H locs hP hD hS => ?_)
        obtain ⟨p6, hp6, hf⟩ := g_bd hf
        refine hw_ci (va_runV (As := [.int v3, .int p5]) (rest := []) ⟨hx, hb, hml, hown, hts⟩ (c_Rk_add l D cI cG cZ ad B ws N k2 vbk2_0.1 vbk2_0.2.1 vbk2_0.2.2.1 vbk2_0.2.2.2.1 vbk2_0.2.2.2.2 v3 p5 p6.1 p6.2.1 p6.2.2.1 p6.2.2.2 hp6 bk2_0) (cwV 2 hts (hw_gV iw_439 gy_Rk_add) rfl rfl rfl (by decide +kernel) ⟨Nat.le_of_ble_eq_true rfl, Nat.le_of_ble_eq_true rfl⟩) ⟨hw_blind, va_recv hK hP (ci := 4) (q0 := k2) rfl bk2_0.1, hw_go hP hD hK hN⟩ rfl rfl hl.1 rfl (lv_room (Nat.le_of_ble_eq_true rfl)) d_Do_rankByDistance_28 ⟨Nat.zero_le _, Nat.zero_le _⟩) hS (fun w7 H locs hP hD hS hpp => ?_)
        obtain ⟨q0, frc⟩ := hpp
        have bk2_0 : wc_Rk cI cG cZ ad (k2) (p6.2.1, p6.2.2.1, p6.2.2.2, vbk2_0.2.2.2.1, vbk2_0.2.2.2.2) w7 := q0
        have mk1_0 : w7[k1]? = some (ad k1, .inl (cI, 4, .inl x1_0)) := (frc _ (by omega)).trans mk1_0
        have mk0_0 : w7[k0]? = some (ad k0, .inr (1, [.ref (ad (k0 + 1)), .ref (ad (k0 + 32)), .ref (ad (k0 + 33)), .int x0_3])) := (frc _ (by omega)).trans mk0_0
        have gk0_1 : wc_grid cI cG ad (k0 + 1) 30 4 x0_0 w7 := gk0_1.fr (fun j h1 h2 => frc j (by omega))
        have mk0_32 : w7[k0 + 32]? = some (ad (k0 + 32), .inl (cI, 30, .inl x0_1)) := (frc _ (by omega)).trans mk0_32
        have mk0_33 : w7[k0 + 33]? = some (ad (k0 + 33), .inl (cI, 8, .inl x0_2)) := (frc _ (by omega)).trans mk0_33
        have fr : ∀ j : Nat, (j < k2 ∨ k2 + 3 ≤ j) → w7[j]? = w0[j]? := fun j o0 => (frc j (by omega)).trans (fr j o0)
        refine lv_pop hx hb d_Do_rankByDistance_31 rfl ?_
        refine lv_iinc (v := v3 + 1) (lv' := [(3, .int (v3 + 1)), (0, .ref (ad k0)), (1, .ref (ad k1)), (2, .ref (ad k2))]) hx hb d_Do_rankByDistance_32 hl (k := 0) rfl rfl (by decide) rfl (fun ls hl => ?_)
        refine lv_goto (tgt := 2) hx hb d_Do_rankByDistance_35 (by decide) ?_
        exact ih (p6.2.1, p6.2.2.1, p6.2.2.2, vbk2_0.2.2.2.1, vbk2_0.2.2.2.2) (v3 + 1) _ _ _ _ hP hD hS (lv_sub hl [0, 1, 2, 3] rfl) mk0_0 gk0_1 mk0_32 mk0_33 mk1_0 bk2_0 fr hf
set_option maxHeartbeats 4000000 in
set_option maxRecDepth 100000 in
theorem c_Do_rankByDistance (l : Launch) (D : va_G) (cI cG cZ : ClassId) (ad : Nat → Nat) (B : Nat) (w0 : va_W) (N : Nat) (k0 : Nat) (x0_0 : (Nat → Nat → Int32)) (x0_1 : (Nat → Int32)) (x0_2 : (Nat → Int32)) (x0_3 : Int32) (k1 : Nat) (x1_0 : (Nat → Int32)) (k2 : Nat) (x2_0 : (Nat → Int32)) (x2_1 : (Nat → Int32)) (x2_2 : Int32) (x2_3 : Int32) (x2_4 : Int32) (y2_0 : (Nat → Int32)) (y2_1 : (Nat → Int32)) (y2_2 : Int32) (y2_3 : Int32) (y2_4 : Int32) (hf : f_Do_rankByDistance N x0_0 x0_3 x1_0 x2_0 x2_1 x2_2 x2_3 x2_4 = some (y2_0, y2_1, y2_2, y2_3, y2_4)) (bk0_0 : wc_Do cI cG cZ ad k0 (x0_0, x0_1, x0_2, x0_3) w0) (mk1_0 : w0[k1]? = some (ad k1, .inl (cI, 4, .inl x1_0))) (bk2_0 : wc_Rk cI cG cZ ad k2 (x2_0, x2_1, x2_2, x2_3, x2_4) w0) (dj0 : k0 + 34 ≤ k2 ∨ k2 + 3 ≤ k0) (dj1 : k1 + 1 ≤ k2 ∨ k2 + 3 ≤ k1) : Met l y_Do_rankByDistance (.code y_Do_rankByDistance b_Do_rankByDistance 4 none :: hw_G) ({ frames := 3, cells := 0, slots := 0, locals := 63 } : Room) (va_Pc [.ref (ad k0), .ref (ad k1), .ref (ad k2)] (hw_U D cI cG cZ B w0)) (va_Qv (fun (w1 : va_W) => wc_Rk cI cG cZ ad k2 (y2_0, y2_1, y2_2, y2_3, y2_4) w1 ∧ (∀ j : Nat, (j < k2 ∨ k2 + 3 ≤ j) → w1[j]? = w0[j]?)) (hw_B D B) (fun q : Nat => B ≤ q)) 0 0 (fun q : Nat => B ≤ q) := by
  refine Met.ofW (cc := b_Do_rankByDistance) (maxL := 4) (ret := none) (by decide) rfl ?_
  intro p e s m args below meth c s₁ Bd hml hv
  obtain ⟨rfl, hP, hD, hK, hN⟩ := hv
  have C0 : hw_C p s m meth c b_Do_rankByDistance 4 _ R_Do none := ⟨Bd.exec, Bd.bytes, Bd.returns, hml, findClass_of_methodNamed Bd.named, fun w h => atoms_spec (ws := .code y_Do_rankByDistance b_Do_rankByDistance 4 none :: hw_G) Bd.pre w (List.mem_cons_of_mem _ h), Bd.notSynchronized⟩
  obtain ⟨hx, hb, hr, -, hown, hts, hlocks⟩ := id C0
  have hS : va_S (fun q : Nat => B ≤ q) s.heap s.heap [] := va_S.rf
  have fr : ∀ j : Nat, (j < k2 ∨ k2 + 3 ≤ j) → w0[j]? = w0[j]? := fun j _ => rfl
  have hl := lv_entry ([.ref (ad k0), .ref (ad k1), .ref (ad k2)]) (n := 4) (Nat.le_of_ble_eq_true rfl)
  rw [lg_entry_eq]
  generalize (lg_sl ([.ref (ad k0), .ref (ad k1), .ref (ad k2)]) ++ List.replicate (4 - (lg_sl ([.ref (ad k0), .ref (ad k1), .ref (ad k2)])).length) Slot.unset).toArray = ls at hl ⊢
  have hl : lv_has ls 4 [(0, .ref (ad k0)), (1, .ref (ad k1)), (2, .ref (ad k2))] := hl
  unfold f_Do_rankByDistance at hf
  obtain ⟨mk0_0, gk0_1, mk0_32, mk0_33⟩ := id bk0_0
  have mk0_0 : w0[k0]? = some (ad k0, .inr (1, [.ref (ad (k0 + 1)), .ref (ad (k0 + 32)), .ref (ad (k0 + 33)), .int x0_3])) := mk0_0
  have gk0_1 : wc_grid cI cG ad (k0 + 1) 30 4 x0_0 w0 := gk0_1
  have mk0_32 : w0[k0 + 32]? = some (ad (k0 + 32), .inl (cI, 30, .inl x0_1)) := mk0_32
  have mk0_33 : w0[k0 + 33]? = some (ad (k0 + 33), .inl (cI, 8, .inl x0_2)) := mk0_33
  refine lv_iconst (v := 0) hx hb d_Do_rankByDistance_0 (by decide) ?_
  refine lv_istore_n (lv' := [(3, .int 0), (0, .ref (ad k0)), (1, .ref (ad k1)), (2, .ref (ad k2))]) hx hb d_Do_rankByDistance_1 rfl hl (by decide) rfl (fun ls hl => ?_)
  exact wl_Do_rankByDistance_2 (ad := ad) C0 hK hN dj0 dj1 x0_0 x0_1 x0_2 x0_3 x1_0 x2_0 x2_1 x2_2 x2_3 x2_4 y2_0 y2_1 y2_2 y2_3 y2_4 N (x2_0, x2_1, x2_2, x2_3, x2_4) 0 _ _ _ _ hP hD hS (lv_sub hl [0, 1, 2, 3] rfl) mk0_0 gk0_1 mk0_32 mk0_33 mk1_0 bk2_0 fr hf
set_option maxHeartbeats 4000000 in
set_option maxRecDepth 100000 in
theorem c_Do_countOfWord (l : Launch) (D : va_G) (cI cG cZ : ClassId) (ad : Nat → Nat) (B : Nat) (w0 : va_W) (N : Nat) (k0 : Nat) (x0_0 : (Nat → Nat → Int32)) (x0_1 : (Nat → Int32)) (x0_2 : (Nat → Int32)) (x0_3 : Int32) (a1 : Int32) (a2 : Int32) (r : Int32) (hf : f_Do_countOfWord N x0_1 a1 a2 = some r) (bk0_0 : wc_Do cI cG cZ ad k0 (x0_0, x0_1, x0_2, x0_3) w0) : Met l y_Do_countOfWord (.code y_Do_countOfWord b_Do_countOfWord 3 (some .int) :: hw_G) ({ frames := 0, cells := 0, slots := 0, locals := 0 } : Room) (va_Pc [.ref (ad k0), .int a1, .int a2] (hw_U D cI cG cZ B w0)) (va_Qi (fun (r1 : Int32) (w1 : va_W) => r1 = r ∧ w1 = w0) (hw_B D B) (fun q : Nat => B ≤ q)) 0 0 (fun q : Nat => B ≤ q) := by
  refine Met.ofW (cc := b_Do_countOfWord) (maxL := 3) (ret := (some .int)) (by decide) rfl ?_
  intro p e s m args below meth c s₁ Bd hml hv
  obtain ⟨rfl, hP, hD, hK, hN⟩ := hv
  have C0 : hw_C p s m meth c b_Do_countOfWord 3 _ R_Do (some .int) := ⟨Bd.exec, Bd.bytes, Bd.returns, hml, findClass_of_methodNamed Bd.named, fun w h => atoms_spec (ws := .code y_Do_countOfWord b_Do_countOfWord 3 (some .int) :: hw_G) Bd.pre w (List.mem_cons_of_mem _ h), Bd.notSynchronized⟩
  obtain ⟨hx, hb, hr, -, hown, hts, hlocks⟩ := id C0
  have hS : va_S (fun q : Nat => B ≤ q) s.heap s.heap [] := va_S.rf
  have fr : w0 = w0 := rfl
  have hl := lv_entry ([.ref (ad k0), .int a1, .int a2]) (n := 3) (Nat.le_of_ble_eq_true rfl)
  rw [lg_entry_eq]
  generalize (lg_sl ([.ref (ad k0), .int a1, .int a2]) ++ List.replicate (3 - (lg_sl ([.ref (ad k0), .int a1, .int a2])).length) Slot.unset).toArray = ls at hl ⊢
  have hl : lv_has ls 3 [(0, .ref (ad k0)), (1, .int a1), (2, .int a2)] := hl
  unfold f_Do_countOfWord at hf
  obtain ⟨mk0_0, gk0_1, mk0_32, mk0_33⟩ := id bk0_0
  have mk0_0 : w0[k0]? = some (ad k0, .inr (1, [.ref (ad (k0 + 1)), .ref (ad (k0 + 32)), .ref (ad (k0 + 33)), .int x0_3])) := mk0_0
  have gk0_1 : wc_grid cI cG ad (k0 + 1) 30 4 x0_0 w0 := gk0_1
  have mk0_32 : w0[k0 + 32]? = some (ad (k0 + 32), .inl (cI, 30, .inl x0_1)) := mk0_32
  have mk0_33 : w0[k0 + 33]? = some (ad (k0 + 33), .inl (cI, 8, .inl x0_2)) := mk0_33
  refine lv_aload_n hx hb d_Do_countOfWord_0 rfl (lv_at hl 0 rfl) ?_
  refine va_get (D := D) (ci := 1) (v := .ref (ad (k0 + 32))) (C := R_Do) (T := F_Do) (N := 4) hx hb hts i_Do hown hK hP (k0) mk0_0 rfl 1 (by decide) (hts _ iw_28) (fun _ h9 => h9) rfl d_Do_countOfWord_1 ?_
  refine lv_iload_n hx hb d_Do_countOfWord_4 rfl (lv_at hl 1 rfl) ?_
  obtain ⟨z1, hf⟩ := g_atE hf
  refine va_iald hx hb hK hP (k0 + 32) 0 mk0_32 rfl z1 d_Do_countOfWord_5 ?_
  refine lv_iconst (v := 3) hx hb d_Do_countOfWord_6 (by decide) ?_
  refine lv_iload_n hx hb d_Do_countOfWord_7 rfl (lv_at hl 2 rfl) ?_
  refine lv_imul hx hb d_Do_countOfWord_8 ?_
  refine lv_ishr hx hb d_Do_countOfWord_9 ?_
  refine lv_bipush (v := 7) hx hb d_Do_countOfWord_10 (by decide) ?_
  refine lv_iand hx hb d_Do_countOfWord_12 ?_
  have bk0_0 : wc_Do cI cG cZ ad (k0) (x0_0, x0_1, x0_2, x0_3) w0 := ⟨mk0_0, gk0_1, mk0_32, mk0_33⟩
  have e0 := Option.some.inj hf
  exact W.iret (v := ((x0_1 a1.toNatClampNeg) >>> ((3 * a2) &&& 31)) &&& 7) hx hb hr (fun t ht hW => ⟨⟨((x0_1 a1.toNatClampNeg) >>> ((3 * a2) &&& 31)) &&& 7, w0, rfl, ⟨e0, fr⟩, by rw [ht]; exact hP, hD⟩, hS.F ht⟩) hS.2.2 d_Do_countOfWord_13
set_option maxHeartbeats 4000000 in
set_option maxRecDepth 100000 in
theorem wl_Do_liveWith_4 {p : Program} {l : Launch} {e : Env} {s : State} {m : MethodId} {args : Array Value} {below : List Frame} {meth : Method} {c : Code} {D : va_G} {cI cG cZ : ClassId} {ad : Nat → Nat} {B : Nat} {w0 : va_W} {N : Nat} {k0 : Nat} (C0 : hw_C p s m meth c b_Do_liveWith 4 args R_Do (some .int)) (hK : va_K D classes [(cI, .int), (cG, .array .int), (cZ, .boolean)] s) (hN : hw_N s) (x0_0 : (Nat → Nat → Int32)) (x0_1 : (Nat → Int32)) (x0_2 : (Nat → Int32)) (x0_3 : Int32) (a1 : Int32) (r : Int32) : ∀ (n : Nat) (v2 : Int32) (v3 : Int32) (ws : va_W) (H : Heap) (locs : List Loc) (ls : Array Slot), va_P D classes ws H → va_D (fun q : Nat => B ≤ q) ws → va_S (fun q : Nat => B ≤ q) s.heap H locs → lv_has ls 4 [(3, .int v3), (2, .int v2), (0, .ref (ad k0)), (1, .int a1)] → ws[k0]? = some (ad k0, .inr (1, [.ref (ad (k0 + 1)), .ref (ad (k0 + 32)), .ref (ad (k0 + 33)), .int x0_3])) → wc_grid cI cG ad (k0 + 1) 30 4 x0_0 ws → ws[k0 + 32]? = some (ad (k0 + 32), .inl (cI, 30, .inl x0_1)) → ws[k0 + 33]? = some (ad (k0 + 33), .inl (cI, 8, .inl x0_2)) → (ws = w0) → f_Do_liveWith_4 N x0_1 x0_3 a1 n v2 v3 = some r → W p l e ({ frames := 3, cells := 0, slots := 0, locals := 63 } : Room) s m args below meth c H locs 0 0 (MQ below (va_Qi (fun (r1 : Int32) (w1 : va_W) => r1 = r ∧ w1 = w0) (hw_B D B) (fun q : Nat => B ≤ q)) args s 0 0 (fun q : Nat => B ≤ q)) (F0 m 4 ls []) := by
  obtain ⟨hx, hb, hr, hml, hown, hts, hlocks⟩ := id C0
  intro n
  induction n with
  | zero =>
    intro v2 v3 ws H locs ls hP hD hS hl mk0_0 gk0_1 mk0_32 mk0_33 fr hf
    exact nomatch (show none = some _ from hf)
  | succ n ih =>
    intro v2 v3 ws H locs ls hP hD hS hl mk0_0 gk0_1 mk0_32 mk0_33 fr hf
    rw [f_Do_liveWith_4] at hf
    refine lv_iload_n hx hb d_Do_liveWith_4 rfl (lv_at hl 0 rfl) ?_
    refine lv_bipush (v := 30) hx hb d_Do_liveWith_5 (by decide) ?_
    refine lv_icmp_ge (tgt := 36) hx hb d_Do_liveWith_7 (by decide) (fun c1 => ?_) (fun c1 => ?_)
    · rw [if_pos c1] at hf
      refine lv_iload_n hx hb d_Do_liveWith_36 rfl (lv_at hl 1 rfl) ?_
      have bk0_0 : wc_Do cI cG cZ ad (k0) (x0_0, x0_1, x0_2, x0_3) ws := ⟨mk0_0, gk0_1, mk0_32, mk0_33⟩
      have e0 := Option.some.inj hf
      exact W.iret (v := v2) hx hb hr (fun t ht hW => ⟨⟨v2, ws, rfl, ⟨e0, fr⟩, by rw [ht]; exact hP, hD⟩, hS.F ht⟩) hS.2.2 d_Do_liveWith_37
    · rw [if_neg c1] at hf
      refine lv_aload_n hx hb d_Do_liveWith_10 rfl (lv_at hl 2 rfl) ?_
      refine lv_iload_n hx hb d_Do_liveWith_11 rfl (lv_at hl 0 rfl) ?_
      have bk0_0 : wc_Do cI cG cZ ad (k0) (x0_0, x0_1, x0_2, x0_3) ws := ⟨mk0_0, gk0_1, mk0_32, mk0_33⟩
      obtain ⟨p2, hp2, hf⟩ := g_bd hf
      refine hw_ci0 (va_runV (As := [.int v3]) (rest := []) ⟨hx, hb, hml, hown, hts⟩ (c_Do_isLive l D cI cG cZ ad B ws N k0 x0_0 x0_1 x0_2 x0_3 v3 p2 hp2 bk0_0) (cwV 1 hts (hw_gV iw_374 gy_Do_isLive) rfl rfl rfl (by decide +kernel) ⟨Nat.le_of_ble_eq_true rfl, Nat.le_of_ble_eq_true rfl⟩) ⟨hw_blind, va_recv hK hP (ci := 1) (q0 := k0) rfl bk0_0.1, hw_go hP hD hK hN⟩ rfl rfl hl.1 rfl (lv_room (Nat.le_of_ble_eq_true rfl)) d_Do_liveWith_12 ⟨Nat.zero_le _, Nat.zero_le _⟩) hS (fun H locs hP hD hS => ?_)
      refine lv_if_eq (tgt := 30) hx hb d_Do_liveWith_15 (by decide) (fun c3 => ?_) (fun c3 => ?_)
      · rw [if_pos c3] at hf
        refine lv_iinc (v := v3 + 1) (lv' := [(3, .int (v3 + 1)), (2, .int v2), (0, .ref (ad k0)), (1, .int a1)]) hx hb d_Do_liveWith_30 hl (k := 0) rfl rfl (by decide) rfl (fun ls hl => ?_)
        refine lv_goto (tgt := 4) hx hb d_Do_liveWith_33 (by decide) ?_
        obtain ⟨mk0_0, gk0_1, mk0_32, mk0_33⟩ := id bk0_0
        have mk0_0 : ws[k0]? = some (ad k0, .inr (1, [.ref (ad (k0 + 1)), .ref (ad (k0 + 32)), .ref (ad (k0 + 33)), .int x0_3])) := mk0_0
        have gk0_1 : wc_grid cI cG ad (k0 + 1) 30 4 x0_0 ws := gk0_1
        have mk0_32 : ws[k0 + 32]? = some (ad (k0 + 32), .inl (cI, 30, .inl x0_1)) := mk0_32
        have mk0_33 : ws[k0 + 33]? = some (ad (k0 + 33), .inl (cI, 8, .inl x0_2)) := mk0_33
        exact ih v2 (v3 + 1) _ _ _ _ hP hD hS (lv_sub hl [0, 1, 2, 3] rfl) mk0_0 gk0_1 mk0_32 mk0_33 fr hf
      · rw [if_neg c3] at hf
        refine lv_aload_n hx hb d_Do_liveWith_18 rfl (lv_at hl 2 rfl) ?_
        refine lv_iload_n hx hb d_Do_liveWith_19 rfl (lv_at hl 0 rfl) ?_
        refine lv_iload_n hx hb d_Do_liveWith_20 rfl (lv_at hl 3 rfl) ?_
        obtain ⟨p4, hp4, hf⟩ := g_bd hf
        refine hw_ci0 (va_runV (As := [.int v3, .int a1]) (rest := []) ⟨hx, hb, hml, hown, hts⟩ (c_Do_countOfWord l D cI cG cZ ad B ws N k0 x0_0 x0_1 x0_2 x0_3 v3 a1 p4 hp4 bk0_0) (cwV 2 hts (hw_gV iw_456 gy_Do_countOfWord) rfl rfl rfl (by decide +kernel) ⟨Nat.le_of_ble_eq_true rfl, Nat.le_of_ble_eq_true rfl⟩) ⟨hw_blind, va_recv hK hP (ci := 1) (q0 := k0) rfl bk0_0.1, hw_go hP hD hK hN⟩ rfl rfl hl.1 rfl (lv_room (Nat.le_of_ble_eq_true rfl)) d_Do_liveWith_21 ⟨Nat.zero_le _, Nat.zero_le _⟩) hS (fun H locs hP hD hS => ?_)
        refine lv_if_le (tgt := 30) hx hb d_Do_liveWith_24 (by decide) (fun c5 => ?_) (fun c5 => ?_)
        · rw [if_pos c5] at hf
          refine lv_iinc (v := v3 + 1) (lv' := [(3, .int (v3 + 1)), (2, .int v2), (0, .ref (ad k0)), (1, .int a1)]) hx hb d_Do_liveWith_30 hl (k := 0) rfl rfl (by decide) rfl (fun ls hl => ?_)
          refine lv_goto (tgt := 4) hx hb d_Do_liveWith_33 (by decide) ?_
          obtain ⟨mk0_0, gk0_1, mk0_32, mk0_33⟩ := id bk0_0
          have mk0_0 : ws[k0]? = some (ad k0, .inr (1, [.ref (ad (k0 + 1)), .ref (ad (k0 + 32)), .ref (ad (k0 + 33)), .int x0_3])) := mk0_0
          have gk0_1 : wc_grid cI cG ad (k0 + 1) 30 4 x0_0 ws := gk0_1
          have mk0_32 : ws[k0 + 32]? = some (ad (k0 + 32), .inl (cI, 30, .inl x0_1)) := mk0_32
          have mk0_33 : ws[k0 + 33]? = some (ad (k0 + 33), .inl (cI, 8, .inl x0_2)) := mk0_33
          exact ih v2 (v3 + 1) _ _ _ _ hP hD hS (lv_sub hl [0, 1, 2, 3] rfl) mk0_0 gk0_1 mk0_32 mk0_33 fr hf
        · rw [if_neg c5] at hf
          refine lv_iinc (v := v2 + 1) (lv' := [(2, .int (v2 + 1)), (3, .int v3), (0, .ref (ad k0)), (1, .int a1)]) hx hb d_Do_liveWith_27 hl (k := 1) rfl rfl (by decide) rfl (fun ls hl => ?_)
          refine lv_iinc (v := v3 + 1) (lv' := [(3, .int (v3 + 1)), (2, .int (v2 + 1)), (0, .ref (ad k0)), (1, .int a1)]) hx hb d_Do_liveWith_30 hl (k := 1) rfl rfl (by decide) rfl (fun ls hl => ?_)
          refine lv_goto (tgt := 4) hx hb d_Do_liveWith_33 (by decide) ?_
          obtain ⟨mk0_0, gk0_1, mk0_32, mk0_33⟩ := id bk0_0
          have mk0_0 : ws[k0]? = some (ad k0, .inr (1, [.ref (ad (k0 + 1)), .ref (ad (k0 + 32)), .ref (ad (k0 + 33)), .int x0_3])) := mk0_0
          have gk0_1 : wc_grid cI cG ad (k0 + 1) 30 4 x0_0 ws := gk0_1
          have mk0_32 : ws[k0 + 32]? = some (ad (k0 + 32), .inl (cI, 30, .inl x0_1)) := mk0_32
          have mk0_33 : ws[k0 + 33]? = some (ad (k0 + 33), .inl (cI, 8, .inl x0_2)) := mk0_33
          exact ih (v2 + 1) (v3 + 1) _ _ _ _ hP hD hS (lv_sub hl [0, 1, 2, 3] rfl) mk0_0 gk0_1 mk0_32 mk0_33 fr hf
set_option maxHeartbeats 4000000 in
set_option maxRecDepth 100000 in
theorem c_Do_liveWith (l : Launch) (D : va_G) (cI cG cZ : ClassId) (ad : Nat → Nat) (B : Nat) (w0 : va_W) (N : Nat) (k0 : Nat) (x0_0 : (Nat → Nat → Int32)) (x0_1 : (Nat → Int32)) (x0_2 : (Nat → Int32)) (x0_3 : Int32) (a1 : Int32) (r : Int32) (hf : f_Do_liveWith N x0_1 x0_3 a1 = some r) (bk0_0 : wc_Do cI cG cZ ad k0 (x0_0, x0_1, x0_2, x0_3) w0) : Met l y_Do_liveWith (.code y_Do_liveWith b_Do_liveWith 4 (some .int) :: hw_G) ({ frames := 3, cells := 0, slots := 0, locals := 63 } : Room) (va_Pc [.ref (ad k0), .int a1] (hw_U D cI cG cZ B w0)) (va_Qi (fun (r1 : Int32) (w1 : va_W) => r1 = r ∧ w1 = w0) (hw_B D B) (fun q : Nat => B ≤ q)) 0 0 (fun q : Nat => B ≤ q) := by
  refine Met.ofW (cc := b_Do_liveWith) (maxL := 4) (ret := (some .int)) (by decide) rfl ?_
  intro p e s m args below meth c s₁ Bd hml hv
  obtain ⟨rfl, hP, hD, hK, hN⟩ := hv
  have C0 : hw_C p s m meth c b_Do_liveWith 4 _ R_Do (some .int) := ⟨Bd.exec, Bd.bytes, Bd.returns, hml, findClass_of_methodNamed Bd.named, fun w h => atoms_spec (ws := .code y_Do_liveWith b_Do_liveWith 4 (some .int) :: hw_G) Bd.pre w (List.mem_cons_of_mem _ h), Bd.notSynchronized⟩
  obtain ⟨hx, hb, hr, -, hown, hts, hlocks⟩ := id C0
  have hS : va_S (fun q : Nat => B ≤ q) s.heap s.heap [] := va_S.rf
  have fr : w0 = w0 := rfl
  have hl := lv_entry ([.ref (ad k0), .int a1]) (n := 4) (Nat.le_of_ble_eq_true rfl)
  rw [lg_entry_eq]
  generalize (lg_sl ([.ref (ad k0), .int a1]) ++ List.replicate (4 - (lg_sl ([.ref (ad k0), .int a1])).length) Slot.unset).toArray = ls at hl ⊢
  have hl : lv_has ls 4 [(0, .ref (ad k0)), (1, .int a1)] := hl
  unfold f_Do_liveWith at hf
  obtain ⟨mk0_0, gk0_1, mk0_32, mk0_33⟩ := id bk0_0
  have mk0_0 : w0[k0]? = some (ad k0, .inr (1, [.ref (ad (k0 + 1)), .ref (ad (k0 + 32)), .ref (ad (k0 + 33)), .int x0_3])) := mk0_0
  have gk0_1 : wc_grid cI cG ad (k0 + 1) 30 4 x0_0 w0 := gk0_1
  have mk0_32 : w0[k0 + 32]? = some (ad (k0 + 32), .inl (cI, 30, .inl x0_1)) := mk0_32
  have mk0_33 : w0[k0 + 33]? = some (ad (k0 + 33), .inl (cI, 8, .inl x0_2)) := mk0_33
  refine lv_iconst (v := 0) hx hb d_Do_liveWith_0 (by decide) ?_
  refine lv_istore_n (lv' := [(2, .int 0), (0, .ref (ad k0)), (1, .int a1)]) hx hb d_Do_liveWith_1 rfl hl (by decide) rfl (fun ls hl => ?_)
  refine lv_iconst (v := 0) hx hb d_Do_liveWith_2 (by decide) ?_
  refine lv_istore_n (lv' := [(3, .int 0), (2, .int 0), (0, .ref (ad k0)), (1, .int a1)]) hx hb d_Do_liveWith_3 rfl hl (by decide) rfl (fun ls hl => ?_)
  exact wl_Do_liveWith_4 (ad := ad) C0 hK hN x0_0 x0_1 x0_2 x0_3 a1 r N 0 0 _ _ _ _ hP hD hS (lv_sub hl [0, 1, 2, 3] rfl) mk0_0 gk0_1 mk0_32 mk0_33 fr hf
set_option maxHeartbeats 4000000 in
set_option maxRecDepth 100000 in
theorem wl_Do_weighWords_2 {p : Program} {l : Launch} {e : Env} {s : State} {m : MethodId} {args : Array Value} {below : List Frame} {meth : Method} {c : Code} {D : va_G} {cI cG cZ : ClassId} {ad : Nat → Nat} {B : Nat} {w0 : va_W} {N : Nat} {k0 : Nat} (C0 : hw_C p s m meth c b_Do_weighWords 3 args R_Do none) (hK : va_K D classes [(cI, .int), (cG, .array .int), (cZ, .boolean)] s) (hN : hw_N s) (x0_0 : (Nat → Nat → Int32)) (x0_1 : (Nat → Int32)) (x0_3 : Int32) (x0_2 : (Nat → Int32)) (y0_2 : (Nat → Int32)) : ∀ (n : Nat) (vak0_33 : (Nat → Int32)) (v1 : Int32) (ws : va_W) (H : Heap) (locs : List Loc) (ls : Array Slot), va_P D classes ws H → va_D (fun q : Nat => B ≤ q) ws → va_S (fun q : Nat => B ≤ q) s.heap H locs → lv_has ls 3 [(1, .int v1), (0, .ref (ad k0))] → ws[k0]? = some (ad k0, .inr (1, [.ref (ad (k0 + 1)), .ref (ad (k0 + 32)), .ref (ad (k0 + 33)), .int x0_3])) → wc_grid cI cG ad (k0 + 1) 30 4 x0_0 ws → ws[k0 + 32]? = some (ad (k0 + 32), .inl (cI, 30, .inl x0_1)) → ws[k0 + 33]? = some (ad (k0 + 33), .inl (cI, 8, .inl vak0_33)) → (∀ j : Nat, (j < k0 ∨ k0 + 34 ≤ j) → ws[j]? = w0[j]?) → f_Do_weighWords_2 N x0_1 x0_3 n vak0_33 v1 = some y0_2 → W p l e ({ frames := 4, cells := 0, slots := 0, locals := 86 } : Room) s m args below meth c H locs 0 0 (MQ below (va_Qv (fun (w1 : va_W) => wc_Do cI cG cZ ad k0 (x0_0, x0_1, y0_2, x0_3) w1 ∧ (∀ j : Nat, (j < k0 ∨ k0 + 34 ≤ j) → w1[j]? = w0[j]?)) (hw_B D B) (fun q : Nat => B ≤ q)) args s 0 0 (fun q : Nat => B ≤ q)) (F0 m 2 ls []) := by
  obtain ⟨hx, hb, hr, hml, hown, hts, hlocks⟩ := id C0
  intro n
  induction n with
  | zero =>
    intro vak0_33 v1 ws H locs ls hP hD hS hl mk0_0 gk0_1 mk0_32 mk0_33 fr hf
    exact nomatch (show none = some _ from hf)
  | succ n ih =>
    intro vak0_33 v1 ws H locs ls hP hD hS hl mk0_0 gk0_1 mk0_32 mk0_33 fr hf
    rw [f_Do_weighWords_2] at hf
    refine lv_iload_n hx hb d_Do_weighWords_2 rfl (lv_at hl 0 rfl) ?_
    refine lv_bipush (v := 8) hx hb d_Do_weighWords_3 (by decide) ?_
    refine lv_icmp_ge (tgt := 42) hx hb d_Do_weighWords_5 (by decide) (fun c1 => ?_) (fun c1 => ?_)
    · rw [if_pos c1] at hf
      have bk0_0 : wc_Do cI cG cZ ad (k0) (x0_0, x0_1, vak0_33, x0_3) ws := ⟨mk0_0, gk0_1, mk0_32, mk0_33⟩
      have e0 := Option.some.inj hf
      have f0 : wc_Do cI cG cZ ad (k0) (x0_0, x0_1, y0_2, x0_3) ws := by rw [← e0]; exact bk0_0
      exact W.vret hx hb hr (fun t ht hW => ⟨⟨ws, rfl, ⟨f0, fr⟩, by rw [ht]; exact hP, hD⟩, hS.F ht⟩) hS.2.2 d_Do_weighWords_42
    · rw [if_neg c1] at hf
      refine lv_aload_n hx hb d_Do_weighWords_8 rfl (lv_at hl 1 rfl) ?_
      refine lv_iload_n hx hb d_Do_weighWords_9 rfl (lv_at hl 0 rfl) ?_
      have bk0_0 : wc_Do cI cG cZ ad (k0) (x0_0, x0_1, vak0_33, x0_3) ws := ⟨mk0_0, gk0_1, mk0_32, mk0_33⟩
      obtain ⟨p2, hp2, hf⟩ := g_bd hf
      refine hw_ci0 (va_runV (As := [.int v1]) (rest := []) ⟨hx, hb, hml, hown, hts⟩ (c_Do_liveWith l D cI cG cZ ad B ws N k0 x0_0 x0_1 vak0_33 x0_3 v1 p2 hp2 bk0_0) (cwV 1 hts (hw_gV iw_452 gy_Do_liveWith) rfl rfl rfl (by decide +kernel) ⟨Nat.le_of_ble_eq_true rfl, Nat.le_of_ble_eq_true rfl⟩) ⟨hw_blind, va_recv hK hP (ci := 1) (q0 := k0) rfl bk0_0.1, hw_go hP hD hK hN⟩ rfl rfl hl.1 rfl (lv_room (Nat.le_of_ble_eq_true rfl)) d_Do_weighWords_10 ⟨Nat.zero_le _, Nat.zero_le _⟩) hS (fun H locs hP hD hS => ?_)
      refine lv_istore_n (lv' := [(2, .int p2), (1, .int v1), (0, .ref (ad k0))]) hx hb d_Do_weighWords_13 rfl hl (by decide) rfl (fun ls hl => ?_)
      refine lv_aload_n hx hb d_Do_weighWords_14 rfl (lv_at hl 2 rfl) ?_
      obtain ⟨mk0_0, gk0_1, mk0_32, mk0_33⟩ := id bk0_0
      have mk0_0 : ws[k0]? = some (ad k0, .inr (1, [.ref (ad (k0 + 1)), .ref (ad (k0 + 32)), .ref (ad (k0 + 33)), .int x0_3])) := mk0_0
      have gk0_1 : wc_grid cI cG ad (k0 + 1) 30 4 x0_0 ws := gk0_1
      have mk0_32 : ws[k0 + 32]? = some (ad (k0 + 32), .inl (cI, 30, .inl x0_1)) := mk0_32
      have mk0_33 : ws[k0 + 33]? = some (ad (k0 + 33), .inl (cI, 8, .inl vak0_33)) := mk0_33
      refine va_get (D := D) (ci := 1) (v := .ref (ad (k0 + 33))) (C := R_Do) (T := F_Do) (N := 4) hx hb hts i_Do hown hK hP (k0) mk0_0 rfl 2 (by decide) (hts _ iw_29) (fun _ h9 => h9) rfl d_Do_weighWords_15 ?_
      refine lv_iload_n hx hb d_Do_weighWords_18 rfl (lv_at hl 1 rfl) ?_
      refine lv_iload_n hx hb d_Do_weighWords_19 rfl (lv_at hl 0 rfl) ?_
      refine lv_if_le (tgt := 34) hx hb d_Do_weighWords_20 (by decide) (fun c3 => ?_) (fun c3 => ?_)
      · rw [if_pos c3] at hf
        refine lv_iconst (v := 0) hx hb d_Do_weighWords_34 (by decide) ?_
        obtain ⟨z4, hf⟩ := g_atE hf
        refine va_iast hx hb hK hP hD hS (k0 + 33) 0 mk0_33 rfl z4 d_Do_weighWords_35 (fun H locs hP hD hS => ?_)
        obtain ⟨w5, hP, hD, hne, heq⟩ := hs_up hP hD mk0_33
        have mk0_33 : w5[k0 + 33]? = some (ad (k0 + 33), .inl (cI, 8, .inl (upd vak0_33 v1.toNatClampNeg 0))) := heq
        have mk0_0 : w5[k0]? = some (ad k0, .inr (1, [.ref (ad (k0 + 1)), .ref (ad (k0 + 32)), .ref (ad (k0 + 33)), .int x0_3])) := (hne _ (by omega)).trans mk0_0
        have gk0_1 : wc_grid cI cG ad (k0 + 1) 30 4 x0_0 w5 := gk0_1.fr (fun j h1 h2 => hne j (by omega))
        have mk0_32 : w5[k0 + 32]? = some (ad (k0 + 32), .inl (cI, 30, .inl x0_1)) := (hne _ (by omega)).trans mk0_32
        have fr : ∀ j : Nat, (j < k0 ∨ k0 + 34 ≤ j) → w5[j]? = w0[j]? := fun j o0 => (hne j (by omega)).trans (fr j o0)
        refine lv_iinc (v := v1 + 1) (lv' := [(1, .int (v1 + 1)), (2, .int p2), (0, .ref (ad k0))]) hx hb d_Do_weighWords_36 hl (k := 1) rfl rfl (by decide) rfl (fun ls hl => ?_)
        refine lv_goto (tgt := 2) hx hb d_Do_weighWords_39 (by decide) ?_
        exact ih (upd vak0_33 v1.toNatClampNeg 0) (v1 + 1) _ _ _ _ hP hD hS (lv_sub hl [0, 2] rfl) mk0_0 gk0_1 mk0_32 mk0_33 fr hf
      · rw [if_neg c3] at hf
        refine lv_iconst (v := 1) hx hb d_Do_weighWords_23 (by decide) ?_
        refine lv_aload_n hx hb d_Do_weighWords_24 rfl (lv_at hl 2 rfl) ?_
        have bk0_0 : wc_Do cI cG cZ ad (k0) (x0_0, x0_1, vak0_33, x0_3) ws := ⟨mk0_0, gk0_1, mk0_32, mk0_33⟩
        obtain ⟨p6, hp6, hf⟩ := g_bd hf
        refine hw_ci0 (va_runV (As := []) (rest := [.int 1, .int v1, .ref (ad (k0 + 33))]) ⟨hx, hb, hml, hown, hts⟩ (c_Do_liveCount l D cI cG cZ ad B ws N k0 x0_0 x0_1 vak0_33 x0_3 p6 hp6 bk0_0) (cwV 0 hts (hw_gV iw_460 gy_Do_liveCount) rfl rfl rfl (by decide +kernel) ⟨Nat.le_of_ble_eq_true rfl, Nat.le_of_ble_eq_true rfl⟩) ⟨hw_blind, va_recv hK hP (ci := 1) (q0 := k0) rfl bk0_0.1, hw_go hP hD hK hN⟩ rfl rfl hl.1 rfl (lv_room (Nat.le_of_ble_eq_true rfl)) d_Do_weighWords_25 ⟨Nat.zero_le _, Nat.zero_le _⟩) hS (fun H locs hP hD hS => ?_)
        refine lv_iload_n hx hb d_Do_weighWords_28 rfl (lv_at hl 0 rfl) ?_
        obtain ⟨z7, hf⟩ := g_dvE hf
        refine lv_idiv hx hb d_Do_weighWords_29 z7 ?_
        refine lv_iadd hx hb d_Do_weighWords_30 ?_
        refine lv_goto (tgt := 35) hx hb d_Do_weighWords_31 (by decide) ?_
        obtain ⟨mk0_0, gk0_1, mk0_32, mk0_33⟩ := id bk0_0
        have mk0_0 : ws[k0]? = some (ad k0, .inr (1, [.ref (ad (k0 + 1)), .ref (ad (k0 + 32)), .ref (ad (k0 + 33)), .int x0_3])) := mk0_0
        have gk0_1 : wc_grid cI cG ad (k0 + 1) 30 4 x0_0 ws := gk0_1
        have mk0_32 : ws[k0 + 32]? = some (ad (k0 + 32), .inl (cI, 30, .inl x0_1)) := mk0_32
        have mk0_33 : ws[k0 + 33]? = some (ad (k0 + 33), .inl (cI, 8, .inl vak0_33)) := mk0_33
        obtain ⟨z8, hf⟩ := g_atE hf
        refine va_iast hx hb hK hP hD hS (k0 + 33) 0 mk0_33 rfl z8 d_Do_weighWords_35 (fun H locs hP hD hS => ?_)
        obtain ⟨w9, hP, hD, hne, heq⟩ := hs_up hP hD mk0_33
        have mk0_33 : w9[k0 + 33]? = some (ad (k0 + 33), .inl (cI, 8, .inl (upd vak0_33 v1.toNatClampNeg (1 + (p6 / p2))))) := heq
        have mk0_0 : w9[k0]? = some (ad k0, .inr (1, [.ref (ad (k0 + 1)), .ref (ad (k0 + 32)), .ref (ad (k0 + 33)), .int x0_3])) := (hne _ (by omega)).trans mk0_0
        have gk0_1 : wc_grid cI cG ad (k0 + 1) 30 4 x0_0 w9 := gk0_1.fr (fun j h1 h2 => hne j (by omega))
        have mk0_32 : w9[k0 + 32]? = some (ad (k0 + 32), .inl (cI, 30, .inl x0_1)) := (hne _ (by omega)).trans mk0_32
        have fr : ∀ j : Nat, (j < k0 ∨ k0 + 34 ≤ j) → w9[j]? = w0[j]? := fun j o0 => (hne j (by omega)).trans (fr j o0)
        refine lv_iinc (v := v1 + 1) (lv' := [(1, .int (v1 + 1)), (2, .int p2), (0, .ref (ad k0))]) hx hb d_Do_weighWords_36 hl (k := 1) rfl rfl (by decide) rfl (fun ls hl => ?_)
        refine lv_goto (tgt := 2) hx hb d_Do_weighWords_39 (by decide) ?_
        exact ih (upd vak0_33 v1.toNatClampNeg (1 + (p6 / p2))) (v1 + 1) _ _ _ _ hP hD hS (lv_sub hl [0, 2] rfl) mk0_0 gk0_1 mk0_32 mk0_33 fr hf
set_option maxHeartbeats 4000000 in
set_option maxRecDepth 100000 in
theorem c_Do_weighWords (l : Launch) (D : va_G) (cI cG cZ : ClassId) (ad : Nat → Nat) (B : Nat) (w0 : va_W) (N : Nat) (k0 : Nat) (x0_0 : (Nat → Nat → Int32)) (x0_1 : (Nat → Int32)) (x0_2 : (Nat → Int32)) (x0_3 : Int32) (y0_2 : (Nat → Int32)) (hf : f_Do_weighWords N x0_1 x0_2 x0_3 = some y0_2) (bk0_0 : wc_Do cI cG cZ ad k0 (x0_0, x0_1, x0_2, x0_3) w0) : Met l y_Do_weighWords (.code y_Do_weighWords b_Do_weighWords 3 none :: hw_G) ({ frames := 4, cells := 0, slots := 0, locals := 86 } : Room) (va_Pc [.ref (ad k0)] (hw_U D cI cG cZ B w0)) (va_Qv (fun (w1 : va_W) => wc_Do cI cG cZ ad k0 (x0_0, x0_1, y0_2, x0_3) w1 ∧ (∀ j : Nat, (j < k0 ∨ k0 + 34 ≤ j) → w1[j]? = w0[j]?)) (hw_B D B) (fun q : Nat => B ≤ q)) 0 0 (fun q : Nat => B ≤ q) := by
  refine Met.ofW (cc := b_Do_weighWords) (maxL := 3) (ret := none) (by decide) rfl ?_
  intro p e s m args below meth c s₁ Bd hml hv
  obtain ⟨rfl, hP, hD, hK, hN⟩ := hv
  have C0 : hw_C p s m meth c b_Do_weighWords 3 _ R_Do none := ⟨Bd.exec, Bd.bytes, Bd.returns, hml, findClass_of_methodNamed Bd.named, fun w h => atoms_spec (ws := .code y_Do_weighWords b_Do_weighWords 3 none :: hw_G) Bd.pre w (List.mem_cons_of_mem _ h), Bd.notSynchronized⟩
  obtain ⟨hx, hb, hr, -, hown, hts, hlocks⟩ := id C0
  have hS : va_S (fun q : Nat => B ≤ q) s.heap s.heap [] := va_S.rf
  have fr : ∀ j : Nat, (j < k0 ∨ k0 + 34 ≤ j) → w0[j]? = w0[j]? := fun j _ => rfl
  have hl := lv_entry ([.ref (ad k0)]) (n := 3) (Nat.le_of_ble_eq_true rfl)
  rw [lg_entry_eq]
  generalize (lg_sl ([.ref (ad k0)]) ++ List.replicate (3 - (lg_sl ([.ref (ad k0)])).length) Slot.unset).toArray = ls at hl ⊢
  have hl : lv_has ls 3 [(0, .ref (ad k0))] := hl
  unfold f_Do_weighWords at hf
  obtain ⟨mk0_0, gk0_1, mk0_32, mk0_33⟩ := id bk0_0
  have mk0_0 : w0[k0]? = some (ad k0, .inr (1, [.ref (ad (k0 + 1)), .ref (ad (k0 + 32)), .ref (ad (k0 + 33)), .int x0_3])) := mk0_0
  have gk0_1 : wc_grid cI cG ad (k0 + 1) 30 4 x0_0 w0 := gk0_1
  have mk0_32 : w0[k0 + 32]? = some (ad (k0 + 32), .inl (cI, 30, .inl x0_1)) := mk0_32
  have mk0_33 : w0[k0 + 33]? = some (ad (k0 + 33), .inl (cI, 8, .inl x0_2)) := mk0_33
  refine lv_iconst (v := 0) hx hb d_Do_weighWords_0 (by decide) ?_
  refine lv_istore_n (lv' := [(1, .int 0), (0, .ref (ad k0))]) hx hb d_Do_weighWords_1 rfl hl (by decide) rfl (fun ls hl => ?_)
  exact wl_Do_weighWords_2 (ad := ad) C0 hK hN x0_0 x0_1 x0_3 x0_2 y0_2 N x0_2 0 _ _ _ _ hP hD hS (lv_sub hl [0, 1] rfl) mk0_0 gk0_1 mk0_32 mk0_33 fr hf
set_option maxHeartbeats 4000000 in
set_option maxRecDepth 100000 in
theorem wl_Do_score_5 {p : Program} {l : Launch} {e : Env} {s : State} {m : MethodId} {args : Array Value} {below : List Frame} {meth : Method} {c : Code} {D : va_G} {cI cG cZ : ClassId} {ad : Nat → Nat} {B : Nat} {w0 : va_W} {N : Nat} {k0 : Nat} (C0 : hw_C p s m meth c b_Do_score 6 args R_Do (some .int)) (hK : va_K D classes [(cI, .int), (cG, .array .int), (cZ, .boolean)] s) (hN : hw_N s) (x0_0 : (Nat → Nat → Int32)) (x0_1 : (Nat → Int32)) (x0_2 : (Nat → Int32)) (x0_3 : Int32) (a1 : Int32) (a2 : Int32) (r : Int32) : ∀ (n : Nat) (v3 : Int32) (v4 : Int32) (ws : va_W) (H : Heap) (locs : List Loc) (ls : Array Slot), va_P D classes ws H → va_D (fun q : Nat => B ≤ q) ws → va_S (fun q : Nat => B ≤ q) s.heap H locs → lv_has ls 6 [(4, .int v4), (3, .int v3), (0, .ref (ad k0)), (1, .int a1), (2, .int a2)] → ws[k0]? = some (ad k0, .inr (1, [.ref (ad (k0 + 1)), .ref (ad (k0 + 32)), .ref (ad (k0 + 33)), .int x0_3])) → wc_grid cI cG ad (k0 + 1) 30 4 x0_0 ws → ws[k0 + 32]? = some (ad (k0 + 32), .inl (cI, 30, .inl x0_1)) → ws[k0 + 33]? = some (ad (k0 + 33), .inl (cI, 8, .inl x0_2)) → (ws = w0) → f_Do_score_5 N x0_1 x0_2 a1 a2 n v3 v4 = some r → W p l e ({ frames := 1, cells := 0, slots := 0, locals := 22 } : Room) s m args below meth c H locs 0 0 (MQ below (va_Qi (fun (r1 : Int32) (w1 : va_W) => r1 = r ∧ w1 = w0) (hw_B D B) (fun q : Nat => B ≤ q)) args s 0 0 (fun q : Nat => B ≤ q)) (F0 m 5 ls []) := by
  obtain ⟨hx, hb, hr, hml, hown, hts, hlocks⟩ := id C0
  intro n
  induction n with
  | zero =>
    intro v3 v4 ws H locs ls hP hD hS hl mk0_0 gk0_1 mk0_32 mk0_33 fr hf
    exact nomatch (show none = some _ from hf)
  | succ n ih =>
    intro v3 v4 ws H locs ls hP hD hS hl mk0_0 gk0_1 mk0_32 mk0_33 fr hf
    rw [f_Do_score_5] at hf
    refine lv_iload hx hb d_Do_score_5 (lv_at hl 0 rfl) ?_
    refine lv_bipush (v := 8) hx hb d_Do_score_7 (by decide) ?_
    refine lv_icmp_ge (tgt := 57) hx hb d_Do_score_9 (by decide) (fun c1 => ?_) (fun c1 => ?_)
    · rw [if_pos c1] at hf
      refine lv_iload_n hx hb d_Do_score_57 rfl (lv_at hl 1 rfl) ?_
      have bk0_0 : wc_Do cI cG cZ ad (k0) (x0_0, x0_1, x0_2, x0_3) ws := ⟨mk0_0, gk0_1, mk0_32, mk0_33⟩
      have e0 := Option.some.inj hf
      exact W.iret (v := v3) hx hb hr (fun t ht hW => ⟨⟨v3, ws, rfl, ⟨e0, fr⟩, by rw [ht]; exact hP, hD⟩, hS.F ht⟩) hS.2.2 d_Do_score_58
    · rw [if_neg c1] at hf
      refine lv_iload_n hx hb d_Do_score_12 rfl (lv_at hl 4 rfl) ?_
      refine lv_iload hx hb d_Do_score_13 (lv_at hl 0 rfl) ?_
      obtain ⟨p2, hp2, hf⟩ := g_bd hf
      refine hw_ci0 (va_runSN (As := [.int a2, .int v4]) (rest := []) ⟨hx, hb, hml, hown, hts⟩ (c_Nd_isIn l D cI cG cZ ad B ws N a2 v4 p2 hp2) ⟨va_cnB 2 hts (hw_gc ic_Nd_isIn) rfl rfl rfl (hN _ in_381) (hts _ iw_1) (by decide +kernel) ⟨Nat.le_of_ble_eq_true rfl, Nat.le_of_ble_eq_true rfl⟩, hts _ iw_302, trivial⟩ ⟨hw_blind, hw_go hP hD hK hN⟩ rfl rfl hl.1 rfl (lv_room (Nat.le_of_ble_eq_true rfl)) d_Do_score_15 ⟨Nat.zero_le _, Nat.zero_le _⟩) hS (fun H locs hP hD hS => ?_)
      refine lv_if_eq (tgt := 51) hx hb d_Do_score_18 (by decide) (fun c3 => ?_) (fun c3 => ?_)
      · rw [if_pos c3] at hf
        refine lv_iinc (v := v4 + 1) (lv' := [(4, .int (v4 + 1)), (3, .int v3), (0, .ref (ad k0)), (1, .int a1), (2, .int a2)]) hx hb d_Do_score_51 hl (k := 0) rfl rfl (by decide) rfl (fun ls hl => ?_)
        refine lv_goto (tgt := 5) hx hb d_Do_score_54 (by decide) ?_
        exact ih v3 (v4 + 1) _ _ _ _ hP hD hS (lv_sub hl [0, 1, 2, 3, 4] rfl) mk0_0 gk0_1 mk0_32 mk0_33 fr hf
      · rw [if_neg c3] at hf
        refine lv_aload_n hx hb d_Do_score_21 rfl (lv_at hl 2 rfl) ?_
        refine lv_iload_n hx hb d_Do_score_22 rfl (lv_at hl 3 rfl) ?_
        refine lv_iload hx hb d_Do_score_23 (lv_at hl 0 rfl) ?_
        have bk0_0 : wc_Do cI cG cZ ad (k0) (x0_0, x0_1, x0_2, x0_3) ws := ⟨mk0_0, gk0_1, mk0_32, mk0_33⟩
        obtain ⟨p4, hp4, hf⟩ := g_bd hf
        refine hw_ci0 (va_runV (As := [.int a1, .int v4]) (rest := []) ⟨hx, hb, hml, hown, hts⟩ (c_Do_countOfWord l D cI cG cZ ad B ws N k0 x0_0 x0_1 x0_2 x0_3 a1 v4 p4 hp4 bk0_0) (cwV 2 hts (hw_gV iw_456 gy_Do_countOfWord) rfl rfl rfl (by decide +kernel) ⟨Nat.le_of_ble_eq_true rfl, Nat.le_of_ble_eq_true rfl⟩) ⟨hw_blind, va_recv hK hP (ci := 1) (q0 := k0) rfl bk0_0.1, hw_go hP hD hK hN⟩ rfl rfl hl.1 rfl (lv_room (Nat.le_of_ble_eq_true rfl)) d_Do_score_25 ⟨Nat.zero_le _, Nat.zero_le _⟩) hS (fun H locs hP hD hS => ?_)
        refine lv_istore (lv' := [(5, .int p4), (4, .int v4), (3, .int v3), (0, .ref (ad k0)), (1, .int a1), (2, .int a2)]) hx hb d_Do_score_28 hl (by decide) rfl (fun ls hl => ?_)
        refine lv_iload_n hx hb d_Do_score_30 rfl (lv_at hl 2 rfl) ?_
        refine lv_bipush (v := 100) hx hb d_Do_score_31 (by decide) ?_
        refine lv_iload hx hb d_Do_score_33 (lv_at hl 0 rfl) ?_
        refine lv_imul hx hb d_Do_score_35 ?_
        refine lv_iload hx hb d_Do_score_36 (lv_at hl 0 rfl) ?_
        refine lv_iconst (v := 1) hx hb d_Do_score_38 (by decide) ?_
        refine lv_iadd hx hb d_Do_score_39 ?_
        obtain ⟨z5, hf⟩ := g_dvE hf
        refine lv_idiv hx hb d_Do_score_40 z5 ?_
        refine lv_aload_n hx hb d_Do_score_41 rfl (lv_at hl 3 rfl) ?_
        obtain ⟨mk0_0, gk0_1, mk0_32, mk0_33⟩ := id bk0_0
        have mk0_0 : ws[k0]? = some (ad k0, .inr (1, [.ref (ad (k0 + 1)), .ref (ad (k0 + 32)), .ref (ad (k0 + 33)), .int x0_3])) := mk0_0
        have gk0_1 : wc_grid cI cG ad (k0 + 1) 30 4 x0_0 ws := gk0_1
        have mk0_32 : ws[k0 + 32]? = some (ad (k0 + 32), .inl (cI, 30, .inl x0_1)) := mk0_32
        have mk0_33 : ws[k0 + 33]? = some (ad (k0 + 33), .inl (cI, 8, .inl x0_2)) := mk0_33
        refine va_get (D := D) (ci := 1) (v := .ref (ad (k0 + 33))) (C := R_Do) (T := F_Do) (N := 4) hx hb hts i_Do hown hK hP (k0) mk0_0 rfl 2 (by decide) (hts _ iw_29) (fun _ h9 => h9) rfl d_Do_score_42 ?_
        refine lv_iload hx hb d_Do_score_45 (lv_at hl 1 rfl) ?_
        obtain ⟨z6, hf⟩ := g_atE hf
        refine va_iald hx hb hK hP (k0 + 33) 0 mk0_33 rfl z6 d_Do_score_47 ?_
        refine lv_imul hx hb d_Do_score_48 ?_
        refine lv_iadd hx hb d_Do_score_49 ?_
        refine lv_istore_n (lv' := [(3, .int (v3 + (((100 * p4) / (p4 + 1)) * (x0_2 v4.toNatClampNeg)))), (5, .int p4), (4, .int v4), (0, .ref (ad k0)), (1, .int a1), (2, .int a2)]) hx hb d_Do_score_50 rfl hl (by decide) rfl (fun ls hl => ?_)
        refine lv_iinc (v := v4 + 1) (lv' := [(4, .int (v4 + 1)), (3, .int (v3 + (((100 * p4) / (p4 + 1)) * (x0_2 v4.toNatClampNeg)))), (5, .int p4), (0, .ref (ad k0)), (1, .int a1), (2, .int a2)]) hx hb d_Do_score_51 hl (k := 2) rfl rfl (by decide) rfl (fun ls hl => ?_)
        refine lv_goto (tgt := 5) hx hb d_Do_score_54 (by decide) ?_
        exact ih (v3 + (((100 * p4) / (p4 + 1)) * (x0_2 v4.toNatClampNeg))) (v4 + 1) _ _ _ _ hP hD hS (lv_sub hl [0, 1, 3, 4, 5] rfl) mk0_0 gk0_1 mk0_32 mk0_33 fr hf
set_option maxHeartbeats 4000000 in
set_option maxRecDepth 100000 in
theorem c_Do_score (l : Launch) (D : va_G) (cI cG cZ : ClassId) (ad : Nat → Nat) (B : Nat) (w0 : va_W) (N : Nat) (k0 : Nat) (x0_0 : (Nat → Nat → Int32)) (x0_1 : (Nat → Int32)) (x0_2 : (Nat → Int32)) (x0_3 : Int32) (a1 : Int32) (a2 : Int32) (r : Int32) (hf : f_Do_score N x0_1 x0_2 a1 a2 = some r) (bk0_0 : wc_Do cI cG cZ ad k0 (x0_0, x0_1, x0_2, x0_3) w0) : Met l y_Do_score (.code y_Do_score b_Do_score 6 (some .int) :: hw_G) ({ frames := 1, cells := 0, slots := 0, locals := 22 } : Room) (va_Pc [.ref (ad k0), .int a1, .int a2] (hw_U D cI cG cZ B w0)) (va_Qi (fun (r1 : Int32) (w1 : va_W) => r1 = r ∧ w1 = w0) (hw_B D B) (fun q : Nat => B ≤ q)) 0 0 (fun q : Nat => B ≤ q) := by
  refine Met.ofW (cc := b_Do_score) (maxL := 6) (ret := (some .int)) (by decide) rfl ?_
  intro p e s m args below meth c s₁ Bd hml hv
  obtain ⟨rfl, hP, hD, hK, hN⟩ := hv
  have C0 : hw_C p s m meth c b_Do_score 6 _ R_Do (some .int) := ⟨Bd.exec, Bd.bytes, Bd.returns, hml, findClass_of_methodNamed Bd.named, fun w h => atoms_spec (ws := .code y_Do_score b_Do_score 6 (some .int) :: hw_G) Bd.pre w (List.mem_cons_of_mem _ h), Bd.notSynchronized⟩
  obtain ⟨hx, hb, hr, -, hown, hts, hlocks⟩ := id C0
  have hS : va_S (fun q : Nat => B ≤ q) s.heap s.heap [] := va_S.rf
  have fr : w0 = w0 := rfl
  have hl := lv_entry ([.ref (ad k0), .int a1, .int a2]) (n := 6) (Nat.le_of_ble_eq_true rfl)
  rw [lg_entry_eq]
  generalize (lg_sl ([.ref (ad k0), .int a1, .int a2]) ++ List.replicate (6 - (lg_sl ([.ref (ad k0), .int a1, .int a2])).length) Slot.unset).toArray = ls at hl ⊢
  have hl : lv_has ls 6 [(0, .ref (ad k0)), (1, .int a1), (2, .int a2)] := hl
  unfold f_Do_score at hf
  obtain ⟨mk0_0, gk0_1, mk0_32, mk0_33⟩ := id bk0_0
  have mk0_0 : w0[k0]? = some (ad k0, .inr (1, [.ref (ad (k0 + 1)), .ref (ad (k0 + 32)), .ref (ad (k0 + 33)), .int x0_3])) := mk0_0
  have gk0_1 : wc_grid cI cG ad (k0 + 1) 30 4 x0_0 w0 := gk0_1
  have mk0_32 : w0[k0 + 32]? = some (ad (k0 + 32), .inl (cI, 30, .inl x0_1)) := mk0_32
  have mk0_33 : w0[k0 + 33]? = some (ad (k0 + 33), .inl (cI, 8, .inl x0_2)) := mk0_33
  refine lv_iconst (v := 0) hx hb d_Do_score_0 (by decide) ?_
  refine lv_istore_n (lv' := [(3, .int 0), (0, .ref (ad k0)), (1, .int a1), (2, .int a2)]) hx hb d_Do_score_1 rfl hl (by decide) rfl (fun ls hl => ?_)
  refine lv_iconst (v := 0) hx hb d_Do_score_2 (by decide) ?_
  refine lv_istore (lv' := [(4, .int 0), (3, .int 0), (0, .ref (ad k0)), (1, .int a1), (2, .int a2)]) hx hb d_Do_score_3 hl (by decide) rfl (fun ls hl => ?_)
  exact wl_Do_score_5 (ad := ad) C0 hK hN x0_0 x0_1 x0_2 x0_3 a1 a2 r N 0 0 _ _ _ _ hP hD hS (lv_sub hl [0, 1, 2, 3, 4] rfl) mk0_0 gk0_1 mk0_32 mk0_33 fr hf
set_option maxHeartbeats 4000000 in
set_option maxRecDepth 100000 in
theorem wl_Do_rankByScore_6 {p : Program} {l : Launch} {e : Env} {s : State} {m : MethodId} {args : Array Value} {below : List Frame} {meth : Method} {c : Code} {D : va_G} {cI cG cZ : ClassId} {ad : Nat → Nat} {B : Nat} {w0 : va_W} {N : Nat} {k0 : Nat} {k1 : Nat} (C0 : hw_C p s m meth c b_Do_rankByScore 5 args R_Do none) (hK : va_K D classes [(cI, .int), (cG, .array .int), (cZ, .boolean)] s) (hN : hw_N s) (dj0 : k0 + 34 ≤ k1 ∨ k1 + 3 ≤ k0) (x0_0 : (Nat → Nat → Int32)) (x0_1 : (Nat → Int32)) (x0_3 : Int32) (a1 : Int32) (p1 : (Nat → Int32)) (x0_2 : (Nat → Int32)) (x1_0 : (Nat → Int32)) (x1_1 : (Nat → Int32)) (x1_2 : Int32) (x1_3 : Int32) (x1_4 : Int32) (y0_2 : (Nat → Int32)) (y1_0 : (Nat → Int32)) (y1_1 : (Nat → Int32)) (y1_2 : Int32) (y1_3 : Int32) (y1_4 : Int32) : ∀ (n : Nat) (vbk1_0 : T_Rk) (v3 : Int32) (ws : va_W) (H : Heap) (locs : List Loc) (ls : Array Slot), va_P D classes ws H → va_D (fun q : Nat => B ≤ q) ws → va_S (fun q : Nat => B ≤ q) s.heap H locs → lv_has ls 5 [(3, .int v3), (0, .ref (ad k0)), (1, .int a1), (2, .ref (ad k1))] → ws[k0]? = some (ad k0, .inr (1, [.ref (ad (k0 + 1)), .ref (ad (k0 + 32)), .ref (ad (k0 + 33)), .int x0_3])) → wc_grid cI cG ad (k0 + 1) 30 4 x0_0 ws → ws[k0 + 32]? = some (ad (k0 + 32), .inl (cI, 30, .inl x0_1)) → ws[k0 + 33]? = some (ad (k0 + 33), .inl (cI, 8, .inl p1)) → wc_Rk cI cG cZ ad (k1) vbk1_0 ws → (∀ j : Nat, (j < k0 ∨ k0 + 34 ≤ j) → (j < k1 ∨ k1 + 3 ≤ j) → ws[j]? = w0[j]?) → f_Do_rankByScore_6 N x0_1 x0_3 a1 p1 n vbk1_0 v3 = some (y0_2, y1_0, y1_1, y1_2, y1_3, y1_4) → W p l e ({ frames := 5, cells := 0, slots := 0, locals := 108 } : Room) s m args below meth c H locs 0 0 (MQ below (va_Qv (fun (w1 : va_W) => wc_Do cI cG cZ ad k0 (x0_0, x0_1, y0_2, x0_3) w1 ∧ wc_Rk cI cG cZ ad k1 (y1_0, y1_1, y1_2, y1_3, y1_4) w1 ∧ (∀ j : Nat, (j < k0 ∨ k0 + 34 ≤ j) → (j < k1 ∨ k1 + 3 ≤ j) → w1[j]? = w0[j]?)) (hw_B D B) (fun q : Nat => B ≤ q)) args s 0 0 (fun q : Nat => B ≤ q)) (F0 m 6 ls []) := by
  obtain ⟨hx, hb, hr, hml, hown, hts, hlocks⟩ := id C0
  intro n
  induction n with
  | zero =>
    intro vbk1_0 v3 ws H locs ls hP hD hS hl mk0_0 gk0_1 mk0_32 mk0_33 bk1_0 fr hf
    exact nomatch (show none = some _ from hf)
  | succ n ih =>
    intro vbk1_0 v3 ws H locs ls hP hD hS hl mk0_0 gk0_1 mk0_32 mk0_33 bk1_0 fr hf
    rw [f_Do_rankByScore_6] at hf
    refine lv_iload_n hx hb d_Do_rankByScore_6 rfl (lv_at hl 0 rfl) ?_
    refine lv_bipush (v := 30) hx hb d_Do_rankByScore_7 (by decide) ?_
    refine lv_icmp_ge (tgt := 51) hx hb d_Do_rankByScore_9 (by decide) (fun c3 => ?_) (fun c3 => ?_)
    · rw [if_pos c3] at hf
      have bk0_0 : wc_Do cI cG cZ ad (k0) (x0_0, x0_1, p1, x0_3) ws := ⟨mk0_0, gk0_1, mk0_32, mk0_33⟩
      have he := Option.some.inj hf
      obtain ⟨e0, he⟩ := Prod.mk.inj he
      obtain ⟨e1, he⟩ := Prod.mk.inj he
      obtain ⟨e2, he⟩ := Prod.mk.inj he
      obtain ⟨e3, he⟩ := Prod.mk.inj he
      obtain ⟨e4, e5⟩ := Prod.mk.inj he
      have f0 : wc_Do cI cG cZ ad (k0) (x0_0, x0_1, y0_2, x0_3) ws := by rw [← e0]; exact bk0_0
      have f1 : wc_Rk cI cG cZ ad (k1) (y1_0, y1_1, y1_2, y1_3, y1_4) ws := by rw [← e1, ← e2, ← e3, ← e4, ← e5]; exact bk1_0
      exact W.vret hx hb hr (fun t ht hW => ⟨⟨ws, rfl, ⟨f0, f1, fr⟩, by rw [ht]; exact hP, hD⟩, hS.F ht⟩) hS.2.2 d_Do_rankByScore_51
    · rw [if_neg c3] at hf
      refine lv_aload_n hx hb d_Do_rankByScore_12 rfl (lv_at hl 1 rfl) ?_
      refine lv_iload_n hx hb d_Do_rankByScore_13 rfl (lv_at hl 0 rfl) ?_
      have bk0_0 : wc_Do cI cG cZ ad (k0) (x0_0, x0_1, p1, x0_3) ws := ⟨mk0_0, gk0_1, mk0_32, mk0_33⟩
      obtain ⟨p4, hp4, hf⟩ := g_bd hf
      refine hw_ci0 (va_runV (As := [.int v3]) (rest := []) ⟨hx, hb, hml, hown, hts⟩ (c_Do_isLive l D cI cG cZ ad B ws N k0 x0_0 x0_1 p1 x0_3 v3 p4 hp4 bk0_0) (cwV 1 hts (hw_gV iw_374 gy_Do_isLive) rfl rfl rfl (by decide +kernel) ⟨Nat.le_of_ble_eq_true rfl, Nat.le_of_ble_eq_true rfl⟩) ⟨hw_blind, va_recv hK hP (ci := 1) (q0 := k0) rfl bk0_0.1, hw_go hP hD hK hN⟩ rfl rfl hl.1 rfl (lv_room (Nat.le_of_ble_eq_true rfl)) d_Do_rankByScore_14 ⟨Nat.zero_le _, Nat.zero_le _⟩) hS (fun H locs hP hD hS => ?_)
      refine lv_if_eq (tgt := 29) hx hb d_Do_rankByScore_17 (by decide) (fun c5 => ?_) (fun c5 => ?_)
      · rw [if_pos c5] at hf
        refine lv_iconst (v := 0) hx hb d_Do_rankByScore_29 (by decide) ?_
        refine lv_istore (lv' := [(4, .int 0), (3, .int v3), (0, .ref (ad k0)), (1, .int a1), (2, .ref (ad k1))]) hx hb d_Do_rankByScore_30 hl (by decide) rfl (fun ls hl => ?_)
        refine lv_iload hx hb d_Do_rankByScore_32 (lv_at hl 0 rfl) ?_
        refine lv_if_le (tgt := 45) hx hb d_Do_rankByScore_34 (by decide) (fun c6 => ?_) (fun c6 => ?_)
        · refine lv_iinc (v := v3 + 1) (lv' := [(3, .int (v3 + 1)), (4, .int 0), (0, .ref (ad k0)), (1, .int a1), (2, .ref (ad k1))]) hx hb d_Do_rankByScore_45 hl (k := 1) rfl rfl (by decide) rfl (fun ls hl => ?_)
          refine lv_goto (tgt := 6) hx hb d_Do_rankByScore_48 (by decide) ?_
          obtain ⟨mk0_0, gk0_1, mk0_32, mk0_33⟩ := id bk0_0
          have mk0_0 : ws[k0]? = some (ad k0, .inr (1, [.ref (ad (k0 + 1)), .ref (ad (k0 + 32)), .ref (ad (k0 + 33)), .int x0_3])) := mk0_0
          have gk0_1 : wc_grid cI cG ad (k0 + 1) 30 4 x0_0 ws := gk0_1
          have mk0_32 : ws[k0 + 32]? = some (ad (k0 + 32), .inl (cI, 30, .inl x0_1)) := mk0_32
          have mk0_33 : ws[k0 + 33]? = some (ad (k0 + 33), .inl (cI, 8, .inl p1)) := mk0_33
          exact ih vbk1_0 (v3 + 1) _ _ _ _ hP hD hS (lv_sub hl [0, 2, 3, 4] rfl) mk0_0 gk0_1 mk0_32 mk0_33 bk1_0 fr hf
        · exact absurd (by decide) c6
      · rw [if_neg c5] at hf
        refine lv_aload_n hx hb d_Do_rankByScore_20 rfl (lv_at hl 1 rfl) ?_
        refine lv_iload_n hx hb d_Do_rankByScore_21 rfl (lv_at hl 0 rfl) ?_
        refine lv_iload_n hx hb d_Do_rankByScore_22 rfl (lv_at hl 2 rfl) ?_
        obtain ⟨p7, hp7, hf⟩ := g_bd hf
        refine hw_ci0 (va_runV (As := [.int v3, .int a1]) (rest := []) ⟨hx, hb, hml, hown, hts⟩ (c_Do_score l D cI cG cZ ad B ws N k0 x0_0 x0_1 p1 x0_3 v3 a1 p7 hp7 bk0_0) (cwV 2 hts (hw_gV iw_461 gy_Do_score) rfl rfl rfl (by decide +kernel) ⟨Nat.le_of_ble_eq_true rfl, Nat.le_of_ble_eq_true rfl⟩) ⟨hw_blind, va_recv hK hP (ci := 1) (q0 := k0) rfl bk0_0.1, hw_go hP hD hK hN⟩ rfl rfl hl.1 rfl (lv_room (Nat.le_of_ble_eq_true rfl)) d_Do_rankByScore_23 ⟨Nat.zero_le _, Nat.zero_le _⟩) hS (fun H locs hP hD hS => ?_)
        refine lv_goto (tgt := 30) hx hb d_Do_rankByScore_26 (by decide) ?_
        refine lv_istore (lv' := [(4, .int p7), (3, .int v3), (0, .ref (ad k0)), (1, .int a1), (2, .ref (ad k1))]) hx hb d_Do_rankByScore_30 hl (by decide) rfl (fun ls hl => ?_)
        refine lv_iload hx hb d_Do_rankByScore_32 (lv_at hl 0 rfl) ?_
        refine lv_if_le (tgt := 45) hx hb d_Do_rankByScore_34 (by decide) (fun c8 => ?_) (fun c8 => ?_)
        · rw [if_pos c8] at hf
          refine lv_iinc (v := v3 + 1) (lv' := [(3, .int (v3 + 1)), (4, .int p7), (0, .ref (ad k0)), (1, .int a1), (2, .ref (ad k1))]) hx hb d_Do_rankByScore_45 hl (k := 1) rfl rfl (by decide) rfl (fun ls hl => ?_)
          refine lv_goto (tgt := 6) hx hb d_Do_rankByScore_48 (by decide) ?_
          obtain ⟨mk0_0, gk0_1, mk0_32, mk0_33⟩ := id bk0_0
          have mk0_0 : ws[k0]? = some (ad k0, .inr (1, [.ref (ad (k0 + 1)), .ref (ad (k0 + 32)), .ref (ad (k0 + 33)), .int x0_3])) := mk0_0
          have gk0_1 : wc_grid cI cG ad (k0 + 1) 30 4 x0_0 ws := gk0_1
          have mk0_32 : ws[k0 + 32]? = some (ad (k0 + 32), .inl (cI, 30, .inl x0_1)) := mk0_32
          have mk0_33 : ws[k0 + 33]? = some (ad (k0 + 33), .inl (cI, 8, .inl p1)) := mk0_33
          exact ih vbk1_0 (v3 + 1) _ _ _ _ hP hD hS (lv_sub hl [0, 2, 3, 4] rfl) mk0_0 gk0_1 mk0_32 mk0_33 bk1_0 fr hf
        · rw [if_neg c8] at hf
          refine lv_aload_n hx hb d_Do_rankByScore_37 rfl (lv_at hl 4 rfl) ?_
          refine lv_iload_n hx hb d_Do_rankByScore_38 rfl (lv_at hl 1 rfl) ?_
          refine lv_iload hx hb d_Do_rankByScore_39 (lv_at hl 0 rfl) ?_
          obtain ⟨p9, hp9, hf⟩ := g_bd hf
          refine hw_ci (va_runV (As := [.int v3, .int p7]) (rest := []) ⟨hx, hb, hml, hown, hts⟩ (c_Rk_add l D cI cG cZ ad B ws N k1 vbk1_0.1 vbk1_0.2.1 vbk1_0.2.2.1 vbk1_0.2.2.2.1 vbk1_0.2.2.2.2 v3 p7 p9.1 p9.2.1 p9.2.2.1 p9.2.2.2 hp9 bk1_0) (cwV 2 hts (hw_gV iw_439 gy_Rk_add) rfl rfl rfl (by decide +kernel) ⟨Nat.le_of_ble_eq_true rfl, Nat.le_of_ble_eq_true rfl⟩) ⟨hw_blind, va_recv hK hP (ci := 4) (q0 := k1) rfl bk1_0.1, hw_go hP hD hK hN⟩ rfl rfl hl.1 rfl (lv_room (Nat.le_of_ble_eq_true rfl)) d_Do_rankByScore_41 ⟨Nat.zero_le _, Nat.zero_le _⟩) hS (fun w10 H locs hP hD hS hpp => ?_)
          obtain ⟨q0, frc⟩ := hpp
          have bk1_0 : wc_Rk cI cG cZ ad (k1) (p9.2.1, p9.2.2.1, p9.2.2.2, vbk1_0.2.2.2.1, vbk1_0.2.2.2.2) w10 := q0
          have bk0_0 : wc_Do cI cG cZ ad (k0) (x0_0, x0_1, p1, x0_3) w10 := bk0_0.fr (fun j h1 h2 => frc j (by omega))
          have fr : ∀ j : Nat, (j < k0 ∨ k0 + 34 ≤ j) → (j < k1 ∨ k1 + 3 ≤ j) → w10[j]? = w0[j]? := fun j o0 o1 => (frc j (by omega)).trans (fr j o0 o1)
          refine lv_pop hx hb d_Do_rankByScore_44 rfl ?_
          refine lv_iinc (v := v3 + 1) (lv' := [(3, .int (v3 + 1)), (4, .int p7), (0, .ref (ad k0)), (1, .int a1), (2, .ref (ad k1))]) hx hb d_Do_rankByScore_45 hl (k := 1) rfl rfl (by decide) rfl (fun ls hl => ?_)
          refine lv_goto (tgt := 6) hx hb d_Do_rankByScore_48 (by decide) ?_
          obtain ⟨mk0_0, gk0_1, mk0_32, mk0_33⟩ := id bk0_0
          have mk0_0 : w10[k0]? = some (ad k0, .inr (1, [.ref (ad (k0 + 1)), .ref (ad (k0 + 32)), .ref (ad (k0 + 33)), .int x0_3])) := mk0_0
          have gk0_1 : wc_grid cI cG ad (k0 + 1) 30 4 x0_0 w10 := gk0_1
          have mk0_32 : w10[k0 + 32]? = some (ad (k0 + 32), .inl (cI, 30, .inl x0_1)) := mk0_32
          have mk0_33 : w10[k0 + 33]? = some (ad (k0 + 33), .inl (cI, 8, .inl p1)) := mk0_33
          exact ih (p9.2.1, p9.2.2.1, p9.2.2.2, vbk1_0.2.2.2.1, vbk1_0.2.2.2.2) (v3 + 1) _ _ _ _ hP hD hS (lv_sub hl [0, 2, 3, 4] rfl) mk0_0 gk0_1 mk0_32 mk0_33 bk1_0 fr hf
set_option maxHeartbeats 4000000 in
set_option maxRecDepth 100000 in
theorem c_Do_rankByScore (l : Launch) (D : va_G) (cI cG cZ : ClassId) (ad : Nat → Nat) (B : Nat) (w0 : va_W) (N : Nat) (k0 : Nat) (x0_0 : (Nat → Nat → Int32)) (x0_1 : (Nat → Int32)) (x0_2 : (Nat → Int32)) (x0_3 : Int32) (k1 : Nat) (x1_0 : (Nat → Int32)) (x1_1 : (Nat → Int32)) (x1_2 : Int32) (x1_3 : Int32) (x1_4 : Int32) (a1 : Int32) (y0_2 : (Nat → Int32)) (y1_0 : (Nat → Int32)) (y1_1 : (Nat → Int32)) (y1_2 : Int32) (y1_3 : Int32) (y1_4 : Int32) (hf : f_Do_rankByScore N x0_1 x0_2 x0_3 x1_0 x1_1 x1_2 x1_3 x1_4 a1 = some (y0_2, y1_0, y1_1, y1_2, y1_3, y1_4)) (bk0_0 : wc_Do cI cG cZ ad k0 (x0_0, x0_1, x0_2, x0_3) w0) (bk1_0 : wc_Rk cI cG cZ ad k1 (x1_0, x1_1, x1_2, x1_3, x1_4) w0) (dj0 : k0 + 34 ≤ k1 ∨ k1 + 3 ≤ k0) : Met l y_Do_rankByScore (.code y_Do_rankByScore b_Do_rankByScore 5 none :: hw_G) ({ frames := 5, cells := 0, slots := 0, locals := 108 } : Room) (va_Pc [.ref (ad k0), .int a1, .ref (ad k1)] (hw_U D cI cG cZ B w0)) (va_Qv (fun (w1 : va_W) => wc_Do cI cG cZ ad k0 (x0_0, x0_1, y0_2, x0_3) w1 ∧ wc_Rk cI cG cZ ad k1 (y1_0, y1_1, y1_2, y1_3, y1_4) w1 ∧ (∀ j : Nat, (j < k0 ∨ k0 + 34 ≤ j) → (j < k1 ∨ k1 + 3 ≤ j) → w1[j]? = w0[j]?)) (hw_B D B) (fun q : Nat => B ≤ q)) 0 0 (fun q : Nat => B ≤ q) := by
  refine Met.ofW (cc := b_Do_rankByScore) (maxL := 5) (ret := none) (by decide) rfl ?_
  intro p e s m args below meth c s₁ Bd hml hv
  obtain ⟨rfl, hP, hD, hK, hN⟩ := hv
  have C0 : hw_C p s m meth c b_Do_rankByScore 5 _ R_Do none := ⟨Bd.exec, Bd.bytes, Bd.returns, hml, findClass_of_methodNamed Bd.named, fun w h => atoms_spec (ws := .code y_Do_rankByScore b_Do_rankByScore 5 none :: hw_G) Bd.pre w (List.mem_cons_of_mem _ h), Bd.notSynchronized⟩
  obtain ⟨hx, hb, hr, -, hown, hts, hlocks⟩ := id C0
  have hS : va_S (fun q : Nat => B ≤ q) s.heap s.heap [] := va_S.rf
  have fr : ∀ j : Nat, (j < k0 ∨ k0 + 34 ≤ j) → (j < k1 ∨ k1 + 3 ≤ j) → w0[j]? = w0[j]? := fun j _ _ => rfl
  have hl := lv_entry ([.ref (ad k0), .int a1, .ref (ad k1)]) (n := 5) (Nat.le_of_ble_eq_true rfl)
  rw [lg_entry_eq]
  generalize (lg_sl ([.ref (ad k0), .int a1, .ref (ad k1)]) ++ List.replicate (5 - (lg_sl ([.ref (ad k0), .int a1, .ref (ad k1)])).length) Slot.unset).toArray = ls at hl ⊢
  have hl : lv_has ls 5 [(0, .ref (ad k0)), (1, .int a1), (2, .ref (ad k1))] := hl
  unfold f_Do_rankByScore at hf
  obtain ⟨mk0_0, gk0_1, mk0_32, mk0_33⟩ := id bk0_0
  have mk0_0 : w0[k0]? = some (ad k0, .inr (1, [.ref (ad (k0 + 1)), .ref (ad (k0 + 32)), .ref (ad (k0 + 33)), .int x0_3])) := mk0_0
  have gk0_1 : wc_grid cI cG ad (k0 + 1) 30 4 x0_0 w0 := gk0_1
  have mk0_32 : w0[k0 + 32]? = some (ad (k0 + 32), .inl (cI, 30, .inl x0_1)) := mk0_32
  have mk0_33 : w0[k0 + 33]? = some (ad (k0 + 33), .inl (cI, 8, .inl x0_2)) := mk0_33
  refine lv_aload_n hx hb d_Do_rankByScore_0 rfl (lv_at hl 0 rfl) ?_
  have bk0_0 : wc_Do cI cG cZ ad (k0) (x0_0, x0_1, x0_2, x0_3) w0 := ⟨mk0_0, gk0_1, mk0_32, mk0_33⟩
  obtain ⟨p1, hp1, hf⟩ := g_bd hf
  refine hw_cv (va_runV (As := []) (rest := []) ⟨hx, hb, hml, hown, hts⟩ (c_Do_weighWords l D cI cG cZ ad B w0 N k0 x0_0 x0_1 x0_2 x0_3 p1 hp1 bk0_0) (cwV 0 hts (hw_gV iw_448 gy_Do_weighWords) rfl rfl rfl (by decide +kernel) ⟨Nat.le_of_ble_eq_true rfl, Nat.le_of_ble_eq_true rfl⟩) ⟨hw_blind, va_recv hK hP (ci := 1) (q0 := k0) rfl bk0_0.1, hw_go hP hD hK hN⟩ rfl rfl hl.1 rfl (lv_room (Nat.le_of_ble_eq_true rfl)) d_Do_rankByScore_1 ⟨Nat.zero_le _, Nat.zero_le _⟩) hS (fun w2 H locs hP hD hS hpp => ?_)
  obtain ⟨q0, frc⟩ := hpp
  have bk0_0 : wc_Do cI cG cZ ad (k0) (x0_0, x0_1, p1, x0_3) w2 := q0
  have bk1_0 : wc_Rk cI cG cZ ad (k1) (x1_0, x1_1, x1_2, x1_3, x1_4) w2 := bk1_0.fr (fun j h1 h2 => frc j (by omega))
  have fr : ∀ j : Nat, (j < k0 ∨ k0 + 34 ≤ j) → (j < k1 ∨ k1 + 3 ≤ j) → w2[j]? = w0[j]? := fun j o0 o1 => (frc j (by omega)).trans (fr j o0 o1)
  refine lv_iconst (v := 0) hx hb d_Do_rankByScore_4 (by decide) ?_
  refine lv_istore_n (lv' := [(3, .int 0), (0, .ref (ad k0)), (1, .int a1), (2, .ref (ad k1))]) hx hb d_Do_rankByScore_5 rfl hl (by decide) rfl (fun ls hl => ?_)
  obtain ⟨mk0_0, gk0_1, mk0_32, mk0_33⟩ := id bk0_0
  have mk0_0 : w2[k0]? = some (ad k0, .inr (1, [.ref (ad (k0 + 1)), .ref (ad (k0 + 32)), .ref (ad (k0 + 33)), .int x0_3])) := mk0_0
  have gk0_1 : wc_grid cI cG ad (k0 + 1) 30 4 x0_0 w2 := gk0_1
  have mk0_32 : w2[k0 + 32]? = some (ad (k0 + 32), .inl (cI, 30, .inl x0_1)) := mk0_32
  have mk0_33 : w2[k0 + 33]? = some (ad (k0 + 33), .inl (cI, 8, .inl p1)) := mk0_33
  exact wl_Do_rankByScore_6 (ad := ad) C0 hK hN dj0 x0_0 x0_1 x0_3 a1 p1 x0_2 x1_0 x1_1 x1_2 x1_3 x1_4 y0_2 y1_0 y1_1 y1_2 y1_3 y1_4 N (x1_0, x1_1, x1_2, x1_3, x1_4) 0 _ _ _ _ hP hD hS (lv_sub hl [0, 1, 2, 3] rfl) mk0_0 gk0_1 mk0_32 mk0_33 bk1_0 fr hf
set_option maxHeartbeats 4000000 in
set_option maxRecDepth 100000 in
theorem c_Do_counts (l : Launch) (D : va_G) (cI cG cZ : ClassId) (ad : Nat → Nat) (B : Nat) (w0 : va_W) (N : Nat) (k0 : Nat) (x0_0 : (Nat → Nat → Int32)) (x0_1 : (Nat → Int32)) (x0_2 : (Nat → Int32)) (x0_3 : Int32) (a1 : Int32) (r : Int32) (hf : f_Do_counts N x0_1 a1 = some r) (bk0_0 : wc_Do cI cG cZ ad k0 (x0_0, x0_1, x0_2, x0_3) w0) : Met l y_Do_counts (.code y_Do_counts b_Do_counts 2 (some .int) :: hw_G) ({ frames := 0, cells := 0, slots := 0, locals := 0 } : Room) (va_Pc [.ref (ad k0), .int a1] (hw_U D cI cG cZ B w0)) (va_Qi (fun (r1 : Int32) (w1 : va_W) => r1 = r ∧ w1 = w0) (hw_B D B) (fun q : Nat => B ≤ q)) 0 0 (fun q : Nat => B ≤ q) := by
  refine Met.ofW (cc := b_Do_counts) (maxL := 2) (ret := (some .int)) (by decide) rfl ?_
  intro p e s m args below meth c s₁ Bd hml hv
  obtain ⟨rfl, hP, hD, hK, hN⟩ := hv
  have C0 : hw_C p s m meth c b_Do_counts 2 _ R_Do (some .int) := ⟨Bd.exec, Bd.bytes, Bd.returns, hml, findClass_of_methodNamed Bd.named, fun w h => atoms_spec (ws := .code y_Do_counts b_Do_counts 2 (some .int) :: hw_G) Bd.pre w (List.mem_cons_of_mem _ h), Bd.notSynchronized⟩
  obtain ⟨hx, hb, hr, -, hown, hts, hlocks⟩ := id C0
  have hS : va_S (fun q : Nat => B ≤ q) s.heap s.heap [] := va_S.rf
  have fr : w0 = w0 := rfl
  have hl := lv_entry ([.ref (ad k0), .int a1]) (n := 2) (Nat.le_of_ble_eq_true rfl)
  rw [lg_entry_eq]
  generalize (lg_sl ([.ref (ad k0), .int a1]) ++ List.replicate (2 - (lg_sl ([.ref (ad k0), .int a1])).length) Slot.unset).toArray = ls at hl ⊢
  have hl : lv_has ls 2 [(0, .ref (ad k0)), (1, .int a1)] := hl
  unfold f_Do_counts at hf
  obtain ⟨mk0_0, gk0_1, mk0_32, mk0_33⟩ := id bk0_0
  have mk0_0 : w0[k0]? = some (ad k0, .inr (1, [.ref (ad (k0 + 1)), .ref (ad (k0 + 32)), .ref (ad (k0 + 33)), .int x0_3])) := mk0_0
  have gk0_1 : wc_grid cI cG ad (k0 + 1) 30 4 x0_0 w0 := gk0_1
  have mk0_32 : w0[k0 + 32]? = some (ad (k0 + 32), .inl (cI, 30, .inl x0_1)) := mk0_32
  have mk0_33 : w0[k0 + 33]? = some (ad (k0 + 33), .inl (cI, 8, .inl x0_2)) := mk0_33
  refine lv_aload_n hx hb d_Do_counts_0 rfl (lv_at hl 0 rfl) ?_
  refine va_get (D := D) (ci := 1) (v := .ref (ad (k0 + 32))) (C := R_Do) (T := F_Do) (N := 4) hx hb hts i_Do hown hK hP (k0) mk0_0 rfl 1 (by decide) (hts _ iw_28) (fun _ h9 => h9) rfl d_Do_counts_1 ?_
  refine lv_iload_n hx hb d_Do_counts_4 rfl (lv_at hl 1 rfl) ?_
  obtain ⟨z1, hf⟩ := g_atE hf
  refine va_iald hx hb hK hP (k0 + 32) 0 mk0_32 rfl z1 d_Do_counts_5 ?_
  have bk0_0 : wc_Do cI cG cZ ad (k0) (x0_0, x0_1, x0_2, x0_3) w0 := ⟨mk0_0, gk0_1, mk0_32, mk0_33⟩
  have e0 := Option.some.inj hf
  exact W.iret (v := x0_1 a1.toNatClampNeg) hx hb hr (fun t ht hW => ⟨⟨x0_1 a1.toNatClampNeg, w0, rfl, ⟨e0, fr⟩, by rw [ht]; exact hP, hD⟩, hS.F ht⟩) hS.2.2 d_Do_counts_6
set_option maxHeartbeats 4000000 in
set_option maxRecDepth 100000 in
theorem c_Do_coordinate (l : Launch) (D : va_G) (cI cG cZ : ClassId) (ad : Nat → Nat) (B : Nat) (w0 : va_W) (N : Nat) (k0 : Nat) (x0_0 : (Nat → Nat → Int32)) (x0_1 : (Nat → Int32)) (x0_2 : (Nat → Int32)) (x0_3 : Int32) (a1 : Int32) (a2 : Int32) (r : Int32) (hf : f_Do_coordinate N x0_0 a1 a2 = some r) (bk0_0 : wc_Do cI cG cZ ad k0 (x0_0, x0_1, x0_2, x0_3) w0) : Met l y_Do_coordinate (.code y_Do_coordinate b_Do_coordinate 3 (some .int) :: hw_G) ({ frames := 0, cells := 0, slots := 0, locals := 0 } : Room) (va_Pc [.ref (ad k0), .int a1, .int a2] (hw_U D cI cG cZ B w0)) (va_Qi (fun (r1 : Int32) (w1 : va_W) => r1 = r ∧ w1 = w0) (hw_B D B) (fun q : Nat => B ≤ q)) 0 0 (fun q : Nat => B ≤ q) := by
  refine Met.ofW (cc := b_Do_coordinate) (maxL := 3) (ret := (some .int)) (by decide) rfl ?_
  intro p e s m args below meth c s₁ Bd hml hv
  obtain ⟨rfl, hP, hD, hK, hN⟩ := hv
  have C0 : hw_C p s m meth c b_Do_coordinate 3 _ R_Do (some .int) := ⟨Bd.exec, Bd.bytes, Bd.returns, hml, findClass_of_methodNamed Bd.named, fun w h => atoms_spec (ws := .code y_Do_coordinate b_Do_coordinate 3 (some .int) :: hw_G) Bd.pre w (List.mem_cons_of_mem _ h), Bd.notSynchronized⟩
  obtain ⟨hx, hb, hr, -, hown, hts, hlocks⟩ := id C0
  have hS : va_S (fun q : Nat => B ≤ q) s.heap s.heap [] := va_S.rf
  have fr : w0 = w0 := rfl
  have hl := lv_entry ([.ref (ad k0), .int a1, .int a2]) (n := 3) (Nat.le_of_ble_eq_true rfl)
  rw [lg_entry_eq]
  generalize (lg_sl ([.ref (ad k0), .int a1, .int a2]) ++ List.replicate (3 - (lg_sl ([.ref (ad k0), .int a1, .int a2])).length) Slot.unset).toArray = ls at hl ⊢
  have hl : lv_has ls 3 [(0, .ref (ad k0)), (1, .int a1), (2, .int a2)] := hl
  unfold f_Do_coordinate at hf
  obtain ⟨mk0_0, gk0_1, mk0_32, mk0_33⟩ := id bk0_0
  have mk0_0 : w0[k0]? = some (ad k0, .inr (1, [.ref (ad (k0 + 1)), .ref (ad (k0 + 32)), .ref (ad (k0 + 33)), .int x0_3])) := mk0_0
  have gk0_1 : wc_grid cI cG ad (k0 + 1) 30 4 x0_0 w0 := gk0_1
  have mk0_32 : w0[k0 + 32]? = some (ad (k0 + 32), .inl (cI, 30, .inl x0_1)) := mk0_32
  have mk0_33 : w0[k0 + 33]? = some (ad (k0 + 33), .inl (cI, 8, .inl x0_2)) := mk0_33
  refine lv_aload_n hx hb d_Do_coordinate_0 rfl (lv_at hl 0 rfl) ?_
  refine va_get (D := D) (ci := 1) (v := .ref (ad (k0 + 1))) (C := R_Do) (T := F_Do) (N := 4) hx hb hts i_Do hown hK hP (k0) mk0_0 rfl 0 (by decide) (hts _ iw_27) (fun _ h9 => h9) rfl d_Do_coordinate_1 ?_
  refine lv_iload_n hx hb d_Do_coordinate_4 rfl (lv_at hl 1 rfl) ?_
  obtain ⟨z1, hf⟩ := g_atE hf
  have lz1 := g_inLt z1
  refine hw_aald hx hb hK hP (k0 + 1) 1 gk0_1.1 rfl rfl z1 d_Do_coordinate_5 (if_pos lz1) ?_
  refine lv_iload_n hx hb d_Do_coordinate_6 rfl (lv_at hl 2 rfl) ?_
  obtain ⟨z2, hf⟩ := g_atE hf
  refine va_iald hx hb hK hP (k0 + 1 + 1 + a1.toNatClampNeg) 0 (gk0_1.2 _ (g_inLt z1)) rfl z2 d_Do_coordinate_7 ?_
  have bk0_0 : wc_Do cI cG cZ ad (k0) (x0_0, x0_1, x0_2, x0_3) w0 := ⟨mk0_0, gk0_1, mk0_32, mk0_33⟩
  have e0 := Option.some.inj hf
  exact W.iret (v := (x0_0 a1.toNatClampNeg) a2.toNatClampNeg) hx hb hr (fun t ht hW => ⟨⟨(x0_0 a1.toNatClampNeg) a2.toNatClampNeg, w0, rfl, ⟨e0, fr⟩, by rw [ht]; exact hP, hD⟩, hS.F ht⟩) hS.2.2 d_Do_coordinate_8
